/-! THE LAW: texts -/
def Cs.tx (w : Cs) (n : Nat) (ch : Nat → Nat) : Cs := (w.A, w.H, w.Sn, n, ch)
theorem oType_tx (w : Cs) {n : Nat} (ch : Nat → Nat) (z : Nat) (hn : n < 60) : oType (w.tx n ch) z = (nI (n + 1), w.tx (n + 1) (chPut ch n z)) := if_pos hn
theorem tx_n {c r rows : Nat} (hc : c < 10) (hr : r ≤ rows) (hR : rows ≤ 3) : (rows + 1) * c + r < 60 := by
  have : (rows + 1) * c ≤ 4 * 9 := Nat.mul_le_mul (by omega) (by omega)
  omega
theorem mul_c (rows c : Nat) : (rows + 1) * (c + 1) = (rows + 1) * c + rows + 1 := by
  rw [Nat.mul_succ]; omega
set_option maxRecDepth 100000 in
set_option maxHeartbeats 4000000 in
theorem w_tx_true {σ : Sto} {w x : Cs} {y : Int32} {C rows c r n : Nat} {ch dh : Nat → Nat} {Q : Option Value → Sto → Prop} (hW : W2 σ (w.tx n ch) (x.tx n dh)) (hn : n < 60)
    (K : ∀ (σ' : Sto) (x8 : Option Value), W2 σ' (w.tx (n + 1) (chPut ch n 45)) (x.tx (n + 1) (chPut dh n 43)) → PW mL_isText 0 0 Q 62 [some (.ref 0), some (.ref 114), some (.int y), some (.int (nI C)), some (.int (nI rows)), some (.int (nI 1)), some (.int (nI c)), some (.int (nI (r + 1))), x8] [] 228 σ' 0 0) :
    PW mL_isText 0 0 Q 96 [some (.ref 0), some (.ref 114), some (.int y), some (.int (nI C)), some (.int (nI rows)), some (.int (nI 1)), some (.int (nI c)), some (.int (nI r)), some (.int (nI 1))] [] 228 σ 0 0 := by
  refine P_iload (q := 98) dL_isText_96 rfl rfl ?_
  refine P_if_eq (q := 101) (tgt := 140) dL_isText_98 rfl (by decide) (fun c_98 => ?_) (fun c_98 => ?_)
  · exact absurd c_98 (by decide)
  · refine P_aload_n (q := 102) dL_isText_101 rfl rfl ?_
    refine P_iload (q := 104) dL_isText_102 rfl rfl ?_
    refine P_if_eq (q := 107) (tgt := 112) dL_isText_104 rfl (by decide) (fun c_104 => ?_) (fun c_104 => ?_)
    · exact absurd c_104 (by decide)
    · refine P_bipush (q := 109) (v := nI 45) dL_isText_107 rfl (by decide +kernel) ?_
      refine P_goto (tgt := 114) dL_isText_109 (by decide) ?_
      refine P_api (q := 117) dL_isText_114 rfl kL_65 (o_type hW (z := 45) (by decide) (oType_tx w ch 45 hn)) rfl rfl (by decide) (hW.oo) rfl ⟨by decide, by decide⟩ (Nat.le_of_ble_eq_true rfl) ?_
      intro σ1 hW1
      refine P_aload_n (q := 118) dL_isText_117 rfl rfl ?_
      refine P_iload (q := 120) dL_isText_118 rfl rfl ?_
      refine P_if_eq (q := 123) (tgt := 128) dL_isText_120 rfl (by decide) (fun c_120 => ?_) (fun c_120 => ?_)
      · exact absurd c_120 (by decide)
      · refine P_bipush (q := 125) (v := nI 43) dL_isText_123 rfl (by decide +kernel) ?_
        refine P_goto (tgt := 130) dL_isText_125 (by decide) ?_
        refine P_api (q := 133) dL_isText_130 rfl kL_65 (p_type hW1 (z := 43) (by decide) (oType_tx x dh 43 hn)) rfl rfl (by decide) (hW1.pp) rfl ⟨by decide, by decide⟩ (Nat.le_of_ble_eq_true rfl) ?_
        intro σ2 hW2
        refine P_icmp_ne (q := 136) (tgt := 140) dL_isText_133 rfl (by decide) (fun c_133 => ?_) (fun c_133 => ?_)
        · exact absurd (rfl) c_133
        · refine P_iconst (q := 137) (v := nI 1) dL_isText_136 rfl (by decide +kernel) ?_
          refine P_goto (tgt := 141) dL_isText_137 (by decide) ?_
          refine P_istore (q := 143) (L' := [_, _, _, _, _, _, _, _, _]) dL_isText_141 rfl (by decide) rfl ?_
          refine P_iinc (q := 146) (L' := [_, _, _, _, _, _, _, _, _]) (v := nI (r + 1)) dL_isText_143 rfl (by decide) rfl (nI_1 r) rfl ?_
          refine P_goto (tgt := 62) dL_isText_146 (by decide) ?_
          exact K _ _ hW2
set_option maxRecDepth 100000 in
set_option maxHeartbeats 4000000 in
theorem w_tx_false {σ : Sto} {w x : Cs} {y : Int32} {C rows c r n : Nat} {ch dh : Nat → Nat} {Q : Option Value → Sto → Prop} (hW : W2 σ (w.tx n ch) (x.tx n dh)) (hn : n < 60)
    (K : ∀ (σ' : Sto) (x8 : Option Value), W2 σ' (w.tx (n + 1) (chPut ch n 43)) (x.tx (n + 1) (chPut dh n 45)) → PW mL_isText 0 0 Q 62 [some (.ref 0), some (.ref 114), some (.int y), some (.int (nI C)), some (.int (nI rows)), some (.int (nI 1)), some (.int (nI c)), some (.int (nI (r + 1))), x8] [] 228 σ' 0 0) :
    PW mL_isText 0 0 Q 96 [some (.ref 0), some (.ref 114), some (.int y), some (.int (nI C)), some (.int (nI rows)), some (.int (nI 1)), some (.int (nI c)), some (.int (nI r)), some (.int (nI 0))] [] 228 σ 0 0 := by
  refine P_iload (q := 98) dL_isText_96 rfl rfl ?_
  refine P_if_eq (q := 101) (tgt := 140) dL_isText_98 rfl (by decide) (fun c_98 => ?_) (fun c_98 => ?_)
  · exact absurd c_98 (by decide)
  · refine P_aload_n (q := 102) dL_isText_101 rfl rfl ?_
    refine P_iload (q := 104) dL_isText_102 rfl rfl ?_
    refine P_if_eq (q := 107) (tgt := 112) dL_isText_104 rfl (by decide) (fun c_104 => ?_) (fun c_104 => ?_)
    · refine P_bipush (q := 114) (v := nI 43) dL_isText_112 rfl (by decide +kernel) ?_
      refine P_api (q := 117) dL_isText_114 rfl kL_65 (o_type hW (z := 43) (by decide) (oType_tx w ch 43 hn)) rfl rfl (by decide) (hW.oo) rfl ⟨by decide, by decide⟩ (Nat.le_of_ble_eq_true rfl) ?_
      intro σ1 hW1
      refine P_aload_n (q := 118) dL_isText_117 rfl rfl ?_
      refine P_iload (q := 120) dL_isText_118 rfl rfl ?_
      refine P_if_eq (q := 123) (tgt := 128) dL_isText_120 rfl (by decide) (fun c_120 => ?_) (fun c_120 => ?_)
      · refine P_bipush (q := 130) (v := nI 45) dL_isText_128 rfl (by decide +kernel) ?_
        refine P_api (q := 133) dL_isText_130 rfl kL_65 (p_type hW1 (z := 45) (by decide) (oType_tx x dh 45 hn)) rfl rfl (by decide) (hW1.pp) rfl ⟨by decide, by decide⟩ (Nat.le_of_ble_eq_true rfl) ?_
        intro σ2 hW2
        refine P_icmp_ne (q := 136) (tgt := 140) dL_isText_133 rfl (by decide) (fun c_133 => ?_) (fun c_133 => ?_)
        · exact absurd (rfl) c_133
        · refine P_iconst (q := 137) (v := nI 1) dL_isText_136 rfl (by decide +kernel) ?_
          refine P_goto (tgt := 141) dL_isText_137 (by decide) ?_
          refine P_istore (q := 143) (L' := [_, _, _, _, _, _, _, _, _]) dL_isText_141 rfl (by decide) rfl ?_
          refine P_iinc (q := 146) (L' := [_, _, _, _, _, _, _, _, _]) (v := nI (r + 1)) dL_isText_143 rfl (by decide) rfl (nI_1 r) rfl ?_
          refine P_goto (tgt := 62) dL_isText_146 (by decide) ?_
          exact K _ _ hW2
      · exact absurd rfl c_120
    · exact absurd rfl c_104
set_option maxRecDepth 100000 in
set_option maxHeartbeats 4000000 in
theorem w_tx_in {w x : Cs} {y : Int32} {C rows c : Nat} {Q : Option Value → Sto → Prop} (hR : rows ≤ 3) (hc : c < 10)
    (K : ∀ (σ' : Sto) (n' : Nat) (ch dh : Nat → Nat) (x8 : Option Value), W2 σ' (w.tx n' ch) (x.tx n' dh) → TI rows c rows ch dh → n' = (rows + 1) * c + rows → PW mL_isText 0 0 Q 149 [some (.ref 0), some (.ref 114), some (.int y), some (.int (nI C)), some (.int (nI rows)), some (.int (nI 1)), some (.int (nI c)), some (.int (nI rows)), x8] [] 228 σ' 0 0) :
    ∀ d r, r + d = rows → ∀ (σ : Sto) (n : Nat) (ch dh : Nat → Nat) (x8 : Option Value), W2 σ (w.tx n ch) (x.tx n dh) → TI rows c r ch dh → n = (rows + 1) * c + r → PW mL_isText 0 0 Q 62 [some (.ref 0), some (.ref 114), some (.int y), some (.int (nI C)), some (.int (nI rows)), some (.int (nI 1)), some (.int (nI c)), some (.int (nI r)), x8] [] 228 σ 0 0 := by
  intro d
  induction d with
  | zero =>
    intro r hr σ n ch dh x8 hW hT hnn
    have e : r = rows := by omega
    subst e
    refine P_iload (q := 64) dL_isText_62 rfl rfl ?_
    refine P_iload (q := 66) dL_isText_64 rfl rfl ?_
    refine P_icmp_ge (q := 69) (tgt := 149) dL_isText_66 rfl (by decide) (fun c_66 => ?_) (fun c_66 => ?_)
    · rw [nI_leI (by omega) (by omega)] at c_66
      exact K σ n ch dh x8 hW hT hnn
    · exfalso; rw [nI_leI (by omega) (by omega)] at c_66; omega
  | succ d ih =>
    intro r hr σ n ch dh x8 hW hT hnn
    have hn : n < 60 := by rw [hnn]; exact tx_n hc (by omega) hR
    refine P_iload (q := 64) dL_isText_62 rfl rfl ?_
    refine P_iload (q := 66) dL_isText_64 rfl rfl ?_
    refine P_icmp_ge (q := 69) (tgt := 149) dL_isText_66 rfl (by decide) (fun c_66 => ?_) (fun c_66 => ?_)
    · exfalso; rw [nI_leI (by omega) (by omega)] at c_66; omega
    · rw [nI_leI (by omega) (by omega)] at c_66
      refine P_iload_n (q := 70) dL_isText_69 rfl rfl ?_
      refine P_iload (q := 72) dL_isText_70 rfl rfl ?_
      refine P_iload (q := 74) dL_isText_72 rfl rfl ?_
      refine P_iadd (q := 75) dL_isText_74 rfl ?_
      refine P_ishr (q := 76) dL_isText_75 rfl ?_
      refine P_iload (q := 78) dL_isText_76 rfl rfl ?_
      refine P_iload (q := 80) dL_isText_78 rfl rfl ?_
      refine P_imul (q := 81) dL_isText_80 rfl ?_
      refine P_ixor (q := 82) dL_isText_81 rfl ?_
      refine P_iconst (q := 83) (v := nI 2) dL_isText_82 rfl (by decide +kernel) ?_
      refine P_cs1 (q := 86) dL_isText_83 rfl kL_23 (t_up _ (by decide) (by decide)) rfl rfl ⟨by decide, by decide⟩ (Nat.le_of_ble_eq_true rfl) ⟨Nat.le_refl _, Nat.le_refl _⟩ ?_
      refine P_if_ne (q := 89) (tgt := 93) dL_isText_86 rfl (by decide) (fun c_86 => ?_) (fun c_86 => ?_)
      · refine P_iconst (q := 94) (v := nI 0) dL_isText_93 rfl (by decide +kernel) ?_
        refine P_istore (q := 96) (L' := [_, _, _, _, _, _, _, _, _]) dL_isText_94 rfl (by decide) rfl ?_
        exact w_tx_false hW hn (fun σ' x8 hW' => ih (r + 1) (by omega) σ' (n + 1) _ _ x8 hW' (TI_put hT (by omega) hR false hnn) (by omega))
      · refine P_iconst (q := 90) (v := nI 1) dL_isText_89 rfl (by decide +kernel) ?_
        refine P_goto (tgt := 94) dL_isText_90 (by decide) ?_
        refine P_istore (q := 96) (L' := [_, _, _, _, _, _, _, _, _]) dL_isText_94 rfl (by decide) rfl ?_
        exact w_tx_true hW hn (fun σ' x8 hW' => ih (r + 1) (by omega) σ' (n + 1) _ _ x8 hW' (TI_put hT (by omega) hR true hnn) (by omega))
set_option maxRecDepth 100000 in
set_option maxHeartbeats 4000000 in
theorem w_tx_out {w x : Cs} {y : Int32} {C rows : Nat} {Q : Option Value → Sto → Prop} (h1 : 1 ≤ rows) (hR : rows ≤ 3) (hC : C ≤ 10)
    (K : ∀ (σ' : Sto) (n' : Nat) (ch dh : Nat → Nat) (x7 x8 : Option Value) (c : Nat), C = c + 1 → W2 σ' (w.tx n' ch) (x.tx n' dh) → TI rows c rows ch dh → n' = (rows + 1) * c + rows → PW mL_isText 0 0 Q 155 [some (.ref 0), some (.ref 114), some (.int y), some (.int (nI C)), some (.int (nI rows)), some (.int (nI 1)), some (.int (nI C)), x7, x8] [] 228 σ' 0 0) :
    ∀ d c, c + d = C → 0 < C → ∀ (σ : Sto) (n : Nat) (ch dh : Nat → Nat) (x7 x8 : Option Value), W2 σ (w.tx n ch) (x.tx n dh) → (c = 0 ∧ n = 0 ∨ ∃ c', c = c' + 1 ∧ TI rows c' rows ch dh ∧ n = (rows + 1) * c' + rows) → PW mL_isText 0 0 Q 21 [some (.ref 0), some (.ref 114), some (.int y), some (.int (nI C)), some (.int (nI rows)), some (.int (nI 1)), some (.int (nI c)), x7, x8] [] 228 σ 0 0 := by
  intro d
  induction d with
  | zero =>
    intro c hc h0 σ n ch dh x7 x8 hW hT
    have e : c = C := by omega
    subst e
    obtain ⟨c', hc', hT', hn'⟩ : ∃ c', c = c' + 1 ∧ TI rows c' rows ch dh ∧ n = (rows + 1) * c' + rows := by
      rcases hT with hT | hT
      · omega
      · exact hT
    refine P_iload (q := 23) dL_isText_21 rfl rfl ?_
    refine P_iload_n (q := 24) dL_isText_23 rfl rfl ?_
    refine P_icmp_ge (q := 27) (tgt := 155) dL_isText_24 rfl (by decide) (fun c_24 => ?_) (fun c_24 => ?_)
    · rw [nI_leI (by omega) (by omega)] at c_24
      exact K σ n ch dh x7 x8 c' hc' hW hT' hn'
    · exfalso; rw [nI_leI (by omega) (by omega)] at c_24; omega
  | succ d ih =>
    intro c hc h0 σ n ch dh x7 x8 hW hT
    have KO : ∀ (σ' : Sto) (n' : Nat) (ch dh : Nat → Nat) (x8 : Option Value), W2 σ' (w.tx n' ch) (x.tx n' dh) → TI rows c rows ch dh → n' = (rows + 1) * c + rows → PW mL_isText 0 0 Q 149 [some (.ref 0), some (.ref 114), some (.int y), some (.int (nI C)), some (.int (nI rows)), some (.int (nI 1)), some (.int (nI c)), some (.int (nI rows)), x8] [] 228 σ' 0 0 := by
      intro σ' n' ch dh x8 hW' hT' hn'
      refine P_iinc (q := 152) (L' := [_, _, _, _, _, _, _, _, _]) (v := nI (c + 1)) dL_isText_149 rfl (by decide) rfl (nI_1 c) rfl ?_
      refine P_goto (tgt := 21) dL_isText_152 (by decide) ?_
      exact ih (c + 1) (by omega) h0 σ' n' ch dh _ _ hW' (Or.inr ⟨c, rfl, hT', hn'⟩)
    rcases hT with ⟨rfl, rfl⟩ | ⟨c', rfl, hT', hn'⟩
    · refine P_iload (q := 23) dL_isText_21 rfl rfl ?_
      refine P_iload_n (q := 24) dL_isText_23 rfl rfl ?_
      refine P_icmp_ge (q := 27) (tgt := 155) dL_isText_24 rfl (by decide) (fun c_24 => ?_) (fun c_24 => ?_)
      · exfalso; rw [nI_leI (by omega) (by omega)] at c_24; omega
      · rw [nI_leI (by omega) (by omega)] at c_24
        refine P_iload (q := 29) dL_isText_27 rfl rfl ?_
        refine P_if_eq (q := 32) (tgt := 56) dL_isText_29 rfl (by decide) (fun c_29 => ?_) (fun c_29 => ?_)
        · exact absurd c_29 (by decide)
        · refine P_iload (q := 34) dL_isText_32 rfl rfl ?_
          refine P_if_eq (q := 37) (tgt := 52) dL_isText_34 rfl (by decide) (fun c_34 => ?_) (fun c_34 => ?_)
          · refine P_iconst (q := 53) (v := nI 1) dL_isText_52 rfl (by decide +kernel) ?_
            refine P_goto (tgt := 57) dL_isText_53 (by decide) ?_
            refine P_istore (q := 59) (L' := [_, _, _, _, _, _, _, _, _]) dL_isText_57 rfl (by decide) rfl ?_
            refine P_iconst (q := 60) (v := nI 0) dL_isText_59 rfl (by decide +kernel) ?_
            refine P_istore (q := 62) (L' := [_, _, _, _, _, _, _, _, _]) dL_isText_60 rfl (by decide) rfl ?_
            exact w_tx_in hR (by omega) (fun σ' n' ch' dh' x8 hW' hT' hn' => KO σ' n' ch' dh' x8 hW' hT' hn') rows 0 (by omega) _ _ _ _ _ hW (TI_0 rows ch dh) (by omega)
          · exact absurd rfl c_34
    · have hn6 : n < 60 := by rw [hn']; exact tx_n (by omega) (Nat.le_refl _) hR
      refine P_iload (q := 23) dL_isText_21 rfl rfl ?_
      refine P_iload_n (q := 24) dL_isText_23 rfl rfl ?_
      refine P_icmp_ge (q := 27) (tgt := 155) dL_isText_24 rfl (by decide) (fun c_24 => ?_) (fun c_24 => ?_)
      · exfalso; rw [nI_leI (by omega) (by omega)] at c_24; omega
      · rw [nI_leI (by omega) (by omega)] at c_24
        refine P_iload (q := 29) dL_isText_27 rfl rfl ?_
        refine P_if_eq (q := 32) (tgt := 56) dL_isText_29 rfl (by decide) (fun c_29 => ?_) (fun c_29 => ?_)
        · exact absurd c_29 (by decide)
        · refine P_iload (q := 34) dL_isText_32 rfl rfl ?_
          refine P_if_eq (q := 37) (tgt := 52) dL_isText_34 rfl (by decide) (fun c_34 => ?_) (fun c_34 => ?_)
          · exfalso; rw [show (0 : Int32) = nI 0 from rfl, nI_eq (by omega) (by omega)] at c_34; omega
          · refine P_aload_n (q := 38) dL_isText_37 rfl rfl ?_
            refine P_bipush (q := 40) (v := nI 44) dL_isText_38 rfl (by decide +kernel) ?_
            refine P_api (q := 43) dL_isText_40 rfl kL_65 (o_type hW (z := 44) (by decide) (oType_tx w ch 44 hn6)) rfl rfl (by decide) (hW.oo) rfl ⟨by decide, by decide⟩ (Nat.le_of_ble_eq_true rfl) ?_
            intro σ1 hW1
            refine P_aload_n (q := 44) dL_isText_43 rfl rfl ?_
            refine P_bipush (q := 46) (v := nI 44) dL_isText_44 rfl (by decide +kernel) ?_
            refine P_api (q := 49) dL_isText_46 rfl kL_65 (p_type hW1 (z := 44) (by decide) (oType_tx x dh 44 hn6)) rfl rfl (by decide) (hW1.pp) rfl ⟨by decide, by decide⟩ (Nat.le_of_ble_eq_true rfl) ?_
            intro σ2 hW2
            refine P_icmp_ne (q := 52) (tgt := 56) dL_isText_49 rfl (by decide) (fun c_49 => ?_) (fun c_49 => ?_)
            · exact absurd (rfl) c_49
            · refine P_iconst (q := 53) (v := nI 1) dL_isText_52 rfl (by decide +kernel) ?_
              refine P_goto (tgt := 57) dL_isText_53 (by decide) ?_
              refine P_istore (q := 59) (L' := [_, _, _, _, _, _, _, _, _]) dL_isText_57 rfl (by decide) rfl ?_
              refine P_iconst (q := 60) (v := nI 0) dL_isText_59 rfl (by decide +kernel) ?_
              refine P_istore (q := 62) (L' := [_, _, _, _, _, _, _, _, _]) dL_isText_60 rfl (by decide) rfl ?_
              exact w_tx_in hR (by omega) (fun σ' n' ch' dh' x8 hW' hT' hn' => KO σ' n' ch' dh' x8 hW' hT' hn') rows 0 (by omega) _ _ _ _ _ hW2 (TI_comma hT' h1 (by omega) hn') (by have := mul_c rows c'; omega)
theorem oRead_l {w : Cs} {n i : Nat} {ch : Nat → Nat} (h : prs ch n 0 (1, 0, 0, 0) = .inl i) : oRead (w.tx n ch) = (iI (-1100 - (i : Int)), w.tx n ch) := by
  unfold oRead
  show (match prs ch n 0 (1, 0, 0, 0) with
    | .inl i => (iI (-1100 - (i : Int)), w.tx n ch)
    | .inr s => (nI (s.k * s.r), (w.tx n ch).to (rdS (w.tx n ch).A s))) = _
  rw [h]
theorem oRead_r {w : Cs} {n : Nat} {ch : Nat → Nat} {s : Ps} (h : prs ch n 0 (1, 0, 0, 0) = .inr s) : oRead (w.tx n ch) = (nI (s.k * s.r), (w.tx n ch).to (rdS (w.tx n ch).A s)) := by
  unfold oRead
  show (match prs ch n 0 (1, 0, 0, 0) with
    | .inl i => (iI (-1100 - (i : Int)), w.tx n ch)
    | .inr s => (nI (s.k * s.r), (w.tx n ch).to (rdS (w.tx n ch).A s))) = _
  rw [h]
theorem sub_nI (z : Int) (n : Nat) : iI z - nI n = iI (z - n) := by rw [iI_nI, iI_sub]
set_option maxRecDepth 100000 in
set_option maxHeartbeats 4000000 in
theorem w_tx_e0 {σ : Sto} {w x : Cs} {y : Int32} {C rows c n : Nat} {ch dh : Nat → Nat} {x7 x8 : Option Value} (h : Rel w x) (h1 : 1 ≤ rows) (hR : rows ≤ 3) (hC : C ≤ 10) (hc : C = c + 1) (hW : W2 σ (w.tx n ch) (x.tx n dh)) (hT : TI rows c rows ch dh) (hn : n = (rows + 1) * c + rows) : PW mL_isText 0 0 LQ 175 [some (.ref 0), some (.ref 114), some (.int y), some (.int (nI C)), some (.int (nI rows)), some (.int (nI 1)), some (.int (nI 0)), x7, x8] [] 228 σ 0 0 := by
  obtain ⟨s, t, p1, p2, q1, q2, q3, q4, q5⟩ := TI_read hT h1 hR hn
  have e1 := oRead_r (w := w) p1
  have e2 := oRead_r (w := x) p2
  rw [q1, q2, ← hc] at e1
  rw [q3, q4, ← hc] at e2
  refine P_iload (q := 177) dL_isText_175 rfl rfl ?_
  refine P_if_eq (q := 180) (tgt := 204) dL_isText_177 rfl (by decide) (fun c_177 => ?_) (fun c_177 => ?_)
  · exact absurd c_177 (by decide)
  · refine P_iload (q := 182) dL_isText_180 rfl rfl ?_
    refine P_if_eq (q := 185) (tgt := 200) dL_isText_182 rfl (by decide) (fun c_182 => ?_) (fun c_182 => ?_)
    · refine P_iconst (q := 201) (v := nI 1) dL_isText_200 rfl (by decide +kernel) ?_
      refine P_goto (tgt := 205) dL_isText_201 (by decide) ?_
      refine P_istore (q := 207) (L' := [_, _, _, _, _, _, _, _, _]) dL_isText_205 rfl (by decide) rfl ?_
      refine P_aload_n (q := 208) dL_isText_207 rfl rfl ?_
      refine P_api (q := 211) dL_isText_208 rfl kL_69 (o_read hW e1) rfl rfl (by decide) (hW.oo) rfl ⟨by decide, by decide⟩ (Nat.le_of_ble_eq_true rfl) ?_
      intro σ1 hW1
      refine P_istore (q := 213) (L' := [_, _, _, _, _, _, _, _, _]) dL_isText_211 rfl (by decide) rfl ?_
      refine P_iload (q := 215) dL_isText_213 rfl rfl ?_
      refine P_if_eq (q := 218) (tgt := 279) dL_isText_215 rfl (by decide) (fun c_215 => ?_) (fun c_215 => ?_)
      · exact absurd c_215 (by decide)
      · refine P_iload (q := 220) dL_isText_218 rfl rfl ?_
        refine P_aload_n (q := 221) dL_isText_220 rfl rfl ?_
        refine P_api (q := 224) dL_isText_221 rfl kL_69 (p_read hW1 e2) rfl rfl (by decide) (hW1.pp) rfl ⟨by decide, by decide⟩ (Nat.le_of_ble_eq_true rfl) ?_
        intro σ2 hW2
        refine P_icmp_ne (q := 227) (tgt := 279) dL_isText_224 rfl (by decide) (fun c_224 => ?_) (fun c_224 => ?_)
        · exact absurd (rfl) c_224
        · refine P_iload (q := 229) dL_isText_227 rfl rfl ?_
          refine P_iload (q := 231) dL_isText_229 rfl rfl ?_
          refine P_if_eq (q := 234) (tgt := 268) dL_isText_231 rfl (by decide) (fun c_231 => ?_) (fun c_231 => ?_)
          · refine P_iload_n (q := 269) dL_isText_268 rfl rfl ?_
            refine P_iload (q := 271) dL_isText_269 rfl rfl ?_
            refine P_imul (q := 272) dL_isText_271 rfl ?_
            rw [pk_mul]
            refine P_icmp_ne (q := 275) (tgt := 279) dL_isText_272 rfl (by decide) (fun c_272 => ?_) (fun c_272 => ?_)
            · exact absurd (rfl) c_272
            · refine P_iconst (q := 276) (v := nI 1) dL_isText_275 rfl (by decide +kernel) ?_
              refine P_goto (tgt := 280) dL_isText_276 (by decide) ?_
              refine P_iret dL_isText_280 rfl (rfl) ?_
              exact ⟨rfl, _, _, hW2, q5 w.A x.A h.1.1.2.2.1 h.1.1.2.2.2.1 h.1.1.2.2.2.2, h.2.1, rfl⟩
          · exact absurd rfl c_231
    · exact absurd rfl c_182
set_option maxRecDepth 100000 in
set_option maxHeartbeats 4000000 in
theorem w_tx_e1 {σ : Sto} {w x : Cs} {y : Int32} {C rows c n : Nat} {ch dh : Nat → Nat} {x7 x8 : Option Value} (h : Rel w x) (h1 : 1 ≤ rows) (hR : rows ≤ 3) (hC : C ≤ 10) (hc : C = c + 1) (hW : W2 σ (w.tx n ch) (x.tx n dh)) (hT : TI rows c rows ch dh) (hn : n = (rows + 1) * c + rows) (h9 : C ≠ 10) : PW mL_isText 0 0 LQ 175 [some (.ref 0), some (.ref 114), some (.int y), some (.int (nI C)), some (.int (nI rows)), some (.int (nI 1)), some (.int (nI 1)), x7, x8] [] 228 σ 0 0 := by
  have hn6 : n < 60 := by rw [hn]; exact tx_n (by omega) (Nat.le_refl _) hR
  have en : n + 1 = C * rows + C := by rw [hn, hc, Nat.add_mul, Nat.add_mul, Nat.mul_comm c rows]; omega
  obtain ⟨p1, p2⟩ := TI_cut (TI_comma hT h1 (show c + 1 < 10 by omega) hn) h1 (show n + 1 = (rows + 1) * (c + 1) by rw [hn, mul_c])
  have e1 := oRead_l (w := w) p1
  have e2 := oRead_l (w := x) p2
  rw [show ((n + 1 : Nat) : Int) = ((C * rows + C : Nat) : Int) by rw [en]] at e1 e2
  refine P_iload (q := 177) dL_isText_175 rfl rfl ?_
  refine P_if_eq (q := 180) (tgt := 204) dL_isText_177 rfl (by decide) (fun c_177 => ?_) (fun c_177 => ?_)
  · exact absurd c_177 (by decide)
  · refine P_iload (q := 182) dL_isText_180 rfl rfl ?_
    refine P_if_eq (q := 185) (tgt := 200) dL_isText_182 rfl (by decide) (fun c_182 => ?_) (fun c_182 => ?_)
    · exact absurd c_182 (by decide)
    · refine P_aload_n (q := 186) dL_isText_185 rfl rfl ?_
      refine P_bipush (q := 188) (v := nI 44) dL_isText_186 rfl (by decide +kernel) ?_
      refine P_api (q := 191) dL_isText_188 rfl kL_65 (o_type hW (z := 44) (by decide) (oType_tx w ch 44 hn6)) rfl rfl (by decide) (hW.oo) rfl ⟨by decide, by decide⟩ (Nat.le_of_ble_eq_true rfl) ?_
      intro σ1 hW1
      refine P_aload_n (q := 192) dL_isText_191 rfl rfl ?_
      refine P_bipush (q := 194) (v := nI 44) dL_isText_192 rfl (by decide +kernel) ?_
      refine P_api (q := 197) dL_isText_194 rfl kL_65 (p_type hW1 (z := 44) (by decide) (oType_tx x dh 44 hn6)) rfl rfl (by decide) (hW1.pp) rfl ⟨by decide, by decide⟩ (Nat.le_of_ble_eq_true rfl) ?_
      intro σ2 hW2
      refine P_icmp_ne (q := 200) (tgt := 204) dL_isText_197 rfl (by decide) (fun c_197 => ?_) (fun c_197 => ?_)
      · exact absurd (rfl) c_197
      · refine P_iconst (q := 201) (v := nI 1) dL_isText_200 rfl (by decide +kernel) ?_
        refine P_goto (tgt := 205) dL_isText_201 (by decide) ?_
        refine P_istore (q := 207) (L' := [_, _, _, _, _, _, _, _, _]) dL_isText_205 rfl (by decide) rfl ?_
        refine P_aload_n (q := 208) dL_isText_207 rfl rfl ?_
        refine P_api (q := 211) dL_isText_208 rfl kL_69 (o_read hW2 e1) rfl rfl (by decide) (hW2.oo) rfl ⟨by decide, by decide⟩ (Nat.le_of_ble_eq_true rfl) ?_
        intro σ3 hW3
        refine P_istore (q := 213) (L' := [_, _, _, _, _, _, _, _, _]) dL_isText_211 rfl (by decide) rfl ?_
        refine P_iload (q := 215) dL_isText_213 rfl rfl ?_
        refine P_if_eq (q := 218) (tgt := 279) dL_isText_215 rfl (by decide) (fun c_215 => ?_) (fun c_215 => ?_)
        · exact absurd c_215 (by decide)
        · refine P_iload (q := 220) dL_isText_218 rfl rfl ?_
          refine P_aload_n (q := 221) dL_isText_220 rfl rfl ?_
          refine P_api (q := 224) dL_isText_221 rfl kL_69 (p_read hW3 e2) rfl rfl (by decide) (hW3.pp) rfl ⟨by decide, by decide⟩ (Nat.le_of_ble_eq_true rfl) ?_
          intro σ4 hW4
          refine P_icmp_ne (q := 227) (tgt := 279) dL_isText_224 rfl (by decide) (fun c_224 => ?_) (fun c_224 => ?_)
          · exact absurd (rfl) c_224
          · refine P_iload (q := 229) dL_isText_227 rfl rfl ?_
            refine P_iload (q := 231) dL_isText_229 rfl rfl ?_
            refine P_if_eq (q := 234) (tgt := 268) dL_isText_231 rfl (by decide) (fun c_231 => ?_) (fun c_231 => ?_)
            · exact absurd c_231 (by decide)
            · refine P_iload_n (q := 235) dL_isText_234 rfl rfl ?_
              refine P_bipush (q := 237) (v := nI 10) dL_isText_235 rfl (by decide +kernel) ?_
              refine P_icmp_ne (q := 240) (tgt := 255) dL_isText_237 rfl (by decide) (fun c_237 => ?_) (fun c_237 => ?_)
              · refine P_sipush (q := 258) (v := iI (-1100)) dL_isText_255 rfl (by decide +kernel) ?_
                refine P_iload_n (q := 259) dL_isText_258 rfl rfl ?_
                refine P_iload (q := 261) dL_isText_259 rfl rfl ?_
                refine P_imul (q := 262) dL_isText_261 rfl ?_
                rw [pk_mul]
                refine P_iload_n (q := 263) dL_isText_262 rfl rfl ?_
                refine P_iadd (q := 264) dL_isText_263 rfl ?_
                rw [nI_add]
                refine P_isub (q := 265) dL_isText_264 rfl ?_
                rw [sub_nI]
                refine P_goto (tgt := 272) dL_isText_265 (by decide) ?_
                refine P_icmp_ne (q := 275) (tgt := 279) dL_isText_272 rfl (by decide) (fun c_272 => ?_) (fun c_272 => ?_)
                · exact absurd (rfl) c_272
                · refine P_iconst (q := 276) (v := nI 1) dL_isText_275 rfl (by decide +kernel) ?_
                  refine P_goto (tgt := 280) dL_isText_276 (by decide) ?_
                  refine P_iret dL_isText_280 rfl (rfl) ?_
                  exact ⟨rfl, _, _, hW4, h.1, h.2.1, rfl⟩
              · exfalso; rw [nI_eq (by omega) (by omega)] at c_237; omega
set_option maxRecDepth 100000 in
set_option maxHeartbeats 4000000 in
theorem w_tx_e2 {σ : Sto} {w x : Cs} {y : Int32} {C rows c n : Nat} {ch dh : Nat → Nat} {x7 x8 : Option Value} (h : Rel w x) (h1 : 1 ≤ rows) (hR : rows ≤ 3) (hC : C = 10) (hc : c = 9) (hW : W2 σ (w.tx n ch) (x.tx n dh)) (hT : TI rows c rows ch dh) (hn : n = (rows + 1) * c + rows) : PW mL_isText 0 0 LQ 175 [some (.ref 0), some (.ref 114), some (.int y), some (.int (nI C)), some (.int (nI rows)), some (.int (nI 1)), some (.int (nI 1)), x7, x8] [] 228 σ 0 0 := by
  subst hC
  subst hc
  have hn6 : n < 60 := by rw [hn]; exact tx_n (by omega) (Nat.le_refl _) hR
  have en : n = 10 * rows + 9 := by omega
  obtain ⟨p1, p2⟩ := TI_cut10 hT hn
  have e1 := oRead_l (w := w) p1
  have e2 := oRead_l (w := x) p2
  rw [show ((n : Nat) : Int) = ((10 * rows + 9 : Nat) : Int) by rw [en]] at e1 e2
  refine P_iload (q := 177) dL_isText_175 rfl rfl ?_
  refine P_if_eq (q := 180) (tgt := 204) dL_isText_177 rfl (by decide) (fun c_177 => ?_) (fun c_177 => ?_)
  · exact absurd c_177 (by decide)
  · refine P_iload (q := 182) dL_isText_180 rfl rfl ?_
    refine P_if_eq (q := 185) (tgt := 200) dL_isText_182 rfl (by decide) (fun c_182 => ?_) (fun c_182 => ?_)
    · exact absurd c_182 (by decide)
    · refine P_aload_n (q := 186) dL_isText_185 rfl rfl ?_
      refine P_bipush (q := 188) (v := nI 44) dL_isText_186 rfl (by decide +kernel) ?_
      refine P_api (q := 191) dL_isText_188 rfl kL_65 (o_type hW (z := 44) (by decide) (oType_tx w ch 44 hn6)) rfl rfl (by decide) (hW.oo) rfl ⟨by decide, by decide⟩ (Nat.le_of_ble_eq_true rfl) ?_
      intro σ1 hW1
      refine P_aload_n (q := 192) dL_isText_191 rfl rfl ?_
      refine P_bipush (q := 194) (v := nI 44) dL_isText_192 rfl (by decide +kernel) ?_
      refine P_api (q := 197) dL_isText_194 rfl kL_65 (p_type hW1 (z := 44) (by decide) (oType_tx x dh 44 hn6)) rfl rfl (by decide) (hW1.pp) rfl ⟨by decide, by decide⟩ (Nat.le_of_ble_eq_true rfl) ?_
      intro σ2 hW2
      refine P_icmp_ne (q := 200) (tgt := 204) dL_isText_197 rfl (by decide) (fun c_197 => ?_) (fun c_197 => ?_)
      · exact absurd (rfl) c_197
      · refine P_iconst (q := 201) (v := nI 1) dL_isText_200 rfl (by decide +kernel) ?_
        refine P_goto (tgt := 205) dL_isText_201 (by decide) ?_
        refine P_istore (q := 207) (L' := [_, _, _, _, _, _, _, _, _]) dL_isText_205 rfl (by decide) rfl ?_
        refine P_aload_n (q := 208) dL_isText_207 rfl rfl ?_
        refine P_api (q := 211) dL_isText_208 rfl kL_69 (o_read hW2 e1) rfl rfl (by decide) (hW2.oo) rfl ⟨by decide, by decide⟩ (Nat.le_of_ble_eq_true rfl) ?_
        intro σ3 hW3
        refine P_istore (q := 213) (L' := [_, _, _, _, _, _, _, _, _]) dL_isText_211 rfl (by decide) rfl ?_
        refine P_iload (q := 215) dL_isText_213 rfl rfl ?_
        refine P_if_eq (q := 218) (tgt := 279) dL_isText_215 rfl (by decide) (fun c_215 => ?_) (fun c_215 => ?_)
        · exact absurd c_215 (by decide)
        · refine P_iload (q := 220) dL_isText_218 rfl rfl ?_
          refine P_aload_n (q := 221) dL_isText_220 rfl rfl ?_
          refine P_api (q := 224) dL_isText_221 rfl kL_69 (p_read hW3 e2) rfl rfl (by decide) (hW3.pp) rfl ⟨by decide, by decide⟩ (Nat.le_of_ble_eq_true rfl) ?_
          intro σ4 hW4
          refine P_icmp_ne (q := 227) (tgt := 279) dL_isText_224 rfl (by decide) (fun c_224 => ?_) (fun c_224 => ?_)
          · exact absurd (rfl) c_224
          · refine P_iload (q := 229) dL_isText_227 rfl rfl ?_
            refine P_iload (q := 231) dL_isText_229 rfl rfl ?_
            refine P_if_eq (q := 234) (tgt := 268) dL_isText_231 rfl (by decide) (fun c_231 => ?_) (fun c_231 => ?_)
            · exact absurd c_231 (by decide)
            · refine P_iload_n (q := 235) dL_isText_234 rfl rfl ?_
              refine P_bipush (q := 237) (v := nI 10) dL_isText_235 rfl (by decide +kernel) ?_
              refine P_icmp_ne (q := 240) (tgt := 255) dL_isText_237 rfl (by decide) (fun c_237 => ?_) (fun c_237 => ?_)
              · exact absurd (rfl) c_237
              · refine P_sipush (q := 243) (v := iI (-1100)) dL_isText_240 rfl (by decide +kernel) ?_
                refine P_bipush (q := 245) (v := nI 10) dL_isText_243 rfl (by decide +kernel) ?_
                refine P_iload (q := 247) dL_isText_245 rfl rfl ?_
                refine P_imul (q := 248) dL_isText_247 rfl ?_
                rw [pk_mul]
                refine P_bipush (q := 250) (v := nI 9) dL_isText_248 rfl (by decide +kernel) ?_
                refine P_iadd (q := 251) dL_isText_250 rfl ?_
                rw [nI_add]
                refine P_isub (q := 252) dL_isText_251 rfl ?_
                rw [sub_nI]
                refine P_goto (tgt := 272) dL_isText_252 (by decide) ?_
                refine P_icmp_ne (q := 275) (tgt := 279) dL_isText_272 rfl (by decide) (fun c_272 => ?_) (fun c_272 => ?_)
                · exact absurd (rfl) c_272
                · refine P_iconst (q := 276) (v := nI 1) dL_isText_275 rfl (by decide +kernel) ?_
                  refine P_goto (tgt := 280) dL_isText_276 (by decide) ?_
                  refine P_iret dL_isText_280 rfl (rfl) ?_
                  exact ⟨rfl, _, _, hW4, h.1, h.2.1, rfl⟩
set_option maxRecDepth 100000 in
set_option maxHeartbeats 4000000 in
theorem t_isText {σ : Sto} {w x : Cs} (hW : W2 σ w x) (h : Rel w x) (y : Int32) {C rows : Nat} (h0 : 0 < C) (hC : C ≤ 10) (h1 : 1 ≤ rows) (hR : rows ≤ 3) : CP mL_isText 0 0 [.ref 0, .ref 114, .int y, .int (nI C), .int (nI rows)] 228 σ LQ := by
  have K : ∀ (σ' : Sto) (n' : Nat) (ch dh : Nat → Nat) (x7 x8 : Option Value) (c : Nat), C = c + 1 → W2 σ' (w.tx n' ch) (x.tx n' dh) → TI rows c rows ch dh → n' = (rows + 1) * c + rows → PW mL_isText 0 0 LQ 155 [some (.ref 0), some (.ref 114), some (.int y), some (.int (nI C)), some (.int (nI rows)), some (.int (nI 1)), some (.int (nI C)), x7, x8] [] 228 σ' 0 0 := by
    intro σ' n' ch dh x7 x8 c' hc' hW' hT' hn'
    refine P_iload_n (q := 156) dL_isText_155 rfl rfl ?_
    refine P_iconst (q := 157) (v := nI 4) dL_isText_156 rfl (by decide +kernel) ?_
    refine P_cs1 (q := 160) dL_isText_157 rfl kL_23 (t_up y (by decide) (by decide)) rfl rfl ⟨by decide, by decide⟩ (Nat.le_of_ble_eq_true rfl) ⟨Nat.le_refl _, Nat.le_refl _⟩ ?_
    refine P_if_ne (q := 163) (tgt := 172) dL_isText_160 rfl (by decide) (fun c_160 => ?_) (fun c_160 => ?_)
    · refine P_iconst (q := 173) (v := nI 0) dL_isText_172 rfl (by decide +kernel) ?_
      refine P_istore (q := 175) (L' := [_, _, _, _, _, _, _, _, _]) dL_isText_173 rfl (by decide) rfl ?_
      exact w_tx_e0 h h1 hR hC hc' hW' hT' hn'
    · refine P_iload_n (q := 164) dL_isText_163 rfl rfl ?_
      refine P_iconst (q := 165) (v := nI 1) dL_isText_164 rfl (by decide +kernel) ?_
      refine P_icmp_le (q := 168) (tgt := 172) dL_isText_165 rfl (by decide) (fun c_165 => ?_) (fun c_165 => ?_)
      · rw [nI_leI (by omega) (by omega)] at c_165
        refine P_iconst (q := 173) (v := nI 0) dL_isText_172 rfl (by decide +kernel) ?_
        refine P_istore (q := 175) (L' := [_, _, _, _, _, _, _, _, _]) dL_isText_173 rfl (by decide) rfl ?_
        exact w_tx_e0 h h1 hR hC hc' hW' hT' hn'
      · rw [nI_leI (by omega) (by omega)] at c_165
        refine P_iconst (q := 169) (v := nI 1) dL_isText_168 rfl (by decide +kernel) ?_
        refine P_goto (tgt := 173) dL_isText_169 (by decide) ?_
        refine P_istore (q := 175) (L' := [_, _, _, _, _, _, _, _, _]) dL_isText_173 rfl (by decide) rfl ?_
        by_cases h9 : C = 10
        · exact w_tx_e2 h h1 hR h9 (by omega) hW' hT' hn'
        · exact w_tx_e1 h h1 hR hC hc' hW' hT' hn' h9
  have e1 : oClear w = (nI w.n, w.tx 0 w.ch) := rfl
  have e2 : oClear x = (nI w.n, x.tx 0 x.ch) := by rw [← h.2.2]; rfl
  refine CP_of (by decide +kernel) (Nat.le_of_ble_eq_true rfl) ?_
  change PW _ _ _ _ 0 [_, _, _, _, _, _, _, _, _] [] _ _ _ _
  refine P_aload_n (q := 1) dL_isText_0 rfl rfl ?_
  refine P_api (q := 4) dL_isText_1 rfl kL_61 (o_clear hW e1) rfl rfl (by decide) (hW.oo) rfl ⟨by decide, by decide⟩ (Nat.le_of_ble_eq_true rfl) ?_
  intro σ1 hW1
  refine P_aload_n (q := 5) dL_isText_4 rfl rfl ?_
  refine P_api (q := 8) dL_isText_5 rfl kL_61 (p_clear hW1 e2) rfl rfl (by decide) (hW1.pp) rfl ⟨by decide, by decide⟩ (Nat.le_of_ble_eq_true rfl) ?_
  intro σ2 hW2
  refine P_icmp_ne (q := 11) (tgt := 15) dL_isText_8 rfl (by decide) (fun c_8 => ?_) (fun c_8 => ?_)
  · exact absurd (rfl) c_8
  · refine P_iconst (q := 12) (v := nI 1) dL_isText_11 rfl (by decide +kernel) ?_
    refine P_goto (tgt := 16) dL_isText_12 (by decide) ?_
    refine P_istore (q := 18) (L' := [_, _, _, _, _, _, _, _, _]) dL_isText_16 rfl (by decide) rfl ?_
    refine P_iconst (q := 19) (v := nI 0) dL_isText_18 rfl (by decide +kernel) ?_
    refine P_istore (q := 21) (L' := [_, _, _, _, _, _, _, _, _]) dL_isText_19 rfl (by decide) rfl ?_
    exact w_tx_out h1 hR hC K C 0 (by omega) h0 _ _ _ _ _ _ hW2 (Or.inl ⟨rfl, rfl⟩)
