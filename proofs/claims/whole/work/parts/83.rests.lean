/-! THE REFERENCE: rests -/
def RR (σ : Sto) (A : St) (f : Nat) (P : Nat → Nat → Prop) : Prop := ∃ g : Nat → Int32, σ 128 = pI .int 80 g ∧ ∀ c s, c < A.C → s < 2 ^ A.R → P c s → g (8 * c + s) = iI (A.rs f c s)
theorem RR.imp {σ : Sto} {A : St} {f : Nat} {P P' : Nat → Nat → Prop} (h : RR σ A f P) (hp : ∀ c s, c < A.C → s < 2 ^ A.R → P' c s → P c s) : RR σ A f P' := by
  obtain ⟨g, h1, h2⟩ := h
  exact ⟨g, h1, fun c s hc hs q => h2 c s hc hs (hp c s hc hs q)⟩
theorem RR_set {σ : Sto} {A : St} {f c0 s0 : Nat} {P P' : Nat → Nat → Prop} {g : Nat → Int32} (h8 : 2 ^ A.R ≤ 8) (h : ∀ c s, c < A.C → s < 2 ^ A.R → P c s → g (8 * c + s) = iI (A.rs f c s)) (hs0 : s0 < 2 ^ A.R) (hp : ∀ c s, P' c s → (c = c0 ∧ s = s0) ∨ P c s) : RR (va_up σ 128 (pI .int 80 (upd g (8 * c0 + s0) (iI (A.rs f c0 s0))))) A f P' := by
  refine ⟨_, up_at _ _ _, fun c s hc hs q => ?_⟩
  unfold upd
  by_cases e : c = c0 ∧ s = s0
  · rw [if_pos (by omega), e.1, e.2]
  · rw [if_neg (by omega)]
    exact h c s hc hs ((hp c s q).resolve_left e)
def St.bst (A : St) (f c s j : Nat) : Int := if j = 0 then 1000000 else 2 * (mnN ((A.md false).cn f c s) (j - 1) : Int) - (A.eta c - (A.rhoC c : Int))
theorem bst_s (A : St) (f c s j : Nat) (h : -1000 ≤ A.eta c - (A.rhoC c : Int)) (h2 : (A.md false).cn f c s j ≤ 5000) : A.bst f c s (j + 1) = if 2 * ((A.md false).cn f c s j : Int) - (A.eta c - (A.rhoC c : Int)) < A.bst f c s j then 2 * ((A.md false).cn f c s j : Int) - (A.eta c - (A.rhoC c : Int)) else A.bst f c s j := by
  unfold St.bst
  rw [if_neg (Nat.succ_ne_zero j), Nat.add_sub_cancel]
  cases j with
  | zero =>
    rw [if_pos rfl, if_pos (by omega)]; rfl
  | succ j =>
    rw [if_neg (Nat.succ_ne_zero j), Nat.add_sub_cancel, mnN]
    split <;> omega
set_option maxRecDepth 100000 in
set_option maxHeartbeats 4000000 in
theorem w_rt {σ0 : Sto} {A : St} {f : Nat} (hM : MO σ0) (hX : XA σ0 A) (hf : f < 2 ^ A.R)  {c s : Nat} (hc : c + 1 < A.C) (hs : s < 2 ^ A.R) {σ : Sto} (hs' : same σ0 σ (fun i => i = 128)) (hG : RR σ A f (fun i j => c < i ∨ (i = c ∧ j < s))) {QQ : Option Value → Sto → Prop} (K : ∀ x6 x7 : Option Value, PW mX8_rests 0 0 QQ 123 [some (.ref 114), some (.int (nI f)), some (.int (nI (A.C - 1))), some (.int (nI c)), some (.int (nI s)), some (.int (iI (A.bst f c s (2 ^ A.R)))), x6, x7] [] 132 σ 0 0) : ∀ n t, t + n = 2 ^ A.R → ∀ x7 : Option Value, PW mX8_rests 0 0 QQ 61 [some (.ref 114), some (.int (nI f)), some (.int (nI (A.C - 1))), some (.int (nI c)), some (.int (nI s)), some (.int (iI (A.bst f c s t))), some (.int (nI t)), x7] [] 132 σ 0 0 := by
  have hA := hX.1
  have hC := hA.1
  have hR := hA.2.1
  have h8 := pow8 hR.2
  have hK := Nat.two_pow_pos A.R
  have hm := St.md_ok hA false
  have hMs : ∀ σ, same σ0 σ (fun i => i = 128) → MO σ := fun σ s => by
    obtain ⟨a1, a2, a3, a4, a5, a6, a7, h⟩ := hM
    exact ⟨a1, a2, a3, a4, a5, a6, a7, (s 114 (by omega)).trans h⟩
  have hXs : ∀ σ, same σ0 σ (fun i => i = 128) → XA σ A := fun σ s => by
    obtain ⟨-, g, h, hR⟩ := hX
    exact ⟨hA, g, (s 115 (by omega)).trans h, hR⟩
  obtain ⟨a1, a2, a3, a4, a5, a6, a7, h0⟩ := hMs σ hs'
  have hst := m_states (hMs σ hs') (hXs σ hs')
  obtain ⟨g, h128, hg⟩ := hG
  have heb := eta_b hA c (by omega)
  have hrb := rhoC_b hA c
  have hcn : ∀ t, t < 2 ^ A.R → (A.md false).cn f c s t ≤ 4400 := fun t ht => Md.cn_le hm hf hc hs ht
  have hbb : ∀ j, j ≤ 2 ^ A.R → -1000 ≤ A.bst f c s j ∧ A.bst f c s j ≤ 1000000 := fun j hj => by
    unfold St.bst
    split
    · omega
    · have := Md.mn_le hm (f := f) (c := c) (k := s) (j := j - 1) hf hc hs
      omega
  intro n
  induction n with
  | zero =>
    intro t ht x7
    have e : t = 2 ^ A.R := by omega
    subst e
    refine P_iload (q := 63) dX8_rests_61 rfl rfl ?_
    refine P_aload_n (q := 64) dX8_rests_63 rfl rfl ?_
    refine P_cv1 (q := 67) dX8_rests_64 rfl kX8_112 (hst) rfl rfl (by decide) (h0) rfl ⟨by decide, by decide⟩ (Nat.le_of_ble_eq_true rfl) ⟨Nat.le_refl _, Nat.le_refl _⟩ ?_
    refine P_icmp_ge (q := 70) (tgt := 123) dX8_rests_67 rfl (by decide) (fun c_67 => ?_) (fun c_67 => ?_)
    · rw [nI_leI (by omega) (by omega)] at c_67
      exact K _ _
    · exfalso; rw [nI_leI (by omega) (by omega)] at c_67; omega
  | succ n ih =>
    intro t ht x7
    have hlk := m_lnkw (hMs σ hs') (hXs σ hs') false (k := s) (t := t) (by omega) (by omega)
    have hr := hg (c + 1) t hc (by omega) (Or.inl (Nat.lt_succ_self c))
    have hcnt := hcn t (by omega)
    have hb := hbb t (by omega)
    have hnx := bst_s A f c s t (by omega) (by omega)
    have hrc := rs_cn hA (f := f) (c := c) hs (show t < 2 ^ A.R by omega)
    generalize 2 * ((A.md false).cn f c s t : Int) - (A.eta c - (A.rhoC c : Int)) = its at hnx hrc
    have hib : -2000 ≤ its ∧ its ≤ 20000 := by
      have e : its = 2 * ((A.md false).cn f c s t : Int) - (A.eta c - (A.rhoC c : Int)) := hrc.symm.trans (rs_cn hA hs (show t < 2 ^ A.R by omega))
      omega
    have go : ∀ x, x = A.bst f c s (t + 1) → PW mX8_rests 0 0 QQ 115 [some (.ref 114), some (.int (nI f)), some (.int (nI (A.C - 1))), some (.int (nI c)), some (.int (nI s)), some (.int (iI (A.bst f c s t))), some (.int (nI t)), some (.int (iI its))] [.int (iI x)] 132 σ 0 0 := fun x hx => by
      subst hx
      refine P_istore (q := 117) (L' := [_, _, _, _, _, _, _, _]) dX8_rests_115 rfl (by decide) rfl ?_
      refine P_iinc (q := 120) (L' := [_, _, _, _, _, _, _, _]) (v := nI (t + 1)) dX8_rests_117 rfl (by decide) rfl (nI_1 t) rfl ?_
      refine P_goto (tgt := 61) dX8_rests_120 (by decide) ?_
      exact ih (t + 1) (by omega) _
    refine P_iload (q := 63) dX8_rests_61 rfl rfl ?_
    refine P_aload_n (q := 64) dX8_rests_63 rfl rfl ?_
    refine P_cv1 (q := 67) dX8_rests_64 rfl kX8_112 (hst) rfl rfl (by decide) (h0) rfl ⟨by decide, by decide⟩ (Nat.le_of_ble_eq_true rfl) ⟨Nat.le_refl _, Nat.le_refl _⟩ ?_
    refine P_icmp_ge (q := 70) (tgt := 123) dX8_rests_67 rfl (by decide) (fun c_67 => ?_) (fun c_67 => ?_)
    · exfalso; rw [nI_leI (by omega) (by omega)] at c_67; omega
    · rw [nI_leI (by omega) (by omega)] at c_67
      refine P_iload_n (q := 71) dX8_rests_70 rfl rfl ?_
      refine P_iload_n (q := 72) dX8_rests_71 rfl rfl ?_
      refine P_icmp_ge (q := 75) (tgt := 123) dX8_rests_72 rfl (by decide) (fun c_72 => ?_) (fun c_72 => ?_)
      · exfalso; rw [nI_leI (by omega) (by omega)] at c_72; omega
      · rw [nI_leI (by omega) (by omega)] at c_72
        refine P_aload_n (q := 76) dX8_rests_75 rfl rfl ?_
        refine P_iconst (q := 77) (v := (bI false)) dX8_rests_76 rfl (by decide +kernel) ?_
        refine P_iload (q := 79) dX8_rests_77 rfl rfl ?_
        refine P_iload (q := 81) dX8_rests_79 rfl rfl ?_
        refine P_cv1 (q := 84) dX8_rests_81 rfl kX8_99 (hlk) rfl rfl (by decide) (h0) rfl ⟨by decide, by decide⟩ (Nat.le_of_ble_eq_true rfl) ⟨Nat.le_refl _, Nat.le_refl _⟩ ?_
        refine P_aload_n (q := 85) dX8_rests_84 rfl rfl ?_
        refine P_get (q := 88) dX8_rests_85 rfl fX8_49 (by decide) (h0) rfl ?_
        refine P_bipush (q := 90) (v := nI 8) dX8_rests_88 rfl (by decide +kernel) ?_
        refine P_iload_n (q := 91) dX8_rests_90 rfl rfl ?_
        refine P_iconst (q := 92) (v := nI 1) dX8_rests_91 rfl (by decide +kernel) ?_
        refine P_iadd (q := 93) dX8_rests_92 rfl ?_
        rw [show nI c + nI 1 = nI (c + 1) from nI_1 c]
        refine P_imul (q := 94) dX8_rests_93 rfl ?_
        refine P_iload (q := 96) dX8_rests_94 rfl rfl ?_
        refine P_iadd (q := 97) dX8_rests_96 rfl ?_
        refine P_iald (q := 98) (j := 8 * (c + 1) + t) dX8_rests_97 rfl (by decide) (h128) (by rw [pk_mul, nI_add]) (by omega) (by decide) ?_
        rw [hr]
        refine P_iadd (q := 99) dX8_rests_98 rfl ?_
        rw [iI_add, hrc]
        refine P_istore (q := 101) (L' := [_, _, _, _, _, _, _, _]) dX8_rests_99 rfl (by decide) rfl ?_
        refine P_iload (q := 103) dX8_rests_101 rfl rfl ?_
        refine P_iload (q := 105) dX8_rests_103 rfl rfl ?_
        refine P_icmp_ge (q := 108) (tgt := 113) dX8_rests_105 rfl (by decide) (fun c_105 => ?_) (fun c_105 => ?_)
        · rw [iI_le (by omega) (by omega) (by omega) (by omega)] at c_105
          refine P_iload (q := 115) dX8_rests_113 rfl rfl ?_
          first
            | exact go _ (by rw [hnx, if_neg (by omega)])
            | exact go _ (by rw [hnx, if_pos (by omega)])
        · rw [iI_le (by omega) (by omega) (by omega) (by omega)] at c_105
          refine P_iload (q := 110) dX8_rests_108 rfl rfl ?_
          refine P_goto (tgt := 115) dX8_rests_110 (by decide) ?_
          first
            | exact go _ (by rw [hnx, if_neg (by omega)])
            | exact go _ (by rw [hnx, if_pos (by omega)])
set_option maxRecDepth 100000 in
set_option maxHeartbeats 4000000 in
theorem w_rs {σ0 : Sto} {A : St} {f : Nat} (hM : MO σ0) (hX : XA σ0 A) (hf : f < 2 ^ A.R)  {c : Nat} (hc : c < A.C) {QQ : Option Value → Sto → Prop} (K : ∀ σ, same σ0 σ (fun i => i = 128) → RR σ A f (fun i _ => c ≤ i) → ∀ x4 x5 x6 x7 : Option Value, PW mX8_rests 0 0 QQ 11 [some (.ref 114), some (.int (nI f)), some (.int (nI (A.C - 1))), some (.int (iI ((c : Int) - 1))), x4, x5, x6, x7] [] 132 σ 0 0) : ∀ n s, s + n = 2 ^ A.R → ∀ σ, same σ0 σ (fun i => i = 128) → RR σ A f (fun i j => c < i ∨ (i = c ∧ j < s)) → ∀ x5 x6 x7 : Option Value, PW mX8_rests 0 0 QQ 18 [some (.ref 114), some (.int (nI f)), some (.int (nI (A.C - 1))), some (.int (nI c)), some (.int (nI s)), x5, x6, x7] [] 132 σ 0 0 := by
  have hA := hX.1
  have hC := hA.1
  have hR := hA.2.1
  have h8 := pow8 hR.2
  have hK := Nat.two_pow_pos A.R
  have hm := St.md_ok hA false
  have hMs : ∀ σ, same σ0 σ (fun i => i = 128) → MO σ := fun σ s => by
    obtain ⟨a1, a2, a3, a4, a5, a6, a7, h⟩ := hM
    exact ⟨a1, a2, a3, a4, a5, a6, a7, (s 114 (by omega)).trans h⟩
  have hXs : ∀ σ, same σ0 σ (fun i => i = 128) → XA σ A := fun σ s => by
    obtain ⟨-, g, h, hR⟩ := hX
    exact ⟨hA, g, (s 115 (by omega)).trans h, hR⟩
  intro n
  induction n with
  | zero =>
    intro s hs σ hs' hG x5 x6 x7
    obtain ⟨a1, a2, a3, a4, a5, a6, a7, h0⟩ := hMs σ hs'
    have hst := m_states (hMs σ hs') (hXs σ hs')
    refine P_iload (q := 20) dX8_rests_18 rfl rfl ?_
    refine P_aload_n (q := 21) dX8_rests_20 rfl rfl ?_
    refine P_cv1 (q := 24) dX8_rests_21 rfl kX8_112 (hst) rfl rfl (by decide) (h0) rfl ⟨by decide, by decide⟩ (Nat.le_of_ble_eq_true rfl) ⟨Nat.le_refl _, Nat.le_refl _⟩ ?_
    refine P_icmp_ge (q := 27) (tgt := 152) dX8_rests_24 rfl (by decide) (fun c_24 => ?_) (fun c_24 => ?_)
    · rw [nI_leI (by omega) (by omega)] at c_24
      refine P_iinc (q := 155) (L' := [_, _, _, _, _, _, _, _]) (v := iI ((c : Int) - 1)) dX8_rests_152 rfl (by decide) rfl (by rw [iI_nI]; exact iI_add _ _) rfl ?_
      refine P_goto (tgt := 11) dX8_rests_155 (by decide) ?_
      exact K σ hs' (hG.imp (fun i j _ hj q => by omega)) _ _ _ _
    · exfalso; rw [nI_leI (by omega) (by omega)] at c_24; omega
  | succ n ih =>
    intro s hs σ hs' hG x5 x6 x7
    obtain ⟨a1, a2, a3, a4, a5, a6, a7, h0⟩ := hMs σ hs'
    have hst := m_states (hMs σ hs') (hXs σ hs')
    have hlo := m_isLoop (hMs σ hs') (hXs σ hs')
    have hlk := m_lnkw (hMs σ hs') (hXs σ hs') false (k := s) (t := f) (by omega) (by omega)
    have hcl := m_colw (hMs σ hs') (hXs σ hs') false (c := c) (k := s) hc (by omega)
    obtain ⟨g, h128, hg⟩ := id hG
    have fin : ∀ (b : Int), b + A.col false c s = A.rs f c s → ∀ x6 x7 : Option Value, PW mX8_rests 0 0 QQ 123 [some (.ref 114), some (.int (nI f)), some (.int (nI (A.C - 1))), some (.int (nI c)), some (.int (nI s)), some (.int (iI b)), x6, x7] [] 132 σ 0 0 := fun b hb x6 x7 => by
      refine P_aload_n (q := 124) dX8_rests_123 rfl rfl ?_
      refine P_get (q := 127) dX8_rests_124 rfl fX8_49 (by decide) (h0) rfl ?_
      refine P_bipush (q := 129) (v := nI 8) dX8_rests_127 rfl (by decide +kernel) ?_
      refine P_iload_n (q := 130) dX8_rests_129 rfl rfl ?_
      refine P_imul (q := 131) dX8_rests_130 rfl ?_
      rw [pk_mul]
      refine P_iload (q := 133) dX8_rests_131 rfl rfl ?_
      refine P_iadd (q := 134) dX8_rests_133 rfl ?_
      rw [nI_add]
      refine P_iload (q := 136) dX8_rests_134 rfl rfl ?_
      refine P_aload_n (q := 137) dX8_rests_136 rfl rfl ?_
      refine P_iconst (q := 138) (v := (bI false)) dX8_rests_137 rfl (by decide +kernel) ?_
      refine P_iload_n (q := 139) dX8_rests_138 rfl rfl ?_
      refine P_iload (q := 141) dX8_rests_139 rfl rfl ?_
      refine P_cv1 (q := 144) dX8_rests_141 rfl kX8_95 (hcl) rfl rfl (by decide) (h0) rfl ⟨by decide, by decide⟩ (Nat.le_of_ble_eq_true rfl) ⟨Nat.le_refl _, Nat.le_refl _⟩ ?_
      refine P_iadd (q := 145) dX8_rests_144 rfl ?_
      rw [iI_add, hb]
      refine P_iast (q := 146) (j := 8 * c + s) (f' := upd g (8 * c + s) (iI (A.rs f c s))) dX8_rests_145 rfl (by decide) (h128) (rfl) (by omega) (by decide) (rfl) (rfl) ?_
      refine P_iinc (q := 149) (L' := [_, _, _, _, _, _, _, _]) (v := nI (s + 1)) dX8_rests_146 rfl (by decide) rfl (nI_1 s) rfl ?_
      refine P_goto (tgt := 18) dX8_rests_149 (by decide) ?_
      exact ih (s + 1) (by omega) _ (hs'.up rfl) (RR_set h8 hg (by omega) (fun i j q => by omega)) _ _ _
    have lst : c = A.C - 1 → ∀ b, b = A.sf false s f → ∀ y5 : Option Value, PW mX8_rests 0 0 QQ 56 [some (.ref 114), some (.int (nI f)), some (.int (nI (A.C - 1))), some (.int (nI c)), some (.int (nI s)), y5, x6, x7] [.int (iI b)] 132 σ 0 0 := fun hcC b hb y5 => by
      have hfin := fin b (by rw [hb, hcC]; exact rs_last hA hf (by omega))
      refine P_istore (q := 58) (L' := [_, _, _, _, _, _, _, _]) dX8_rests_56 rfl (by decide) rfl ?_
      refine P_iconst (q := 59) (v := nI 0) dX8_rests_58 rfl (by decide +kernel) ?_
      refine P_istore (q := 61) (L' := [_, _, _, _, _, _, _, _]) dX8_rests_59 rfl (by decide) rfl ?_
      refine P_iload (q := 63) dX8_rests_61 rfl rfl ?_
      refine P_aload_n (q := 64) dX8_rests_63 rfl rfl ?_
      refine P_cv1 (q := 67) dX8_rests_64 rfl kX8_112 (hst) rfl rfl (by decide) (h0) rfl ⟨by decide, by decide⟩ (Nat.le_of_ble_eq_true rfl) ⟨Nat.le_refl _, Nat.le_refl _⟩ ?_
      refine P_icmp_ge (q := 70) (tgt := 123) dX8_rests_67 rfl (by decide) (fun c_67 => ?_) (fun c_67 => ?_)
      · exact hfin _ _
      · refine P_iload_n (q := 71) dX8_rests_70 rfl rfl ?_
        refine P_iload_n (q := 72) dX8_rests_71 rfl rfl ?_
        refine P_icmp_ge (q := 75) (tgt := 123) dX8_rests_72 rfl (by decide) (fun c_72 => ?_) (fun c_72 => ?_)
        · rw [nI_leI (by omega) (by omega)] at c_72
          exact hfin _ _
        · exfalso; rw [nI_leI (by omega) (by omega)] at c_72; omega
    refine P_iload (q := 20) dX8_rests_18 rfl rfl ?_
    refine P_aload_n (q := 21) dX8_rests_20 rfl rfl ?_
    refine P_cv1 (q := 24) dX8_rests_21 rfl kX8_112 (hst) rfl rfl (by decide) (h0) rfl ⟨by decide, by decide⟩ (Nat.le_of_ble_eq_true rfl) ⟨Nat.le_refl _, Nat.le_refl _⟩ ?_
    refine P_icmp_ge (q := 27) (tgt := 152) dX8_rests_24 rfl (by decide) (fun c_24 => ?_) (fun c_24 => ?_)
    · exfalso; rw [nI_leI (by omega) (by omega)] at c_24; omega
    · rw [nI_leI (by omega) (by omega)] at c_24
      refine P_iload_n (q := 28) dX8_rests_27 rfl rfl ?_
      refine P_iload_n (q := 29) dX8_rests_28 rfl rfl ?_
      refine P_icmp_ge (q := 32) (tgt := 37) dX8_rests_29 rfl (by decide) (fun c_29 => ?_) (fun c_29 => ?_)
      · rw [nI_leI (by omega) (by omega)] at c_29
        refine P_aload_n (q := 38) dX8_rests_37 rfl rfl ?_
        refine P_cv1 (q := 41) dX8_rests_38 rfl kX8_85 (hlo) rfl rfl (by decide) (h0) rfl ⟨by decide, by decide⟩ (Nat.le_of_ble_eq_true rfl) ⟨Nat.le_refl _, Nat.le_refl _⟩ ?_
        refine P_if_eq (q := 44) (tgt := 55) dX8_rests_41 rfl (by decide) (fun c_41 => ?_) (fun c_41 => ?_)
        · rw [bI_0] at c_41
          refine P_iconst (q := 56) (v := nI 0) dX8_rests_55 rfl (by decide +kernel) ?_
          first
            | exact lst (by omega) _ (by unfold St.sf; rw [if_pos c_41]) _
            | exact lst (by omega) 0 (by unfold St.sf; rw [c_41]; rfl) _
            | (have ht := w_rt hM hX hf (c := c) (s := s) (by omega) (by omega) hs' hG (QQ := QQ) (fun y6 y7 => fin _ (by
                 have e : A.bst f c s (2 ^ A.R) = 2 * ((A.md false).B f c s : Int) - (A.eta c - (A.rhoC c : Int)) := by
                   unfold St.bst
                   rw [if_neg (by omega), Md.B_step (show c + 1 < (A.md false).C from (by omega : c + 1 < A.C))]; rfl
                 rw [e]
                 exact rs_col hA (by omega)) y6 y7) (2 ^ A.R) 0 (by omega)
               refine P_istore (q := 58) (L' := [_, _, _, _, _, _, _, _]) dX8_rests_56 rfl (by decide) rfl ?_
               refine P_iconst (q := 59) (v := nI 0) dX8_rests_58 rfl (by decide +kernel) ?_
               refine P_istore (q := 61) (L' := [_, _, _, _, _, _, _, _]) dX8_rests_59 rfl (by decide) rfl ?_
               exact ht _
               )
        · rw [bI_n] at c_41
          refine P_aload_n (q := 45) dX8_rests_44 rfl rfl ?_
          refine P_iconst (q := 46) (v := (bI false)) dX8_rests_45 rfl (by decide +kernel) ?_
          refine P_iload (q := 48) dX8_rests_46 rfl rfl ?_
          refine P_iload_n (q := 49) dX8_rests_48 rfl rfl ?_
          refine P_cv1 (q := 52) dX8_rests_49 rfl kX8_99 (hlk) rfl rfl (by decide) (h0) rfl ⟨by decide, by decide⟩ (Nat.le_of_ble_eq_true rfl) ⟨Nat.le_refl _, Nat.le_refl _⟩ ?_
          refine P_goto (tgt := 56) dX8_rests_52 (by decide) ?_
          first
            | exact lst (by omega) _ (by unfold St.sf; rw [if_pos c_41]) _
            | exact lst (by omega) 0 (by unfold St.sf; rw [c_41]; rfl) _
            | (have ht := w_rt hM hX hf (c := c) (s := s) (by omega) (by omega) hs' hG (QQ := QQ) (fun y6 y7 => fin _ (by
                 have e : A.bst f c s (2 ^ A.R) = 2 * ((A.md false).B f c s : Int) - (A.eta c - (A.rhoC c : Int)) := by
                   unfold St.bst
                   rw [if_neg (by omega), Md.B_step (show c + 1 < (A.md false).C from (by omega : c + 1 < A.C))]; rfl
                 rw [e]
                 exact rs_col hA (by omega)) y6 y7) (2 ^ A.R) 0 (by omega)
               refine P_istore (q := 58) (L' := [_, _, _, _, _, _, _, _]) dX8_rests_56 rfl (by decide) rfl ?_
               refine P_iconst (q := 59) (v := nI 0) dX8_rests_58 rfl (by decide +kernel) ?_
               refine P_istore (q := 61) (L' := [_, _, _, _, _, _, _, _]) dX8_rests_59 rfl (by decide) rfl ?_
               exact ht _
               )
      · rw [nI_leI (by omega) (by omega)] at c_29
        refine P_ldc (q := 34) dX8_rests_32 rfl qX8_128 ?_
        refine P_goto (tgt := 56) dX8_rests_34 (by decide) ?_
        first
          | exact lst (by omega) _ (by unfold St.sf; rw [if_pos c_41]) _
          | exact lst (by omega) 0 (by unfold St.sf; rw [c_41]; rfl) _
          | (have ht := w_rt hM hX hf (c := c) (s := s) (by omega) (by omega) hs' hG (QQ := QQ) (fun y6 y7 => fin _ (by
               have e : A.bst f c s (2 ^ A.R) = 2 * ((A.md false).B f c s : Int) - (A.eta c - (A.rhoC c : Int)) := by
                 unfold St.bst
                 rw [if_neg (by omega), Md.B_step (show c + 1 < (A.md false).C from (by omega : c + 1 < A.C))]; rfl
               rw [e]
               exact rs_col hA (by omega)) y6 y7) (2 ^ A.R) 0 (by omega)
             refine P_istore (q := 58) (L' := [_, _, _, _, _, _, _, _]) dX8_rests_56 rfl (by decide) rfl ?_
             refine P_iconst (q := 59) (v := nI 0) dX8_rests_58 rfl (by decide +kernel) ?_
             refine P_istore (q := 61) (L' := [_, _, _, _, _, _, _, _]) dX8_rests_59 rfl (by decide) rfl ?_
             exact ht _
             )
set_option maxRecDepth 100000 in
set_option maxHeartbeats 4000000 in
theorem m_rests {σ0 : Sto} {A : St} {f : Nat} (hM : MO σ0) (hX : XA σ0 A) (hf : f < 2 ^ A.R)  (h128 : ∃ g : Nat → Int32, σ0 128 = pI .int 80 g) : CP mX8_rests 0 0 [.ref 114, .int (nI f)] 132 σ0 (fun v σ' => v = none ∧ same σ0 σ' (fun i => i = 128) ∧ RR σ' A f (fun _ _ => True)) := by
  have hA := hX.1
  have hC := hA.1
  have hR := hA.2.1
  have h8 := pow8 hR.2
  have hK := Nat.two_pow_pos A.R
  have hm := St.md_ok hA false
  have hMs : ∀ σ, same σ0 σ (fun i => i = 128) → MO σ := fun σ s => by
    obtain ⟨a1, a2, a3, a4, a5, a6, a7, h⟩ := hM
    exact ⟨a1, a2, a3, a4, a5, a6, a7, (s 114 (by omega)).trans h⟩
  have hXs : ∀ σ, same σ0 σ (fun i => i = 128) → XA σ A := fun σ s => by
    obtain ⟨-, g, h, hR⟩ := hX
    exact ⟨hA, g, (s 115 (by omega)).trans h, hR⟩
  have lp : ∀ n, n ≤ A.C → ∀ σ, same σ0 σ (fun i => i = 128) → RR σ A f (fun i _ => n ≤ i) → ∀ x4 x5 x6 x7 : Option Value, PW mX8_rests 0 0 (fun v σ' => v = none ∧ same σ0 σ' (fun i => i = 128) ∧ RR σ' A f (fun _ _ => True)) 11 [some (.ref 114), some (.int (nI f)), some (.int (nI (A.C - 1))), some (.int (iI ((n : Int) - 1))), x4, x5, x6, x7] [] 132 σ 0 0 := by
    intro n
    induction n with
    | zero =>
      intro hn σ hs hG x4 x5 x6 x7
      refine P_iload_n (q := 12) dX8_rests_11 rfl rfl ?_
      refine P_if_lt (q := 15) (tgt := 158) dX8_rests_12 rfl (by decide) (fun c_12 => ?_) (fun c_12 => ?_)
      · refine P_vret dX8_rests_158 rfl ?_
        exact ⟨rfl, hs, hG.imp (fun i j _ _ _ => Nat.zero_le i)⟩
      · exact absurd (show iI (((0 : Nat) : Int) - 1) < 0 by decide) c_12
    | succ c ih =>
      intro hn σ hs hG x4 x5 x6 x7
      rw [show iI (((c + 1 : Nat) : Int) - 1) = nI c from by rw [iI_nI]; congr 1; omega]
      refine P_iload_n (q := 12) dX8_rests_11 rfl rfl ?_
      refine P_if_lt (q := 15) (tgt := 158) dX8_rests_12 rfl (by decide) (fun c_12 => ?_) (fun c_12 => ?_)
      · have c_12 : nI c < nI 0 := c_12
        rw [nI_ltI (by omega) (by decide)] at c_12
        omega
      · refine P_iconst (q := 16) (v := nI 0) dX8_rests_15 rfl (by decide +kernel) ?_
        refine P_istore (q := 18) (L' := [_, _, _, _, _, _, _, _]) dX8_rests_16 rfl (by decide) rfl ?_
        exact w_rs hM hX hf (c := c) (by omega) (fun σ2 s2 hG2 y4 y5 y6 y7 => ih (by omega) σ2 s2 hG2 y4 y5 y6 y7) (2 ^ A.R) 0 (by omega) σ hs (hG.imp (fun i j _ _ q => by omega)) _ _ _
  obtain ⟨a1, a2, a3, a4, a5, a6, a7, h0⟩ := id hM
  obtain ⟨-, g, h1, hRA⟩ := id hX
  obtain ⟨gr, h128⟩ := h128
  refine CP_of (by decide +kernel) (Nat.le_of_ble_eq_true rfl) ?_
  change PW _ _ _ _ 0 [_, _, _, _, _, _, _, _] [] _ _ _ _
  refine P_aload_n (q := 1) dX8_rests_0 rfl rfl ?_
  refine P_get (q := 4) dX8_rests_1 rfl fX8_7 (by decide) (h0) rfl ?_
  refine P_iconst (q := 5) (v := nI 0) dX8_rests_4 rfl (by decide +kernel) ?_
  refine P_iald (q := 6) (j := 0) dX8_rests_5 rfl (by decide) (h1) (rfl) (by omega) (by decide) ?_
  rw [hRA.1]
  refine P_iconst (q := 7) (v := nI 1) dX8_rests_6 rfl (by decide +kernel) ?_
  refine P_isub (q := 8) dX8_rests_7 rfl ?_
  rw [show nI A.C - nI 1 = nI (A.C - 1) from pk_sub (by omega)]
  refine P_istore_n (q := 9) (L' := [_, _, _, _, _, _, _, _]) dX8_rests_8 rfl (by decide) rfl ?_
  refine P_iload_n (q := 10) dX8_rests_9 rfl rfl ?_
  refine P_istore_n (q := 11) (L' := [_, _, _, _, _, _, _, _]) dX8_rests_10 rfl (by decide) rfl ?_
  have h := lp A.C (Nat.le_refl _) σ0 same.rf ⟨gr, h128, fun c s hc _ q => by omega⟩ none none none none
  rw [show iI ((A.C : Int) - 1) = nI (A.C - 1) from by rw [iI_nI]; congr 1; omega] at h
  exact h
