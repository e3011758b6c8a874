/-! THE REFERENCE: neighbours -/
def eqN (l : Bool) (a b : Int) : Nat := if l = true ∧ ¬ a = b then 0 else 1
def St.nbA (A : St) (l : Bool) (c r : Nat) (o : Option Nat) : Nat := match o with
  | none => 0
  | some d => eqN l (A.s d r) (A.s c r)
def St.nbU (A : St) (l : Bool) (c r : Nat) : Nat := if 0 < r then eqN l (A.s c (r - 1)) (A.s c r) else 0
def St.nbD (A : St) (l : Bool) (c r : Nat) : Nat := if r + 1 < A.R then eqN l (A.s c (r + 1)) (A.s c r) else 0
def St.nb (A : St) (l : Bool) (c r : Nat) : Nat := ((0 + A.nbA l c r (A.prv c) + A.nbU l c r) + A.nbA l c r (A.nxt c)) + A.nbD l c r
theorem s_inj (A : St) (c r d q : Nat) : iI (A.s c r) = iI (A.s d q) ↔ A.s c r = A.s d q := by
  have h1 := A.s_pm c r
  have h2 := A.s_pm d q
  exact iI_inj (by omega) (by omega) (by omega) (by omega)
set_option maxRecDepth 100000 in
set_option maxHeartbeats 4000000 in
theorem m_nb1 {σ : Sto} {A : St} (hM : MO σ) (hX : XA σ A) {l : Bool} {r c : Nat} (hr : r < A.R) (hc : c < A.C) {QQ : Option Value → Sto → Prop} {p : Nat} {x : Option Value}
    (K : ∀ x : Option Value, PW mX8_neighbours 0 0 QQ 14 [some (.ref 114), some (.int (nI r)), some (.int (nI c)), some (.int (bI l)), some (.int (nI (p + A.nbA l c r (A.prv c) + A.nbU l c r))), some (.int (iI (A.s c r))), some (.int (iI 1)), x] [] 132 σ 0 0) : PW mX8_neighbours 0 0 QQ 14 [some (.ref 114), some (.int (nI r)), some (.int (nI c)), some (.int (bI l)), some (.int (nI p)), some (.int (iI (A.s c r))), some (.int (iI (-1))), x] [] 132 σ 0 0 := by
  have hi := m_isRow hM hX (z := ((r : Int) - 1)) (by have := hX.1.2.1; omega) (by have := hX.1.2.1; omega)
  have hb := m_prev hM hX hc
  obtain ⟨L, k0, pl, n0, sp0, rc, rr, h0⟩ := id hM
  obtain ⟨hA, g, h1, r0, r1, r2, r3, r4, r5, rs, rf⟩ := id hX
  have hC := hA.1
  have hR := hA.2.1
  have tail : ∀ (v : Nat) (x : Option Value), v = p + A.nbA l c r (A.prv c) → PW mX8_neighbours 0 0 QQ 63 [some (.ref 114), some (.int (nI r)), some (.int (nI c)), some (.int (bI l)), some (.int (nI v)), some (.int (iI (A.s c r))), some (.int (iI (-1))), x] [] 132 σ 0 0 := by
    intro v x e
    subst e
    have fin0 : ∀ (v : Nat) (x : Option Value), v = A.nbU l c r → PW mX8_neighbours 0 0 QQ 14 [some (.ref 114), some (.int (nI r)), some (.int (nI c)), some (.int (bI l)), some (.int (nI (p + A.nbA l c r (A.prv c)) + nI v)), some (.int (iI (A.s c r))), some (.int (iI 1)), x] [] 132 σ 0 0 := fun v x e => by
      subst e
      rw [nI_add]
      exact K x
    by_cases hh : 0 < r
    · have fin : ∀ (v : Nat) (x : Option Value), v = eqN l (A.s c (r - 1)) (A.s c r) → PW mX8_neighbours 0 0 QQ 14 [some (.ref 114), some (.int (nI r)), some (.int (nI c)), some (.int (bI l)), some (.int (nI (p + A.nbA l c r (A.prv c)) + nI v)), some (.int (iI (A.s c r))), some (.int (iI 1)), x] [] 132 σ 0 0 := fun v x e => fin0 v x (by unfold St.nbU; rw [if_pos hh]; exact e)
      refine P_iload (q := 65) dX8_neighbours_63 rfl rfl ?_
      refine P_aload_n (q := 66) dX8_neighbours_65 rfl rfl ?_
      refine P_iload_n (q := 67) dX8_neighbours_66 rfl rfl ?_
      refine P_iload (q := 69) dX8_neighbours_67 rfl rfl ?_
      refine P_iadd (q := 70) dX8_neighbours_69 rfl ?_
      rw [show nI r + iI (-1) = iI ((r : Int) - 1) from by rw [iI_nI, iI_add]; rfl]
      refine P_cv1 (q := 73) dX8_neighbours_70 rfl kX8_109 (hi) rfl rfl (by decide) (h0) rfl ⟨by decide, by decide⟩ (Nat.le_of_ble_eq_true rfl) ⟨Nat.le_refl _, Nat.le_refl _⟩ ?_
      refine P_if_eq (q := 76) (tgt := 98) dX8_neighbours_73 rfl (by decide) (fun c_73 => ?_) (fun c_73 => ?_)
      · rw [bI_0] at c_73
        exact absurd (of_decide_eq_false c_73) (by omega)
      · refine P_iload_n (q := 77) dX8_neighbours_76 rfl rfl ?_
        refine P_if_eq (q := 80) (tgt := 94) dX8_neighbours_77 rfl (by decide) (fun c_77 => ?_) (fun c_77 => ?_)
        · rw [bI_0] at c_77
          refine P_iconst (q := 95) (v := nI 1) dX8_neighbours_94 rfl (by decide +kernel) ?_
          refine P_goto (tgt := 99) dX8_neighbours_95 (by decide) ?_
          refine P_iadd (q := 100) dX8_neighbours_99 rfl ?_
          refine P_istore (q := 102) (L' := [_, _, _, _, _, _, _, _]) dX8_neighbours_100 rfl (by decide) rfl ?_
          refine P_iinc (q := 105) (L' := [_, _, _, _, _, _, _, _]) (v := (iI 1)) dX8_neighbours_102 rfl (by decide) rfl (by decide) rfl ?_
          refine P_goto (tgt := 14) dX8_neighbours_105 (by decide) ?_
          exact fin 1 _ (by unfold eqN; rw [if_neg (fun q => by rw [c_77] at q; exact absurd q.1 (by decide))])
        · rw [bI_n] at c_77
          refine P_aload_n (q := 81) dX8_neighbours_80 rfl rfl ?_
          refine P_iload_n (q := 82) dX8_neighbours_81 rfl rfl ?_
          refine P_iload (q := 84) dX8_neighbours_82 rfl rfl ?_
          refine P_iadd (q := 85) dX8_neighbours_84 rfl ?_
          rw [show nI r + iI (-1) = iI ((r : Int) - 1) from by rw [iI_nI, iI_add]; rfl]
          rw [show iI ((r : Int) - 1) = nI (r - 1) from by rw [iI_nI]; first | rfl | (congr 1; omega)]
          refine P_iload_n (q := 86) dX8_neighbours_85 rfl rfl ?_
          refine P_cv1 (q := 89) dX8_neighbours_86 rfl kX8_106 (m_spin hM hX (show r - 1 < 3 by omega) (show c < 10 by omega)) rfl rfl (by decide) (h0) rfl ⟨by decide, by decide⟩ (Nat.le_of_ble_eq_true rfl) ⟨Nat.le_refl _, Nat.le_refl _⟩ ?_
          refine P_iload (q := 91) dX8_neighbours_89 rfl rfl ?_
          refine P_icmp_ne (q := 94) (tgt := 98) dX8_neighbours_91 rfl (by decide) (fun c_91 => ?_) (fun c_91 => ?_)
          · rw [s_inj] at c_91
            refine P_iconst (q := 99) (v := nI 0) dX8_neighbours_98 rfl (by decide +kernel) ?_
            refine P_iadd (q := 100) dX8_neighbours_99 rfl ?_
            refine P_istore (q := 102) (L' := [_, _, _, _, _, _, _, _]) dX8_neighbours_100 rfl (by decide) rfl ?_
            refine P_iinc (q := 105) (L' := [_, _, _, _, _, _, _, _]) (v := (iI 1)) dX8_neighbours_102 rfl (by decide) rfl (by decide) rfl ?_
            refine P_goto (tgt := 14) dX8_neighbours_105 (by decide) ?_
            exact fin 0 _ (by unfold eqN; rw [if_pos ⟨c_77, c_91⟩])
          · rw [s_inj] at c_91
            refine P_iconst (q := 95) (v := nI 1) dX8_neighbours_94 rfl (by decide +kernel) ?_
            refine P_goto (tgt := 99) dX8_neighbours_95 (by decide) ?_
            refine P_iadd (q := 100) dX8_neighbours_99 rfl ?_
            refine P_istore (q := 102) (L' := [_, _, _, _, _, _, _, _]) dX8_neighbours_100 rfl (by decide) rfl ?_
            refine P_iinc (q := 105) (L' := [_, _, _, _, _, _, _, _]) (v := (iI 1)) dX8_neighbours_102 rfl (by decide) rfl (by decide) rfl ?_
            refine P_goto (tgt := 14) dX8_neighbours_105 (by decide) ?_
            exact fin 1 _ (by unfold eqN; rw [if_neg (fun q => q.2 c_91)])
    · have fin : ∀ (x : Option Value), PW mX8_neighbours 0 0 QQ 14 [some (.ref 114), some (.int (nI r)), some (.int (nI c)), some (.int (bI l)), some (.int (nI (p + A.nbA l c r (A.prv c)) + nI 0)), some (.int (iI (A.s c r))), some (.int (iI 1)), x] [] 132 σ 0 0 := fun x => fin0 0 x (by unfold St.nbU; rw [if_neg hh])
      refine P_iload (q := 65) dX8_neighbours_63 rfl rfl ?_
      refine P_aload_n (q := 66) dX8_neighbours_65 rfl rfl ?_
      refine P_iload_n (q := 67) dX8_neighbours_66 rfl rfl ?_
      refine P_iload (q := 69) dX8_neighbours_67 rfl rfl ?_
      refine P_iadd (q := 70) dX8_neighbours_69 rfl ?_
      rw [show nI r + iI (-1) = iI ((r : Int) - 1) from by rw [iI_nI, iI_add]; rfl]
      refine P_cv1 (q := 73) dX8_neighbours_70 rfl kX8_109 (hi) rfl rfl (by decide) (h0) rfl ⟨by decide, by decide⟩ (Nat.le_of_ble_eq_true rfl) ⟨Nat.le_refl _, Nat.le_refl _⟩ ?_
      refine P_if_eq (q := 76) (tgt := 98) dX8_neighbours_73 rfl (by decide) (fun c_73 => ?_) (fun c_73 => ?_)
      · refine P_iconst (q := 99) (v := nI 0) dX8_neighbours_98 rfl (by decide +kernel) ?_
        refine P_iadd (q := 100) dX8_neighbours_99 rfl ?_
        refine P_istore (q := 102) (L' := [_, _, _, _, _, _, _, _]) dX8_neighbours_100 rfl (by decide) rfl ?_
        refine P_iinc (q := 105) (L' := [_, _, _, _, _, _, _, _]) (v := (iI 1)) dX8_neighbours_102 rfl (by decide) rfl (by decide) rfl ?_
        refine P_goto (tgt := 14) dX8_neighbours_105 (by decide) ?_
        exact fin _
      · rw [bI_n] at c_73
        exact absurd (of_decide_eq_true c_73) (by omega)
  cases hn : A.prv c with
  | none =>
    rw [hn] at hb tail
    refine P_iload (q := 16) dX8_neighbours_14 rfl rfl ?_
    refine P_iconst (q := 17) (v := nI 2) dX8_neighbours_16 rfl (by decide +kernel) ?_
    refine P_icmp_ge (q := 20) (tgt := 108) dX8_neighbours_17 rfl (by decide) (fun c_17 => ?_) (fun c_17 => ?_)
    · exact absurd c_17 (by decide)
    · refine P_aload_n (q := 21) dX8_neighbours_20 rfl rfl ?_
      refine P_iload_n (q := 22) dX8_neighbours_21 rfl rfl ?_
      refine P_iload (q := 24) dX8_neighbours_22 rfl rfl ?_
      refine P_cv1 (q := 27) dX8_neighbours_24 rfl kX8_92 (hb) rfl rfl (by decide) (h0) rfl ⟨by decide, by decide⟩ (Nat.le_of_ble_eq_true rfl) ⟨Nat.le_refl _, Nat.le_refl _⟩ ?_
      refine P_istore (q := 29) (L' := [_, _, _, _, _, _, _, _]) dX8_neighbours_27 rfl (by decide) rfl ?_
      refine P_iload (q := 31) dX8_neighbours_29 rfl rfl ?_
      refine P_iload (q := 33) dX8_neighbours_31 rfl rfl ?_
      refine P_sipush (q := 36) (v := iI (-1005)) dX8_neighbours_33 rfl (by decide +kernel) ?_
      refine P_icmp_eq (q := 39) (tgt := 59) dX8_neighbours_36 rfl (by decide) (fun c_36 => ?_) (fun c_36 => ?_)
      · refine P_iconst (q := 60) (v := nI 0) dX8_neighbours_59 rfl (by decide +kernel) ?_
        refine P_iadd (q := 61) dX8_neighbours_60 rfl ?_
        refine P_istore (q := 63) (L' := [_, _, _, _, _, _, _, _]) dX8_neighbours_61 rfl (by decide) rfl ?_
        rw [show nI p + nI 0 = nI p from nI_add p 0]
        exact tail p _ rfl
      · exact absurd rfl c_36
  | some d =>
    have hd : d < A.C := A.prv_lt hA hc hn
    rw [hn] at hb tail
    have fin : ∀ (v : Nat) (x : Option Value), v = eqN l (A.s d r) (A.s c r) → PW mX8_neighbours 0 0 QQ 63 [some (.ref 114), some (.int (nI r)), some (.int (nI c)), some (.int (bI l)), some (.int (nI p + nI v)), some (.int (iI (A.s c r))), some (.int (iI (-1))), x] [] 132 σ 0 0 := fun v x e => by
      subst e
      rw [nI_add]
      exact tail _ x rfl
    refine P_iload (q := 16) dX8_neighbours_14 rfl rfl ?_
    refine P_iconst (q := 17) (v := nI 2) dX8_neighbours_16 rfl (by decide +kernel) ?_
    refine P_icmp_ge (q := 20) (tgt := 108) dX8_neighbours_17 rfl (by decide) (fun c_17 => ?_) (fun c_17 => ?_)
    · exact absurd c_17 (by decide)
    · refine P_aload_n (q := 21) dX8_neighbours_20 rfl rfl ?_
      refine P_iload_n (q := 22) dX8_neighbours_21 rfl rfl ?_
      refine P_iload (q := 24) dX8_neighbours_22 rfl rfl ?_
      refine P_cv1 (q := 27) dX8_neighbours_24 rfl kX8_92 (hb) rfl rfl (by decide) (h0) rfl ⟨by decide, by decide⟩ (Nat.le_of_ble_eq_true rfl) ⟨Nat.le_refl _, Nat.le_refl _⟩ ?_
      refine P_istore (q := 29) (L' := [_, _, _, _, _, _, _, _]) dX8_neighbours_27 rfl (by decide) rfl ?_
      refine P_iload (q := 31) dX8_neighbours_29 rfl rfl ?_
      refine P_iload (q := 33) dX8_neighbours_31 rfl rfl ?_
      refine P_sipush (q := 36) (v := iI (-1005)) dX8_neighbours_33 rfl (by decide +kernel) ?_
      refine P_icmp_eq (q := 39) (tgt := 59) dX8_neighbours_36 rfl (by decide) (fun c_36 => ?_) (fun c_36 => ?_)
      · have c_36 : nI d = iI (-1005) := c_36
        rw [iI_nI, iI_inj (by omega) (by omega) (by omega) (by omega)] at c_36
        omega
      · refine P_iload_n (q := 40) dX8_neighbours_39 rfl rfl ?_
        refine P_if_eq (q := 43) (tgt := 55) dX8_neighbours_40 rfl (by decide) (fun c_40 => ?_) (fun c_40 => ?_)
        · rw [bI_0] at c_40
          refine P_iconst (q := 56) (v := nI 1) dX8_neighbours_55 rfl (by decide +kernel) ?_
          refine P_goto (tgt := 60) dX8_neighbours_56 (by decide) ?_
          refine P_iadd (q := 61) dX8_neighbours_60 rfl ?_
          refine P_istore (q := 63) (L' := [_, _, _, _, _, _, _, _]) dX8_neighbours_61 rfl (by decide) rfl ?_
          exact fin 1 _ (by unfold eqN; rw [if_neg (fun q => by rw [c_40] at q; exact absurd q.1 (by decide))])
        · rw [bI_n] at c_40
          refine P_aload_n (q := 44) dX8_neighbours_43 rfl rfl ?_
          refine P_iload_n (q := 45) dX8_neighbours_44 rfl rfl ?_
          refine P_iload (q := 47) dX8_neighbours_45 rfl rfl ?_
          refine P_cv1 (q := 50) dX8_neighbours_47 rfl kX8_106 (m_spin hM hX (show r < 3 by omega) (show d < 10 by omega)) rfl rfl (by decide) (h0) rfl ⟨by decide, by decide⟩ (Nat.le_of_ble_eq_true rfl) ⟨Nat.le_refl _, Nat.le_refl _⟩ ?_
          refine P_iload (q := 52) dX8_neighbours_50 rfl rfl ?_
          refine P_icmp_ne (q := 55) (tgt := 59) dX8_neighbours_52 rfl (by decide) (fun c_52 => ?_) (fun c_52 => ?_)
          · rw [s_inj] at c_52
            refine P_iconst (q := 60) (v := nI 0) dX8_neighbours_59 rfl (by decide +kernel) ?_
            refine P_iadd (q := 61) dX8_neighbours_60 rfl ?_
            refine P_istore (q := 63) (L' := [_, _, _, _, _, _, _, _]) dX8_neighbours_61 rfl (by decide) rfl ?_
            exact fin 0 _ (by unfold eqN; rw [if_pos ⟨c_40, c_52⟩])
          · rw [s_inj] at c_52
            refine P_iconst (q := 56) (v := nI 1) dX8_neighbours_55 rfl (by decide +kernel) ?_
            refine P_goto (tgt := 60) dX8_neighbours_56 (by decide) ?_
            refine P_iadd (q := 61) dX8_neighbours_60 rfl ?_
            refine P_istore (q := 63) (L' := [_, _, _, _, _, _, _, _]) dX8_neighbours_61 rfl (by decide) rfl ?_
            exact fin 1 _ (by unfold eqN; rw [if_neg (fun q => q.2 c_52)])
set_option maxRecDepth 100000 in
set_option maxHeartbeats 4000000 in
theorem m_nb2 {σ : Sto} {A : St} (hM : MO σ) (hX : XA σ A) {l : Bool} {r c : Nat} (hr : r < A.R) (hc : c < A.C) {QQ : Option Value → Sto → Prop} {p : Nat} {x : Option Value}
    (K : ∀ x : Option Value, PW mX8_neighbours 0 0 QQ 14 [some (.ref 114), some (.int (nI r)), some (.int (nI c)), some (.int (bI l)), some (.int (nI (p + A.nbA l c r (A.nxt c) + A.nbD l c r))), some (.int (iI (A.s c r))), some (.int (iI 3)), x] [] 132 σ 0 0) : PW mX8_neighbours 0 0 QQ 14 [some (.ref 114), some (.int (nI r)), some (.int (nI c)), some (.int (bI l)), some (.int (nI p)), some (.int (iI (A.s c r))), some (.int (iI 1)), x] [] 132 σ 0 0 := by
  have hi := m_isRow hM hX (z := ((r : Int) + 1)) (by have := hX.1.2.1; omega) (by have := hX.1.2.1; omega)
  have hb := m_next hM hX hc
  obtain ⟨L, k0, pl, n0, sp0, rc, rr, h0⟩ := id hM
  obtain ⟨hA, g, h1, r0, r1, r2, r3, r4, r5, rs, rf⟩ := id hX
  have hC := hA.1
  have hR := hA.2.1
  have tail : ∀ (v : Nat) (x : Option Value), v = p + A.nbA l c r (A.nxt c) → PW mX8_neighbours 0 0 QQ 63 [some (.ref 114), some (.int (nI r)), some (.int (nI c)), some (.int (bI l)), some (.int (nI v)), some (.int (iI (A.s c r))), some (.int (iI 1)), x] [] 132 σ 0 0 := by
    intro v x e
    subst e
    have fin0 : ∀ (v : Nat) (x : Option Value), v = A.nbD l c r → PW mX8_neighbours 0 0 QQ 14 [some (.ref 114), some (.int (nI r)), some (.int (nI c)), some (.int (bI l)), some (.int (nI (p + A.nbA l c r (A.nxt c)) + nI v)), some (.int (iI (A.s c r))), some (.int (iI 3)), x] [] 132 σ 0 0 := fun v x e => by
      subst e
      rw [nI_add]
      exact K x
    by_cases hh : r + 1 < A.R
    · have fin : ∀ (v : Nat) (x : Option Value), v = eqN l (A.s c (r + 1)) (A.s c r) → PW mX8_neighbours 0 0 QQ 14 [some (.ref 114), some (.int (nI r)), some (.int (nI c)), some (.int (bI l)), some (.int (nI (p + A.nbA l c r (A.nxt c)) + nI v)), some (.int (iI (A.s c r))), some (.int (iI 3)), x] [] 132 σ 0 0 := fun v x e => fin0 v x (by unfold St.nbD; rw [if_pos hh]; exact e)
      refine P_iload (q := 65) dX8_neighbours_63 rfl rfl ?_
      refine P_aload_n (q := 66) dX8_neighbours_65 rfl rfl ?_
      refine P_iload_n (q := 67) dX8_neighbours_66 rfl rfl ?_
      refine P_iload (q := 69) dX8_neighbours_67 rfl rfl ?_
      refine P_iadd (q := 70) dX8_neighbours_69 rfl ?_
      rw [show nI r + iI 1 = iI ((r : Int) + 1) from by rw [iI_nI, iI_add]]
      refine P_cv1 (q := 73) dX8_neighbours_70 rfl kX8_109 (hi) rfl rfl (by decide) (h0) rfl ⟨by decide, by decide⟩ (Nat.le_of_ble_eq_true rfl) ⟨Nat.le_refl _, Nat.le_refl _⟩ ?_
      refine P_if_eq (q := 76) (tgt := 98) dX8_neighbours_73 rfl (by decide) (fun c_73 => ?_) (fun c_73 => ?_)
      · rw [bI_0] at c_73
        exact absurd (of_decide_eq_false c_73) (by omega)
      · refine P_iload_n (q := 77) dX8_neighbours_76 rfl rfl ?_
        refine P_if_eq (q := 80) (tgt := 94) dX8_neighbours_77 rfl (by decide) (fun c_77 => ?_) (fun c_77 => ?_)
        · rw [bI_0] at c_77
          refine P_iconst (q := 95) (v := nI 1) dX8_neighbours_94 rfl (by decide +kernel) ?_
          refine P_goto (tgt := 99) dX8_neighbours_95 (by decide) ?_
          refine P_iadd (q := 100) dX8_neighbours_99 rfl ?_
          refine P_istore (q := 102) (L' := [_, _, _, _, _, _, _, _]) dX8_neighbours_100 rfl (by decide) rfl ?_
          refine P_iinc (q := 105) (L' := [_, _, _, _, _, _, _, _]) (v := (iI 3)) dX8_neighbours_102 rfl (by decide) rfl (by decide) rfl ?_
          refine P_goto (tgt := 14) dX8_neighbours_105 (by decide) ?_
          exact fin 1 _ (by unfold eqN; rw [if_neg (fun q => by rw [c_77] at q; exact absurd q.1 (by decide))])
        · rw [bI_n] at c_77
          refine P_aload_n (q := 81) dX8_neighbours_80 rfl rfl ?_
          refine P_iload_n (q := 82) dX8_neighbours_81 rfl rfl ?_
          refine P_iload (q := 84) dX8_neighbours_82 rfl rfl ?_
          refine P_iadd (q := 85) dX8_neighbours_84 rfl ?_
          rw [show nI r + iI 1 = iI ((r : Int) + 1) from by rw [iI_nI, iI_add]]
          rw [show iI ((r : Int) + 1) = nI (r + 1) from by rw [iI_nI]; first | rfl | (congr 1; omega)]
          refine P_iload_n (q := 86) dX8_neighbours_85 rfl rfl ?_
          refine P_cv1 (q := 89) dX8_neighbours_86 rfl kX8_106 (m_spin hM hX (show r + 1 < 3 by omega) (show c < 10 by omega)) rfl rfl (by decide) (h0) rfl ⟨by decide, by decide⟩ (Nat.le_of_ble_eq_true rfl) ⟨Nat.le_refl _, Nat.le_refl _⟩ ?_
          refine P_iload (q := 91) dX8_neighbours_89 rfl rfl ?_
          refine P_icmp_ne (q := 94) (tgt := 98) dX8_neighbours_91 rfl (by decide) (fun c_91 => ?_) (fun c_91 => ?_)
          · rw [s_inj] at c_91
            refine P_iconst (q := 99) (v := nI 0) dX8_neighbours_98 rfl (by decide +kernel) ?_
            refine P_iadd (q := 100) dX8_neighbours_99 rfl ?_
            refine P_istore (q := 102) (L' := [_, _, _, _, _, _, _, _]) dX8_neighbours_100 rfl (by decide) rfl ?_
            refine P_iinc (q := 105) (L' := [_, _, _, _, _, _, _, _]) (v := (iI 3)) dX8_neighbours_102 rfl (by decide) rfl (by decide) rfl ?_
            refine P_goto (tgt := 14) dX8_neighbours_105 (by decide) ?_
            exact fin 0 _ (by unfold eqN; rw [if_pos ⟨c_77, c_91⟩])
          · rw [s_inj] at c_91
            refine P_iconst (q := 95) (v := nI 1) dX8_neighbours_94 rfl (by decide +kernel) ?_
            refine P_goto (tgt := 99) dX8_neighbours_95 (by decide) ?_
            refine P_iadd (q := 100) dX8_neighbours_99 rfl ?_
            refine P_istore (q := 102) (L' := [_, _, _, _, _, _, _, _]) dX8_neighbours_100 rfl (by decide) rfl ?_
            refine P_iinc (q := 105) (L' := [_, _, _, _, _, _, _, _]) (v := (iI 3)) dX8_neighbours_102 rfl (by decide) rfl (by decide) rfl ?_
            refine P_goto (tgt := 14) dX8_neighbours_105 (by decide) ?_
            exact fin 1 _ (by unfold eqN; rw [if_neg (fun q => q.2 c_91)])
    · have fin : ∀ (x : Option Value), PW mX8_neighbours 0 0 QQ 14 [some (.ref 114), some (.int (nI r)), some (.int (nI c)), some (.int (bI l)), some (.int (nI (p + A.nbA l c r (A.nxt c)) + nI 0)), some (.int (iI (A.s c r))), some (.int (iI 3)), x] [] 132 σ 0 0 := fun x => fin0 0 x (by unfold St.nbD; rw [if_neg hh])
      refine P_iload (q := 65) dX8_neighbours_63 rfl rfl ?_
      refine P_aload_n (q := 66) dX8_neighbours_65 rfl rfl ?_
      refine P_iload_n (q := 67) dX8_neighbours_66 rfl rfl ?_
      refine P_iload (q := 69) dX8_neighbours_67 rfl rfl ?_
      refine P_iadd (q := 70) dX8_neighbours_69 rfl ?_
      rw [show nI r + iI 1 = iI ((r : Int) + 1) from by rw [iI_nI, iI_add]]
      refine P_cv1 (q := 73) dX8_neighbours_70 rfl kX8_109 (hi) rfl rfl (by decide) (h0) rfl ⟨by decide, by decide⟩ (Nat.le_of_ble_eq_true rfl) ⟨Nat.le_refl _, Nat.le_refl _⟩ ?_
      refine P_if_eq (q := 76) (tgt := 98) dX8_neighbours_73 rfl (by decide) (fun c_73 => ?_) (fun c_73 => ?_)
      · refine P_iconst (q := 99) (v := nI 0) dX8_neighbours_98 rfl (by decide +kernel) ?_
        refine P_iadd (q := 100) dX8_neighbours_99 rfl ?_
        refine P_istore (q := 102) (L' := [_, _, _, _, _, _, _, _]) dX8_neighbours_100 rfl (by decide) rfl ?_
        refine P_iinc (q := 105) (L' := [_, _, _, _, _, _, _, _]) (v := (iI 3)) dX8_neighbours_102 rfl (by decide) rfl (by decide) rfl ?_
        refine P_goto (tgt := 14) dX8_neighbours_105 (by decide) ?_
        exact fin _
      · rw [bI_n] at c_73
        exact absurd (of_decide_eq_true c_73) (by omega)
  cases hn : A.nxt c with
  | none =>
    rw [hn] at hb tail
    refine P_iload (q := 16) dX8_neighbours_14 rfl rfl ?_
    refine P_iconst (q := 17) (v := nI 2) dX8_neighbours_16 rfl (by decide +kernel) ?_
    refine P_icmp_ge (q := 20) (tgt := 108) dX8_neighbours_17 rfl (by decide) (fun c_17 => ?_) (fun c_17 => ?_)
    · exact absurd c_17 (by decide)
    · refine P_aload_n (q := 21) dX8_neighbours_20 rfl rfl ?_
      refine P_iload_n (q := 22) dX8_neighbours_21 rfl rfl ?_
      refine P_iload (q := 24) dX8_neighbours_22 rfl rfl ?_
      refine P_cv1 (q := 27) dX8_neighbours_24 rfl kX8_92 (hb) rfl rfl (by decide) (h0) rfl ⟨by decide, by decide⟩ (Nat.le_of_ble_eq_true rfl) ⟨Nat.le_refl _, Nat.le_refl _⟩ ?_
      refine P_istore (q := 29) (L' := [_, _, _, _, _, _, _, _]) dX8_neighbours_27 rfl (by decide) rfl ?_
      refine P_iload (q := 31) dX8_neighbours_29 rfl rfl ?_
      refine P_iload (q := 33) dX8_neighbours_31 rfl rfl ?_
      refine P_sipush (q := 36) (v := iI (-1005)) dX8_neighbours_33 rfl (by decide +kernel) ?_
      refine P_icmp_eq (q := 39) (tgt := 59) dX8_neighbours_36 rfl (by decide) (fun c_36 => ?_) (fun c_36 => ?_)
      · refine P_iconst (q := 60) (v := nI 0) dX8_neighbours_59 rfl (by decide +kernel) ?_
        refine P_iadd (q := 61) dX8_neighbours_60 rfl ?_
        refine P_istore (q := 63) (L' := [_, _, _, _, _, _, _, _]) dX8_neighbours_61 rfl (by decide) rfl ?_
        rw [show nI p + nI 0 = nI p from nI_add p 0]
        exact tail p _ rfl
      · exact absurd rfl c_36
  | some d =>
    have hd : d < A.C := A.nxt_lt hA hn
    rw [hn] at hb tail
    have fin : ∀ (v : Nat) (x : Option Value), v = eqN l (A.s d r) (A.s c r) → PW mX8_neighbours 0 0 QQ 63 [some (.ref 114), some (.int (nI r)), some (.int (nI c)), some (.int (bI l)), some (.int (nI p + nI v)), some (.int (iI (A.s c r))), some (.int (iI 1)), x] [] 132 σ 0 0 := fun v x e => by
      subst e
      rw [nI_add]
      exact tail _ x rfl
    refine P_iload (q := 16) dX8_neighbours_14 rfl rfl ?_
    refine P_iconst (q := 17) (v := nI 2) dX8_neighbours_16 rfl (by decide +kernel) ?_
    refine P_icmp_ge (q := 20) (tgt := 108) dX8_neighbours_17 rfl (by decide) (fun c_17 => ?_) (fun c_17 => ?_)
    · exact absurd c_17 (by decide)
    · refine P_aload_n (q := 21) dX8_neighbours_20 rfl rfl ?_
      refine P_iload_n (q := 22) dX8_neighbours_21 rfl rfl ?_
      refine P_iload (q := 24) dX8_neighbours_22 rfl rfl ?_
      refine P_cv1 (q := 27) dX8_neighbours_24 rfl kX8_92 (hb) rfl rfl (by decide) (h0) rfl ⟨by decide, by decide⟩ (Nat.le_of_ble_eq_true rfl) ⟨Nat.le_refl _, Nat.le_refl _⟩ ?_
      refine P_istore (q := 29) (L' := [_, _, _, _, _, _, _, _]) dX8_neighbours_27 rfl (by decide) rfl ?_
      refine P_iload (q := 31) dX8_neighbours_29 rfl rfl ?_
      refine P_iload (q := 33) dX8_neighbours_31 rfl rfl ?_
      refine P_sipush (q := 36) (v := iI (-1005)) dX8_neighbours_33 rfl (by decide +kernel) ?_
      refine P_icmp_eq (q := 39) (tgt := 59) dX8_neighbours_36 rfl (by decide) (fun c_36 => ?_) (fun c_36 => ?_)
      · have c_36 : nI d = iI (-1005) := c_36
        rw [iI_nI, iI_inj (by omega) (by omega) (by omega) (by omega)] at c_36
        omega
      · refine P_iload_n (q := 40) dX8_neighbours_39 rfl rfl ?_
        refine P_if_eq (q := 43) (tgt := 55) dX8_neighbours_40 rfl (by decide) (fun c_40 => ?_) (fun c_40 => ?_)
        · rw [bI_0] at c_40
          refine P_iconst (q := 56) (v := nI 1) dX8_neighbours_55 rfl (by decide +kernel) ?_
          refine P_goto (tgt := 60) dX8_neighbours_56 (by decide) ?_
          refine P_iadd (q := 61) dX8_neighbours_60 rfl ?_
          refine P_istore (q := 63) (L' := [_, _, _, _, _, _, _, _]) dX8_neighbours_61 rfl (by decide) rfl ?_
          exact fin 1 _ (by unfold eqN; rw [if_neg (fun q => by rw [c_40] at q; exact absurd q.1 (by decide))])
        · rw [bI_n] at c_40
          refine P_aload_n (q := 44) dX8_neighbours_43 rfl rfl ?_
          refine P_iload_n (q := 45) dX8_neighbours_44 rfl rfl ?_
          refine P_iload (q := 47) dX8_neighbours_45 rfl rfl ?_
          refine P_cv1 (q := 50) dX8_neighbours_47 rfl kX8_106 (m_spin hM hX (show r < 3 by omega) (show d < 10 by omega)) rfl rfl (by decide) (h0) rfl ⟨by decide, by decide⟩ (Nat.le_of_ble_eq_true rfl) ⟨Nat.le_refl _, Nat.le_refl _⟩ ?_
          refine P_iload (q := 52) dX8_neighbours_50 rfl rfl ?_
          refine P_icmp_ne (q := 55) (tgt := 59) dX8_neighbours_52 rfl (by decide) (fun c_52 => ?_) (fun c_52 => ?_)
          · rw [s_inj] at c_52
            refine P_iconst (q := 60) (v := nI 0) dX8_neighbours_59 rfl (by decide +kernel) ?_
            refine P_iadd (q := 61) dX8_neighbours_60 rfl ?_
            refine P_istore (q := 63) (L' := [_, _, _, _, _, _, _, _]) dX8_neighbours_61 rfl (by decide) rfl ?_
            exact fin 0 _ (by unfold eqN; rw [if_pos ⟨c_40, c_52⟩])
          · rw [s_inj] at c_52
            refine P_iconst (q := 56) (v := nI 1) dX8_neighbours_55 rfl (by decide +kernel) ?_
            refine P_goto (tgt := 60) dX8_neighbours_56 (by decide) ?_
            refine P_iadd (q := 61) dX8_neighbours_60 rfl ?_
            refine P_istore (q := 63) (L' := [_, _, _, _, _, _, _, _]) dX8_neighbours_61 rfl (by decide) rfl ?_
            exact fin 1 _ (by unfold eqN; rw [if_neg (fun q => q.2 c_52)])
set_option maxRecDepth 100000 in
set_option maxHeartbeats 4000000 in
theorem m_nb {σ : Sto} {A : St} (hM : MO σ) (hX : XA σ A) (l : Bool) {r c : Nat} (hr : r < A.R) (hc : c < A.C) : CD mX8_neighbours [.ref 114, .int (nI r), .int (nI c), .int (bI l)] 132 σ (some (.int (nI (A.nb l c r)))) σ := by
  obtain ⟨L, k0, pl, n0, sp0, rc, rr, h0⟩ := id hM
  obtain ⟨hA, g, h1, r0, r1, r2, r3, r4, r5, rs, rf⟩ := id hX
  have hC := hA.1
  have hR := hA.2.1
  refine CP_of (by decide +kernel) (Nat.le_of_ble_eq_true rfl) ?_
  change PW _ _ _ _ 0 [_, _, _, _, _, _, _, _] [] _ _ _ _
  refine P_iconst (q := 1) (v := nI 0) dX8_neighbours_0 rfl (by decide +kernel) ?_
  refine P_istore (q := 3) (L' := [_, _, _, _, _, _, _, _]) dX8_neighbours_1 rfl (by decide) rfl ?_
  refine P_aload_n (q := 4) dX8_neighbours_3 rfl rfl ?_
  refine P_iload_n (q := 5) dX8_neighbours_4 rfl rfl ?_
  refine P_iload_n (q := 6) dX8_neighbours_5 rfl rfl ?_
  refine P_cv1 (q := 9) dX8_neighbours_6 rfl kX8_106 (m_spin hM hX (show r < 3 by omega) (show c < 10 by omega)) rfl rfl (by decide) (h0) rfl ⟨by decide, by decide⟩ (Nat.le_of_ble_eq_true rfl) ⟨Nat.le_refl _, Nat.le_refl _⟩ ?_
  refine P_istore (q := 11) (L' := [_, _, _, _, _, _, _, _]) dX8_neighbours_9 rfl (by decide) rfl ?_
  refine P_iconst (q := 12) (v := iI (-1)) dX8_neighbours_11 rfl (by decide +kernel) ?_
  refine P_istore (q := 14) (L' := [_, _, _, _, _, _, _, _]) dX8_neighbours_12 rfl (by decide) rfl ?_
  refine m_nb1 hM hX hr hc (fun x => ?_)
  refine m_nb2 hM hX hr hc (fun x => ?_)
  refine P_iload (q := 16) dX8_neighbours_14 rfl rfl ?_
  refine P_iconst (q := 17) (v := nI 2) dX8_neighbours_16 rfl (by decide +kernel) ?_
  refine P_icmp_ge (q := 20) (tgt := 108) dX8_neighbours_17 rfl (by decide) (fun c_17 => ?_) (fun c_17 => ?_)
  · refine P_iload (q := 110) dX8_neighbours_108 rfl rfl ?_
    refine P_iret dX8_neighbours_110 rfl (rfl) ?_
    exact ⟨rfl, rfl⟩
  · exact absurd (show nI 2 ≤ iI 3 by decide) c_17
