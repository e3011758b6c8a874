/-! THE REFERENCE: gains, rows copied, history -/
theorem prv_lt {A : St} (hA : A.ok) {c d : Nat} (hc : c < A.C) (h : A.prv c = some d) : d < A.C := by
  have hC := hA.1
  unfold St.prv at h
  split at h
  · cases h; omega
  · split at h
    · cases h; omega
    · cases h
theorem nxt_lt {A : St} {c d : Nat} (hc : c < A.C) (h : A.nxt c = some d) : d < A.C := by
  unfold St.nxt at h
  split at h
  · cases h; omega
  · split at h
    · cases h; omega
    · cases h
set_option maxRecDepth 100000 in
set_option maxHeartbeats 4000000 in
theorem m_gain1 {σ : Sto} {A : St} (hM : MO σ) (hX : XA σ A) {r c : Nat} (hr : r < A.R) (hc : c < A.C) {QQ : Option Value → Sto → Prop} {p : Int} {x : Option Value}
    (K : ∀ x : Option Value, PW mX8_gain 0 0 QQ 10 [some (.ref 114), some (.int (nI r)), some (.int (nI c)), some (.int (iI (p + A.al * A.so (A.prv c) r + A.ac * (if 0 < r then A.s c (r - 1) else 0)))), some (.int (iI 1)), x] [] 132 σ 0 0) : PW mX8_gain 0 0 QQ 10 [some (.ref 114), some (.int (nI r)), some (.int (nI c)), some (.int (iI p)), some (.int (iI (-1))), x] [] 132 σ 0 0 := by
  have hi := m_isRow hM hX (z := ((r : Int) - 1)) (by have := hX.1.2.1; omega) (by have := hX.1.2.1; omega)
  have hb := m_prev hM hX hc
  obtain ⟨L, k0, pl, n0, sp0, rc, rr, h0⟩ := id hM
  obtain ⟨hA, g, h1, r0, r1, r2, r3, r4, r5, rs, rf⟩ := id hX
  have hC := hA.1
  have hR := hA.2.1
  have tail : ∀ (v : Int32) (x : Option Value), v = iI (p + A.al * A.so (A.prv c) r) → PW mX8_gain 0 0 QQ 54 [some (.ref 114), some (.int (nI r)), some (.int (nI c)), some (.int v), some (.int (iI (-1))), x] [] 132 σ 0 0 := by
    intro v x e
    subst e
    have fin : ∀ (v : Int32) (x : Option Value), v = iI (A.ac * (if 0 < r then A.s c (r - 1) else 0)) → PW mX8_gain 0 0 QQ 10 [some (.ref 114), some (.int (nI r)), some (.int (nI c)), some (.int (iI (p + A.al * A.so (A.prv c) r) + v)), some (.int (iI 1)), x] [] 132 σ 0 0 := fun v x e => by
      rw [e, iI_add]
      exact K x
    refine P_iload_n (q := 55) dX8_gain_54 rfl rfl ?_
    refine P_aload_n (q := 56) dX8_gain_55 rfl rfl ?_
    refine P_iload_n (q := 57) dX8_gain_56 rfl rfl ?_
    refine P_iload (q := 59) dX8_gain_57 rfl rfl ?_
    refine P_iadd (q := 60) dX8_gain_59 rfl ?_
    rw [show nI r + iI (-1) = iI ((r : Int) - 1) from by rw [iI_nI, iI_add]; rfl]
    refine P_cv1 (q := 63) dX8_gain_60 rfl kX8_109 (hi) rfl rfl (by decide) (h0) rfl ⟨by decide, by decide⟩ (Nat.le_of_ble_eq_true rfl) ⟨Nat.le_refl _, Nat.le_refl _⟩ ?_
    refine P_if_eq (q := 66) (tgt := 85) dX8_gain_63 rfl (by decide) (fun c_63 => ?_) (fun c_63 => ?_)
    · rw [bI_0] at c_63
      have c_63 := of_decide_eq_false c_63
      refine P_iconst (q := 86) (v := nI 0) dX8_gain_85 rfl (by decide +kernel) ?_
      refine P_iadd (q := 87) dX8_gain_86 rfl ?_
      refine P_istore_n (q := 88) (L' := [_, _, _, _, _, _]) dX8_gain_87 rfl (by decide) rfl ?_
      refine P_iinc (q := 91) (L' := [_, _, _, _, _, _]) (v := (iI 1)) dX8_gain_88 rfl (by decide) rfl (by decide) rfl ?_
      refine P_goto (tgt := 10) dX8_gain_91 (by decide) ?_
      first
        | exact fin _ _ (by rw [if_pos (show 0 < r by omega), iI_mul])
        | exact fin _ _ (by rw [if_neg (show ¬ 0 < r by omega), Int.mul_zero]; rfl)
    · rw [bI_n] at c_63
      have c_63 := of_decide_eq_true c_63
      refine P_aload_n (q := 67) dX8_gain_66 rfl rfl ?_
      refine P_get (q := 70) dX8_gain_67 rfl fX8_7 (by decide) (h0) rfl ?_
      refine P_iconst (q := 71) (v := nI 4) dX8_gain_70 rfl (by decide +kernel) ?_
      refine P_iald (q := 72) (j := 4) dX8_gain_71 rfl (by decide) (h1) (rfl) (by omega) (by decide) ?_
      rw [r4]
      refine P_aload_n (q := 73) dX8_gain_72 rfl rfl ?_
      refine P_iload_n (q := 74) dX8_gain_73 rfl rfl ?_
      refine P_iload (q := 76) dX8_gain_74 rfl rfl ?_
      refine P_iadd (q := 77) dX8_gain_76 rfl ?_
      rw [show nI r + iI (-1) = iI ((r : Int) - 1) from by rw [iI_nI, iI_add]; rfl]
      rw [show iI ((r : Int) - 1) = nI (r - 1) from by rw [iI_nI]; first | rfl | (congr 1; omega)]
      refine P_iload_n (q := 78) dX8_gain_77 rfl rfl ?_
      refine P_cv1 (q := 81) dX8_gain_78 rfl kX8_106 (m_spin hM hX (show r - 1 < 3 by omega) (by omega)) rfl rfl (by decide) (h0) rfl ⟨by decide, by decide⟩ (Nat.le_of_ble_eq_true rfl) ⟨Nat.le_refl _, Nat.le_refl _⟩ ?_
      refine P_imul (q := 82) dX8_gain_81 rfl ?_
      refine P_goto (tgt := 86) dX8_gain_82 (by decide) ?_
      refine P_iadd (q := 87) dX8_gain_86 rfl ?_
      refine P_istore_n (q := 88) (L' := [_, _, _, _, _, _]) dX8_gain_87 rfl (by decide) rfl ?_
      refine P_iinc (q := 91) (L' := [_, _, _, _, _, _]) (v := (iI 1)) dX8_gain_88 rfl (by decide) rfl (by decide) rfl ?_
      refine P_goto (tgt := 10) dX8_gain_91 (by decide) ?_
      first
        | exact fin _ _ (by rw [if_pos (show 0 < r by omega), iI_mul])
        | exact fin _ _ (by rw [if_neg (show ¬ 0 < r by omega), Int.mul_zero]; rfl)
  cases hn : A.prv c with
  | none =>
    rw [hn] at hb tail
    refine P_iload (q := 12) dX8_gain_10 rfl rfl ?_
    refine P_iconst (q := 13) (v := nI 2) dX8_gain_12 rfl (by decide +kernel) ?_
    refine P_icmp_ge (q := 16) (tgt := 94) dX8_gain_13 rfl (by decide) (fun c_13 => ?_) (fun c_13 => ?_)
    · exact absurd c_13 (by decide)
    · refine P_aload_n (q := 17) dX8_gain_16 rfl rfl ?_
      refine P_iload_n (q := 18) dX8_gain_17 rfl rfl ?_
      refine P_iload (q := 20) dX8_gain_18 rfl rfl ?_
      refine P_cv1 (q := 23) dX8_gain_20 rfl kX8_92 (hb) rfl rfl (by decide) (h0) rfl ⟨by decide, by decide⟩ (Nat.le_of_ble_eq_true rfl) ⟨Nat.le_refl _, Nat.le_refl _⟩ ?_
      refine P_istore (q := 25) (L' := [_, _, _, _, _, _]) dX8_gain_23 rfl (by decide) rfl ?_
      refine P_iload_n (q := 26) dX8_gain_25 rfl rfl ?_
      refine P_iload (q := 28) dX8_gain_26 rfl rfl ?_
      refine P_sipush (q := 31) (v := iI (-1005)) dX8_gain_28 rfl (by decide +kernel) ?_
      refine P_icmp_ne (q := 34) (tgt := 38) dX8_gain_31 rfl (by decide) (fun c_31 => ?_) (fun c_31 => ?_)
      · exact absurd rfl c_31
      · refine P_iconst (q := 35) (v := nI 0) dX8_gain_34 rfl (by decide +kernel) ?_
        refine P_goto (tgt := 52) dX8_gain_35 (by decide) ?_
        refine P_iadd (q := 53) dX8_gain_52 rfl ?_
        refine P_istore_n (q := 54) (L' := [_, _, _, _, _, _]) dX8_gain_53 rfl (by decide) rfl ?_
        exact tail _ _ (by show iI p + nI 0 = iI (p + A.al * 0); rw [iI_nI, iI_add, Int.mul_zero]; rfl)
  | some d =>
    have hd : d < A.C := prv_lt hA hc hn
    rw [hn] at hb tail
    refine P_iload (q := 12) dX8_gain_10 rfl rfl ?_
    refine P_iconst (q := 13) (v := nI 2) dX8_gain_12 rfl (by decide +kernel) ?_
    refine P_icmp_ge (q := 16) (tgt := 94) dX8_gain_13 rfl (by decide) (fun c_13 => ?_) (fun c_13 => ?_)
    · exact absurd c_13 (by decide)
    · refine P_aload_n (q := 17) dX8_gain_16 rfl rfl ?_
      refine P_iload_n (q := 18) dX8_gain_17 rfl rfl ?_
      refine P_iload (q := 20) dX8_gain_18 rfl rfl ?_
      refine P_cv1 (q := 23) dX8_gain_20 rfl kX8_92 (hb) rfl rfl (by decide) (h0) rfl ⟨by decide, by decide⟩ (Nat.le_of_ble_eq_true rfl) ⟨Nat.le_refl _, Nat.le_refl _⟩ ?_
      refine P_istore (q := 25) (L' := [_, _, _, _, _, _]) dX8_gain_23 rfl (by decide) rfl ?_
      refine P_iload_n (q := 26) dX8_gain_25 rfl rfl ?_
      refine P_iload (q := 28) dX8_gain_26 rfl rfl ?_
      refine P_sipush (q := 31) (v := iI (-1005)) dX8_gain_28 rfl (by decide +kernel) ?_
      refine P_icmp_ne (q := 34) (tgt := 38) dX8_gain_31 rfl (by decide) (fun c_31 => ?_) (fun c_31 => ?_)
      · refine P_aload_n (q := 39) dX8_gain_38 rfl rfl ?_
        refine P_get (q := 42) dX8_gain_39 rfl fX8_7 (by decide) (h0) rfl ?_
        refine P_iconst (q := 43) (v := nI 3) dX8_gain_42 rfl (by decide +kernel) ?_
        refine P_iald (q := 44) (j := 3) dX8_gain_43 rfl (by decide) (h1) (rfl) (by omega) (by decide) ?_
        rw [r3]
        refine P_aload_n (q := 45) dX8_gain_44 rfl rfl ?_
        refine P_iload_n (q := 46) dX8_gain_45 rfl rfl ?_
        refine P_iload (q := 48) dX8_gain_46 rfl rfl ?_
        refine P_cv1 (q := 51) dX8_gain_48 rfl kX8_106 (m_spin hM hX (show r < 3 by omega) (show d < 10 by omega)) rfl rfl (by decide) (h0) rfl ⟨by decide, by decide⟩ (Nat.le_of_ble_eq_true rfl) ⟨Nat.le_refl _, Nat.le_refl _⟩ ?_
        refine P_imul (q := 52) dX8_gain_51 rfl ?_
        refine P_iadd (q := 53) dX8_gain_52 rfl ?_
        refine P_istore_n (q := 54) (L' := [_, _, _, _, _, _]) dX8_gain_53 rfl (by decide) rfl ?_
        exact tail _ _ (by show iI p + iI A.al * iI (A.s d r) = iI (p + A.al * A.s d r); rw [iI_mul, iI_add])
      · have c_31 : nI d = iI (-1005) := c_31
        rw [iI_nI, iI_inj (by omega) (by omega) (by omega) (by omega)] at c_31
        omega
set_option maxRecDepth 100000 in
set_option maxHeartbeats 4000000 in
theorem m_gain2 {σ : Sto} {A : St} (hM : MO σ) (hX : XA σ A) {r c : Nat} (hr : r < A.R) (hc : c < A.C) {QQ : Option Value → Sto → Prop} {p : Int} {x : Option Value}
    (K : ∀ x : Option Value, PW mX8_gain 0 0 QQ 10 [some (.ref 114), some (.int (nI r)), some (.int (nI c)), some (.int (iI (p + A.al * A.so (A.nxt c) r + A.ac * (if r + 1 < A.R then A.s c (r + 1) else 0)))), some (.int (iI 3)), x] [] 132 σ 0 0) : PW mX8_gain 0 0 QQ 10 [some (.ref 114), some (.int (nI r)), some (.int (nI c)), some (.int (iI p)), some (.int (iI 1)), x] [] 132 σ 0 0 := by
  have hi := m_isRow hM hX (z := ((r : Int) + 1)) (by have := hX.1.2.1; omega) (by have := hX.1.2.1; omega)
  have hb := m_next hM hX hc
  obtain ⟨L, k0, pl, n0, sp0, rc, rr, h0⟩ := id hM
  obtain ⟨hA, g, h1, r0, r1, r2, r3, r4, r5, rs, rf⟩ := id hX
  have hC := hA.1
  have hR := hA.2.1
  have tail : ∀ (v : Int32) (x : Option Value), v = iI (p + A.al * A.so (A.nxt c) r) → PW mX8_gain 0 0 QQ 54 [some (.ref 114), some (.int (nI r)), some (.int (nI c)), some (.int v), some (.int (iI 1)), x] [] 132 σ 0 0 := by
    intro v x e
    subst e
    have fin : ∀ (v : Int32) (x : Option Value), v = iI (A.ac * (if r + 1 < A.R then A.s c (r + 1) else 0)) → PW mX8_gain 0 0 QQ 10 [some (.ref 114), some (.int (nI r)), some (.int (nI c)), some (.int (iI (p + A.al * A.so (A.nxt c) r) + v)), some (.int (iI 3)), x] [] 132 σ 0 0 := fun v x e => by
      rw [e, iI_add]
      exact K x
    refine P_iload_n (q := 55) dX8_gain_54 rfl rfl ?_
    refine P_aload_n (q := 56) dX8_gain_55 rfl rfl ?_
    refine P_iload_n (q := 57) dX8_gain_56 rfl rfl ?_
    refine P_iload (q := 59) dX8_gain_57 rfl rfl ?_
    refine P_iadd (q := 60) dX8_gain_59 rfl ?_
    rw [show nI r + iI 1 = iI ((r : Int) + 1) from by rw [iI_nI, iI_add]]
    refine P_cv1 (q := 63) dX8_gain_60 rfl kX8_109 (hi) rfl rfl (by decide) (h0) rfl ⟨by decide, by decide⟩ (Nat.le_of_ble_eq_true rfl) ⟨Nat.le_refl _, Nat.le_refl _⟩ ?_
    refine P_if_eq (q := 66) (tgt := 85) dX8_gain_63 rfl (by decide) (fun c_63 => ?_) (fun c_63 => ?_)
    · rw [bI_0] at c_63
      have c_63 := of_decide_eq_false c_63
      refine P_iconst (q := 86) (v := nI 0) dX8_gain_85 rfl (by decide +kernel) ?_
      refine P_iadd (q := 87) dX8_gain_86 rfl ?_
      refine P_istore_n (q := 88) (L' := [_, _, _, _, _, _]) dX8_gain_87 rfl (by decide) rfl ?_
      refine P_iinc (q := 91) (L' := [_, _, _, _, _, _]) (v := (iI 3)) dX8_gain_88 rfl (by decide) rfl (by decide) rfl ?_
      refine P_goto (tgt := 10) dX8_gain_91 (by decide) ?_
      first
        | exact fin _ _ (by rw [if_pos (show r + 1 < A.R by omega), iI_mul])
        | exact fin _ _ (by rw [if_neg (show ¬ r + 1 < A.R by omega), Int.mul_zero]; rfl)
    · rw [bI_n] at c_63
      have c_63 := of_decide_eq_true c_63
      refine P_aload_n (q := 67) dX8_gain_66 rfl rfl ?_
      refine P_get (q := 70) dX8_gain_67 rfl fX8_7 (by decide) (h0) rfl ?_
      refine P_iconst (q := 71) (v := nI 4) dX8_gain_70 rfl (by decide +kernel) ?_
      refine P_iald (q := 72) (j := 4) dX8_gain_71 rfl (by decide) (h1) (rfl) (by omega) (by decide) ?_
      rw [r4]
      refine P_aload_n (q := 73) dX8_gain_72 rfl rfl ?_
      refine P_iload_n (q := 74) dX8_gain_73 rfl rfl ?_
      refine P_iload (q := 76) dX8_gain_74 rfl rfl ?_
      refine P_iadd (q := 77) dX8_gain_76 rfl ?_
      rw [show nI r + iI 1 = iI ((r : Int) + 1) from by rw [iI_nI, iI_add]]
      rw [show iI ((r : Int) + 1) = nI (r + 1) from by rw [iI_nI]; first | rfl | (congr 1; omega)]
      refine P_iload_n (q := 78) dX8_gain_77 rfl rfl ?_
      refine P_cv1 (q := 81) dX8_gain_78 rfl kX8_106 (m_spin hM hX (show r + 1 < 3 by omega) (by omega)) rfl rfl (by decide) (h0) rfl ⟨by decide, by decide⟩ (Nat.le_of_ble_eq_true rfl) ⟨Nat.le_refl _, Nat.le_refl _⟩ ?_
      refine P_imul (q := 82) dX8_gain_81 rfl ?_
      refine P_goto (tgt := 86) dX8_gain_82 (by decide) ?_
      refine P_iadd (q := 87) dX8_gain_86 rfl ?_
      refine P_istore_n (q := 88) (L' := [_, _, _, _, _, _]) dX8_gain_87 rfl (by decide) rfl ?_
      refine P_iinc (q := 91) (L' := [_, _, _, _, _, _]) (v := (iI 3)) dX8_gain_88 rfl (by decide) rfl (by decide) rfl ?_
      refine P_goto (tgt := 10) dX8_gain_91 (by decide) ?_
      first
        | exact fin _ _ (by rw [if_pos (show r + 1 < A.R by omega), iI_mul])
        | exact fin _ _ (by rw [if_neg (show ¬ r + 1 < A.R by omega), Int.mul_zero]; rfl)
  cases hn : A.nxt c with
  | none =>
    rw [hn] at hb tail
    refine P_iload (q := 12) dX8_gain_10 rfl rfl ?_
    refine P_iconst (q := 13) (v := nI 2) dX8_gain_12 rfl (by decide +kernel) ?_
    refine P_icmp_ge (q := 16) (tgt := 94) dX8_gain_13 rfl (by decide) (fun c_13 => ?_) (fun c_13 => ?_)
    · exact absurd c_13 (by decide)
    · refine P_aload_n (q := 17) dX8_gain_16 rfl rfl ?_
      refine P_iload_n (q := 18) dX8_gain_17 rfl rfl ?_
      refine P_iload (q := 20) dX8_gain_18 rfl rfl ?_
      refine P_cv1 (q := 23) dX8_gain_20 rfl kX8_92 (hb) rfl rfl (by decide) (h0) rfl ⟨by decide, by decide⟩ (Nat.le_of_ble_eq_true rfl) ⟨Nat.le_refl _, Nat.le_refl _⟩ ?_
      refine P_istore (q := 25) (L' := [_, _, _, _, _, _]) dX8_gain_23 rfl (by decide) rfl ?_
      refine P_iload_n (q := 26) dX8_gain_25 rfl rfl ?_
      refine P_iload (q := 28) dX8_gain_26 rfl rfl ?_
      refine P_sipush (q := 31) (v := iI (-1005)) dX8_gain_28 rfl (by decide +kernel) ?_
      refine P_icmp_ne (q := 34) (tgt := 38) dX8_gain_31 rfl (by decide) (fun c_31 => ?_) (fun c_31 => ?_)
      · exact absurd rfl c_31
      · refine P_iconst (q := 35) (v := nI 0) dX8_gain_34 rfl (by decide +kernel) ?_
        refine P_goto (tgt := 52) dX8_gain_35 (by decide) ?_
        refine P_iadd (q := 53) dX8_gain_52 rfl ?_
        refine P_istore_n (q := 54) (L' := [_, _, _, _, _, _]) dX8_gain_53 rfl (by decide) rfl ?_
        exact tail _ _ (by show iI p + nI 0 = iI (p + A.al * 0); rw [iI_nI, iI_add, Int.mul_zero]; rfl)
  | some d =>
    have hd : d < A.C := nxt_lt hc hn
    rw [hn] at hb tail
    refine P_iload (q := 12) dX8_gain_10 rfl rfl ?_
    refine P_iconst (q := 13) (v := nI 2) dX8_gain_12 rfl (by decide +kernel) ?_
    refine P_icmp_ge (q := 16) (tgt := 94) dX8_gain_13 rfl (by decide) (fun c_13 => ?_) (fun c_13 => ?_)
    · exact absurd c_13 (by decide)
    · refine P_aload_n (q := 17) dX8_gain_16 rfl rfl ?_
      refine P_iload_n (q := 18) dX8_gain_17 rfl rfl ?_
      refine P_iload (q := 20) dX8_gain_18 rfl rfl ?_
      refine P_cv1 (q := 23) dX8_gain_20 rfl kX8_92 (hb) rfl rfl (by decide) (h0) rfl ⟨by decide, by decide⟩ (Nat.le_of_ble_eq_true rfl) ⟨Nat.le_refl _, Nat.le_refl _⟩ ?_
      refine P_istore (q := 25) (L' := [_, _, _, _, _, _]) dX8_gain_23 rfl (by decide) rfl ?_
      refine P_iload_n (q := 26) dX8_gain_25 rfl rfl ?_
      refine P_iload (q := 28) dX8_gain_26 rfl rfl ?_
      refine P_sipush (q := 31) (v := iI (-1005)) dX8_gain_28 rfl (by decide +kernel) ?_
      refine P_icmp_ne (q := 34) (tgt := 38) dX8_gain_31 rfl (by decide) (fun c_31 => ?_) (fun c_31 => ?_)
      · refine P_aload_n (q := 39) dX8_gain_38 rfl rfl ?_
        refine P_get (q := 42) dX8_gain_39 rfl fX8_7 (by decide) (h0) rfl ?_
        refine P_iconst (q := 43) (v := nI 3) dX8_gain_42 rfl (by decide +kernel) ?_
        refine P_iald (q := 44) (j := 3) dX8_gain_43 rfl (by decide) (h1) (rfl) (by omega) (by decide) ?_
        rw [r3]
        refine P_aload_n (q := 45) dX8_gain_44 rfl rfl ?_
        refine P_iload_n (q := 46) dX8_gain_45 rfl rfl ?_
        refine P_iload (q := 48) dX8_gain_46 rfl rfl ?_
        refine P_cv1 (q := 51) dX8_gain_48 rfl kX8_106 (m_spin hM hX (show r < 3 by omega) (show d < 10 by omega)) rfl rfl (by decide) (h0) rfl ⟨by decide, by decide⟩ (Nat.le_of_ble_eq_true rfl) ⟨Nat.le_refl _, Nat.le_refl _⟩ ?_
        refine P_imul (q := 52) dX8_gain_51 rfl ?_
        refine P_iadd (q := 53) dX8_gain_52 rfl ?_
        refine P_istore_n (q := 54) (L' := [_, _, _, _, _, _]) dX8_gain_53 rfl (by decide) rfl ?_
        exact tail _ _ (by show iI p + iI A.al * iI (A.s d r) = iI (p + A.al * A.s d r); rw [iI_mul, iI_add])
      · have c_31 : nI d = iI (-1005) := c_31
        rw [iI_nI, iI_inj (by omega) (by omega) (by omega) (by omega)] at c_31
        omega
set_option maxRecDepth 100000 in
set_option maxHeartbeats 4000000 in
theorem m_gain {σ : Sto} {A : St} (hM : MO σ) (hX : XA σ A) {r c : Nat} (hr : r < A.R) (hc : c < A.C) : CD mX8_gain [.ref 114, .int (nI r), .int (nI c)] 132 σ (some (.int (iI (A.gain c r)))) σ := by
  obtain ⟨L, k0, pl, n0, sp0, rc, rr, h0⟩ := id hM
  obtain ⟨hA, g, h1, r0, r1, r2, r3, r4, r5, rs, rf⟩ := id hX
  have hC := hA.1
  have hR := hA.2.1
  refine CP_of (by decide +kernel) (Nat.le_of_ble_eq_true rfl) ?_
  change PW _ _ _ _ 0 [_, _, _, _, _, _] [] _ _ _ _
  refine P_aload_n (q := 1) dX8_gain_0 rfl rfl ?_
  refine P_iload_n (q := 2) dX8_gain_1 rfl rfl ?_
  refine P_iload_n (q := 3) dX8_gain_2 rfl rfl ?_
  refine P_cv1 (q := 6) dX8_gain_3 rfl kX8_89 (m_fieldAt hM hX hr hc) rfl rfl (by decide) (h0) rfl ⟨by decide, by decide⟩ (Nat.le_of_ble_eq_true rfl) ⟨Nat.le_refl _, Nat.le_refl _⟩ ?_
  refine P_istore_n (q := 7) (L' := [_, _, _, _, _, _]) dX8_gain_6 rfl (by decide) rfl ?_
  refine P_iconst (q := 8) (v := iI (-1)) dX8_gain_7 rfl (by decide +kernel) ?_
  refine P_istore (q := 10) (L' := [_, _, _, _, _, _]) dX8_gain_8 rfl (by decide) rfl ?_
  refine m_gain1 hM hX hr hc (fun x => ?_)
  refine m_gain2 hM hX hr hc (fun x => ?_)
  refine P_iload (q := 12) dX8_gain_10 rfl rfl ?_
  refine P_iconst (q := 13) (v := nI 2) dX8_gain_12 rfl (by decide +kernel) ?_
  refine P_icmp_ge (q := 16) (tgt := 94) dX8_gain_13 rfl (by decide) (fun c_13 => ?_) (fun c_13 => ?_)
  · refine P_bipush (q := 96) (v := iI (-2)) dX8_gain_94 rfl (by decide +kernel) ?_
    refine P_aload_n (q := 97) dX8_gain_96 rfl rfl ?_
    refine P_iload_n (q := 98) dX8_gain_97 rfl rfl ?_
    refine P_iload_n (q := 99) dX8_gain_98 rfl rfl ?_
    refine P_cv1 (q := 102) dX8_gain_99 rfl kX8_106 (m_spin hM hX (show r < 3 by omega) (show c < 10 by omega)) rfl rfl (by decide) (h0) rfl ⟨by decide, by decide⟩ (Nat.le_of_ble_eq_true rfl) ⟨Nat.le_refl _, Nat.le_refl _⟩ ?_
    refine P_imul (q := 103) dX8_gain_102 rfl ?_
    refine P_iload_n (q := 104) dX8_gain_103 rfl rfl ?_
    refine P_imul (q := 105) dX8_gain_104 rfl ?_
    refine P_iret dX8_gain_105 rfl (rfl) ?_
    exact ⟨rv_i (by rw [iI_mul, iI_mul]; unfold St.gain St.sA St.sX; congr 2; rw [Int.mul_add, Int.mul_add]; omega), rfl⟩
  · exact absurd (show nI 2 ≤ iI 3 by decide) c_13
