variable {eN : Nat}
/-! PRICES of a strip -/
def St.ag (A : St) (c k r : Nat) : Nat := if (if k.testBit r then decide (A.fd c r < 0) else decide (0 < A.fd c r)) = true then (A.fd c r).natAbs else 0
def St.fdp (A : St) (c k n : Nat) : Nat := sumN n (A.ag c k)
def St.fdr (A : St) (c n : Nat) : Nat := sumN n (fun r => (A.fd c r).natAbs)
theorem sumN_le {n : Nat} {f g : Nat → Nat} (h : ∀ i, i < n → f i ≤ g i) : sumN n f ≤ sumN n g := by
  induction n with
  | zero => exact Nat.le_refl _
  | succ n ih =>
    have h1 := ih (fun i hi => h i (by omega))
    have h2 := h n (by omega)
    rw [sumN, sumN]; omega
theorem sumN_const (n b : Nat) : sumN n (fun _ => b) = n * b := by
  induction n with
  | zero => simp [sumN]
  | succ n ih => rw [sumN, ih, Nat.succ_mul]
theorem St.fdp_le (A : St) (c k n : Nat) : A.fdp c k n ≤ A.fdr c n := sumN_le fun r _ => by
  unfold St.ag
  split <;> split <;> first | exact Nat.le_refl _ | exact Nat.zero_le _
theorem St.fdr_le {A : St} (hA : A.ok) (c n : Nat) (hn : n ≤ 3) : A.fdr c n ≤ 9 := by
  have h : A.fdr c n ≤ sumN n (fun _ => 3) := sumN_le fun r _ => by
    have := hA.2.2.2.2.2.2.2 c r
    omega
  rw [sumN_const] at h
  omega
def kb : Nat → Nat → Bool := fun k r => decide ((nI k >>> (nI r &&& 31)) &&& nI 1 = nI (if k.testBit r then 1 else 0))
theorem kb_all : ((List.range 8).all fun k => (List.range 3).all fun r => kb k r) = true := by decide +kernel
theorem kb_dec {k r : Nat} (hk : k < 8) (hr : r < 3) : (nI k >>> (nI r &&& 31)) &&& nI 1 = nI (if k.testBit r then 1 else 0) :=
  of_decide_eq_true (List.all_eq_true.mp (List.all_eq_true.mp kb_all k (List.mem_range.mpr hk)) r (List.mem_range.mpr hr))
/-- what the columns cost while the fields of the column c are added: n of its rows are through, and a further one for the kinds before j -/
def St.FM (A : St) (ca : Nat → Nat) (c n j : Nat) : Nat → Nat → Nat := fun i y => ca y + (if i < c then A.fdp i y A.R else if i = c then (if y < j then A.fdp i y (n + 1) else A.fdp i y n) else 0)
theorem St.FM_next {A : St} {ca : Nat → Nat} {c n J i y : Nat} (h : y < J) : A.FM ca c (n + 1) 0 i y = A.FM ca c n J i y := by
  unfold St.FM
  by_cases e1 : i < c
  · rw [if_pos e1, if_pos e1]
  · rw [if_neg e1, if_neg e1]
    by_cases e2 : i = c
    · rw [if_pos e2, if_pos e2, if_neg (by omega), if_pos h]
    · rw [if_neg e2, if_neg e2]
theorem St.FM_col {A : St} {ca : Nat → Nat} {c i y : Nat} : A.FM ca (c + 1) 0 0 i y = A.FM ca c A.R 0 i y := by
  unfold St.FM
  by_cases e1 : i < c
  · rw [if_pos e1, if_pos (by omega)]
  · rw [if_neg e1]
    by_cases e2 : i = c
    · rw [if_pos e2, if_pos (by omega), if_neg (by omega)]
    · rw [if_neg e2, if_neg (by omega)]
      by_cases e3 : i = c + 1
      · rw [if_pos e3, if_neg (by omega)]; rfl
      · rw [if_neg e3]
set_option maxRecDepth 100000 in
set_option maxHeartbeats 4000000 in
theorem w_pf1 {σ0 : Sto} {A : St} {f : Nat → Int32} {b c : Nat} {v3 v4 : Value} {ca : Nat → Nat} (hA : A.ok) (h1 : σ0 1 = stO A 2) (h2 : σ0 2 = pI .int 40 f) (hf : stF A f) (hb : b = 4 ∨ b = 26) (hc : c < A.C) (h0 : σ0 b = prX A.C A.R v3 v4 b) {r : Nat} (hr : r < A.R) (K : ∀ σ, same σ0 σ (fun i => b + 3 ≤ i ∧ i ≤ b + 12) → GP σ (b + 2) 10 8 (fun i j => i < A.C ∧ j < 2 ^ A.R) (A.FM ca c (r + 1) 0) → ∀ x5 x6 x7 : Option Value, PW mX3_priceFields 0 0 (fun v σ' => v = some (.int (nI (A.fdr c A.R))) ∧ same σ0 σ' (fun i => b + 3 ≤ i ∧ i ≤ b + 12) ∧ GP σ' (b + 2) 10 8 (fun i j => i < A.C ∧ j < 2 ^ A.R) (A.FM ca (c + 1) 0 0)) 5 [some (.ref b), some (.ref 1), some (.int (nI c)), some (.int (nI (A.fdr c (r + 1)))), some (.int (nI (r + 1))), x5, x6, x7] [] (eN + 114) σ 0 0) : ∀ n j, j + n = 2 ^ A.R → ∀ σ, same σ0 σ (fun i => b + 3 ≤ i ∧ i ≤ b + 12) → GP σ (b + 2) 10 8 (fun i j => i < A.C ∧ j < 2 ^ A.R) (A.FM ca c r j) → ∀ x7 : Option Value, PW mX3_priceFields 0 0 (fun v σ' => v = some (.int (nI (A.fdr c A.R))) ∧ same σ0 σ' (fun i => b + 3 ≤ i ∧ i ≤ b + 12) ∧ GP σ' (b + 2) 10 8 (fun i j => i < A.C ∧ j < 2 ^ A.R) (A.FM ca (c + 1) 0 0)) 26 [some (.ref b), some (.ref 1), some (.int (nI c)), some (.int (nI (A.fdr c r))), some (.int (nI r)), some (.int (iI (A.fd c r))), some (.int (nI j)), x7] [] (eN + 114) σ 0 0 := by
  have hC := hA.1.2
  have hR := hA.2.1.2
  have h8 := pow8 hR
  have hfd := hA.2.2.2.2.2.2.2 c r
  intro n
  induction n with
  | zero =>
    intro j hj σ hs hG x7
    have e : j = 2 ^ A.R := by omega
    subst e
    have hb0 := (hs b (by omega)).trans h0
    refine P_iload (q := 28) dX3_priceFields_26 rfl rfl ?_
    refine P_aload_n (q := 29) dX3_priceFields_28 rfl rfl ?_
    refine P_get (q := 32) dX3_priceFields_29 rfl fX3_18 (by omega) (hb0) rfl ?_
    refine P_icmp_ge (q := 35) (tgt := 94) dX3_priceFields_32 rfl (by first | decide | exact lt_c (by decide)) (fun c_32 => ?_) (fun c_32 => ?_)
    · rw [nI_leI (by omega) (by omega)] at c_32
      refine P_iload_n (q := 95) dX3_priceFields_94 rfl rfl ?_
      refine P_iload (q := 97) dX3_priceFields_95 rfl rfl ?_
      refine P_mabs (q := 100) dX3_priceFields_97 rfl kX3_60 (by first | decide | exact lt_c (by decide)) (Nat.le_of_ble_eq_true rfl) ⟨Nat.le_refl _, Nat.le_refl _⟩ ?_
      rw [abs_i (by omega) (by omega)]
      refine P_iadd (q := 101) dX3_priceFields_100 rfl ?_
      rw [nI_add]
      refine P_istore_n (q := 102) (L' := [_, _, _, _, _, _, _, _]) dX3_priceFields_101 rfl (by first | decide | exact lt_c (by decide)) rfl ?_
      refine P_iinc (q := 105) (L' := [_, _, _, _, _, _, _, _]) (v := nI (r + 1)) dX3_priceFields_102 rfl (by first | decide | exact lt_c (by decide)) rfl (nI_1 r) rfl ?_
      refine P_goto (tgt := 5) dX3_priceFields_105 (by first | decide | exact lt_c (by decide)) ?_
      exact K σ hs (hG.imp (fun i j h => ⟨h, St.FM_next h.2⟩)) _ _ _
    · exfalso; rw [nI_leI (by omega) (by omega)] at c_32; omega
  | succ n ih =>
    intro j hj σ hs hG x7
    have hb0 := (hs b (by omega)).trans h0
    obtain ⟨g, g1, g2⟩ := hG.2 c (by omega)
    have g3 := g2 j ⟨hc, by omega⟩
    have hkb := kb_dec (k := j) (r := r) (by omega) (by omega)
    have hno : A.ag c j r = 0 → GP σ (b + 2) 10 8 (fun i j => i < A.C ∧ j < 2 ^ A.R) (A.FM ca c r (j + 1)) := fun h0 => hG.imp (fun i y h => ⟨h, by
      unfold St.FM
      by_cases e1 : i < c
      · rw [if_pos e1, if_pos e1]
      · rw [if_neg e1, if_neg e1]
        by_cases e2 : i = c
        · rw [if_pos e2, if_pos e2]
          by_cases e3 : y < j
          · rw [if_pos e3, if_pos (by omega)]
          · rw [if_neg e3]
            by_cases e4 : y = j
            · rw [if_pos (by omega)]; subst e4; subst e2; unfold St.fdp; rw [sumN, h0]; rfl
            · rw [if_neg (by omega)]
        · rw [if_neg e2, if_neg e2]⟩)
    have hyes : ∀ w : Int32, A.ag c j r = (A.fd c r).natAbs → w = nI (A.FM ca c r j c j + (A.fd c r).natAbs) → GP (va_up σ (b + 2 + 1 + c) (pI .int 8 (upd g j w))) (b + 2) 10 8 (fun i j => i < A.C ∧ j < 2 ^ A.R) (A.FM ca c r (j + 1)) := fun w h0 hw => hG.set g1 (by omega) (fun i y h => by
      by_cases e : i = c ∧ y = j
      · refine Or.inl ⟨e.1, e.2, ?_⟩
        rw [e.1, e.2, hw]
        unfold St.FM
        rw [if_neg (by omega), if_pos rfl, if_neg (by omega), if_neg (by omega), if_pos rfl, if_pos (by omega)]
        unfold St.fdp
        rw [sumN, h0, Nat.add_assoc]
      · refine Or.inr ⟨e, h, ?_⟩
        unfold St.FM
        by_cases e1 : i < c
        · rw [if_pos e1, if_pos e1]
        · rw [if_neg e1, if_neg e1]
          by_cases e2 : i = c
          · rw [if_pos e2, if_pos e2]
            by_cases e3 : y < j
            · rw [if_pos e3, if_pos (by omega)]
            · rw [if_neg e3, if_neg (by omega)]
          · rw [if_neg e2, if_neg e2])
    refine P_iload (q := 28) dX3_priceFields_26 rfl rfl ?_
    refine P_aload_n (q := 29) dX3_priceFields_28 rfl rfl ?_
    refine P_get (q := 32) dX3_priceFields_29 rfl fX3_18 (by omega) (hb0) rfl ?_
    refine P_icmp_ge (q := 35) (tgt := 94) dX3_priceFields_32 rfl (by first | decide | exact lt_c (by decide)) (fun c_32 => ?_) (fun c_32 => ?_)
    · exfalso; rw [nI_leI (by omega) (by omega)] at c_32; omega
    · rw [nI_leI (by omega) (by omega)] at c_32
      refine P_iload (q := 37) dX3_priceFields_35 rfl rfl ?_
      refine P_iload (q := 39) dX3_priceFields_37 rfl rfl ?_
      refine P_ishr (q := 40) dX3_priceFields_39 rfl ?_
      refine P_iconst (q := 41) (v := nI 1) dX3_priceFields_40 rfl (by decide +kernel) ?_
      refine P_iand (q := 42) dX3_priceFields_41 rfl ?_
      refine P_iconst (q := 43) (v := nI 1) dX3_priceFields_42 rfl (by decide +kernel) ?_
      refine P_icmp_ne (q := 46) (tgt := 50) dX3_priceFields_43 rfl (by first | decide | exact lt_c (by decide)) (fun c_43 => ?_) (fun c_43 => ?_)
      · rw [hkb] at c_43
        have hbit : j.testBit r = false := by cases hq : j.testBit r with | false => rfl | true => exact absurd (by rw [hq]; rfl) c_43
        refine P_iconst (q := 51) (v := nI 0) dX3_priceFields_50 rfl (by decide +kernel) ?_
        refine P_istore (q := 53) (L' := [_, _, _, _, _, _, _, _]) dX3_priceFields_51 rfl (by first | decide | exact lt_c (by decide)) rfl ?_
        refine P_iload (q := 55) dX3_priceFields_53 rfl rfl ?_
        refine P_if_eq (q := 58) (tgt := 66) dX3_priceFields_55 rfl (by first | decide | exact lt_c (by decide)) (fun c_55 => ?_) (fun c_55 => ?_)
        · refine P_iload (q := 68) dX3_priceFields_66 rfl rfl ?_
          refine P_if_le (q := 71) (tgt := 88) dX3_priceFields_68 rfl (by first | decide | exact lt_c (by decide)) (fun c_68 => ?_) (fun c_68 => ?_)
          · change iI (A.fd c r) ≤ iI 0 at c_68; rw [iI_le (by omega) (by omega) (by omega) (by omega)] at c_68
            refine P_iinc (q := 91) (L' := [_, _, _, _, _, _, _, _]) (v := nI (j + 1)) dX3_priceFields_88 rfl (by first | decide | exact lt_c (by decide)) rfl (nI_1 j) rfl ?_
            refine P_goto (tgt := 26) dX3_priceFields_91 (by first | decide | exact lt_c (by decide)) ?_
            first
              | exact absurd c_55 (by first | decide | exact lt_c (by decide))
              | exact absurd rfl c_55
              | exact ih (j + 1) (by omega) _ hs (hno (by unfold St.ag; rw [hbit]; exact if_neg (by simp only [if_true, Bool.false_eq_true, if_false]; rw [decide_eq_true_eq]; omega))) _
              | exact ih (j + 1) (by omega) _ (hs.up (by omega)) (hyes _ (by unfold St.ag; rw [hbit]; exact if_pos (by simp only [if_true, Bool.false_eq_true, if_false]; rw [decide_eq_true_eq]; omega)) rfl) _
          · change ¬ iI (A.fd c r) ≤ iI 0 at c_68; rw [iI_le (by omega) (by omega) (by omega) (by omega)] at c_68
            refine P_aload_n (q := 72) dX3_priceFields_71 rfl rfl ?_
            refine P_get (q := 75) dX3_priceFields_72 rfl fX3_34 (by omega) (hb0) rfl ?_
            refine P_iload_n (q := 76) dX3_priceFields_75 rfl rfl ?_
            refine P_qald (q := 77) (j := c) (b := b + 2 + 1 + c) 2 (fun _ => rfl) rfl dX3_priceFields_76 rfl (by omega) (hG.1) (rfl) (by omega) (by first | decide | exact lt_c (by decide)) (grR_at (by omega)) ?_
            refine P_iload (q := 79) dX3_priceFields_77 rfl rfl ?_
            refine P_dup2 (q := 80) dX3_priceFields_79 rfl rfl rfl ?_
            refine P_iald (q := 81) (j := j) dX3_priceFields_80 rfl (by omega) (g1) (rfl) (by omega) (by first | decide | exact lt_c (by decide)) ?_
            rw [g3]
            refine P_iload (q := 83) dX3_priceFields_81 rfl rfl ?_
            refine P_mabs (q := 86) dX3_priceFields_83 rfl kX3_60 (by first | decide | exact lt_c (by decide)) (Nat.le_of_ble_eq_true rfl) ⟨Nat.le_refl _, Nat.le_refl _⟩ ?_
            rw [abs_i (by omega) (by omega)]
            refine P_iadd (q := 87) dX3_priceFields_86 rfl ?_
            rw [nI_add]
            refine P_iast (q := 88) (j := j) dX3_priceFields_87 rfl (by omega) (g1) (rfl) (by omega) (by first | decide | exact lt_c (by decide)) (rfl) (rfl) ?_
            refine P_iinc (q := 91) (L' := [_, _, _, _, _, _, _, _]) (v := nI (j + 1)) dX3_priceFields_88 rfl (by first | decide | exact lt_c (by decide)) rfl (nI_1 j) rfl ?_
            refine P_goto (tgt := 26) dX3_priceFields_91 (by first | decide | exact lt_c (by decide)) ?_
            first
              | exact absurd c_55 (by first | decide | exact lt_c (by decide))
              | exact absurd rfl c_55
              | exact ih (j + 1) (by omega) _ hs (hno (by unfold St.ag; rw [hbit]; exact if_neg (by simp only [if_true, Bool.false_eq_true, if_false]; rw [decide_eq_true_eq]; omega))) _
              | exact ih (j + 1) (by omega) _ (hs.up (by omega)) (hyes _ (by unfold St.ag; rw [hbit]; exact if_pos (by simp only [if_true, Bool.false_eq_true, if_false]; rw [decide_eq_true_eq]; omega)) rfl) _
        · refine P_iload (q := 60) dX3_priceFields_58 rfl rfl ?_
          refine P_if_ge (q := 63) (tgt := 88) dX3_priceFields_60 rfl (by first | decide | exact lt_c (by decide)) (fun c_60 => ?_) (fun c_60 => ?_)
          · change iI 0 ≤ iI (A.fd c r) at c_60; rw [iI_le (by omega) (by omega) (by omega) (by omega)] at c_60
            refine P_iinc (q := 91) (L' := [_, _, _, _, _, _, _, _]) (v := nI (j + 1)) dX3_priceFields_88 rfl (by first | decide | exact lt_c (by decide)) rfl (nI_1 j) rfl ?_
            refine P_goto (tgt := 26) dX3_priceFields_91 (by first | decide | exact lt_c (by decide)) ?_
            first
              | exact absurd c_55 (by first | decide | exact lt_c (by decide))
              | exact absurd rfl c_55
              | exact ih (j + 1) (by omega) _ hs (hno (by unfold St.ag; rw [hbit]; exact if_neg (by simp only [if_true, Bool.false_eq_true, if_false]; rw [decide_eq_true_eq]; omega))) _
              | exact ih (j + 1) (by omega) _ (hs.up (by omega)) (hyes _ (by unfold St.ag; rw [hbit]; exact if_pos (by simp only [if_true, Bool.false_eq_true, if_false]; rw [decide_eq_true_eq]; omega)) rfl) _
          · change ¬ iI 0 ≤ iI (A.fd c r) at c_60; rw [iI_le (by omega) (by omega) (by omega) (by omega)] at c_60
            refine P_goto (tgt := 71) dX3_priceFields_63 (by first | decide | exact lt_c (by decide)) ?_
            refine P_aload_n (q := 72) dX3_priceFields_71 rfl rfl ?_
            refine P_get (q := 75) dX3_priceFields_72 rfl fX3_34 (by omega) (hb0) rfl ?_
            refine P_iload_n (q := 76) dX3_priceFields_75 rfl rfl ?_
            refine P_qald (q := 77) (j := c) (b := b + 2 + 1 + c) 2 (fun _ => rfl) rfl dX3_priceFields_76 rfl (by omega) (hG.1) (rfl) (by omega) (by first | decide | exact lt_c (by decide)) (grR_at (by omega)) ?_
            refine P_iload (q := 79) dX3_priceFields_77 rfl rfl ?_
            refine P_dup2 (q := 80) dX3_priceFields_79 rfl rfl rfl ?_
            refine P_iald (q := 81) (j := j) dX3_priceFields_80 rfl (by omega) (g1) (rfl) (by omega) (by first | decide | exact lt_c (by decide)) ?_
            rw [g3]
            refine P_iload (q := 83) dX3_priceFields_81 rfl rfl ?_
            refine P_mabs (q := 86) dX3_priceFields_83 rfl kX3_60 (by first | decide | exact lt_c (by decide)) (Nat.le_of_ble_eq_true rfl) ⟨Nat.le_refl _, Nat.le_refl _⟩ ?_
            rw [abs_i (by omega) (by omega)]
            refine P_iadd (q := 87) dX3_priceFields_86 rfl ?_
            rw [nI_add]
            refine P_iast (q := 88) (j := j) dX3_priceFields_87 rfl (by omega) (g1) (rfl) (by omega) (by first | decide | exact lt_c (by decide)) (rfl) (rfl) ?_
            refine P_iinc (q := 91) (L' := [_, _, _, _, _, _, _, _]) (v := nI (j + 1)) dX3_priceFields_88 rfl (by first | decide | exact lt_c (by decide)) rfl (nI_1 j) rfl ?_
            refine P_goto (tgt := 26) dX3_priceFields_91 (by first | decide | exact lt_c (by decide)) ?_
            first
              | exact absurd c_55 (by first | decide | exact lt_c (by decide))
              | exact absurd rfl c_55
              | exact ih (j + 1) (by omega) _ hs (hno (by unfold St.ag; rw [hbit]; exact if_neg (by simp only [if_true, Bool.false_eq_true, if_false]; rw [decide_eq_true_eq]; omega))) _
              | exact ih (j + 1) (by omega) _ (hs.up (by omega)) (hyes _ (by unfold St.ag; rw [hbit]; exact if_pos (by simp only [if_true, Bool.false_eq_true, if_false]; rw [decide_eq_true_eq]; omega)) rfl) _
      · rw [hkb] at c_43
        have hbit : j.testBit r = true := by cases hq : j.testBit r with | true => rfl | false => (rw [hq] at c_43; exact absurd c_43 (by first | decide | exact lt_c (by decide)))
        refine P_iconst (q := 47) (v := nI 1) dX3_priceFields_46 rfl (by decide +kernel) ?_
        refine P_goto (tgt := 51) dX3_priceFields_47 (by first | decide | exact lt_c (by decide)) ?_
        refine P_istore (q := 53) (L' := [_, _, _, _, _, _, _, _]) dX3_priceFields_51 rfl (by first | decide | exact lt_c (by decide)) rfl ?_
        refine P_iload (q := 55) dX3_priceFields_53 rfl rfl ?_
        refine P_if_eq (q := 58) (tgt := 66) dX3_priceFields_55 rfl (by first | decide | exact lt_c (by decide)) (fun c_55 => ?_) (fun c_55 => ?_)
        · refine P_iload (q := 68) dX3_priceFields_66 rfl rfl ?_
          refine P_if_le (q := 71) (tgt := 88) dX3_priceFields_68 rfl (by first | decide | exact lt_c (by decide)) (fun c_68 => ?_) (fun c_68 => ?_)
          · change iI (A.fd c r) ≤ iI 0 at c_68; rw [iI_le (by omega) (by omega) (by omega) (by omega)] at c_68
            refine P_iinc (q := 91) (L' := [_, _, _, _, _, _, _, _]) (v := nI (j + 1)) dX3_priceFields_88 rfl (by first | decide | exact lt_c (by decide)) rfl (nI_1 j) rfl ?_
            refine P_goto (tgt := 26) dX3_priceFields_91 (by first | decide | exact lt_c (by decide)) ?_
            first
              | exact absurd c_55 (by first | decide | exact lt_c (by decide))
              | exact absurd rfl c_55
              | exact ih (j + 1) (by omega) _ hs (hno (by unfold St.ag; rw [hbit]; exact if_neg (by simp only [if_true, Bool.false_eq_true, if_false]; rw [decide_eq_true_eq]; omega))) _
              | exact ih (j + 1) (by omega) _ (hs.up (by omega)) (hyes _ (by unfold St.ag; rw [hbit]; exact if_pos (by simp only [if_true, Bool.false_eq_true, if_false]; rw [decide_eq_true_eq]; omega)) rfl) _
          · change ¬ iI (A.fd c r) ≤ iI 0 at c_68; rw [iI_le (by omega) (by omega) (by omega) (by omega)] at c_68
            refine P_aload_n (q := 72) dX3_priceFields_71 rfl rfl ?_
            refine P_get (q := 75) dX3_priceFields_72 rfl fX3_34 (by omega) (hb0) rfl ?_
            refine P_iload_n (q := 76) dX3_priceFields_75 rfl rfl ?_
            refine P_qald (q := 77) (j := c) (b := b + 2 + 1 + c) 2 (fun _ => rfl) rfl dX3_priceFields_76 rfl (by omega) (hG.1) (rfl) (by omega) (by first | decide | exact lt_c (by decide)) (grR_at (by omega)) ?_
            refine P_iload (q := 79) dX3_priceFields_77 rfl rfl ?_
            refine P_dup2 (q := 80) dX3_priceFields_79 rfl rfl rfl ?_
            refine P_iald (q := 81) (j := j) dX3_priceFields_80 rfl (by omega) (g1) (rfl) (by omega) (by first | decide | exact lt_c (by decide)) ?_
            rw [g3]
            refine P_iload (q := 83) dX3_priceFields_81 rfl rfl ?_
            refine P_mabs (q := 86) dX3_priceFields_83 rfl kX3_60 (by first | decide | exact lt_c (by decide)) (Nat.le_of_ble_eq_true rfl) ⟨Nat.le_refl _, Nat.le_refl _⟩ ?_
            rw [abs_i (by omega) (by omega)]
            refine P_iadd (q := 87) dX3_priceFields_86 rfl ?_
            rw [nI_add]
            refine P_iast (q := 88) (j := j) dX3_priceFields_87 rfl (by omega) (g1) (rfl) (by omega) (by first | decide | exact lt_c (by decide)) (rfl) (rfl) ?_
            refine P_iinc (q := 91) (L' := [_, _, _, _, _, _, _, _]) (v := nI (j + 1)) dX3_priceFields_88 rfl (by first | decide | exact lt_c (by decide)) rfl (nI_1 j) rfl ?_
            refine P_goto (tgt := 26) dX3_priceFields_91 (by first | decide | exact lt_c (by decide)) ?_
            first
              | exact absurd c_55 (by first | decide | exact lt_c (by decide))
              | exact absurd rfl c_55
              | exact ih (j + 1) (by omega) _ hs (hno (by unfold St.ag; rw [hbit]; exact if_neg (by simp only [if_true, Bool.false_eq_true, if_false]; rw [decide_eq_true_eq]; omega))) _
              | exact ih (j + 1) (by omega) _ (hs.up (by omega)) (hyes _ (by unfold St.ag; rw [hbit]; exact if_pos (by simp only [if_true, Bool.false_eq_true, if_false]; rw [decide_eq_true_eq]; omega)) rfl) _
        · refine P_iload (q := 60) dX3_priceFields_58 rfl rfl ?_
          refine P_if_ge (q := 63) (tgt := 88) dX3_priceFields_60 rfl (by first | decide | exact lt_c (by decide)) (fun c_60 => ?_) (fun c_60 => ?_)
          · change iI 0 ≤ iI (A.fd c r) at c_60; rw [iI_le (by omega) (by omega) (by omega) (by omega)] at c_60
            refine P_iinc (q := 91) (L' := [_, _, _, _, _, _, _, _]) (v := nI (j + 1)) dX3_priceFields_88 rfl (by first | decide | exact lt_c (by decide)) rfl (nI_1 j) rfl ?_
            refine P_goto (tgt := 26) dX3_priceFields_91 (by first | decide | exact lt_c (by decide)) ?_
            first
              | exact absurd c_55 (by first | decide | exact lt_c (by decide))
              | exact absurd rfl c_55
              | exact ih (j + 1) (by omega) _ hs (hno (by unfold St.ag; rw [hbit]; exact if_neg (by simp only [if_true, Bool.false_eq_true, if_false]; rw [decide_eq_true_eq]; omega))) _
              | exact ih (j + 1) (by omega) _ (hs.up (by omega)) (hyes _ (by unfold St.ag; rw [hbit]; exact if_pos (by simp only [if_true, Bool.false_eq_true, if_false]; rw [decide_eq_true_eq]; omega)) rfl) _
          · change ¬ iI 0 ≤ iI (A.fd c r) at c_60; rw [iI_le (by omega) (by omega) (by omega) (by omega)] at c_60
            refine P_goto (tgt := 71) dX3_priceFields_63 (by first | decide | exact lt_c (by decide)) ?_
            refine P_aload_n (q := 72) dX3_priceFields_71 rfl rfl ?_
            refine P_get (q := 75) dX3_priceFields_72 rfl fX3_34 (by omega) (hb0) rfl ?_
            refine P_iload_n (q := 76) dX3_priceFields_75 rfl rfl ?_
            refine P_qald (q := 77) (j := c) (b := b + 2 + 1 + c) 2 (fun _ => rfl) rfl dX3_priceFields_76 rfl (by omega) (hG.1) (rfl) (by omega) (by first | decide | exact lt_c (by decide)) (grR_at (by omega)) ?_
            refine P_iload (q := 79) dX3_priceFields_77 rfl rfl ?_
            refine P_dup2 (q := 80) dX3_priceFields_79 rfl rfl rfl ?_
            refine P_iald (q := 81) (j := j) dX3_priceFields_80 rfl (by omega) (g1) (rfl) (by omega) (by first | decide | exact lt_c (by decide)) ?_
            rw [g3]
            refine P_iload (q := 83) dX3_priceFields_81 rfl rfl ?_
            refine P_mabs (q := 86) dX3_priceFields_83 rfl kX3_60 (by first | decide | exact lt_c (by decide)) (Nat.le_of_ble_eq_true rfl) ⟨Nat.le_refl _, Nat.le_refl _⟩ ?_
            rw [abs_i (by omega) (by omega)]
            refine P_iadd (q := 87) dX3_priceFields_86 rfl ?_
            rw [nI_add]
            refine P_iast (q := 88) (j := j) dX3_priceFields_87 rfl (by omega) (g1) (rfl) (by omega) (by first | decide | exact lt_c (by decide)) (rfl) (rfl) ?_
            refine P_iinc (q := 91) (L' := [_, _, _, _, _, _, _, _]) (v := nI (j + 1)) dX3_priceFields_88 rfl (by first | decide | exact lt_c (by decide)) rfl (nI_1 j) rfl ?_
            refine P_goto (tgt := 26) dX3_priceFields_91 (by first | decide | exact lt_c (by decide)) ?_
            first
              | exact absurd c_55 (by first | decide | exact lt_c (by decide))
              | exact absurd rfl c_55
              | exact ih (j + 1) (by omega) _ hs (hno (by unfold St.ag; rw [hbit]; exact if_neg (by simp only [if_true, Bool.false_eq_true, if_false]; rw [decide_eq_true_eq]; omega))) _
              | exact ih (j + 1) (by omega) _ (hs.up (by omega)) (hyes _ (by unfold St.ag; rw [hbit]; exact if_pos (by simp only [if_true, Bool.false_eq_true, if_false]; rw [decide_eq_true_eq]; omega)) rfl) _
set_option maxRecDepth 100000 in
set_option maxHeartbeats 4000000 in
theorem w_pf0 {σ0 : Sto} {A : St} {f : Nat → Int32} {b c : Nat} {v3 v4 : Value} {ca : Nat → Nat} (hA : A.ok) (h1 : σ0 1 = stO A 2) (h2 : σ0 2 = pI .int 40 f) (hf : stF A f) (hb : b = 4 ∨ b = 26) (hc : c < A.C) (h0 : σ0 b = prX A.C A.R v3 v4 b) : ∀ n r, r + n = A.R → ∀ σ, same σ0 σ (fun i => b + 3 ≤ i ∧ i ≤ b + 12) → GP σ (b + 2) 10 8 (fun i j => i < A.C ∧ j < 2 ^ A.R) (A.FM ca c r 0) → ∀ x5 x6 x7 : Option Value, PW mX3_priceFields 0 0 (fun v σ' => v = some (.int (nI (A.fdr c A.R))) ∧ same σ0 σ' (fun i => b + 3 ≤ i ∧ i ≤ b + 12) ∧ GP σ' (b + 2) 10 8 (fun i j => i < A.C ∧ j < 2 ^ A.R) (A.FM ca (c + 1) 0 0)) 5 [some (.ref b), some (.ref 1), some (.int (nI c)), some (.int (nI (A.fdr c r))), some (.int (nI r)), x5, x6, x7] [] (eN + 114) σ 0 0 := by
  have hC := hA.1.2
  have hR := hA.2.1.2
  intro n
  induction n with
  | zero =>
    intro r hr σ hs hG x5 x6 x7
    have e : r = A.R := by omega
    subst e
    have hb0 := (hs b (by omega)).trans h0
    refine P_iload (q := 7) dX3_priceFields_5 rfl rfl ?_
    refine P_aload_n (q := 8) dX3_priceFields_7 rfl rfl ?_
    refine P_get (q := 11) dX3_priceFields_8 rfl fX3_15 (by omega) (hb0) rfl ?_
    refine P_icmp_ge (q := 14) (tgt := 108) dX3_priceFields_11 rfl (by first | decide | exact lt_c (by decide)) (fun c_11 => ?_) (fun c_11 => ?_)
    · rw [nI_leI (by omega) (by omega)] at c_11
      refine P_iload_n (q := 109) dX3_priceFields_108 rfl rfl ?_
      refine P_iret dX3_priceFields_109 rfl (rfl) ?_
      exact ⟨rfl, hs, hG.imp (fun i j h => ⟨h, St.FM_col⟩)⟩
    · exfalso; rw [nI_leI (by omega) (by omega)] at c_11; omega
  | succ n ih =>
    intro r hr σ hs hG x5 x6 x7
    have hr' : r < A.R := by omega
    have hb0 := (hs b (by omega)).trans h0
    have s1 := (hs 1 (by omega)).trans h1
    have s2 := (hs 2 (by omega)).trans h2
    refine P_iload (q := 7) dX3_priceFields_5 rfl rfl ?_
    refine P_aload_n (q := 8) dX3_priceFields_7 rfl rfl ?_
    refine P_get (q := 11) dX3_priceFields_8 rfl fX3_15 (by omega) (hb0) rfl ?_
    refine P_icmp_ge (q := 14) (tgt := 108) dX3_priceFields_11 rfl (by first | decide | exact lt_c (by decide)) (fun c_11 => ?_) (fun c_11 => ?_)
    · exfalso; rw [nI_leI (by omega) (by omega)] at c_11; omega
    · rw [nI_leI (by omega) (by omega)] at c_11
      refine P_aload_n (q := 15) dX3_priceFields_14 rfl rfl ?_
      refine P_iload (q := 17) dX3_priceFields_15 rfl rfl ?_
      refine P_iload_n (q := 18) dX3_priceFields_17 rfl rfl ?_
      refine P_cv1 (q := 21) dX3_priceFields_18 rfl kX3_79 (t_fieldAt hA s1 s2 hf hr' hc) rfl rfl (by first | decide | exact lt_c (by decide)) (s1) rfl ⟨by decide, by decide⟩ (Nat.le_of_ble_eq_true rfl) ⟨Nat.le_refl _, Nat.le_refl _⟩ ?_
      refine P_istore (q := 23) (L' := [_, _, _, _, _, _, _, _]) dX3_priceFields_21 rfl (by first | decide | exact lt_c (by decide)) rfl ?_
      refine P_iconst (q := 24) (v := nI 0) dX3_priceFields_23 rfl (by decide +kernel) ?_
      refine P_istore (q := 26) (L' := [_, _, _, _, _, _, _, _]) dX3_priceFields_24 rfl (by first | decide | exact lt_c (by decide)) rfl ?_
      exact w_pf1 hA h1 h2 hf hb hc h0 hr' (fun σ h1 h2 x5 x6 x7 => ih (r + 1) (by omega) σ h1 h2 x5 x6 x7) (2 ^ A.R) 0 (by omega) σ hs hG _
set_option maxRecDepth 100000 in
set_option maxHeartbeats 4000000 in
theorem t_priceFields {σ0 : Sto} {A : St} {f : Nat → Int32} {b c : Nat} {v3 v4 : Value} {ca : Nat → Nat} (hA : A.ok) (h1 : σ0 1 = stO A 2) (h2 : σ0 2 = pI .int 40 f) (hf : stF A f) (hb : b = 4 ∨ b = 26) (hc : c < A.C) (h0 : σ0 b = prX A.C A.R v3 v4 b) (hG : GP σ0 (b + 2) 10 8 (fun i j => i < A.C ∧ j < 2 ^ A.R) (A.FM ca c 0 0)) : CP mX3_priceFields 0 0 [.ref b, .ref 1, .int (nI c)] (eN + 114) σ0 (fun v σ' => v = some (.int (nI (A.fdr c A.R))) ∧ same σ0 σ' (fun i => b + 3 ≤ i ∧ i ≤ b + 12) ∧ GP σ' (b + 2) 10 8 (fun i j => i < A.C ∧ j < 2 ^ A.R) (A.FM ca (c + 1) 0 0)) := by
  refine CP_of (by decide +kernel) (Nat.le_of_ble_eq_true rfl) ?_
  change PW _ _ _ _ 0 [_, _, _, _, _, _, _, _] [] _ _ _ _
  refine P_iconst (q := 1) (v := nI 0) dX3_priceFields_0 rfl (by decide +kernel) ?_
  refine P_istore_n (q := 2) (L' := [_, _, _, _, _, _, _, _]) dX3_priceFields_1 rfl (by first | decide | exact lt_c (by decide)) rfl ?_
  refine P_iconst (q := 3) (v := nI 0) dX3_priceFields_2 rfl (by decide +kernel) ?_
  refine P_istore (q := 5) (L' := [_, _, _, _, _, _, _, _]) dX3_priceFields_3 rfl (by first | decide | exact lt_c (by decide)) rfl ?_
  exact w_pf0 hA h1 h2 hf hb hc h0 A.R 0 (by omega) σ0 same.rf hG _ _ _
/-! the model of costs of a strip; w: of walls alone -/
def St.wl (A : St) (w : Bool) : Int := if w then 1 else A.al
def St.wc (A : St) (w : Bool) : Int := if w then 1 else A.ac
def St.wf (A : St) (w : Bool) (c k n : Nat) : Nat := if w then 0 else A.fdp c k n
def St.wr (A : St) (w : Bool) (c : Nat) : Nat := if w then 0 else A.fdr c A.R
def St.reach (A : St) (w : Bool) (n : Nat) : Nat := sumN n (fun c => (if c = 0 then (A.R - 1) * (A.wc w).natAbs else (A.R - 1) * (A.wc w).natAbs + A.R * (A.wl w).natAbs) + A.wr w c)
def St.md (A : St) (w : Bool) : Md := (A.C, A.R, A.lp, fun c k => caF (A.wc w) A.R k + A.wf w c k A.R, cbF (A.wl w) A.R, fun c => A.reach w (c + 1), if A.lp then A.reach w A.C + A.R * (A.wl w).natAbs else A.reach w A.C)
theorem St.wl_in {A : St} (hA : A.ok) (w : Bool) : -2 ≤ A.wl w ∧ A.wl w ≤ 2 := by
  have := hA.2.2.2.1
  unfold St.wl; split <;> omega
theorem St.wc_in {A : St} (hA : A.ok) (w : Bool) : -2 ≤ A.wc w ∧ A.wc w ≤ 2 := by
  have := hA.2.2.2.2.1
  unfold St.wc; split <;> omega
theorem St.wf_le (A : St) (w : Bool) (c k : Nat) : A.wf w c k A.R ≤ A.wr w c := by
  unfold St.wf St.wr
  split
  · exact Nat.le_refl _
  · exact A.fdp_le c k A.R
theorem St.wr_le {A : St} (hA : A.ok) (w : Bool) (c : Nat) : A.wr w c ≤ 9 := by
  unfold St.wr
  split
  · omega
  · exact A.fdr_le hA c A.R hA.2.1.2
theorem mul_le6 {a b : Nat} (h1 : a ≤ 3) (h2 : b ≤ 2) : a * b ≤ 6 := Nat.mul_le_mul h1 h2
theorem St.reach_le {A : St} (hA : A.ok) (w : Bool) : ∀ n, A.reach w n ≤ 19 * n
  | 0 => Nat.zero_le _
  | n + 1 => by
    have ih := A.reach_le hA w n
    have hR := hA.2.1.2
    have h1 := A.wc_in hA w
    have h2 := A.wl_in hA w
    have h3 := A.wr_le hA w n
    have m1 : (A.R - 1) * (A.wc w).natAbs ≤ 2 * 2 := Nat.mul_le_mul (by omega) (by omega)
    have m2 := mul_le6 hR (show (A.wl w).natAbs ≤ 2 by omega)
    unfold St.reach at ih ⊢
    rw [sumN]
    split <;> omega
theorem St.md_ok {A : St} (hA : A.ok) (w : Bool) : (A.md w).ok := by
  have hR := hA.2.1
  have h1 := A.wc_in hA w
  have h2 := A.wl_in hA w
  have hca : ∀ k, k < 2 ^ A.R → caF (A.wc w) A.R k ≤ (A.R - 1) * (A.wc w).natAbs := fun k hk => by
    unfold caF
    rw [Nat.mul_comm]
    exact prc_le (kd_dec hR.1 hR.2 hk hk).2.2.1
  have hcb : ∀ s t, s < 2 ^ A.R → t < 2 ^ A.R → cbF (A.wl w) A.R s t ≤ A.R * (A.wl w).natAbs := fun s t hs ht => by
    unfold cbF
    rw [Nat.mul_comm]
    exact prc_le (kd_dec hR.1 hR.2 hs ht).1
  have m1 : (A.R - 1) * (A.wc w).natAbs ≤ 2 * 2 := Nat.mul_le_mul (by omega) (by omega)
  have m2 := mul_le6 hR.2 (show (A.wl w).natAbs ≤ 2 by omega)
  refine ⟨hA.1, hR, fun k hk => ?_, fun c s t hc hs ht => ?_, fun c hc => ?_, fun s t hs ht => ?_, fun c k hc hk => ?_⟩
  · have a := hca k hk
    have b := A.wf_le w 0 k
    show caF (A.wc w) A.R k + A.wf w 0 k A.R ≤ A.reach w 1
    unfold St.reach
    rw [sumN, if_pos rfl]
    omega
  · have a := hca t ht
    have b := A.wf_le w (c + 1) t
    have d := hcb s t hs ht
    show A.reach w (c + 1) + (cbF (A.wl w) A.R s t + (caF (A.wc w) A.R t + A.wf w (c + 1) t A.R)) ≤ A.reach w (c + 1 + 1)
    unfold St.reach
    have e : ∀ f : Nat → Nat, sumN (c + 1 + 1) f = sumN (c + 1) f + f (c + 1) := fun f => rfl
    rw [e, if_neg (by omega)]
    omega
  · have := A.reach_le hA w (c + 1)
    have hC := hA.1.2
    have hc' : c < A.C := hc
    show A.reach w (c + 1) ≤ 190
    omega
  · have d := hcb s t hs ht
    show cbF (A.wl w) A.R s t ≤ 190
    omega
  · have a := hca k hk
    have b := A.wf_le w c k
    have d := A.wr_le hA w c
    show caF (A.wc w) A.R k + A.wf w c k A.R ≤ 190
    omega
