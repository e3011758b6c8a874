/-! THE REFERENCE: patches -/
set_option maxRecDepth 100000 in
set_option maxHeartbeats 4000000 in
theorem m_forgets {σ : Sto} {g : Nat → Int32} (hM : MO σ) (h1 : σ 129 = pI .int 30 g) : CD mX8_forgets [.ref 114] 132 σ none (va_up σ 129 (pI .int 30 (flC (fun _ => nI 0) g 30))) := by
  obtain ⟨L, k0, pl, n0, sp0, rc, rr, h0⟩ := hM
  have lp : ∀ n i, i + n = 30 → PW mX8_forgets 0 0 (fun v σ' => v = none ∧ σ' = (va_up σ 129 (pI .int 30 (flC (fun _ => nI 0) g 30)))) 2 [some (.ref 114), some (.int (nI i))] [] 132 (va_up σ 129 (pI .int 30 (flC (fun _ => nI 0) g i))) 0 0 := by
   intro n
   induction n with
   | zero =>
    intro i hi
    have e : i = 30 := by omega
    subst e
    refine P_iload_n (q := 3) dX8_forgets_2 rfl rfl ?_
    refine P_bipush (q := 5) (v := nI 30) dX8_forgets_3 rfl (by decide +kernel) ?_
    refine P_icmp_ge (q := 8) (tgt := 21) dX8_forgets_5 rfl (by decide) (fun c_5 => ?_) (fun c_5 => ?_)
    · rw [nI_leI (by omega) (by omega)] at c_5
      refine P_vret dX8_forgets_21 rfl ?_
      exact ⟨rfl, rfl⟩
    · exfalso; rw [nI_leI (by omega) (by omega)] at c_5; omega
   | succ n ih =>
    intro i hi
    refine P_iload_n (q := 3) dX8_forgets_2 rfl rfl ?_
    refine P_bipush (q := 5) (v := nI 30) dX8_forgets_3 rfl (by decide +kernel) ?_
    refine P_icmp_ge (q := 8) (tgt := 21) dX8_forgets_5 rfl (by decide) (fun c_5 => ?_) (fun c_5 => ?_)
    · exfalso; rw [nI_leI (by omega) (by omega)] at c_5; omega
    · rw [nI_leI (by omega) (by omega)] at c_5
      refine P_aload_n (q := 9) dX8_forgets_8 rfl rfl ?_
      refine P_get (q := 12) dX8_forgets_9 rfl fX8_52 (by decide) ((up_ne _ _ (by omega)).trans h0) rfl ?_
      refine P_iload_n (q := 13) dX8_forgets_12 rfl rfl ?_
      refine P_iconst (q := 14) (v := nI 0) dX8_forgets_13 rfl (by decide +kernel) ?_
      refine P_iast (q := 15) (j := i) (f' := flC (fun _ => nI 0) g (i + 1)) (σ' := (va_up σ 129 (pI .int 30 (flC (fun _ => nI 0) g (i + 1))))) dX8_forgets_14 rfl (by decide) (up_at _ _ _) (rfl) (by omega) (by decide) (flC_succ (fun _ => nI 0) g i) (up_up _ _ _ _) ?_
      refine P_iinc (q := 18) (L' := [_, _]) (v := nI (i + 1)) dX8_forgets_15 rfl (by decide) rfl (nI_1 i) rfl ?_
      refine P_goto (tgt := 2) dX8_forgets_18 (by decide) ?_
      exact ih (i + 1) (by omega)
  refine CP_of (by decide +kernel) (Nat.le_of_ble_eq_true rfl) ?_
  change PW _ _ _ _ 0 [_, _] [] _ _ _ _
  refine P_iconst (q := 1) (v := nI 0) dX8_forgets_0 rfl (by decide +kernel) ?_
  refine P_istore_n (q := 2) (L' := [_, _]) dX8_forgets_1 rfl (by decide) rfl ?_
  have h := lp 30 0 (by omega)
  rw [flC_0, up_self h1] at h
  exact h
