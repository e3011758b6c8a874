/-! THE REFERENCE: ups, gaining cells, pairs, neighbours -/
theorem ups8 : ∀ k, k < 8 → (nI k &&& nI 1) + ((nI k >>> (nI 1 &&& 31)) &&& nI 1) + ((nI k >>> (nI 2 &&& 31)) &&& nI 1) = nI (pcN 3 k) := by decide +kernel
set_option maxRecDepth 100000 in
set_option maxHeartbeats 4000000 in
theorem m_ups {n0 : Nat} {σ : Sto} {k : Nat} (hk : k < 8) : CD mX8_ups [.int (nI k)] n0 σ (some (.int (nI (pcN 3 k)))) σ := by
  refine CP_of (by decide +kernel) (Nat.le_of_ble_eq_true rfl) ?_
  change PW _ _ _ _ 0 [_] [] _ _ _ _
  refine P_iload_n (q := 1) dX8_ups_0 rfl rfl ?_
  refine P_iconst (q := 2) (v := nI 1) dX8_ups_1 rfl (by decide +kernel) ?_
  refine P_iand (q := 3) dX8_ups_2 rfl ?_
  refine P_iload_n (q := 4) dX8_ups_3 rfl rfl ?_
  refine P_iconst (q := 5) (v := nI 1) dX8_ups_4 rfl (by decide +kernel) ?_
  refine P_ishr (q := 6) dX8_ups_5 rfl ?_
  refine P_iconst (q := 7) (v := nI 1) dX8_ups_6 rfl (by decide +kernel) ?_
  refine P_iand (q := 8) dX8_ups_7 rfl ?_
  refine P_iadd (q := 9) dX8_ups_8 rfl ?_
  refine P_iload_n (q := 10) dX8_ups_9 rfl rfl ?_
  refine P_iconst (q := 11) (v := nI 2) dX8_ups_10 rfl (by decide +kernel) ?_
  refine P_ishr (q := 12) dX8_ups_11 rfl ?_
  refine P_iconst (q := 13) (v := nI 1) dX8_ups_12 rfl (by decide +kernel) ?_
  refine P_iand (q := 14) dX8_ups_13 rfl ?_
  refine P_iadd (q := 15) dX8_ups_14 rfl ?_
  refine P_iret dX8_ups_15 rfl (rfl) ?_
  exact ⟨rv_i (ups8 k hk), rfl⟩
def St.un (A : St) (n : Nat) : Nat := sumN n (fun c => pcN 3 (A.sp c))
set_option maxRecDepth 100000 in
set_option maxHeartbeats 4000000 in
theorem m_upsNow {σ : Sto} {A : St} (hM : MO σ) (hX : XA σ A) : CD mX8_upsNow [.ref 114] 132 σ (some (.int (nI (A.un A.C)))) σ := by
  obtain ⟨L, k0, pl, n0, sp0, rc, rr, h0⟩ := id hM
  obtain ⟨hA, g, h1, r0, r1, r2, r3, r4, r5, rs, rf⟩ := id hX
  have hC := hA.1
  have hR := hA.2.1
  have h8 : ∀ c, A.sp c < 8 := fun c => Nat.lt_of_lt_of_le (hA.2.2.2.2.2.1 c) (pow8 hR.2)
  have lp : ∀ n c, c + n = A.C → PW mX8_upsNow 0 0 (fun v σ' => v = some (.int (nI (A.un A.C))) ∧ σ' = σ) 4 [some (.ref 114), some (.int (nI (A.un c))), some (.int (nI c))] [] 132 σ 0 0 := by
   intro n
   induction n with
   | zero =>
    intro c hc
    have e : c = A.C := by omega
    subst e
    refine P_iload_n (q := 5) dX8_upsNow_4 rfl rfl ?_
    refine P_aload_n (q := 6) dX8_upsNow_5 rfl rfl ?_
    refine P_get (q := 9) dX8_upsNow_6 rfl fX8_7 (by decide) (h0) rfl ?_
    refine P_iconst (q := 10) (v := nI 0) dX8_upsNow_9 rfl (by decide +kernel) ?_
    refine P_iald (q := 11) (j := 0) dX8_upsNow_10 rfl (by decide) (h1) (rfl) (by omega) (by decide) ?_
    rw [r0]
    refine P_icmp_ge (q := 14) (tgt := 35) dX8_upsNow_11 rfl (by decide) (fun c_11 => ?_) (fun c_11 => ?_)
    · rw [nI_leI (by omega) (by omega)] at c_11
      refine P_iload_n (q := 36) dX8_upsNow_35 rfl rfl ?_
      refine P_iret dX8_upsNow_36 rfl (rfl) ?_
      exact ⟨rfl, rfl⟩
    · exfalso; rw [nI_leI (by omega) (by omega)] at c_11; omega
   | succ n ih =>
    intro c hc
    refine P_iload_n (q := 5) dX8_upsNow_4 rfl rfl ?_
    refine P_aload_n (q := 6) dX8_upsNow_5 rfl rfl ?_
    refine P_get (q := 9) dX8_upsNow_6 rfl fX8_7 (by decide) (h0) rfl ?_
    refine P_iconst (q := 10) (v := nI 0) dX8_upsNow_9 rfl (by decide +kernel) ?_
    refine P_iald (q := 11) (j := 0) dX8_upsNow_10 rfl (by decide) (h1) (rfl) (by omega) (by decide) ?_
    rw [r0]
    refine P_icmp_ge (q := 14) (tgt := 35) dX8_upsNow_11 rfl (by decide) (fun c_11 => ?_) (fun c_11 => ?_)
    · exfalso; rw [nI_leI (by omega) (by omega)] at c_11; omega
    · rw [nI_leI (by omega) (by omega)] at c_11
      refine P_iload_n (q := 15) dX8_upsNow_14 rfl rfl ?_
      refine P_aload_n (q := 16) dX8_upsNow_15 rfl rfl ?_
      refine P_get (q := 19) dX8_upsNow_16 rfl fX8_7 (by decide) (h0) rfl ?_
      refine P_bipush (q := 21) (v := nI 6) dX8_upsNow_19 rfl (by decide +kernel) ?_
      refine P_iload_n (q := 22) dX8_upsNow_21 rfl rfl ?_
      refine P_iadd (q := 23) dX8_upsNow_22 rfl ?_
      refine P_iald (q := 24) (j := 6 + c) dX8_upsNow_23 rfl (by decide) (h1) (nI_add _ _) (by omega) (by decide) ?_
      rw [rs c (by omega)]
      refine P_cs1 (q := 27) dX8_upsNow_24 rfl kX8_129 (m_ups (h8 c)) rfl rfl ⟨by decide, by decide⟩ (Nat.le_of_ble_eq_true rfl) ⟨Nat.le_refl _, Nat.le_refl _⟩ ?_
      refine P_iadd (q := 28) dX8_upsNow_27 rfl ?_
      rw [show nI (A.un c) + nI (pcN 3 (A.sp c)) = nI (A.un (c + 1)) from nI_add _ _]
      refine P_istore_n (q := 29) (L' := [_, _, _]) dX8_upsNow_28 rfl (by decide) rfl ?_
      refine P_iinc (q := 32) (L' := [_, _, _]) (v := nI (c + 1)) dX8_upsNow_29 rfl (by decide) rfl (nI_1 c) rfl ?_
      refine P_goto (tgt := 4) dX8_upsNow_32 (by decide) ?_
      exact ih (c + 1) (by omega)
  refine CP_of (by decide +kernel) (Nat.le_of_ble_eq_true rfl) ?_
  change PW _ _ _ _ 0 [_, _, _] [] _ _ _ _
  refine P_iconst (q := 1) (v := nI 0) dX8_upsNow_0 rfl (by decide +kernel) ?_
  refine P_istore_n (q := 2) (L' := [_, _, _]) dX8_upsNow_1 rfl (by decide) rfl ?_
  refine P_iconst (q := 3) (v := nI 0) dX8_upsNow_2 rfl (by decide +kernel) ?_
  refine P_istore_n (q := 4) (L' := [_, _, _]) dX8_upsNow_3 rfl (by decide) rfl ?_
  exact lp A.C 0 (by omega)
theorem PR_eq {A : St} (hA : A.ok) : A.PR = A.R * (if A.lp then (A.C : Int) else A.C - 1) + A.C * (A.R - 1) := by
  have hC := hA.1
  have hR := hA.2.1
  have e1 : ∀ c r, A.halfP (fun _ _ _ => 1) (fun _ _ _ => 1) c r = (if c + 1 < A.C then 1 else if A.lp then 1 else 0) + (if r + 1 < A.R then 1 else 0) := fun c r => by
    unfold St.halfP
    rw [dnr_nx]
    congr 1
    unfold St.nxt
    split
    · rfl
    · split <;> rfl
  have s1 : ∀ (n : Nat) (x : Int), sumZ n (fun _ => x) = n * x := fun n x => by
    induction n with
    | zero => simp [sumZ]
    | succ n ih => rw [sumZ, ih, Int.natCast_succ, Int.add_mul]; omega
  have s2 : ∀ n m, n ≤ m → sumZ n (fun r => if r + 1 < m then (1 : Int) else 0) = if n = m ∧ 0 < m then (n : Int) - 1 else n := fun n m => by
    induction n with
    | zero => intro _; simp [sumZ]; omega
    | succ n ih =>
      intro h
      rw [sumZ, ih (by omega)]
      rw [if_neg (show ¬ (n = m ∧ 0 < m) by omega)]
      by_cases e : n + 1 = m
      · rw [if_neg (by omega), if_pos ⟨e, by omega⟩]; omega
      · rw [if_pos (by omega), if_neg (by omega)]; omega
  unfold St.PR
  rw [sumZ_congr (g := fun c => (A.R : Int) * (if c + 1 < A.C then 1 else if A.lp then 1 else 0) + (A.R - 1)) (fun c _ => by
    rw [sumZ_congr (fun r _ => e1 c r), sumZ_add, s1, s2 A.R A.R (Nat.le_refl _), if_pos (show A.R = A.R ∧ 0 < A.R from ⟨rfl, by omega⟩)]), sumZ_add, s1, sumZ_mul]
  congr 1
  congr 1
  by_cases hl : A.lp = true
  · simp only [if_pos hl, ite_self]
    rw [s1, Int.mul_one]
  · simp only [if_neg hl]
    rw [s2 A.C A.C (Nat.le_refl _), if_pos (show A.C = A.C ∧ 0 < A.C from ⟨rfl, by omega⟩)]
set_option maxRecDepth 100000 in
set_option maxHeartbeats 4000000 in
theorem m_pairs {σ : Sto} {A : St} (hM : MO σ) (hX : XA σ A) : CD mX8_pairs [.ref 114] 132 σ (some (.int (iI A.PR))) σ := by
  have hl := m_isLoop hM hX
  obtain ⟨L, k0, pl, n0, sp0, rc, rr, h0⟩ := id hM
  obtain ⟨hA, g, h1, r0, r1, r2, r3, r4, r5, rs, rf⟩ := id hX
  have hC := hA.1
  have hR := hA.2.1
  rw [PR_eq hA]
  refine CP_of (by decide +kernel) (Nat.le_of_ble_eq_true rfl) ?_
  change PW _ _ _ _ 0 [_, _] [] _ _ _ _
  refine P_aload_n (q := 1) dX8_pairs_0 rfl rfl ?_
  refine P_get (q := 4) dX8_pairs_1 rfl fX8_7 (by decide) (h0) rfl ?_
  refine P_iconst (q := 5) (v := nI 0) dX8_pairs_4 rfl (by decide +kernel) ?_
  refine P_iald (q := 6) (j := 0) dX8_pairs_5 rfl (by decide) (h1) (rfl) (by omega) (by decide) ?_
  rw [r0]
  refine P_istore_n (q := 7) (L' := [_, _]) dX8_pairs_6 rfl (by decide) rfl ?_
  refine P_aload_n (q := 8) dX8_pairs_7 rfl rfl ?_
  refine P_get (q := 11) dX8_pairs_8 rfl fX8_7 (by decide) (h0) rfl ?_
  refine P_iconst (q := 12) (v := nI 1) dX8_pairs_11 rfl (by decide +kernel) ?_
  refine P_iald (q := 13) (j := 1) dX8_pairs_12 rfl (by decide) (h1) (rfl) (by omega) (by decide) ?_
  rw [r1]
  refine P_aload_n (q := 14) dX8_pairs_13 rfl rfl ?_
  refine P_cv1 (q := 17) dX8_pairs_14 rfl kX8_85 (hl) rfl rfl (by decide) (h0) rfl ⟨by decide, by decide⟩ (Nat.le_of_ble_eq_true rfl) ⟨Nat.le_refl _, Nat.le_refl _⟩ ?_
  refine P_if_eq (q := 20) (tgt := 24) dX8_pairs_17 rfl (by decide) (fun c_17 => ?_) (fun c_17 => ?_)
  · rw [bI_0] at c_17
    rw [c_17, if_neg (by decide)]
    refine P_iload_n (q := 25) dX8_pairs_24 rfl rfl ?_
    refine P_iconst (q := 26) (v := nI 1) dX8_pairs_25 rfl (by decide +kernel) ?_
    refine P_isub (q := 27) dX8_pairs_26 rfl ?_
    refine P_imul (q := 28) dX8_pairs_27 rfl ?_
    refine P_iload_n (q := 29) dX8_pairs_28 rfl rfl ?_
    refine P_aload_n (q := 30) dX8_pairs_29 rfl rfl ?_
    refine P_get (q := 33) dX8_pairs_30 rfl fX8_7 (by decide) (h0) rfl ?_
    refine P_iconst (q := 34) (v := nI 1) dX8_pairs_33 rfl (by decide +kernel) ?_
    refine P_iald (q := 35) (j := 1) dX8_pairs_34 rfl (by decide) (h1) (rfl) (by omega) (by decide) ?_
    rw [r1]
    refine P_iconst (q := 36) (v := nI 1) dX8_pairs_35 rfl (by decide +kernel) ?_
    refine P_isub (q := 37) dX8_pairs_36 rfl ?_
    refine P_imul (q := 38) dX8_pairs_37 rfl ?_
    refine P_iadd (q := 39) dX8_pairs_38 rfl ?_
    refine P_iret dX8_pairs_39 rfl (rfl) ?_
    exact ⟨rv_i (by rw [iI_nI, iI_nI, iI_nI]; simp only [iI_sub, iI_mul, iI_add]; rfl), rfl⟩
  · rw [bI_n] at c_17
    rw [c_17, if_pos rfl]
    refine P_iload_n (q := 21) dX8_pairs_20 rfl rfl ?_
    refine P_goto (tgt := 27) dX8_pairs_21 (by decide) ?_
    refine P_imul (q := 28) dX8_pairs_27 rfl ?_
    refine P_iload_n (q := 29) dX8_pairs_28 rfl rfl ?_
    refine P_aload_n (q := 30) dX8_pairs_29 rfl rfl ?_
    refine P_get (q := 33) dX8_pairs_30 rfl fX8_7 (by decide) (h0) rfl ?_
    refine P_iconst (q := 34) (v := nI 1) dX8_pairs_33 rfl (by decide +kernel) ?_
    refine P_iald (q := 35) (j := 1) dX8_pairs_34 rfl (by decide) (h1) (rfl) (by omega) (by decide) ?_
    rw [r1]
    refine P_iconst (q := 36) (v := nI 1) dX8_pairs_35 rfl (by decide +kernel) ?_
    refine P_isub (q := 37) dX8_pairs_36 rfl ?_
    refine P_imul (q := 38) dX8_pairs_37 rfl ?_
    refine P_iadd (q := 39) dX8_pairs_38 rfl ?_
    refine P_iret dX8_pairs_39 rfl (rfl) ?_
    exact ⟨rv_i (by rw [iI_nI, iI_nI, iI_nI]; simp only [iI_sub, iI_mul, iI_add]; rfl), rfl⟩
def St.gk (A : St) (n : Nat) : Nat := sumN n (fun k => if 0 < A.gain (k / A.R) (k % A.R) then 1 else 0)
set_option maxRecDepth 100000 in
set_option maxHeartbeats 4000000 in
theorem m_twt {σ : Sto} {A : St} (hM : MO σ) (hX : XA σ A) : CD mX8_thatWouldTurn [.ref 114] 132 σ (some (.int (nI (A.gk (A.C * A.R))))) σ := by
  have hc := m_cells hM hX
  obtain ⟨L, k0, pl, n0, sp0, rc, rr, h0⟩ := id hM
  obtain ⟨hA, g, h1, r0, r1, r2, r3, r4, r5, rs, rf⟩ := id hX
  have hC := hA.1
  have hR := hA.2.1
  have hCR : A.C * A.R ≤ 30 := Nat.mul_le_mul hC.2 hR.2
  have hz := nz_R A.R (by omega) (by omega)
  have lp : ∀ n k, k + n = A.C * A.R → PW mX8_thatWouldTurn 0 0 (fun v σ' => v = some (.int (nI (A.gk (A.C * A.R)))) ∧ σ' = σ) 4 [some (.ref 114), some (.int (nI (A.gk k))), some (.int (nI k))] [] 132 σ 0 0 := by
   intro n
   induction n with
   | zero =>
    intro k hk
    have e : k = A.C * A.R := by omega
    subst e
    refine P_iload_n (q := 5) dX8_thatWouldTurn_4 rfl rfl ?_
    refine P_aload_n (q := 6) dX8_thatWouldTurn_5 rfl rfl ?_
    refine P_cv1 (q := 9) dX8_thatWouldTurn_6 rfl kX8_159 (hc) rfl rfl (by decide) (h0) rfl ⟨by decide, by decide⟩ (Nat.le_of_ble_eq_true rfl) ⟨Nat.le_refl _, Nat.le_refl _⟩ ?_
    refine P_icmp_ge (q := 12) (tgt := 49) dX8_thatWouldTurn_9 rfl (by decide) (fun c_9 => ?_) (fun c_9 => ?_)
    · rw [nI_leI (by omega) (by omega)] at c_9
      refine P_iload_n (q := 50) dX8_thatWouldTurn_49 rfl rfl ?_
      refine P_iret dX8_thatWouldTurn_50 rfl (rfl) ?_
      exact ⟨rfl, rfl⟩
    · exfalso; rw [nI_leI (by omega) (by omega)] at c_9; omega
   | succ n ih =>
    intro k hk
    have hd := dm_lt hA (show k < A.C * A.R by omega)
    have hdm := dm_i k (by omega) A.R (by omega) (by omega)
    have hg := m_gain hM hX hd.2 hd.1
    have hgn := St.gain_in hA (k / A.R) (k % A.R)
    have step : ∀ v, v = (if 0 < A.gain (k / A.R) (k % A.R) then 1 else 0) → PW mX8_thatWouldTurn 0 0 (fun v σ' => v = some (.int (nI (A.gk (A.C * A.R)))) ∧ σ' = σ) 4 [some (.ref 114), some (.int (nI (A.gk k) + nI v)), some (.int (nI (k + 1)))] [] 132 σ 0 0 := fun v hv => by
      subst hv
      rw [nI_add]
      exact ih (k + 1) (by omega)
    refine P_iload_n (q := 5) dX8_thatWouldTurn_4 rfl rfl ?_
    refine P_aload_n (q := 6) dX8_thatWouldTurn_5 rfl rfl ?_
    refine P_cv1 (q := 9) dX8_thatWouldTurn_6 rfl kX8_159 (hc) rfl rfl (by decide) (h0) rfl ⟨by decide, by decide⟩ (Nat.le_of_ble_eq_true rfl) ⟨Nat.le_refl _, Nat.le_refl _⟩ ?_
    refine P_icmp_ge (q := 12) (tgt := 49) dX8_thatWouldTurn_9 rfl (by decide) (fun c_9 => ?_) (fun c_9 => ?_)
    · exfalso; rw [nI_leI (by omega) (by omega)] at c_9; omega
    · rw [nI_leI (by omega) (by omega)] at c_9
      refine P_iload_n (q := 13) dX8_thatWouldTurn_12 rfl rfl ?_
      refine P_aload_n (q := 14) dX8_thatWouldTurn_13 rfl rfl ?_
      refine P_iload_n (q := 15) dX8_thatWouldTurn_14 rfl rfl ?_
      refine P_aload_n (q := 16) dX8_thatWouldTurn_15 rfl rfl ?_
      refine P_get (q := 19) dX8_thatWouldTurn_16 rfl fX8_7 (by decide) (h0) rfl ?_
      refine P_iconst (q := 20) (v := nI 1) dX8_thatWouldTurn_19 rfl (by decide +kernel) ?_
      refine P_iald (q := 21) (j := 1) dX8_thatWouldTurn_20 rfl (by decide) (h1) (rfl) (by omega) (by decide) ?_
      rw [r1]
      refine P_irem (q := 22) dX8_thatWouldTurn_21 rfl (hz) ?_
      rw [hdm.2]
      refine P_iload_n (q := 23) dX8_thatWouldTurn_22 rfl rfl ?_
      refine P_aload_n (q := 24) dX8_thatWouldTurn_23 rfl rfl ?_
      refine P_get (q := 27) dX8_thatWouldTurn_24 rfl fX8_7 (by decide) (h0) rfl ?_
      refine P_iconst (q := 28) (v := nI 1) dX8_thatWouldTurn_27 rfl (by decide +kernel) ?_
      refine P_iald (q := 29) (j := 1) dX8_thatWouldTurn_28 rfl (by decide) (h1) (rfl) (by omega) (by decide) ?_
      rw [r1]
      refine P_idiv (q := 30) dX8_thatWouldTurn_29 rfl (hz) ?_
      rw [hdm.1]
      refine P_cv1 (q := 33) dX8_thatWouldTurn_30 rfl kX8_190 (hg) rfl rfl (by decide) (h0) rfl ⟨by decide, by decide⟩ (Nat.le_of_ble_eq_true rfl) ⟨Nat.le_refl _, Nat.le_refl _⟩ ?_
      refine P_if_le (q := 36) (tgt := 40) dX8_thatWouldTurn_33 rfl (by decide) (fun c_33 => ?_) (fun c_33 => ?_)
      · rw [show ((0 : Int32)) = iI 0 from rfl, iI_le (by omega) (by omega) (by omega) (by omega)] at c_33
        refine P_iconst (q := 41) (v := nI 0) dX8_thatWouldTurn_40 rfl (by decide +kernel) ?_
        refine P_iadd (q := 42) dX8_thatWouldTurn_41 rfl ?_
        refine P_istore_n (q := 43) (L' := [_, _, _]) dX8_thatWouldTurn_42 rfl (by decide) rfl ?_
        refine P_iinc (q := 46) (L' := [_, _, _]) (v := nI (k + 1)) dX8_thatWouldTurn_43 rfl (by decide) rfl (nI_1 k) rfl ?_
        refine P_goto (tgt := 4) dX8_thatWouldTurn_46 (by decide) ?_
        first | exact step 0 (if_neg (by omega)).symm | exact step 1 (if_pos (by omega)).symm
      · rw [show ((0 : Int32)) = iI 0 from rfl, iI_le (by omega) (by omega) (by omega) (by omega)] at c_33
        refine P_iconst (q := 37) (v := nI 1) dX8_thatWouldTurn_36 rfl (by decide +kernel) ?_
        refine P_goto (tgt := 41) dX8_thatWouldTurn_37 (by decide) ?_
        refine P_iadd (q := 42) dX8_thatWouldTurn_41 rfl ?_
        refine P_istore_n (q := 43) (L' := [_, _, _]) dX8_thatWouldTurn_42 rfl (by decide) rfl ?_
        refine P_iinc (q := 46) (L' := [_, _, _]) (v := nI (k + 1)) dX8_thatWouldTurn_43 rfl (by decide) rfl (nI_1 k) rfl ?_
        refine P_goto (tgt := 4) dX8_thatWouldTurn_46 (by decide) ?_
        first | exact step 0 (if_neg (by omega)).symm | exact step 1 (if_pos (by omega)).symm
  refine CP_of (by decide +kernel) (Nat.le_of_ble_eq_true rfl) ?_
  change PW _ _ _ _ 0 [_, _, _] [] _ _ _ _
  refine P_iconst (q := 1) (v := nI 0) dX8_thatWouldTurn_0 rfl (by decide +kernel) ?_
  refine P_istore_n (q := 2) (L' := [_, _, _]) dX8_thatWouldTurn_1 rfl (by decide) rfl ?_
  refine P_iconst (q := 3) (v := nI 0) dX8_thatWouldTurn_2 rfl (by decide +kernel) ?_
  refine P_istore_n (q := 4) (L' := [_, _, _]) dX8_thatWouldTurn_3 rfl (by decide) rfl ?_
  exact lp (A.C * A.R) 0 (by omega)
