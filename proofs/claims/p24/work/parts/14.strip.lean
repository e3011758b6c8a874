variable {eN : Nat}
/-! THE STRIP: its methods on the cells 1 (the object) and 2 (its fields) -/
set_option maxRecDepth 100000 in
set_option maxHeartbeats 4000000 in
theorem t_place {n : Nat} {σ : Sto} (r c : Nat) : CD mX4_place [.int (nI r), .int (nI c)] n σ (some (.int (nI (4 * c + r)))) σ := by
  refine CP_of (by decide +kernel) (Nat.le_of_ble_eq_true rfl) ?_
  change PW _ _ _ _ 0 [_, _] [] _ _ _ _
  refine P_iload_n (q := 1) dX4_place_0 rfl rfl ?_
  refine P_iconst (q := 2) (v := nI 4) dX4_place_1 rfl (by decide +kernel) ?_
  refine P_imul (q := 3) dX4_place_2 rfl ?_
  refine P_iload_n (q := 4) dX4_place_3 rfl rfl ?_
  refine P_iadd (q := 5) dX4_place_4 rfl ?_
  refine P_iret dX4_place_5 rfl (rfl) ?_
  exact ⟨rv_i (by rw [pk_mul, nI_add, Nat.mul_comm]), rfl⟩
set_option maxRecDepth 100000 in
set_option maxHeartbeats 4000000 in
theorem t_bit {n : Nat} {σ : Sto} (r c : Nat) (h : 4 * c + r < 64) : CD mX4_bit [.int (nI r), .int (nI c)] n σ (some (.long (lN (2 ^ (4 * c + r))))) σ := by
  refine CP_of (by decide +kernel) (Nat.le_of_ble_eq_true rfl) ?_
  change PW _ _ _ _ 0 [_, _] [] _ _ _ _
  refine P_lconst (q := 1) (v := lN 1) dX4_bit_0 rfl (by decide +kernel) ?_
  refine P_iload_n (q := 2) dX4_bit_1 rfl rfl ?_
  refine P_iload_n (q := 3) dX4_bit_2 rfl rfl ?_
  refine P_cs1 (q := 6) dX4_bit_3 rfl kX4_46 (t_place r c) rfl rfl ⟨by decide, by decide⟩ (Nat.le_of_ble_eq_true rfl) ⟨Nat.le_refl _, Nat.le_refl _⟩ ?_
  refine P_lshl (q := 7) dX4_bit_6 rfl ?_
  refine P_lret dX4_bit_7 rfl ?_
  exact ⟨rv_l (by rw [lN_shl _ h, Nat.one_mul]), rfl⟩
theorem two_sub {R : Nat} (hR : R ≤ 3) : (lN 1 <<< ((nI R).toInt64 &&& 63)) - lN 1 = lN (2 ^ R - 1) := by
  rw [lN_shl _ (by omega), Nat.one_mul, lN_sub (Nat.two_pow_pos R)]
theorem msk_or {C R : Nat} (hR : R ≤ 3) : mskN C R ||| (2 ^ R - 1) * 2 ^ (4 * C + 0) = mskN (C + 1) R := by
  have h8 := pow8 hR
  have h1 : mskN C R < 2 ^ (4 * C) := upsN_lt (fun _ => by omega) C
  have e : mskN (C + 1) R = 2 ^ (4 * C) * (2 ^ R - 1) + mskN C R := upsN_succ _ _
  rw [e, Nat.two_pow_add_eq_or_of_lt h1, Nat.or_comm, Nat.add_zero, Nat.mul_comm]
set_option maxRecDepth 100000 in
set_option maxHeartbeats 4000000 in
theorem w_allCells {n : Nat} {σ : Sto} {C R : Nat} (hC : C ≤ 10) (hR : R ≤ 3) : ∀ k i, i + k = C → PW mX4_allCells 0 0 (fun r σ' => r = some (.long (lN (mskN C R))) ∧ σ' = σ) 5 [some (.int (nI C)), some (.int (nI R)), some (.long (lN (mskN i R))), none, some (.int (nI i))] [] n σ 0 0 := by
  intro k
  induction k with
  | zero =>
    intro i hi
    refine P_iload (q := 7) dX4_allCells_5 rfl rfl ?_
    refine P_iload_n (q := 8) dX4_allCells_7 rfl rfl ?_
    refine P_icmp_ge (q := 11) (tgt := 32) dX4_allCells_8 rfl (by first | decide | exact lt_c (by decide)) (fun c_8 => ?_) (fun c_8 => ?_)
    · rw [nI_leI (by omega) (by omega)] at c_8
      refine P_lload_n (q := 33) dX4_allCells_32 rfl rfl ?_
      refine P_lret dX4_allCells_33 rfl ?_
      exact ⟨by rw [show i = C by omega], rfl⟩
    · exfalso; rw [nI_leI (by omega) (by omega)] at c_8; omega
  | succ k ih =>
    intro i hi
    refine P_iload (q := 7) dX4_allCells_5 rfl rfl ?_
    refine P_iload_n (q := 8) dX4_allCells_7 rfl rfl ?_
    refine P_icmp_ge (q := 11) (tgt := 32) dX4_allCells_8 rfl (by first | decide | exact lt_c (by decide)) (fun c_8 => ?_) (fun c_8 => ?_)
    · exfalso; rw [nI_leI (by omega) (by omega)] at c_8; omega
    · rw [nI_leI (by omega) (by omega)] at c_8
      refine P_lload_n (q := 12) dX4_allCells_11 rfl rfl ?_
      refine P_lconst (q := 13) (v := lN 1) dX4_allCells_12 rfl (by decide +kernel) ?_
      refine P_iload_n (q := 14) dX4_allCells_13 rfl rfl ?_
      refine P_lshl (q := 15) dX4_allCells_14 rfl ?_
      refine P_lconst (q := 16) (v := lN 1) dX4_allCells_15 rfl (by decide +kernel) ?_
      refine P_lsub (q := 17) dX4_allCells_16 rfl ?_
      refine P_iconst (q := 18) (v := nI 0) dX4_allCells_17 rfl (by decide +kernel) ?_
      refine P_iload (q := 20) dX4_allCells_18 rfl rfl ?_
      refine P_cs1 (q := 23) dX4_allCells_20 rfl kX4_46 (t_place 0 i) rfl rfl ⟨by decide, by decide⟩ (Nat.le_of_ble_eq_true rfl) ⟨Nat.le_refl _, Nat.le_refl _⟩ ?_
      refine P_lshl (q := 24) dX4_allCells_23 rfl ?_
      rw [two_sub hR, lN_shl _ (show 4 * i + 0 < 64 by omega)]
      refine P_lor (q := 25) dX4_allCells_24 rfl ?_
      rw [wb_or (Nat.lt_of_lt_of_le (mskN_lt (C := i) (by omega) hR) (by first | decide | exact lt_c (by decide))) (Nat.lt_of_le_of_lt (Nat.le_trans Nat.right_le_or (Nat.le_of_eq (msk_or (C := i) hR))) (Nat.lt_of_lt_of_le (mskN_lt (C := i + 1) (by omega) hR) (by first | decide | exact lt_c (by decide)))), msk_or hR]
      refine P_lstore_n (q := 26) (L' := [_, _, _, _, _]) dX4_allCells_25 rfl (by first | decide | exact lt_c (by decide)) rfl ?_
      refine P_iinc (q := 29) (L' := [_, _, _, _, _]) (v := nI (i + 1)) dX4_allCells_26 rfl (by first | decide | exact lt_c (by decide)) rfl (nI_1 i) rfl ?_
      refine P_goto (tgt := 5) dX4_allCells_29 (by first | decide | exact lt_c (by decide)) ?_
      exact ih (i + 1) (by omega)
set_option maxRecDepth 100000 in
set_option maxHeartbeats 4000000 in
theorem t_allCells {n : Nat} {σ : Sto} {C R : Nat} (hC : C ≤ 10) (hR : R ≤ 3) : CD mX4_allCells [.int (nI C), .int (nI R)] n σ (some (.long (lN (mskN C R)))) σ := by
  refine CP_of (by decide +kernel) (Nat.le_of_ble_eq_true rfl) ?_
  change PW _ _ _ _ 0 [_, _, _, _, _] [] _ _ _ _
  refine P_lconst (q := 1) (v := lN 0) dX4_allCells_0 rfl (by decide +kernel) ?_
  refine P_lstore_n (q := 2) (L' := [_, _, _, _, _]) dX4_allCells_1 rfl (by first | decide | exact lt_c (by decide)) rfl ?_
  refine P_iconst (q := 3) (v := nI 0) dX4_allCells_2 rfl (by decide +kernel) ?_
  refine P_istore (q := 5) (L' := [_, _, _, _, _]) dX4_allCells_3 rfl (by first | decide | exact lt_c (by decide)) rfl ?_
  exact w_allCells hC hR C 0 (by omega)
def St.hasB (A : St) (x y : Int32) : Bool := decide (¬ x < 0 ∧ ¬ nI A.R ≤ x ∧ ¬ y < 0 ∧ ¬ nI A.C ≤ y)
theorem St.hasB_n {A : St} (h : A.ok) {r c : Nat} (hr : r < A.R) (hc : c < A.C) : A.hasB (nI r) (nI c) = true := by
  have hC := h.1.2
  have hR := h.2.1.2
  refine decide_eq_true ⟨nI_pos (by omega), nI_ge hr (by omega), nI_pos (by omega), nI_ge hc (by omega)⟩
set_option maxRecDepth 100000 in
set_option maxHeartbeats 4000000 in
theorem t_has {σ : Sto} {A : St} (h1 : σ 1 = stO A 2) (x y : Int32) : CD mX4_has [.ref 1, .int x, .int y] (eN + 114) σ (some (.int (bI (A.hasB x y)))) σ := by
  refine CP_of (by decide +kernel) (Nat.le_of_ble_eq_true rfl) ?_
  change PW _ _ _ _ 0 [_, _, _] [] _ _ _ _
  refine P_iload_n (q := 1) dX4_has_0 rfl rfl ?_
  refine P_if_lt (q := 4) (tgt := 28) dX4_has_1 rfl (by first | decide | exact lt_c (by decide)) (fun c_1 => ?_) (fun c_1 => ?_)
  · refine P_iconst (q := 29) (v := nI 0) dX4_has_28 rfl (by decide +kernel) ?_
    refine P_iret dX4_has_29 rfl (rfl) ?_
    exact ⟨rv_i (by simp [St.hasB, bI, *]), rfl⟩
  · refine P_iload_n (q := 5) dX4_has_4 rfl rfl ?_
    refine P_aload_n (q := 6) dX4_has_5 rfl rfl ?_
    refine P_get (q := 9) dX4_has_6 rfl fX4_15 (by first | decide | exact lt_c (by decide)) (by assumption) rfl ?_
    refine P_icmp_ge (q := 12) (tgt := 28) dX4_has_9 rfl (by first | decide | exact lt_c (by decide)) (fun c_9 => ?_) (fun c_9 => ?_)
    · refine P_iconst (q := 29) (v := nI 0) dX4_has_28 rfl (by decide +kernel) ?_
      refine P_iret dX4_has_29 rfl (rfl) ?_
      exact ⟨rv_i (by simp [St.hasB, bI, *]), rfl⟩
    · refine P_iload_n (q := 13) dX4_has_12 rfl rfl ?_
      refine P_if_lt (q := 16) (tgt := 28) dX4_has_13 rfl (by first | decide | exact lt_c (by decide)) (fun c_13 => ?_) (fun c_13 => ?_)
      · refine P_iconst (q := 29) (v := nI 0) dX4_has_28 rfl (by decide +kernel) ?_
        refine P_iret dX4_has_29 rfl (rfl) ?_
        exact ⟨rv_i (by simp [St.hasB, bI, *]), rfl⟩
      · refine P_iload_n (q := 17) dX4_has_16 rfl rfl ?_
        refine P_aload_n (q := 18) dX4_has_17 rfl rfl ?_
        refine P_get (q := 21) dX4_has_18 rfl fX4_9 (by first | decide | exact lt_c (by decide)) (by assumption) rfl ?_
        refine P_icmp_ge (q := 24) (tgt := 28) dX4_has_21 rfl (by first | decide | exact lt_c (by decide)) (fun c_21 => ?_) (fun c_21 => ?_)
        · refine P_iconst (q := 29) (v := nI 0) dX4_has_28 rfl (by decide +kernel) ?_
          refine P_iret dX4_has_29 rfl (rfl) ?_
          exact ⟨rv_i (by simp [St.hasB, bI, *]), rfl⟩
        · refine P_iconst (q := 25) (v := nI 1) dX4_has_24 rfl (by decide +kernel) ?_
          refine P_goto (tgt := 29) dX4_has_25 (by first | decide | exact lt_c (by decide)) ?_
          refine P_iret dX4_has_29 rfl (rfl) ?_
          exact ⟨rv_i (by simp [St.hasB, bI, *]), rfl⟩
theorem g_eq {g : Nat} (h : g ≤ 1) : nI g = 0 ↔ ¬ g = 1 := by
  have : g = 0 ∨ g = 1 := by omega
  rcases this with rfl | rfl
  · exact ⟨fun _ => by omega, fun _ => rfl⟩
  · exact ⟨fun q => absurd q (by first | decide | exact lt_c (by decide)), fun q => absurd rfl q⟩
set_option maxRecDepth 100000 in
set_option maxHeartbeats 4000000 in
theorem t_closed {σ : Sto} {A : St} (hA : A.ok) (h1 : σ 1 = stO A 2) : CD mX4_closed [.ref 1] (eN + 114) σ (some (.int (bI A.lp))) σ := by
  have hC := hA.1.2
  refine CP_of (by decide +kernel) (Nat.le_of_ble_eq_true rfl) ?_
  change PW _ _ _ _ 0 [_] [] _ _ _ _
  refine P_aload_n (q := 1) dX4_closed_0 rfl rfl ?_
  refine P_get (q := 4) dX4_closed_1 rfl fX4_18 (by first | decide | exact lt_c (by decide)) (by assumption) rfl ?_
  refine P_if_eq (q := 7) (tgt := 19) dX4_closed_4 rfl (by first | decide | exact lt_c (by decide)) (fun c_4 => ?_) (fun c_4 => ?_)
  · rw [g_eq hA.2.2.1] at c_4
    refine P_iconst (q := 20) (v := nI 0) dX4_closed_19 rfl (by decide +kernel) ?_
    refine P_iret dX4_closed_20 rfl (rfl) ?_
    exact ⟨rv_i (by unfold St.lp bI; first | rw [if_pos (decide_eq_true (by omega))] | rw [if_neg (fun q => by have := of_decide_eq_true q; omega)]), rfl⟩
  · rw [g_eq hA.2.2.1] at c_4
    refine P_aload_n (q := 8) dX4_closed_7 rfl rfl ?_
    refine P_get (q := 11) dX4_closed_8 rfl fX4_9 (by first | decide | exact lt_c (by decide)) (by assumption) rfl ?_
    refine P_iconst (q := 12) (v := nI 3) dX4_closed_11 rfl (by decide +kernel) ?_
    refine P_icmp_lt (q := 15) (tgt := 19) dX4_closed_12 rfl (by first | decide | exact lt_c (by decide)) (fun c_12 => ?_) (fun c_12 => ?_)
    · rw [nI_ltI (by omega) (by omega)] at c_12
      refine P_iconst (q := 20) (v := nI 0) dX4_closed_19 rfl (by decide +kernel) ?_
      refine P_iret dX4_closed_20 rfl (rfl) ?_
      exact ⟨rv_i (by unfold St.lp bI; first | rw [if_pos (decide_eq_true (by omega))] | rw [if_neg (fun q => by have := of_decide_eq_true q; omega)]), rfl⟩
    · rw [nI_ltI (by omega) (by omega)] at c_12
      refine P_iconst (q := 16) (v := nI 1) dX4_closed_15 rfl (by decide +kernel) ?_
      refine P_goto (tgt := 20) dX4_closed_16 (by first | decide | exact lt_c (by decide)) ?_
      refine P_iret dX4_closed_20 rfl (rfl) ?_
      exact ⟨rv_i (by unfold St.lp bI; first | rw [if_pos (decide_eq_true (by omega))] | rw [if_neg (fun q => by have := of_decide_eq_true q; omega)]), rfl⟩
set_option maxRecDepth 100000 in
set_option maxHeartbeats 4000000 in
theorem t_spinAt {σ : Sto} {A : St} (hA : A.ok) (h1 : σ 1 = stO A 2) {r c : Nat} (hr : r < A.R) (hc : c < A.C) : CD mX4_spinAt [.ref 1, .int (nI r), .int (nI c)] (eN + 114) σ (some (.int (iI (A.s c r)))) σ := by
  have hC := hA.1.2
  have hR := hA.2.1.2
  have hU := A.U_lt hA
  have hb := A.U_cr hA c (r := r) (by omega)
  refine CP_of (by decide +kernel) (Nat.le_of_ble_eq_true rfl) ?_
  change PW _ _ _ _ 0 [_, _, _] [] _ _ _ _
  refine P_aload_n (q := 1) dX4_spinAt_0 rfl rfl ?_
  refine P_get (q := 4) dX4_spinAt_1 rfl fX4_36 (by first | decide | exact lt_c (by decide)) (by assumption) rfl ?_
  refine P_iload_n (q := 5) dX4_spinAt_4 rfl rfl ?_
  refine P_iload_n (q := 6) dX4_spinAt_5 rfl rfl ?_
  refine P_cs1 (q := 9) dX4_spinAt_6 rfl kX4_62 (t_bit r c (by omega)) rfl rfl ⟨by decide, by decide⟩ (Nat.le_of_ble_eq_true rfl) ⟨Nat.le_refl _, Nat.le_refl _⟩ ?_
  refine P_land (q := 10) dX4_spinAt_9 rfl ?_
  refine P_lconst (q := 11) (v := lN 0) dX4_spinAt_10 rfl (by decide +kernel) ?_
  refine P_lcmp (q := 12) dX4_spinAt_11 rfl ?_
  refine P_if_eq (q := 15) (tgt := 19) dX4_spinAt_12 rfl (by first | decide | exact lt_c (by decide)) (fun c_12 => ?_) (fun c_12 => ?_)
  · rw [bit_test (by omega) (by omega), hb] at c_12
    refine P_iconst (q := 20) (v := (-1)) dX4_spinAt_19 rfl (by decide +kernel) ?_
    refine P_iret dX4_spinAt_20 rfl (rfl) ?_
    exact ⟨rv_i (by unfold St.s; first | (rw [if_neg (by rw [c_12]; decide)]; rfl) | (rw [if_pos (by simpa using c_12)]; rfl)), rfl⟩
  · rw [bit_test (by omega) (by omega), hb] at c_12
    refine P_iconst (q := 16) (v := nI 1) dX4_spinAt_15 rfl (by decide +kernel) ?_
    refine P_goto (tgt := 20) dX4_spinAt_16 (by first | decide | exact lt_c (by decide)) ?_
    refine P_iret dX4_spinAt_20 rfl (rfl) ?_
    exact ⟨rv_i (by unfold St.s; first | (rw [if_neg (by rw [c_12]; decide)]; rfl) | (rw [if_pos (by simpa using c_12)]; rfl)), rfl⟩
set_option maxRecDepth 100000 in
set_option maxHeartbeats 4000000 in
theorem t_fieldAt {σ : Sto} {A : St} {f : Nat → Int32} (hA : A.ok) (h1 : σ 1 = stO A 2) (h2 : σ 2 = pI .int 40 f) (hf : stF A f) {r c : Nat} (hr : r < A.R) (hc : c < A.C) : CD mX4_fieldAt [.ref 1, .int (nI r), .int (nI c)] (eN + 114) σ (some (.int (iI (A.fd c r)))) σ := by
  have hC := hA.1.2
  have hR := hA.2.1.2
  refine CP_of (by decide +kernel) (Nat.le_of_ble_eq_true rfl) ?_
  change PW _ _ _ _ 0 [_, _, _] [] _ _ _ _
  refine P_aload_n (q := 1) dX4_fieldAt_0 rfl rfl ?_
  refine P_iload_n (q := 2) dX4_fieldAt_1 rfl rfl ?_
  refine P_iload_n (q := 3) dX4_fieldAt_2 rfl rfl ?_
  refine P_cv1 (q := 6) dX4_fieldAt_3 rfl kX4_65 (t_has h1 _ _) rfl rfl (by first | decide | exact lt_c (by decide)) (by assumption) rfl ⟨by decide, by decide⟩ (Nat.le_of_ble_eq_true rfl) ⟨Nat.le_refl _, Nat.le_refl _⟩ ?_
  rw [A.hasB_n hA hr hc]
  refine P_if_eq (q := 9) (tgt := 22) dX4_fieldAt_6 rfl (by first | decide | exact lt_c (by decide)) (fun c_6 => ?_) (fun c_6 => ?_)
  · exact absurd c_6 (by first | decide | exact lt_c (by decide))
  · refine P_aload_n (q := 10) dX4_fieldAt_9 rfl rfl ?_
    refine P_get (q := 13) dX4_fieldAt_10 rfl fX4_42 (by first | decide | exact lt_c (by decide)) (by assumption) rfl ?_
    refine P_iload_n (q := 14) dX4_fieldAt_13 rfl rfl ?_
    refine P_iload_n (q := 15) dX4_fieldAt_14 rfl rfl ?_
    refine P_cs1 (q := 18) dX4_fieldAt_15 rfl kX4_46 (t_place r c) rfl rfl ⟨by decide, by decide⟩ (Nat.le_of_ble_eq_true rfl) ⟨Nat.le_refl _, Nat.le_refl _⟩ ?_
    refine P_iald (q := 19) (j := 4 * c + r) dX4_fieldAt_18 rfl (by first | decide | exact lt_c (by decide)) (by assumption) (rfl) (by omega) (by first | decide | exact lt_c (by decide)) ?_
    refine P_goto (tgt := 23) dX4_fieldAt_19 (by first | decide | exact lt_c (by decide)) ?_
    refine P_iret dX4_fieldAt_23 rfl (rfl) ?_
    exact ⟨by rw [hf c r hc hr], rfl⟩
set_option maxRecDepth 100000 in
set_option maxHeartbeats 4000000 in
theorem t_putField {σ : Sto} {A : St} {f : Nat → Int32} (hA : A.ok) (h1 : σ 1 = stO A 2) (h2 : σ 2 = pI .int 40 f) {r c : Nat} (hr : r < A.R) (hc : c < A.C) (v : Int32) : CD mX4_putField [.ref 1, .int (nI r), .int (nI c), .int v] (eN + 114) σ none (va_up σ 2 (pI .int 40 (upd f (4 * c + r) v))) := by
  have hC := hA.1.2
  have hR := hA.2.1.2
  refine CP_of (by decide +kernel) (Nat.le_of_ble_eq_true rfl) ?_
  change PW _ _ _ _ 0 [_, _, _, _] [] _ _ _ _
  refine P_aload_n (q := 1) dX4_putField_0 rfl rfl ?_
  refine P_iload_n (q := 2) dX4_putField_1 rfl rfl ?_
  refine P_iload_n (q := 3) dX4_putField_2 rfl rfl ?_
  refine P_cv1 (q := 6) dX4_putField_3 rfl kX4_65 (t_has h1 _ _) rfl rfl (by first | decide | exact lt_c (by decide)) (by assumption) rfl ⟨by decide, by decide⟩ (Nat.le_of_ble_eq_true rfl) ⟨Nat.le_refl _, Nat.le_refl _⟩ ?_
  rw [A.hasB_n hA hr hc]
  refine P_if_eq (q := 9) (tgt := 20) dX4_putField_6 rfl (by first | decide | exact lt_c (by decide)) (fun c_6 => ?_) (fun c_6 => ?_)
  · exact absurd c_6 (by first | decide | exact lt_c (by decide))
  · refine P_aload_n (q := 10) dX4_putField_9 rfl rfl ?_
    refine P_get (q := 13) dX4_putField_10 rfl fX4_42 (by first | decide | exact lt_c (by decide)) (by assumption) rfl ?_
    refine P_iload_n (q := 14) dX4_putField_13 rfl rfl ?_
    refine P_iload_n (q := 15) dX4_putField_14 rfl rfl ?_
    refine P_cs1 (q := 18) dX4_putField_15 rfl kX4_46 (t_place r c) rfl rfl ⟨by decide, by decide⟩ (Nat.le_of_ble_eq_true rfl) ⟨Nat.le_refl _, Nat.le_refl _⟩ ?_
    refine P_iload_n (q := 19) dX4_putField_18 rfl rfl ?_
    refine P_iast (q := 20) (j := 4 * c + r) dX4_putField_19 rfl (by first | decide | exact lt_c (by decide)) (by assumption) (rfl) (by omega) (by first | decide | exact lt_c (by decide)) (rfl) (rfl) ?_
    refine P_vret dX4_putField_20 rfl ?_
    exact ⟨rfl, rfl⟩
theorem kind_n {A : St} (h : A.ok) (c : Nat) (hc : c < A.C) : (((lN A.U).toUInt64 >>> ((nI (4 * c + 0)).toInt64.toUInt64 &&& Int64.toUInt64 63)).toInt64).toInt32 &&& ((nI 1 <<< (nI A.R &&& 31)) - nI 1) = nI (A.sp c) := by
  have hC := h.1.2
  have hR := h.2.1.2
  have hU := A.U_lt h
  have e1 : nI 1 <<< (nI A.R &&& 31) - nI 1 = nI (2 ^ A.R - 1) := by
    have : A.R = 0 ∨ A.R = 1 ∨ A.R = 2 ∨ A.R = 3 := by omega
    rcases this with e | e | e | e <;> rw [e] <;> decide
  rw [wb_shr (by omega) (by omega), lN_i, e1, nI_and, Nat.and_two_pow_sub_one_eq_mod]
  congr 1
  apply Nat.eq_of_testBit_eq
  intro i
  rw [Nat.testBit_mod_two_pow, Nat.testBit_div_two_pow, A.U_bit h]
  by_cases hi : i < A.R
  · have a1 : (i + (4 * c + 0)) / 4 = c := by omega
    have a2 : (i + (4 * c + 0)) % 4 = i := by omega
    rw [a1, a2]; simp [hi]
  · rw [Nat.testBit_lt_two_pow (Nat.lt_of_lt_of_le (h.2.2.2.2.2.1 c) (Nat.pow_le_pow_right (by first | decide | exact lt_c (by decide)) (show A.R ≤ i by omega)))]
    simp [hi]
set_option maxRecDepth 100000 in
set_option maxHeartbeats 4000000 in
theorem t_kindOf {σ : Sto} {A : St} (hA : A.ok) (h1 : σ 1 = stO A 2) {c : Nat} (hc : c < A.C) : CD mX4_kindOf [.ref 1, .int (nI c)] (eN + 114) σ (some (.int (nI (A.sp c)))) σ := by
  refine CP_of (by decide +kernel) (Nat.le_of_ble_eq_true rfl) ?_
  change PW _ _ _ _ 0 [_, _] [] _ _ _ _
  refine P_aload_n (q := 1) dX4_kindOf_0 rfl rfl ?_
  refine P_get (q := 4) dX4_kindOf_1 rfl fX4_36 (by first | decide | exact lt_c (by decide)) (by assumption) rfl ?_
  refine P_iconst (q := 5) (v := nI 0) dX4_kindOf_4 rfl (by decide +kernel) ?_
  refine P_iload_n (q := 6) dX4_kindOf_5 rfl rfl ?_
  refine P_cs1 (q := 9) dX4_kindOf_6 rfl kX4_46 (t_place 0 c) rfl rfl ⟨by decide, by decide⟩ (Nat.le_of_ble_eq_true rfl) ⟨Nat.le_refl _, Nat.le_refl _⟩ ?_
  refine P_lushr (q := 10) dX4_kindOf_9 rfl ?_
  refine P_l2i (q := 11) dX4_kindOf_10 rfl ?_
  refine P_iconst (q := 12) (v := nI 1) dX4_kindOf_11 rfl (by decide +kernel) ?_
  refine P_aload_n (q := 13) dX4_kindOf_12 rfl rfl ?_
  refine P_get (q := 16) dX4_kindOf_13 rfl fX4_15 (by first | decide | exact lt_c (by decide)) (by assumption) rfl ?_
  refine P_ishl (q := 17) dX4_kindOf_16 rfl ?_
  refine P_iconst (q := 18) (v := nI 1) dX4_kindOf_17 rfl (by decide +kernel) ?_
  refine P_isub (q := 19) dX4_kindOf_18 rfl ?_
  refine P_iand (q := 20) dX4_kindOf_19 rfl ?_
  refine P_iret dX4_kindOf_20 rfl (rfl) ?_
  exact ⟨rv_i (kind_n hA c hc), rfl⟩
