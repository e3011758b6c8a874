variable {eN : Nat}
/-! THE CLASS: turning, keeping, texts -/
def oTurn (w : Cs) (r c : Int) : Int32 × Cs := if w.A.inB r c = true then (iI (w.A.flip (2 ^ (4 * c.toNat + r.toNat))).E, w.to (w.A.flip (2 ^ (4 * c.toNat + r.toNat)))) else (iI (-1001), w)
def oPatch (w : Cs) (r c : Int) : Int32 × Cs := if w.A.inB r c = true then (nI (pcN 64 (w.A.pIt (4 * c.toNat + r.toNat) 30)), w.to (w.A.flip (w.A.pIt (4 * c.toNat + r.toNat) 30))) else (iI (-1001), w)
theorem lk_sub {A : St} (hA : A.ok) (k p : Nat) (h : (A.lk k).testBit p = true) : (mskN A.C A.R).testBit p = true := by
  unfold St.lk at h
  by_cases e : A.U.testBit k = true
  · rw [if_pos e] at h; exact A.U_sub hA p h
  · rw [if_neg e, Nat.testBit_and] at h; exact (Bool.and_eq_true_iff.mp h).1
theorem pIt_sub {A : St} (hA : A.ok) {c r : Nat} (hc : c < A.C) (hr : r < A.R) : ∀ n p, (A.pIt (4 * c + r) n).testBit p = true → (mskN A.C A.R).testBit p = true
  | 0, p, h => one_sub hA hc hr p h
  | n + 1, p, h => by
    rw [St.pIt, Nat.testBit_or, Bool.or_eq_true_iff] at h
    rcases h with h | h
    · exact pIt_sub hA hc hr n p h
    · rw [Nat.testBit_and] at h
      exact lk_sub hA _ p (Bool.and_eq_true_iff.mp h).2
set_option maxRecDepth 100000 in
set_option maxHeartbeats 4000000 in
theorem a_turn {σ : Sto} {w : Cs} (hW : CW σ w) {r0 : Int} (r01 : -2147483648 ≤ r0) (r02 : r0 < 2147483648) {c0 : Int} (c01 : -2147483648 ≤ c0) (c02 : c0 < 2147483648) : CP mX7_turn 0 0 [.ref 0, .int (iI r0), .int (iI c0)] (eN + 114) σ (OK σ (oTurn w r0 c0)) := by
  obtain ⟨h0, hS, hAW, hH, hSn, hT⟩ := id hW
  have hA := hS.1
  obtain ⟨-, f0, e01, e02, ef0⟩ := id hS
  have hh := t_has (eN := eN) e01 (iI r0) (iI c0)
  rw [hasB_i hA r01 r02 c01 c02] at hh
  have hC := hA.1
  have hR := hA.2.1
  refine CP_of (by decide +kernel) (Nat.le_of_ble_eq_true rfl) ?_
  change PW _ _ _ _ 0 [_, _, _] [] _ _ _ _
  refine P_aload_n (q := 1) dX7_turn_0 rfl rfl ?_
  refine P_get (q := 4) dX7_turn_1 rfl fX7_12 (by first | decide | exact lt_c (by decide)) (h0) rfl ?_
  refine P_iload_n (q := 5) dX7_turn_4 rfl rfl ?_
  refine P_iload_n (q := 6) dX7_turn_5 rfl rfl ?_
  refine P_cv1 (q := 9) dX7_turn_6 rfl kX7_83 (hh) rfl rfl (by first | decide | exact lt_c (by decide)) (e01) rfl ⟨by decide, by decide⟩ (Nat.le_of_ble_eq_true rfl) ⟨Nat.le_refl _, Nat.le_refl _⟩ ?_
  refine P_if_ne (q := 12) (tgt := 16) dX7_turn_9 rfl (by first | decide | exact lt_c (by decide)) (fun c_9 => ?_) (fun c_9 => ?_)
  · rw [bI_n] at c_9
    obtain ⟨r, c, rfl, rfl, hr, hc⟩ := inB_n c_9
    rw [← iI_nI, ← iI_nI]
    refine P_aload_n (q := 17) dX7_turn_16 rfl rfl ?_
    refine P_get (q := 20) dX7_turn_17 rfl fX7_26 (by first | decide | exact lt_c (by decide)) (h0) rfl ?_
    refine P_aload_n (q := 21) dX7_turn_20 rfl rfl ?_
    refine P_get (q := 24) dX7_turn_21 rfl fX7_12 (by first | decide | exact lt_c (by decide)) (h0) rfl ?_
    refine P_callv (q := 27) dX7_turn_24 rfl (t_record hS hH) kX7_44 rfl rfl (by first | decide | exact lt_c (by decide)) (hH.choose_spec.choose_spec.2.2.1) rfl ⟨by decide, by decide⟩ (Nat.le_of_ble_eq_true rfl) ⟨Nat.le_refl _, Nat.le_refl _⟩ ?_
    rintro v σ1 ⟨rfl, hH1, t1⟩
    have h01 := (t1 0 (by omega)).trans h0
    have hS1 : SW σ1 1 w.A := hS.congr (t1 1 (by omega)) (t1 2 (by omega))
    have hAW1 : AW σ1 w.A := hAW.congr (fun k a b => t1 k (by omega))
    obtain ⟨-, f1, e11, e12, ef1⟩ := id hS1
    have hB : (w.A.flip (2 ^ (4 * c + r))).ok := St.flip_ok hA (one_sub hA hc hr)
    refine P_aload_n (q := 28) dX7_turn_27 rfl rfl ?_
    refine P_get (q := 31) dX7_turn_28 rfl fX7_12 (by first | decide | exact lt_c (by decide)) (h01) rfl ?_
    refine P_iload_n (q := 32) dX7_turn_31 rfl rfl ?_
    refine P_iload_n (q := 33) dX7_turn_32 rfl rfl ?_
    refine P_cs1 (q := 36) dX7_turn_33 rfl kX7_95 (t_bit r c (by omega)) rfl rfl ⟨by decide, by decide⟩ (Nat.le_of_ble_eq_true rfl) ⟨Nat.le_refl _, Nat.le_refl _⟩ ?_
    refine P_cv0 (q := 39) dX7_turn_36 rfl kX7_99 (t_flip hA e11 (2 ^ (4 * c + r)) (Nat.pow_lt_pow_right (by first | decide | exact lt_c (by decide)) (by omega))) rfl rfl (by first | decide | exact lt_c (by decide)) (e11) rfl ⟨by decide, by decide⟩ (Nat.le_of_ble_eq_true rfl) ⟨Nat.le_refl _, Nat.le_refl _⟩ ?_
    have hS2 : SW (va_up σ1 1 (stO (w.A.flip (2 ^ (4 * c + r))) 2)) 1 (w.A.flip (2 ^ (4 * c + r))) := hS1.re hB rfl rfl rfl
    have hAW2 : AW (va_up σ1 1 (stO (w.A.flip (2 ^ (4 * c + r))) 2)) (w.A.flip (2 ^ (4 * c + r))) := (hAW1.congr (fun k a b => up_ne _ _ (by omega))).md (fun w => rfl)
    have ss : same σ (va_up σ1 1 (stO (w.A.flip (2 ^ (4 * c + r))) 2)) (fun i => 1 ≤ i ∧ i ≤ 109) := fun i hi => (up_ne _ _ (by omega)).trans (t1 i (by omega))
    obtain ⟨-, f9, e91, e92, ef9⟩ := id hS2
    refine P_aload_n (q := 40) dX7_turn_39 rfl rfl ?_
    refine P_get (q := 43) dX7_turn_40 rfl fX7_12 (by first | decide | exact lt_c (by decide)) ((up_ne _ _ (by omega)).trans h01) rfl ?_
    refine P_cv1 (q := 46) dX7_turn_43 rfl kX7_74 (t_energy hB e91 e92 ef9) rfl rfl (by first | decide | exact lt_c (by decide)) (e91) rfl ⟨by decide, by decide⟩ (Nat.le_of_ble_eq_true rfl) ⟨Nat.le_refl _, Nat.le_refl _⟩ ?_
    refine P_iret dX7_turn_46 rfl (rfl) ?_
    unfold oTurn; rw [if_pos c_9]; exact ⟨rfl, hW.go ss hS2 hAW2 (hH1.congr (fun k a b => up_ne _ _ (by omega))), CW.ss ss⟩
  · rw [bI_0] at c_9
    refine P_sipush (q := 15) (v := iI (-1001)) dX7_turn_12 rfl (by decide +kernel) ?_
    refine P_iret dX7_turn_15 rfl (rfl) ?_
    unfold oTurn; rw [if_neg (by rw [c_9]; decide)]; exact OK.stay hW
set_option maxRecDepth 100000 in
set_option maxHeartbeats 4000000 in
theorem a_patch {σ : Sto} {w : Cs} (hW : CW σ w) {r0 : Int} (r01 : -2147483648 ≤ r0) (r02 : r0 < 2147483648) {c0 : Int} (c01 : -2147483648 ≤ c0) (c02 : c0 < 2147483648) : CP mX7_turnPatch 0 0 [.ref 0, .int (iI r0), .int (iI c0)] (eN + 114) σ (OK σ (oPatch w r0 c0)) := by
  obtain ⟨h0, hS, hAW, hH, hSn, hT⟩ := id hW
  have hA := hS.1
  obtain ⟨-, f0, e01, e02, ef0⟩ := id hS
  have hh := t_has (eN := eN) e01 (iI r0) (iI c0)
  rw [hasB_i hA r01 r02 c01 c02] at hh
  have hC := hA.1
  have hR := hA.2.1
  refine CP_of (by decide +kernel) (Nat.le_of_ble_eq_true rfl) ?_
  change PW _ _ _ _ 0 [_, _, _, _, _] [] _ _ _ _
  refine P_aload_n (q := 1) dX7_turnPatch_0 rfl rfl ?_
  refine P_get (q := 4) dX7_turnPatch_1 rfl fX7_12 (by first | decide | exact lt_c (by decide)) (h0) rfl ?_
  refine P_iload_n (q := 5) dX7_turnPatch_4 rfl rfl ?_
  refine P_iload_n (q := 6) dX7_turnPatch_5 rfl rfl ?_
  refine P_cv1 (q := 9) dX7_turnPatch_6 rfl kX7_83 (hh) rfl rfl (by first | decide | exact lt_c (by decide)) (e01) rfl ⟨by decide, by decide⟩ (Nat.le_of_ble_eq_true rfl) ⟨Nat.le_refl _, Nat.le_refl _⟩ ?_
  refine P_if_ne (q := 12) (tgt := 16) dX7_turnPatch_9 rfl (by first | decide | exact lt_c (by decide)) (fun c_9 => ?_) (fun c_9 => ?_)
  · rw [bI_n] at c_9
    obtain ⟨r, c, rfl, rfl, hr, hc⟩ := inB_n c_9
    rw [← iI_nI, ← iI_nI]
    refine P_aload_n (q := 17) dX7_turnPatch_16 rfl rfl ?_
    refine P_get (q := 20) dX7_turnPatch_17 rfl fX7_26 (by first | decide | exact lt_c (by decide)) (h0) rfl ?_
    refine P_aload_n (q := 21) dX7_turnPatch_20 rfl rfl ?_
    refine P_get (q := 24) dX7_turnPatch_21 rfl fX7_12 (by first | decide | exact lt_c (by decide)) (h0) rfl ?_
    refine P_callv (q := 27) dX7_turnPatch_24 rfl (t_record hS hH) kX7_44 rfl rfl (by first | decide | exact lt_c (by decide)) (hH.choose_spec.choose_spec.2.2.1) rfl ⟨by decide, by decide⟩ (Nat.le_of_ble_eq_true rfl) ⟨Nat.le_refl _, Nat.le_refl _⟩ ?_
    rintro v σ1 ⟨rfl, hH1, t1⟩
    have h01 := (t1 0 (by omega)).trans h0
    have hS1 : SW σ1 1 w.A := hS.congr (t1 1 (by omega)) (t1 2 (by omega))
    have hAW1 : AW σ1 w.A := hAW.congr (fun k a b => t1 k (by omega))
    obtain ⟨-, f1, e11, e12, ef1⟩ := id hS1
    have hB : (w.A.flip (w.A.pIt (4 * c + r) 30)).ok := St.flip_ok hA (pIt_sub hA hc hr 30)
    have hlt := w.A.pIt_lt hA (k := 4 * c + r) (by omega) 30
    refine P_aload_n (q := 28) dX7_turnPatch_27 rfl rfl ?_
    refine P_get (q := 31) dX7_turnPatch_28 rfl fX7_12 (by first | decide | exact lt_c (by decide)) (h01) rfl ?_
    refine P_iload_n (q := 32) dX7_turnPatch_31 rfl rfl ?_
    refine P_iload_n (q := 33) dX7_turnPatch_32 rfl rfl ?_
    refine P_cs1 (q := 36) dX7_turnPatch_33 rfl kX7_95 (t_bit r c (by omega)) rfl rfl ⟨by decide, by decide⟩ (Nat.le_of_ble_eq_true rfl) ⟨Nat.le_refl _, Nat.le_refl _⟩ ?_
    refine P_cv1 (q := 39) dX7_turnPatch_36 rfl kX7_103 (t_patchOf hA e11 (k := 4 * c + r) (by omega)) rfl rfl (by first | decide | exact lt_c (by decide)) (e11) rfl ⟨by decide, by decide⟩ (Nat.le_of_ble_eq_true rfl) ⟨Nat.le_refl _, Nat.le_refl _⟩ ?_
    refine P_lstore_n (q := 40) (L' := [_, _, _, _, _]) dX7_turnPatch_39 rfl (by first | decide | exact lt_c (by decide)) rfl ?_
    refine P_aload_n (q := 41) dX7_turnPatch_40 rfl rfl ?_
    refine P_get (q := 44) dX7_turnPatch_41 rfl fX7_12 (by first | decide | exact lt_c (by decide)) (h01) rfl ?_
    refine P_lload_n (q := 45) dX7_turnPatch_44 rfl rfl ?_
    refine P_cv0 (q := 48) dX7_turnPatch_45 rfl kX7_99 (t_flip hA e11 (w.A.pIt (4 * c + r) 30) hlt) rfl rfl (by first | decide | exact lt_c (by decide)) (e11) rfl ⟨by decide, by decide⟩ (Nat.le_of_ble_eq_true rfl) ⟨Nat.le_refl _, Nat.le_refl _⟩ ?_
    have hS2 : SW (va_up σ1 1 (stO (w.A.flip (w.A.pIt (4 * c + r) 30)) 2)) 1 (w.A.flip (w.A.pIt (4 * c + r) 30)) := hS1.re hB rfl rfl rfl
    have hAW2 : AW (va_up σ1 1 (stO (w.A.flip (w.A.pIt (4 * c + r) 30)) 2)) (w.A.flip (w.A.pIt (4 * c + r) 30)) := (hAW1.congr (fun k a b => up_ne _ _ (by omega))).md (fun w => rfl)
    have ss : same σ (va_up σ1 1 (stO (w.A.flip (w.A.pIt (4 * c + r) 30)) 2)) (fun i => 1 ≤ i ∧ i ≤ 109) := fun i hi => (up_ne _ _ (by omega)).trans (t1 i (by omega))
    obtain ⟨-, f9, e91, e92, ef9⟩ := id hS2
    refine P_lload_n (q := 49) dX7_turnPatch_48 rfl rfl ?_
    refine P_cs1 (q := 52) dX7_turnPatch_49 rfl kX7_107 (t_bitCount (w.A.pIt (4 * c + r) 30) (by omega)) rfl rfl ⟨by decide, by decide⟩ (Nat.le_of_ble_eq_true rfl) ⟨Nat.le_refl _, Nat.le_refl _⟩ ?_
    refine P_iret dX7_turnPatch_52 rfl (rfl) ?_
    unfold oPatch; rw [if_pos c_9]; exact ⟨rfl, hW.go ss hS2 hAW2 (hH1.congr (fun k a b => up_ne _ _ (by omega))), CW.ss ss⟩
  · rw [bI_0] at c_9
    refine P_sipush (q := 15) (v := iI (-1001)) dX7_turnPatch_12 rfl (by decide +kernel) ?_
    refine P_iret dX7_turnPatch_15 rfl (rfl) ?_
    unfold oPatch; rw [if_neg (by rw [c_9]; decide)]; exact OK.stay hW
def oKeep (w : Cs) : Int32 × Cs := (iI w.A.E, (w.A, w.H, some w.A, w.n, w.ch))
def oBack (w : Cs) : Int32 × Cs := match w.Sn with
  | none => (iI (-1005), w)
  | some B => (iI B.E, w.to B)
def oType (w : Cs) (x : Nat) : Int32 × Cs := if w.n < 60 then (nI (w.n + 1), (w.A, w.H, w.Sn, w.n + 1, chPut w.ch w.n x)) else (iI (-1003), w)
def oClear (w : Cs) : Int32 × Cs := (nI w.n, (w.A, w.H, w.Sn, 0, w.ch))
def oCol (w : Cs) (c : Int) : Int32 × Cs := (if 0 ≤ c ∧ c < w.A.C then nI (w.A.sp c.toNat) else iI (-1001), w)
set_option maxRecDepth 100000 in
set_option maxHeartbeats 4000000 in
theorem a_keep {σ : Sto} {w : Cs} (hW : CW σ w) : CP mX7_keep 0 0 [.ref 0] (eN + 114) σ (OK σ (oKeep w)) := by
  obtain ⟨h0, hS, hAW, hH, hSn, hT⟩ := id hW
  have hA := hS.1
  obtain ⟨-, f0, e01, e02, ef0⟩ := id hS
  obtain ⟨B, ⟨hB, fB, b1, b2, bf⟩, hB2⟩ := hSn
  refine CP_of (by decide +kernel) (Nat.le_of_ble_eq_true rfl) ?_
  change PW _ _ _ _ 0 [_] [] _ _ _ _
  refine P_aload_n (q := 1) dX7_keep_0 rfl rfl ?_
  refine P_get (q := 4) dX7_keep_1 rfl fX7_30 (by first | decide | exact lt_c (by decide)) (h0) rfl ?_
  refine P_aload_n (q := 5) dX7_keep_4 rfl rfl ?_
  refine P_get (q := 8) dX7_keep_5 rfl fX7_12 (by first | decide | exact lt_c (by decide)) (h0) rfl ?_
  refine P_cv0 (q := 11) dX7_keep_8 rfl kX7_137 (t_copyFrom hA (by first | decide | exact lt_c (by decide)) (by first | decide | exact lt_c (by decide)) (by first | decide | exact lt_c (by decide)) (by first | decide | exact lt_c (by decide)) (by first | decide | exact lt_c (by decide)) (by first | decide | exact lt_c (by decide)) (by first | decide | exact lt_c (by decide)) e01 b1 e02 b2) rfl rfl (by first | decide | exact lt_c (by decide)) (b1) rfl ⟨by decide, by decide⟩ (Nat.le_of_ble_eq_true rfl) ⟨Nat.le_refl _, Nat.le_refl _⟩ ?_
  refine P_aload_n (q := 12) dX7_keep_11 rfl rfl ?_
  refine P_iconst (q := 13) (v := nI 1) dX7_keep_12 rfl (by decide +kernel) ?_
  refine P_put (q := 16) (fs' := [_, _, _, _, .int (bI true), _]) dX7_keep_13 rfl gX7_33 (by first | decide | exact lt_c (by decide)) ((up_ne _ _ (by omega)).trans ((up_ne _ _ (by omega)).trans h0)) (fun _ => rfl) (fun _ => rfl) (Nat.le_of_ble_eq_true rfl) rfl (rfl) ?_
  have ne : ∀ (c1 c2 c3 : PC) k, k ≠ 0 → k ≠ 110 → k ≠ 111 → va_up (va_up (va_up σ 110 c1) (110 + 1) c2) 0 c3 k = σ k := fun c1 c2 c3 k a b c => (up_ne _ _ (by omega)).trans ((up_ne _ _ (by omega)).trans (up_ne _ _ (by omega)))
  have hS9 := SW_copy (a := 1) (b := 110) hS (by omega) e02 ef0 (g := fB)
  refine P_aload_n (q := 17) dX7_keep_16 rfl rfl ?_
  refine P_get (q := 20) dX7_keep_17 rfl fX7_12 (by first | decide | exact lt_c (by decide)) (up_at _ _ _) rfl ?_
  refine P_cv1 (q := 23) dX7_keep_20 rfl kX7_74 (t_energy hA ((ne _ _ _ 1 (by omega) (by omega) (by omega)).trans e01) ((ne _ _ _ 2 (by omega) (by omega) (by omega)).trans e02) ef0) rfl rfl (by first | decide | exact lt_c (by decide)) ((ne _ _ _ 1 (by omega) (by omega) (by omega)).trans e01) rfl ⟨by decide, by decide⟩ (Nat.le_of_ble_eq_true rfl) ⟨Nat.le_refl _, Nat.le_refl _⟩ ?_
  refine P_iret dX7_keep_23 rfl (rfl) ?_
  exact ⟨rfl, ⟨up_at _ _ _, hS.congr (ne _ _ _ 1 (by omega) (by omega) (by omega)) (ne _ _ _ 2 (by omega) (by omega) (by omega)), hAW.congr (fun k a b => ne _ _ _ k (by omega) (by omega) (by omega)), hH.congr (fun k a b => ne _ _ _ k (by omega) (by omega) (by omega)), ⟨w.A, hS9.congr (up_ne _ _ (by omega)) (up_ne _ _ (by omega)), fun C h => Option.some.inj h⟩, hT.congr (ne _ _ _ 112 (by omega) (by omega) (by omega)) (ne _ _ _ 113 (by omega) (by omega) (by omega))⟩, fun k hk => ne _ _ _ k (by omega) (by omega) (by omega)⟩
set_option maxRecDepth 100000 in
set_option maxHeartbeats 4000000 in
theorem a_back {σ : Sto} {w : Cs} (hW : CW σ w) : CP mX7_restore 0 0 [.ref 0] (eN + 114) σ (OK σ (oBack w)) := by
  obtain ⟨h0, hS, hAW, hH, hSn, hT⟩ := id hW
  have hA := hS.1
  obtain ⟨-, f0, e01, e02, ef0⟩ := id hS
  obtain ⟨B, hSB, hB2⟩ := hSn
  obtain ⟨hB, fB, b1, b2, bf⟩ := id hSB
  refine CP_of (by decide +kernel) (Nat.le_of_ble_eq_true rfl) ?_
  change PW _ _ _ _ 0 [_] [] _ _ _ _
  refine P_aload_n (q := 1) dX7_restore_0 rfl rfl ?_
  refine P_get (q := 4) dX7_restore_1 rfl fX7_33 (by first | decide | exact lt_c (by decide)) (h0) rfl ?_
  refine P_if_ne (q := 7) (tgt := 11) dX7_restore_4 rfl (by first | decide | exact lt_c (by decide)) (fun c_4 => ?_) (fun c_4 => ?_)
  · rw [bI_n] at c_4
    obtain ⟨C, hC⟩ := Option.isSome_iff_exists.mp c_4
    have eB := hB2 C hC
    subst eB
    refine P_aload_n (q := 12) dX7_restore_11 rfl rfl ?_
    refine P_get (q := 15) dX7_restore_12 rfl fX7_26 (by first | decide | exact lt_c (by decide)) (h0) rfl ?_
    refine P_aload_n (q := 16) dX7_restore_15 rfl rfl ?_
    refine P_get (q := 19) dX7_restore_16 rfl fX7_12 (by first | decide | exact lt_c (by decide)) (h0) rfl ?_
    refine P_callv (q := 22) dX7_restore_19 rfl (t_record hS hH) kX7_44 rfl rfl (by first | decide | exact lt_c (by decide)) (hH.choose_spec.choose_spec.2.2.1) rfl ⟨by decide, by decide⟩ (Nat.le_of_ble_eq_true rfl) ⟨Nat.le_refl _, Nat.le_refl _⟩ ?_
    rintro v σ1 ⟨rfl, hH1, t1⟩
    have h01 := (t1 0 (by omega)).trans h0
    have hS1 : SW σ1 1 w.A := hS.congr (t1 1 (by omega)) (t1 2 (by omega))
    have hAW1 : AW σ1 w.A := hAW.congr (fun k a b => t1 k (by omega))
    obtain ⟨-, f1, e11, e12, ef1⟩ := id hS1
    refine P_aload_n (q := 23) dX7_restore_22 rfl rfl ?_
    refine P_get (q := 26) dX7_restore_23 rfl fX7_12 (by first | decide | exact lt_c (by decide)) (h01) rfl ?_
    refine P_aload_n (q := 27) dX7_restore_26 rfl rfl ?_
    refine P_get (q := 30) dX7_restore_27 rfl fX7_30 (by first | decide | exact lt_c (by decide)) (h01) rfl ?_
    refine P_cv0 (q := 33) dX7_restore_30 rfl kX7_137 (t_copyFrom hB (by first | decide | exact lt_c (by decide)) (by first | decide | exact lt_c (by decide)) (by first | decide | exact lt_c (by decide)) (by first | decide | exact lt_c (by decide)) (by first | decide | exact lt_c (by decide)) (by first | decide | exact lt_c (by decide)) (by first | decide | exact lt_c (by decide)) ((t1 110 (by omega)).trans b1) e11 ((t1 111 (by omega)).trans b2) e12) rfl rfl (by first | decide | exact lt_c (by decide)) (e11) rfl ⟨by decide, by decide⟩ (Nat.le_of_ble_eq_true rfl) ⟨Nat.le_refl _, Nat.le_refl _⟩ ?_
    refine P_aload_n (q := 34) dX7_restore_33 rfl rfl ?_
    refine P_get (q := 37) dX7_restore_34 rfl fX7_19 (by first | decide | exact lt_c (by decide)) ((up_ne _ _ (by omega)).trans ((up_ne _ _ (by omega)).trans h01)) rfl ?_
    have hS2 := SW_copy (a := 110) (b := 1) (hSB.congr (τ := σ1) (t1 110 (by omega)) (t1 111 (by omega))) (by omega) ((t1 111 (by omega)).trans b2) bf (g := f1)
    have hAW2 : AW (va_up (va_up σ1 1 (stO B (1 + 1))) (1 + 1) (pI .int 40 (va_cpy fB f1 0 0 40))) w.A := hAW1.congr (fun k a b => (up_ne _ _ (by omega)).trans (up_ne _ _ (by omega)))
    obtain ⟨lc, gc, k1, k2, k3, h3⟩ := (hAW2).at
    refine P_callv (q := 40) dX7_restore_37 rfl ((t_forget (hAW2) (B := B))) kX7_52 rfl rfl (by first | decide | exact lt_c (by decide)) (h3) rfl ⟨by decide, by decide⟩ (Nat.le_of_ble_eq_true rfl) ⟨Nat.le_refl _, Nat.le_refl _⟩ ?_
    rintro v σ9 ⟨rfl, t9, hAW9⟩
    have hS9 := hS2.congr (τ := σ9) (t9 1 (by omega)) (t9 2 (by omega))
    obtain ⟨-, f9, e91, e92, ef9⟩ := id hS9
    have ss : same σ σ9 (fun i => 1 ≤ i ∧ i ≤ 109) := fun i hi => (t9 i (by omega)).trans ((up_ne _ _ (by omega)).trans ((up_ne _ _ (by omega)).trans (t1 i (by omega))))
    refine P_aload_n (q := 41) dX7_restore_40 rfl rfl ?_
    refine P_get (q := 44) dX7_restore_41 rfl fX7_12 (by first | decide | exact lt_c (by decide)) ((ss 0 (by omega)).trans h0) rfl ?_
    refine P_cv1 (q := 47) dX7_restore_44 rfl kX7_74 (t_energy hB e91 e92 ef9) rfl rfl (by first | decide | exact lt_c (by decide)) (e91) rfl ⟨by decide, by decide⟩ (Nat.le_of_ble_eq_true rfl) ⟨Nat.le_refl _, Nat.le_refl _⟩ ?_
    refine P_iret dX7_restore_47 rfl (rfl) ?_
    rw [show oBack w = (iI B.E, w.to B) from by unfold oBack; rw [hC]]; exact ⟨rfl, hW.go ss hS9 hAW9 (hH1.congr (fun k a b => (t9 k (by omega)).trans ((up_ne _ _ (by omega)).trans (up_ne _ _ (by omega))))), CW.ss ss⟩
  · rw [bI_0] at c_4
    refine P_sipush (q := 10) (v := iI (-1005)) dX7_restore_7 rfl (by decide +kernel) ?_
    refine P_iret dX7_restore_10 rfl (rfl) ?_
    rw [show oBack w = (iI (-1005), w) from by unfold oBack; rw [Option.isSome_eq_false_iff, Option.isNone_iff_eq_none] at c_4; rw [c_4]]; exact OK.stay hW
