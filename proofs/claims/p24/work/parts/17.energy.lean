variable {eN : Nat}
/-! THE STRIP: gains, energy, walls, pairs -/
set_option maxRecDepth 100000 in
set_option maxHeartbeats 4000000 in
theorem t_spinSum {σ : Sto} {A : St} (hA : A.ok) (h1 : σ 1 = stO A 2) (a : Nat) (ha : a < 2 ^ 40) : CD mX4_spinSum [.ref 1, .long (lN a)] (eN + 114) σ (some (.int (iI (2 * (pcN 64 (a &&& A.U) : Int) - pcN 64 a)))) σ := by
  have hU := A.U_lt hA
  have hx : a &&& A.U < 2 ^ 64 := Nat.lt_of_le_of_lt Nat.and_le_left (by omega)
  refine CP_of (by decide +kernel) (Nat.le_of_ble_eq_true rfl) ?_
  change PW _ _ _ _ 0 [_, _, _] [] _ _ _ _
  refine P_iconst (q := 1) (v := nI 2) dX4_spinSum_0 rfl (by decide +kernel) ?_
  refine P_lload_n (q := 2) dX4_spinSum_1 rfl rfl ?_
  refine P_aload_n (q := 3) dX4_spinSum_2 rfl rfl ?_
  refine P_get (q := 6) dX4_spinSum_3 rfl fX4_36 (by first | decide | exact lt_c (by decide)) (by assumption) rfl ?_
  refine P_land (q := 7) dX4_spinSum_6 rfl ?_
  rw [lN_and (by omega) (by omega)]
  refine P_cs1 (q := 10) dX4_spinSum_7 rfl kX4_69 (t_bitCount _ hx) rfl rfl ⟨by decide, by decide⟩ (Nat.le_of_ble_eq_true rfl) ⟨Nat.le_refl _, Nat.le_refl _⟩ ?_
  refine P_imul (q := 11) dX4_spinSum_10 rfl ?_
  refine P_lload_n (q := 12) dX4_spinSum_11 rfl rfl ?_
  refine P_cs1 (q := 15) dX4_spinSum_12 rfl kX4_69 (t_bitCount a (by omega)) rfl rfl ⟨by decide, by decide⟩ (Nat.le_of_ble_eq_true rfl) ⟨Nat.le_refl _, Nat.le_refl _⟩ ?_
  refine P_isub (q := 16) dX4_spinSum_15 rfl ?_
  refine P_iret dX4_spinSum_16 rfl (rfl) ?_
  exact ⟨rv_i (by rw [iI_nI, iI_nI, iI_nI, iI_mul, iI_sub]; rfl), rfl⟩
theorem pcN_all {a : Nat} (ha : a < 2 ^ 64) : pcN 64 a = pcN 64 (a &&& nt64) := by
  rw [show a &&& nt64 = a from by unfold nt64; rw [Nat.and_two_pow_sub_one_eq_mod, Nat.mod_eq_of_lt ha]]
theorem oB_so {A : St} (hA : A.ok) {o : Option Nat} {r : Nat} (hr : r < A.R) (ho : ∀ c, o = some c → c < A.C) : 2 * (oB o r A.U : Int) - oB o r nt64 = oZ o (fun d => A.s d r) := by
  have hC := hA.1.2
  have hR := hA.2.1.2
  cases o with
  | none => rfl
  | some c =>
    have hc := ho c rfl
    have e : nt64.testBit (4 * c + r) = true := by rw [nt64_bit]; exact decide_eq_true (by omega)
    show 2 * (((A.U.testBit (4 * c + r)).toNat : Nat) : Int) - (((nt64.testBit (4 * c + r)).toNat : Nat) : Int) = A.s c r
    rw [e, A.U_cr hA c (by omega)]
    unfold St.s
    cases (A.sp c).testBit r <;> simp
theorem vB_so {A : St} (hA : A.ok) {o : Option Nat} {c : Nat} (hc : c < A.C) (ho : ∀ r, o = some r → r < A.R) : 2 * (vB c o A.U : Int) - vB c o nt64 = oZ o (fun q => A.s c q) := by
  have hC := hA.1.2
  have hR := hA.2.1.2
  cases o with
  | none => rfl
  | some r =>
    have hr := ho r rfl
    have e : nt64.testBit (4 * c + r) = true := by rw [nt64_bit]; exact decide_eq_true (by omega)
    show 2 * (((A.U.testBit (4 * c + r)).toNat : Nat) : Int) - (((nt64.testBit (4 * c + r)).toNat : Nat) : Int) = A.s c r
    rw [e, A.U_cr hA c (by omega)]
    unfold St.s
    cases (A.sp c).testBit r <;> simp
theorem St.sumA {A : St} (hA : A.ok) {c r : Nat} (hc : c < A.C) (hr : r < A.R) : 2 * (pcN 64 (A.bA (2 ^ (4 * c + r)) &&& A.U) : Int) - pcN 64 (A.bA (2 ^ (4 * c + r))) = A.sA c r := by
  have h1 := oB_so hA hr (fun d h => A.prv_lt hA hc h)
  have h2 := oB_so hA hr (fun d h => A.nxt_lt hA (c := c) h)
  rw [pcN_all (Nat.lt_of_lt_of_le (A.bA_lt hA _) (by first | decide | exact lt_c (by decide))), A.cntA hA hc hr, A.cntA hA hc hr, A.sA_oZ, ← h1, ← h2]
  omega
theorem St.sumX {A : St} (hA : A.ok) {c r : Nat} (hc : c < A.C) (hr : r < A.R) : 2 * (pcN 64 (A.bX (2 ^ (4 * c + r)) &&& A.U) : Int) - pcN 64 (A.bX (2 ^ (4 * c + r))) = A.sX c r := by
  have h1 := vB_so hA hc (fun q h => upr_lt (R := A.R) h hr)
  have h2 := vB_so hA hc (fun q h => dnr_lt (r := r) h)
  rw [pcN_all (Nat.lt_of_lt_of_le (A.bX_lt hA _) (by first | decide | exact lt_c (by decide))), A.cntX hA hc hr, A.cntX hA hc hr, A.sX_oZ, ← h1, ← h2]
  omega
theorem one_lt {A : St} (hA : A.ok) {c r : Nat} (hc : c < A.C) (hr : r < A.R) : 2 ^ (4 * c + r) < 2 ^ 40 := by
  have hC := hA.1.2
  have hR := hA.2.1.2
  exact Nat.pow_lt_pow_right (by first | decide | exact lt_c (by decide)) (by omega)
set_option maxRecDepth 100000 in
set_option maxHeartbeats 4000000 in
theorem t_pull {σ : Sto} {A : St} (hA : A.ok) (h1 : σ 1 = stO A 2) {r c : Nat} (hr : r < A.R) (hc : c < A.C) : CD mX4_pullOfNeighbours [.ref 1, .long (lN (2 ^ (4 * c + r)))] (eN + 114) σ (some (.int (iI (A.al * A.sA c r + A.ac * A.sX c r)))) σ := by
  have h40 := one_lt hA hc hr
  refine CP_of (by decide +kernel) (Nat.le_of_ble_eq_true rfl) ?_
  change PW _ _ _ _ 0 [_, _, _] [] _ _ _ _
  refine P_aload_n (q := 1) dX4_pullOfNeighbours_0 rfl rfl ?_
  refine P_get (q := 4) dX4_pullOfNeighbours_1 rfl fX4_22 (by first | decide | exact lt_c (by decide)) (by assumption) rfl ?_
  refine P_aload_n (q := 5) dX4_pullOfNeighbours_4 rfl rfl ?_
  refine P_aload_n (q := 6) dX4_pullOfNeighbours_5 rfl rfl ?_
  refine P_lload_n (q := 7) dX4_pullOfNeighbours_6 rfl rfl ?_
  refine P_cv1 (q := 10) dX4_pullOfNeighbours_7 rfl kX4_79 (t_besideAlong hA h1 _ h40) rfl rfl (by first | decide | exact lt_c (by decide)) (by assumption) rfl ⟨by decide, by decide⟩ (Nat.le_of_ble_eq_true rfl) ⟨Nat.le_refl _, Nat.le_refl _⟩ ?_
  refine P_cv1 (q := 13) dX4_pullOfNeighbours_10 rfl kX4_88 (t_spinSum hA h1 _ (A.bA_lt hA _)) rfl rfl (by first | decide | exact lt_c (by decide)) (by assumption) rfl ⟨by decide, by decide⟩ (Nat.le_of_ble_eq_true rfl) ⟨Nat.le_refl _, Nat.le_refl _⟩ ?_
  rw [A.sumA hA hc hr]
  refine P_imul (q := 14) dX4_pullOfNeighbours_13 rfl ?_
  refine P_aload_n (q := 15) dX4_pullOfNeighbours_14 rfl rfl ?_
  refine P_get (q := 18) dX4_pullOfNeighbours_15 rfl fX4_25 (by first | decide | exact lt_c (by decide)) (by assumption) rfl ?_
  refine P_aload_n (q := 19) dX4_pullOfNeighbours_18 rfl rfl ?_
  refine P_aload_n (q := 20) dX4_pullOfNeighbours_19 rfl rfl ?_
  refine P_lload_n (q := 21) dX4_pullOfNeighbours_20 rfl rfl ?_
  refine P_cv1 (q := 24) dX4_pullOfNeighbours_21 rfl kX4_83 (t_besideAcross hA h1 _ h40) rfl rfl (by first | decide | exact lt_c (by decide)) (by assumption) rfl ⟨by decide, by decide⟩ (Nat.le_of_ble_eq_true rfl) ⟨Nat.le_refl _, Nat.le_refl _⟩ ?_
  refine P_cv1 (q := 27) dX4_pullOfNeighbours_24 rfl kX4_88 (t_spinSum hA h1 _ (A.bX_lt hA _)) rfl rfl (by first | decide | exact lt_c (by decide)) (by assumption) rfl ⟨by decide, by decide⟩ (Nat.le_of_ble_eq_true rfl) ⟨Nat.le_refl _, Nat.le_refl _⟩ ?_
  rw [A.sumX hA hc hr]
  refine P_imul (q := 28) dX4_pullOfNeighbours_27 rfl ?_
  refine P_iadd (q := 29) dX4_pullOfNeighbours_28 rfl ?_
  refine P_iret dX4_pullOfNeighbours_29 rfl (rfl) ?_
  exact ⟨rv_i (by rw [iI_mul, iI_mul, iI_add]), rfl⟩
set_option maxRecDepth 100000 in
set_option maxHeartbeats 4000000 in
theorem t_gain {σ : Sto} {A : St} {f : Nat → Int32} (hA : A.ok) (h1 : σ 1 = stO A 2) (h2 : σ 2 = pI .int 40 f) (hf : stF A f) {r c : Nat} (hr : r < A.R) (hc : c < A.C) : CD mX4_gain [.ref 1, .int (nI r), .int (nI c)] (eN + 114) σ (some (.int (iI (A.gain c r)))) σ := by
  have hC := hA.1.2
  have hR := hA.2.1.2
  refine CP_of (by decide +kernel) (Nat.le_of_ble_eq_true rfl) ?_
  change PW _ _ _ _ 0 [_, _, _, _] [] _ _ _ _
  refine P_aload_n (q := 1) dX4_gain_0 rfl rfl ?_
  refine P_iload_n (q := 2) dX4_gain_1 rfl rfl ?_
  refine P_iload_n (q := 3) dX4_gain_2 rfl rfl ?_
  refine P_cs1 (q := 6) dX4_gain_3 rfl kX4_62 (t_bit r c (by omega)) rfl rfl ⟨by decide, by decide⟩ (Nat.le_of_ble_eq_true rfl) ⟨Nat.le_refl _, Nat.le_refl _⟩ ?_
  refine P_cv1 (q := 9) dX4_gain_6 rfl kX4_91 (t_pull hA h1 hr hc) rfl rfl (by first | decide | exact lt_c (by decide)) (by assumption) rfl ⟨by decide, by decide⟩ (Nat.le_of_ble_eq_true rfl) ⟨Nat.le_refl _, Nat.le_refl _⟩ ?_
  refine P_aload_n (q := 10) dX4_gain_9 rfl rfl ?_
  refine P_iload_n (q := 11) dX4_gain_10 rfl rfl ?_
  refine P_iload_n (q := 12) dX4_gain_11 rfl rfl ?_
  refine P_cv1 (q := 15) dX4_gain_12 rfl kX4_94 (t_fieldAt hA h1 h2 hf hr hc) rfl rfl (by first | decide | exact lt_c (by decide)) (by assumption) rfl ⟨by decide, by decide⟩ (Nat.le_of_ble_eq_true rfl) ⟨Nat.le_refl _, Nat.le_refl _⟩ ?_
  refine P_iadd (q := 16) dX4_gain_15 rfl ?_
  refine P_istore_n (q := 17) (L' := [_, _, _, _]) dX4_gain_16 rfl (by first | decide | exact lt_c (by decide)) rfl ?_
  refine P_bipush (q := 19) (v := (-2)) dX4_gain_17 rfl (by decide +kernel) ?_
  refine P_aload_n (q := 20) dX4_gain_19 rfl rfl ?_
  refine P_iload_n (q := 21) dX4_gain_20 rfl rfl ?_
  refine P_iload_n (q := 22) dX4_gain_21 rfl rfl ?_
  refine P_cv1 (q := 25) dX4_gain_22 rfl kX4_97 (t_spinAt hA h1 hr hc) rfl rfl (by first | decide | exact lt_c (by decide)) (by assumption) rfl ⟨by decide, by decide⟩ (Nat.le_of_ble_eq_true rfl) ⟨Nat.le_refl _, Nat.le_refl _⟩ ?_
  refine P_imul (q := 26) dX4_gain_25 rfl ?_
  refine P_iload_n (q := 27) dX4_gain_26 rfl rfl ?_
  refine P_imul (q := 28) dX4_gain_27 rfl ?_
  refine P_iret dX4_gain_28 rfl (rfl) ?_
  exact ⟨rv_i (by rw [show (-2 : Int32) = iI (-2) from rfl, iI_add, iI_mul, iI_mul]; rfl), rfl⟩
def St.pP (A : St) (c r : Nat) : Int := A.s c r * (A.al * A.sA c r + A.ac * A.sX c r)
def St.pF (A : St) (c r : Nat) : Int := A.s c r * A.fd c r
set_option maxRecDepth 100000 in
set_option maxHeartbeats 4000000 in
theorem w_energy1 {σ : Sto} {A : St} {f : Nat → Int32} (hA : A.ok) (h1 : σ 1 = stO A 2) (h2 : σ 2 = pI .int 40 f) (hf : stF A f) {c : Nat} (hc : c < A.C) (K : ∀ x4 x5 : Option Value, PW mX4_energy 0 0 (fun v σ' => v = some (.int (iI A.E)) ∧ σ' = σ) 6 [some (.ref 1), some (.int (iI (sumZ (c + 1) (fun c => sumZ A.R (A.pP c))))), some (.int (iI (sumZ (c + 1) (fun c => sumZ A.R (A.pF c))))), some (.int (nI (c + 1))), x4, x5] [] (eN + 114) σ 0 0) : ∀ k r, r + k = A.R → ∀ x5 : Option Value, PW mX4_energy 0 0 (fun v σ' => v = some (.int (iI A.E)) ∧ σ' = σ) 17 [some (.ref 1), some (.int (iI (sumZ c (fun c => sumZ A.R (A.pP c)) + sumZ r (A.pP c)))), some (.int (iI (sumZ c (fun c => sumZ A.R (A.pF c)) + sumZ r (A.pF c)))), some (.int (nI c)), some (.int (nI r)), x5] [] (eN + 114) σ 0 0 := by
  have hC := hA.1.2
  have hR := hA.2.1.2
  intro k
  induction k with
  | zero =>
    intro r hr x5
    have e : r = A.R := by omega
    subst e
    refine P_iload (q := 19) dX4_energy_17 rfl rfl ?_
    refine P_aload_n (q := 20) dX4_energy_19 rfl rfl ?_
    refine P_get (q := 23) dX4_energy_20 rfl fX4_15 (by first | decide | exact lt_c (by decide)) (by assumption) rfl ?_
    refine P_icmp_ge (q := 26) (tgt := 70) dX4_energy_23 rfl (by first | decide | exact lt_c (by decide)) (fun c_23 => ?_) (fun c_23 => ?_)
    · rw [nI_leI (by omega) (by omega)] at c_23
      refine P_iinc (q := 73) (L' := [_, _, _, _, _, _]) (v := nI (c + 1)) dX4_energy_70 rfl (by first | decide | exact lt_c (by decide)) rfl (nI_1 c) rfl ?_
      refine P_goto (tgt := 6) dX4_energy_73 (by first | decide | exact lt_c (by decide)) ?_
      exact K _ _
    · exfalso; rw [nI_leI (by omega) (by omega)] at c_23; omega
  | succ k ih =>
    intro r hr x5
    have hr' : r < A.R := by omega
    refine P_iload (q := 19) dX4_energy_17 rfl rfl ?_
    refine P_aload_n (q := 20) dX4_energy_19 rfl rfl ?_
    refine P_get (q := 23) dX4_energy_20 rfl fX4_15 (by first | decide | exact lt_c (by decide)) (by assumption) rfl ?_
    refine P_icmp_ge (q := 26) (tgt := 70) dX4_energy_23 rfl (by first | decide | exact lt_c (by decide)) (fun c_23 => ?_) (fun c_23 => ?_)
    · exfalso; rw [nI_leI (by omega) (by omega)] at c_23; omega
    · rw [nI_leI (by omega) (by omega)] at c_23
      refine P_aload_n (q := 27) dX4_energy_26 rfl rfl ?_
      refine P_iload (q := 29) dX4_energy_27 rfl rfl ?_
      refine P_iload_n (q := 30) dX4_energy_29 rfl rfl ?_
      refine P_cv1 (q := 33) dX4_energy_30 rfl kX4_97 (t_spinAt hA h1 hr' hc) rfl rfl (by first | decide | exact lt_c (by decide)) (by assumption) rfl ⟨by decide, by decide⟩ (Nat.le_of_ble_eq_true rfl) ⟨Nat.le_refl _, Nat.le_refl _⟩ ?_
      refine P_istore (q := 35) (L' := [_, _, _, _, _, _]) dX4_energy_33 rfl (by first | decide | exact lt_c (by decide)) rfl ?_
      refine P_iload_n (q := 36) dX4_energy_35 rfl rfl ?_
      refine P_iload (q := 38) dX4_energy_36 rfl rfl ?_
      refine P_aload_n (q := 39) dX4_energy_38 rfl rfl ?_
      refine P_iload (q := 41) dX4_energy_39 rfl rfl ?_
      refine P_iload_n (q := 42) dX4_energy_41 rfl rfl ?_
      refine P_cs1 (q := 45) dX4_energy_42 rfl kX4_62 (t_bit r c (by omega)) rfl rfl ⟨by decide, by decide⟩ (Nat.le_of_ble_eq_true rfl) ⟨Nat.le_refl _, Nat.le_refl _⟩ ?_
      refine P_cv1 (q := 48) dX4_energy_45 rfl kX4_91 (t_pull hA h1 hr' hc) rfl rfl (by first | decide | exact lt_c (by decide)) (by assumption) rfl ⟨by decide, by decide⟩ (Nat.le_of_ble_eq_true rfl) ⟨Nat.le_refl _, Nat.le_refl _⟩ ?_
      refine P_imul (q := 49) dX4_energy_48 rfl ?_
      refine P_iadd (q := 50) dX4_energy_49 rfl ?_
      rw [iI_mul, iI_add, Int.add_assoc]
      refine P_istore_n (q := 51) (L' := [_, _, _, _, _, _]) dX4_energy_50 rfl (by first | decide | exact lt_c (by decide)) rfl ?_
      refine P_iload_n (q := 52) dX4_energy_51 rfl rfl ?_
      refine P_iload (q := 54) dX4_energy_52 rfl rfl ?_
      refine P_aload_n (q := 55) dX4_energy_54 rfl rfl ?_
      refine P_iload (q := 57) dX4_energy_55 rfl rfl ?_
      refine P_iload_n (q := 58) dX4_energy_57 rfl rfl ?_
      refine P_cv1 (q := 61) dX4_energy_58 rfl kX4_94 (t_fieldAt hA h1 h2 hf hr' hc) rfl rfl (by first | decide | exact lt_c (by decide)) (by assumption) rfl ⟨by decide, by decide⟩ (Nat.le_of_ble_eq_true rfl) ⟨Nat.le_refl _, Nat.le_refl _⟩ ?_
      refine P_imul (q := 62) dX4_energy_61 rfl ?_
      refine P_iadd (q := 63) dX4_energy_62 rfl ?_
      rw [iI_mul, iI_add, Int.add_assoc]
      refine P_istore_n (q := 64) (L' := [_, _, _, _, _, _]) dX4_energy_63 rfl (by first | decide | exact lt_c (by decide)) rfl ?_
      refine P_iinc (q := 67) (L' := [_, _, _, _, _, _]) (v := nI (r + 1)) dX4_energy_64 rfl (by first | decide | exact lt_c (by decide)) rfl (nI_1 r) rfl ?_
      refine P_goto (tgt := 17) dX4_energy_67 (by first | decide | exact lt_c (by decide)) ?_
      exact ih (r + 1) (by omega) _
set_option maxRecDepth 100000 in
set_option maxHeartbeats 4000000 in
theorem w_energy0 {σ : Sto} {A : St} {f : Nat → Int32} (hA : A.ok) (h1 : σ 1 = stO A 2) (h2 : σ 2 = pI .int 40 f) (hf : stF A f) : ∀ k c, c + k = A.C → ∀ x4 x5 : Option Value, PW mX4_energy 0 0 (fun v σ' => v = some (.int (iI A.E)) ∧ σ' = σ) 6 [some (.ref 1), some (.int (iI (sumZ c (fun c => sumZ A.R (A.pP c))))), some (.int (iI (sumZ c (fun c => sumZ A.R (A.pF c))))), some (.int (nI c)), x4, x5] [] (eN + 114) σ 0 0 := by
  have hC := hA.1.2
  have hR := hA.2.1.2
  intro k
  induction k with
  | zero =>
    intro c hc x4 x5
    have e : c = A.C := by omega
    subst e
    have hE := A.EP_twice hA
    have hI := A.EP_in hA
    change sumZ A.C (fun c => sumZ A.R (A.pP c)) = 2 * A.EP at hE
    refine P_iload_n (q := 7) dX4_energy_6 rfl rfl ?_
    refine P_aload_n (q := 8) dX4_energy_7 rfl rfl ?_
    refine P_get (q := 11) dX4_energy_8 rfl fX4_9 (by first | decide | exact lt_c (by decide)) (by assumption) rfl ?_
    refine P_icmp_ge (q := 14) (tgt := 76) dX4_energy_11 rfl (by first | decide | exact lt_c (by decide)) (fun c_11 => ?_) (fun c_11 => ?_)
    · rw [nI_leI (by omega) (by omega)] at c_11
      refine P_iload_n (q := 77) dX4_energy_76 rfl rfl ?_
      refine P_iconst (q := 78) (v := nI 2) dX4_energy_77 rfl (by decide +kernel) ?_
      refine P_idiv (q := 79) dX4_energy_78 rfl (by first | decide | exact lt_c (by decide)) ?_
      refine P_iload_n (q := 80) dX4_energy_79 rfl rfl ?_
      refine P_iadd (q := 81) dX4_energy_80 rfl ?_
      refine P_ineg (q := 82) dX4_energy_81 rfl ?_
      refine P_iret dX4_energy_82 rfl (rfl) ?_
      exact ⟨rv_i (by rw [hE, iI_half (by omega) (by omega), iI_add, iI_neg]; rfl), rfl⟩
    · exfalso; rw [nI_leI (by omega) (by omega)] at c_11; omega
  | succ k ih =>
    intro c hc x4 x5
    refine P_iload_n (q := 7) dX4_energy_6 rfl rfl ?_
    refine P_aload_n (q := 8) dX4_energy_7 rfl rfl ?_
    refine P_get (q := 11) dX4_energy_8 rfl fX4_9 (by first | decide | exact lt_c (by decide)) (by assumption) rfl ?_
    refine P_icmp_ge (q := 14) (tgt := 76) dX4_energy_11 rfl (by first | decide | exact lt_c (by decide)) (fun c_11 => ?_) (fun c_11 => ?_)
    · exfalso; rw [nI_leI (by omega) (by omega)] at c_11; omega
    · rw [nI_leI (by omega) (by omega)] at c_11
      refine P_iconst (q := 15) (v := nI 0) dX4_energy_14 rfl (by decide +kernel) ?_
      refine P_istore (q := 17) (L' := [_, _, _, _, _, _]) dX4_energy_15 rfl (by first | decide | exact lt_c (by decide)) rfl ?_
      have h := w_energy1 (eN := eN) hA h1 h2 hf (show c < A.C by omega) (fun x4 x5 => ih (c + 1) (by omega) x4 x5) A.R 0 (by omega) x5
      rw [show sumZ 0 (A.pP c) = 0 from rfl, show sumZ 0 (A.pF c) = 0 from rfl, Int.add_zero, Int.add_zero] at h
      exact h
set_option maxRecDepth 100000 in
set_option maxHeartbeats 4000000 in
theorem t_energy {σ : Sto} {A : St} {f : Nat → Int32} (hA : A.ok) (h1 : σ 1 = stO A 2) (h2 : σ 2 = pI .int 40 f) (hf : stF A f) : CD mX4_energy [.ref 1] (eN + 114) σ (some (.int (iI A.E))) σ := by
  refine CP_of (by decide +kernel) (Nat.le_of_ble_eq_true rfl) ?_
  change PW _ _ _ _ 0 [_, _, _, _, _, _] [] _ _ _ _
  refine P_iconst (q := 1) (v := nI 0) dX4_energy_0 rfl (by decide +kernel) ?_
  refine P_istore_n (q := 2) (L' := [_, _, _, _, _, _]) dX4_energy_1 rfl (by first | decide | exact lt_c (by decide)) rfl ?_
  refine P_iconst (q := 3) (v := nI 0) dX4_energy_2 rfl (by decide +kernel) ?_
  refine P_istore_n (q := 4) (L' := [_, _, _, _, _, _]) dX4_energy_3 rfl (by first | decide | exact lt_c (by decide)) rfl ?_
  refine P_iconst (q := 5) (v := nI 0) dX4_energy_4 rfl (by decide +kernel) ?_
  refine P_istore_n (q := 6) (L' := [_, _, _, _, _, _]) dX4_energy_5 rfl (by first | decide | exact lt_c (by decide)) rfl ?_
  exact w_energy0 hA h1 h2 hf A.C 0 (by omega) _ _
