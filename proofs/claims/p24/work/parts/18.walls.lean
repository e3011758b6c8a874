variable {eN : Nat}
/-! THE STRIP: walls, pairs, cells that a sweep would turn -/
theorem oB_bz {A : St} {o : Option Nat} {r W : Nat} (P : Nat → Bool) (h : ∀ d, o = some d → W.testBit (4 * d + r) = P d) : ((oB o r W : Nat) : Int) = oZ o (fun d => bZ (P d)) := by
  cases o with
  | none => rfl
  | some d =>
    show (((W.testBit (4 * d + r)).toNat : Nat) : Int) = bZ (P d)
    rw [h d rfl]
    cases P d <;> rfl
theorem vB_bz {A : St} {o : Option Nat} {c W : Nat} (P : Nat → Bool) (h : ∀ q, o = some q → W.testBit (4 * c + q) = P q) : ((vB c o W : Nat) : Int) = oZ o (fun q => bZ (P q)) := by
  cases o with
  | none => rfl
  | some q =>
    show (((W.testBit (4 * c + q)).toNat : Nat) : Int) = bZ (P q)
    rw [h q rfl]
    cases P q <;> rfl
theorem St.s_eq {A : St} (hA : A.ok) {c r d q : Nat} (hr : r < A.R) (hq : q < A.R) : (A.U.testBit (4 * d + q) == A.U.testBit (4 * c + r)) = (A.s c r == A.s d q) := by
  have hR := hA.2.1.2
  rw [A.U_cr hA c (by omega), A.U_cr hA d (by omega)]
  unfold St.s
  cases (A.sp c).testBit r <;> cases (A.sp d).testBit q <;> decide
theorem St.lk_cr {A : St} (hA : A.ok) {c r d q : Nat} (hd : d < A.C) (hr : r < A.R) (hq : q < A.R) : (A.lk (4 * c + r)).testBit (4 * d + q) = (A.s c r == A.s d q) := by
  have hR := hA.2.1.2
  rw [A.lk_bit hA, mskN_bit hR, A.s_eq hA hr hq, show (4 * d + q) / 4 = d by omega, show (4 * d + q) % 4 = q by omega, decide_eq_true hd, decide_eq_true hq, Bool.true_and, Bool.true_and]
theorem St.nlk_cr {A : St} (hA : A.ok) {c r d q : Nat} (hd : d < A.C) (hr : r < A.R) (hq : q < A.R) : (A.lk (4 * c + r) ^^^ nt64).testBit (4 * d + q) = (A.s c r != A.s d q) := by
  have hC := hA.1.2
  have hR := hA.2.1.2
  rw [Nat.testBit_xor, A.lk_cr hA hd hr hq, nt64_bit, decide_eq_true (show 4 * d + q < 64 by omega)]
  show ((A.s c r == A.s d q) ^^ true) = !(A.s c r == A.s d q)
  cases (A.s c r == A.s d q) <;> rfl
theorem St.cellW {A : St} (hA : A.ok) {c r : Nat} (hc : c < A.C) (hr : r < A.R) : ((pcN 64 (A.bN (2 ^ (4 * c + r)) &&& (A.lk (4 * c + r) ^^^ nt64)) : Nat) : Int) = A.cellP (fun c d r => bZ (A.s c r != A.s d r)) (fun c r q => bZ (A.s c r != A.s c q)) c r := by
  rw [A.cntN hA hc hr]
  unfold St.cellP
  rw [Int.natCast_add, Int.natCast_add, Int.natCast_add, oB_bz (A := A) (fun d => A.s c r != A.s d r) (fun d h => A.nlk_cr hA (A.prv_lt hA hc h) hr hr), oB_bz (A := A) (fun d => A.s c r != A.s d r) (fun d h => A.nlk_cr hA (A.nxt_lt hA h) hr hr), vB_bz (A := A) (fun q => A.s c r != A.s c q) (fun q h => A.nlk_cr hA hc hr (upr_lt h hr)), vB_bz (A := A) (fun q => A.s c r != A.s c q) (fun q h => A.nlk_cr hA hc hr (dnr_lt h))]
theorem St.cell1 {A : St} (hA : A.ok) {c r : Nat} (hc : c < A.C) (hr : r < A.R) : ((pcN 64 (A.bN (2 ^ (4 * c + r))) : Nat) : Int) = A.cellP (fun _ _ _ => 1) (fun _ _ _ => 1) c r := by
  have hC := hA.1.2
  have hR := hA.2.1.2
  rw [pcN_all (Nat.lt_of_lt_of_le (A.bN_lt hA _) (by first | decide | exact lt_c (by decide))), A.cntN hA hc hr]
  unfold St.cellP
  rw [Int.natCast_add, Int.natCast_add, Int.natCast_add, oB_bz (A := A) (fun _ => true) (fun d h => by have := A.prv_lt hA hc h; rw [nt64_bit]; exact decide_eq_true (by omega)), oB_bz (A := A) (fun _ => true) (fun d h => by have := A.nxt_lt hA h; rw [nt64_bit]; exact decide_eq_true (by omega)), vB_bz (A := A) (fun _ => true) (fun q h => by have := upr_lt h hr; rw [nt64_bit]; exact decide_eq_true (by omega)), vB_bz (A := A) (fun _ => true) (fun q h => by have := dnr_lt h; rw [nt64_bit]; exact decide_eq_true (by omega))]
  rfl
theorem St.cellP_in {A : St} (fa fx : Nat → Nat → Nat → Int) (ha : ∀ c d r, 0 ≤ fa c d r ∧ fa c d r ≤ 1) (hx : ∀ c d r, 0 ≤ fx c d r ∧ fx c d r ≤ 1) (c r : Nat) : 0 ≤ A.cellP fa fx c r ∧ A.cellP fa fx c r ≤ 4 := by
  have o : ∀ (o : Option Nat) (f : Nat → Int), (∀ d, 0 ≤ f d ∧ f d ≤ 1) → 0 ≤ oZ o f ∧ oZ o f ≤ 1 := fun o f h => by
    cases o with
    | none => simp [oZ]
    | some d => exact h d
  have a1 := o (A.prv c) (fun d => fa c d r) (fun d => ha c d r)
  have a2 := o (A.nxt c) (fun d => fa c d r) (fun d => ha c d r)
  have a3 := o (upr r) (fun q => fx c r q) (fun q => hx c r q)
  have a4 := o (dnr A.R r) (fun q => fx c r q) (fun q => hx c r q)
  unfold St.cellP
  omega
theorem bZ_in (b : Bool) : 0 ≤ bZ b ∧ bZ b ≤ 1 := by cases b <;> simp [bZ]
theorem St.WL_in {A : St} (hA : A.ok) : -120 ≤ A.WL ∧ A.WL ≤ 120 := by
  have h := sumZ2_in (f := fun c r => A.cellP (fun c d r => bZ (A.s c r != A.s d r)) (fun c r q => bZ (A.s c r != A.s c q)) c r) hA.1.2 hA.2.1.2 (b := 4) (by omega) (fun c r _ _ => by
    have := A.cellP_in (fun c d r => bZ (A.s c r != A.s d r)) (fun c r q => bZ (A.s c r != A.s c q)) (fun _ _ _ => bZ_in _) (fun _ _ _ => bZ_in _) c r
    omega)
  rw [A.WL_twice hA] at h
  omega
theorem St.PR_in {A : St} (hA : A.ok) : -120 ≤ A.PR ∧ A.PR ≤ 120 := by
  have h := sumZ2_in (f := fun c r => A.cellP (fun _ _ _ => 1) (fun _ _ _ => 1) c r) hA.1.2 hA.2.1.2 (b := 4) (by omega) (fun c r _ _ => by
    have := A.cellP_in (fun _ _ _ => 1) (fun _ _ _ => 1) (fun _ _ _ => by omega) (fun _ _ _ => by omega) c r
    omega)
  rw [A.PR_twice hA] at h
  omega
def St.pW (A : St) (c r : Nat) : Int := A.cellP (fun c d r => bZ (A.s c r != A.s d r)) (fun c r q => bZ (A.s c r != A.s c q)) c r
def St.p1 (A : St) (c r : Nat) : Int := A.cellP (fun _ _ _ => 1) (fun _ _ _ => 1) c r
def St.pG (A : St) (c r : Nat) : Int := bZ (decide (0 < A.gain c r))
def St.GC (A : St) : Int := sumZ A.C (fun c => sumZ A.R (A.pG c))
set_option maxRecDepth 100000 in
set_option maxHeartbeats 4000000 in
theorem w_walls1 {σ : Sto} {A : St}  (hA : A.ok) (h1 : σ 1 = stO A 2) {c : Nat} (hc : c < A.C) (K : ∀ x3 x4 x5 : Option Value, PW mX4_walls 0 0 (fun v σ' => v = some (.int (iI A.WL)) ∧ σ' = σ) 4 [some (.ref 1), some (.int (iI (sumZ (c + 1) (fun c => sumZ A.R (A.pW c))))), some (.int (nI (c + 1))), x3, x4, x5] [] (eN + 114) σ 0 0) : ∀ k r, r + k = A.R → ∀ x4 x5 : Option Value, PW mX4_walls 0 0 (fun v σ' => v = some (.int (iI A.WL)) ∧ σ' = σ) 14 [some (.ref 1), some (.int (iI (sumZ c (fun c => sumZ A.R (A.pW c)) + sumZ r (A.pW c)))), some (.int (nI c)), some (.int (nI r)), x4, x5] [] (eN + 114) σ 0 0 := by
  have hC := hA.1.2
  have hR := hA.2.1.2
  intro k
  induction k with
  | zero =>
    intro r hr x4 x5
    have e : r = A.R := by omega
    subst e
    refine P_iload_n (q := 15) dX4_walls_14 rfl rfl ?_
    refine P_aload_n (q := 16) dX4_walls_15 rfl rfl ?_
    refine P_get (q := 19) dX4_walls_16 rfl fX4_15 (by first | decide | exact lt_c (by decide)) (by assumption) rfl ?_
    refine P_icmp_ge (q := 22) (tgt := 58) dX4_walls_19 rfl (by first | decide | exact lt_c (by decide)) (fun c_19 => ?_) (fun c_19 => ?_)
    · rw [nI_leI (by omega) (by omega)] at c_19
      refine P_iinc (q := 61) (L' := [_, _, _, _, _, _]) (v := nI (c + 1)) dX4_walls_58 rfl (by first | decide | exact lt_c (by decide)) rfl (nI_1 c) rfl ?_
      refine P_goto (tgt := 4) dX4_walls_61 (by first | decide | exact lt_c (by decide)) ?_
      exact K _ _ _
    · exfalso; rw [nI_leI (by omega) (by omega)] at c_19; omega
  | succ k ih =>
    intro r hr x4 x5
    have hr' : r < A.R := by omega
    refine P_iload_n (q := 15) dX4_walls_14 rfl rfl ?_
    refine P_aload_n (q := 16) dX4_walls_15 rfl rfl ?_
    refine P_get (q := 19) dX4_walls_16 rfl fX4_15 (by first | decide | exact lt_c (by decide)) (by assumption) rfl ?_
    refine P_icmp_ge (q := 22) (tgt := 58) dX4_walls_19 rfl (by first | decide | exact lt_c (by decide)) (fun c_19 => ?_) (fun c_19 => ?_)
    · exfalso; rw [nI_leI (by omega) (by omega)] at c_19; omega
    · rw [nI_leI (by omega) (by omega)] at c_19
      refine P_iload_n (q := 23) dX4_walls_22 rfl rfl ?_
      refine P_iload_n (q := 24) dX4_walls_23 rfl rfl ?_
      refine P_cs1 (q := 27) dX4_walls_24 rfl kX4_62 (t_bit r c (by omega)) rfl rfl ⟨by decide, by decide⟩ (Nat.le_of_ble_eq_true rfl) ⟨Nat.le_refl _, Nat.le_refl _⟩ ?_
      refine P_lstore (q := 29) (L' := [_, _, _, _, _, _]) dX4_walls_27 rfl (by first | decide | exact lt_c (by decide)) rfl ?_
      refine P_iload_n (q := 30) dX4_walls_29 rfl rfl ?_
      refine P_aload_n (q := 31) dX4_walls_30 rfl rfl ?_
      refine P_lload (q := 33) dX4_walls_31 rfl rfl ?_
      refine P_cv1 (q := 36) dX4_walls_33 rfl kX4_100 (t_beside hA h1 _ (one_lt hA hc hr')) rfl rfl (by first | decide | exact lt_c (by decide)) (by assumption) rfl ⟨by decide, by decide⟩ (Nat.le_of_ble_eq_true rfl) ⟨Nat.le_refl _, Nat.le_refl _⟩ ?_
      refine P_aload_n (q := 37) dX4_walls_36 rfl rfl ?_
      refine P_lload (q := 39) dX4_walls_37 rfl rfl ?_
      refine P_cv1 (q := 42) dX4_walls_39 rfl kX4_103 (t_alike hA h1 (by omega)) rfl rfl (by first | decide | exact lt_c (by decide)) (by assumption) rfl ⟨by decide, by decide⟩ (Nat.le_of_ble_eq_true rfl) ⟨Nat.le_refl _, Nat.le_refl _⟩ ?_
      refine P_ldc2 (q := 45) dX4_walls_42 rfl qX4_86 ?_
      refine P_lxor (q := 46) dX4_walls_45 rfl ?_
      have hl := A.lk_lt hA (4 * c + r)
      have hb := A.bN_lt hA (2 ^ (4 * c + r))
      rw [show (-1 : Int64) = lN nt64 from by decide +kernel, lN_xor]
      refine P_land (q := 47) dX4_walls_46 rfl ?_
      rw [lN_and (by omega) (Nat.xor_lt_two_pow (by omega) nt64_lt)]
      refine P_cs1 (q := 50) dX4_walls_47 rfl kX4_69 (t_bitCount _ (Nat.lt_of_le_of_lt Nat.and_le_left (by omega))) rfl rfl ⟨by decide, by decide⟩ (Nat.le_of_ble_eq_true rfl) ⟨Nat.le_refl _, Nat.le_refl _⟩ ?_
      refine P_iadd (q := 51) dX4_walls_50 rfl ?_
      rw [iI_nI (pcN 64 _), A.cellW hA hc hr', iI_add, Int.add_assoc]
      refine P_istore_n (q := 52) (L' := [_, _, _, _, _, _]) dX4_walls_51 rfl (by first | decide | exact lt_c (by decide)) rfl ?_
      refine P_iinc (q := 55) (L' := [_, _, _, _, _, _]) (v := nI (r + 1)) dX4_walls_52 rfl (by first | decide | exact lt_c (by decide)) rfl (nI_1 r) rfl ?_
      refine P_goto (tgt := 14) dX4_walls_55 (by first | decide | exact lt_c (by decide)) ?_
      exact ih (r + 1) (by omega) _ _
set_option maxRecDepth 100000 in
set_option maxHeartbeats 4000000 in
theorem w_walls0 {σ : Sto} {A : St}  (hA : A.ok) (h1 : σ 1 = stO A 2) : ∀ k c, c + k = A.C → ∀ x3 x4 x5 : Option Value, PW mX4_walls 0 0 (fun v σ' => v = some (.int (iI A.WL)) ∧ σ' = σ) 4 [some (.ref 1), some (.int (iI (sumZ c (fun c => sumZ A.R (A.pW c))))), some (.int (nI c)), x3, x4, x5] [] (eN + 114) σ 0 0 := by
  have hC := hA.1.2
  have hR := hA.2.1.2
  intro k
  induction k with
  | zero =>
    intro c hc x3 x4 x5
    have e : c = A.C := by omega
    subst e
    have hE := A.WL_twice hA
    have hI := A.WL_in hA
    change sumZ A.C (fun c => sumZ A.R (A.pW c)) = 2 * A.WL at hE
    refine P_iload_n (q := 5) dX4_walls_4 rfl rfl ?_
    refine P_aload_n (q := 6) dX4_walls_5 rfl rfl ?_
    refine P_get (q := 9) dX4_walls_6 rfl fX4_9 (by first | decide | exact lt_c (by decide)) (by assumption) rfl ?_
    refine P_icmp_ge (q := 12) (tgt := 64) dX4_walls_9 rfl (by first | decide | exact lt_c (by decide)) (fun c_9 => ?_) (fun c_9 => ?_)
    · rw [nI_leI (by omega) (by omega)] at c_9
      refine P_iload_n (q := 65) dX4_walls_64 rfl rfl ?_
      refine P_iconst (q := 66) (v := nI 2) dX4_walls_65 rfl (by decide +kernel) ?_
      refine P_idiv (q := 67) dX4_walls_66 rfl (by first | decide | exact lt_c (by decide)) ?_
      refine P_iret dX4_walls_67 rfl (rfl) ?_
      exact ⟨rv_i (by rw [hE, iI_half (by omega) (by omega)]), rfl⟩
    · exfalso; rw [nI_leI (by omega) (by omega)] at c_9; omega
  | succ k ih =>
    intro c hc x3 x4 x5
    refine P_iload_n (q := 5) dX4_walls_4 rfl rfl ?_
    refine P_aload_n (q := 6) dX4_walls_5 rfl rfl ?_
    refine P_get (q := 9) dX4_walls_6 rfl fX4_9 (by first | decide | exact lt_c (by decide)) (by assumption) rfl ?_
    refine P_icmp_ge (q := 12) (tgt := 64) dX4_walls_9 rfl (by first | decide | exact lt_c (by decide)) (fun c_9 => ?_) (fun c_9 => ?_)
    · exfalso; rw [nI_leI (by omega) (by omega)] at c_9; omega
    · rw [nI_leI (by omega) (by omega)] at c_9
      refine P_iconst (q := 13) (v := nI 0) dX4_walls_12 rfl (by decide +kernel) ?_
      refine P_istore_n (q := 14) (L' := [_, _, _, _, _, _]) dX4_walls_13 rfl (by first | decide | exact lt_c (by decide)) rfl ?_
      have h := w_walls1 (eN := eN) hA h1 (show c < A.C by omega) (fun x3 x4 x5 => ih (c + 1) (by omega) x3 x4 x5) A.R 0 (by omega) x4 x5
      rw [show sumZ 0 (A.pW c) = 0 from rfl, Int.add_zero] at h
      exact h
set_option maxRecDepth 100000 in
set_option maxHeartbeats 4000000 in
theorem t_walls {σ : Sto} {A : St}  (hA : A.ok) (h1 : σ 1 = stO A 2) : CD mX4_walls [.ref 1] (eN + 114) σ (some (.int (iI A.WL))) σ := by
  refine CP_of (by decide +kernel) (Nat.le_of_ble_eq_true rfl) ?_
  change PW _ _ _ _ 0 [_, _, _, _, _, _] [] _ _ _ _
  refine P_iconst (q := 1) (v := nI 0) dX4_walls_0 rfl (by decide +kernel) ?_
  refine P_istore_n (q := 2) (L' := [_, _, _, _, _, _]) dX4_walls_1 rfl (by first | decide | exact lt_c (by decide)) rfl ?_
  refine P_iconst (q := 3) (v := nI 0) dX4_walls_2 rfl (by decide +kernel) ?_
  refine P_istore_n (q := 4) (L' := [_, _, _, _, _, _]) dX4_walls_3 rfl (by first | decide | exact lt_c (by decide)) rfl ?_
  exact w_walls0 hA h1 A.C 0 (by omega) _ _ _
set_option maxRecDepth 100000 in
set_option maxHeartbeats 4000000 in
theorem w_pairs1 {σ : Sto} {A : St}  (hA : A.ok) (h1 : σ 1 = stO A 2) {c : Nat} (hc : c < A.C) (K : ∀ x3  : Option Value, PW mX4_pairs 0 0 (fun v σ' => v = some (.int (iI A.PR)) ∧ σ' = σ) 4 [some (.ref 1), some (.int (iI (sumZ (c + 1) (fun c => sumZ A.R (A.p1 c))))), some (.int (nI (c + 1))), x3] [] (eN + 114) σ 0 0) : ∀ k r, r + k = A.R → PW mX4_pairs 0 0 (fun v σ' => v = some (.int (iI A.PR)) ∧ σ' = σ) 14 [some (.ref 1), some (.int (iI (sumZ c (fun c => sumZ A.R (A.p1 c)) + sumZ r (A.p1 c)))), some (.int (nI c)), some (.int (nI r))] [] (eN + 114) σ 0 0 := by
  have hC := hA.1.2
  have hR := hA.2.1.2
  intro k
  induction k with
  | zero =>
    intro r hr 
    have e : r = A.R := by omega
    subst e
    refine P_iload_n (q := 15) dX4_pairs_14 rfl rfl ?_
    refine P_aload_n (q := 16) dX4_pairs_15 rfl rfl ?_
    refine P_get (q := 19) dX4_pairs_16 rfl fX4_15 (by first | decide | exact lt_c (by decide)) (by assumption) rfl ?_
    refine P_icmp_ge (q := 22) (tgt := 43) dX4_pairs_19 rfl (by first | decide | exact lt_c (by decide)) (fun c_19 => ?_) (fun c_19 => ?_)
    · rw [nI_leI (by omega) (by omega)] at c_19
      refine P_iinc (q := 46) (L' := [_, _, _, _]) (v := nI (c + 1)) dX4_pairs_43 rfl (by first | decide | exact lt_c (by decide)) rfl (nI_1 c) rfl ?_
      refine P_goto (tgt := 4) dX4_pairs_46 (by first | decide | exact lt_c (by decide)) ?_
      exact K _ 
    · exfalso; rw [nI_leI (by omega) (by omega)] at c_19; omega
  | succ k ih =>
    intro r hr 
    have hr' : r < A.R := by omega
    refine P_iload_n (q := 15) dX4_pairs_14 rfl rfl ?_
    refine P_aload_n (q := 16) dX4_pairs_15 rfl rfl ?_
    refine P_get (q := 19) dX4_pairs_16 rfl fX4_15 (by first | decide | exact lt_c (by decide)) (by assumption) rfl ?_
    refine P_icmp_ge (q := 22) (tgt := 43) dX4_pairs_19 rfl (by first | decide | exact lt_c (by decide)) (fun c_19 => ?_) (fun c_19 => ?_)
    · exfalso; rw [nI_leI (by omega) (by omega)] at c_19; omega
    · rw [nI_leI (by omega) (by omega)] at c_19
      refine P_iload_n (q := 23) dX4_pairs_22 rfl rfl ?_
      refine P_aload_n (q := 24) dX4_pairs_23 rfl rfl ?_
      refine P_iload_n (q := 25) dX4_pairs_24 rfl rfl ?_
      refine P_iload_n (q := 26) dX4_pairs_25 rfl rfl ?_
      refine P_cs1 (q := 29) dX4_pairs_26 rfl kX4_62 (t_bit r c (by omega)) rfl rfl ⟨by decide, by decide⟩ (Nat.le_of_ble_eq_true rfl) ⟨Nat.le_refl _, Nat.le_refl _⟩ ?_
      refine P_cv1 (q := 32) dX4_pairs_29 rfl kX4_100 (t_beside hA h1 _ (one_lt hA hc hr')) rfl rfl (by first | decide | exact lt_c (by decide)) (by assumption) rfl ⟨by decide, by decide⟩ (Nat.le_of_ble_eq_true rfl) ⟨Nat.le_refl _, Nat.le_refl _⟩ ?_
      refine P_cs1 (q := 35) dX4_pairs_32 rfl kX4_69 (t_bitCount _ (Nat.lt_of_lt_of_le (A.bN_lt hA _) (by first | decide | exact lt_c (by decide)))) rfl rfl ⟨by decide, by decide⟩ (Nat.le_of_ble_eq_true rfl) ⟨Nat.le_refl _, Nat.le_refl _⟩ ?_
      refine P_iadd (q := 36) dX4_pairs_35 rfl ?_
      rw [iI_nI (pcN 64 _), A.cell1 hA hc hr', iI_add, Int.add_assoc]
      refine P_istore_n (q := 37) (L' := [_, _, _, _]) dX4_pairs_36 rfl (by first | decide | exact lt_c (by decide)) rfl ?_
      refine P_iinc (q := 40) (L' := [_, _, _, _]) (v := nI (r + 1)) dX4_pairs_37 rfl (by first | decide | exact lt_c (by decide)) rfl (nI_1 r) rfl ?_
      refine P_goto (tgt := 14) dX4_pairs_40 (by first | decide | exact lt_c (by decide)) ?_
      exact ih (r + 1) (by omega) 
set_option maxRecDepth 100000 in
set_option maxHeartbeats 4000000 in
theorem w_pairs0 {σ : Sto} {A : St}  (hA : A.ok) (h1 : σ 1 = stO A 2) : ∀ k c, c + k = A.C → ∀ x3  : Option Value, PW mX4_pairs 0 0 (fun v σ' => v = some (.int (iI A.PR)) ∧ σ' = σ) 4 [some (.ref 1), some (.int (iI (sumZ c (fun c => sumZ A.R (A.p1 c))))), some (.int (nI c)), x3] [] (eN + 114) σ 0 0 := by
  have hC := hA.1.2
  have hR := hA.2.1.2
  intro k
  induction k with
  | zero =>
    intro c hc x3 
    have e : c = A.C := by omega
    subst e
    have hE := A.PR_twice hA
    have hI := A.PR_in hA
    change sumZ A.C (fun c => sumZ A.R (A.p1 c)) = 2 * A.PR at hE
    refine P_iload_n (q := 5) dX4_pairs_4 rfl rfl ?_
    refine P_aload_n (q := 6) dX4_pairs_5 rfl rfl ?_
    refine P_get (q := 9) dX4_pairs_6 rfl fX4_9 (by first | decide | exact lt_c (by decide)) (by assumption) rfl ?_
    refine P_icmp_ge (q := 12) (tgt := 49) dX4_pairs_9 rfl (by first | decide | exact lt_c (by decide)) (fun c_9 => ?_) (fun c_9 => ?_)
    · rw [nI_leI (by omega) (by omega)] at c_9
      refine P_iload_n (q := 50) dX4_pairs_49 rfl rfl ?_
      refine P_iconst (q := 51) (v := nI 2) dX4_pairs_50 rfl (by decide +kernel) ?_
      refine P_idiv (q := 52) dX4_pairs_51 rfl (by first | decide | exact lt_c (by decide)) ?_
      refine P_iret dX4_pairs_52 rfl (rfl) ?_
      exact ⟨rv_i (by rw [hE, iI_half (by omega) (by omega)]), rfl⟩
    · exfalso; rw [nI_leI (by omega) (by omega)] at c_9; omega
  | succ k ih =>
    intro c hc x3 
    refine P_iload_n (q := 5) dX4_pairs_4 rfl rfl ?_
    refine P_aload_n (q := 6) dX4_pairs_5 rfl rfl ?_
    refine P_get (q := 9) dX4_pairs_6 rfl fX4_9 (by first | decide | exact lt_c (by decide)) (by assumption) rfl ?_
    refine P_icmp_ge (q := 12) (tgt := 49) dX4_pairs_9 rfl (by first | decide | exact lt_c (by decide)) (fun c_9 => ?_) (fun c_9 => ?_)
    · exfalso; rw [nI_leI (by omega) (by omega)] at c_9; omega
    · rw [nI_leI (by omega) (by omega)] at c_9
      refine P_iconst (q := 13) (v := nI 0) dX4_pairs_12 rfl (by decide +kernel) ?_
      refine P_istore_n (q := 14) (L' := [_, _, _, _]) dX4_pairs_13 rfl (by first | decide | exact lt_c (by decide)) rfl ?_
      have h := w_pairs1 (eN := eN) hA h1 (show c < A.C by omega) (fun x3 => ih (c + 1) (by omega) x3 ) A.R 0 (by omega) 
      rw [show sumZ 0 (A.p1 c) = 0 from rfl, Int.add_zero] at h
      exact h
set_option maxRecDepth 100000 in
set_option maxHeartbeats 4000000 in
theorem t_pairs {σ : Sto} {A : St}  (hA : A.ok) (h1 : σ 1 = stO A 2) : CD mX4_pairs [.ref 1] (eN + 114) σ (some (.int (iI A.PR))) σ := by
  refine CP_of (by decide +kernel) (Nat.le_of_ble_eq_true rfl) ?_
  change PW _ _ _ _ 0 [_, _, _, _] [] _ _ _ _
  refine P_iconst (q := 1) (v := nI 0) dX4_pairs_0 rfl (by decide +kernel) ?_
  refine P_istore_n (q := 2) (L' := [_, _, _, _]) dX4_pairs_1 rfl (by first | decide | exact lt_c (by decide)) rfl ?_
  refine P_iconst (q := 3) (v := nI 0) dX4_pairs_2 rfl (by decide +kernel) ?_
  refine P_istore_n (q := 4) (L' := [_, _, _, _]) dX4_pairs_3 rfl (by first | decide | exact lt_c (by decide)) rfl ?_
  exact w_pairs0 hA h1 A.C 0 (by omega) _ 
set_option maxRecDepth 100000 in
set_option maxHeartbeats 4000000 in
theorem w_gaining1 {σ : Sto} {A : St} {f : Nat → Int32} (hA : A.ok) (h1 : σ 1 = stO A 2) (h2 : σ 2 = pI .int 40 f) (hf : stF A f) {c : Nat} (hc : c < A.C) (K : ∀ x3  : Option Value, PW mX4_gainingCells 0 0 (fun v σ' => v = some (.int (iI A.GC)) ∧ σ' = σ) 4 [some (.ref 1), some (.int (iI (sumZ (c + 1) (fun c => sumZ A.R (A.pG c))))), some (.int (nI (c + 1))), x3] [] (eN + 114) σ 0 0) : ∀ k r, r + k = A.R → PW mX4_gainingCells 0 0 (fun v σ' => v = some (.int (iI A.GC)) ∧ σ' = σ) 14 [some (.ref 1), some (.int (iI (sumZ c (fun c => sumZ A.R (A.pG c)) + sumZ r (A.pG c)))), some (.int (nI c)), some (.int (nI r))] [] (eN + 114) σ 0 0 := by
  have hC := hA.1.2
  have hR := hA.2.1.2
  intro k
  induction k with
  | zero =>
    intro r hr 
    have e : r = A.R := by omega
    subst e
    refine P_iload_n (q := 15) dX4_gainingCells_14 rfl rfl ?_
    refine P_aload_n (q := 16) dX4_gainingCells_15 rfl rfl ?_
    refine P_get (q := 19) dX4_gainingCells_16 rfl fX4_15 (by first | decide | exact lt_c (by decide)) (by assumption) rfl ?_
    refine P_icmp_ge (q := 22) (tgt := 40) dX4_gainingCells_19 rfl (by first | decide | exact lt_c (by decide)) (fun c_19 => ?_) (fun c_19 => ?_)
    · rw [nI_leI (by omega) (by omega)] at c_19
      refine P_iinc (q := 43) (L' := [_, _, _, _]) (v := nI (c + 1)) dX4_gainingCells_40 rfl (by first | decide | exact lt_c (by decide)) rfl (nI_1 c) rfl ?_
      refine P_goto (tgt := 4) dX4_gainingCells_43 (by first | decide | exact lt_c (by decide)) ?_
      exact K _ 
    · exfalso; rw [nI_leI (by omega) (by omega)] at c_19; omega
  | succ k ih =>
    intro r hr 
    have hr' : r < A.R := by omega
    refine P_iload_n (q := 15) dX4_gainingCells_14 rfl rfl ?_
    refine P_aload_n (q := 16) dX4_gainingCells_15 rfl rfl ?_
    refine P_get (q := 19) dX4_gainingCells_16 rfl fX4_15 (by first | decide | exact lt_c (by decide)) (by assumption) rfl ?_
    refine P_icmp_ge (q := 22) (tgt := 40) dX4_gainingCells_19 rfl (by first | decide | exact lt_c (by decide)) (fun c_19 => ?_) (fun c_19 => ?_)
    · exfalso; rw [nI_leI (by omega) (by omega)] at c_19; omega
    · rw [nI_leI (by omega) (by omega)] at c_19
      refine P_aload_n (q := 23) dX4_gainingCells_22 rfl rfl ?_
      refine P_iload_n (q := 24) dX4_gainingCells_23 rfl rfl ?_
      refine P_iload_n (q := 25) dX4_gainingCells_24 rfl rfl ?_
      refine P_cv1 (q := 28) dX4_gainingCells_25 rfl kX4_109 (t_gain hA h1 h2 hf hr' hc) rfl rfl (by first | decide | exact lt_c (by decide)) (by assumption) rfl ⟨by decide, by decide⟩ (Nat.le_of_ble_eq_true rfl) ⟨Nat.le_refl _, Nat.le_refl _⟩ ?_
      refine P_if_le (q := 31) (tgt := 34) dX4_gainingCells_28 rfl (by first | decide | exact lt_c (by decide)) (fun c_28 => ?_) (fun c_28 => ?_)
      · have hg := A.gain_in hA c r
        change iI (A.gain c r) ≤ iI 0 at c_28
        rw [iI_le (by omega) (by omega) (by omega) (by omega)] at c_28
        rw [show sumZ r (A.pG c) = sumZ (r + 1) (A.pG c) from by rw [sumZ, show A.pG c r = 0 from by unfold St.pG; rw [decide_eq_false (by omega)]; rfl, Int.add_zero]]
        refine P_iinc (q := 37) (L' := [_, _, _, _]) (v := nI (r + 1)) dX4_gainingCells_34 rfl (by first | decide | exact lt_c (by decide)) rfl (nI_1 r) rfl ?_
        refine P_goto (tgt := 14) dX4_gainingCells_37 (by first | decide | exact lt_c (by decide)) ?_
        exact ih (r + 1) (by omega) 
      · have hg := A.gain_in hA c r
        change ¬ iI (A.gain c r) ≤ iI 0 at c_28
        rw [iI_le (by omega) (by omega) (by omega) (by omega)] at c_28
        refine P_iinc (q := 34) (L' := [_, _, _, _]) (v := iI (sumZ c (fun c => sumZ A.R (A.pG c)) + sumZ (r + 1) (A.pG c))) dX4_gainingCells_31 rfl (by first | decide | exact lt_c (by decide)) rfl (by rw [show Int32.ofInt 1 = iI 1 from rfl, iI_add, Int.add_assoc, sumZ, show A.pG c r = 1 from by unfold St.pG; rw [decide_eq_true (by omega)]; rfl]) rfl ?_
        refine P_iinc (q := 37) (L' := [_, _, _, _]) (v := nI (r + 1)) dX4_gainingCells_34 rfl (by first | decide | exact lt_c (by decide)) rfl (nI_1 r) rfl ?_
        refine P_goto (tgt := 14) dX4_gainingCells_37 (by first | decide | exact lt_c (by decide)) ?_
        exact ih (r + 1) (by omega) 
set_option maxRecDepth 100000 in
set_option maxHeartbeats 4000000 in
theorem w_gaining0 {σ : Sto} {A : St} {f : Nat → Int32} (hA : A.ok) (h1 : σ 1 = stO A 2) (h2 : σ 2 = pI .int 40 f) (hf : stF A f) : ∀ k c, c + k = A.C → ∀ x3  : Option Value, PW mX4_gainingCells 0 0 (fun v σ' => v = some (.int (iI A.GC)) ∧ σ' = σ) 4 [some (.ref 1), some (.int (iI (sumZ c (fun c => sumZ A.R (A.pG c))))), some (.int (nI c)), x3] [] (eN + 114) σ 0 0 := by
  have hC := hA.1.2
  have hR := hA.2.1.2
  intro k
  induction k with
  | zero =>
    intro c hc x3 
    have e : c = A.C := by omega
    subst e
    refine P_iload_n (q := 5) dX4_gainingCells_4 rfl rfl ?_
    refine P_aload_n (q := 6) dX4_gainingCells_5 rfl rfl ?_
    refine P_get (q := 9) dX4_gainingCells_6 rfl fX4_9 (by first | decide | exact lt_c (by decide)) (by assumption) rfl ?_
    refine P_icmp_ge (q := 12) (tgt := 46) dX4_gainingCells_9 rfl (by first | decide | exact lt_c (by decide)) (fun c_9 => ?_) (fun c_9 => ?_)
    · rw [nI_leI (by omega) (by omega)] at c_9
      refine P_iload_n (q := 47) dX4_gainingCells_46 rfl rfl ?_
      refine P_iret dX4_gainingCells_47 rfl (rfl) ?_
      exact ⟨rfl, rfl⟩
    · exfalso; rw [nI_leI (by omega) (by omega)] at c_9; omega
  | succ k ih =>
    intro c hc x3 
    refine P_iload_n (q := 5) dX4_gainingCells_4 rfl rfl ?_
    refine P_aload_n (q := 6) dX4_gainingCells_5 rfl rfl ?_
    refine P_get (q := 9) dX4_gainingCells_6 rfl fX4_9 (by first | decide | exact lt_c (by decide)) (by assumption) rfl ?_
    refine P_icmp_ge (q := 12) (tgt := 46) dX4_gainingCells_9 rfl (by first | decide | exact lt_c (by decide)) (fun c_9 => ?_) (fun c_9 => ?_)
    · exfalso; rw [nI_leI (by omega) (by omega)] at c_9; omega
    · rw [nI_leI (by omega) (by omega)] at c_9
      refine P_iconst (q := 13) (v := nI 0) dX4_gainingCells_12 rfl (by decide +kernel) ?_
      refine P_istore_n (q := 14) (L' := [_, _, _, _]) dX4_gainingCells_13 rfl (by first | decide | exact lt_c (by decide)) rfl ?_
      have h := w_gaining1 (eN := eN) hA h1 h2 hf (show c < A.C by omega) (fun x3 => ih (c + 1) (by omega) x3 ) A.R 0 (by omega) 
      rw [show sumZ 0 (A.pG c) = 0 from rfl, Int.add_zero] at h
      exact h
set_option maxRecDepth 100000 in
set_option maxHeartbeats 4000000 in
theorem t_gaining {σ : Sto} {A : St} {f : Nat → Int32} (hA : A.ok) (h1 : σ 1 = stO A 2) (h2 : σ 2 = pI .int 40 f) (hf : stF A f) : CD mX4_gainingCells [.ref 1] (eN + 114) σ (some (.int (iI A.GC))) σ := by
  refine CP_of (by decide +kernel) (Nat.le_of_ble_eq_true rfl) ?_
  change PW _ _ _ _ 0 [_, _, _, _] [] _ _ _ _
  refine P_iconst (q := 1) (v := nI 0) dX4_gainingCells_0 rfl (by decide +kernel) ?_
  refine P_istore_n (q := 2) (L' := [_, _, _, _]) dX4_gainingCells_1 rfl (by first | decide | exact lt_c (by decide)) rfl ?_
  refine P_iconst (q := 3) (v := nI 0) dX4_gainingCells_2 rfl (by decide +kernel) ?_
  refine P_istore_n (q := 4) (L' := [_, _, _, _]) dX4_gainingCells_3 rfl (by first | decide | exact lt_c (by decide)) rfl ?_
  exact w_gaining0 hA h1 h2 hf A.C 0 (by omega) _ 
