variable {eN : Nat}
/-! NEIGHBOURS as bits -/
def bAr (C R : Nat) (lp : Bool) (a : Nat) : Nat := ((a * 16 ||| a / 16) ||| (if lp then (a * 2 ^ (4 * (C - 1)) % 2 ^ 64 ||| a / 2 ^ (4 * (C - 1))) else 0)) &&& mskN C R
def bXr (C R : Nat) (a : Nat) : Nat := (a * 2 ||| a / 2) &&& mskN C R
def St.bA (A : St) (a : Nat) : Nat := bAr A.C A.R A.lp a
def St.bX (A : St) (a : Nat) : Nat := bXr A.C A.R a
def St.bN (A : St) (a : Nat) : Nat := A.bA a ||| A.bX a
theorem or_lt {a b k : Nat} (ha : a < 2 ^ k) (hb : b < 2 ^ k) : a ||| b < 2 ^ k := Nat.or_lt_two_pow ha hb
theorem lN_or {a b : Nat} (ha : a < 2 ^ 64) (hb : b < 2 ^ 64) : lN a ||| lN b = lN (a ||| b) := wb_or ha hb
theorem lN_and {a b : Nat} (ha : a < 2 ^ 64) (hb : b < 2 ^ 64) : lN a &&& lN b = lN (a &&& b) := wb_and ha hb
theorem bA_1 {a : Nat} (h : a < 2 ^ 40) : (lN a <<< ((nI 4).toInt64 &&& 63)) ||| ((lN a).toUInt64 >>> ((nI 4).toInt64.toUInt64 &&& Int64.toUInt64 63)).toInt64 = lN (a * 16 ||| a / 16) := by
  rw [lN_shl _ (by first | decide | exact lt_c (by decide)), wb_shr (by omega) (by first | decide | exact lt_c (by decide)), lN_or (by omega) (by omega)]
theorem bX_1 {a : Nat} (h : a < 2 ^ 40) : (lN a <<< ((nI 1).toInt64 &&& 63)) ||| ((lN a).toUInt64 >>> ((nI 1).toInt64.toUInt64 &&& Int64.toUInt64 63)).toInt64 = lN (a * 2 ||| a / 2) := by
  rw [lN_shl _ (by first | decide | exact lt_c (by decide)), wb_shr (by omega) (by first | decide | exact lt_c (by decide)), lN_or (by omega) (by omega)]
theorem bA_2 {a x k : Nat} (h : a < 2 ^ 40) (hx : x < 2 ^ 64) (hk : k < 64) : lN x ||| ((lN a <<< ((nI k).toInt64 &&& 63)) ||| ((lN a).toUInt64 >>> ((nI k).toInt64.toUInt64 &&& Int64.toUInt64 63)).toInt64) = lN (x ||| (a * 2 ^ k % 2 ^ 64 ||| a / 2 ^ k)) := by
  have h1 : a * 2 ^ k % 2 ^ 64 < 2 ^ 64 := Nat.mod_lt _ (by first | decide | exact lt_c (by decide))
  have h2 : a / 2 ^ k < 2 ^ 64 := Nat.lt_of_le_of_lt (Nat.div_le_self _ _) (by omega)
  rw [lN_shl _ hk, wb_shr (by omega) hk, wb_mod (a * 2 ^ k), lN_or h1 h2, lN_or hx (or_lt h1 h2)]
set_option maxRecDepth 100000 in
set_option maxHeartbeats 4000000 in
theorem t_besideAlong {σ : Sto} {A : St} (hA : A.ok) (h1 : σ 1 = stO A 2) (a : Nat) (ha : a < 2 ^ 40) : CD mX4_besideAlong [.ref 1, .long (lN a)] (eN + 114) σ (some (.long (lN (A.bA a)))) σ := by
  have hC := hA.1
  have hM := mskN_lt hC.2 hA.2.1.2
  have hx : a * 16 ||| a / 16 < 2 ^ 64 := or_lt (by omega) (by omega)
  refine CP_of (by decide +kernel) (Nat.le_of_ble_eq_true rfl) ?_
  change PW _ _ _ _ 0 [_, _, _, _, _, _] [] _ _ _ _
  refine P_lload_n (q := 1) dX4_besideAlong_0 rfl rfl ?_
  refine P_iconst (q := 2) (v := nI 4) dX4_besideAlong_1 rfl (by decide +kernel) ?_
  refine P_lshl (q := 3) dX4_besideAlong_2 rfl ?_
  refine P_lload_n (q := 4) dX4_besideAlong_3 rfl rfl ?_
  refine P_iconst (q := 5) (v := nI 4) dX4_besideAlong_4 rfl (by decide +kernel) ?_
  refine P_lushr (q := 6) dX4_besideAlong_5 rfl ?_
  refine P_lor (q := 7) dX4_besideAlong_6 rfl ?_
  rw [bA_1 ha]
  refine P_lstore_n (q := 8) (L' := [_, _, _, _, _, _]) dX4_besideAlong_7 rfl (by first | decide | exact lt_c (by decide)) rfl ?_
  refine P_aload_n (q := 9) dX4_besideAlong_8 rfl rfl ?_
  refine P_cv1 (q := 12) dX4_besideAlong_9 rfl kX4_75 (t_closed hA h1) rfl rfl (by first | decide | exact lt_c (by decide)) (by assumption) rfl ⟨by decide, by decide⟩ (Nat.le_of_ble_eq_true rfl) ⟨Nat.le_refl _, Nat.le_refl _⟩ ?_
  refine P_if_eq (q := 15) (tgt := 39) dX4_besideAlong_12 rfl (by first | decide | exact lt_c (by decide)) (fun c_12 => ?_) (fun c_12 => ?_)
  · rw [bI_0] at c_12
    refine P_lload_n (q := 40) dX4_besideAlong_39 rfl rfl ?_
    refine P_aload_n (q := 41) dX4_besideAlong_40 rfl rfl ?_
    refine P_get (q := 44) dX4_besideAlong_41 rfl fX4_32 (by first | decide | exact lt_c (by decide)) (by assumption) rfl ?_
    refine P_land (q := 45) dX4_besideAlong_44 rfl ?_
    refine P_lret dX4_besideAlong_45 rfl ?_
    exact ⟨rv_l (by rw [lN_and (by first | exact hx | exact or_lt hx (or_lt (Nat.mod_lt _ (by first | decide | exact lt_c (by decide))) (Nat.lt_of_le_of_lt (Nat.div_le_self _ _) (by omega)))) (by omega)]; unfold St.bA bAr; rw [c_12]; simp), rfl⟩
  · rw [bI_n] at c_12
    refine P_iconst (q := 16) (v := nI 0) dX4_besideAlong_15 rfl (by decide +kernel) ?_
    refine P_aload_n (q := 17) dX4_besideAlong_16 rfl rfl ?_
    refine P_get (q := 20) dX4_besideAlong_17 rfl fX4_9 (by first | decide | exact lt_c (by decide)) (by assumption) rfl ?_
    refine P_iconst (q := 21) (v := nI 1) dX4_besideAlong_20 rfl (by decide +kernel) ?_
    refine P_isub (q := 22) dX4_besideAlong_21 rfl ?_
    rw [pk_sub (by omega)]
    refine P_cs1 (q := 25) dX4_besideAlong_22 rfl kX4_46 (t_place 0 (A.C - 1)) rfl rfl ⟨by decide, by decide⟩ (Nat.le_of_ble_eq_true rfl) ⟨Nat.le_refl _, Nat.le_refl _⟩ ?_
    refine P_istore (q := 27) (L' := [_, _, _, _, _, _]) dX4_besideAlong_25 rfl (by first | decide | exact lt_c (by decide)) rfl ?_
    refine P_lload_n (q := 28) dX4_besideAlong_27 rfl rfl ?_
    refine P_lload_n (q := 29) dX4_besideAlong_28 rfl rfl ?_
    refine P_iload (q := 31) dX4_besideAlong_29 rfl rfl ?_
    refine P_lshl (q := 32) dX4_besideAlong_31 rfl ?_
    refine P_lload_n (q := 33) dX4_besideAlong_32 rfl rfl ?_
    refine P_iload (q := 35) dX4_besideAlong_33 rfl rfl ?_
    refine P_lushr (q := 36) dX4_besideAlong_35 rfl ?_
    refine P_lor (q := 37) dX4_besideAlong_36 rfl ?_
    refine P_lor (q := 38) dX4_besideAlong_37 rfl ?_
    rw [bA_2 ha hx (by omega)]
    refine P_lstore_n (q := 39) (L' := [_, _, _, _, _, _]) dX4_besideAlong_38 rfl (by first | decide | exact lt_c (by decide)) rfl ?_
    refine P_lload_n (q := 40) dX4_besideAlong_39 rfl rfl ?_
    refine P_aload_n (q := 41) dX4_besideAlong_40 rfl rfl ?_
    refine P_get (q := 44) dX4_besideAlong_41 rfl fX4_32 (by first | decide | exact lt_c (by decide)) (by assumption) rfl ?_
    refine P_land (q := 45) dX4_besideAlong_44 rfl ?_
    refine P_lret dX4_besideAlong_45 rfl ?_
    exact ⟨rv_l (by rw [lN_and (by first | exact hx | exact or_lt hx (or_lt (Nat.mod_lt _ (by first | decide | exact lt_c (by decide))) (Nat.lt_of_le_of_lt (Nat.div_le_self _ _) (by omega)))) (by omega)]; unfold St.bA bAr; rw [c_12]; simp), rfl⟩
set_option maxRecDepth 100000 in
set_option maxHeartbeats 4000000 in
theorem t_besideAcross {σ : Sto} {A : St} (hA : A.ok) (h1 : σ 1 = stO A 2) (a : Nat) (ha : a < 2 ^ 40) : CD mX4_besideAcross [.ref 1, .long (lN a)] (eN + 114) σ (some (.long (lN (A.bX a)))) σ := by
  have hM := mskN_lt hA.1.2 hA.2.1.2
  have hx : a * 2 ||| a / 2 < 2 ^ 64 := or_lt (by omega) (by omega)
  refine CP_of (by decide +kernel) (Nat.le_of_ble_eq_true rfl) ?_
  change PW _ _ _ _ 0 [_, _, _] [] _ _ _ _
  refine P_lload_n (q := 1) dX4_besideAcross_0 rfl rfl ?_
  refine P_iconst (q := 2) (v := nI 1) dX4_besideAcross_1 rfl (by decide +kernel) ?_
  refine P_lshl (q := 3) dX4_besideAcross_2 rfl ?_
  refine P_lload_n (q := 4) dX4_besideAcross_3 rfl rfl ?_
  refine P_iconst (q := 5) (v := nI 1) dX4_besideAcross_4 rfl (by decide +kernel) ?_
  refine P_lushr (q := 6) dX4_besideAcross_5 rfl ?_
  refine P_lor (q := 7) dX4_besideAcross_6 rfl ?_
  rw [bX_1 ha]
  refine P_aload_n (q := 8) dX4_besideAcross_7 rfl rfl ?_
  refine P_get (q := 11) dX4_besideAcross_8 rfl fX4_32 (by first | decide | exact lt_c (by decide)) (by assumption) rfl ?_
  refine P_land (q := 12) dX4_besideAcross_11 rfl ?_
  refine P_lret dX4_besideAcross_12 rfl ?_
  exact ⟨rv_l (by rw [lN_and hx (by omega)]; rfl), rfl⟩
theorem St.bA_lt {A : St} (hA : A.ok) (a : Nat) : A.bA a < 2 ^ 40 := and_lt (mskN_lt hA.1.2 hA.2.1.2)
theorem St.bX_lt {A : St} (hA : A.ok) (a : Nat) : A.bX a < 2 ^ 40 := and_lt (mskN_lt hA.1.2 hA.2.1.2)
theorem St.bN_lt {A : St} (hA : A.ok) (a : Nat) : A.bN a < 2 ^ 40 := or_lt (A.bA_lt hA a) (A.bX_lt hA a)
set_option maxRecDepth 100000 in
set_option maxHeartbeats 4000000 in
theorem t_beside {σ : Sto} {A : St} (hA : A.ok) (h1 : σ 1 = stO A 2) (a : Nat) (ha : a < 2 ^ 40) : CD mX4_beside [.ref 1, .long (lN a)] (eN + 114) σ (some (.long (lN (A.bN a)))) σ := by
  have h2 := A.bA_lt hA a
  have h3 := A.bX_lt hA a
  refine CP_of (by decide +kernel) (Nat.le_of_ble_eq_true rfl) ?_
  change PW _ _ _ _ 0 [_, _, _] [] _ _ _ _
  refine P_aload_n (q := 1) dX4_beside_0 rfl rfl ?_
  refine P_lload_n (q := 2) dX4_beside_1 rfl rfl ?_
  refine P_cv1 (q := 5) dX4_beside_2 rfl kX4_79 (t_besideAlong hA h1 a ha) rfl rfl (by first | decide | exact lt_c (by decide)) (by assumption) rfl ⟨by decide, by decide⟩ (Nat.le_of_ble_eq_true rfl) ⟨Nat.le_refl _, Nat.le_refl _⟩ ?_
  refine P_aload_n (q := 6) dX4_beside_5 rfl rfl ?_
  refine P_lload_n (q := 7) dX4_beside_6 rfl rfl ?_
  refine P_cv1 (q := 10) dX4_beside_7 rfl kX4_83 (t_besideAcross hA h1 a ha) rfl rfl (by first | decide | exact lt_c (by decide)) (by assumption) rfl ⟨by decide, by decide⟩ (Nat.le_of_ble_eq_true rfl) ⟨Nat.le_refl _, Nat.le_refl _⟩ ?_
  refine P_lor (q := 11) dX4_beside_10 rfl ?_
  refine P_lret dX4_beside_11 rfl ?_
  exact ⟨rv_l (lN_or (by omega) (by omega)), rfl⟩
def nt64 : Nat := 2 ^ 64 - 1
theorem nt64_bit (p : Nat) : nt64.testBit p = decide (p < 64) := Nat.testBit_two_pow_sub_one 64 p
theorem nt64_lt : nt64 < 2 ^ 64 := by decide
/-- the cells with the spin that the bit k has -/
def St.lk (A : St) (k : Nat) : Nat := if A.U.testBit k then A.U else mskN A.C A.R &&& (A.U ^^^ nt64)
theorem St.lk_lt {A : St} (hA : A.ok) (k : Nat) : A.lk k < 2 ^ 40 := by
  have h1 := A.U_lt hA
  have h2 := mskN_lt hA.1.2 hA.2.1.2
  unfold St.lk
  split
  · exact h1
  · exact Nat.lt_of_le_of_lt Nat.and_le_left h2
theorem St.lk_bit {A : St} (hA : A.ok) (k p : Nat) : (A.lk k).testBit p = ((mskN A.C A.R).testBit p && (A.U.testBit p == A.U.testBit k)) := by
  unfold St.lk
  by_cases hk : A.U.testBit k = true
  · rw [if_pos hk, hk]
    cases hp : A.U.testBit p
    · rw [show (false == true) = false from rfl, Bool.and_false]
    · rw [A.U_sub hA p hp, show (true == true) = true from rfl, Bool.and_true]
  · rw [if_neg hk, Nat.testBit_and, Nat.testBit_xor, nt64_bit]
    have hk' : A.U.testBit k = false := by simpa using hk
    rw [hk']
    by_cases h : p < 64
    · cases hp : A.U.testBit p <;> simp [h]
    · have e : (mskN A.C A.R).testBit p = false := Nat.testBit_lt_two_pow (Nat.lt_of_lt_of_le (mskN_lt hA.1.2 hA.2.1.2) (Nat.pow_le_pow_right (by first | decide | exact lt_c (by decide)) (by omega)))
      rw [e, Bool.false_and, Bool.false_and]
set_option maxRecDepth 100000 in
set_option maxHeartbeats 4000000 in
theorem t_alike {σ : Sto} {A : St} (hA : A.ok) (h1 : σ 1 = stO A 2) {k : Nat} (hk : k < 63) : CD mX4_alike [.ref 1, .long (lN (2 ^ k))] (eN + 114) σ (some (.long (lN (A.lk k)))) σ := by
  have hU := A.U_lt hA
  have hM := mskN_lt hA.1.2 hA.2.1.2
  have hX : A.U ^^^ nt64 < 2 ^ 64 := Nat.xor_lt_two_pow (by omega) nt64_lt
  refine CP_of (by decide +kernel) (Nat.le_of_ble_eq_true rfl) ?_
  change PW _ _ _ _ 0 [_, _, _] [] _ _ _ _
  refine P_aload_n (q := 1) dX4_alike_0 rfl rfl ?_
  refine P_get (q := 4) dX4_alike_1 rfl fX4_36 (by first | decide | exact lt_c (by decide)) (by assumption) rfl ?_
  refine P_lload_n (q := 5) dX4_alike_4 rfl rfl ?_
  refine P_land (q := 6) dX4_alike_5 rfl ?_
  refine P_lconst (q := 7) (v := lN 0) dX4_alike_6 rfl (by decide +kernel) ?_
  refine P_lcmp (q := 8) dX4_alike_7 rfl ?_
  refine P_if_eq (q := 11) (tgt := 18) dX4_alike_8 rfl (by first | decide | exact lt_c (by decide)) (fun c_8 => ?_) (fun c_8 => ?_)
  · rw [bit_test (by omega) hk] at c_8
    refine P_aload_n (q := 19) dX4_alike_18 rfl rfl ?_
    refine P_get (q := 22) dX4_alike_19 rfl fX4_32 (by first | decide | exact lt_c (by decide)) (by assumption) rfl ?_
    refine P_aload_n (q := 23) dX4_alike_22 rfl rfl ?_
    refine P_get (q := 26) dX4_alike_23 rfl fX4_36 (by first | decide | exact lt_c (by decide)) (by assumption) rfl ?_
    refine P_ldc2 (q := 29) dX4_alike_26 rfl qX4_86 ?_
    refine P_lxor (q := 30) dX4_alike_29 rfl ?_
    refine P_land (q := 31) dX4_alike_30 rfl ?_
    refine P_lret dX4_alike_31 rfl ?_
    exact ⟨rv_l (by unfold St.lk; first | (rw [if_pos (by simpa using c_8)]) | (rw [if_neg (by rw [c_8]; decide), show (-1 : Int64) = lN nt64 from by decide +kernel, lN_xor, lN_and (by omega) hX])), rfl⟩
  · rw [bit_test (by omega) hk] at c_8
    refine P_aload_n (q := 12) dX4_alike_11 rfl rfl ?_
    refine P_get (q := 15) dX4_alike_12 rfl fX4_36 (by first | decide | exact lt_c (by decide)) (by assumption) rfl ?_
    refine P_goto (tgt := 31) dX4_alike_15 (by first | decide | exact lt_c (by decide)) ?_
    refine P_lret dX4_alike_31 rfl ?_
    exact ⟨rv_l (by unfold St.lk; first | (rw [if_pos (by simpa using c_8)]) | (rw [if_neg (by rw [c_8]; decide), show (-1 : Int64) = lN nt64 from by decide +kernel, lN_xor, lN_and (by omega) hX])), rfl⟩
/-! bits counted, of words in parts -/
theorem pcN_or {a b : Nat} (n : Nat) (h : a &&& b = 0) : pcN n (a ||| b) = pcN n a + pcN n b := by
  unfold pcN
  rw [← sumN_add]
  refine sumN_congr fun i _ => ?_
  have := congrArg (fun z => z.testBit i) h
  simp only [Nat.testBit_and, Nat.zero_testBit] at this
  rw [Nat.testBit_or]
  cases h1 : a.testBit i <;> cases h2 : b.testBit i <;> simp_all
theorem pcN_zero (n : Nat) : pcN n 0 = 0 := by
  unfold pcN
  induction n with
  | zero => rfl
  | succ n ih => rw [sumN, ih]; simp
theorem pcN_one (W k : Nat) : ∀ n, k < n → pcN n (2 ^ k &&& W) = (W.testBit k).toNat
  | 0, h => by omega
  | n + 1, h => by
    unfold pcN
    rw [sumN]
    by_cases hk : k = n
    · subst hk
      have e : sumN k (fun i => ((2 ^ k &&& W).testBit i).toNat) = 0 := by
        have : sumN k (fun i => ((2 ^ k &&& W).testBit i).toNat) = sumN k (fun i => (Nat.testBit 0 i).toNat) := sumN_congr fun i hi => by
          rw [Nat.testBit_and, Nat.testBit_two_pow]
          simp [show ¬ k = i by omega]
        rw [this]; exact pcN_zero k
      rw [e, Nat.testBit_and, Nat.testBit_two_pow]
      simp
    · have ih := pcN_one W k n (by omega)
      unfold pcN at ih
      rw [ih, Nat.testBit_and, Nat.testBit_two_pow]
      simp [hk]
def oN (o : Option Nat) (r : Nat) : Nat := match o with
  | none => 0
  | some c => 2 ^ (4 * c + r)
def oB (o : Option Nat) (r W : Nat) : Nat := match o with
  | none => 0
  | some c => (W.testBit (4 * c + r)).toNat
theorem oB_eq {o : Option Nat} {r : Nat} (h : ∀ c, o = some c → 4 * c + r < 64) (W : Nat) : pcN 64 (oN o r &&& W) = oB o r W := by
  cases o with
  | none => simp [oN, oB, pcN_zero]
  | some c => exact pcN_one W _ 64 (h c rfl)
def prvr (C : Nat) (lp : Bool) (c : Nat) : Option Nat := if 0 < c then some (c - 1) else if lp then some (C - 1) else none
def nxtr (C : Nat) (lp : Bool) (c : Nat) : Option Nat := if c + 1 < C then some (c + 1) else if lp then some 0 else none
def upr (r : Nat) : Option Nat := if 0 < r then some (r - 1) else none
def dnr (R r : Nat) : Option Nat := if r + 1 < R then some (r + 1) else none
def vN (c : Nat) (o : Option Nat) : Nat := match o with
  | none => 0
  | some r => 2 ^ (4 * c + r)
def vB (c : Nat) (o : Option Nat) (W : Nat) : Nat := match o with
  | none => 0
  | some r => (W.testBit (4 * c + r)).toNat
theorem vB_eq {o : Option Nat} {c : Nat} (h : ∀ r, o = some r → 4 * c + r < 64) (W : Nat) : pcN 64 (vN c o &&& W) = vB c o W := by
  cases o with
  | none => simp [vN, vB, pcN_zero]
  | some r => exact pcN_one W _ 64 (h r rfl)
def chk1 (C R g c r : Nat) : Bool := decide (
    (bAr C R (decide (g = 1 ∧ 3 ≤ C)) (2 ^ (4 * c + r)) = oN (prvr C (decide (g = 1 ∧ 3 ≤ C)) c) r ||| oN (nxtr C (decide (g = 1 ∧ 3 ≤ C)) c) r ∧ oN (prvr C (decide (g = 1 ∧ 3 ≤ C)) c) r &&& oN (nxtr C (decide (g = 1 ∧ 3 ≤ C)) c) r = 0) ∧
    (bXr C R (2 ^ (4 * c + r)) = vN c (upr r) ||| vN c (dnr R r) ∧ vN c (upr r) &&& vN c (dnr R r) = 0) ∧ bAr C R (decide (g = 1 ∧ 3 ≤ C)) (2 ^ (4 * c + r)) &&& bXr C R (2 ^ (4 * c + r)) = 0)
theorem chk1_all : ((List.range 11).all fun C => (List.range 4).all fun R => (List.range 2).all fun g => (List.range C).all fun c => (List.range R).all fun r => chk1 C R g c r) = true := by decide +kernel
theorem one_dec (C : Nat) (hC : C < 11) (R : Nat) (hR : R < 4) (g : Nat) (hg : g < 2) (c : Nat) (hc : c < C) (r : Nat) (hr : r < R) :
    (bAr C R (decide (g = 1 ∧ 3 ≤ C)) (2 ^ (4 * c + r)) = oN (prvr C (decide (g = 1 ∧ 3 ≤ C)) c) r ||| oN (nxtr C (decide (g = 1 ∧ 3 ≤ C)) c) r ∧ oN (prvr C (decide (g = 1 ∧ 3 ≤ C)) c) r &&& oN (nxtr C (decide (g = 1 ∧ 3 ≤ C)) c) r = 0) ∧
    (bXr C R (2 ^ (4 * c + r)) = vN c (upr r) ||| vN c (dnr R r) ∧ vN c (upr r) &&& vN c (dnr R r) = 0) ∧ bAr C R (decide (g = 1 ∧ 3 ≤ C)) (2 ^ (4 * c + r)) &&& bXr C R (2 ^ (4 * c + r)) = 0 := by
  have h := List.all_eq_true.mp chk1_all C (List.mem_range.mpr hC)
  have h := List.all_eq_true.mp h R (List.mem_range.mpr hR)
  have h := List.all_eq_true.mp h g (List.mem_range.mpr hg)
  have h := List.all_eq_true.mp h c (List.mem_range.mpr hc)
  have h := List.all_eq_true.mp h r (List.mem_range.mpr hr)
  exact of_decide_eq_true h
theorem St.one {A : St} (hA : A.ok) {c r : Nat} (hc : c < A.C) (hr : r < A.R) : (A.bA (2 ^ (4 * c + r)) = oN (A.prv c) r ||| oN (A.nxt c) r ∧ oN (A.prv c) r &&& oN (A.nxt c) r = 0) ∧ (A.bX (2 ^ (4 * c + r)) = vN c (upr r) ||| vN c (dnr A.R r) ∧ vN c (upr r) &&& vN c (dnr A.R r) = 0) ∧ A.bA (2 ^ (4 * c + r)) &&& A.bX (2 ^ (4 * c + r)) = 0 := by
  have hC := hA.1.2
  have hR := hA.2.1.2
  have hg := hA.2.2.1
  exact one_dec A.C (by omega) A.R (by omega) A.g (by omega) c hc r hr
theorem St.prv_lt {A : St} (hA : A.ok) {c c' : Nat} (hc : c < A.C) (h : A.prv c = some c') : c' < A.C := by
  have := hA.1.1
  unfold St.prv at h
  split at h
  · cases h; omega
  · split at h
    · cases h; omega
    · cases h
theorem St.nxt_lt {A : St} (hA : A.ok) {c c' : Nat} (h : A.nxt c = some c') : c' < A.C := by
  have := hA.1.1
  unfold St.nxt at h
  split at h
  · cases h; omega
  · split at h
    · cases h; omega
    · cases h
theorem and_or_r (a b W : Nat) : (a ||| b) &&& W = (a &&& W) ||| (b &&& W) := Nat.and_or_distrib_right ..
theorem and_zero_r {a b : Nat} (h : a &&& b = 0) (W V : Nat) : (a &&& W) &&& (b &&& V) = 0 := by
  apply Nat.eq_of_testBit_eq
  intro i
  have := congrArg (fun z => z.testBit i) h
  simp only [Nat.testBit_and, Nat.zero_testBit] at this ⊢
  cases h1 : a.testBit i <;> cases h2 : b.testBit i <;> simp_all
theorem upr_lt {r R r' : Nat} (h : upr r = some r') (hr : r < R) : r' < R := by
  unfold upr at h; split at h <;> cases h; omega
theorem dnr_lt {r R r' : Nat} (h : dnr R r = some r') : r' < R := by
  unfold dnr at h; split at h <;> cases h; omega
theorem St.cntA {A : St} (hA : A.ok) {c r : Nat} (hc : c < A.C) (hr : r < A.R) (W : Nat) : pcN 64 (A.bA (2 ^ (4 * c + r)) &&& W) = oB (A.prv c) r W + oB (A.nxt c) r W := by
  obtain ⟨⟨h1, h2⟩, -, -⟩ := A.one hA hc hr
  have hC := hA.1.2
  have hR := hA.2.1.2
  rw [h1, and_or_r, pcN_or _ (and_zero_r h2 W W), oB_eq (fun c' h => by have := A.prv_lt hA hc h; omega), oB_eq (fun c' h => by have := A.nxt_lt hA h; omega)]
theorem St.cntX {A : St} (hA : A.ok) {c r : Nat} (hc : c < A.C) (hr : r < A.R) (W : Nat) : pcN 64 (A.bX (2 ^ (4 * c + r)) &&& W) = vB c (upr r) W + vB c (dnr A.R r) W := by
  obtain ⟨-, ⟨h1, h2⟩, -⟩ := A.one hA hc hr
  have hC := hA.1.2
  have hR := hA.2.1.2
  rw [h1, and_or_r, pcN_or _ (and_zero_r h2 W W), vB_eq (fun c' h => by have := upr_lt h hr; omega), vB_eq (fun c' h => by have := dnr_lt h; omega)]
theorem St.cntN {A : St} (hA : A.ok) {c r : Nat} (hc : c < A.C) (hr : r < A.R) (W : Nat) : pcN 64 (A.bN (2 ^ (4 * c + r)) &&& W) = (oB (A.prv c) r W + oB (A.nxt c) r W) + (vB c (upr r) W + vB c (dnr A.R r) W) := by
  obtain ⟨-, -, h⟩ := A.one hA hc hr
  unfold St.bN
  rw [and_or_r, pcN_or _ (and_zero_r h W W), A.cntA hA hc hr, A.cntX hA hc hr]
