/-! THE REFERENCE: its state -/
def moO (L k : Nat) (pl : Int32) (n : Nat) (sp rc rr : Int32) : PC := pO 8 [.ref 115, .ref 116, .ref 117, .int (nI L), .ref 118, .int (nI k), .ref 119, .ref 120, .ref 121, .ref 122, .ref 123, .ref 124, .ref 125, .ref 126, .ref 127, .ref 128, .ref 129, .ref 130, .int pl, .ref 131, .int (nI n), .int sp, .int rc, .int rr]
def MO (σ : Sto) : Prop := ∃ L k pl n sp rc rr, σ 114 = moO L k pl n sp rc rr
/-- a row of numbers that stands for a strip -/
def RA (g : Nat → Int32) (A : St) : Prop := g 0 = nI A.C ∧ g 1 = nI A.R ∧ g 2 = nI A.g ∧ g 3 = iI A.al ∧ g 4 = iI A.ac ∧ g 5 = A.tu ∧ (∀ c, c < 10 → g (6 + c) = nI (A.sp c)) ∧ ∀ c r, c < A.C → r < A.R → g (16 + (3 * c + r)) = iI (A.fd c r)
def XA (σ : Sto) (A : St) : Prop := A.ok ∧ ∃ g : Nat → Int32, σ 115 = pI .int 46 g ∧ RA g A
def lI (z : Int) : Int64 := Int64.ofInt z
theorem lI_sub (a b : Int) : lI a - lI b = lI (a - b) := (Int64.ofInt_sub ..).symm
theorem i2l_I {z : Int} (h1 : -2147483648 ≤ z) (h2 : z < 2147483648) : (iI z).toInt64 = lI z := by
  apply Int64.toInt_inj.mp
  rw [Int32.toInt_toInt64, iI_toInt h1 h2]
  exact (Int64.toInt_ofInt_of_le (by omega) (by omega)).symm
theorem lI_toInt {z : Int} (h1 : -4611686018427387904 ≤ z) (h2 : z < 4611686018427387904) : (lI z).toInt = z := Int64.toInt_ofInt_of_le (by omega) (by omega)
theorem cmp_lt {a b : Int} (a1 : -4611686018427387904 ≤ a) (a2 : a < 4611686018427387904) (b1 : -4611686018427387904 ≤ b) (b2 : b < 4611686018427387904) : lg_cmp (lI a) (lI b) < 0 ↔ a < b := by
  unfold lg_cmp
  simp only [gt_iff_lt, Int64.lt_iff_toInt_lt, ← Int64.toInt_inj, lI_toInt a1 a2, lI_toInt b1 b2]
  by_cases h1 : b < a
  · rw [if_pos h1]; exact ⟨fun q => absurd q (by decide), fun q => by omega⟩
  · rw [if_neg h1]
    by_cases h2 : a = b
    · rw [if_pos h2]; exact ⟨fun q => absurd q (by decide), fun q => by omega⟩
    · rw [if_neg h2]; exact ⟨fun _ => by omega, fun _ => by decide⟩
theorem cmp_gt {a b : Int} (a1 : -4611686018427387904 ≤ a) (a2 : a < 4611686018427387904) (b1 : -4611686018427387904 ≤ b) (b2 : b < 4611686018427387904) : 0 < lg_cmp (lI a) (lI b) ↔ b < a := by
  unfold lg_cmp
  simp only [gt_iff_lt, Int64.lt_iff_toInt_lt, ← Int64.toInt_inj, lI_toInt a1 a2, lI_toInt b1 b2]
  by_cases h1 : b < a
  · rw [if_pos h1]; exact ⟨fun _ => h1, fun _ => by decide⟩
  · rw [if_neg h1]
    by_cases h2 : a = b
    · rw [if_pos h2]; exact ⟨fun q => absurd q (by decide), fun q => by omega⟩
    · rw [if_neg h2]; exact ⟨fun q => absurd q (by decide), fun q => by omega⟩
def spZ (k r : Nat) : Int := if k.testBit r then 1 else -1
def nbI (o : Option Nat) : Int32 := match o with
  | some d => nI d
  | none => iI (-1005)
set_option maxRecDepth 100000 in
set_option maxHeartbeats 4000000 in
theorem m_in {n0 : Nat} {σ : Sto} {v a b : Int} (v1 : -4611686018427387904 ≤ v) (v2 : v < 4611686018427387904) (a1 : -4611686018427387904 ≤ a) (a2 : a < 4611686018427387904) (b1 : -4611686018427387904 ≤ b) (b2 : b < 4611686018427387904) : CD mX8_in [.long (lI v), .long (lI a), .long (lI b)] n0 σ (some (.int (bI (decide (a ≤ v ∧ v ≤ b))))) σ := by
  refine CP_of (by decide +kernel) (Nat.le_of_ble_eq_true rfl) ?_
  change PW _ _ _ _ 0 [_, _, _, _, _, _] [] _ _ _ _
  refine P_lload_n (q := 1) dX8_in_0 rfl rfl ?_
  refine P_lload_n (q := 2) dX8_in_1 rfl rfl ?_
  refine P_lcmp (q := 3) dX8_in_2 rfl ?_
  refine P_if_lt (q := 6) (tgt := 17) dX8_in_3 rfl (by decide) (fun c_3 => ?_) (fun c_3 => ?_)
  · rw [cmp_lt (by omega) (by omega) (by omega) (by omega)] at c_3
    refine P_iconst (q := 18) (v := nI 0) dX8_in_17 rfl (by decide +kernel) ?_
    refine P_iret dX8_in_18 rfl (rfl) ?_
    exact ⟨rv_i (by first | (rw [decide_eq_true (by omega)]; rfl) | (rw [decide_eq_false (by omega)]; rfl)), rfl⟩
  · rw [cmp_lt (by omega) (by omega) (by omega) (by omega)] at c_3
    refine P_lload_n (q := 7) dX8_in_6 rfl rfl ?_
    refine P_lload (q := 9) dX8_in_7 rfl rfl ?_
    refine P_lcmp (q := 10) dX8_in_9 rfl ?_
    refine P_if_gt (q := 13) (tgt := 17) dX8_in_10 rfl (by decide) (fun c_10 => ?_) (fun c_10 => ?_)
    · rw [cmp_gt (by omega) (by omega) (by omega) (by omega)] at c_10
      refine P_iconst (q := 18) (v := nI 0) dX8_in_17 rfl (by decide +kernel) ?_
      refine P_iret dX8_in_18 rfl (rfl) ?_
      exact ⟨rv_i (by first | (rw [decide_eq_true (by omega)]; rfl) | (rw [decide_eq_false (by omega)]; rfl)), rfl⟩
    · rw [cmp_gt (by omega) (by omega) (by omega) (by omega)] at c_10
      refine P_iconst (q := 14) (v := nI 1) dX8_in_13 rfl (by decide +kernel) ?_
      refine P_goto (tgt := 18) dX8_in_14 (by decide) ?_
      refine P_iret dX8_in_18 rfl (rfl) ?_
      exact ⟨rv_i (by first | (rw [decide_eq_true (by omega)]; rfl) | (rw [decide_eq_false (by omega)]; rfl)), rfl⟩
set_option maxRecDepth 100000 in
set_option maxHeartbeats 4000000 in
theorem m_isRow {σ : Sto} {A : St} (hM : MO σ) (hX : XA σ A) {z : Int} (z1 : -2147483648 ≤ z) (z2 : z < 2147483648) : CD mX8_isRow [.ref 114, .int (iI z)] 132 σ (some (.int (bI (decide (0 ≤ z ∧ z < A.R))))) σ := by
  obtain ⟨L, k0, pl, n0, sp0, rc, rr, h0⟩ := hM
  obtain ⟨hA, g, h1, r0, r1, r2, r3, r4, r5, rs, rf⟩ := id hX
  have hC := hA.1
  have hR := hA.2.1
  refine CP_of (by decide +kernel) (Nat.le_of_ble_eq_true rfl) ?_
  change PW _ _ _ _ 0 [_, _] [] _ _ _ _
  refine P_iload_n (q := 1) dX8_isRow_0 rfl rfl ?_
  refine P_i2l (q := 2) dX8_isRow_1 rfl ?_
  rw [i2l_I z1 z2]
  refine P_lconst (q := 3) (v := lN 0) dX8_isRow_2 rfl (by decide +kernel) ?_
  refine P_aload_n (q := 4) dX8_isRow_3 rfl rfl ?_
  refine P_get (q := 7) dX8_isRow_4 rfl fX8_7 (by decide) (h0) rfl ?_
  refine P_iconst (q := 8) (v := nI 1) dX8_isRow_7 rfl (by decide +kernel) ?_
  refine P_iald (q := 9) (j := 1) dX8_isRow_8 rfl (by decide) (h1) (rfl) (by omega) (by decide) ?_
  rw [r1]
  refine P_i2l (q := 10) dX8_isRow_9 rfl ?_
  rw [iI_nI, i2l_I (by omega) (by omega)]
  refine P_lconst (q := 11) (v := lN 1) dX8_isRow_10 rfl (by decide +kernel) ?_
  refine P_lsub (q := 12) dX8_isRow_11 rfl ?_
  rw [show lI (A.R : Int) - lN 1 = lI ((A.R : Int) - 1) from lI_sub _ 1]
  refine P_cs1 (q := 15) dX8_isRow_12 rfl kX8_73 (m_in (v := z) (a := 0) (b := (A.R : Int) - 1) (by omega) (by omega) (by omega) (by omega) (by omega) (by omega)) rfl rfl ⟨by decide, by decide⟩ (Nat.le_of_ble_eq_true rfl) ⟨Nat.le_refl _, Nat.le_refl _⟩ ?_
  refine P_iret dX8_isRow_15 rfl (nar_bI _) ?_
  exact ⟨rv_i (congrArg bI (decide_eq_decide.mpr (by omega))), rfl⟩
set_option maxRecDepth 100000 in
set_option maxHeartbeats 4000000 in
theorem m_isColumn {σ : Sto} {A : St} (hM : MO σ) (hX : XA σ A) {z : Int} (z1 : -2147483648 ≤ z) (z2 : z < 2147483648) : CD mX8_isColumn [.ref 114, .int (iI z)] 132 σ (some (.int (bI (decide (0 ≤ z ∧ z < A.C))))) σ := by
  obtain ⟨L, k0, pl, n0, sp0, rc, rr, h0⟩ := hM
  obtain ⟨hA, g, h1, r0, r1, r2, r3, r4, r5, rs, rf⟩ := id hX
  have hC := hA.1
  have hR := hA.2.1
  refine CP_of (by decide +kernel) (Nat.le_of_ble_eq_true rfl) ?_
  change PW _ _ _ _ 0 [_, _] [] _ _ _ _
  refine P_iload_n (q := 1) dX8_isColumn_0 rfl rfl ?_
  refine P_i2l (q := 2) dX8_isColumn_1 rfl ?_
  rw [i2l_I z1 z2]
  refine P_lconst (q := 3) (v := lN 0) dX8_isColumn_2 rfl (by decide +kernel) ?_
  refine P_aload_n (q := 4) dX8_isColumn_3 rfl rfl ?_
  refine P_get (q := 7) dX8_isColumn_4 rfl fX8_7 (by decide) (h0) rfl ?_
  refine P_iconst (q := 8) (v := nI 0) dX8_isColumn_7 rfl (by decide +kernel) ?_
  refine P_iald (q := 9) (j := 0) dX8_isColumn_8 rfl (by decide) (h1) (rfl) (by omega) (by decide) ?_
  rw [r0]
  refine P_i2l (q := 10) dX8_isColumn_9 rfl ?_
  rw [iI_nI, i2l_I (by omega) (by omega)]
  refine P_lconst (q := 11) (v := lN 1) dX8_isColumn_10 rfl (by decide +kernel) ?_
  refine P_lsub (q := 12) dX8_isColumn_11 rfl ?_
  rw [show lI (A.C : Int) - lN 1 = lI ((A.C : Int) - 1) from lI_sub _ 1]
  refine P_cs1 (q := 15) dX8_isColumn_12 rfl kX8_73 (m_in (v := z) (a := 0) (b := (A.C : Int) - 1) (by omega) (by omega) (by omega) (by omega) (by omega) (by omega)) rfl rfl ⟨by decide, by decide⟩ (Nat.le_of_ble_eq_true rfl) ⟨Nat.le_refl _, Nat.le_refl _⟩ ?_
  refine P_iret dX8_isColumn_15 rfl (nar_bI _) ?_
  exact ⟨rv_i (congrArg bI (decide_eq_decide.mpr (by omega))), rfl⟩
set_option maxRecDepth 100000 in
set_option maxHeartbeats 4000000 in
theorem m_isLoop {σ : Sto} {A : St} (hM : MO σ) (hX : XA σ A) : CD mX8_isLoop [.ref 114] 132 σ (some (.int (bI A.lp))) σ := by
  obtain ⟨L, k0, pl, n0, sp0, rc, rr, h0⟩ := hM
  obtain ⟨hA, g, h1, r0, r1, r2, r3, r4, r5, rs, rf⟩ := id hX
  have hC := hA.1
  have hR := hA.2.1
  have hg := hA.2.2.1
  refine CP_of (by decide +kernel) (Nat.le_of_ble_eq_true rfl) ?_
  change PW _ _ _ _ 0 [_] [] _ _ _ _
  refine P_aload_n (q := 1) dX8_isLoop_0 rfl rfl ?_
  refine P_get (q := 4) dX8_isLoop_1 rfl fX8_7 (by decide) (h0) rfl ?_
  refine P_iconst (q := 5) (v := nI 2) dX8_isLoop_4 rfl (by decide +kernel) ?_
  refine P_iald (q := 6) (j := 2) dX8_isLoop_5 rfl (by decide) (h1) (rfl) (by omega) (by decide) ?_
  rw [r2]
  refine P_iconst (q := 7) (v := nI 1) dX8_isLoop_6 rfl (by decide +kernel) ?_
  refine P_icmp_ne (q := 10) (tgt := 24) dX8_isLoop_7 rfl (by decide) (fun c_7 => ?_) (fun c_7 => ?_)
  · rw [nI_eq (by omega) (by omega)] at c_7
    refine P_iconst (q := 25) (v := nI 0) dX8_isLoop_24 rfl (by decide +kernel) ?_
    refine P_iret dX8_isLoop_25 rfl (rfl) ?_
    exact ⟨rv_i (by unfold St.lp; first | (rw [decide_eq_true (by omega)]; rfl) | (rw [decide_eq_false (by omega)]; rfl)), rfl⟩
  · rw [nI_eq (by omega) (by omega)] at c_7
    refine P_aload_n (q := 11) dX8_isLoop_10 rfl rfl ?_
    refine P_get (q := 14) dX8_isLoop_11 rfl fX8_7 (by decide) (h0) rfl ?_
    refine P_iconst (q := 15) (v := nI 0) dX8_isLoop_14 rfl (by decide +kernel) ?_
    refine P_iald (q := 16) (j := 0) dX8_isLoop_15 rfl (by decide) (h1) (rfl) (by omega) (by decide) ?_
    rw [r0]
    refine P_iconst (q := 17) (v := nI 2) dX8_isLoop_16 rfl (by decide +kernel) ?_
    refine P_icmp_le (q := 20) (tgt := 24) dX8_isLoop_17 rfl (by decide) (fun c_17 => ?_) (fun c_17 => ?_)
    · rw [nI_leI (by omega) (by omega)] at c_17
      refine P_iconst (q := 25) (v := nI 0) dX8_isLoop_24 rfl (by decide +kernel) ?_
      refine P_iret dX8_isLoop_25 rfl (rfl) ?_
      exact ⟨rv_i (by unfold St.lp; first | (rw [decide_eq_true (by omega)]; rfl) | (rw [decide_eq_false (by omega)]; rfl)), rfl⟩
    · rw [nI_leI (by omega) (by omega)] at c_17
      refine P_iconst (q := 21) (v := nI 1) dX8_isLoop_20 rfl (by decide +kernel) ?_
      refine P_goto (tgt := 25) dX8_isLoop_21 (by decide) ?_
      refine P_iret dX8_isLoop_25 rfl (rfl) ?_
      exact ⟨rv_i (by unfold St.lp; first | (rw [decide_eq_true (by omega)]; rfl) | (rw [decide_eq_false (by omega)]; rfl)), rfl⟩
set_option maxRecDepth 100000 in
set_option maxHeartbeats 4000000 in
theorem m_spinIn {n0 : Nat} {σ : Sto} {k r : Nat} (hk : k < 8) (hr : r < 3) : CD mX8_spinIn [.int (nI k), .int (nI r)] n0 σ (some (.int (iI (spZ k r)))) σ := by
  refine CP_of (by decide +kernel) (Nat.le_of_ble_eq_true rfl) ?_
  change PW _ _ _ _ 0 [_, _] [] _ _ _ _
  refine P_iload_n (q := 1) dX8_spinIn_0 rfl rfl ?_
  refine P_iload_n (q := 2) dX8_spinIn_1 rfl rfl ?_
  refine P_ishr (q := 3) dX8_spinIn_2 rfl ?_
  refine P_iconst (q := 4) (v := nI 1) dX8_spinIn_3 rfl (by decide +kernel) ?_
  refine P_iand (q := 5) dX8_spinIn_4 rfl ?_
  refine P_iconst (q := 6) (v := nI 1) dX8_spinIn_5 rfl (by decide +kernel) ?_
  rw [kb_dec hk hr]
  refine P_icmp_ne (q := 9) (tgt := 13) dX8_spinIn_6 rfl (by decide) (fun c_6 => ?_) (fun c_6 => ?_)
  · rw [nI_eq (by split <;> decide) (by decide)] at c_6
    refine P_iconst (q := 14) (v := (-1)) dX8_spinIn_13 rfl (by decide +kernel) ?_
    refine P_iret dX8_spinIn_14 rfl (rfl) ?_
    exact ⟨rv_i (by unfold spZ; by_cases e : k.testBit r = true <;> simp only [e] at c_6 ⊢ <;> first | rfl | exact absurd rfl c_6 | exact absurd c_6 (by decide)), rfl⟩
  · rw [nI_eq (by split <;> decide) (by decide)] at c_6
    refine P_iconst (q := 10) (v := nI 1) dX8_spinIn_9 rfl (by decide +kernel) ?_
    refine P_goto (tgt := 14) dX8_spinIn_10 (by decide) ?_
    refine P_iret dX8_spinIn_14 rfl (rfl) ?_
    exact ⟨rv_i (by unfold spZ; by_cases e : k.testBit r = true <;> simp only [e] at c_6 ⊢ <;> first | rfl | exact absurd rfl c_6 | exact absurd c_6 (by decide)), rfl⟩
set_option maxRecDepth 100000 in
set_option maxHeartbeats 4000000 in
theorem m_spin {σ : Sto} {A : St} (hM : MO σ) (hX : XA σ A) {r c : Nat} (hr : r < 3) (hc : c < 10) : CD mX8_spin [.ref 114, .int (nI r), .int (nI c)] 132 σ (some (.int (iI (A.s c r)))) σ := by
  obtain ⟨L, k0, pl, n0, sp0, rc, rr, h0⟩ := hM
  obtain ⟨hA, g, h1, r0, r1, r2, r3, r4, r5, rs, rf⟩ := id hX
  have hC := hA.1
  have hR := hA.2.1
  have h8 : A.sp c < 8 := Nat.lt_of_lt_of_le (hA.2.2.2.2.2.1 c) (pow8 hR.2)
  refine CP_of (by decide +kernel) (Nat.le_of_ble_eq_true rfl) ?_
  change PW _ _ _ _ 0 [_, _, _] [] _ _ _ _
  refine P_aload_n (q := 1) dX8_spin_0 rfl rfl ?_
  refine P_get (q := 4) dX8_spin_1 rfl fX8_7 (by decide) (h0) rfl ?_
  refine P_bipush (q := 6) (v := nI 6) dX8_spin_4 rfl (by decide +kernel) ?_
  refine P_iload_n (q := 7) dX8_spin_6 rfl rfl ?_
  refine P_iadd (q := 8) dX8_spin_7 rfl ?_
  refine P_iald (q := 9) (j := 6 + c) dX8_spin_8 rfl (by decide) (h1) (nI_add _ _) (by omega) (by decide) ?_
  rw [rs c hc]
  refine P_iload_n (q := 10) dX8_spin_9 rfl rfl ?_
  refine P_cs1 (q := 13) dX8_spin_10 rfl kX8_77 (m_spinIn h8 hr) rfl rfl ⟨by decide, by decide⟩ (Nat.le_of_ble_eq_true rfl) ⟨Nat.le_refl _, Nat.le_refl _⟩ ?_
  refine P_iret dX8_spin_13 rfl (rfl) ?_
  exact ⟨rfl, rfl⟩
set_option maxRecDepth 100000 in
set_option maxHeartbeats 4000000 in
theorem m_fieldAt {σ : Sto} {A : St} (hM : MO σ) (hX : XA σ A) {r c : Nat} (hr : r < A.R) (hc : c < A.C) : CD mX8_fieldAt [.ref 114, .int (nI r), .int (nI c)] 132 σ (some (.int (iI (A.fd c r)))) σ := by
  obtain ⟨L, k0, pl, n0, sp0, rc, rr, h0⟩ := hM
  obtain ⟨hA, g, h1, r0, r1, r2, r3, r4, r5, rs, rf⟩ := id hX
  have hC := hA.1
  have hR := hA.2.1
  refine CP_of (by decide +kernel) (Nat.le_of_ble_eq_true rfl) ?_
  change PW _ _ _ _ 0 [_, _, _] [] _ _ _ _
  refine P_aload_n (q := 1) dX8_fieldAt_0 rfl rfl ?_
  refine P_get (q := 4) dX8_fieldAt_1 rfl fX8_7 (by decide) (h0) rfl ?_
  refine P_bipush (q := 6) (v := nI 16) dX8_fieldAt_4 rfl (by decide +kernel) ?_
  refine P_iconst (q := 7) (v := nI 3) dX8_fieldAt_6 rfl (by decide +kernel) ?_
  refine P_iload_n (q := 8) dX8_fieldAt_7 rfl rfl ?_
  refine P_imul (q := 9) dX8_fieldAt_8 rfl ?_
  refine P_iadd (q := 10) dX8_fieldAt_9 rfl ?_
  refine P_iload_n (q := 11) dX8_fieldAt_10 rfl rfl ?_
  refine P_iadd (q := 12) dX8_fieldAt_11 rfl ?_
  refine P_iald (q := 13) (j := 16 + (3 * c + r)) dX8_fieldAt_12 rfl (by decide) (h1) (by rw [pk_mul, nI_add, nI_add, Nat.add_assoc]) (by omega) (by decide) ?_
  rw [rf c r hc hr]
  refine P_iret dX8_fieldAt_13 rfl (rfl) ?_
  exact ⟨rfl, rfl⟩
set_option maxRecDepth 100000 in
set_option maxHeartbeats 4000000 in
theorem m_cells {σ : Sto} {A : St} (hM : MO σ) (hX : XA σ A) : CD mX8_cells [.ref 114] 132 σ (some (.int (nI (A.C * A.R)))) σ := by
  obtain ⟨L, k0, pl, n0, sp0, rc, rr, h0⟩ := hM
  obtain ⟨hA, g, h1, r0, r1, r2, r3, r4, r5, rs, rf⟩ := id hX
  have hC := hA.1
  have hR := hA.2.1
  refine CP_of (by decide +kernel) (Nat.le_of_ble_eq_true rfl) ?_
  change PW _ _ _ _ 0 [_] [] _ _ _ _
  refine P_aload_n (q := 1) dX8_cells_0 rfl rfl ?_
  refine P_get (q := 4) dX8_cells_1 rfl fX8_7 (by decide) (h0) rfl ?_
  refine P_iconst (q := 5) (v := nI 0) dX8_cells_4 rfl (by decide +kernel) ?_
  refine P_iald (q := 6) (j := 0) dX8_cells_5 rfl (by decide) (h1) (rfl) (by omega) (by decide) ?_
  rw [r0]
  refine P_aload_n (q := 7) dX8_cells_6 rfl rfl ?_
  refine P_get (q := 10) dX8_cells_7 rfl fX8_7 (by decide) (h0) rfl ?_
  refine P_iconst (q := 11) (v := nI 1) dX8_cells_10 rfl (by decide +kernel) ?_
  refine P_iald (q := 12) (j := 1) dX8_cells_11 rfl (by decide) (h1) (rfl) (by omega) (by decide) ?_
  rw [r1]
  refine P_imul (q := 13) dX8_cells_12 rfl ?_
  refine P_iret dX8_cells_13 rfl (rfl) ?_
  exact ⟨rv_i (pk_mul _ _), rfl⟩
set_option maxRecDepth 100000 in
set_option maxHeartbeats 4000000 in
theorem m_next {σ : Sto} {A : St} (hM : MO σ) (hX : XA σ A) {c : Nat} (hc : c < A.C) : CD mX8_beside [.ref 114, .int (nI c), .int (nI 1)] 132 σ (some (.int (nbI (A.nxt c)))) σ := by
  have hi := m_isColumn hM hX (z := ((c : Int) + 1)) (by have := hX.1.1; omega) (by have := hX.1.1; omega)
  have hl := m_isLoop hM hX
  obtain ⟨L, k0, pl, n0, sp0, rc, rr, h0⟩ := hM
  obtain ⟨hA, g, h1, r0, r1, r2, r3, r4, r5, rs, rf⟩ := id hX
  have hC := hA.1
  have hR := hA.2.1
  refine CP_of (by decide +kernel) (Nat.le_of_ble_eq_true rfl) ?_
  change PW _ _ _ _ 0 [_, _, _, _] [] _ _ _ _
  refine P_iload_n (q := 1) dX8_beside_0 rfl rfl ?_
  refine P_iload_n (q := 2) dX8_beside_1 rfl rfl ?_
  refine P_iadd (q := 3) dX8_beside_2 rfl ?_
  rw [show nI c + nI 1 = iI ((c : Int) + 1) from by rw [iI_nI, iI_nI, iI_add]; rfl]
  refine P_istore_n (q := 4) (L' := [_, _, _, _]) dX8_beside_3 rfl (by decide) rfl ?_
  refine P_aload_n (q := 5) dX8_beside_4 rfl rfl ?_
  refine P_iload_n (q := 6) dX8_beside_5 rfl rfl ?_
  refine P_cv1 (q := 9) dX8_beside_6 rfl kX8_81 (hi) rfl rfl (by decide) (h0) rfl ⟨by decide, by decide⟩ (Nat.le_of_ble_eq_true rfl) ⟨Nat.le_refl _, Nat.le_refl _⟩ ?_
  refine P_if_eq (q := 12) (tgt := 14) dX8_beside_9 rfl (by decide) (fun c_9 => ?_) (fun c_9 => ?_)
  · rw [bI_0] at c_9
    have hno := of_decide_eq_false c_9
    refine P_aload_n (q := 15) dX8_beside_14 rfl rfl ?_
    refine P_cv1 (q := 18) dX8_beside_15 rfl kX8_85 (hl) rfl rfl (by decide) (h0) rfl ⟨by decide, by decide⟩ (Nat.le_of_ble_eq_true rfl) ⟨Nat.le_refl _, Nat.le_refl _⟩ ?_
    refine P_if_ne (q := 21) (tgt := 27) dX8_beside_18 rfl (by decide) (fun c_18 => ?_) (fun c_18 => ?_)
    · rw [bI_n] at c_18
      refine P_iload_n (q := 28) dX8_beside_27 rfl rfl ?_
      refine P_if_le (q := 31) (tgt := 35) dX8_beside_28 rfl (by decide) (fun c_28 => ?_) (fun c_28 => ?_)
      · exact absurd c_28 (by decide)
      · refine P_iconst (q := 32) (v := nI 0) dX8_beside_31 rfl (by decide +kernel) ?_
        refine P_goto (tgt := 43) dX8_beside_32 (by decide) ?_
        refine P_iret dX8_beside_43 rfl (rfl) ?_
        exact ⟨rv_i (by unfold St.nxt; first | (rw [if_pos (by omega)]; show iI ((c : Int) + 1) = nI (c + 1); rw [iI_nI]; rfl) | (rw [if_neg (by omega), c_18]; rfl)), rfl⟩
    · rw [bI_0] at c_18
      refine P_sipush (q := 24) (v := iI (-1005)) dX8_beside_21 rfl (by decide +kernel) ?_
      refine P_goto (tgt := 43) dX8_beside_24 (by decide) ?_
      refine P_iret dX8_beside_43 rfl (rfl) ?_
      exact ⟨rv_i (by unfold St.nxt; first | (rw [if_pos (by omega)]; show iI ((c : Int) + 1) = nI (c + 1); rw [iI_nI]; rfl) | (rw [if_neg (by omega), c_18]; rfl)), rfl⟩
  · rw [bI_n] at c_9
    have hyes := of_decide_eq_true c_9
    refine P_iload_n (q := 13) dX8_beside_12 rfl rfl ?_
    refine P_iret dX8_beside_13 rfl (rfl) ?_
    exact ⟨rv_i (by unfold St.nxt; first | (rw [if_pos (by omega)]; show iI ((c : Int) + 1) = nI (c + 1); rw [iI_nI]; rfl) | (rw [if_neg (by omega), c_18]; rfl)), rfl⟩
set_option maxRecDepth 100000 in
set_option maxHeartbeats 4000000 in
theorem m_prev {σ : Sto} {A : St} (hM : MO σ) (hX : XA σ A) {c : Nat} (hc : c < A.C) : CD mX8_beside [.ref 114, .int (nI c), .int (iI (-1))] 132 σ (some (.int (nbI (A.prv c)))) σ := by
  have hi := m_isColumn hM hX (z := ((c : Int) - 1)) (by have := hX.1.1; omega) (by have := hX.1.1; omega)
  have hl := m_isLoop hM hX
  obtain ⟨L, k0, pl, n0, sp0, rc, rr, h0⟩ := hM
  obtain ⟨hA, g, h1, r0, r1, r2, r3, r4, r5, rs, rf⟩ := id hX
  have hC := hA.1
  have hR := hA.2.1
  refine CP_of (by decide +kernel) (Nat.le_of_ble_eq_true rfl) ?_
  change PW _ _ _ _ 0 [_, _, _, _] [] _ _ _ _
  refine P_iload_n (q := 1) dX8_beside_0 rfl rfl ?_
  refine P_iload_n (q := 2) dX8_beside_1 rfl rfl ?_
  refine P_iadd (q := 3) dX8_beside_2 rfl ?_
  rw [show nI c + iI (-1) = iI ((c : Int) - 1) from by rw [iI_nI, iI_add]; rfl]
  refine P_istore_n (q := 4) (L' := [_, _, _, _]) dX8_beside_3 rfl (by decide) rfl ?_
  refine P_aload_n (q := 5) dX8_beside_4 rfl rfl ?_
  refine P_iload_n (q := 6) dX8_beside_5 rfl rfl ?_
  refine P_cv1 (q := 9) dX8_beside_6 rfl kX8_81 (hi) rfl rfl (by decide) (h0) rfl ⟨by decide, by decide⟩ (Nat.le_of_ble_eq_true rfl) ⟨Nat.le_refl _, Nat.le_refl _⟩ ?_
  refine P_if_eq (q := 12) (tgt := 14) dX8_beside_9 rfl (by decide) (fun c_9 => ?_) (fun c_9 => ?_)
  · rw [bI_0] at c_9
    have hno := of_decide_eq_false c_9
    refine P_aload_n (q := 15) dX8_beside_14 rfl rfl ?_
    refine P_cv1 (q := 18) dX8_beside_15 rfl kX8_85 (hl) rfl rfl (by decide) (h0) rfl ⟨by decide, by decide⟩ (Nat.le_of_ble_eq_true rfl) ⟨Nat.le_refl _, Nat.le_refl _⟩ ?_
    refine P_if_ne (q := 21) (tgt := 27) dX8_beside_18 rfl (by decide) (fun c_18 => ?_) (fun c_18 => ?_)
    · rw [bI_n] at c_18
      refine P_iload_n (q := 28) dX8_beside_27 rfl rfl ?_
      refine P_if_le (q := 31) (tgt := 35) dX8_beside_28 rfl (by decide) (fun c_28 => ?_) (fun c_28 => ?_)
      · refine P_aload_n (q := 36) dX8_beside_35 rfl rfl ?_
        refine P_get (q := 39) dX8_beside_36 rfl fX8_7 (by decide) (h0) rfl ?_
        refine P_iconst (q := 40) (v := nI 0) dX8_beside_39 rfl (by decide +kernel) ?_
        refine P_iald (q := 41) (j := 0) dX8_beside_40 rfl (by decide) (h1) (rfl) (by omega) (by decide) ?_
        rw [r0]
        refine P_iconst (q := 42) (v := nI 1) dX8_beside_41 rfl (by decide +kernel) ?_
        refine P_isub (q := 43) dX8_beside_42 rfl ?_
        rw [pk_sub hC.1]
        refine P_iret dX8_beside_43 rfl (rfl) ?_
        exact ⟨rv_i (by unfold St.prv; first | (rw [if_pos (by omega)]; show iI ((c : Int) - 1) = nI (c - 1); rw [iI_nI]; congr 1; omega) | (rw [if_neg (by omega), c_18]; rfl)), rfl⟩
      · exact absurd (show iI (-1) ≤ (0 : Int32) by decide) c_28
    · rw [bI_0] at c_18
      refine P_sipush (q := 24) (v := iI (-1005)) dX8_beside_21 rfl (by decide +kernel) ?_
      refine P_goto (tgt := 43) dX8_beside_24 (by decide) ?_
      refine P_iret dX8_beside_43 rfl (rfl) ?_
      exact ⟨rv_i (by unfold St.prv; first | (rw [if_pos (by omega)]; show iI ((c : Int) - 1) = nI (c - 1); rw [iI_nI]; congr 1; omega) | (rw [if_neg (by omega), c_18]; rfl)), rfl⟩
  · rw [bI_n] at c_9
    have hyes := of_decide_eq_true c_9
    refine P_iload_n (q := 13) dX8_beside_12 rfl rfl ?_
    refine P_iret dX8_beside_13 rfl (rfl) ?_
    exact ⟨rv_i (by unfold St.prv; first | (rw [if_pos (by omega)]; show iI ((c : Int) - 1) = nI (c - 1); rw [iI_nI]; congr 1; omega) | (rw [if_neg (by omega), c_18]; rfl)), rfl⟩
