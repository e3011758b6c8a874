/-! HEAT: the sums, as the machine makes them -/
theorem rq_l2 {N D : Nat} (hD : 0 < D) : 16777215 * N ≤ 16777216 * (rq N D * D) + 16777216 * D := by
  rcases rq_lo (N := N) hD with ⟨-, h⟩ | ⟨-, h⟩ <;> omega
theorem rq_h2 {N D : Nat} (hD : 0 < D) : 16777216 * (rq N D * D) ≤ 16777217 * N + 16777216 * D := by
  rcases rq_hi (N := N) hD with ⟨-, h⟩ | ⟨-, h⟩ <;> omega
theorem rq_pos {m : Nat} (h : 0 < m) : 0 < rq m 1 := rq_ge (c := 1) (k := 0) (by decide) (by decide) (by omega)
theorem rq_dvd {m j : Nat} (h : 2 ^ j ∣ m) : 2 ^ j ∣ rq m 1 := by
  unfold rq
  generalize rqk m 1 = κ
  by_cases hk : j ≤ κ
  · exact Nat.dvd_trans (Nat.pow_dvd_pow 2 hk) (Nat.dvd_mul_left _ _)
  · obtain ⟨q, hq⟩ := Nat.dvd_trans (Nat.pow_dvd_pow 2 (show κ ≤ j by omega)) h
    have e : m = q * (1 * 2 ^ κ) := by rw [hq, Nat.one_mul, Nat.mul_comm]
    have e2 : FP.Core.nearest m (1 * 2 ^ κ) * 2 ^ κ = m := by
      rw [e, nr_ex (Nat.mul_pos (by decide) (Nat.two_pow_pos κ)), Nat.one_mul]
    rw [e2]
    exact h
theorem tm_lo {n e w t u f D : Nat} (hD : 0 < D) (hf : 16777215 * (n * D) ≤ 16777216 * f) (ht : 16777215 * (f * w) ≤ 16777216 * (t * D) + 16777216 * D) (hu : 16777215 * (t * e) ≤ 16777216 * u) (hX : 2 ^ 57 ≤ n * w) : 999 * (n * w * e) ≤ 1000 * u := by
  have h1 : 16777215 * (n * w * D) ≤ 16777216 * (f * w) := by
    have := Nat.mul_le_mul_right w hf
    rw [Nat.mul_assoc 16777215, Nat.mul_assoc 16777216, Nat.mul_right_comm n D w] at this
    exact this
  have h2 : 16777215 * 16777215 * (n * w) * D ≤ 16777216 * 16777216 * (t + 1) * D := by
    have e1 : 16777215 * 16777215 * (n * w) * D = 16777215 * (16777215 * (n * w * D)) := by rw [Nat.mul_assoc, Nat.mul_assoc]
    have e2 : 16777216 * 16777216 * (t + 1) * D = 16777216 * (16777216 * (t * D) + 16777216 * D) := by
      rw [Nat.mul_assoc, Nat.mul_assoc, Nat.add_mul, Nat.one_mul, Nat.mul_add]
    rw [e1, e2]
    omega
  have h3 := Nat.le_of_mul_le_mul_right h2 hD
  have h4 := Nat.mul_le_mul_right e h3
  have h5 := Nat.mul_le_mul_right e hX
  have e3 : 16777215 * 16777215 * (n * w) * e = 16777215 * 16777215 * (n * w * e) := Nat.mul_assoc _ _ _
  have e4 : 16777216 * 16777216 * (t + 1) * e = 16777216 * 16777216 * (t * e) + 16777216 * 16777216 * e := by rw [Nat.mul_assoc, Nat.add_mul, Nat.one_mul, Nat.mul_add]
  rw [e3, e4] at h4
  generalize n * w * e = Z at *
  generalize t * e = Y at *
  clear h1 h2 h3 hf ht hX e3 e4
  omega
theorem tm_hi {n e w t u f D P : Nat} (hD : 0 < D) (hf : 16777216 * f ≤ 16777217 * (n * D)) (ht : 16777216 * (t * D) ≤ 16777217 * (f * w) + 16777216 * D) (hu : 16777216 * u ≤ 16777217 * (t * e)) (hw : w ≤ P) (hX : 2 ^ 57 ≤ n * P) : 1000 * u ≤ 1001 * (n * P * e) := by
  have h1 : 16777216 * (f * P) ≤ 16777217 * (n * P * D) := by
    have := Nat.mul_le_mul_right P hf
    rw [Nat.mul_assoc 16777216, Nat.mul_assoc 16777217, Nat.mul_right_comm n D P] at this
    exact this
  have h0 : f * w ≤ f * P := Nat.mul_le_mul_left f hw
  have h2 : 16777216 * 16777216 * t * D ≤ (16777217 * 16777217 * (n * P) + 16777216 * 16777216) * D := by
    have e1 : 16777216 * 16777216 * t * D = 16777216 * (16777216 * (t * D)) := by rw [Nat.mul_assoc, Nat.mul_assoc]
    have e2 : (16777217 * 16777217 * (n * P) + 16777216 * 16777216) * D = 16777217 * (16777217 * (n * P * D)) + 16777216 * (16777216 * D) := by
      rw [Nat.add_mul, Nat.mul_assoc (16777217 * 16777217), Nat.mul_assoc 16777217 16777217, Nat.mul_assoc 16777216 16777216]
    rw [e1, e2]
    omega
  have h3 := Nat.le_of_mul_le_mul_right h2 hD
  have h4 := Nat.mul_le_mul_right e h3
  have h5 := Nat.mul_le_mul_right e hX
  have e3 : 16777216 * 16777216 * t * e = 16777216 * 16777216 * (t * e) := Nat.mul_assoc _ _ _
  have e4 : (16777217 * 16777217 * (n * P) + 16777216 * 16777216) * e = 16777217 * 16777217 * (n * P * e) + 16777216 * 16777216 * e := by rw [Nat.add_mul, Nat.mul_assoc (16777217 * 16777217)]
  rw [e3, e4] at h4
  generalize n * P * e = Z at *
  generalize t * e = Y at *
  clear h0 h1 h2 h3 hf ht hX e3 e4 hw
  omega
/-- the weights -/
def wN (B : Nat) : Nat → Nat
  | 0 => 2 ^ 149
  | k + 1 => rq (wN B k * B) (2 ^ 149)
def tN (n : Nat → Nat) (B k : Nat) : Nat := rq (rq (n k * 2 ^ 149) 1 * wN B k) (2 ^ 149)
def uM (n : Nat → Nat) (B : Nat) (L : Int) (k : Nat) : Nat := rq (tN n B k * (L + k).natAbs) 1
def sN (n : Nat → Nat) (B : Nat) : Nat → Nat
  | 0 => 0
  | k + 1 => rq (sN n B k + tN n B k) 1
def rz (v : Int) : Int := if v < 0 then -((rq v.natAbs 1 : Nat) : Int) else ((rq v.natAbs 1 : Nat) : Int)
def uZ (n : Nat → Nat) (B : Nat) (L : Int) (k : Nat) : Int := if L + k < 0 then -((uM n B L k : Nat) : Int) else ((uM n B L k : Nat) : Int)
def zN (n : Nat → Nat) (B : Nat) (L : Int) : Nat → Int
  | 0 => 0
  | k + 1 => rz (zN n B L k + uZ n B L k)
theorem wN_rep (B k : Nat) : ∃ c i, c < 2 ^ 24 ∧ c * 2 ^ i = wN B k := by
  cases k with
  | zero => exact ⟨1, 149, by decide, Nat.one_mul _⟩
  | succ k =>
    obtain ⟨c, i, h1, h2, -⟩ := rq_cno (N := wN B k * B) (Nat.two_pow_pos 149)
    exact ⟨c, i, h1.1, h2⟩
theorem wN_anti {B : Nat} (hB : B ≤ 2 ^ 149) (k : Nat) : wN B (k + 1) ≤ wN B k := by
  obtain ⟨c, i, h1, h2⟩ := wN_rep B k
  show rq (wN B k * B) (2 ^ 149) ≤ _
  rw [← h2]
  exact rq_le (Nat.two_pow_pos 149) h1 (Nat.mul_le_mul_left _ hB)
theorem wN_mono {B : Nat} (hB : B ≤ 2 ^ 149) {i : Nat} : ∀ {j : Nat}, i ≤ j → wN B j ≤ wN B i := by
  intro j hj
  obtain ⟨d, rfl⟩ := Nat.le.dest hj
  clear hj
  induction d with
  | zero => exact Nat.le_refl _
  | succ d ih => exact Nat.le_trans (wN_anti hB _) ih
theorem wN_le {B : Nat} (hB : B ≤ 2 ^ 149) (k : Nat) : wN B k ≤ 2 ^ 149 := wN_mono hB (i := 0) (Nat.zero_le k)
theorem tN_le {n : Nat → Nat} {B : Nat} (hB : B ≤ 2 ^ 149) {k : Nat} (hn : n k ≤ 2 ^ 30) : tN n B k ≤ 2 ^ 179 := by
  have p : (2 : Nat) ^ 30 * 2 ^ 149 = 1 * 2 ^ 179 := by decide +kernel
  have h1 : rq (n k * 2 ^ 149) 1 ≤ 1 * 2 ^ 179 := rq_le (by decide) (by decide) (by rw [Nat.mul_one, ← p]; exact Nat.mul_le_mul_right _ hn)
  have h2 : tN n B k ≤ 1 * 2 ^ 179 := rq_le (Nat.two_pow_pos 149) (by decide) (Nat.mul_le_mul h1 (wN_le hB k))
  rw [Nat.one_mul] at h2
  exact h2
theorem uM_le {n : Nat → Nat} {B : Nat} {L : Int} (hB : B ≤ 2 ^ 149) {k : Nat} (hn : n k ≤ 2 ^ 30) (hL : (L + k).natAbs ≤ 200) : uM n B L k ≤ 2 ^ 187 := by
  have h2 : uM n B L k ≤ 1 * 2 ^ 187 := rq_le (by decide) (by decide) (by
    rw [Nat.mul_one]
    refine Nat.le_trans (Nat.mul_le_mul (tN_le hB hn) hL) ?_
    decide +kernel)
  rw [Nat.one_mul] at h2
  exact h2
theorem sN_le {n : Nat → Nat} {B : Nat} (hB : B ≤ 2 ^ 149) (hn : ∀ k, n k ≤ 2 ^ 30) : ∀ k, k ≤ 1000 → sN n B k ≤ k * 2 ^ 179
  | 0, _ => Nat.zero_le _
  | k + 1, hk => by
    have h1 := sN_le hB hn k (by omega)
    have h2 := tN_le hB (hn k)
    show rq (sN n B k + tN n B k) 1 ≤ _
    refine rq_le (by decide) (by omega) ?_
    rw [Nat.mul_one, Nat.add_mul, Nat.one_mul]
    omega
theorem rz_abs (v : Int) : (rz v).natAbs = rq v.natAbs 1 := by
  unfold rz
  split <;> omega
theorem uZ_abs (n : Nat → Nat) (B : Nat) (L : Int) (k : Nat) : (uZ n B L k).natAbs = uM n B L k := by
  unfold uZ
  split <;> omega
theorem zN_le {n : Nat → Nat} {B : Nat} {L : Int} (hB : B ≤ 2 ^ 149) (hn : ∀ k, n k ≤ 2 ^ 30) : ∀ k : Nat, k ≤ 1000 → (∀ i : Nat, i < k → (L + i).natAbs ≤ 200) → (zN n B L k).natAbs ≤ k * 2 ^ 187
  | 0, _, _ => Nat.zero_le _
  | k + 1, hk, hL => by
    have h1 := zN_le hB hn k (by omega) (fun i hi => hL i (by omega))
    have h2 := uM_le hB (hn k) (hL k (by omega))
    have h3 := uZ_abs n B L k
    show (rz (zN n B L k + uZ n B L k)).natAbs ≤ _
    rw [rz_abs]
    refine rq_le (by decide) (by omega) ?_
    rw [Nat.mul_one, Nat.add_mul, Nat.one_mul]
    omega
/-- the same as floats -/
def fW (b : UInt32) : Nat → UInt32
  | 0 => FP.fconst1
  | k + 1 => FP.fmul (fW b k) b
def fT (n : Nat → Nat) (b : UInt32) (k : Nat) : UInt32 := FP.fmul (FP.i2f (nI (n k))) (fW b k)
def fU (n : Nat → Nat) (b : UInt32) (L : Int) (k : Nat) : UInt32 := FP.fmul (fT n b k) (FP.i2f (iI (L + k)))
def fS (n : Nat → Nat) (b : UInt32) : Nat → UInt32
  | 0 => FP.fconst0
  | k + 1 => FP.fadd (fS n b k) (fT n b k)
def fE (n : Nat → Nat) (b : UInt32) (L : Int) : Nat → UInt32
  | 0 => FP.fconst0
  | k + 1 => FP.fadd (fE n b L k) (fU n b L k)
theorem fW_fz {b : UInt32} {B : Nat} (hb : FZ b false B) (hB : B ≤ 2 ^ 149) : ∀ k, FZ (fW b k) false (wN B k)
  | 0 => fz1
  | k + 1 => (fW_fz hb hB k).mul hb (Nat.lt_of_le_of_lt (Nat.mul_le_mul (wN_le hB k) hB) (by decide +kernel))
theorem fI_fz {n : Nat} (hn : n ≤ 2 ^ 30) : FZ (FP.i2f (nI n)) false (rq (n * 2 ^ 149) 1) := by
  have h := FZ.ofI (z := (n : Int)) (by omega) (by omega)
  rw [← iI_nI, Int.natAbs_natCast, decide_eq_false (show ¬ (n : Int) < 0 by omega)] at h
  exact h
theorem fT_fz {n : Nat → Nat} {b : UInt32} {B : Nat} (hb : FZ b false B) (hB : B ≤ 2 ^ 149) {k : Nat} (hn : n k ≤ 2 ^ 30) : FZ (fT n b k) false (tN n B k) := by
  have p : (2 : Nat) ^ 30 * 2 ^ 149 = 1 * 2 ^ 179 := by decide +kernel
  have h1 : rq (n k * 2 ^ 149) 1 ≤ 1 * 2 ^ 179 := rq_le (by decide) (by decide) (by rw [Nat.mul_one, ← p]; exact Nat.mul_le_mul_right _ hn)
  exact (fI_fz hn).mul (fW_fz hb hB k) (Nat.lt_of_le_of_lt (Nat.mul_le_mul h1 (wN_le hB k)) (by decide +kernel))
theorem fU_fz {n : Nat → Nat} {b : UInt32} {B : Nat} {L : Int} (hb : FZ b false B) (hB : B ≤ 2 ^ 149) {k : Nat} (hn : n k ≤ 2 ^ 30) (hL : (L + k).natAbs ≤ 200) : FZ (fU n b L k) (decide (L + k < 0)) (uM n B L k) := by
  have h1 := FZ.ofI (z := L + k) (by omega) (by omega)
  have e1 := rq_ex (D := 1) (c := (L + k).natAbs) (k := 149) (by decide) (by omega)
  rw [Nat.mul_one] at e1
  rw [e1] at h1
  have hlt : tN n B k * ((L + k).natAbs * 2 ^ 149) < 2 ^ 149 * 2 ^ 276 := Nat.lt_of_le_of_lt (Nat.mul_le_mul (tN_le hB hn) (Nat.mul_le_mul_right _ hL)) (by decide +kernel)
  have h2 := (fT_fz hb hB hn).mul h1 hlt
  have e2 : rq (tN n B k * ((L + k).natAbs * 2 ^ 149)) (2 ^ 149) = uM n B L k := by
    have := rq_pw (x := tN n B k * (L + k).natAbs) (y := 1) (a := 149) (b := 149) (a' := 0) (b' := 0) (by omega)
    rw [Nat.one_mul, Nat.pow_zero, Nat.mul_one, Nat.mul_one] at this
    rw [← Nat.mul_assoc, this]
    rfl
  rw [e2] at h2
  have e3 : (false != decide (L + k < 0)) = decide (L + k < 0) := by cases decide (L + k < 0) <;> rfl
  rw [e3] at h2
  exact h2
theorem sgn_z (z : Int) : sgn (decide (z < 0)) z.natAbs = z := by
  by_cases h : z < 0
  · rw [decide_eq_true h]
    show -((z.natAbs : Nat) : Int) = z
    omega
  · rw [decide_eq_false h]
    show ((z.natAbs : Nat) : Int) = z
    omega
theorem sgn_i (e : Int) (m : Nat) : sgn (decide (e < 0)) m = if e < 0 then -(m : Int) else (m : Int) := by
  by_cases h : e < 0
  · rw [decide_eq_true h, if_pos h]; rfl
  · rw [decide_eq_false h, if_neg h]; rfl
theorem sgn_u (n : Nat → Nat) (B : Nat) (L : Int) (k : Nat) : sgn (decide (L + k < 0)) (uM n B L k) = uZ n B L k := sgn_i (L + k) (uM n B L k)
theorem rz_neg (v : Int) : rz v < 0 ↔ v < 0 := by
  unfold rz
  by_cases h : v < 0
  · have := rq_pos (m := v.natAbs) (by omega)
    rw [if_pos h]; omega
  · rw [if_neg h]; omega
theorem sum_sgn {z v : Int} {t : Bool} (hv : v = z + sgn t (v - z).natAbs) : FP.Core.sumSign (decide (z < 0)) t v = decide (rz v < 0) := by
  rw [decide_eq_decide.mpr (rz_neg v)]
  unfold FP.Core.sumSign
  by_cases h : v = 0
  · rw [if_pos h, decide_eq_false (show ¬ v < 0 by omega)]
    by_cases h2 : z < 0
    · cases t with
      | false => exact Bool.and_false _
      | true =>
        have : v = z + -(((v - z).natAbs : Nat) : Int) := hv
        omega
    · rw [decide_eq_false h2]; rfl
  · rw [if_neg h]
theorem fE_fz {n : Nat → Nat} {b : UInt32} {B : Nat} {L : Int} (hb : FZ b false B) (hB : B ≤ 2 ^ 149) (hn : ∀ k, n k ≤ 2 ^ 30) : ∀ k : Nat, k ≤ 1000 → (∀ i : Nat, i < k → (L + i).natAbs ≤ 200) → FZ (fE n b L k) (decide (zN n B L k < 0)) (zN n B L k).natAbs
  | 0, _, _ => fz0
  | k + 1, hk, hL => by
    have h1 := fE_fz hb hB hn k (by omega) (fun i hi => hL i (by omega))
    have h2 := fU_fz (n := n) (L := L) hb hB (hn k) (hL k (by omega))
    have b1 := zN_le hB hn k (L := L) (by omega) (fun i hi => hL i (by omega))
    have b2 := uM_le (n := n) hB (hn k) (hL k (by omega))
    have b3 : k * 2 ^ 187 ≤ 1000 * 2 ^ 187 := Nat.mul_le_mul_right _ (by omega)
    have b4 : 1000 * 2 ^ 187 + 2 ^ 187 < 2 ^ 269 := by decide +kernel
    have h3 := h1.add h2 (by omega)
    rw [sgn_z, sgn_u] at h3
    have e : FP.Core.sumSign (decide (zN n B L k < 0)) (decide (L + k < 0)) (zN n B L k + uZ n B L k) = decide (zN n B L (k + 1) < 0) := by
      refine sum_sgn ?_
      have e1 : (zN n B L k + uZ n B L k - zN n B L k).natAbs = uM n B L k := by rw [← uZ_abs n B L k]; congr 1; omega
      rw [e1, sgn_u]
    rw [e] at h3
    have e2 : rq (zN n B L k + uZ n B L k).natAbs 1 = (zN n B L (k + 1)).natAbs := (rz_abs _).symm
    rw [e2] at h3
    exact h3
theorem fS_fz {n : Nat → Nat} {b : UInt32} {B : Nat} (hb : FZ b false B) (hB : B ≤ 2 ^ 149) (hn : ∀ k, n k ≤ 2 ^ 30) : ∀ k, k ≤ 1000 → FZ (fS n b k) false (sN n B k)
  | 0, _ => fz0
  | k + 1, hk => by
    have h1 := fS_fz hb hB hn k (by omega)
    have b1 := sN_le hB hn k (by omega)
    have b2 := tN_le (n := n) hB (hn k)
    have b3 : k * 2 ^ 179 ≤ 1000 * 2 ^ 179 := Nat.mul_le_mul_right _ (by omega)
    have b4 : 1000 * 2 ^ 179 + 2 ^ 179 < 2 ^ 269 := by decide +kernel
    have h3 := h1.add (fT_fz hb hB (hn k)) (by omega)
    have e1 : sgn false (sN n B k) + sgn false (tN n B k) = ((sN n B k + tN n B k : Nat) : Int) := by
      show ((sN n B k : Nat) : Int) + ((tN n B k : Nat) : Int) = _
      omega
    rw [e1, Int.natAbs_natCast] at h3
    have e2 : FP.Core.sumSign false false ((sN n B k + tN n B k : Nat) : Int) = false := by
      unfold FP.Core.sumSign
      by_cases q : ((sN n B k + tN n B k : Nat) : Int) = 0
      · rw [if_pos q]; rfl
      · rw [if_neg q]; exact decide_eq_false (by omega)
    rw [e2] at h3
    exact h3
theorem tN_0 {n : Nat → Nat} {B : Nat} (h : 1 ≤ n 0) : 2 ^ 149 ≤ tN n B 0 := by
  have h1 : 1 * 2 ^ 149 ≤ rq (n 0 * 2 ^ 149) 1 := rq_ge (by decide) (by decide) (by rw [Nat.mul_one]; exact Nat.mul_le_mul_right _ h)
  have h2 : 1 * 2 ^ 149 ≤ tN n B 0 := rq_ge (Nat.two_pow_pos 149) (by decide) (Nat.mul_le_mul_right _ h1)
  rw [Nat.one_mul] at h2
  exact h2
theorem sN_ge {n : Nat → Nat} {B : Nat} (h : 1 ≤ n 0) : ∀ k, 2 ^ 149 ≤ sN n B (k + 1)
  | 0 => by
    have h1 := tN_0 (B := B) h
    have h2 : 1 * 2 ^ 149 ≤ rq (0 + tN n B 0) 1 := rq_ge (by decide) (by decide) (by omega)
    rw [Nat.one_mul] at h2
    exact h2
  | k + 1 => by
    have h1 := sN_ge (B := B) h k
    have h2 : 1 * 2 ^ 149 ≤ rq (sN n B (k + 1) + tN n B (k + 1)) 1 := rq_ge (by decide) (by decide) (by omega)
    rw [Nat.one_mul] at h2
    exact h2
