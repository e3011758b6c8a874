/-! FLOATS: what rounding does, in units of the least float -/
theorem nr_lo (a b : Nat) : 2 * (FP.Core.nearest a b * b) ≤ 2 * a + b := by
  have h := Nat.div_add_mod a b
  have hc : a / b * b = b * (a / b) := Nat.mul_comm _ _
  unfold FP.Core.nearest
  by_cases h1 : 2 * (a % b) < b
  · rw [if_pos h1]; omega
  · rw [if_neg h1]
    by_cases h2 : b < 2 * (a % b)
    · rw [if_pos h2, Nat.add_mul]; omega
    · rw [if_neg h2]
      have : (a / b + a / b % 2) * b ≤ (a / b + 1) * b := Nat.mul_le_mul_right _ (by omega)
      rw [Nat.add_mul (a / b) 1] at this
      omega
theorem nr_hi (a b : Nat) (hb : 0 < b) : 2 * a ≤ 2 * (FP.Core.nearest a b * b) + b := by
  have h := Nat.div_add_mod a b
  have hm := Nat.mod_lt a hb
  have hc : a / b * b = b * (a / b) := Nat.mul_comm _ _
  unfold FP.Core.nearest
  by_cases h1 : 2 * (a % b) < b
  · rw [if_pos h1]; omega
  · rw [if_neg h1]
    by_cases h2 : b < 2 * (a % b)
    · rw [if_pos h2, Nat.add_mul]; omega
    · rw [if_neg h2]
      have : (a / b) * b ≤ (a / b + a / b % 2) * b := Nat.mul_le_mul_right _ (Nat.le_add_right _ _)
      omega
theorem nr_le {a b m : Nat} (hb : 0 < b) (h : a ≤ m * b) : FP.Core.nearest a b ≤ m := by
  have h1 := nr_lo a b
  refine Classical.byContradiction fun q => ?_
  have h2 : (m + 1) * b ≤ FP.Core.nearest a b * b := Nat.mul_le_mul_right _ (by omega)
  rw [Nat.add_mul] at h2
  omega
theorem nr_ge {a b m : Nat} (hb : 0 < b) (h : m * b ≤ a) : m ≤ FP.Core.nearest a b := by
  have hq : m ≤ a / b := (Nat.le_div_iff_mul_le hb).mpr h
  unfold FP.Core.nearest
  split
  · exact hq
  · split <;> omega
theorem nr_ex {b m : Nat} (hb : 0 < b) : FP.Core.nearest (m * b) b = m := Nat.le_antisymm (nr_le hb (Nat.le_refl _)) (nr_ge hb (Nat.le_refl _))
theorem nr_sc {a b x : Nat} (hx : 0 < x) : FP.Core.nearest (a * x) (b * x) = FP.Core.nearest a b := by
  unfold FP.Core.nearest
  rw [Nat.mul_mod_mul_right, Nat.mul_div_mul_right _ _ hx]
  have e1 : (2 * (a % b * x) < b * x) ↔ 2 * (a % b) < b := by rw [← Nat.mul_assoc]; exact Nat.mul_lt_mul_right hx
  have e2 : (b * x < 2 * (a % b * x)) ↔ b < 2 * (a % b) := by rw [← Nat.mul_assoc]; exact Nat.mul_lt_mul_right hx
  simp only [e1, e2]
/-- the magnitude N / D, rounded to 24 digits -/
def rqk (N D : Nat) : Nat := (N / D).log2 - 23
def rq (N D : Nat) : Nat := FP.Core.nearest N (D * 2 ^ rqk N D) * 2 ^ rqk N D
/-- a magnitude as a float has it -/
def cno (c k : Nat) : Prop := c < 2 ^ 24 ∧ (k = 0 ∨ 2 ^ 23 ≤ c)
theorem rqk_lo {N D : Nat} (hD : 0 < D) (h : rqk N D ≠ 0) : D * 2 ^ (rqk N D + 23) ≤ N := by
  unfold rqk at h ⊢
  have hne : N / D ≠ 0 := fun e => by rw [e] at h; exact h rfl
  have h1 := Nat.log2_self_le hne
  rw [show (N / D).log2 - 23 + 23 = (N / D).log2 by omega, Nat.mul_comm]
  exact (Nat.le_div_iff_mul_le hD).mp h1
theorem rqk_hi {N D : Nat} (hD : 0 < D) : N < D * 2 ^ (rqk N D + 24) := by
  have h1 : N / D < 2 ^ ((N / D).log2 + 1) := Nat.lt_log2_self
  have h2 : 2 ^ ((N / D).log2 + 1) ≤ 2 ^ (rqk N D + 24) := Nat.pow_le_pow_right (by decide) (by unfold rqk; omega)
  rw [Nat.mul_comm]
  exact (Nat.div_lt_iff_lt_mul hD).mp (Nat.lt_of_lt_of_le h1 h2)
theorem rq_0 (D : Nat) (hD : 0 < D) : rq 0 D = 0 := by
  unfold rq
  have e := nr_ex (b := D * 2 ^ rqk 0 D) (m := 0) (Nat.mul_pos hD (Nat.two_pow_pos _))
  rw [Nat.zero_mul] at e
  rw [e, Nat.zero_mul]
/-- rounding keeps what is a float, and the order against it -/
theorem rq_le {N D c k : Nat} (hD : 0 < D) (hc : c < 2 ^ 24) (h : N ≤ c * 2 ^ k * D) : rq N D ≤ c * 2 ^ k := by
  have hp := Nat.two_pow_pos (rqk N D)
  by_cases hk : rqk N D ≤ k
  · obtain ⟨d, rfl⟩ : ∃ d, k = rqk N D + d := ⟨k - rqk N D, by omega⟩
    have e : c * 2 ^ (rqk N D + d) = (c * 2 ^ d) * 2 ^ rqk N D := by rw [Nat.pow_add, Nat.mul_comm (2 ^ rqk N D), ← Nat.mul_assoc]
    rw [e] at h ⊢
    unfold rq
    refine Nat.mul_le_mul_right _ (nr_le (Nat.mul_pos hD hp) ?_)
    rw [Nat.mul_assoc (c * 2 ^ d), Nat.mul_comm (2 ^ rqk N D)] at h
    exact h
  · exfalso
    have h1 := rqk_lo (N := N) (D := D) hD (by omega)
    have h2 : c * 2 ^ k * D < 2 ^ 24 * 2 ^ k * D := Nat.mul_lt_mul_of_pos_right (Nat.mul_lt_mul_of_pos_right hc (Nat.two_pow_pos k)) hD
    have h3 : 2 ^ 24 * 2 ^ k * D ≤ D * 2 ^ (rqk N D + 23) := by
      rw [← Nat.pow_add, Nat.mul_comm]
      exact Nat.mul_le_mul_left _ (Nat.pow_le_pow_right (by decide) (by omega))
    omega
theorem rq_ge {N D c k : Nat} (hD : 0 < D) (hc : c < 2 ^ 24) (h : c * 2 ^ k * D ≤ N) : c * 2 ^ k ≤ rq N D := by
  have hp := Nat.two_pow_pos (rqk N D)
  by_cases hk : rqk N D ≤ k
  · obtain ⟨d, rfl⟩ : ∃ d, k = rqk N D + d := ⟨k - rqk N D, by omega⟩
    have e : c * 2 ^ (rqk N D + d) = (c * 2 ^ d) * 2 ^ rqk N D := by rw [Nat.pow_add, Nat.mul_comm (2 ^ rqk N D), ← Nat.mul_assoc]
    rw [e] at h ⊢
    unfold rq
    refine Nat.mul_le_mul_right _ (nr_ge (Nat.mul_pos hD hp) ?_)
    rw [Nat.mul_assoc (c * 2 ^ d), Nat.mul_comm (2 ^ rqk N D)] at h
    exact h
  · have h1 := rqk_lo (N := N) (D := D) hD (by omega)
    have h2 : 2 ^ 23 ≤ FP.Core.nearest N (D * 2 ^ rqk N D) := nr_ge (Nat.mul_pos hD hp) (by
      rw [Nat.mul_comm, Nat.mul_assoc, ← Nat.pow_add]; exact h1)
    have h3 : c * 2 ^ k ≤ 2 ^ 23 * 2 ^ rqk N D := by
      have h4 : c * 2 ^ k ≤ 2 ^ 24 * 2 ^ k := Nat.mul_le_mul_right _ (by omega)
      rw [← Nat.pow_add] at h4 ⊢
      exact Nat.le_trans h4 (Nat.pow_le_pow_right (by decide) (by omega))
    exact Nat.le_trans h3 (Nat.mul_le_mul_right _ h2)
theorem rq_ex {D c k : Nat} (hD : 0 < D) (hc : c < 2 ^ 24) : rq (c * 2 ^ k * D) D = c * 2 ^ k := Nat.le_antisymm (rq_le hD hc (Nat.le_refl _)) (rq_ge hD hc (Nat.le_refl _))
/-- the error: half a unit of the last digit -/
theorem rq_hi {N D : Nat} (hD : 0 < D) : rqk N D ≠ 0 ∧ 2 ^ 24 * (rq N D * D) ≤ (2 ^ 24 + 1) * N ∨ rqk N D = 0 ∧ 2 * (rq N D * D) ≤ 2 * N + D := by
  have h := nr_lo N (D * 2 ^ rqk N D)
  have e : FP.Core.nearest N (D * 2 ^ rqk N D) * (D * 2 ^ rqk N D) = rq N D * D := by
    unfold rq; rw [Nat.mul_comm D, ← Nat.mul_assoc]
  rw [e] at h
  by_cases hk : rqk N D = 0
  · rw [hk, Nat.pow_zero, Nat.mul_one] at h
    exact Or.inr ⟨hk, h⟩
  · left
    refine ⟨hk, ?_⟩
    have h1 := rqk_lo hD hk
    rw [Nat.pow_add, ← Nat.mul_assoc] at h1
    generalize D * 2 ^ rqk N D = u at h h1
    generalize rq N D * D = v at h ⊢
    omega
theorem rq_lo {N D : Nat} (hD : 0 < D) : rqk N D ≠ 0 ∧ (2 ^ 24 - 1) * N ≤ 2 ^ 24 * (rq N D * D) ∨ rqk N D = 0 ∧ 2 * N ≤ 2 * (rq N D * D) + D := by
  have h := nr_hi N (D * 2 ^ rqk N D) (Nat.mul_pos hD (Nat.two_pow_pos _))
  have e : FP.Core.nearest N (D * 2 ^ rqk N D) * (D * 2 ^ rqk N D) = rq N D * D := by
    unfold rq; rw [Nat.mul_comm D, ← Nat.mul_assoc]
  rw [e] at h
  by_cases hk : rqk N D = 0
  · rw [hk, Nat.pow_zero, Nat.mul_one] at h
    exact Or.inr ⟨hk, h⟩
  · left
    refine ⟨hk, ?_⟩
    have h1 := rqk_lo hD hk
    rw [Nat.pow_add, ← Nat.mul_assoc] at h1
    generalize D * 2 ^ rqk N D = u at h h1
    generalize rq N D * D = v at h ⊢
    omega
theorem rq_one {m : Nat} (h : rqk m 1 = 0) : rq m 1 = m := by
  have h1 := rqk_hi (N := m) (D := 1) (by decide)
  rw [h] at h1
  have e := rq_ex (D := 1) (c := m) (k := 0) (by decide) (by omega)
  rw [Nat.pow_zero, Nat.mul_one, Nat.mul_one] at e
  exact e
/-- of whole magnitudes the error is below a 2^24th -/
theorem rq_up (m : Nat) : 2 ^ 24 * rq m 1 ≤ (2 ^ 24 + 1) * m := by
  rcases rq_hi (N := m) (D := 1) (by decide) with ⟨-, h⟩ | ⟨h, -⟩
  · rw [Nat.mul_one] at h; exact h
  · rw [rq_one h]; omega
theorem rq_dn (m : Nat) : (2 ^ 24 - 1) * m ≤ 2 ^ 24 * rq m 1 := by
  rcases rq_lo (N := m) (D := 1) (by decide) with ⟨-, h⟩ | ⟨h, -⟩
  · rw [Nat.mul_one] at h; exact h
  · rw [rq_one h]; omega
/-- what rq gives is a float's magnitude -/
theorem rq_cno {N D : Nat} (hD : 0 < D) : ∃ c k, cno c k ∧ c * 2 ^ k = rq N D ∧ k ≤ rqk N D + 1 := by
  have hp := Nat.mul_pos hD (Nat.two_pow_pos (rqk N D))
  have h1 : FP.Core.nearest N (D * 2 ^ rqk N D) ≤ 2 ^ 24 := nr_le hp (by
    have := rqk_hi (N := N) (D := D) hD
    rw [Nat.mul_comm, Nat.mul_assoc, ← Nat.pow_add]; omega)
  by_cases h2 : FP.Core.nearest N (D * 2 ^ rqk N D) < 2 ^ 24
  · refine ⟨_, rqk N D, ⟨h2, ?_⟩, rfl, by omega⟩
    by_cases hk : rqk N D = 0
    · exact Or.inl hk
    · right
      refine nr_ge hp ?_
      have := rqk_lo hD hk
      rw [Nat.mul_comm, Nat.mul_assoc, ← Nat.pow_add]; exact this
  · refine ⟨2 ^ 23, rqk N D + 1, ⟨by decide, Or.inr (Nat.le_refl _)⟩, ?_, by omega⟩
    unfold rq
    rw [show FP.Core.nearest N (D * 2 ^ rqk N D) = 2 ^ 24 by omega, Nat.pow_succ 2 (rqk N D), Nat.mul_comm (2 ^ rqk N D) 2, ← Nat.mul_assoc]
