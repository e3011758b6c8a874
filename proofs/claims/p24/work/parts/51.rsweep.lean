theorem dm_next {k R : Nat} (h : 0 < R) : ((k + 1) / R = k / R ∧ (k + 1) % R = k % R + 1 ∧ k % R + 1 < R) ∨ ((k + 1) / R = k / R + 1 ∧ (k + 1) % R = 0 ∧ k % R + 1 = R) := by
  have h1 := Nat.div_add_mod k R
  have h2 := Nat.mod_lt k h
  by_cases e : k % R + 1 < R
  · left
    have e2 : k + 1 = R * (k / R) + (k % R + 1) := by omega
    rw [e2, Nat.mul_add_div h, Nat.mul_add_mod, Nat.div_eq_of_lt e, Nat.mod_eq_of_lt e]
    exact ⟨rfl, rfl, by omega⟩
  · right
    have e2 : k + 1 = R * (k / R + 1) := by rw [Nat.mul_add]; omega
    rw [e2, Nat.mul_div_cancel_left _ h, Nat.mul_mod_right]
    exact ⟨rfl, rfl, by omega⟩
theorem dm_lt {A : St} (hA : A.ok) {k : Nat} (hk : k < A.C * A.R) : k / A.R < A.C ∧ k % A.R < A.R := by
  have h : 0 < A.R := by have := hA.2.1.1; omega
  exact ⟨Nat.div_lt_of_lt_mul (by rw [Nat.mul_comm]; exact hk), Nat.mod_lt _ h⟩
