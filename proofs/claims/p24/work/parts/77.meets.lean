/-! THE REFERENCE: meets; rows of the least -/
def MN (F : Int → Nat) (L : Int) (M : Nat) : Prop := (M = 0 ∧ L = 1000000 ∧ ∀ e, F e = 0) ∨ (M = F L ∧ M ≠ 0 ∧ (-500 ≤ L ∧ L ≤ 500) ∧ ∀ e, e < L → F e = 0)
/-- rows of 31 pairs, the least and how many, in two rows of n numbers -/
def UR (σ : Sto) (a b n K : Nat) (F : Nat → Nat → Int → Nat) : Prop := ∃ g h : Nat → Int32, σ a = pI .int n g ∧ σ b = pI .int n h ∧ ∀ t u, t < K → u < 31 → ∃ L M, g (31 * t + u) = iI L ∧ h (31 * t + u) = nI M ∧ MN (F t u) L M
theorem UR.to {σ τ : Sto} {a b n K : Nat} {F : Nat → Nat → Int → Nat} (h : UR σ a b n K F) (e1 : τ a = σ a) (e2 : τ b = σ b) : UR τ a b n K F := by
  obtain ⟨g, h, h1, h2, h3⟩ := h
  exact ⟨g, h, e1.trans h1, e2.trans h2, h3⟩
