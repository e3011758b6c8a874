def U1 (σ : Sto) (F : Nat → Int → Nat) : Prop := ∃ g h : Nat → Int32, σ 126 = pI .int 31 g ∧ σ 127 = pI .int 31 h ∧ ∀ u, u < 31 → ∃ L M, g u = iI L ∧ h u = nI M ∧ MN (F u) L M
theorem U1.to {σ τ : Sto} {F : Nat → Int → Nat} (h : U1 σ F) (e1 : τ 126 = σ 126) (e2 : τ 127 = σ 127) : U1 τ F := by
  obtain ⟨g, h, h1, h2, h3⟩ := h
  exact ⟨g, h, e1.trans h1, e2.trans h2, h3⟩
