/-! THE REFERENCE: upsAll, the least energy, withUps -/
def E4 (σ : Sto) : Prop := (∃ g : Nat → Int32, σ 122 = pI .int 248 g) ∧ (∃ g : Nat → Int32, σ 123 = pI .int 248 g) ∧ (∃ g : Nat → Int32, σ 124 = pI .int 248 g) ∧ ∃ g : Nat → Int32, σ 125 = pI .int 248 g
theorem E4.to {σ τ : Sto} (h : E4 σ) (e : ∀ k, 122 ≤ k → k ≤ 125 → τ k = σ k) : E4 τ := by
  obtain ⟨⟨a, ha⟩, ⟨b, hb⟩, ⟨c, hc⟩, d, hd⟩ := h
  exact ⟨⟨a, (e _ (by omega) (by omega)).trans ha⟩, ⟨b, (e _ (by omega) (by omega)).trans hb⟩, ⟨c, (e _ (by omega) (by omega)).trans hc⟩, d, (e _ (by omega) (by omega)).trans hd⟩
