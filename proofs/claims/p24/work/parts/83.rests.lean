/-! THE REFERENCE: rests -/
def RR (σ : Sto) (A : St) (f : Nat) (P : Nat → Nat → Prop) : Prop := ∃ g : Nat → Int32, σ 128 = pI .int 80 g ∧ ∀ c s, c < A.C → s < 2 ^ A.R → P c s → g (8 * c + s) = iI (A.rs f c s)
theorem RR.imp {σ : Sto} {A : St} {f : Nat} {P P' : Nat → Nat → Prop} (h : RR σ A f P) (hp : ∀ c s, c < A.C → s < 2 ^ A.R → P' c s → P c s) : RR σ A f P' := by
  obtain ⟨g, h1, h2⟩ := h
  exact ⟨g, h1, fun c s hc hs q => h2 c s hc hs (hp c s hc hs q)⟩
