def GC (σ : Sto) (F : Nat → Nat) : Prop := ∃ g : Nat → Int32, σ 119 = pI .int 401 g ∧ ∀ y, y < 401 → g y = nI (F y)
