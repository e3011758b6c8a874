/-! THE REFERENCE AS A MACHINE -/
def szR (k : Nat) : Nat := if k ≤ 116 then 46 else if k = 117 then 184 else if k = 118 then 46 else if k = 119 then 401 else if k ≤ 121 then 3208 else if k ≤ 125 then 248 else if k ≤ 127 then 31 else if k = 128 then 80 else if k ≤ 130 then 30 else 60
def AR (σ : Sto) : Prop := ∀ k, 115 ≤ k → k ≤ 131 → ∃ g : Nat → Int32, σ k = pI .int (szR k) g
theorem AR.up {σ : Sto} (h : AR σ) {a : Nat} {g : Nat → Int32} : AR (va_up σ a (pI .int (szR a) g)) := fun k h1 h2 => by
  by_cases e : k = a
  · subst e; exact ⟨g, up_at _ _ _⟩
  · obtain ⟨g', h'⟩ := h k h1 h2
    exact ⟨g', (up_ne _ _ e).trans h'⟩
/-- strip, history, snapshot, text, as the reference keeps them -/
def MW (σ : Sto) (w : Cs) : Prop := (∃ pl sp rc rr, σ 114 = moO w.H.length w.Sn.isSome.toNat pl w.n sp rc rr) ∧ XA σ w.A ∧ AR σ ∧ w.H.length ≤ 4 ∧ (∃ g : Nat → Int32, σ 117 = pI .int 184 g ∧ XH g w.H) ∧ (∀ B, w.Sn = some B → B.ok ∧ ∃ g : Nat → Int32, σ 118 = pI .int 46 g ∧ RA g B) ∧ w.n ≤ 60 ∧ ∃ g : Nat → Int32, σ 131 = pI .int 60 g ∧ ∀ i, i < w.n → g i = nI (w.ch i)
theorem MW.mo {σ : Sto} {w : Cs} (h : MW σ w) : MO σ := by
  obtain ⟨⟨pl, sp, rc, rr, h⟩, -⟩ := h
  exact ⟨_, _, pl, _, sp, rc, rr, h⟩
/-- an answer and a state -/
def MK (σ : Sto) (o : Int32 × Cs) : Option Value → Sto → Prop := fun v σ' => v = some (.int o.1) ∧ MW σ' o.2 ∧ same σ σ' (fun i => 114 ≤ i)
theorem MK.stay {σ : Sto} {w : Cs} {x : Int32} (hW : MW σ w) : MK σ (x, w) (some (.int x)) σ := ⟨rfl, hW, same.rf⟩
