theorem RA.congr {f g : Nat → Int32} {A : St} (hA : A.ok) (h : RA f A) (e : ∀ k, k < 46 → g k = f k) : RA g A := by
  obtain ⟨h0, h1, h2, h3, h4, h5, h6, h7⟩ := h
  have hC := hA.1.2
  have hR := hA.2.1.2
  exact ⟨(e 0 (by omega)).trans h0, (e 1 (by omega)).trans h1, (e 2 (by omega)).trans h2, (e 3 (by omega)).trans h3, (e 4 (by omega)).trans h4, (e 5 (by omega)).trans h5, fun c hc => (e _ (by omega)).trans (h6 c hc), fun c r hc hr => (e _ (by omega)).trans (h7 c r hc hr)⟩
def XH (g : Nat → Int32) (H : List St) : Prop := ∀ i, i < H.length → ∃ B, H[i]? = some B ∧ B.ok ∧ RA (fun k => g (46 * (H.length - 1 - i) + k)) B
