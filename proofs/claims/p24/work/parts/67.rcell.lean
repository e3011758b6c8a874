/-! THE REFERENCE: patches counted and turned, cells told -/
def St.ptk (A : St) (k : Nat) : Nat × Nat := A.ptc (A.ptp (k / A.R)) (k / A.R) (k % A.R)
theorem ptk_s {A : St} (hA : A.ok) (k : Nat) : A.ptk (k + 1) = if (A.ptk k).2.testBit (4 * (k / A.R) + k % A.R) = true then A.ptk k else ((A.ptk k).1 + 1, (A.ptk k).2 ||| A.pIt (4 * (k / A.R) + k % A.R) 30) := by
  unfold St.ptk
  rcases dm_next (k := k) (show 0 < A.R by have := hA.2.1.1; omega) with ⟨e1, e2, -⟩ | ⟨e1, e2, e3⟩
  · rw [e1, e2]; rfl
  · rw [e1, e2]
    show A.ptc (A.ptp (k / A.R)) (k / A.R) A.R = _
    have : A.ptc (A.ptp (k / A.R)) (k / A.R) A.R = A.ptc (A.ptp (k / A.R)) (k / A.R) (k % A.R + 1) := by rw [e3]
    rw [this]; rfl
theorem ptk_0 (A : St) : A.ptk 0 = (0, 0) := by
  unfold St.ptk
  rw [Nat.zero_div, Nat.zero_mod]; rfl
theorem ptk_e {A : St} (hA : A.ok) : A.ptk (A.C * A.R) = A.ptp A.C := by
  have h : 0 < A.R := by have := hA.2.1.1; omega
  unfold St.ptk
  rw [Nat.mul_div_cancel _ h, Nat.mul_mod_left]; rfl
theorem ptk_cld {A : St} (hA : A.ok) : ∀ k, k ≤ A.C * A.R → A.cld (A.ptk k).2
  | 0, _ => by rw [ptk_0]; exact cld_0 A
  | k + 1, h => by
    rw [ptk_s hA]
    have hd := dm_lt hA (show k < A.C * A.R by omega)
    split
    · exact ptk_cld hA k (by omega)
    · exact cld_or (ptk_cld hA k (by omega)) (pIt_cld hA hd.1 hd.2)
theorem MW.ss {σ τ : Sto} {w : Cs} (hW : MW σ w) (s : same σ τ (fun i => i = 114 ∨ (119 ≤ i ∧ i ≤ 130))) {pl sp rc rr : Int32} (e : τ 114 = moO w.H.length w.Sn.isSome.toNat pl w.n sp rc rr) (hAR : AR τ) : MW τ w := by
  obtain ⟨-, ⟨hA, g, h1, hR⟩, -, hl, ⟨gh, h117, hH⟩, hSn, hn, gt, t131, tch⟩ := hW
  refine ⟨⟨pl, sp, rc, rr, e⟩, ⟨hA, g, (s 115 (by omega)).trans h1, hR⟩, hAR, hl, ⟨gh, (s 117 (by omega)).trans h117, hH⟩, fun C hC => ?_, hn, gt, (s 131 (by omega)).trans t131, tch⟩
  obtain ⟨a, q, b, c⟩ := hSn C hC
  exact ⟨a, q, (s 118 (by omega)).trans b, c⟩
