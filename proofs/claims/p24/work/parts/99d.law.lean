/-! THE LAW'S WALK -/
theorem CW.congr {σ τ : Sto} {w : Cs} (h : CW σ w) (s : ∀ k, k ≤ 113 → τ k = σ k) : CW τ w := by
  obtain ⟨h0, hS, hA, hH, ⟨B, hB, hBC⟩, hT⟩ := h
  exact ⟨(s 0 (by omega)).trans h0, hS.congr (s 1 (by omega)) (s 2 (by omega)), hA.congr (fun k a b => s k (by omega)), hH.congr (fun k a b => s k (by omega)), ⟨B, hB.congr (s 110 (by omega)) (s 111 (by omega)), hBC⟩, hT.congr (s 112 (by omega)) (s 113 (by omega))⟩
theorem MW.congr {σ τ : Sto} {w : Cs} (h : MW σ w) (s : ∀ k, 114 ≤ k → τ k = σ k) : MW τ w := by
  obtain ⟨⟨pl, sp, rc, rr, h0⟩, ⟨hA, g, h1, hR⟩, hAR, hl, ⟨gh, h2, hH⟩, hSn, hn, gt, h3, ht⟩ := h
  refine ⟨⟨pl, sp, rc, rr, (s 114 (by omega)).trans h0⟩, ⟨hA, g, (s 115 (by omega)).trans h1, hR⟩, fun k a b => ?_, hl, ⟨gh, (s 117 (by omega)).trans h2, hH⟩, fun B hB => ?_, hn, gt, (s 131 (by omega)).trans h3, ht⟩
  · obtain ⟨g, e⟩ := hAR k a b
    exact ⟨g, (s k (by omega)).trans e⟩
  · obtain ⟨a, g, e, r⟩ := hSn B hB
    exact ⟨a, g, (s 118 (by omega)).trans e, r⟩
section LAW
variable {p : Program} {l : Launch} {e : Env} {s : State} {m : MethodId} {below : List Frame} {meth : Method} {c : Code} {D : va_G} {aC : FieldType → ClassId} {b L : Nat} {xs : Nat → Int32}
variable {pc q i : Nat} {S : List Value} {σ : Sto}
end LAW
