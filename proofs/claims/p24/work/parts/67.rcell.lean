theorem MW.ss {σ τ : Sto} {w : Cs} (hW : MW σ w) (s : same σ τ (fun i => i = 114 ∨ (119 ≤ i ∧ i ≤ 130))) {pl sp rc rr : Int32} (e : τ 114 = moO w.H.length w.Sn.isSome.toNat pl w.n sp rc rr) (hAR : AR τ) : MW τ w := by
  obtain ⟨-, ⟨hA, g, h1, hR⟩, -, hl, ⟨gh, h117, hH⟩, hSn, hn, gt, t131, tch⟩ := hW
  refine ⟨⟨pl, sp, rc, rr, e⟩, ⟨hA, g, (s 115 (by omega)).trans h1, hR⟩, hAR, hl, ⟨gh, (s 117 (by omega)).trans h117, hH⟩, fun C hC => ?_, hn, gt, (s 131 (by omega)).trans t131, tch⟩
  obtain ⟨a, q, b, c⟩ := hSn C hC
  exact ⟨a, q, (s 118 (by omega)).trans b, c⟩
