/-! as many with so many spins up as with so many down -/
theorem pc_m : ∀ R, R < 4 → ∀ t, t < 2 ^ R → pcN 3 (mK R t) + pcN 3 t = R := by decide +kernel
theorem Mir.mo {A B : St} (h : Mir A B) (w : Bool) {c s t : Nat} (hc : c + 1 < A.C) (hs : s < 2 ^ A.R) (ht : t < 2 ^ A.R) : B.mo w c (mK A.R s) (mK A.R t) = A.mo w c s t := by
  unfold St.mo
  rw [h.lnk w hs ht, h.col w hc ht]
theorem WU_z {A : St} (hA : A.ok) {P : Nat → Bool} {c t u : Nat} {e : Int} (ht : t < 2 ^ A.R) (hu : A.R * (c + 1) < u) : A.WU P c t u e = 0 := by
  by_cases q : A.WU P c t u e = 0
  · exact q
  · have := WU_u hA P c t u e ht q; omega
theorem Mir.WU {A B : St} (h : Mir A B) (hA : A.ok) (hB : B.ok) {P Q : Nat → Bool} (hq : ∀ t, t < 2 ^ A.R → Q (mK A.R t) = P t) : ∀ c t u e, c < A.C → t < 2 ^ A.R → u ≤ A.R * (c + 1) → B.WU Q c (mK A.R t) (A.R * (c + 1) - u) e = A.WU P c t u e
  | 0, t, u, e, hc, ht, hu => by
    have hp := pc_m A.R (by have := hA.2.1.2; omega) t ht
    rw [St.WU, St.WU, hq t ht, h.col false hc ht]
    rw [Nat.zero_add, Nat.mul_one] at hu ⊢
    have e1 : (A.R - u = pcN 3 (mK A.R t)) ↔ (u = pcN 3 t) := by omega
    simp only [e1]
  | c + 1, t, u, e, hc, ht, hu => by
    have hp := pc_m A.R (by have := hA.2.1.2; omega) t ht
    have hR : A.R * (c + 1 + 1) = A.R * (c + 1) + A.R := Nat.mul_succ _ _
    rw [St.WU, St.WU, h.1.2.1, sumN_rev]
    refine sumN_congr fun s hs => ?_
    show (if pcN 3 (mK A.R t) ≤ A.R * (c + 1 + 1) - u then B.WU Q c (mK A.R s) (A.R * (c + 1 + 1) - u - pcN 3 (mK A.R t)) (e - B.mo false c (mK A.R s) (mK A.R t)) else 0) = _
    rw [h.mo false hc hs ht]
    by_cases h1 : pcN 3 t ≤ u
    · rw [if_pos h1]
      by_cases h2 : u - pcN 3 t ≤ A.R * (c + 1)
      · rw [if_pos (by omega), show A.R * (c + 1 + 1) - u - pcN 3 (mK A.R t) = A.R * (c + 1) - (u - pcN 3 t) by omega]
        exact h.WU hA hB hq c s _ _ (by omega) hs h2
      · rw [if_neg (by omega), WU_z hA hs (by omega)]
    · rw [if_neg h1]
      split
      · exact WU_z hB (by rw [h.1.2.1]; exact mK_lt _ _) (by rw [h.1.2.1]; omega)
      · rfl
theorem Mir.FU {A B : St} (h : Mir A B) (hA : A.ok) (hB : B.ok) {P Q : Nat → Bool} (hq : ∀ t, t < 2 ^ A.R → Q (mK A.R t) = P t) {f u : Nat} (hf : f < 2 ^ A.R) (hu : u ≤ A.C * A.R) (e : Int) : B.FU Q (mK A.R f) (2 ^ A.R) (A.C * A.R - u) e = A.FU P f (2 ^ A.R) u e := by
  have hC := hA.1.1
  have e1 : A.C * A.R = A.R * (A.C - 1 + 1) := by rw [show A.C - 1 + 1 = A.C by omega, Nat.mul_comm]
  unfold St.FU
  rw [sumN_rev, h.1.1]
  refine sumN_congr fun s hs => ?_
  show B.WU Q (A.C - 1) (mK A.R s) (A.C * A.R - u) (e - B.sf false (mK A.R s) (mK A.R f)) = _
  rw [h.sf false hs hf, e1]
  exact h.WU hA hB hq (A.C - 1) s u _ (by omega) hs (by rw [← e1]; exact hu)
theorem FU_nl {A : St} (h : A.lp = false) (P : Nat → Bool) (f g n u : Nat) (e : Int) : A.FU P f n u e = A.FU P g n u e := by
  unfold St.FU
  refine sumN_congr fun s _ => ?_
  have hs : ∀ f, A.sf false s f = 0 := fun f => by unfold St.sf; rw [h]; rfl
  rw [hs, hs]
theorem Mir.CU {A B : St} (h : Mir A B) (hA : A.ok) (hB : B.ok) {u : Nat} (hu : u ≤ A.C * A.R) (e : Int) : B.CU (A.C * A.R - u) e = A.CU u e := by
  unfold St.CU
  rw [h.lp, h.1.2.1]
  cases hl : A.lp with
  | true =>
    rw [if_pos rfl, if_pos rfl, sumN_rev]
    refine sumN_congr fun f hf => ?_
    exact h.FU hA hB (P := rng f (f + 1)) (Q := rng (mK A.R f) (mK A.R f + 1)) (fun t ht => rng_m hf ht) hf hu e
  | false =>
    have h0 := Nat.two_pow_pos A.R
    have := h.FU hA hB (P := rng 0 (2 ^ A.R)) (Q := rng 0 (2 ^ A.R)) (fun t ht => by
      unfold rng
      apply decide_eq_decide.mpr
      have := mK_lt A.R t
      omega) h0 hu e
    rw [if_neg (by decide), if_neg (by decide), FU_nl (h.lp.trans hl) _ 0 (mK A.R 0), ← this]
theorem Mir.sym {A B : St} (h : Mir A B) : Mir B A := by
  refine ⟨⟨h.1.1.symm, h.1.2.1.symm, h.1.2.2.1.symm, h.1.2.2.2.1.symm, h.1.2.2.2.2.symm⟩, fun c hc => ?_, fun c r hc hr => ?_⟩
  · rw [h.1.1] at hc
    have := h.2.1 c hc
    rw [h.1.2.1]; omega
  · rw [h.1.1] at hc
    rw [h.1.2.1] at hr
    have := h.2.2 c r hc hr
    omega
theorem Mir.Es_le {A B : St} (h : Mir A B) (hA : A.ok) (hB : B.ok) : B.Es ≤ A.Es := by
  obtain ⟨u, -, hu⟩ := CU_ex hA
  have h1 : u ≤ A.C * A.R := Nat.le_of_not_lt fun q => hu (CU_u hA q)
  rw [← h.CU hA hB h1] at hu
  apply Int.not_lt.mp
  intro q
  exact hu (CU_low hB q)
theorem Mir.mu {A B : St} (h : Mir A B) (hA : A.ok) (hB : B.ok) {u : Nat} (hu : u ≤ A.C * A.R) : (B.md false).mu (A.C * A.R - u) = (A.md false).mu u := by
  have e : B.Es = A.Es := Int.le_antisymm (h.Es_le hA hB) (h.sym.Es_le hB hA)
  rw [← CU_mu hB, ← CU_mu hA, e]
  exact h.CU hA hB hu _
theorem chs_m : ∀ n, n < 16 → ∀ k, k < n + 1 → chs n k = chs n (n - k) := by decide +kernel
