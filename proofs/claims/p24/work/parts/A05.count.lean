/-! ALL STRIPS of two mirrored ones: as many with an energy, with so many walls -/
theorem sumN_rev (f : Nat → Nat) : ∀ n, sumN n f = sumN n (fun i => f (n - 1 - i))
  | 0 => rfl
  | n + 1 => by
    have hf : ∀ (n : Nat) (g : Nat → Nat), sumN (n + 1) g = g 0 + sumN n (fun i => g (i + 1)) := fun n g => by
      induction n with
      | zero => show 0 + g 0 = g 0 + 0; omega
      | succ n ih => rw [sumN, ih, sumN]; omega
    rw [hf n (fun i => f (n + 1 - 1 - i)), sumN, sumN_rev f n, Nat.add_comm]
    show f n + _ = f (n + 1 - 1 - 0) + _
    rw [show n + 1 - 1 - 0 = n by omega]
    congr 1
    exact sumN_congr fun i _ => by rw [show n + 1 - 1 - (i + 1) = n - 1 - i by omega]
/-- the column with each spin of the other sign -/
abbrev mK (R t : Nat) : Nat := 2 ^ R - 1 - t
theorem spZ_m {R t r : Nat} (ht : t < 2 ^ R) (hr : r < R) : spZ (mK R t) r = -spZ t r := by
  unfold spZ
  rw [cmp_bit (show mK R t + t = 2 ^ R - 1 from by show 2 ^ R - 1 - t + t = _; omega) hr]
  cases t.testBit r <;> rfl
theorem neg_lt (a b : Int) : (-a * -b < 0) ↔ (a * b < 0) := by rw [Int.neg_mul_neg]
theorem Mir.col {A B : St} (h : Mir A B) (w : Bool) {c t : Nat} (hc : c < A.C) (ht : t < 2 ^ A.R) : B.col w c (mK A.R t) = A.col w c t := by
  unfold St.col
  rw [h.1.2.1]
  refine sumZ_congr fun r hr => ?_
  have hn : B.nx (mK A.R t) r = -A.nx t r := by
    unfold St.nx
    rw [h.1.2.1]
    by_cases e : r + 1 < A.R
    · rw [if_pos e, if_pos e, spZ_m ht e]
    · rw [if_neg e, if_neg e]; rfl
  have e1 : -A.ac * -spZ t r * -A.nx t r = -A.ac * spZ t r * A.nx t r := by
    rw [Int.mul_assoc, Int.mul_assoc, Int.neg_mul_neg]
  cases w with
  | true =>
    show (if spZ (mK A.R t) r * B.nx (mK A.R t) r < 0 then (1 : Int) else 0) = (if spZ t r * A.nx t r < 0 then 1 else 0)
    rw [hn, spZ_m ht hr, Int.neg_mul_neg]
  | false =>
    show -B.ac * spZ (mK A.R t) r * B.nx (mK A.R t) r - B.fd c r * spZ (mK A.R t) r = -A.ac * spZ t r * A.nx t r - A.fd c r * spZ t r
    rw [hn, spZ_m ht hr, h.1.2.2.2.2, h.2.2 c r hc hr, e1, Int.neg_mul_neg]
theorem Mir.lnk {A B : St} (h : Mir A B) (w : Bool) {s t : Nat} (hs : s < 2 ^ A.R) (ht : t < 2 ^ A.R) : B.lnk w (mK A.R s) (mK A.R t) = A.lnk w s t := by
  unfold St.lnk
  rw [h.1.2.1]
  refine sumZ_congr fun r hr => ?_
  unfold St.lnkT
  rw [spZ_m hs hr, spZ_m ht hr, Int.neg_mul_neg, h.1.2.2.2.1]
theorem mK_lt (R t : Nat) : mK R t < 2 ^ R := by
  have := Nat.two_pow_pos R
  show 2 ^ R - 1 - t < 2 ^ R
  omega
theorem Mir.WE {A B : St} (h : Mir A B) (w : Bool) {P Q : Nat → Bool} (hq : ∀ t, t < 2 ^ A.R → Q (mK A.R t) = P t) : ∀ c t e, c < A.C → t < 2 ^ A.R → B.WE w Q c (mK A.R t) e = A.WE w P c t e
  | 0, t, e, hc, ht => by rw [St.WE, St.WE, hq t ht, h.col w hc ht]
  | c + 1, t, e, hc, ht => by
    rw [St.WE, St.WE, h.1.2.1, sumN_rev]
    refine sumN_congr fun s hs => ?_
    show B.WE w Q c (mK A.R s) (e - (B.lnk w (mK A.R s) (mK A.R t) + B.col w (c + 1) (mK A.R t))) = _
    rw [h.lnk w hs ht, h.col w hc ht, h.WE w hq c s _ (by omega) hs]
theorem Mir.sf {A B : St} (h : Mir A B) (w : Bool) {s f : Nat} (hs : s < 2 ^ A.R) (hf : f < 2 ^ A.R) : B.sf w (mK A.R s) (mK A.R f) = A.sf w s f := by
  unfold St.sf
  rw [h.lp, h.lnk w hs hf]
theorem Mir.FE {A B : St} (h : Mir A B) (hA : A.ok) (w : Bool) {P Q : Nat → Bool} (hq : ∀ t, t < 2 ^ A.R → Q (mK A.R t) = P t) {f : Nat} (hf : f < 2 ^ A.R) (e : Int) : B.FE w Q (mK A.R f) (2 ^ B.R) e = A.FE w P f (2 ^ A.R) e := by
  unfold St.FE
  rw [h.1.2.1, h.1.1, sumN_rev]
  refine sumN_congr fun s hs => ?_
  show B.WE w Q (A.C - 1) (mK A.R s) (e - B.sf w (mK A.R s) (mK A.R f)) = _
  have := hA.1.1
  rw [h.sf w hs hf, h.WE w hq (A.C - 1) s _ (by omega) hs]
theorem rng_m {R f t : Nat} (hf : f < 2 ^ R) (ht : t < 2 ^ R) : rng (mK R f) (mK R f + 1) (mK R t) = rng f (f + 1) t := by
  unfold rng
  apply decide_eq_decide.mpr
  show (2 ^ R - 1 - f ≤ 2 ^ R - 1 - t ∧ 2 ^ R - 1 - t < 2 ^ R - 1 - f + 1) ↔ _
  omega
theorem FE_nl {A : St} (h : A.lp = false) (w : Bool) (P : Nat → Bool) (f g n : Nat) (e : Int) : A.FE w P f n e = A.FE w P g n e := by
  unfold St.FE
  refine sumN_congr fun s _ => ?_
  have hs : ∀ f, A.sf w s f = 0 := fun f => by unfold St.sf; rw [h]; rfl
  rw [hs, hs]
theorem Mir.CE {A B : St} (h : Mir A B) (hA : A.ok) (w : Bool) (e : Int) : B.CE w e = A.CE w e := by
  unfold St.CE
  rw [h.lp]
  cases hl : A.lp with
  | true =>
    rw [if_pos rfl, if_pos rfl, h.1.2.1, sumN_rev]
    refine sumN_congr fun f hf => ?_
    have := h.FE hA w (P := rng f (f + 1)) (Q := rng (mK A.R f) (mK A.R f + 1)) (fun t ht => rng_m hf ht) hf e
    rw [h.1.2.1] at this
    exact this
  | false =>
    have h0 := Nat.two_pow_pos A.R
    have := h.FE hA w (P := rng 0 (2 ^ A.R)) (Q := rng 0 (2 ^ A.R)) (fun t ht => by
      unfold rng
      apply decide_eq_decide.mpr
      have := mK_lt A.R t
      omega) h0 e
    rw [if_neg (by decide), if_neg (by decide), FE_nl (h.lp.trans hl) w _ 0 (mK A.R 0), ← this, h.1.2.1]
/-! the least and the greatest energy -/
theorem Mir.fdr {A B : St} (h : Mir A B) {c : Nat} (hc : c < A.C) : B.fdr c B.R = A.fdr c A.R := by
  unfold St.fdr
  rw [h.1.2.1]
  exact sumN_congr fun r hr => by rw [h.2.2 c r hc hr, Int.natAbs_neg]
theorem Mir.reach {A B : St} (h : Mir A B) : B.reach false B.C = A.reach false A.C := by
  unfold St.reach
  rw [h.1.1]
  refine sumN_congr fun c hc => ?_
  have e := h.fdr hc
  show (if c = 0 then (B.R - 1) * B.ac.natAbs else (B.R - 1) * B.ac.natAbs + B.R * B.al.natAbs) + B.fdr c B.R = (if c = 0 then (A.R - 1) * A.ac.natAbs else (A.R - 1) * A.ac.natAbs + A.R * A.al.natAbs) + A.fdr c A.R
  rw [e, h.1.2.1, h.1.2.2.2.1, h.1.2.2.2.2]
theorem Mir.wr {A B : St} (h : Mir A B) : (B.md false).wr = (A.md false).wr := by
  show (if B.lp then B.reach false B.C + B.R * B.al.natAbs else B.reach false B.C) = (if A.lp then A.reach false A.C + A.R * A.al.natAbs else A.reach false A.C)
  rw [h.reach, h.lp, h.1.2.1, h.1.2.2.2.1]
theorem Mir.cnt {A B : St} (h : Mir A B) (hA : A.ok) (hB : B.ok) (x : Nat) : (B.md false).cnt x = (A.md false).cnt x := by
  rw [← (CE_cnt hB false).1 x, ← (CE_cnt hA false).1 x, h.CE hA]
  show A.CE false (2 * (x : Int) - ((B.md false).wr : Int)) = A.CE false (2 * (x : Int) - ((A.md false).wr : Int))
  rw [h.wr]
theorem Mir.nz {A B : St} (h : Mir A B) (hA : A.ok) (hB : B.ok) : (B.md false).nz = (A.md false).nz := by
  funext x
  unfold Md.nz
  rw [h.cnt hA hB]
theorem Mir.lo {A B : St} (h : Mir A B) (hA : A.ok) (hB : B.ok) : (B.md false).lo = (A.md false).lo := by
  unfold Md.lo
  rw [h.nz hA hB]
theorem Mir.hi {A B : St} (h : Mir A B) (hA : A.ok) (hB : B.ok) : (B.md false).hi = (A.md false).hi := by
  unfold Md.hi
  rw [h.nz hA hB]
theorem Mir.me {A B : St} (h : Mir A B) (hA : A.ok) (hB : B.ok) (z : Int) : (B.md false).me z = (A.md false).me z := by
  rw [← CE_me hB, ← CE_me hA, h.CE hA]
theorem Mir.heat {A B : St} (h : Mir A B) (hA : A.ok) (hB : B.ok) : B.eL = A.eL ∧ B.eH = A.eH ∧ B.eK = A.eK ∧ B.en = A.en := by
  have e1 : B.eL = A.eL := by unfold St.eL; rw [h.lo hA hB, h.wr]
  refine ⟨e1, by unfold St.eH; rw [h.hi hA hB, h.wr], by unfold St.eK; rw [h.lo hA hB, h.hi hA hB], ?_⟩
  funext k
  unfold St.en
  rw [e1, h.CE hA]
/-! a strip is one of all strips -/
theorem WE_own (A : St) (w : Bool) {P : Nat → Bool} (hsp : ∀ c, A.sp c < 2 ^ A.R) (h0 : P (A.sp 0) = true) : ∀ c, c < A.C → 1 ≤ A.WE w P c (A.sp c) (sumZ c (A.totT w) + A.col w c (A.sp c))
  | 0, _ => by
    rw [St.WE, if_pos ⟨h0, by show (0 : Int) + _ = _; omega⟩]
    exact Nat.le_refl _
  | c + 1, hc => by
    refine Nat.le_trans (WE_own A w hsp h0 c (by omega)) (Nat.le_trans (WE_step A w P (t := A.sp (c + 1)) (hsp c) _) (Nat.le_of_eq ?_))
    congr 1
    have e : A.totT w c = A.col w c (A.sp c) + A.lnk w (A.sp c) (A.sp (c + 1)) := by
      unfold St.totT St.lnkO
      rw [show A.nxt c = some (c + 1) from if_pos hc]
      rfl
    rw [sumZ, e]
    unfold St.mo
    omega
theorem CE_own {A : St} (hA : A.ok) (w : Bool) : 1 ≤ A.CE w (A.tot w) := by
  have hsp := hA.2.2.2.2.2.1
  have hC := hA.1.1
  obtain ⟨n, hn⟩ : ∃ n, A.C = n + 1 := ⟨A.C - 1, by omega⟩
  have key : ∀ (P : Nat → Bool) (f : Nat), P (A.sp 0) = true → (A.lp = true → f = A.sp 0) → 1 ≤ A.FE w P f (2 ^ A.R) (A.tot w) := fun P f hP hf => by
    unfold St.FE
    refine Nat.le_trans (WE_own A w hsp hP n (by omega)) (Nat.le_trans (Nat.le_of_eq ?_) (sumN_term (f := fun s => A.WE w P (A.C - 1) s (A.tot w - A.sf w s f)) (hsp n)))
    try dsimp only
    rw [show A.C - 1 = n by omega]
    congr 1
    unfold St.tot St.sf
    rw [hn, sumZ]
    unfold St.totT St.lnkO
    rw [show A.nxt n = if A.lp then some 0 else none from if_neg (by omega)]
    cases hl : A.lp with
    | true =>
      rw [hf hl]
      show _ = _ + (_ + A.lnk w (A.sp n) (A.sp 0)) - A.lnk w (A.sp n) (A.sp 0)
      omega
    | false =>
      show _ = _ + (_ + 0) - 0
      omega
  unfold St.CE
  cases hl : A.lp with
  | true =>
    rw [if_pos rfl]
    refine Nat.le_trans (key (rng (A.sp 0) (A.sp 0 + 1)) (A.sp 0) (decide_eq_true ⟨Nat.le_refl _, Nat.lt_succ_self _⟩) (fun _ => rfl)) (sumN_term (f := fun f => A.FE w (rng f (f + 1)) f (2 ^ A.R) (A.tot w)) (hsp 0))
  | false =>
    rw [if_neg (by decide)]
    exact key (rng 0 (2 ^ A.R)) 0 (decide_eq_true ⟨Nat.zero_le _, hsp 0⟩) (fun q => by rw [hl] at q; cases q)
theorem E_own {A : St} (hA : A.ok) : A.eL ≤ A.E ∧ A.E ≤ A.eH ∧ 1 ≤ A.CE false A.E ∧ 1 ≤ A.CE true A.WL := by
  have h1 := CE_own hA false
  have h2 := CE_own hA true
  rw [tot_E] at h1
  rw [tot_WL] at h2
  obtain ⟨l, h, -, hh, e1, e2, -, -, z1, z2⟩ := en_pt hA
  have hin : ¬ (A.E < -200 ∨ 200 < A.E) := fun q => by rw [CE_out hA false q] at h1; omega
  obtain ⟨y, hy⟩ : ∃ y : Nat, A.E = (y : Int) - 200 := ⟨(A.E + 200).toNat, by omega⟩
  refine ⟨?_, ?_, h1, h2⟩
  · rw [e1, hy]
    by_cases q : y < l
    · have := z1 y q; rw [← hy] at this; omega
    · omega
  · rw [e2, hy]
    by_cases q : h < y
    · have := z2 y q (by omega); rw [← hy] at this; omega
    · omega
