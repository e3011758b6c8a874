/-! a turned cell makes the energy less by its gain, a field by as much as told, a sweep by two for each cell at least -/
theorem sumZ_one {n : Nat} {f g : Nat → Int} {i : Nat} (hi : i < n) (h : ∀ k, k < n → k ≠ i → g k = f k) : sumZ n g = sumZ n f + (g i - f i) := by
  induction n with
  | zero => omega
  | succ n ih =>
    rw [sumZ, sumZ]
    by_cases e : i = n
    · subst e
      rw [sumZ_congr (g := f) (fun k hk => h k (by omega) (by omega))]
      omega
    · rw [ih (by omega) (fun k hk => h k (by omega)), h n (by omega) (by omega)]
      omega
theorem sumZ_00 : ∀ n, sumZ n (fun _ => 0) = 0
  | 0 => rfl
  | n + 1 => by rw [sumZ, sumZ_00 n]; rfl
theorem sumZ_if {n i : Nat} (hi : i < n) (G : Nat → Int) : sumZ n (fun c => if c = i then G c else 0) = G i := by
  rw [sumZ_one (f := fun _ => 0) hi (fun k _ h => if_neg h), sumZ_00, if_pos rfl]
  omega
theorem spZ_x (k a r : Nat) : spZ (k ^^^ 2 ^ a) r = if r = a then -spZ k r else spZ k r := by
  unfold spZ
  rw [Nat.testBit_xor, Nat.testBit_two_pow]
  by_cases e : r = a
  · rw [if_pos e, decide_eq_true e.symm]
    cases k.testBit r <;> rfl
  · rw [if_neg e, decide_eq_false (fun q => e q.symm), Bool.xor_false]
theorem lnkT_f (A : St) (k t r : Nat) : A.lnkT false k t r = -(A.al * (spZ k r * spZ t r)) := by
  show -A.al * (spZ k r * spZ t r) = _
  rw [Int.neg_mul]
theorem lnk_x (A : St) {k r0 : Nat} (t : Nat) (hr : r0 < A.R) : A.lnk false (k ^^^ 2 ^ r0) t = A.lnk false k t + 2 * (A.al * (spZ k r0 * spZ t r0)) := by
  unfold St.lnk
  rw [sumZ_one (f := A.lnkT false k t) (g := A.lnkT false (k ^^^ 2 ^ r0) t) hr (fun r _ hne => by rw [lnkT_f, lnkT_f, spZ_x, if_neg hne]), lnkT_f, lnkT_f, spZ_x, if_pos rfl, Int.neg_mul, Int.mul_neg]
  omega
theorem lnk_comm (A : St) (w : Bool) (k t : Nat) : A.lnk w k t = A.lnk w t k := by
  unfold St.lnk
  refine sumZ_congr fun r _ => ?_
  unfold St.lnkT
  rw [Int.mul_comm (spZ k r)]
def St.sXk (A : St) (k r : Nat) : Int := (if 0 < r then spZ k (r - 1) else 0) + (if r + 1 < A.R then spZ k (r + 1) else 0)
theorem col_x {A : St} (hA : A.ok) {c k r0 : Nat} (hr : r0 < A.R) : A.col false c (k ^^^ 2 ^ r0) = A.col false c k + (2 * (A.ac * (spZ k r0 * A.sXk k r0)) + 2 * (A.fd c r0 * spZ k r0)) := by
  have hR := hA.2.1
  have hh : A.R = 1 ∨ A.R = 2 ∨ A.R = 3 := by omega
  have e : ∀ k r, A.colT false c k r = -A.ac * spZ k r * A.nx k r - A.fd c r * spZ k r := fun k r => rfl
  have s0 := spZ_pm k 0
  have s1 := spZ_pm k 1
  have s2 := spZ_pm k 2
  rcases hh with h | h | h
  · have h0 : r0 = 0 := by omega
    subst h0
    simp only [St.col, St.sXk, h, sumZ, e, St.nx, spZ_x]
    rcases s0 with e0 | e0 <;> simp [e0] <;> omega
  · have h0 : r0 = 0 ∨ r0 = 1 := by omega
    rcases h0 with rfl | rfl <;> simp only [St.col, St.sXk, h, sumZ, e, St.nx, spZ_x] <;> rcases s0 with e0 | e0 <;> rcases s1 with e1 | e1 <;> simp [e0, e1] <;> omega
  · have h0 : r0 = 0 ∨ r0 = 1 ∨ r0 = 2 := by omega
    rcases h0 with rfl | rfl | rfl <;> simp only [St.col, St.sXk, h, sumZ, e, St.nx, spZ_x] <;> rcases s0 with e0 | e0 <;> rcases s1 with e1 | e1 <;> rcases s2 with e2 | e2 <;> simp [e0, e1, e2] <;> omega
theorem nxt_ne {A : St} {c : Nat} (hc : c < A.C) : A.nxt c ≠ some c := by
  unfold St.nxt
  split
  · intro q; have := Option.some.inj q; omega
  · by_cases h : A.lp = true
    · rw [if_pos h]
      have h2 := of_decide_eq_true h
      intro q; have := Option.some.inj q; omega
    · rw [if_neg h]; intro q; cases q
theorem sum_nxt {A : St} (hA : A.ok) {c0 : Nat} (hc : c0 < A.C) (G : Nat → Int) : sumZ A.C (fun c => if A.nxt c = some c0 then G c else 0) = oZ (A.prv c0) G := by
  cases hp : A.prv c0 with
  | none =>
    rw [sumZ_congr (g := fun _ => 0) (fun c hcc => if_neg (fun q => by rw [nxt_prv hA hcc q] at hp; cases hp)), sumZ_00]
    rfl
  | some d =>
    have hd := prv_nxt hA hc hp
    have hdC := St.prv_lt hA hc hp
    rw [sumZ_congr (g := fun c => if c = d then G c else 0) (fun c hcc => by
      by_cases e : c = d
      · subst e; rw [if_pos hd, if_pos rfl]
      · rw [if_neg e, if_neg (fun q => e (by have := nxt_prv hA hcc q; rw [hp] at this; exact (Option.some.inj this).symm))]), sumZ_if hdC]
    rfl
theorem E_flip {A : St} (hA : A.ok) {c0 r0 : Nat} (hc : c0 < A.C) (hr : r0 < A.R) : (A.flip (2 ^ (4 * c0 + r0))).E = A.E - A.gain c0 r0 := by
  have hR := hA.2.1.2
  have hsp : ∀ c, (A.flip (2 ^ (4 * c0 + r0))).sp c = if c = c0 then A.sp c ^^^ 2 ^ r0 else A.sp c := fun c => by
    show A.sp c ^^^ (2 ^ (4 * c0 + r0) / 16 ^ c % 16) = _
    rw [dig_pow (show r0 < 4 by omega)]
    split
    · rfl
    · exact Nat.xor_zero _
  rw [← tot_E, ← tot_E]
  have hT : ∀ c, c < A.C → (A.flip (2 ^ (4 * c0 + r0))).totT false c = A.totT false c + ((if c = c0 then (2 * (A.ac * (A.s c0 r0 * A.sX c0 r0)) + 2 * (A.fd c0 r0 * A.s c0 r0)) + oZ (A.nxt c0) (fun d => 2 * (A.al * (A.s c0 r0 * A.s d r0))) else 0) + (if A.nxt c = some c0 then 2 * (A.al * (A.s c0 r0 * A.s c r0)) else 0)) := fun c hcc => by
    show A.col false c ((A.flip (2 ^ (4 * c0 + r0))).sp c) + oZ (A.nxt c) (fun d => A.lnk false ((A.flip (2 ^ (4 * c0 + r0))).sp c) ((A.flip (2 ^ (4 * c0 + r0))).sp d)) = (A.col false c (A.sp c) + oZ (A.nxt c) (fun d => A.lnk false (A.sp c) (A.sp d))) + _
    rw [hsp c]
    by_cases e : c = c0
    · subst e
      rw [if_pos rfl, if_pos rfl, if_neg (nxt_ne hcc), col_x hA hr]
      have e1 : oZ (A.nxt c) (fun d => A.lnk false (A.sp c ^^^ 2 ^ r0) ((A.flip (2 ^ (4 * c + r0))).sp d)) = oZ (A.nxt c) (fun d => A.lnk false (A.sp c) (A.sp d)) + oZ (A.nxt c) (fun d => 2 * (A.al * (A.s c r0 * A.s d r0))) := by
        cases hn : A.nxt c with
        | none => rfl
        | some d =>
          show A.lnk false (A.sp c ^^^ 2 ^ r0) ((A.flip (2 ^ (4 * c + r0))).sp d) = A.lnk false (A.sp c) (A.sp d) + 2 * (A.al * (spZ (A.sp c) r0 * spZ (A.sp d) r0))
          rw [hsp d, if_neg (fun q => nxt_ne hcc (by rw [hn, q])), lnk_x A _ hr]
      rw [e1]
      show A.col false c (A.sp c) + (2 * (A.ac * (A.s c r0 * A.sX c r0)) + 2 * (A.fd c r0 * A.s c r0)) + _ = _
      omega
    · rw [if_neg e, if_neg e]
      cases hn : A.nxt c with
      | none =>
        rw [if_neg (fun q => by cases q)]
        show A.col false c (A.sp c) + 0 = A.col false c (A.sp c) + 0 + (0 + 0)
        omega
      | some d =>
        show A.col false c (A.sp c) + A.lnk false (A.sp c) ((A.flip (2 ^ (4 * c0 + r0))).sp d) = A.col false c (A.sp c) + A.lnk false (A.sp c) (A.sp d) + _
        rw [hsp d]
        by_cases e2 : d = c0
        · subst e2
          rw [if_pos rfl, if_pos rfl, lnk_comm, lnk_x A _ hr, lnk_comm A false (A.sp d) (A.sp c)]
          show _ + (_ + 2 * (A.al * (A.s d r0 * A.s c r0))) = _
          omega
        · rw [if_neg e2, if_neg (fun q => e2 (Option.some.inj q))]
          omega
  have hs : sumZ A.C ((A.flip (2 ^ (4 * c0 + r0))).totT false) = sumZ A.C (A.totT false) + (sumZ A.C (fun c => if c = c0 then (2 * (A.ac * (A.s c0 r0 * A.sX c0 r0)) + 2 * (A.fd c0 r0 * A.s c0 r0)) + oZ (A.nxt c0) (fun d => 2 * (A.al * (A.s c0 r0 * A.s d r0))) else 0) + sumZ A.C (fun c => if A.nxt c = some c0 then 2 * (A.al * (A.s c0 r0 * A.s c r0)) else 0)) := by
    rw [sumZ_congr hT, sumZ_add, sumZ_add]
  show sumZ A.C ((A.flip (2 ^ (4 * c0 + r0))).totT false) = sumZ A.C (A.totT false) - _
  rw [hs, sumZ_if hc (fun _ => (2 * (A.ac * (A.s c0 r0 * A.sX c0 r0)) + 2 * (A.fd c0 r0 * A.s c0 r0)) + oZ (A.nxt c0) (fun d => 2 * (A.al * (A.s c0 r0 * A.s d r0)))), sum_nxt hA hc (fun c => 2 * (A.al * (A.s c0 r0 * A.s c r0)))]
  have hz : ∀ o : Option Nat, oZ o (fun d => 2 * (A.al * (A.s c0 r0 * A.s d r0))) = 2 * (A.al * (A.s c0 r0 * oZ o (fun d => A.s d r0))) := fun o => by
    rw [oZ_mul, oZ_mul, oZ_mul]
  rw [hz, hz]
  have g0 : A.gain c0 r0 = -2 * A.s c0 r0 * (A.al * (oZ (A.prv c0) (fun d => A.s d r0) + oZ (A.nxt c0) (fun d => A.s d r0)) + A.ac * A.sX c0 r0 + A.fd c0 r0) := by
    rw [← A.sA_oZ]; rfl
  rw [g0, Int.mul_add A.al]
  generalize oZ (A.prv c0) (fun d => A.s d r0) = x
  generalize oZ (A.nxt c0) (fun d => A.s d r0) = y
  generalize A.sX c0 r0 = v
  generalize A.fd c0 r0 = f
  rcases A.s_pm c0 r0 with e | e
  · rw [e]
    simp only [Int.one_mul, Int.mul_one]
    omega
  · rw [e]
    simp only [Int.neg_mul, Int.one_mul, Int.mul_neg, Int.mul_one]
    omega
theorem E_pf {A : St} {c0 r0 : Nat} (hc : c0 < A.C) (hr : r0 < A.R) (z : Int) : (A.pf c0 r0 z).E = A.E - (z - A.fd c0 r0) * A.s c0 r0 := by
  have e1 : (A.pf c0 r0 z).EP = A.EP := rfl
  have e2 : (A.pf c0 r0 z).EF = A.EF + (z - A.fd c0 r0) * A.s c0 r0 := by
    show sumZ A.C (fun c => sumZ A.R (fun r => A.s c r * (if c = c0 ∧ r = r0 then z else A.fd c r))) = sumZ A.C (fun c => sumZ A.R (fun r => A.s c r * A.fd c r)) + _
    rw [sumZ_one (f := fun c => sumZ A.R (fun r => A.s c r * A.fd c r)) hc (fun c _ hne => sumZ_congr fun r _ => by rw [if_neg (fun q => hne q.1)])]
    try dsimp only
    rw [sumZ_one (f := fun r => A.s c0 r * A.fd c0 r) (g := fun r => A.s c0 r * (if c0 = c0 ∧ r = r0 then z else A.fd c0 r)) hr (fun r _ hne => by rw [if_neg (fun q => hne q.2)])]
    try dsimp only
    rw [if_pos ⟨rfl, rfl⟩, Int.sub_mul, Int.mul_comm z, Int.mul_comm (A.fd c0 r0)]
    omega
  unfold St.E
  rw [e1, e2]
  omega
theorem gain_even (A : St) (c r : Nat) : ∃ k, A.gain c r = 2 * k := by
  refine ⟨-(A.s c r * (A.al * A.sA c r + A.ac * A.sX c r + A.fd c r)), ?_⟩
  unfold St.gain
  rw [Int.mul_assoc]
  omega
theorem E_stp {A : St} (hA : A.ok) {c r : Nat} (hc : c < A.C) (hr : r < A.R) : (A.stp c r).E ≤ A.E - 2 * ((if 0 < A.gain c r then 1 else 0 : Nat) : Int) := by
  obtain ⟨k, hk⟩ := gain_even A c r
  unfold St.stp
  by_cases h : 0 < A.gain c r
  · rw [if_pos h, if_pos h, E_flip hA hc hr]
    omega
  · rw [if_neg h, if_neg h]
    omega
theorem E_swc {A : St} (hA : A.ok) {c : Nat} (hc : c < A.C) : ∀ n, n ≤ A.R → (A.swc c n).E ≤ A.E - 2 * (A.cnc c n : Int)
  | 0, _ => by show A.E ≤ A.E - 2 * ((0 : Nat) : Int); omega
  | n + 1, hn => by
    have l := St.swc_like (like_rf hA) hc n (by omega)
    have h1 := E_swc hA hc n (by omega)
    have h2 := E_stp l.1 (c := c) (r := n) (by rw [l.2.1]; exact hc) (by rw [l.2.2.1]; omega)
    rw [St.swc, St.cnc]
    omega
theorem E_swp {A : St} (hA : A.ok) : ∀ n, n ≤ A.C → (A.swp n).E ≤ A.E - 2 * (A.cnp n : Int)
  | 0, _ => by show A.E ≤ A.E - 2 * ((0 : Nat) : Int); omega
  | n + 1, hn => by
    have l := St.swp_like hA n (by omega)
    have h1 := E_swp hA n (by omega)
    have h2 := E_swc l.1 (c := n) (by rw [l.2.1]; omega) A.R (by rw [l.2.2.1]; exact Nat.le_refl _)
    rw [St.swp, St.cnp]
    omega
theorem E_run : ∀ (k : Nat) {A : St}, A.ok → (St.run k A).1.E ≤ A.E - 2 * ((St.run k A).2 : Int)
  | 0, A, _ => by show A.E ≤ A.E - 2 * ((0 : Nat) : Int); omega
  | k + 1, A, hA => by
    rw [St.run]
    split
    · show A.E ≤ A.E - 2 * ((0 : Nat) : Int); omega
    · have h1 := E_swp hA A.C (Nat.le_refl _)
      have h2 := E_run k (St.swp_like hA A.C (Nat.le_refl _)).1
      show (St.run k (A.swp A.C)).1.E ≤ A.E - 2 * ((A.cnp A.C + (St.run k (A.swp A.C)).2 : Nat) : Int)
      omega
