/-! HEAT: over all strips the energies come to 0 -/
theorem sp_dec : ∀ R, R < 4 → ∀ r, r < R → sumZ (2 ^ R) (fun k => spZ k r) = 0 ∧ sumZ (2 ^ R) (fun k => spZ k r * nxZ R k r) = 0 := by decide +kernel
theorem lnk_s0 {A : St} (hA : A.ok) (s : Nat) : sumZ (2 ^ A.R) (fun t => A.lnk false s t) = 0 := by
  show sumZ (2 ^ A.R) (fun t => sumZ A.R (fun r => -A.al * (spZ s r * spZ t r))) = 0
  rw [sumZ_swap]
  refine (sumZ_congr (g := fun _ => 0) fun r hr => ?_).trans (sumZ_zero _)
  rw [sumZ_mul, sumZ_mul, (sp_dec A.R (by have := hA.2.1; omega) r hr).1, Int.mul_zero, Int.mul_zero]
theorem lnk_sy (A : St) (s t : Nat) : A.lnk false s t = A.lnk false t s := by
  show sumZ A.R (fun r => -A.al * (spZ s r * spZ t r)) = sumZ A.R (fun r => -A.al * (spZ t r * spZ s r))
  exact sumZ_congr fun r _ => by rw [Int.mul_comm (spZ s r)]
theorem col_s0 {A : St} (hA : A.ok) (c : Nat) : sumZ (2 ^ A.R) (fun k => A.col false c k) = 0 := by
  show sumZ (2 ^ A.R) (fun k => sumZ A.R (fun r => -A.ac * spZ k r * nxZ A.R k r - A.fd c r * spZ k r)) = 0
  rw [sumZ_swap]
  refine (sumZ_congr (g := fun _ => 0) fun r hr => ?_).trans (sumZ_zero _)
  obtain ⟨h1, h2⟩ := sp_dec A.R (by have := hA.2.1; omega) r hr
  rw [sumZ_sub, sumZ_mul, h1, sumZ_congr (g := fun k => -A.ac * (spZ k r * nxZ A.R k r)) (fun k _ => Int.mul_assoc _ _ _), sumZ_mul, h2, Int.mul_zero, Int.mul_zero]
  rfl
/-- a sum over prefixes -/
def St.XE (A : St) (P : Nat → Bool) : Nat → (Int → Int) → Nat → Int
  | 0, g, t => if P t = true then g (A.col false 0 t) else 0
  | c + 1, g, t => sumZ (2 ^ A.R) (fun s => A.XE P c (fun e => g (e + (A.lnk false s t + A.col false (c + 1) t))) s)
theorem XE_cnt (A : St) (P : Nat → Bool) : ∀ (c : Nat) (z : Int) (t : Nat), A.XE P c (fun e => if e = z then 1 else 0) t = (A.WE false P c t z : Int)
  | 0, z, t => by
    show (if P t = true then (if A.col false 0 t = z then (1 : Int) else 0) else 0) = ((if P t = true ∧ z = A.col false 0 t then 1 else 0 : Nat) : Int)
    by_cases h1 : P t = true
    · by_cases h2 : A.col false 0 t = z
      · rw [if_pos h1, if_pos h2, if_pos ⟨h1, h2.symm⟩]; rfl
      · rw [if_pos h1, if_neg h2, if_neg (fun q => h2 q.2.symm)]; rfl
    · rw [if_neg h1, if_neg (fun q => h1 q.1)]; rfl
  | c + 1, z, t => by
    show sumZ (2 ^ A.R) (fun s => A.XE P c (fun e => if e + (A.lnk false s t + A.col false (c + 1) t) = z then 1 else 0) s) = ((sumN (2 ^ A.R) (fun s => A.WE false P c s (z - (A.lnk false s t + A.col false (c + 1) t))) : Nat) : Int)
    rw [sumN_cast]
    refine sumZ_congr fun s _ => ?_
    rw [← XE_cnt A P c]
    refine congrArg (fun g => A.XE P c g s) (funext fun e => ?_)
    by_cases h : e + (A.lnk false s t + A.col false (c + 1) t) = z
    · rw [if_pos h, if_pos (by omega)]
    · rw [if_neg h, if_neg (by omega)]
theorem XE_sum (A : St) (P : Nat → Bool) (n : Nat) : ∀ (c : Nat) (g : Nat → Int → Int) (t : Nat), A.XE P c (fun e => sumZ n (fun i => g i e)) t = sumZ n (fun i => A.XE P c (g i) t)
  | 0, g, t => by
    show (if P t = true then sumZ n (fun i => g i (A.col false 0 t)) else 0) = sumZ n (fun i => if P t = true then g i (A.col false 0 t) else 0)
    by_cases h1 : P t = true
    · rw [if_pos h1]
      exact sumZ_congr fun i _ => (if_pos h1).symm
    · rw [if_neg h1]
      exact ((sumZ_congr (g := fun _ => 0) fun i _ => if_neg h1).trans (sumZ_zero n)).symm
  | c + 1, g, t => by
    show sumZ (2 ^ A.R) (fun s => A.XE P c (fun e => sumZ n (fun i => g i (e + (A.lnk false s t + A.col false (c + 1) t)))) s) = sumZ n (fun i => sumZ (2 ^ A.R) (fun s => A.XE P c (fun e => g i (e + (A.lnk false s t + A.col false (c + 1) t))) s))
    rw [sumZ_swap]
    exact sumZ_congr fun s _ => XE_sum A P n c (fun i e => g i (e + (A.lnk false s t + A.col false (c + 1) t))) s
theorem XE_mul (A : St) (P : Nat → Bool) (k : Int) : ∀ (c : Nat) (g : Int → Int) (t : Nat), A.XE P c (fun e => k * g e) t = k * A.XE P c g t
  | 0, g, t => by
    show (if P t = true then k * g (A.col false 0 t) else 0) = k * (if P t = true then g (A.col false 0 t) else 0)
    by_cases h1 : P t = true
    · rw [if_pos h1, if_pos h1]
    · rw [if_neg h1, if_neg h1, Int.mul_zero]
  | c + 1, g, t => by
    show sumZ (2 ^ A.R) (fun s => A.XE P c (fun e => k * g (e + (A.lnk false s t + A.col false (c + 1) t))) s) = k * sumZ (2 ^ A.R) (fun s => A.XE P c (fun e => g (e + (A.lnk false s t + A.col false (c + 1) t))) s)
    rw [← sumZ_mul]
    exact sumZ_congr fun s _ => XE_mul A P k c (fun e => g (e + (A.lnk false s t + A.col false (c + 1) t))) s
theorem XE_add (A : St) (P : Nat → Bool) : ∀ (c : Nat) (g h : Int → Int) (t : Nat), A.XE P c (fun e => g e + h e) t = A.XE P c g t + A.XE P c h t
  | 0, g, h, t => by
    show (if P t = true then g (A.col false 0 t) + h (A.col false 0 t) else 0) = (if P t = true then g (A.col false 0 t) else 0) + (if P t = true then h (A.col false 0 t) else 0)
    by_cases h1 : P t = true
    · rw [if_pos h1, if_pos h1, if_pos h1]
    · rw [if_neg h1, if_neg h1, if_neg h1]; rfl
  | c + 1, g, h, t => by
    show sumZ (2 ^ A.R) (fun s => A.XE P c (fun e => g (e + (A.lnk false s t + A.col false (c + 1) t)) + h (e + (A.lnk false s t + A.col false (c + 1) t))) s) = sumZ (2 ^ A.R) (fun s => A.XE P c (fun e => g (e + (A.lnk false s t + A.col false (c + 1) t))) s) + sumZ (2 ^ A.R) (fun s => A.XE P c (fun e => h (e + (A.lnk false s t + A.col false (c + 1) t))) s)
    rw [← sumZ_add]
    exact sumZ_congr fun s _ => XE_add A P c (fun e => g (e + (A.lnk false s t + A.col false (c + 1) t))) (fun e => h (e + (A.lnk false s t + A.col false (c + 1) t))) s
theorem XE_loc {A : St} (hA : A.ok) (P : Nat → Bool) : ∀ (c : Nat) (g h : Int → Int) (t : Nat), (∀ e : Int, e.natAbs ≤ 21 * (c + 1) → g e = h e) → A.XE P c g t = A.XE P c h t
  | 0, g, h, t, H => by
    show (if P t = true then g (A.col false 0 t) else 0) = if P t = true then h (A.col false 0 t) else 0
    rw [H (A.col false 0 t) (by have := col_in hA false 0 t; omega)]
  | c + 1, g, h, t, H => by
    refine sumZ_congr fun s _ => XE_loc hA P c _ _ s fun e he => ?_
    have h1 := col_in hA false (c + 1) t
    have h2 := lnk_in hA false s t
    exact H (e + (A.lnk false s t + A.col false (c + 1) t)) (by omega)
/-- how many, and their energies together -/
abbrev St.m0 (A : St) (P : Nat → Bool) (c t : Nat) : Int := A.XE P c (fun _ => 1) t
abbrev St.m1 (A : St) (P : Nat → Bool) (c t : Nat) : Int := A.XE P c (fun e => e) t
theorem XE_sh (A : St) (P : Nat → Bool) (c : Nat) (d : Int) (t : Nat) : A.XE P c (fun e => e + d) t = A.m1 P c t + d * A.m0 P c t := by
  rw [XE_add, ← XE_mul]
  refine congrArg (fun g => A.XE P c (fun e => e) t + A.XE P c g t) (funext fun e => (Int.mul_one d).symm)
theorem m0_s (A : St) (P : Nat → Bool) (c t : Nat) : A.m0 P (c + 1) t = sumZ (2 ^ A.R) (fun s => A.m0 P c s) := rfl
theorem m1_s (A : St) (P : Nat → Bool) (c t : Nat) : A.m1 P (c + 1) t = sumZ (2 ^ A.R) (fun s => A.m1 P c s + (A.lnk false s t + A.col false (c + 1) t) * A.m0 P c s) := sumZ_congr fun s _ => XE_sh A P c _ s
theorem sumZ_k (n : Nat) (k : Int) : sumZ n (fun _ => k) = n * k := by
  induction n with
  | zero => exact (Int.zero_mul k).symm
  | succ n ih =>
    show sumZ n (fun _ => k) + k = _
    rw [ih, Int.natCast_add, Int.add_mul, Int.natCast_one, Int.one_mul]
theorem m1_sum {A : St} (hA : A.ok) (P : Nat → Bool) (c : Nat) : sumZ (2 ^ A.R) (fun t => A.m1 P (c + 1) t) = ((2 ^ A.R : Nat) : Int) * sumZ (2 ^ A.R) (fun s => A.m1 P c s) := by
  rw [sumZ_congr (fun t _ => m1_s A P c t), sumZ_swap, ← sumZ_mul]
  refine sumZ_congr fun s _ => ?_
  rw [sumZ_add, sumZ_k]
  have e : sumZ (2 ^ A.R) (fun t => (A.lnk false s t + A.col false (c + 1) t) * A.m0 P c s) = 0 := by
    rw [sumZ_congr (g := fun t => A.m0 P c s * (A.lnk false s t + A.col false (c + 1) t)) (fun t _ => Int.mul_comm _ _), sumZ_mul, sumZ_add, lnk_s0 hA, col_s0 hA]
    exact Int.mul_zero _
  rw [e, Int.add_zero]
theorem m1_open {A : St} (hA : A.ok) : ∀ c, sumZ (2 ^ A.R) (fun t => A.m1 (rng 0 (2 ^ A.R)) c t) = 0
  | 0 => by
    rw [← col_s0 hA 0]
    refine sumZ_congr fun t ht => ?_
    exact if_pos (decide_eq_true ⟨Nat.zero_le _, ht⟩)
  | c + 1 => by rw [m1_sum hA, m1_open hA c, Int.mul_zero]
theorem sumZ_pick (n f : Nat) (g : Nat → Int) (hf : f < n) : sumZ n (fun t => if rng f (f + 1) t = true then g t else 0) = g f := by
  have key : ∀ m, m ≤ n → sumZ m (fun t => if rng f (f + 1) t = true then g t else 0) = if f < m then g f else 0 := by
    intro m
    induction m with
    | zero => exact fun _ => (if_neg (Nat.not_lt_zero f)).symm
    | succ m ih =>
      intro hm
      show sumZ m _ + (if rng f (f + 1) m = true then g m else 0) = _
      rw [ih (by omega)]
      rcases Nat.lt_trichotomy f m with h | h | h
      · rw [if_pos h, if_neg (fun q => by have := of_decide_eq_true q; omega), if_pos (by omega), Int.add_zero]
      · subst h
        rw [if_neg (Nat.lt_irrefl _), if_pos (show rng f (f + 1) f = true from decide_eq_true (by omega)), if_pos (by omega), Int.zero_add]
      · rw [if_neg (by omega), if_neg (fun q => by have := of_decide_eq_true q; omega), if_neg (by omega)]
        rfl
  rw [key n (Nat.le_refl n), if_pos hf]
theorem m1_ring {A : St} (hA : A.ok) : ∀ c, sumZ (2 ^ A.R) (fun f => sumZ (2 ^ A.R) (fun t => A.m1 (rng f (f + 1)) c t)) = 0
  | 0 => by
    rw [← col_s0 hA 0]
    exact sumZ_congr fun f hf => sumZ_pick _ f (fun t => A.col false 0 t) hf
  | c + 1 => by rw [sumZ_congr (fun f _ => m1_sum hA (rng f (f + 1)) c), sumZ_mul, m1_ring hA c, Int.mul_zero]
theorem moment_g (n : Nat) (a b x : Int) (h1 : a ≤ x) (h2 : x < a + n) (hb : b = x) : sumZ n (fun y => (a + y) * (if b = a + y then 1 else 0)) = x := by
  subst hb
  have key : ∀ m : Nat, sumZ m (fun y => (a + y) * (if b = a + y then 1 else 0)) = if b < a + m then b else 0 := by
    intro m
    induction m with
    | zero => exact (if_neg (by omega)).symm
    | succ m ih =>
      show sumZ m _ + (a + m) * (if b = a + m then 1 else 0) = _
      rw [ih]
      by_cases h : b = a + m
      · rw [if_pos h, if_neg (by omega), if_pos (by omega), Int.mul_one]; omega
      · rw [if_neg h, Int.mul_zero, Int.add_zero]
        by_cases h3 : b < a + m
        · rw [if_pos h3, if_pos (by omega)]
        · rw [if_neg h3, if_neg (by omega)]
  rw [key n, if_pos h2]
theorem FE_mom {A : St} (hA : A.ok) (P : Nat → Bool) (f : Nat) (hf : ∀ s, -6 ≤ A.sf false s f ∧ A.sf false s f ≤ 6) : sumZ 601 (fun y => (-300 + (y : Int)) * (A.FE false P f (2 ^ A.R) (-300 + (y : Int)) : Int)) = sumZ (2 ^ A.R) (fun s => A.m1 P (A.C - 1) s + A.sf false s f * A.m0 P (A.C - 1) s) := by
  have e1 : ∀ y : Nat, (-300 + (y : Int)) * (A.FE false P f (2 ^ A.R) (-300 + (y : Int)) : Int) = sumZ (2 ^ A.R) (fun s => A.XE P (A.C - 1) (fun e => (-300 + (y : Int)) * (if e = -300 + (y : Int) - A.sf false s f then 1 else 0)) s) := fun y => by
    unfold St.FE
    rw [sumN_cast, ← sumZ_mul]
    refine sumZ_congr fun s _ => ?_
    rw [XE_mul, XE_cnt]
  rw [sumZ_congr (fun y _ => e1 y), sumZ_swap]
  refine sumZ_congr fun s _ => ?_
  rw [← XE_sum A P 601 (A.C - 1) (fun y e => (-300 + (y : Int)) * (if e = -300 + (y : Int) - A.sf false s f then 1 else 0)) s, ← XE_sh]
  refine XE_loc hA P (A.C - 1) _ _ s fun e he => ?_
  have h1 := hf s
  have hC := hA.1
  have h2 := moment_g 601 (-300) (e + A.sf false s f) (e + A.sf false s f) (by omega) (by omega) rfl
  rw [← h2]
  refine sumZ_congr fun y _ => ?_
  by_cases h : e = -300 + (y : Int) - A.sf false s f
  · rw [if_pos h, if_pos (by omega)]
  · rw [if_neg h, if_neg (by omega)]
theorem CE_mom {A : St} (hA : A.ok) : sumZ 601 (fun y => (-300 + (y : Int)) * (A.CE false (-300 + (y : Int)) : Int)) = 0 := by
  by_cases hl : A.lp = true
  · have e0 : ∀ y : Nat, (-300 + (y : Int)) * (A.CE false (-300 + (y : Int)) : Int) = sumZ (2 ^ A.R) (fun f => (-300 + (y : Int)) * (A.FE false (rng f (f + 1)) f (2 ^ A.R) (-300 + (y : Int)) : Int)) := fun y => by
      unfold St.CE
      rw [if_pos hl, sumN_cast, ← sumZ_mul]
    have hC3 : 3 ≤ A.C := (of_decide_eq_true hl).2
    have hf : ∀ s f, A.sf false s f = A.lnk false s f := fun s f => if_pos hl
    rw [sumZ_congr (fun y _ => e0 y), sumZ_swap, sumZ_congr (fun f _ => FE_mom hA (rng f (f + 1)) f (fun s => by rw [hf]; exact lnk_in hA false s f)), sumZ_congr (fun f _ => sumZ_add _ _ _), sumZ_add, m1_ring hA, Int.zero_add]
    refine (sumZ_congr (g := fun _ => 0) fun f _ => ?_).trans (sumZ_zero _)
    obtain ⟨c, hc⟩ : ∃ c, A.C - 1 = c + 1 := ⟨A.C - 2, by omega⟩
    rw [hc, sumZ_congr (g := fun s => sumZ (2 ^ A.R) (fun s => A.m0 (rng f (f + 1)) c s) * A.lnk false f s) (fun s _ => by rw [hf, m0_s, lnk_sy A s f, Int.mul_comm]), sumZ_mul, lnk_s0 hA, Int.mul_zero]
  · have e0 : ∀ y : Nat, (-300 + (y : Int)) * (A.CE false (-300 + (y : Int)) : Int) = (-300 + (y : Int)) * (A.FE false (rng 0 (2 ^ A.R)) 0 (2 ^ A.R) (-300 + (y : Int)) : Int) := fun y => by
      unfold St.CE
      rw [if_neg hl]
    have hf : ∀ s f, A.sf false s f = 0 := fun s f => if_neg hl
    rw [sumZ_congr (fun y _ => e0 y), FE_mom hA _ 0 (fun s => by rw [hf]; decide), sumZ_congr (g := fun s => A.m1 (rng 0 (2 ^ A.R)) (A.C - 1) s) (fun s _ => by rw [hf, Int.zero_mul, Int.add_zero]), m1_open hA]
