/-! THE SAME NUMBERS: neighbours, ups, gaining cells -/
theorem nb_true {A : St} (hA : A.ok) {c r : Nat} (hc : c < A.C) (hr : r < A.R) : pcN 64 (A.bN (2 ^ (4 * c + r)) &&& A.lk (4 * c + r)) = A.nb true c r := by
  have e : ∀ d q, d < A.C → q < A.R → ((A.lk (4 * c + r)).testBit (4 * d + q)).toNat = eqN true (A.s d q) (A.s c r) := fun d q hd hq => by
    rw [A.lk_cr hA hd hr hq]
    unfold eqN
    by_cases h : A.s d q = A.s c r
    · rw [if_neg (fun x => x.2 h), h, beq_self_eq_true]; rfl
    · rw [if_pos ⟨rfl, h⟩, beq_eq_false_iff_ne.mpr (fun x => h x.symm)]; rfl
  rw [A.cntN hA hc hr]
  unfold St.nb St.nbA St.nbU St.nbD
  have h1 : oB (A.prv c) r (A.lk (4 * c + r)) = A.nbA true c r (A.prv c) := by
    cases h : A.prv c with
    | none => rfl
    | some d => exact e d r (A.prv_lt hA hc h) hr
  have h2 : oB (A.nxt c) r (A.lk (4 * c + r)) = A.nbA true c r (A.nxt c) := by
    cases h : A.nxt c with
    | none => rfl
    | some d => exact e d r (A.nxt_lt hA h) hr
  have h3 : vB c (upr r) (A.lk (4 * c + r)) = A.nbU true c r := by
    unfold upr St.nbU
    by_cases h : 0 < r
    · rw [if_pos h, if_pos h]; exact e c (r - 1) hc (by omega)
    · rw [if_neg h, if_neg h]; rfl
  have h4 : vB c (dnr A.R r) (A.lk (4 * c + r)) = A.nbD true c r := by
    unfold dnr St.nbD
    by_cases h : r + 1 < A.R
    · rw [if_pos h, if_pos h]; exact e c (r + 1) hc h
    · rw [if_neg h, if_neg h]; rfl
  rw [h1, h2, h3, h4]
  unfold St.nbA St.nbU St.nbD
  omega
theorem nb_false {A : St} (hA : A.ok) {c r : Nat} (hc : c < A.C) (hr : r < A.R) : pcN 64 (A.bN (2 ^ (4 * c + r))) = A.nb false c r := by
  have hC := hA.1.2
  have hR := hA.2.1.2
  have e : ∀ d q, d < A.C → q < A.R → (nt64.testBit (4 * d + q)).toNat = 1 := fun d q hd hq => by
    rw [nt64_bit, decide_eq_true (by omega)]; rfl
  have e1 : ∀ a b, eqN false a b = 1 := fun a b => if_neg (fun x => absurd x.1 (by decide))
  rw [pcN_all (Nat.lt_of_lt_of_le (A.bN_lt hA _) (by decide)), A.cntN hA hc hr]
  have h1 : oB (A.prv c) r nt64 = A.nbA false c r (A.prv c) := by
    cases h : A.prv c with
    | none => rfl
    | some d => exact (e d r (A.prv_lt hA hc h) hr).trans (e1 _ _).symm
  have h2 : oB (A.nxt c) r nt64 = A.nbA false c r (A.nxt c) := by
    cases h : A.nxt c with
    | none => rfl
    | some d => exact (e d r (A.nxt_lt hA h) hr).trans (e1 _ _).symm
  have h3 : vB c (upr r) nt64 = A.nbU false c r := by
    unfold upr St.nbU
    by_cases h : 0 < r
    · rw [if_pos h, if_pos h]; exact (e c (r - 1) hc (by omega)).trans (e1 _ _).symm
    · rw [if_neg h, if_neg h]; rfl
  have h4 : vB c (dnr A.R r) nt64 = A.nbD false c r := by
    unfold dnr St.nbD
    by_cases h : r + 1 < A.R
    · rw [if_pos h, if_pos h]; exact (e c (r + 1) hc h).trans (e1 _ _).symm
    · rw [if_neg h, if_neg h]; rfl
  rw [h1, h2, h3, h4]
  unfold St.nb
  omega
theorem pcN_sh4 : ∀ k, k < 8 → ∀ n, n < 10 → pcN 64 (k * 2 ^ (4 * n)) = pcN 3 k := by decide +kernel
theorem un_U {A : St} (hA : A.ok) : pcN 64 A.U = A.un A.C := by
  have h8 : ∀ c, A.sp c < 8 := fun c => Nat.lt_of_lt_of_le (hA.2.2.2.2.2.1 c) (pow8 hA.2.1.2)
  have h16 : ∀ c, A.sp c < 16 := fun c => by have := h8 c; omega
  have h : ∀ n, n ≤ 10 → pcN 64 (upsN A.sp n) = A.un n := by
    intro n
    induction n with
    | zero => intro _; exact pcN_zero 64
    | succ n ih =>
      intro hn
      rw [← upsN_or h16 n, pcN_or, ih (by omega), pcN_sh4 _ (h8 n) n (by omega)]
      · rfl
      · refine Nat.eq_of_testBit_eq fun i => ?_
        rw [Nat.testBit_and, Nat.zero_testBit, Bool.and_eq_false_iff]
        by_cases hi : i < 4 * n
        · right
          rw [Nat.mul_comm, Nat.testBit_two_pow_mul, decide_eq_false (by omega)]; rfl
        · left
          exact Nat.testBit_lt_two_pow (Nat.lt_of_lt_of_le (upsN_lt h16 n) (Nat.pow_le_pow_right (by decide) (by omega)))
  have e : ∀ n, A.C ≤ n → A.un n = A.un A.C := by
    intro n
    induction n with
    | zero => intro h; rw [show A.C = 0 by omega]
    | succ n ih =>
      intro h
      by_cases e : A.C = n + 1
      · rw [e]
      · show A.un n + pcN 3 (A.sp n) = _
        rw [hA.2.2.2.2.2.2.1 n (by omega), ih (by omega)]; rfl
  unfold St.U
  rw [h 10 (Nat.le_refl _), e 10 hA.1.2]
theorem sumN_dm (R : Nat) (hR : 0 < R) (f : Nat → Nat → Nat) : ∀ C, sumN (C * R) (fun k => f (k / R) (k % R)) = sumN C (fun c => sumN R (f c))
  | 0 => by rw [Nat.zero_mul]; rfl
  | C + 1 => by
    rw [Nat.succ_mul, sumN_split, sumN_dm R hR f C, sumN]
    congr 1
    refine sumN_congr fun r hr => ?_
    rw [Nat.mul_comm C R, Nat.mul_add_div hR, Nat.mul_add_mod, Nat.div_eq_of_lt hr, Nat.mod_eq_of_lt hr, Nat.add_zero]
theorem gk_GC {A : St} (hA : A.ok) : A.GC = ((A.gk (A.C * A.R) : Nat) : Int) := by
  unfold St.gk St.GC
  rw [sumN_dm A.R (by have := hA.2.1.1; omega) (fun c r => if 0 < A.gain c r then 1 else 0), sumN_cast]
  refine sumZ_congr fun c _ => ?_
  rw [sumN_cast]
  refine sumZ_congr fun r _ => ?_
  unfold St.pG bZ
  by_cases h : 0 < A.gain c r
  · rw [decide_eq_true h, if_pos h, if_pos rfl]; rfl
  · rw [decide_eq_false h, if_neg h, if_neg (by decide)]; rfl
