theorem pcN_sh4 : ∀ k, k < 8 → ∀ n, n < 10 → pcN 64 (k * 2 ^ (4 * n)) = pcN 3 k := by decide +kernel
theorem un_U {A : St} (hA : A.ok) : pcN 64 A.U = A.un A.C := by
  have h8 : ∀ c, A.sp c < 8 := fun c => Nat.lt_of_lt_of_le (hA.2.2.2.2.2.1 c) (pow8 hA.2.1.2)
  have h16 : ∀ c, A.sp c < 16 := fun c => by have := h8 c; omega
  have h : ∀ n, n ≤ 10 → pcN 64 (upsN A.sp n) = A.un n := by
    intro n
    induction n with
    | zero => intro _; exact pcN_zero 64
    | succ n ih =>
      intro hn
      rw [← upsN_or h16 n, pcN_or, ih (by omega), pcN_sh4 _ (h8 n) n (by omega)]
      · rfl
      · refine Nat.eq_of_testBit_eq fun i => ?_
        rw [Nat.testBit_and, Nat.zero_testBit, Bool.and_eq_false_iff]
        by_cases hi : i < 4 * n
        · right
          rw [Nat.mul_comm, Nat.testBit_two_pow_mul, decide_eq_false (by omega)]; rfl
        · left
          exact Nat.testBit_lt_two_pow (Nat.lt_of_lt_of_le (upsN_lt h16 n) (Nat.pow_le_pow_right (by decide) (by omega)))
  have e : ∀ n, A.C ≤ n → A.un n = A.un A.C := by
    intro n
    induction n with
    | zero => intro h; rw [show A.C = 0 by omega]
    | succ n ih =>
      intro h
      by_cases e : A.C = n + 1
      · rw [e]
      · show A.un n + pcN 3 (A.sp n) = _
        rw [hA.2.2.2.2.2.2.1 n (by omega), ih (by omega)]; rfl
  unfold St.U
  rw [h 10 (Nat.le_refl _), e 10 hA.1.2]
theorem sumN_dm (R : Nat) (hR : 0 < R) (f : Nat → Nat → Nat) : ∀ C, sumN (C * R) (fun k => f (k / R) (k % R)) = sumN C (fun c => sumN R (f c))
  | 0 => by rw [Nat.zero_mul]; rfl
  | C + 1 => by
    rw [Nat.succ_mul, sumN_split, sumN_dm R hR f C, sumN]
    congr 1
    refine sumN_congr fun r hr => ?_
    rw [Nat.mul_comm C R, Nat.mul_add_div hR, Nat.mul_add_mod, Nat.div_eq_of_lt hr, Nat.mod_eq_of_lt hr, Nat.add_zero]
