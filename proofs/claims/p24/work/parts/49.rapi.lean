theorem dig_pow {c r k : Nat} (hr : r < 4) : 2 ^ (4 * c + r) / 16 ^ k % 16 = if k = c then 2 ^ r else 0 := by
  refine Nat.eq_of_testBit_eq fun i => ?_
  rw [dig_bit, Nat.testBit_two_pow]
  by_cases e : k = c
  · subst e
    rw [if_pos rfl, Nat.testBit_two_pow]
    by_cases hi : i < 4
    · rw [decide_eq_true hi, Bool.true_and]; apply decide_eq_decide.mpr; omega
    · rw [decide_eq_false hi, Bool.false_and, decide_eq_false (by omega)]
  · rw [if_neg e, Nat.zero_testBit]
    by_cases hi : i < 4
    · rw [decide_eq_true hi, Bool.true_and, decide_eq_false (by omega)]
    · rw [decide_eq_false hi, Bool.false_and]
