/-! READING: a column's spins -/
theorem nI_or (a b : Nat) : nI a ||| nI b = nI (a ||| b) := by
  apply Int32.toBitVec_inj.mp
  show BitVec.ofNat 32 a ||| BitVec.ofNat 32 b = BitVec.ofNat 32 (a ||| b)
  apply BitVec.eq_of_getLsbD_eq
  intro i hi
  simp [BitVec.getLsbD_ofNat, Nat.testBit_or, hi]
def rbN (ch : Nat → Nat) (rows c : Nat) : Nat → Nat
  | 0 => 0
  | r + 1 => rbN ch rows c r ||| (if ch ((rows + 1) * c + r) = 43 then 2 ^ r else 0)
theorem rb_bit {ch : Nat → Nat} {rows c : Nat} : ∀ r i, (rbN ch rows c r).testBit i = decide (i < r ∧ ch ((rows + 1) * c + i) = 43)
  | 0, i => by rw [rbN, Nat.zero_testBit, decide_eq_false (by omega)]
  | r + 1, i => by
    rw [rbN, Nat.testBit_or, rb_bit r i]
    have e : (if ch ((rows + 1) * c + r) = 43 then 2 ^ r else 0).testBit i = decide (i = r ∧ ch ((rows + 1) * c + i) = 43) := by
      by_cases h : ch ((rows + 1) * c + r) = 43
      · rw [if_pos h, Nat.testBit_two_pow]
        apply decide_eq_decide.mpr
        constructor
        · intro q; subst q; exact ⟨rfl, h⟩
        · intro q; exact q.1.symm
      · rw [if_neg h, Nat.zero_testBit, decide_eq_false]
        rintro ⟨q1, q2⟩
        subst q1
        exact h q2
    rw [e, ← Bool.decide_or]
    apply decide_eq_decide.mpr
    constructor
    · rintro (⟨q1, q2⟩ | ⟨q1, q2⟩)
      · exact ⟨by omega, q2⟩
      · exact ⟨by omega, q2⟩
    · rintro ⟨q1, q2⟩
      by_cases h : i = r
      · exact Or.inr ⟨h, q2⟩
      · exact Or.inl ⟨by omega, q2⟩
theorem rd_sp {ch : Nat → Nat} {n q : Nat} (h : ftA ch n = .inr q) (c : Nat) : flU ch n (rsN ch n 3 0) 9 1 (rsN ch n 3 0) (rsU ch n 0 3 0 0 0) / 16 ^ c % 16 = if c < q then rbN ch (rsN ch n 3 0) c (rsN ch n 3 0) else 0 := by
  have hle := (rsN_le ch n 3 0).1
  refine Nat.eq_of_testBit_eq fun i => ?_
  rw [dig_bit, (rd_bit h).2.2]
  by_cases hi : i < 4
  · rw [decide_eq_true hi, Bool.true_and, show (4 * c + i) / 4 = c by omega, show (4 * c + i) % 4 = i by omega]
    by_cases hc : c < q
    · rw [if_pos hc, rb_bit]
      exact decide_eq_decide.mpr ⟨fun x => x.2, fun x => ⟨hc, x⟩⟩
    · rw [if_neg hc, Nat.zero_testBit, decide_eq_false (fun x => hc x.1)]
  · rw [decide_eq_false hi, Bool.false_and]
    split
    · rw [rb_bit, decide_eq_false (by omega)]
    · rw [Nat.zero_testBit]
