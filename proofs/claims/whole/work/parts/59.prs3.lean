/-! THE SPINS THAT ARE READ -/
theorem flU_bit {ch : Nat → Nat} {n rows : Nat} (hr : rows ≤ 3) : ∀ f k p u q, flt ch n rows f k p = .inr q → k ≤ q ∧ q ≤ k + f ∧ ∀ x, (flU ch n rows f k p u).testBit x = (u.testBit x || decide (k ≤ x / 4 ∧ x / 4 < q ∧ x % 4 < rows ∧ ch (p + 1 + (rows + 1) * (x / 4 - k) + x % 4) = 43)) := by
  intro f
  induction f with
  | zero =>
    intro k p u q h
    rw [flt] at h
    by_cases e : p = n
    · rw [if_pos e] at h
      cases h
      exact ⟨Nat.le_refl _, Nat.le_refl _, fun x => by rw [flU, decide_eq_false (by omega), Bool.or_false]⟩
    · rw [if_neg e] at h; cases h
  | succ f ih =>
    intro k p u q h
    rw [flt] at h
    by_cases hc : p < n ∧ ch p = 44
    · rw [if_pos hc] at h
      by_cases hl : rsN ch n rows (p + 1) < rows
      · rw [if_pos hl] at h; cases h
      · rw [if_neg hl] at h
        obtain ⟨h1, h2, h3⟩ := ih (k + 1) (p + 1 + rows) (rsU ch n k rows (p + 1) 0 u) q h
        refine ⟨by omega, by omega, fun x => ?_⟩
        have hE : rsN ch n rows (p + 1) = rows := by have := (rsN_le ch n rows (p + 1)).1; omega
        rw [flU, if_pos hc, h3 x, rsU_bit, hE, Bool.or_assoc]
        congr 1
        rw [← Bool.decide_or]
        apply decide_eq_decide.mpr
        have hx := Nat.div_add_mod x 4
        by_cases e : x / 4 = k
        · have a1 : p + 1 + (rows + 1) * (x / 4 - k) + x % 4 = p + 1 + x % 4 := by rw [show x / 4 - k = 0 by omega]; simp
          have a2 : p + 1 + (x - (4 * k + 0)) = p + 1 + x % 4 := by omega
          rw [a1, a2]
          constructor
          · rintro (⟨q1, q2, q3⟩ | ⟨q1, -⟩)
            · exact ⟨by omega, by omega, by omega, q3⟩
            · omega
          · rintro ⟨q1, q2, q3, q4⟩
            exact Or.inl ⟨by omega, by omega, q4⟩
        · constructor
          · rintro (⟨q1, q2, q3⟩ | ⟨q1, q2, q3, q4⟩)
            · omega
            · obtain ⟨m, hm⟩ : ∃ m, x / 4 = k + 1 + m := ⟨x / 4 - (k + 1), by omega⟩
              rw [show x / 4 - (k + 1) = m by omega] at q4
              refine ⟨by omega, q2, q3, ?_⟩
              rw [show x / 4 - k = m + 1 by omega, Nat.mul_succ]
              rw [show p + 1 + ((rows + 1) * m + (rows + 1)) + x % 4 = p + 1 + rows + 1 + (rows + 1) * m + x % 4 by omega]
              exact q4
          · rintro ⟨q1, q2, q3, q4⟩
            obtain ⟨m, hm⟩ : ∃ m, x / 4 = k + 1 + m := ⟨x / 4 - (k + 1), by omega⟩
            rw [show x / 4 - k = m + 1 by omega, Nat.mul_succ] at q4
            refine Or.inr ⟨by omega, q2, q3, ?_⟩
            rw [show x / 4 - (k + 1) = m by omega]
            rw [show p + 1 + ((rows + 1) * m + (rows + 1)) + x % 4 = p + 1 + rows + 1 + (rows + 1) * m + x % 4 by omega] at q4
            exact q4
    · rw [if_neg hc] at h
      by_cases e : p = n
      · rw [if_pos e] at h
        cases h
        exact ⟨Nat.le_refl _, by omega, fun x => by rw [flU, if_neg hc, decide_eq_false (by omega), Bool.or_false]⟩
      · rw [if_neg e] at h; cases h
theorem rd_bit {ch : Nat → Nat} {n q : Nat} (h : ftA ch n = .inr q) : 1 ≤ q ∧ q ≤ 10 ∧ ∀ x, (flU ch n (rsN ch n 3 0) 9 1 (rsN ch n 3 0) (rsU ch n 0 3 0 0 0)).testBit x = decide (x / 4 < q ∧ x % 4 < rsN ch n 3 0 ∧ ch ((rsN ch n 3 0 + 1) * (x / 4) + x % 4) = 43) := by
  have hle := (rsN_le ch n 3 0).1
  have h0 := h
  unfold ftA at h0
  by_cases e : rsN ch n 3 0 = 0
  · rw [if_pos e] at h0; cases h0
  · rw [if_neg e] at h0
    obtain ⟨h1, h2, h3⟩ := flU_bit hle 9 1 (rsN ch n 3 0) (rsU ch n 0 3 0 0 0) q h0
    refine ⟨h1, h2, fun x => ?_⟩
    rw [h3 x, rsU_bit, Nat.zero_testBit, Bool.false_or, ← Bool.decide_or]
    apply decide_eq_decide.mpr
    have hx := Nat.div_add_mod x 4
    by_cases e4 : x / 4 = 0
    · have a1 : (rsN ch n 3 0 + 1) * (x / 4) + x % 4 = x % 4 := by rw [e4]; simp
      have a2 : 0 + (x - (4 * 0 + 0)) = x % 4 := by omega
      rw [a1, a2]
      constructor
      · rintro (⟨q1, q2, q3⟩ | ⟨q1, -⟩)
        · exact ⟨by omega, by omega, q3⟩
        · omega
      · rintro ⟨q1, q2, q3⟩
        exact Or.inl ⟨by omega, by omega, q3⟩
    · obtain ⟨m, hm⟩ : ∃ m, x / 4 = m + 1 := ⟨x / 4 - 1, by omega⟩
      rw [hm, Nat.add_sub_cancel, Nat.mul_succ, show (rsN ch n 3 0 + 1) * m + (rsN ch n 3 0 + 1) + x % 4 = rsN ch n 3 0 + 1 + (rsN ch n 3 0 + 1) * m + x % 4 by omega]
      constructor
      · rintro (⟨q1, q2, q3⟩ | ⟨q1, q2, q3, q4⟩)
        · omega
        · exact ⟨q2, q3, q4⟩
      · rintro ⟨q2, q3, q4⟩
        exact Or.inr ⟨by omega, q2, q3, q4⟩
