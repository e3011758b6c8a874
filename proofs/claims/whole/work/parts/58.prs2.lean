/-! ONE FAULT, together; the bits that are read -/
theorem ft_prs {ch : Nat → Nat} {n : Nat} : (∀ q, ftA ch n = .inl q → prs ch n 0 (1, 0, 0, 0) = .inl q) ∧ ∀ q, ftA ch n = .inr q → 1 ≤ rsN ch n 3 0 ∧ ∃ rw1, prs ch n 0 (1, 0, 0, 0) = .inr (q, rw1, rsN ch n 3 0, flU ch n (rsN ch n 3 0) 9 1 (rsN ch n 3 0) (rsU ch n 0 3 0 0 0)) := by
  have h := prs_sg (ch := ch) (n := n) (k := 1) (rw0 := 0) 3 0 0 0 (Nat.zero_le _) rfl
  rw [Nat.zero_add, Nat.sub_zero] at h
  have hle := rsN_le ch n 3 0
  have hp : rsN ch n 3 0 ≤ n := by have := hle.2 (Nat.zero_le _); omega
  rw [h]
  unfold ftA
  by_cases e : rsN ch n 3 0 = 0
  · rw [if_pos e]
    have hst := rsN_stop (ch := ch) (n := n) 3 0 (by omega)
    rw [e] at hst
    have hno := prs_no (ch := ch) (n := n) (i := 0) (s := (1, 0, 0, rsU ch n (1 - 1) 3 0 0 0)) (Nat.zero_le _) rfl (Or.inl hst)
    refine ⟨fun q hq => ?_, fun q hq => (by cases hq)⟩
    cases hq
    rw [e]
    exact hno
  · rw [if_neg e]
    have hw : Ps.whole (1, 0, rsN ch n 3 0, rsU ch n (1 - 1) 3 0 0 0) = true := decide_eq_true (show 0 < rsN ch n 3 0 by omega)
    have hs : ¬ (rsN ch n 3 0 < n ∧ isS (ch (rsN ch n 3 0)) = true) ∨ Ps.most (1, 0, rsN ch n 3 0, rsU ch n (1 - 1) 3 0 0 0) ≤ rsN ch n 3 0 := by
      by_cases h3 : rsN ch n 3 0 < 3
      · left
        have := rsN_stop (ch := ch) (n := n) 3 0 h3
        rw [Nat.zero_add] at this
        exact this
      · right
        show 3 ≤ _
        omega
    have hf := prs_flt (ch := ch) (n := n) (rows := rsN ch n 3 0) (by omega) 9 1 (rsN ch n 3 0) 0 (rsU ch n (1 - 1) 3 0 0 0) (Nat.le_refl _) (by decide) hp hw hs
    exact ⟨hf.1, fun q hq => ⟨by omega, hf.2 q hq⟩⟩
theorem rsU_bit {ch : Nat → Nat} {n b : Nat} : ∀ d i r u x, (rsU ch n b d i r u).testBit x = (u.testBit x || decide (4 * b + r ≤ x ∧ x < 4 * b + r + rsN ch n d i ∧ ch (i + (x - (4 * b + r))) = 43))
  | 0, i, r, u, x => by
    rw [rsU, rsN, decide_eq_false (by omega), Bool.or_false]
  | d + 1, i, r, u, x => by
    rw [rsU, rsN]
    by_cases h : i < n ∧ isS (ch i) = true
    · rw [if_pos h, if_pos h, rsU_bit d]
      have e1 : (if ch i = 43 then u ||| 2 ^ (4 * b + r) else u).testBit x = (u.testBit x || decide (x = 4 * b + r ∧ ch i = 43)) := by
        by_cases hc : ch i = 43
        · rw [if_pos hc, Nat.testBit_or, Nat.testBit_two_pow]
          congr 1
          exact decide_eq_decide.mpr ⟨fun q => ⟨q.symm, hc⟩, fun q => q.1.symm⟩
        · rw [if_neg hc, decide_eq_false (fun q => hc q.2), Bool.or_false]
      rw [e1, Bool.or_assoc]
      congr 1
      rw [← Bool.decide_or]
      apply decide_eq_decide.mpr
      constructor
      · rintro (⟨q1, q2⟩ | ⟨q1, q2, q3⟩)
        · subst q1
          exact ⟨Nat.le_refl _, by omega, by rw [Nat.sub_self, Nat.add_zero]; exact q2⟩
        · refine ⟨by omega, by omega, ?_⟩
          rw [show i + (x - (4 * b + r)) = i + 1 + (x - (4 * b + (r + 1))) by omega]
          exact q3
      · rintro ⟨q1, q2, q3⟩
        by_cases hx : x = 4 * b + r
        · subst hx
          rw [Nat.sub_self, Nat.add_zero] at q3
          exact Or.inl ⟨rfl, q3⟩
        · right
          refine ⟨by omega, by omega, ?_⟩
          rw [show i + 1 + (x - (4 * b + (r + 1))) = i + (x - (4 * b + r)) by omega]
          exact q3
    · rw [if_neg h, if_neg h, decide_eq_false (by omega), Bool.or_false]
