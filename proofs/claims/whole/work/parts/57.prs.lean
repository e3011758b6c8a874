/-! ONE FAULT: the text read sign by sign -/
def rsU (ch : Nat → Nat) (n b : Nat) : Nat → Nat → Nat → Nat → Nat
  | 0, _, _, u => u
  | d + 1, i, r, u => if i < n ∧ isS (ch i) = true then rsU ch n b d (i + 1) (r + 1) (if ch i = 43 then u ||| 2 ^ (4 * b + r) else u) else u
theorem prs_end {ch : Nat → Nat} {n i : Nat} {s : Ps} (h : i = n) : prs ch (n - i) i s = if s.whole then .inr s else .inl i := by
  subst h; rw [Nat.sub_self, prs]
theorem prs_step {ch : Nat → Nat} {n i : Nat} {s : Ps} (h : i < n) : prs ch (n - i) i s = match s.step (ch i) with
    | none => .inl i
    | some s' => prs ch (n - (i + 1)) (i + 1) s' := by
  rw [show n - i = (n - (i + 1)) + 1 by omega, prs]
  cases s.step (ch i) <;> rfl
theorem prs_sg {ch : Nat → Nat} {n k rw0 : Nat} : ∀ d i r u, i ≤ n → Ps.most (k, rw0, r, u) = r + d → prs ch (n - i) i (k, rw0, r, u) = prs ch (n - (i + rsN ch n d i)) (i + rsN ch n d i) (k, rw0, r + rsN ch n d i, rsU ch n (k - 1) d i r u)
  | 0, i, r, u, _, _ => rfl
  | d + 1, i, r, u, hi, hm => by
    rw [rsN, rsU]
    by_cases h : i < n ∧ isS (ch i) = true
    · rw [if_pos h, if_pos h, prs_step h.1]
      have hc := of_decide_eq_true h.2
      have hs : Ps.step (k, rw0, r, u) (ch i) = some (k, rw0, r + 1, if ch i = 43 then u ||| 2 ^ (4 * (k - 1) + r) else u) := by
        rw [ps_br, if_neg (fun q => by omega), if_pos ⟨hc, by show r < Ps.most (k, rw0, r, u); omega⟩]; rfl
      rw [hs]
      have ih := prs_sg (ch := ch) (n := n) (k := k) (rw0 := rw0) d (i + 1) (r + 1) (if ch i = 43 then u ||| 2 ^ (4 * (k - 1) + r) else u) (by omega) (by
        have e : Ps.most (k, rw0, r + 1, if ch i = 43 then u ||| 2 ^ (4 * (k - 1) + r) else u) = Ps.most (k, rw0, r, u) := rfl
        rw [e, hm]; omega)
      rw [show i + (rsN ch n d (i + 1) + 1) = i + 1 + rsN ch n d (i + 1) by omega, show r + (rsN ch n d (i + 1) + 1) = r + 1 + rsN ch n d (i + 1) by omega]
      exact ih
    · rw [if_neg h, if_neg h]; rfl
/-- behind the signs: no sign follows that may be taken -/
theorem rsN_stop {ch : Nat → Nat} {n : Nat} : ∀ m p, rsN ch n m p < m → ¬ (p + rsN ch n m p < n ∧ isS (ch (p + rsN ch n m p)) = true)
  | 0, p, h => by omega
  | m + 1, p, h => by
    rw [rsN] at h ⊢
    by_cases e : p < n ∧ isS (ch p) = true
    · rw [if_pos e] at h ⊢
      have := rsN_stop (ch := ch) (n := n) m (p + 1) (by omega)
      rw [show p + (rsN ch n m (p + 1) + 1) = p + 1 + rsN ch n m (p + 1) by omega]
      exact this
    · rw [if_neg e]; exact e
theorem prs_no {ch : Nat → Nat} {n i : Nat} {s : Ps} (hi : i ≤ n) (hw : s.whole = false) (hs : ¬ (i < n ∧ isS (ch i) = true) ∨ s.most ≤ s.r) : prs ch (n - i) i s = .inl i := by
  by_cases h : i = n
  · rw [prs_end h, hw]; rfl
  · have hn : i < n := by omega
    rw [prs_step hn]
    have e : s.step (ch i) = none := by
      rw [ps_br, if_neg (fun q => by rw [hw] at q; exact absurd q.2.1 (by decide)), if_neg (fun q => ?_)]
      rcases hs with hs | hs
      · exact hs ⟨hn, decide_eq_true q.1⟩
      · have := q.2; omega
    rw [e]
def flU (ch : Nat → Nat) (n rows : Nat) : Nat → Nat → Nat → Nat → Nat
  | 0, _, _, u => u
  | f + 1, k, p, u => if p < n ∧ ch p = 44 then flU ch n rows f (k + 1) (p + 1 + rows) (rsU ch n k rows (p + 1) 0 u) else u
theorem mo2 {k a b c : Nat} (h : 1 ≤ k) : Ps.most (k + 1, a, b, c) = a := if_neg (show ¬ (k + 1 = 1) by omega)
theorem wh2 {k a b c : Nat} (h : 1 ≤ k) : Ps.whole (k + 1, a, b, c) = decide (b = a) := if_neg (show ¬ (k + 1 = 1) by omega)
theorem prs_flt {ch : Nat → Nat} {n rows : Nat} (hr : 1 ≤ rows) : ∀ f k p rw0 u, 1 ≤ k → k + f = 10 → p ≤ n → Ps.whole (k, rw0, rows, u) = true → (¬ (p < n ∧ isS (ch p) = true) ∨ Ps.most (k, rw0, rows, u) ≤ rows) → (∀ q, flt ch n rows f k p = .inl q → prs ch (n - p) p (k, rw0, rows, u) = .inl q) ∧ ∀ q, flt ch n rows f k p = .inr q → ∃ rw1, prs ch (n - p) p (k, rw0, rows, u) = .inr (q, rw1, rows, flU ch n rows f k p u) := by
  intro f
  have stop : ∀ k p rw0 u, p ≤ n → Ps.whole (k, rw0, rows, u) = true → (¬ (p < n ∧ isS (ch p) = true) ∨ Ps.most (k, rw0, rows, u) ≤ rows) → ¬ (p < n ∧ ch p = 44 ∧ k < 10) → prs ch (n - p) p (k, rw0, rows, u) = if p = n then .inr (k, rw0, rows, u) else .inl p := fun k p rw0 u hp hw hs hc => by
    by_cases h : p = n
    · rw [prs_end h, hw, if_pos h]; rfl
    · have hn : p < n := by omega
      rw [if_neg h, prs_step hn]
      have e : Ps.step (k, rw0, rows, u) (ch p) = none := by
        rw [ps_br, if_neg (fun q => hc ⟨hn, q.1, q.2.2⟩), if_neg (fun q => ?_)]
        rcases hs with hs | hs
        · exact hs ⟨hn, decide_eq_true q.1⟩
        · have q2 : rows < Ps.most (k, rw0, rows, u) := q.2
          omega
      rw [e]
  induction f with
  | zero =>
    intro k p rw0 u hk hkf hp hw hs
    rw [stop k p rw0 u hp hw hs (by omega), flt, flU]
    by_cases h : p = n
    · rw [if_pos h, if_pos h]
      exact ⟨fun q e => (by cases e), fun q e => by cases e; exact ⟨rw0, rfl⟩⟩
    · rw [if_neg h, if_neg h]
      exact ⟨fun q e => by cases e; rfl, fun q e => (by cases e)⟩
  | succ f ih =>
    intro k p rw0 u hk hkf hp hw hs
    rw [flt, flU]
    by_cases hc : p < n ∧ ch p = 44
    · rw [if_pos hc, if_pos hc, prs_step hc.1]
      have hst : Ps.step (k, rw0, rows, u) (ch p) = some (k + 1, rows, 0, u) := by
        rw [ps_br, if_pos ⟨hc.2, hw, by show k < 10; omega⟩]; rfl
      rw [hst]
      have hm : Ps.most (k + 1, rows, 0, u) = 0 + rows := by rw [mo2 (by omega), Nat.zero_add]
      have hsg := prs_sg (ch := ch) (n := n) (k := k + 1) (rw0 := rows) rows (p + 1) 0 u (by omega) hm
      show (∀ q, _ → prs ch (n - (p + 1)) (p + 1) (k + 1, rows, 0, u) = .inl q) ∧ ∀ q, _ → ∃ rw1, prs ch (n - (p + 1)) (p + 1) (k + 1, rows, 0, u) = .inr _
      rw [hsg, Nat.zero_add, Nat.add_sub_cancel]
      have hle := rsN_le ch n rows (p + 1)
      by_cases hl : rsN ch n rows (p + 1) < rows
      · rw [if_pos hl]
        have hno := prs_no (ch := ch) (n := n) (i := p + 1 + rsN ch n rows (p + 1)) (s := (k + 1, rows, rsN ch n rows (p + 1), rsU ch n k rows (p + 1) 0 u)) (hle.2 (by omega)) ((wh2 (by omega)).trans (decide_eq_false (show ¬ rsN ch n rows (p + 1) = rows by omega))) (Or.inl (rsN_stop rows (p + 1) hl))
        exact ⟨fun q e => by cases e; exact hno, fun q e => (by cases e)⟩
      · rw [if_neg hl]
        have hE : rsN ch n rows (p + 1) = rows := by omega
        rw [hE]
        exact ih (k + 1) (p + 1 + rows) rows _ (by omega) (by omega) (by have := hle.2 (by omega); omega) ((wh2 (by omega)).trans (decide_eq_true rfl)) (Or.inr (by rw [mo2 (by omega)]; exact Nat.le_refl _))
    · rw [if_neg hc, if_neg hc, stop k p rw0 u hp hw hs (fun q => hc ⟨q.1, q.2.1⟩)]
      by_cases h : p = n
      · rw [if_pos h, if_pos h]
        exact ⟨fun q e => (by cases e), fun q e => by cases e; exact ⟨rw0, rfl⟩⟩
      · rw [if_neg h, if_neg h]
        exact ⟨fun q e => by cases e; rfl, fun q e => (by cases e)⟩
