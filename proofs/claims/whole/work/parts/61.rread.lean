/-! THE REFERENCE: reading -/
theorem flt_len {ch : Nat → Nat} {n rows : Nat} : ∀ f k p q, flt ch n rows f k p = .inr q → ∃ d, q = k + d ∧ n = p + (rows + 1) * d := by
  intro f
  induction f with
  | zero =>
    intro k p q h
    rw [flt] at h
    by_cases e : p = n
    · rw [if_pos e] at h; cases h; exact ⟨0, rfl, by rw [Nat.mul_zero]; omega⟩
    · rw [if_neg e] at h; cases h
  | succ f ih =>
    intro k p q h
    rw [flt] at h
    by_cases hc : p < n ∧ ch p = 44
    · rw [if_pos hc] at h
      by_cases hl : rsN ch n rows (p + 1) < rows
      · rw [if_pos hl] at h; cases h
      · rw [if_neg hl] at h
        obtain ⟨d, h1, h2⟩ := ih _ _ _ h
        exact ⟨d + 1, by omega, by rw [Nat.mul_succ]; omega⟩
    · rw [if_neg hc] at h
      by_cases e : p = n
      · rw [if_pos e] at h; cases h; exact ⟨0, rfl, by rw [Nat.mul_zero]; omega⟩
      · rw [if_neg e] at h; cases h
theorem ft_len {ch : Nat → Nat} {n q : Nat} (h : ftA ch n = .inr q) {c r : Nat} (hc : c < q) (hr : r < rsN ch n 3 0) : (rsN ch n 3 0 + 1) * c + r < n := by
  unfold ftA at h
  by_cases e : rsN ch n 3 0 = 0
  · rw [if_pos e] at h; cases h
  · rw [if_neg e] at h
    obtain ⟨d, h1, h2⟩ := flt_len _ _ _ _ h
    have := Nat.mul_le_mul_left (rsN ch n 3 0 + 1) (show c ≤ d by omega)
    omega
theorem MW.ob {σ : Sto} {w : Cs} (hW : MW σ w) {pl sp rc rr : Int32} : MW (va_up σ 114 (moO w.H.length w.Sn.isSome.toNat pl w.n sp rc rr)) w := by
  obtain ⟨-, ⟨hA, g, h1, hR⟩, hAR, hl, ⟨gh, h117, hH⟩, hSn, hn, gt, t131, tch⟩ := hW
  refine ⟨⟨pl, sp, rc, rr, up_at _ _ _⟩, ⟨hA, g, (up_ne _ _ (by omega)).trans h1, hR⟩, hAR.upO, hl, ⟨gh, (up_ne _ _ (by omega)).trans h117, hH⟩, fun C hC => ?_, hn, gt, (up_ne _ _ (by omega)).trans t131, tch⟩
  obtain ⟨a, q, b, c⟩ := hSn C hC
  exact ⟨a, q, (up_ne _ _ (by omega)).trans b, c⟩
def rdV (G : Nat → Int32) (ch : Nat → Nat) (rows c : Nat) : Nat → Int32 := fun k => if 6 ≤ k ∧ k < 6 + c then nI (rbN ch rows (k - 6) rows) else G k
theorem rdV_s (G : Nat → Int32) (ch : Nat → Nat) (rows c : Nat) : upd (rdV G ch rows c) (6 + c) (nI (rbN ch rows c rows)) = rdV G ch rows (c + 1) := by
  funext k
  unfold upd rdV
  by_cases e : k = 6 + c
  · subst e; rw [if_pos rfl, if_pos (by omega), Nat.add_sub_cancel_left]
  · rw [if_neg e]
    by_cases h : 6 ≤ k ∧ k < 6 + c
    · rw [if_pos h, if_pos (by omega)]
    · rw [if_neg h, if_neg (by omega)]
theorem RA_rd {g : Nat → Int32} {A : St} {ch : Nat → Nat} {n q rw1 : Nat} (hA : A.ok) (hR : RA g A) (hf : ftA ch n = .inr q) : RA (rdV (ly2 g q (rsN ch n 3 0) 30) ch (rsN ch n 3 0) q) (rdS A (q, rw1, rsN ch n 3 0, flU ch n (rsN ch n 3 0) 9 1 (rsN ch n 3 0) (rsU ch n 0 3 0 0 0))) := by
  have hle := (rsN_le ch n 3 0).1
  have hq := rd_bit hf
  obtain ⟨h0, h1, h2, h3, h4, h5, h6, h7⟩ := RA_ly (A := A) (q := A.g) hR hq.2.1 hle hR.2.2.1
  have e : ∀ k, (k < 6 ∨ 16 ≤ k) → rdV (ly2 g q (rsN ch n 3 0) 30) ch (rsN ch n 3 0) q k = ly2 g q (rsN ch n 3 0) 30 k := fun k hk => if_neg (by omega)
  refine ⟨(e 0 (by omega)).trans h0, (e 1 (by omega)).trans h1, (e 2 (by omega)).trans h2, (e 3 (by omega)).trans h3, (e 4 (by omega)).trans h4, (e 5 (by omega)).trans h5, fun c hc => ?_, fun c r hc hr => (e _ (by omega)).trans (h7 c r hc hr)⟩
  show rdV _ _ _ _ (6 + c) = nI (_ / 16 ^ c % 16)
  rw [show ∀ x, Ps.u (q, rw1, rsN ch n 3 0, x) = x from fun _ => rfl, rd_sp hf]
  unfold rdV
  by_cases hcq : c < q
  · rw [if_pos (by omega), if_pos hcq, Nat.add_sub_cancel_left]
  · rw [if_neg (by omega), if_neg hcq, h6 c hc]
    show nI (if c < q then _ else 0) = _
    rw [if_neg hcq]
