/-! PATCHES: closed, least, counted -/
theorem mul_or (a b n : Nat) : (a ||| b) * 2 ^ n = a * 2 ^ n ||| b * 2 ^ n := by
  rw [← Nat.shiftLeft_eq, ← Nat.shiftLeft_eq, ← Nat.shiftLeft_eq]
  exact Nat.shiftLeft_or_distrib
theorem bN_or (A : St) (a b : Nat) : A.bN (a ||| b) = A.bN a ||| A.bN b := by
  unfold St.bN St.bA St.bX bAr bXr
  have e1 := mul_or a b 4
  have e2 : (a ||| b) / 2 ^ 4 = a / 2 ^ 4 ||| b / 2 ^ 4 := Nat.or_div_two_pow
  have e3 := mul_or a b (4 * (A.C - 1))
  have e4 : (a ||| b) / 2 ^ (4 * (A.C - 1)) = a / 2 ^ (4 * (A.C - 1)) ||| b / 2 ^ (4 * (A.C - 1)) := Nat.or_div_two_pow
  have e5 := mul_or a b 1
  have e6 : (a ||| b) / 2 ^ 1 = a / 2 ^ 1 ||| b / 2 ^ 1 := Nat.or_div_two_pow
  have e7 : (a * 2 ^ (4 * (A.C - 1)) ||| b * 2 ^ (4 * (A.C - 1))) % 2 ^ 64 = a * 2 ^ (4 * (A.C - 1)) % 2 ^ 64 ||| b * 2 ^ (4 * (A.C - 1)) % 2 ^ 64 := Nat.or_mod_two_pow
  rw [show (16 : Nat) = 2 ^ 4 from rfl, e1, e2, e3, e4, e7]
  rw [show (a ||| b) * 2 = (a ||| b) * 2 ^ 1 from rfl, show (a ||| b) / 2 = (a ||| b) / 2 ^ 1 from rfl, e5, e6, show a * 2 ^ 1 = a * 2 from rfl, show b * 2 ^ 1 = b * 2 from rfl, show a / 2 ^ 1 = a / 2 from rfl, show b / 2 ^ 1 = b / 2 from rfl]
  refine Nat.eq_of_testBit_eq fun i => ?_
  cases A.lp
  · simp only [Nat.testBit_or, Nat.testBit_and, Bool.and_or_distrib_right, Bool.false_eq_true, if_false, Nat.zero_testBit, Bool.or_false, Bool.false_and]
    ac_rfl
  · simp only [Nat.testBit_or, Nat.testBit_and, Bool.and_or_distrib_right, if_true]
    ac_rfl
theorem bN_0 (A : St) : A.bN 0 = 0 := by
  unfold St.bN St.bA St.bX bAr bXr
  simp
theorem lin_bit {f : Nat → Nat} (h0 : f 0 = 0) (hf : ∀ a b, f (a ||| b) = f a ||| f b) {q : Nat} : ∀ n a, a < 2 ^ n → (f a).testBit q = true → ∃ p, a.testBit p = true ∧ (f (2 ^ p)).testBit q = true
  | 0, a, h, e => by
    have ea : a = 0 := by have : a < 1 := h; omega
    rw [ea, h0, Nat.zero_testBit] at e
    cases e
  | n + 1, a, h, e => by
    have hm : a % 2 ^ n < 2 ^ n := Nat.mod_lt _ (Nat.two_pow_pos n)
    have ea : a = (if a.testBit n = true then 2 ^ n else 0) ||| a % 2 ^ n := by
      refine Nat.eq_of_testBit_eq fun i => ?_
      rw [Nat.testBit_or, Nat.testBit_mod_two_pow]
      rcases Nat.lt_trichotomy i n with hi | hi | hi
      · rw [decide_eq_true hi, Bool.true_and]
        have ez : (if a.testBit n = true then 2 ^ n else 0).testBit i = false := by
          by_cases hb : a.testBit n = true
          · rw [if_pos hb, Nat.testBit_two_pow, decide_eq_false (by omega)]
          · rw [if_neg hb, Nat.zero_testBit]
        rw [ez, Bool.false_or]
      · subst hi
        rw [decide_eq_false (Nat.lt_irrefl _), Bool.false_and, Bool.or_false]
        by_cases hb : a.testBit i = true
        · rw [if_pos hb, Nat.testBit_two_pow_self, hb]
        · rw [if_neg hb, Nat.zero_testBit]; exact Bool.not_eq_true _ ▸ hb
      · rw [decide_eq_false (by omega), Bool.false_and, Bool.or_false, Nat.testBit_lt_two_pow (Nat.lt_of_lt_of_le h (Nat.pow_le_pow_right (by decide) hi))]
        by_cases hb : a.testBit n = true
        · rw [if_pos hb, Nat.testBit_two_pow, decide_eq_false (by omega)]
        · rw [if_neg hb, Nat.zero_testBit]
    rw [ea, hf, Nat.testBit_or, Bool.or_eq_true_iff] at e
    rcases e with e | e
    · by_cases hb : a.testBit n = true
      · rw [if_pos hb] at e
        exact ⟨n, hb, e⟩
      · rw [if_neg hb, h0, Nat.zero_testBit] at e
        cases e
    · obtain ⟨p, h1, h2⟩ := lin_bit h0 hf n _ hm e
      rw [Nat.testBit_mod_two_pow, Bool.and_eq_true_iff] at h1
      exact ⟨p, h1.2, h2⟩
theorem mon_bit {f : Nat → Nat} (hf : ∀ a b, f (a ||| b) = f a ||| f b) {a p q : Nat} (ha : a.testBit p = true) (h : (f (2 ^ p)).testBit q = true) : (f a).testBit q = true := by
  have e : a ||| 2 ^ p = a := by
    refine Nat.eq_of_testBit_eq fun i => ?_
    rw [Nat.testBit_or, Nat.testBit_two_pow]
    by_cases hi : p = i
    · subst hi; rw [ha, Bool.true_or]
    · rw [decide_eq_false hi, Bool.or_false]
  rw [← e, hf, Nat.testBit_or, h, Bool.or_true]
/-- the cells beside a cell -/
def St.nbP (A : St) (c r d q : Nat) : Prop := (d = c ∧ (upr r = some q ∨ dnr A.R r = some q)) ∨ (q = r ∧ (A.prv c = some d ∨ A.nxt c = some d))
theorem oN_bit (o : Option Nat) (r p : Nat) : (oN o r).testBit p = true ↔ ∃ d, o = some d ∧ p = 4 * d + r := by
  cases o with
  | none => rw [show oN none r = 0 from rfl, Nat.zero_testBit]; exact ⟨fun h => by (cases h), fun ⟨d, h, _⟩ => by (cases h)⟩
  | some d => rw [show oN (some d) r = 2 ^ (4 * d + r) from rfl, Nat.testBit_two_pow, decide_eq_true_iff]; exact ⟨fun h => ⟨d, rfl, h.symm⟩, fun ⟨d', h, h2⟩ => by cases h; exact h2.symm⟩
theorem vN_bit (c : Nat) (o : Option Nat) (p : Nat) : (vN c o).testBit p = true ↔ ∃ q, o = some q ∧ p = 4 * c + q := by
  cases o with
  | none => rw [show vN c none = 0 from rfl, Nat.zero_testBit]; exact ⟨fun h => by (cases h), fun ⟨d, h, _⟩ => by (cases h)⟩
  | some d => rw [show vN c (some d) = 2 ^ (4 * c + d) from rfl, Nat.testBit_two_pow, decide_eq_true_iff]; exact ⟨fun h => ⟨d, rfl, h.symm⟩, fun ⟨d', h, h2⟩ => by cases h; exact h2.symm⟩
theorem nb_bit {A : St} (hA : A.ok) {c r : Nat} (hc : c < A.C) (hr : r < A.R) (p : Nat) : (A.bN (2 ^ (4 * c + r))).testBit p = true ↔ ∃ d q, A.nbP c r d q ∧ p = 4 * d + q := by
  have h := St.one hA hc hr
  rw [show A.bN (2 ^ (4 * c + r)) = A.bA (2 ^ (4 * c + r)) ||| A.bX (2 ^ (4 * c + r)) from rfl, h.1.1, h.2.1.1]
  rw [Nat.testBit_or, Nat.testBit_or, Nat.testBit_or, Bool.or_eq_true_iff, Bool.or_eq_true_iff, Bool.or_eq_true_iff, oN_bit, oN_bit, vN_bit, vN_bit]
  constructor
  · rintro ((⟨d, h1, h2⟩ | ⟨d, h1, h2⟩) | (⟨d, h1, h2⟩ | ⟨d, h1, h2⟩))
    · exact ⟨d, r, Or.inr ⟨rfl, Or.inl h1⟩, h2⟩
    · exact ⟨d, r, Or.inr ⟨rfl, Or.inr h1⟩, h2⟩
    · exact ⟨c, d, Or.inl ⟨rfl, Or.inl h1⟩, h2⟩
    · exact ⟨c, d, Or.inl ⟨rfl, Or.inr h1⟩, h2⟩
  · rintro ⟨d, q, (⟨rfl, h1 | h1⟩ | ⟨rfl, h1 | h1⟩), h2⟩
    · exact Or.inr (Or.inl ⟨q, h1, h2⟩)
    · exact Or.inr (Or.inr ⟨q, h1, h2⟩)
    · exact Or.inl (Or.inl ⟨d, h1, h2⟩)
    · exact Or.inl (Or.inr ⟨d, h1, h2⟩)
theorem prv_nxt {A : St} (hA : A.ok) {c d : Nat} (hc : c < A.C) (h : A.prv c = some d) : A.nxt d = some c := by
  unfold St.prv at h
  by_cases h0 : 0 < c
  · rw [if_pos h0] at h
    cases h
    unfold St.nxt
    rw [if_pos (by omega), show c - 1 + 1 = c by omega]
  · rw [if_neg h0] at h
    by_cases hl : A.lp = true
    · rw [if_pos hl] at h
      cases h
      unfold St.nxt
      rw [if_neg (by omega), if_pos hl, show c = 0 by omega]
    · rw [if_neg hl] at h; cases h
theorem nxt_prv {A : St} (hA : A.ok) {c d : Nat} (hc : c < A.C) (h : A.nxt c = some d) : A.prv d = some c := by
  unfold St.nxt at h
  by_cases h0 : c + 1 < A.C
  · rw [if_pos h0] at h
    cases h
    unfold St.prv
    rw [if_pos (by omega), Nat.add_sub_cancel]
  · rw [if_neg h0] at h
    by_cases hl : A.lp = true
    · rw [if_pos hl] at h
      cases h
      unfold St.prv
      rw [if_neg (by omega), if_pos hl, show A.C - 1 = c by omega]
    · rw [if_neg hl] at h; cases h
theorem upr_dnr {R r q : Nat} (hr : r < R) (h : upr r = some q) : dnr R q = some r := by
  unfold upr at h
  by_cases h0 : 0 < r
  · rw [if_pos h0] at h
    cases h
    unfold dnr
    rw [if_pos (by omega), show r - 1 + 1 = r by omega]
  · rw [if_neg h0] at h; cases h
theorem dnr_upr {R r q : Nat} (h : dnr R r = some q) : upr q = some r := by
  unfold dnr at h
  by_cases h0 : r + 1 < R
  · rw [if_pos h0] at h
    cases h
    unfold upr
    rw [if_pos (by omega), Nat.add_sub_cancel]
  · rw [if_neg h0] at h; cases h
theorem nbP_in {A : St} (hA : A.ok) {c r d q : Nat} (hc : c < A.C) (hr : r < A.R) (h : A.nbP c r d q) : d < A.C ∧ q < A.R := by
  rcases h with ⟨rfl, h | h⟩ | ⟨rfl, h | h⟩
  · exact ⟨hc, upr_lt h hr⟩
  · exact ⟨hc, dnr_lt h⟩
  · exact ⟨prv_lt hA hc h, hr⟩
  · exact ⟨nxt_lt hc h, hr⟩
theorem nbP_sym {A : St} (hA : A.ok) {c r d q : Nat} (hc : c < A.C) (hr : r < A.R) (h : A.nbP c r d q) : A.nbP d q c r := by
  rcases h with ⟨rfl, h | h⟩ | ⟨rfl, h | h⟩
  · exact Or.inl ⟨rfl, Or.inr (upr_dnr hr h)⟩
  · exact Or.inl ⟨rfl, Or.inl (dnr_upr h)⟩
  · exact Or.inr ⟨rfl, Or.inr (prv_nxt hA hc h)⟩
  · exact Or.inr ⟨rfl, Or.inl (nxt_prv hA hc h)⟩
/-- a set of cells that holds with each cell its like neighbours -/
def St.cld (A : St) (M : Nat) : Prop := ∀ c r d q, c < A.C → r < A.R → A.nbP c r d q → A.s c r = A.s d q → M.testBit (4 * c + r) = true → M.testBit (4 * d + q) = true
theorem cld_0 (A : St) : A.cld 0 := fun c r d q _ _ _ _ h => by rw [Nat.zero_testBit] at h; cases h
theorem cld_or {A : St} {M N : Nat} (h1 : A.cld M) (h2 : A.cld N) : A.cld (M ||| N) := fun c r d q hc hr hn hs h => by
  rw [Nat.testBit_or, Bool.or_eq_true_iff] at h ⊢
  rcases h with h | h
  · exact Or.inl (h1 c r d q hc hr hn hs h)
  · exact Or.inr (h2 c r d q hc hr hn hs h)
theorem sub_cr {A : St} (hA : A.ok) {P : Nat} (h : ∀ p, P.testBit p = true → (mskN A.C A.R).testBit p = true) {p : Nat} (hp : P.testBit p = true) : p / 4 < A.C ∧ p % 4 < A.R ∧ p = 4 * (p / 4) + p % 4 := by
  have h1 := h p hp
  rw [mskN_bit hA.2.1.2, Bool.and_eq_true_iff, decide_eq_true_iff, decide_eq_true_iff] at h1
  exact ⟨h1.1, h1.2, (Nat.div_add_mod p 4).symm⟩
theorem pIt_like {A : St} (hA : A.ok) {c r : Nat} (hc : c < A.C) (hr : r < A.R) : ∀ n d q, d < A.C → q < A.R → (A.pIt (4 * c + r) n).testBit (4 * d + q) = true → A.s c r = A.s d q
  | 0, d, q, hd, hq, h => by
    rw [show A.pIt (4 * c + r) 0 = 2 ^ (4 * c + r) from rfl, Nat.testBit_two_pow, decide_eq_true_iff] at h
    have hR := hA.2.1.2
    rw [show c = d by omega, show r = q by omega]
  | n + 1, d, q, hd, hq, h => by
    rw [St.pIt, Nat.testBit_or, Bool.or_eq_true_iff] at h
    rcases h with h | h
    · exact pIt_like hA hc hr n d q hd hq h
    · rw [Nat.testBit_and, Bool.and_eq_true_iff, St.lk_cr hA hd hr hq] at h
      exact eq_of_beq h.2
theorem pIt_step {A : St} (hA : A.ok) {c0 r0 : Nat} (hc0 : c0 < A.C) (hr0 : r0 < A.R) {n c r d q : Nat} (hc : c < A.C) (hr : r < A.R) (hn : A.nbP c r d q) (hs : A.s c r = A.s d q) (h : (A.pIt (4 * c0 + r0) n).testBit (4 * c + r) = true) : (A.pIt (4 * c0 + r0) (n + 1)).testBit (4 * d + q) = true := by
  obtain ⟨hd, hq⟩ := nbP_in hA hc hr hn
  rw [St.pIt, Nat.testBit_or, Nat.testBit_and, St.lk_cr hA hd hr0 hq, mon_bit (bN_or A) h ((nb_bit hA hc hr _).mpr ⟨d, q, hn, rfl⟩), (pIt_like hA hc0 hr0 n c r hc hr h).trans hs]
  simp
theorem pcN_sub {a b : Nat} (h : ∀ p, a.testBit p = true → b.testBit p = true) : ∀ n, pcN n a ≤ pcN n b
  | 0 => Nat.le_refl _
  | n + 1 => by
    have h1 := pcN_sub h n
    show pcN n a + (a.testBit n).toNat ≤ pcN n b + (b.testBit n).toNat
    cases e : a.testBit n with
    | false => show _ + 0 ≤ _; omega
    | true => rw [h n e]; omega
theorem pcN_lt {a b p : Nat} (h : ∀ p, a.testBit p = true → b.testBit p = true) (ha : a.testBit p = false) (hb : b.testBit p = true) : ∀ n, p < n → pcN n a < pcN n b
  | 0, hn => by omega
  | n + 1, hn => by
    have h0 := pcN_sub h n
    show pcN n a + (a.testBit n).toNat < pcN n b + (b.testBit n).toNat
    by_cases e : p = n
    · subst e; rw [ha, hb]; show pcN p a + 0 < pcN p b + 1; omega
    · have h1 := pcN_lt h ha hb n (by omega)
      cases e : a.testBit n with
      | false => show _ + 0 < _; omega
      | true => rw [h n e]; omega
theorem pcN_msk : ∀ C, C < 11 → ∀ R, R < 4 → pcN 64 (mskN C R) ≤ 30 := by decide +kernel
theorem pcN_30 {A : St} (hA : A.ok) {P : Nat} (h : ∀ p, P.testBit p = true → (mskN A.C A.R).testBit p = true) : pcN 64 P ≤ 30 := Nat.le_trans (pcN_sub h 64) (pcN_msk A.C (by have := hA.1.2; omega) A.R (by have := hA.2.1.2; omega))
theorem pIt_grow {A : St} (hA : A.ok) {c r : Nat} (hc : c < A.C) (hr : r < A.R) : ∀ n, (∃ m, m < n ∧ A.pIt (4 * c + r) (m + 1) = A.pIt (4 * c + r) m) ∨ n + 1 ≤ pcN 64 (A.pIt (4 * c + r) n)
  | 0 => by
    right
    have h1 := hA.1.2
    have h2 := hA.2.1.2
    rw [show A.pIt (4 * c + r) 0 = 2 ^ (4 * c + r) from rfl, pcN_pow (by omega)]
    exact Nat.le_refl _
  | n + 1 => by
    rcases pIt_grow hA hc hr n with ⟨m, h1, h2⟩ | h
    · exact Or.inl ⟨m, by omega, h2⟩
    · by_cases e : A.pIt (4 * c + r) (n + 1) = A.pIt (4 * c + r) n
      · exact Or.inl ⟨n, by omega, e⟩
      · right
        have hsub : ∀ p, (A.pIt (4 * c + r) n).testBit p = true → (A.pIt (4 * c + r) (n + 1)).testBit p = true := fun p hp => by
          rw [St.pIt, Nat.testBit_or, hp, Bool.true_or]
        have hex : ∃ p, (A.pIt (4 * c + r) n).testBit p = false ∧ (A.pIt (4 * c + r) (n + 1)).testBit p = true := by
          refine Classical.byContradiction fun hno => e (Nat.eq_of_testBit_eq fun p => ?_)
          cases e1 : (A.pIt (4 * c + r) n).testBit p with
          | true => exact hsub p e1
          | false =>
            cases e2 : (A.pIt (4 * c + r) (n + 1)).testBit p with
            | false => rfl
            | true => exact absurd ⟨p, e1, e2⟩ hno
        obtain ⟨p, e1, e2⟩ := hex
        have hin := sub_cr hA (pIt_sub hA hc hr (n + 1)) e2
        have h1 := hA.1.2
        have := pcN_lt hsub e1 e2 64 (by omega)
        omega
theorem pIt_end {A : St} (hA : A.ok) {c r : Nat} (hc : c < A.C) (hr : r < A.R) : A.pIt (4 * c + r) 31 = A.pIt (4 * c + r) 30 := by
  rcases pIt_grow hA hc hr 30 with ⟨m, h1, h2⟩ | h
  · have e1 := St.pIt_fix h2 (31 - m)
    have e2 := St.pIt_fix h2 (30 - m)
    rw [show m + (31 - m) = 31 by omega] at e1
    rw [show m + (30 - m) = 30 by omega] at e2
    rw [e1, e2]
  · have := pcN_30 hA (pIt_sub hA hc hr 30)
    omega
theorem pIt_cld {A : St} (hA : A.ok) {c0 r0 : Nat} (hc0 : c0 < A.C) (hr0 : r0 < A.R) : A.cld (A.pIt (4 * c0 + r0) 30) := fun c r d q hc hr hn hs h => by
  have h2 := pIt_step hA hc0 hr0 hc hr hn hs h
  rw [pIt_end hA hc0 hr0] at h2
  exact h2
theorem pIt_self {A : St} {k : Nat} : ∀ n, (A.pIt k n).testBit k = true
  | 0 => Nat.testBit_two_pow_self
  | n + 1 => by rw [St.pIt, Nat.testBit_or, pIt_self n, Bool.true_or]
theorem pIt_least {A : St} (hA : A.ok) {c0 r0 F : Nat} (hc0 : c0 < A.C) (hr0 : r0 < A.R) (hF : A.cld F) (h0 : F.testBit (4 * c0 + r0) = true) : ∀ n p, (A.pIt (4 * c0 + r0) n).testBit p = true → F.testBit p = true
  | 0, p, h => by
    rw [show A.pIt (4 * c0 + r0) 0 = 2 ^ (4 * c0 + r0) from rfl, Nat.testBit_two_pow, decide_eq_true_iff] at h
    rw [← h]; exact h0
  | n + 1, p, h => by
    have hgr := sub_cr hA (pIt_sub hA hc0 hr0 (n + 1)) h
    have hlike := pIt_like hA hc0 hr0 (n + 1) (p / 4) (p % 4) hgr.1 hgr.2.1 (by rw [← hgr.2.2]; exact h)
    rw [St.pIt, Nat.testBit_or, Bool.or_eq_true_iff] at h
    rcases h with h | h
    · exact pIt_least hA hc0 hr0 hF h0 n p h
    · rw [Nat.testBit_and, Bool.and_eq_true_iff] at h
      have h1 := hA.1.2
      have h2 := hA.2.1.2
      obtain ⟨p', e1, e2⟩ := lin_bit (bN_0 A) (bN_or A) 40 _ (A.pIt_lt hA (by omega) n) h.1
      have hg := sub_cr hA (pIt_sub hA hc0 hr0 n) e1
      rw [hg.2.2] at e1 e2
      obtain ⟨d, q, hn, e3⟩ := (nb_bit hA hg.1 hg.2.1 p).mp e2
      have hin := nbP_in hA hg.1 hg.2.1 hn
      have hl := pIt_like hA hc0 hr0 n _ _ hg.1 hg.2.1 e1
      have ed : p / 4 = d := by omega
      have eq : p % 4 = q := by omega
      rw [ed, eq] at hlike
      rw [e3]
      exact hF _ _ d q hg.1 hg.2.1 hn (hl.symm.trans hlike) (pIt_least hA hc0 hr0 hF h0 n _ e1)
