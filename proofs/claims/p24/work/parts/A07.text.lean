/-! TEXTS that are typed side by side -/
/-- how far a text is read after so many characters -/
def stpr (ch : Nat → Nat) : Nat → Option Ps
  | 0 => some (1, 0, 0, 0)
  | i + 1 => match stpr ch i with
    | none => none
    | some s => s.step (ch i)
theorem stpr_s {ch : Nat → Nat} {i : Nat} {s s' : Ps} (h : stpr ch i = some s) (h2 : s.step (ch i) = some s') : stpr ch (i + 1) = some s' := by
  rw [stpr, h]
  exact h2
theorem stpr_put (ch : Nat → Nat) (n x : Nat) : ∀ i, i ≤ n → stpr (chPut ch n x) i = stpr ch i
  | 0, _ => rfl
  | i + 1, h => by
    rw [stpr, stpr, stpr_put ch n x i (by omega)]
    unfold chPut
    rw [if_neg (show ¬ i = n by omega)]
theorem stpr_nx {f : Nat → Nat} {i x : Nat} {s s' : Ps} (h : stpr f i = some s) (hs : s.step x = some s') : stpr (chPut f i x) (i + 1) = some s' :=
  stpr_s (s := s) (by rw [stpr_put _ _ _ _ (Nat.le_refl _)]; exact h) (by rw [show chPut f i x i = x from if_pos rfl]; exact hs)
theorem stpr_prs {ch : Nat → Nat} {n : Nat} : ∀ (i : Nat) {s : Ps}, i ≤ n → stpr ch i = some s → prs ch n 0 (1, 0, 0, 0) = prs ch (n - i) i s
  | 0, s, _, h => by
    cases Option.some.inj h
    rfl
  | i + 1, s, hi, h => by
    rw [stpr] at h
    cases e : stpr ch i with
    | none => rw [e] at h; cases h
    | some s0 =>
      rw [e] at h
      have h : s0.step (ch i) = some s := h
      rw [stpr_prs i (by omega) e, prs_step (show i < n by omega), h]
def tyd (rows c r x : Nat) : Prop := (x / 4 < c ∧ x % 4 < rows) ∨ (x / 4 = c ∧ x % 4 < r)
def TI (rows c r : Nat) (ch dh : Nat → Nat) : Prop := ∃ u v : Nat, stpr ch ((rows + 1) * c + r) = some (c + 1, if c = 0 then 0 else rows, r, u) ∧ stpr dh ((rows + 1) * c + r) = some (c + 1, if c = 0 then 0 else rows, r, v) ∧ ∀ x, ((u.testBit x = true ∨ v.testBit x = true) ↔ tyd rows c r x) ∧ ¬ (u.testBit x = true ∧ v.testBit x = true)
theorem TI_0 (rows : Nat) (ch dh : Nat → Nat) : TI rows 0 0 ch dh := by
  refine ⟨0, 0, rfl, rfl, fun x => ⟨⟨fun h => ?_, fun h => ?_⟩, fun h => ?_⟩⟩
  · rw [Nat.zero_testBit] at h; rcases h with h | h <;> cases h
  · unfold tyd at h; omega
  · rw [Nat.zero_testBit] at h; cases h.1
theorem step_sg {rows c r u x : Nat} (hr : r < rows) (hR : rows ≤ 3) (hx : x = 43 ∨ x = 45) : Ps.step (c + 1, if c = 0 then 0 else rows, r, u) x = some (c + 1, if c = 0 then 0 else rows, r + 1, if x = 43 then u ||| 2 ^ (4 * c + r) else u) := by
  have hm : r < Ps.most (c + 1, if c = 0 then 0 else rows, r, u) := by
    unfold Ps.most
    show r < if c + 1 = 1 then 3 else (if c = 0 then 0 else rows)
    by_cases e : c = 0
    · rw [if_pos (by omega)]; omega
    · rw [if_neg (by omega), if_neg e]; exact hr
  unfold Ps.step
  exact (if_neg (fun q => by omega)).trans (if_pos ⟨hx, hm⟩)
theorem or_tb (u k x : Nat) : (u ||| 2 ^ k).testBit x = true ↔ (u.testBit x = true ∨ x = k) := by
  rw [Nat.testBit_or, Bool.or_eq_true, Nat.testBit_two_pow, decide_eq_true_eq]
  constructor
  · rintro (h | h)
    · exact Or.inl h
    · exact Or.inr h.symm
  · rintro (h | h)
    · exact Or.inl h
    · exact Or.inr h.symm
theorem tyd_s {rows c r x : Nat} (hr : r < 4) : tyd rows c (r + 1) x ↔ (tyd rows c r x ∨ x = 4 * c + r) := by
  unfold tyd
  omega
theorem tyd_n {rows c r : Nat} (hr : r < 4) : ¬ tyd rows c r (4 * c + r) := by
  unfold tyd
  omega
theorem TI_put {rows c r : Nat} {ch dh : Nat → Nat} (h : TI rows c r ch dh) (hr : r < rows) (hR : rows ≤ 3) (b : Bool) {n : Nat} (hn : n = (rows + 1) * c + r) : TI rows c (r + 1) (chPut ch n (if b then 45 else 43)) (chPut dh n (if b then 43 else 45)) := by
  subst hn
  obtain ⟨u, v, h1, h2, h3⟩ := h
  have c1 : ∀ (f : Nat → Nat) (x : Nat), chPut f ((rows + 1) * c + r) x ((rows + 1) * c + r) = x := fun f x => if_pos rfl
  have hn := tyd_n (rows := rows) (c := c) (show r < 4 by omega)
  cases b with
  | true =>
    show TI rows c (r + 1) (chPut ch ((rows + 1) * c + r) 45) (chPut dh ((rows + 1) * c + r) 43)
    refine ⟨u, v ||| 2 ^ (4 * c + r), stpr_nx (i := (rows + 1) * c + r) h1 (step_sg (x := 45) hr hR (Or.inr rfl)), stpr_nx (i := (rows + 1) * c + r) h2 (step_sg (x := 43) hr hR (Or.inl rfl)), fun x => ?_⟩
    rw [or_tb, tyd_s (show r < 4 by omega), ← (h3 x).1]
    refine ⟨⟨fun q => ?_, fun q => ?_⟩, fun q => ?_⟩
    · rcases q with q | q | q
      · exact Or.inl (Or.inl q)
      · exact Or.inl (Or.inr q)
      · exact Or.inr q
    · rcases q with (q | q) | q
      · exact Or.inl q
      · exact Or.inr (Or.inl q)
      · exact Or.inr (Or.inr q)
    · rcases q.2 with q2 | q2
      · exact (h3 x).2 ⟨q.1, q2⟩
      · subst q2; exact hn ((h3 _).1.mp (Or.inl q.1))
  | false =>
    show TI rows c (r + 1) (chPut ch ((rows + 1) * c + r) 43) (chPut dh ((rows + 1) * c + r) 45)
    refine ⟨u ||| 2 ^ (4 * c + r), v, stpr_nx (i := (rows + 1) * c + r) h1 (step_sg (x := 43) hr hR (Or.inl rfl)), stpr_nx (i := (rows + 1) * c + r) h2 (step_sg (x := 45) hr hR (Or.inr rfl)), fun x => ?_⟩
    rw [or_tb, tyd_s (show r < 4 by omega), ← (h3 x).1]
    refine ⟨⟨fun q => ?_, fun q => ?_⟩, fun q => ?_⟩
    · rcases q with (q | q) | q
      · exact Or.inl (Or.inl q)
      · exact Or.inr q
      · exact Or.inl (Or.inr q)
    · rcases q with (q | q) | q
      · exact Or.inl (Or.inl q)
      · exact Or.inr q
      · exact Or.inl (Or.inr q)
    · rcases q.1 with q1 | q1
      · exact (h3 x).2 ⟨q1, q.2⟩
      · subst q1; exact hn ((h3 _).1.mp (Or.inr q.2))
theorem whole_c {rows c u : Nat} (hr : 1 ≤ rows) : Ps.whole (c + 1, if c = 0 then 0 else rows, rows, u) = true := by
  unfold Ps.whole
  show (if c + 1 = 1 then decide (0 < rows) else decide (rows = if c = 0 then 0 else rows)) = true
  by_cases e : c = 0
  · rw [if_pos (by omega)]; exact decide_eq_true hr
  · rw [if_neg (by omega), if_neg e]; exact decide_eq_true rfl
theorem step_cm {rows c u : Nat} (hr : 1 ≤ rows) (hc : c + 1 < 10) : Ps.step (c + 1, if c = 0 then 0 else rows, rows, u) 44 = some (c + 1 + 1, if c + 1 = 0 then 0 else rows, 0, u) := by
  unfold Ps.step
  rw [if_pos ⟨rfl, whole_c hr, hc⟩, if_neg (show ¬ c + 1 = 0 by omega)]
  rfl
theorem step_10 {rows u : Nat} : Ps.step (9 + 1, if 9 = 0 then 0 else rows, rows, u) 44 = none := by
  unfold Ps.step
  rw [if_neg (fun q => absurd q.2.2 (by show ¬ (10 < 10); omega)), if_neg (fun q => by rcases q.1 with h | h <;> omega)]
theorem TI_comma {rows c : Nat} {ch dh : Nat → Nat} (h : TI rows c rows ch dh) (hr : 1 ≤ rows) (hc : c + 1 < 10) {n : Nat} (hn : n = (rows + 1) * c + rows) : TI rows (c + 1) 0 (chPut ch n 44) (chPut dh n 44) := by
  subst hn
  obtain ⟨u, v, h1, h2, h3⟩ := h
  have c1 : ∀ (f : Nat → Nat) (x : Nat), chPut f ((rows + 1) * c + rows) x ((rows + 1) * c + rows) = x := fun f x => if_pos rfl
  have e : (rows + 1) * (c + 1) + 0 = (rows + 1) * c + rows + 1 := by rw [Nat.mul_succ]; omega
  refine ⟨u, v, ?_, ?_, fun x => ?_⟩
  · rw [e]
    exact stpr_nx h1 (step_cm hr hc)
  · rw [e]
    exact stpr_nx h2 (step_cm hr hc)
  · rw [(h3 x).1]
    refine ⟨?_, (h3 x).2⟩
    unfold tyd
    omega
theorem two_bits : ∀ R, R < 4 → ∀ x, x < 16 → ∀ y, y < 16 → x ^^^ y = 2 ^ R - 1 → x &&& y = 0 → y + x = 2 ^ R - 1 := by decide +kernel
theorem TI_read {rows c : Nat} {ch dh : Nat → Nat} (h : TI rows c rows ch dh) (hr : 1 ≤ rows) (hR : rows ≤ 3) {n : Nat} (hn : n = (rows + 1) * c + rows) : ∃ s t : Ps, prs ch n 0 (1, 0, 0, 0) = .inr s ∧ prs dh n 0 (1, 0, 0, 0) = .inr t ∧ s.k = c + 1 ∧ s.r = rows ∧ t.k = c + 1 ∧ t.r = rows ∧ ∀ A B : St, B.g = A.g → B.al = A.al → B.ac = A.ac → Mir (rdS A s) (rdS B t) := by
  subst hn
  obtain ⟨u, v, h1, h2, h3⟩ := h
  have key : ∀ (f : Nat → Nat) (u : Nat), stpr f ((rows + 1) * c + rows) = some (c + 1, if c = 0 then 0 else rows, rows, u) → prs f ((rows + 1) * c + rows) 0 (1, 0, 0, 0) = .inr (c + 1, if c = 0 then 0 else rows, rows, u) := fun f u hf => by
    rw [stpr_prs _ (Nat.le_refl _) hf, Nat.sub_self, prs, if_pos (whole_c hr)]
  refine ⟨_, _, key ch u h1, key dh v h2, rfl, rfl, rfl, rfl, fun A B e1 e2 e3 => ⟨⟨rfl, rfl, e1, e2, e3⟩, fun i hi => ?_, fun _ _ _ _ => rfl⟩⟩
  have hi : i < c + 1 := hi
  show v / 16 ^ i % 16 + u / 16 ^ i % 16 = 2 ^ rows - 1
  refine two_bits rows (by omega) _ (Nat.mod_lt _ (by decide)) _ (Nat.mod_lt _ (by decide)) ?_ ?_
  · apply Nat.eq_of_testBit_eq
    intro j
    rw [Nat.testBit_xor, dig_bit, dig_bit, Nat.testBit_two_pow_sub_one]
    obtain ⟨g1, g2⟩ := h3 (4 * i + j)
    by_cases hj : j < 4
    · rw [decide_eq_true hj, Bool.true_and, Bool.true_and]
      have g3 : tyd rows c rows (4 * i + j) ↔ j < rows := by unfold tyd; omega
      rw [g3] at g1
      by_cases q : j < rows
      · rw [decide_eq_true q]
        have g4 := g1.mpr q
        cases ea : u.testBit (4 * i + j) <;> cases eb : v.testBit (4 * i + j)
        · rw [ea, eb] at g4; rcases g4 with g | g <;> cases g
        · rfl
        · rfl
        · exact absurd ⟨ea, eb⟩ g2
      · rw [decide_eq_false q]
        cases ea : u.testBit (4 * i + j) with
        | true => exact absurd (g1.mp (Or.inl ea)) q
        | false =>
          cases eb : v.testBit (4 * i + j) with
          | true => exact absurd (g1.mp (Or.inr eb)) q
          | false => rfl
    · rw [decide_eq_false hj, decide_eq_false (show ¬ j < rows by omega)]
      rfl
  · apply Nat.eq_of_testBit_eq
    intro j
    rw [Nat.testBit_and, dig_bit, dig_bit, Nat.zero_testBit]
    obtain ⟨g1, g2⟩ := h3 (4 * i + j)
    cases ea : u.testBit (4 * i + j) <;> cases eb : v.testBit (4 * i + j)
    · cases decide (j < 4) <;> rfl
    · cases decide (j < 4) <;> rfl
    · cases decide (j < 4) <;> rfl
    · exact absurd ⟨ea, eb⟩ g2
theorem TI_cut {rows c : Nat} {ch dh : Nat → Nat} (h : TI rows (c + 1) 0 ch dh) (hr : 1 ≤ rows) {n : Nat} (hn : n = (rows + 1) * (c + 1)) : prs ch n 0 (1, 0, 0, 0) = .inl n ∧ prs dh n 0 (1, 0, 0, 0) = .inl n := by
  subst hn
  obtain ⟨u, v, h1, h2, h3⟩ := h
  rw [Nat.add_zero] at h1 h2
  have hw : ∀ u, Ps.whole (c + 1 + 1, if c + 1 = 0 then 0 else rows, 0, u) = false := fun u => by
    unfold Ps.whole
    show (if c + 1 + 1 = 1 then decide (0 < 0) else decide (0 = if c + 1 = 0 then 0 else rows)) = false
    rw [if_neg (by omega), if_neg (by omega)]
    exact decide_eq_false (by omega)
  refine ⟨?_, ?_⟩
  · rw [stpr_prs _ (Nat.le_refl _) h1, Nat.sub_self, prs, hw]; rfl
  · rw [stpr_prs _ (Nat.le_refl _) h2, Nat.sub_self, prs, hw]; rfl
theorem TI_cut10 {rows : Nat} {ch dh : Nat → Nat} (h : TI rows 9 rows ch dh) {n : Nat} (hn : n = (rows + 1) * 9 + rows) : prs (chPut ch n 44) (n + 1) 0 (1, 0, 0, 0) = .inl n ∧ prs (chPut dh n 44) (n + 1) 0 (1, 0, 0, 0) = .inl n := by
  subst hn
  obtain ⟨u, v, h1, h2, h3⟩ := h
  have c1 : ∀ (f : Nat → Nat) (x : Nat), chPut f ((rows + 1) * 9 + rows) x ((rows + 1) * 9 + rows) = x := fun f x => if_pos rfl
  have key : ∀ (f : Nat → Nat) (u : Nat), stpr f ((rows + 1) * 9 + rows) = some (9 + 1, if 9 = 0 then 0 else rows, rows, u) → prs (chPut f ((rows + 1) * 9 + rows) 44) ((rows + 1) * 9 + rows + 1) 0 (1, 0, 0, 0) = .inl ((rows + 1) * 9 + rows) := fun f u hf => by
    rw [stpr_prs ((rows + 1) * 9 + rows) (Nat.le_succ _) (by rw [stpr_put _ _ _ _ (Nat.le_refl _)]; exact hf), prs_step (Nat.lt_succ_self _), c1, step_10]
  exact ⟨key ch u h1, key dh v h2⟩
