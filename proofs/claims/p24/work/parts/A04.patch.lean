/-! PATCHES cut the strip -/
theorem mem_lk {A : St} (hA : A.ok) {c r : Nat} (hc : c < A.C) (hr : r < A.R) : (mskN A.C A.R).testBit (4 * c + r) = true := by
  have := hA.2.1.2
  rw [mskN_bit hA.2.1.2, show (4 * c + r) / 4 = c by omega, show (4 * c + r) % 4 = r by omega, decide_eq_true hc, decide_eq_true hr]
  rfl
abbrev St.P (A : St) (k : Nat) : Nat := A.pIt k 30
/-- the cells of a patch have one patch -/
theorem patch_same {A : St} (hA : A.ok) {c r d q : Nat} (hc : c < A.C) (hr : r < A.R) (hd : d < A.C) (hq : q < A.R) (h : (A.P (4 * c + r)).testBit (4 * d + q) = true) : A.P (4 * d + q) = A.P (4 * c + r) := by
  have h1 := pIt_least hA hd hq (pIt_cld hA hc hr) h 30
  have hcl : A.cld (A.P (4 * c + r) ^^^ (A.P (4 * c + r) &&& A.P (4 * d + q))) := fun c1 r1 d1 q1 hc1 hr1 hn hs hb => by
    obtain ⟨hd1, hq1⟩ := nbP_in hA hc1 hr1 hn
    rw [Nat.testBit_xor, Nat.testBit_and] at hb ⊢
    cases e1 : (A.P (4 * c + r)).testBit (4 * c1 + r1) with
    | false => rw [e1] at hb; cases hb
    | true =>
      cases e2 : (A.P (4 * d + q)).testBit (4 * c1 + r1) with
      | true => rw [e1, e2] at hb; cases hb
      | false =>
        rw [pIt_cld hA hc hr c1 r1 d1 q1 hc1 hr1 hn hs e1]
        cases e3 : (A.P (4 * d + q)).testBit (4 * d1 + q1) with
        | false => rfl
        | true =>
          have := pIt_cld hA hd hq d1 q1 c1 r1 hd1 hq1 (nbP_sym hA hc1 hr1 hn) hs.symm e3
          rw [e2] at this; cases this
  have hk : (A.P (4 * d + q)).testBit (4 * c + r) = true := by
    cases e : (A.P (4 * d + q)).testBit (4 * c + r) with
    | true => rfl
    | false =>
      have hx : (A.P (4 * c + r) ^^^ (A.P (4 * c + r) &&& A.P (4 * d + q))).testBit (4 * c + r) = true := by
        rw [Nat.testBit_xor, Nat.testBit_and, e, pIt_self]; rfl
      have h2 := pIt_least hA hc hr hcl hx 30 _ h
      rw [Nat.testBit_xor, Nat.testBit_and, h, pIt_self] at h2
      cases h2
  have h3 := pIt_least hA hc hr (pIt_cld hA hd hq) hk 30
  apply Nat.eq_of_testBit_eq
  intro p
  cases e : (A.P (4 * c + r)).testBit p with
  | true => exact h3 p e
  | false =>
    cases e2 : (A.P (4 * d + q)).testBit p with
    | false => rfl
    | true => rw [h1 p e2] at e; cases e
/-- how many cells a cell's patch has -/
def St.z (A : St) (k : Nat) : Nat := pcN 64 (A.P k)
theorem pcN_pos {x p : Nat} (hp : p < 64) (h : x.testBit p = true) : 1 ≤ pcN 64 x := by
  have := pcN_sub (a := 2 ^ p) (b := x) (fun i hi => by
    rw [Nat.testBit_two_pow] at hi
    rw [← of_decide_eq_true hi]; exact h) 64
  rw [pcN_pow hp] at this
  exact this
theorem z_in {A : St} (hA : A.ok) {c r : Nat} (hc : c < A.C) (hr : r < A.R) : 1 ≤ A.z (4 * c + r) ∧ A.z (4 * c + r) ≤ 30 := by
  have h1 := hA.1.2
  have h2 := hA.2.1.2
  exact ⟨pcN_pos (show 4 * c + r < 64 by omega) (pIt_self 30), pcN_30 hA (pIt_sub hA hc hr 30)⟩
theorem pcN_no {x : Nat} (h : pcN 64 x = 0) {p : Nat} (hp : p < 64) : x.testBit p = false := by
  cases e : x.testBit p with
  | false => rfl
  | true => have := pcN_pos hp e; omega
theorem z_nl {A : St} (hA : A.ok) {c r : Nat} (hc : c < A.C) (hr : r < A.R) : 1 < A.z (4 * c + r) ↔ 0 < A.nl c r := by
  have h1 := hA.1.2
  have h2 := hA.2.1.2
  constructor
  · intro hz
    apply Nat.pos_of_ne_zero
    intro h0
    have e : A.bN (2 ^ (4 * c + r)) &&& A.lk (4 * c + r) = 0 := by
      apply Nat.eq_of_testBit_eq
      intro p
      rw [Nat.zero_testBit]
      by_cases hp : p < 64
      · exact pcN_no h0 hp
      · rw [Nat.testBit_and, Nat.testBit_lt_two_pow (Nat.lt_of_lt_of_le (St.lk_lt hA _) (Nat.pow_le_pow_right (by decide) (show 40 ≤ p by omega))), Bool.and_false]
    have e1 : A.pIt (4 * c + r) (0 + 1) = A.pIt (4 * c + r) 0 := by
      show 2 ^ (4 * c + r) ||| (A.bN (2 ^ (4 * c + r)) &&& A.lk (4 * c + r)) = 2 ^ (4 * c + r)
      rw [e, Nat.or_zero]
    have e2 := St.pIt_fix e1 30
    unfold St.z at hz
    rw [show A.P (4 * c + r) = 2 ^ (4 * c + r) from by rw [Nat.zero_add] at e2; exact e2, pcN_pow (show 4 * c + r < 64 by omega)] at hz
    omega
  · intro hn
    obtain ⟨p, hp, hb⟩ : ∃ p, p < 64 ∧ (A.bN (2 ^ (4 * c + r)) &&& A.lk (4 * c + r)).testBit p = true := by
      obtain ⟨i, hi, hne⟩ := sumN_pos (show sumN 64 (fun i => ((A.bN (2 ^ (4 * c + r)) &&& A.lk (4 * c + r)).testBit i).toNat) ≠ 0 from Nat.ne_of_gt hn)
      refine ⟨i, hi, ?_⟩
      cases e : (A.bN (2 ^ (4 * c + r)) &&& A.lk (4 * c + r)).testBit i with
      | true => rfl
      | false => rw [e] at hne; exact absurd rfl hne
    rw [Nat.testBit_and, Bool.and_eq_true] at hb
    obtain ⟨d, q, hnb, rfl⟩ := (nb_bit hA hc hr p).mp hb.1
    obtain ⟨hd, hq⟩ := nbP_in hA hc hr hnb
    have hs : A.s c r = A.s d q := by
      have h3 := hb.2
      rw [St.lk_cr hA hd hr hq] at h3
      exact eq_of_beq h3
    have hm := pIt_cld hA hc hr c r d q hc hr hnb hs (pIt_self 30)
    have hne : ¬ 4 * d + q = 4 * c + r := fun e => by
      have e1 : d = c := by omega
      have e2 : q = r := by omega
      subst e1; subst e2
      rcases hnb with ⟨-, h | h⟩ | ⟨-, h | h⟩
      · unfold upr at h; split at h
        · have := Option.some.inj h; omega
        · cases h
      · unfold dnr at h; split at h
        · have := Option.some.inj h; omega
        · cases h
      · exact nxt_ne hc (prv_nxt hA hc h)
      · exact nxt_ne hc h
    have h5 := pcN_lt (a := 2 ^ (4 * c + r)) (b := A.P (4 * c + r)) (p := 4 * d + q) (fun i hi => by
      rw [Nat.testBit_two_pow] at hi
      rw [← of_decide_eq_true hi]; exact pIt_self 30) (by rw [Nat.testBit_two_pow, decide_eq_false (fun q => hne q.symm)]) hm 64 (by omega)
    rw [pcN_pow (show 4 * c + r < 64 by omega)] at h5
    exact h5
/-! shares -/
def shr (z : Nat) : Nat := if z < 13 then 27720 / z else 0
theorem shr_z : ∀ z, z < 31 → 1 ≤ z → z * shr z = if z < 13 then 27720 else 0 := by decide +kernel
def St.SS (A : St) (M : Nat) : Nat := sumN 64 (fun p => (M.testBit p).toNat * shr (A.z p))
theorem SS_or {A : St} {M N : Nat} (h : ∀ p, M.testBit p = true → N.testBit p = false) : A.SS (M ||| N) = A.SS M + A.SS N := by
  unfold St.SS
  rw [← sumN_add]
  refine sumN_congr fun p _ => ?_
  rw [Nat.testBit_or]
  cases e : M.testBit p with
  | false => rw [Bool.false_or]; show _ = 0 * _ + _; rw [Nat.zero_mul, Nat.zero_add]
  | true => rw [h p e]; show 1 * _ = 1 * _ + 0 * _; rw [Nat.zero_mul, Nat.add_zero]
theorem SS_patch {A : St} (hA : A.ok) {c r : Nat} (hc : c < A.C) (hr : r < A.R) : A.SS (A.P (4 * c + r)) = if A.z (4 * c + r) < 13 then 27720 else 0 := by
  obtain ⟨z1, z2⟩ := z_in hA hc hr
  rw [← shr_z _ (by omega) z1]
  unfold St.SS
  rw [sumN_congr (g := fun p => shr (A.z (4 * c + r)) * ((A.P (4 * c + r)).testBit p).toNat) (fun p _ => ?_)]
  · have hm : ∀ (n k : Nat) (f : Nat → Nat), sumN n (fun p => k * f p) = k * sumN n f := fun n k f => by
      induction n with
      | zero => rfl
      | succ n ih => rw [sumN, sumN, ih, Nat.mul_add]
    rw [hm, Nat.mul_comm]
    rfl
  · cases e : (A.P (4 * c + r)).testBit p with
    | false => show 0 * _ = _ * 0; rw [Nat.zero_mul, Nat.mul_zero]
    | true =>
      obtain ⟨h1, h2, h3⟩ := sub_cr hA (pIt_sub hA hc hr 30) e
      have e2 := patch_same hA hc hr h1 h2 (by rw [← h3]; exact e)
      rw [← h3] at e2
      show 1 * shr (pcN 64 (A.P p)) = shr (pcN 64 (A.P (4 * c + r))) * 1
      rw [e2, Nat.one_mul, Nat.mul_one]
theorem SS_0 (A : St) : A.SS 0 = 0 := by
  unfold St.SS
  rw [sumN_congr (g := fun _ => 0) (fun p _ => by rw [Nat.zero_testBit]; exact Nat.zero_mul _)]
  exact sumN_zero 64
/-- what the count of the patches keeps -/
theorem ptk_inv {A : St} (hA : A.ok) : ∀ k, k ≤ A.C * A.R → (∀ p, (A.ptk k).2.testBit p = true → (mskN A.C A.R).testBit p = true) ∧ (∀ i, i < k → (A.ptk k).2.testBit (4 * (i / A.R) + i % A.R) = true) ∧ ∃ m, m ≤ (A.ptk k).1 ∧ A.SS (A.ptk k).2 = 27720 * m
  | 0, _ => by
    rw [ptk_0]
    exact ⟨fun p h => absurd h (by show ¬ (0 : Nat).testBit p = true; rw [Nat.zero_testBit]; decide), fun i h => absurd h (Nat.not_lt_zero i), 0, Nat.le_refl _, SS_0 A⟩
  | k + 1, hk => by
    obtain ⟨h1, h2, m, h3, h4⟩ := ptk_inv hA k (by omega)
    obtain ⟨hc, hr⟩ := dm_lt hA (show k < A.C * A.R by omega)
    have hcl := ptk_cld hA k (by omega)
    rw [ptk_s hA]
    by_cases e : (A.ptk k).2.testBit (4 * (k / A.R) + k % A.R) = true
    · rw [if_pos e]
      refine ⟨h1, fun i hi => ?_, m, h3, h4⟩
      by_cases ei : i = k
      · subst ei; exact e
      · exact h2 i (by omega)
    · rw [if_neg e]
      have hdis : ∀ p, (A.ptk k).2.testBit p = true → (A.P (4 * (k / A.R) + k % A.R)).testBit p = false := fun p hp => by
        cases ep : (A.P (4 * (k / A.R) + k % A.R)).testBit p with
        | false => rfl
        | true =>
          obtain ⟨g1, g2, g3⟩ := sub_cr hA (pIt_sub hA hc hr 30) ep
          have e2 := patch_same hA hc hr g1 g2 (by rw [← g3]; exact ep)
          have e3 := pIt_least hA g1 g2 hcl (by rw [← g3]; exact hp) 30 (4 * (k / A.R) + k % A.R)
          rw [show A.pIt (4 * (p / 4) + p % 4) 30 = A.P (4 * (k / A.R) + k % A.R) from e2] at e3
          exact absurd (e3 (pIt_self 30)) e
      refine ⟨fun p hp => ?_, fun i hi => ?_, m + (if A.z (4 * (k / A.R) + k % A.R) < 13 then 1 else 0), ?_, ?_⟩
      · rw [Nat.testBit_or, Bool.or_eq_true] at hp
        rcases hp with hp | hp
        · exact h1 p hp
        · exact pIt_sub hA hc hr 30 p hp
      · show ((A.ptk k).2 ||| A.pIt (4 * (k / A.R) + k % A.R) 30).testBit _ = true
        rw [Nat.testBit_or, Bool.or_eq_true]
        by_cases ei : i = k
        · subst ei; exact Or.inr (pIt_self 30)
        · exact Or.inl (h2 i (by omega))
      · show m + _ ≤ (A.ptk k).1 + 1
        split <;> omega
      · show A.SS ((A.ptk k).2 ||| A.P (4 * (k / A.R) + k % A.R)) = _
        rw [SS_or hdis, h4, SS_patch hA hc hr]
        split <;> omega
theorem sumN_cut {f : Nat → Nat} {m : Nat} : ∀ n, m ≤ n → (∀ i, m ≤ i → i < n → f i = 0) → sumN n f = sumN m f
  | 0, h, _ => by
    have : m = 0 := by omega
    subst this; rfl
  | n + 1, h, hz => by
    by_cases e : m = n + 1
    · subst e; rfl
    · rw [sumN, sumN_cut n (by omega) (fun i h1 h2 => hz i h1 (by omega)), hz n (by omega) (by omega)]
      rfl
theorem SS_all {A : St} (hA : A.ok) : A.SS (mskN A.C A.R) = sumN A.C (fun c => sumN A.R (fun r => shr (A.z (4 * c + r)))) := by
  have h1 := hA.1.2
  have h2 := hA.2.1.2
  unfold St.SS
  rw [sumN_congr (g := fun p => (fun c r => if c < A.C ∧ r < A.R then shr (A.z (4 * c + r)) else 0) (p / 4) (p % 4)) (fun p _ => ?_)]
  · rw [show (64 : Nat) = 16 * 4 from rfl, sumN_dm 4 (by decide) (fun c r => if c < A.C ∧ r < A.R then shr (A.z (4 * c + r)) else 0)]
    rw [sumN_cut (m := A.C) 16 (by omega) (fun c hc _ => by
      rw [sumN_congr (g := fun _ => 0) (fun r _ => if_neg (fun q => by omega))]
      exact sumN_zero 4)]
    refine sumN_congr fun c hc => ?_
    rw [sumN_cut (m := A.R) 4 (by omega) (fun r hr _ => if_neg (fun q => by omega))]
    exact sumN_congr fun r hr => if_pos ⟨hc, hr⟩
  · rw [mskN_bit h2]
    dsimp only
    by_cases e : p / 4 < A.C ∧ p % 4 < A.R
    · rw [if_pos e, decide_eq_true e.1, decide_eq_true e.2, show 4 * (p / 4) + p % 4 = p by omega]
      exact Nat.one_mul _
    · rw [if_neg e]
      by_cases e1 : p / 4 < A.C
      · rw [decide_eq_true e1, decide_eq_false (fun q => e ⟨e1, q⟩)]; exact Nat.zero_mul _
      · rw [decide_eq_false e1]; exact Nat.zero_mul _
theorem shares {A : St} (hA : A.ok) : ∃ m, m ≤ (A.ptp A.C).1 ∧ sumN A.C (fun c => sumN A.R (fun r => shr (A.z (4 * c + r)))) = 27720 * m := by
  obtain ⟨h1, h2, m, h3, h4⟩ := ptk_inv hA (A.C * A.R) (Nat.le_refl _)
  have hR := hA.2.1
  refine ⟨m, by rw [← ptk_e hA]; exact h3, ?_⟩
  rw [← SS_all hA, ← h4]
  congr 1
  apply Nat.eq_of_testBit_eq
  intro p
  cases e : (mskN A.C A.R).testBit p with
  | false =>
    cases e2 : (A.ptk (A.C * A.R)).2.testBit p with
    | false => rfl
    | true => rw [h1 p e2] at e; cases e
  | true =>
    rw [mskN_bit hR.2, Bool.and_eq_true, decide_eq_true_eq, decide_eq_true_eq] at e
    have hi : (p / 4) * A.R + p % 4 < A.C * A.R := by
      have : (p / 4 + 1) * A.R ≤ A.C * A.R := Nat.mul_le_mul_right _ e.1
      rw [Nat.add_mul, Nat.one_mul] at this
      omega
    have h5 := h2 _ hi
    have e1 : ((p / 4) * A.R + p % 4) / A.R = p / 4 := by
      rw [Nat.mul_comm, Nat.mul_add_div (by omega), Nat.div_eq_of_lt e.2, Nat.add_zero]
    have e2 : ((p / 4) * A.R + p % 4) % A.R = p % 4 := by
      rw [Nat.mul_comm, Nat.mul_add_mod, Nat.mod_eq_of_lt e.2]
    rw [e1, e2, show 4 * (p / 4) + p % 4 = p by omega] at h5
    exact h5.symm
/-! a strip that is laid, and one that is laid and turned -/
theorem lay_s {A : St} {c r g i j : Nat} (hi : i < c) (hj : j < r) : (A.lay c r g).s i j = 1 := by
  show (if (if i < c then 2 ^ r - 1 else 0).testBit j = true then (1 : Int) else -1) = 1
  rw [if_pos hi, Nat.testBit_two_pow_sub_one, decide_eq_true hj]
  rfl
theorem lay_patch {A : St} (hA : A.ok) {c r g : Nat} (c1 : 1 ≤ c) (c2 : c ≤ 10) (r1 : 1 ≤ r) (r2 : r ≤ 3) (hg : g ≤ 1) : (A.lay c r g).pIt 0 30 = mskN c r := by
  have hB := lay_ok hA c1 c2 r1 r2 hg
  have hc0 : 0 < (A.lay c r g).C := c1
  have hr0 : 0 < (A.lay c r g).R := r1
  have hcl := pIt_cld hB hc0 hr0
  have hcol : ∀ i, i < c → ((A.lay c r g).pIt (4 * 0 + 0) 30).testBit (4 * i + 0) = true := fun i => by
    induction i with
    | zero => intro _; exact pIt_self 30
    | succ i ih =>
      intro hi
      exact hcl i 0 (i + 1) 0 (show i < c by omega) hr0 (Or.inr ⟨rfl, Or.inr (if_pos (show i + 1 < c from hi))⟩) (by rw [lay_s (show i < c by omega) r1, lay_s hi r1]) (ih (by omega))
  have hall : ∀ i j, i < c → j < r → ((A.lay c r g).pIt (4 * 0 + 0) 30).testBit (4 * i + j) = true := fun i j hi => by
    induction j with
    | zero => intro _; exact hcol i hi
    | succ j ih =>
      intro hj
      exact hcl i j i (j + 1) hi (show j < r by omega) (Or.inl ⟨rfl, Or.inr (if_pos (show j + 1 < r from hj))⟩) (by rw [lay_s hi (show j < r by omega), lay_s hi hj]) (ih (by omega))
  apply Nat.eq_of_testBit_eq
  intro p
  cases e : (mskN c r).testBit p with
  | false =>
    cases e2 : ((A.lay c r g).pIt 0 30).testBit p with
    | false => rfl
    | true =>
      have e3 : (mskN c r).testBit p = true := pIt_sub hB hc0 hr0 30 p e2
      rw [e3] at e; cases e
  | true =>
    rw [mskN_bit r2, Bool.and_eq_true, decide_eq_true_eq, decide_eq_true_eq] at e
    have h := hall _ _ e.1 e.2
    rw [show 4 * (p / 4) + p % 4 = p by omega] at h
    exact h
theorem pcN_cr : ∀ C, C < 11 → ∀ R, R < 4 → pcN 64 (mskN C R) = C * R := by decide +kernel
theorem dig_msk {c r i : Nat} (hi : i < c) (hr : r ≤ 3) : mskN c r / 16 ^ i % 16 = 2 ^ r - 1 := by
  apply Nat.eq_of_testBit_eq
  intro j
  rw [dig_bit, mskN_bit hr, Nat.testBit_two_pow_sub_one]
  by_cases h4 : j < 4
  · rw [decide_eq_true h4, show (4 * i + j) / 4 = i by omega, show (4 * i + j) % 4 = j by omega, decide_eq_true hi]
    rfl
  · rw [decide_eq_false h4, decide_eq_false (show ¬ j < r by omega)]
    rfl
theorem lay_Mir {A B : St} (e1 : B.al = A.al) (e2 : B.ac = A.ac) {c r g : Nat} (r2 : r ≤ 3) : Mir (A.lay c r g) ((B.lay c r g).flip (mskN c r)) := by
  refine ⟨⟨rfl, rfl, rfl, e1, e2⟩, fun i hi => ?_, fun i j _ _ => rfl⟩
  have hi' : i < c := hi
  show ((if i < c then 2 ^ r - 1 else 0) ^^^ (mskN c r / 16 ^ i % 16)) + (if i < c then 2 ^ r - 1 else 0) = 2 ^ r - 1
  rw [if_pos hi', dig_msk hi' r2, Nat.xor_self, Nat.zero_add]
theorem flip_U0 {B : St} {c r g : Nat} (hB : (B.lay c r g).ok) : ((B.lay c r g).flip (mskN c r)).U = 0 := by
  have hc : c ≤ 10 := hB.1.2
  have hr : r ≤ 3 := hB.2.1.2
  rw [St.flip_U hB (mskN_lt hc hr), St.lay_U hc, Nat.xor_self]
