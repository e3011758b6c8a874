/-! FLOATS: the machine's operations -/
abbrev b32 : FP.Core.Fmt := FP.Core.b32
/-- a float, as sign and magnitude in units of the least one -/
def FZ (x : UInt32) (s : Bool) (m : Nat) : Prop := ∃ c k : Nat, cno c k ∧ k ≤ 253 ∧ c * 2 ^ k = m ∧ FP.Core.decode b32 x.toNat = .fin s c ((k : Int) - 149)
theorem fz_fld (s : Bool) {e t : Nat} (he : e < 256) (ht : t < 8388608) : FP.Core.fieldT b32 ((s.toNat * 256 + e) * 8388608 + t) = t ∧ FP.Core.fieldE b32 ((s.toNat * 256 + e) * 8388608 + t) = e ∧ FP.Core.fieldS b32 ((s.toNat * 256 + e) * 8388608 + t) = s := by
  show ((s.toNat * 256 + e) * 8388608 + t) % 8388608 = t ∧ ((s.toNat * 256 + e) * 8388608 + t) / 8388608 % 256 = e ∧ (((s.toNat * 256 + e) * 8388608 + t) / 8388608 / 256 % 2 == 1) = s
  refine ⟨by omega, by omega, ?_⟩
  cases s with
  | false => rw [show ((false.toNat * 256 + e) * 8388608 + t) / 8388608 / 256 % 2 = 0 by show ((0 * 256 + e) * 8388608 + t) / 8388608 / 256 % 2 = 0; omega]; rfl
  | true => rw [show ((true.toNat * 256 + e) * 8388608 + t) / 8388608 / 256 % 2 = 1 by show ((1 * 256 + e) * 8388608 + t) / 8388608 / 256 % 2 = 1; omega]; rfl
theorem u32_nat {n : Nat} (h : n < 4294967296) : (UInt32.ofNat n).toNat = n := by
  show (BitVec.ofNat 32 n).toNat = n
  rw [BitVec.toNat_ofNat, Nat.mod_eq_of_lt h]
theorem tn_le (s : Bool) : s.toNat ≤ 1 := by cases s <;> decide
/-- the bits of a float -/
def fzB (s : Bool) (c k : Nat) : Nat := if c < 8388608 then (s.toNat * 256 + 0) * 8388608 + c else (s.toNat * 256 + (k + 1)) * 8388608 + (c - 8388608)
theorem fz_bnd {s : Bool} {c k : Nat} (hc : cno c k) (hk : k ≤ 253) : fzB s c k < 4294967296 := by
  have := tn_le s
  obtain ⟨h1, -⟩ := hc
  unfold fzB
  split <;> omega
theorem fz_enc {s : Bool} {c k : Nat} (hc : cno c k) (hk : k ≤ 253) : FP.Core.encode b32 (.fin s c ((k : Int) - 149)) = fzB s c k := by
  show (if c < 8388608 then (s.toNat * 256 + 0) * 8388608 + c else (s.toNat * 256 + (((k : Int) - 149 - (-149)).toNat + 1)) * 8388608 + (c - 8388608)) = _
  rw [show ((k : Int) - 149 - (-149)).toNat = k by omega]
  rfl
theorem fz_dec {s : Bool} {c k : Nat} (hc : cno c k) (hk : k ≤ 253) : FP.Core.decode b32 (fzB s c k) = .fin s c ((k : Int) - 149) := by
  obtain ⟨h1, h2⟩ := hc
  unfold fzB FP.Core.decode
  by_cases h : c < 8388608
  · rw [if_pos h]
    obtain ⟨e1, e2, e3⟩ := fz_fld s (e := 0) (t := c) (by decide) h
    rw [e1, e2, e3, if_neg (by decide), if_pos rfl]
    have : k = 0 := by omega
    subst this
    rfl
  · rw [if_neg h]
    obtain ⟨e1, e2, e3⟩ := fz_fld s (e := k + 1) (t := c - 8388608) (by omega) (by omega)
    rw [e1, e2, e3, if_neg (show ¬ k + 1 = b32.exps - 1 by show ¬ k + 1 = 255; omega), if_neg (by omega)]
    show FP.Core.Datum.fin s (8388608 + (c - 8388608)) (-149 + (((k + 1 : Nat) : Int) - 1)) = _
    rw [show 8388608 + (c - 8388608) = c by omega, show (-149 : Int) + (((k + 1 : Nat) : Int) - 1) = (k : Int) - 149 by omega]
theorem fz_of {s : Bool} {c k : Nat} (hc : cno c k) (hk : k ≤ 253) : FZ (UInt32.ofNat (FP.Core.encode b32 (.fin s c ((k : Int) - 149)))) s (c * 2 ^ k) := by
  refine ⟨c, k, hc, hk, rfl, ?_⟩
  rw [fz_enc hc hk, u32_nat (fz_bnd hc hk)]
  exact fz_dec hc hk
theorem le_pw {x y a b c : Nat} : x * 2 ^ a ≤ y * 2 ^ b ↔ x * 2 ^ (a + c) ≤ y * 2 ^ (b + c) := by
  rw [Nat.pow_add, Nat.pow_add, ← Nat.mul_assoc, ← Nat.mul_assoc]
  exact (Nat.mul_le_mul_right_iff (Nat.two_pow_pos c)).symm
theorem le_eqv {x y a b a' b' : Nat} (h : a' + b = a + b') : x * 2 ^ a ≤ y * 2 ^ b ↔ x * 2 ^ a' ≤ y * 2 ^ b' := by
  rw [le_pw (c := b'), le_pw (x := x) (a := a') (b := b') (c := b), ← h, Nat.add_comm b b']
theorem lt_eqv {x y a b a' b' : Nat} (h : a' + b = a + b') : x * 2 ^ a < y * 2 ^ b ↔ x * 2 ^ a' < y * 2 ^ b' := by
  have := le_eqv (x := y) (y := x) (a := b) (b := a) (a' := b') (b' := a') (by omega)
  omega
theorem ld_two {num den : Nat} (hn : 0 < num) (hd : 0 < den) : den * 2 ^ (FP.Core.leading num den).toNat ≤ num * 2 ^ (-(FP.Core.leading num den)).toNat ∧ num * 2 ^ (-(FP.Core.leading num den + 1)).toNat < den * 2 ^ (FP.Core.leading num den + 1).toNat := by
  have a1 := Nat.log2_self_le (n := num) (by omega)
  have a2 := Nat.lt_log2_self (n := num)
  have b1 := Nat.log2_self_le (n := den) (by omega)
  have b2 := Nat.lt_log2_self (n := den)
  unfold FP.Core.leading
  generalize num.log2 = a at a1 a2 ⊢
  generalize den.log2 = b at b1 b2 ⊢
  dsimp only
  have k1 : ((a : Int) - b).toNat = a - b := by omega
  have k2 : (-((a : Int) - b)).toNat = b - a := by omega
  by_cases h : den * 2 ^ ((a : Int) - b).toNat ≤ num * 2 ^ (-((a : Int) - b)).toNat
  · rw [if_pos h]
    refine ⟨h, ?_⟩
    have h1 : num * 2 ^ b < den * 2 ^ (a + 1) := Nat.lt_of_lt_of_le (Nat.mul_lt_mul_of_pos_right a2 (Nat.two_pow_pos b)) (by rw [Nat.mul_comm (2 ^ (a + 1))]; exact Nat.mul_le_mul_right _ b1)
    exact (lt_eqv (by omega)).mp h1
  · rw [if_neg h]
    refine ⟨?_, ?_⟩
    · have h1 : den * 2 ^ a ≤ num * 2 ^ (b + 1) := Nat.le_trans (Nat.mul_le_mul_right _ (Nat.le_of_lt b2)) (by rw [Nat.mul_comm (2 ^ (b + 1))]; exact Nat.mul_le_mul_right _ a1)
      exact (le_eqv (by omega)).mp h1
    · rw [show (a : Int) - b - 1 + 1 = (a : Int) - b by omega]
      omega
theorem rqk_e {num den : Nat} {e : Int} (hn : 0 < num) (hd : 0 < den) : (rqk (num * 2 ^ (e + 149).toNat) (den * 2 ^ (-(e + 149)).toNat) : Int) = max 0 (FP.Core.leading num den + (e + 149) - 23) := by
  obtain ⟨h1, h2⟩ := ld_two hn hd
  generalize FP.Core.leading num den = l at h1 h2 ⊢
  have hD : 0 < den * 2 ^ (-(e + 149)).toNat := Nat.mul_pos hd (Nat.two_pow_pos _)
  unfold rqk
  by_cases ht : 0 ≤ l + (e + 149)
  · obtain ⟨t, ht2⟩ : ∃ t : Nat, l + (e + 149) = t := ⟨(l + (e + 149)).toNat, by omega⟩
    have g1 : den * 2 ^ (-(e + 149)).toNat * 2 ^ t ≤ num * 2 ^ (e + 149).toNat := by
      rw [Nat.mul_assoc, ← Nat.pow_add]
      exact (le_eqv (by omega)).mp h1
    have g2 : num * 2 ^ (e + 149).toNat < den * 2 ^ (-(e + 149)).toNat * 2 ^ (t + 1) := by
      rw [Nat.mul_assoc, ← Nat.pow_add]
      exact (lt_eqv (by omega)).mp h2
    have g3 : 2 ^ t ≤ num * 2 ^ (e + 149).toNat / (den * 2 ^ (-(e + 149)).toNat) := (Nat.le_div_iff_mul_le hD).mpr (by rw [Nat.mul_comm (2 ^ t)]; exact g1)
    have g4 : num * 2 ^ (e + 149).toNat / (den * 2 ^ (-(e + 149)).toNat) < 2 ^ (t + 1) := (Nat.div_lt_iff_lt_mul hD).mpr (by rw [Nat.mul_comm (2 ^ (t + 1))]; exact g2)
    have hne : num * 2 ^ (e + 149).toNat / (den * 2 ^ (-(e + 149)).toNat) ≠ 0 := by have := Nat.two_pow_pos t; omega
    rw [(Nat.log2_eq_iff hne).mpr ⟨g3, g4⟩]
    omega
  · have g : num * 2 ^ (e + 149).toNat < den * 2 ^ (-(e + 149)).toNat := by
      obtain ⟨x, hx⟩ : ∃ x : Nat, (e + 149).toNat + x + (l + 1).toNat = (-(l + 1)).toNat + (-(e + 149)).toNat := ⟨((-(l + 1)).toNat + (-(e + 149)).toNat - ((e + 149).toNat + (l + 1).toNat)), by omega⟩
      refine Nat.lt_of_le_of_lt ?_ ((lt_eqv (a' := (e + 149).toNat + x) (b' := (-(e + 149)).toNat) (by omega)).mp h2)
      exact Nat.mul_le_mul_left _ (Nat.pow_le_pow_right (by decide) (by omega))
    rw [Nat.div_eq_of_lt g]
    show (((0 : Nat).log2 - 23 : Nat) : Int) = _
    rw [show (0 : Nat).log2 - 23 = 0 by decide]
    omega
theorem nr_pw {x y a b a' b' : Nat} (h : a' + b = a + b') : FP.Core.nearest (x * 2 ^ a) (y * 2 ^ b) = FP.Core.nearest (x * 2 ^ a') (y * 2 ^ b') := by
  have e1 := nr_sc (a := x * 2 ^ a) (b := y * 2 ^ b) (Nat.two_pow_pos b')
  have e2 := nr_sc (a := x * 2 ^ a') (b := y * 2 ^ b') (Nat.two_pow_pos b)
  rw [Nat.mul_assoc, Nat.mul_assoc, ← Nat.pow_add, ← Nat.pow_add] at e1 e2
  rw [← e1, ← e2, ← h, Nat.add_comm b b']
/-- a rounded ratio -/
theorem rr_fz {s : Bool} {num den : Nat} {e : Int} (hd : 0 < den) (hb : num * 2 ^ (e + 149).toNat < den * 2 ^ (-(e + 149)).toNat * 2 ^ 276) : ∃ c k : Nat, cno c k ∧ k ≤ 253 ∧ c * 2 ^ k = rq (num * 2 ^ (e + 149).toNat) (den * 2 ^ (-(e + 149)).toNat) ∧ FP.Core.roundRatio b32 s num den e = .fin s c ((k : Int) - 149) := by
  have hD : 0 < den * 2 ^ (-(e + 149)).toNat := Nat.mul_pos hd (Nat.two_pow_pos _)
  by_cases hn : num = 0
  · subst hn
    rw [Nat.zero_mul, rq_0 _ hD]
    exact ⟨0, 0, ⟨by decide, Or.inl rfl⟩, by decide, rfl, rfl⟩
  · have hk := rqk_e (e := e) (Nat.pos_of_ne_zero hn) hd
    have hkb : rqk (num * 2 ^ (e + 149).toNat) (den * 2 ^ (-(e + 149)).toNat) ≤ 252 := by
      refine Nat.le_of_not_lt fun q => ?_
      have h1 := rqk_lo hD (show rqk (num * 2 ^ (e + 149).toNat) (den * 2 ^ (-(e + 149)).toNat) ≠ 0 by omega)
      have h2 : den * 2 ^ (-(e + 149)).toNat * 2 ^ 276 ≤ den * 2 ^ (-(e + 149)).toNat * 2 ^ (rqk (num * 2 ^ (e + 149).toNat) (den * 2 ^ (-(e + 149)).toNat) + 23) := Nat.mul_le_mul_left _ (Nat.pow_le_pow_right (by decide) (by omega))
      omega
    have hhi := rqk_hi (N := num * 2 ^ (e + 149).toNat) hD
    have hlo := rqk_lo (N := num * 2 ^ (e + 149).toNat) hD
    unfold FP.Core.roundRatio FP.Core.roundAt FP.Core.quantum FP.Core.unitsNum FP.Core.unitsDen
    rw [if_neg hn, show max b32.qmin (FP.Core.leading num den + e - ((b32.p : Int) - 1)) = ((rqk (num * 2 ^ (e + 149).toNat) (den * 2 ^ (-(e + 149)).toNat) : Nat) : Int) - 149 by
      rw [hk]
      show max (-149) (FP.Core.leading num den + e - (24 - 1)) = _
      omega]
    have hr : rq (num * 2 ^ (e + 149).toNat) (den * 2 ^ (-(e + 149)).toNat) = FP.Core.nearest (num * 2 ^ (e + 149).toNat) (den * 2 ^ (-(e + 149)).toNat * 2 ^ rqk (num * 2 ^ (e + 149).toNat) (den * 2 ^ (-(e + 149)).toNat)) * 2 ^ rqk (num * 2 ^ (e + 149).toNat) (den * 2 ^ (-(e + 149)).toNat) := rfl
    rw [hr]
    generalize hκ : rqk (num * 2 ^ (e + 149).toNat) (den * 2 ^ (-(e + 149)).toNat) = κ at hkb hhi hlo ⊢
    have hnr : FP.Core.nearest (num * 2 ^ (e - ((κ : Int) - 149)).toNat) (den * 2 ^ (((κ : Int) - 149) - e).toNat) = FP.Core.nearest (num * 2 ^ (e + 149).toNat) (den * 2 ^ (-(e + 149)).toNat * 2 ^ κ) := by
      rw [Nat.mul_assoc den, ← Nat.pow_add]
      exact nr_pw (by omega)
    rw [hnr]
    have hp : 0 < den * 2 ^ (-(e + 149)).toNat * 2 ^ κ := Nat.mul_pos hD (Nat.two_pow_pos _)
    have h1 : FP.Core.nearest (num * 2 ^ (e + 149).toNat) (den * 2 ^ (-(e + 149)).toNat * 2 ^ κ) ≤ 2 ^ 24 := nr_le hp (by
      rw [Nat.mul_comm (2 ^ 24), Nat.mul_assoc (den * 2 ^ (-(e + 149)).toNat), ← Nat.pow_add]; omega)
    have h0 : κ = 0 ∨ 2 ^ 23 ≤ FP.Core.nearest (num * 2 ^ (e + 149).toNat) (den * 2 ^ (-(e + 149)).toNat * 2 ^ κ) := by
      by_cases hz : κ = 0
      · exact Or.inl hz
      · refine Or.inr (nr_ge hp ?_)
        rw [Nat.mul_comm (2 ^ 23), Nat.mul_assoc (den * 2 ^ (-(e + 149)).toNat), ← Nat.pow_add]
        exact hlo hz
    generalize FP.Core.nearest (num * 2 ^ (e + 149).toNat) (den * 2 ^ (-(e + 149)).toNat * 2 ^ κ) = r at h1 h0 ⊢
    unfold FP.Core.settle FP.Core.bound
    by_cases h2 : r < 2 ^ 24
    · rw [if_pos (show r < 2 ^ b32.p from h2), if_pos (show (κ : Int) - 149 ≤ b32.qmax by show (κ : Int) - 149 ≤ 104; omega)]
      exact ⟨r, κ, ⟨h2, h0⟩, by omega, rfl, rfl⟩
    · rw [if_neg (show ¬ r < 2 ^ b32.p from h2), if_pos (show (κ : Int) - 149 + 1 ≤ b32.qmax by show (κ : Int) - 149 + 1 ≤ 104; omega)]
      refine ⟨2 ^ 23, κ + 1, ⟨by decide, Or.inr (Nat.le_refl _)⟩, by omega, ?_, ?_⟩
      · rw [show r = 2 ^ 24 by omega, Nat.pow_succ 2 κ, Nat.mul_comm (2 ^ κ) 2, ← Nat.mul_assoc]
      · show FP.Core.Datum.fin s 8388608 ((κ : Int) - 149 + 1) = .fin s (2 ^ 23) (((κ + 1 : Nat) : Int) - 149)
        rw [show (κ : Int) - 149 + 1 = ((κ + 1 : Nat) : Int) - 149 by omega]
