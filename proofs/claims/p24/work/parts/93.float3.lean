/-! FLOATS: sums, products, quotients, comparisons, bits -/
abbrev sgn (s : Bool) (m : Nat) : Int := FP.Core.signed s m
theorem fz_inv {n : Nat} (hn : n < 4294967296) {s : Bool} {c k : Nat} (hc : cno c k) (hk : k ≤ 253) (h : FP.Core.decode b32 n = .fin s c ((k : Int) - 149)) : n = fzB s c k := by
  have e1 : FP.Core.fieldT b32 n = n % 8388608 := rfl
  have e2 : FP.Core.fieldE b32 n = n / 8388608 % 256 := rfl
  have e3 : FP.Core.fieldS b32 n = (n / 8388608 / 256 % 2 == 1) := rfl
  have hS : (FP.Core.fieldS b32 n).toNat = n / 8388608 / 256 := by
    rw [e3]
    have : n / 8388608 / 256 < 2 := by omega
    rcases (show n / 8388608 / 256 = 0 ∨ n / 8388608 / 256 = 1 by omega) with q | q <;> rw [q] <;> rfl
  unfold FP.Core.decode at h
  by_cases h1 : FP.Core.fieldE b32 n = b32.exps - 1
  · rw [if_pos h1] at h
    split at h <;> cases h
  · rw [if_neg h1] at h
    have h1 : ¬ FP.Core.fieldE b32 n = 255 := h1
    unfold fzB
    by_cases h2 : FP.Core.fieldE b32 n = 0
    · rw [if_pos h2] at h
      injection h with h3 h4 h5
      have h5 : (-149 : Int) = (k : Int) - 149 := h5
      rw [← h3, hS, ← h4, e1, if_pos (Nat.mod_lt _ (by decide))]
      rw [e2] at h2
      omega
    · rw [if_neg h2] at h
      injection h with h3 h4 h5
      have h4 : 8388608 + FP.Core.fieldT b32 n = c := h4
      have h5 : (-149 : Int) + ((FP.Core.fieldE b32 n : Int) - 1) = (k : Int) - 149 := h5
      rw [← h3, hS, if_neg (by omega)]
      rw [e2] at h5 h2 h1
      rw [e1] at h4
      omega
theorem FZ.bits {x : UInt32} {s : Bool} {m : Nat} (h : FZ x s m) : ∃ c k, cno c k ∧ k ≤ 253 ∧ c * 2 ^ k = m ∧ x.toNat = fzB s c k ∧ FP.Core.decode b32 x.toNat = .fin s c ((k : Int) - 149) := by
  obtain ⟨c, k, h1, h2, h3, h4⟩ := h
  exact ⟨c, k, h1, h2, h3, fz_inv x.toNat_lt h1 h2 h4, h4⟩
theorem FZ.nan {x : UInt32} {s : Bool} {m : Nat} (h : FZ x s m) : vf_n32 x := by
  obtain ⟨c, k, h1, h2, -, h4, -⟩ := h.bits
  unfold vf_n32
  rw [UInt32.le_iff_toNat_le, UInt32.toNat_and, h4]
  show fzB s c k &&& 2147483647 ≤ 2139095040
  rw [show (2147483647 : Nat) = 2 ^ 31 - 1 from rfl, Nat.and_two_pow_sub_one_eq_mod]
  have := tn_le s
  obtain ⟨q1, q2⟩ := h1
  unfold fzB
  split <;> (cases s <;> simp only [Bool.toNat_true, Bool.toNat_false] <;> omega)
theorem sgn_mul (s : Bool) (m j : Nat) : sgn s (m * 2 ^ j) = sgn s m * ((2 ^ j : Nat) : Int) := by
  unfold sgn FP.Core.signed
  cases s
  · show ((m * 2 ^ j : Nat) : Int) = (m : Int) * _
    rw [Int.natCast_mul]
  · show -((m * 2 ^ j : Nat) : Int) = -(m : Int) * _
    rw [Int.natCast_mul, Int.neg_mul]
theorem fz_enc2 {d : FP.Core.Datum} {s : Bool} {c k m : Nat} (hc : cno c k) (hk : k ≤ 253) (hm : c * 2 ^ k = m) (hd : d = .fin s c ((k : Int) - 149)) : FZ (UInt32.ofNat (FP.Core.encode b32 d)) s m := by
  subst hd; subst hm
  exact fz_of hc hk
theorem rq_pw {x y a b a' b' : Nat} (h : a' + b = a + b') : rq (x * 2 ^ a) (y * 2 ^ b) = rq (x * 2 ^ a') (y * 2 ^ b') := by
  have key : ∀ (N D j : Nat), rq (N * 2 ^ j) (D * 2 ^ j) = rq N D := fun N D j => by
    have hk : rqk (N * 2 ^ j) (D * 2 ^ j) = rqk N D := by unfold rqk; rw [Nat.mul_div_mul_right _ _ (Nat.two_pow_pos j)]
    unfold rq
    rw [hk]
    congr 1
    rw [Nat.mul_assoc D, Nat.mul_comm (2 ^ j), ← Nat.mul_assoc D]
    exact nr_sc (Nat.two_pow_pos j)
  have e1 := key (x * 2 ^ a) (y * 2 ^ b) b'
  have e2 := key (x * 2 ^ a') (y * 2 ^ b') b
  rw [Nat.mul_assoc, Nat.mul_assoc, ← Nat.pow_add, ← Nat.pow_add] at e1 e2
  rw [← e1, ← e2, ← h, Nat.add_comm b b']
theorem FZ.add {x y : UInt32} {s t : Bool} {a b : Nat} (hx : FZ x s a) (hy : FZ y t b) (hb : a + b < 2 ^ 269) : FZ (FP.fadd x y) (FP.Core.sumSign s t (sgn s a + sgn t b)) (rq (sgn s a + sgn t b).natAbs 1) := by
  obtain ⟨c, k, h1, h2, h3, h4⟩ := hx
  obtain ⟨d, l, g1, g2, g3, g4⟩ := hy
  have hj : min ((k : Int) - 149) ((l : Int) - 149) = ((min k l : Nat) : Int) - 149 := by omega
  have e1 : (sgn s (c * 2 ^ (k - min k l)) + sgn t (d * 2 ^ (l - min k l))) * ((2 ^ min k l : Nat) : Int) = sgn s a + sgn t b := by
    rw [Int.add_mul, ← sgn_mul, ← sgn_mul, Nat.mul_assoc, Nat.mul_assoc, ← Nat.pow_add, ← Nat.pow_add, show k - min k l + min k l = k by omega, show l - min k l + min k l = l by omega, h3, g3]
  have hp : (0 : Int) < ((2 ^ min k l : Nat) : Int) := by have := Nat.two_pow_pos (min k l); omega
  generalize hU : sgn s (c * 2 ^ (k - min k l)) + sgn t (d * 2 ^ (l - min k l)) = U at e1
  have hsum : FP.Core.sumUnits s c ((k : Int) - 149) t d ((l : Int) - 149) (((min k l : Nat) : Int) - 149) = U := by
    rw [← hU]
    show sgn s (c * 2 ^ (((k : Int) - 149) - (((min k l : Nat) : Int) - 149)).toNat) + sgn t (d * 2 ^ (((l : Int) - 149) - (((min k l : Nat) : Int) - 149)).toNat) = _
    rw [show (((k : Int) - 149) - (((min k l : Nat) : Int) - 149)).toNat = k - min k l by omega, show (((l : Int) - 149) - (((min k l : Nat) : Int) - 149)).toNat = l - min k l by omega]
  have hs : FP.Core.sumSign s t U = FP.Core.sumSign s t (sgn s a + sgn t b) := by
    rw [← e1]
    unfold FP.Core.sumSign
    by_cases h0 : U = 0
    · rw [if_pos h0, h0, Int.zero_mul, if_pos rfl]
    · rw [if_neg h0, if_neg (fun q => h0 ((Int.mul_eq_zero.mp q).resolve_right (by omega)))]
      refine decide_eq_decide.mpr ⟨fun q => Int.mul_neg_of_neg_of_pos q hp, fun q => Int.not_le.mp fun q2 => ?_⟩
      have := Int.mul_nonneg q2 (Int.le_of_lt hp)
      omega
  have hm : U.natAbs * 2 ^ min k l = (sgn s a + sgn t b).natAbs := by
    rw [← e1, Int.natAbs_mul, Int.natAbs_natCast]
  have hlt : (sgn s a + sgn t b).natAbs < 2 ^ 269 := by
    unfold sgn FP.Core.signed
    cases s <;> cases t <;> simp only [if_true, if_false, Bool.false_eq_true] <;> omega
  have hbd : U.natAbs * 2 ^ ((((min k l : Nat) : Int) - 149) + 149).toNat < 1 * 2 ^ (-((((min k l : Nat) : Int) - 149) + 149)).toNat * 2 ^ 276 := by
    rw [show ((((min k l : Nat) : Int) - 149) + 149).toNat = min k l by omega, show (-((((min k l : Nat) : Int) - 149) + 149)).toNat = 0 by omega, hm, Nat.pow_zero, Nat.one_mul]
    exact Nat.lt_trans hlt (by decide +kernel)
  obtain ⟨c', k', f1, f2, f3, f4⟩ := rr_fz (s := FP.Core.sumSign s t U) (num := U.natAbs) (den := 1) (e := ((min k l : Nat) : Int) - 149) (by decide) hbd
  rw [show ((((min k l : Nat) : Int) - 149) + 149).toNat = min k l by omega, show (-((((min k l : Nat) : Int) - 149) + 149)).toNat = 0 by omega, hm, Nat.pow_zero, Nat.mul_one] at f3
  rw [← hs]
  refine fz_enc2 f1 f2 f3 ?_
  rw [h4, g4]
  show FP.Core.roundRatio b32 (FP.Core.sumSign s t (FP.Core.sumUnits s c ((k : Int) - 149) t d ((l : Int) - 149) (min ((k : Int) - 149) ((l : Int) - 149)))) (FP.Core.sumUnits s c ((k : Int) - 149) t d ((l : Int) - 149) (min ((k : Int) - 149) ((l : Int) - 149))).natAbs 1 (min ((k : Int) - 149) ((l : Int) - 149)) = _
  rw [hj, hsum]
  exact f4
theorem FZ.mul {x y : UInt32} {s t : Bool} {a b : Nat} (hx : FZ x s a) (hy : FZ y t b) (hb : a * b < 2 ^ 149 * 2 ^ 276) : FZ (FP.fmul x y) (s != t) (rq (a * b) (2 ^ 149)) := by
  obtain ⟨c, k, h1, h2, h3, h4⟩ := hx
  obtain ⟨d, l, g1, g2, g3, g4⟩ := hy
  have hab : a * b = c * d * 2 ^ (k + l) := by
    rw [← h3, ← g3, Nat.pow_add]
    exact Nat.mul_mul_mul_comm c (2 ^ k) d (2 ^ l)
  have hbd : c * d * 2 ^ (((k : Int) - 149) + ((l : Int) - 149) + 149).toNat < 1 * 2 ^ (-(((k : Int) - 149) + ((l : Int) - 149) + 149)).toNat * 2 ^ 276 := by
    rw [Nat.one_mul, ← Nat.pow_add]
    rw [hab, ← Nat.pow_add] at hb
    have := (lt_eqv (x := c * d) (y := 1) (a := k + l) (b := 149 + 276) (a' := (((k : Int) - 149) + ((l : Int) - 149) + 149).toNat) (b' := (-(((k : Int) - 149) + ((l : Int) - 149) + 149)).toNat + 276) (by omega)).mp (by rw [Nat.one_mul]; exact hb)
    rw [Nat.one_mul] at this
    exact this
  obtain ⟨c', k', f1, f2, f3, f4⟩ := rr_fz (s := s != t) (num := c * d) (den := 1) (e := ((k : Int) - 149) + ((l : Int) - 149)) (by decide) hbd
  rw [rq_pw (a' := k + l) (b' := 149) (by omega), ← hab, Nat.one_mul] at f3
  refine fz_enc2 f1 f2 f3 ?_
  rw [h4, g4]
  exact f4
theorem FZ.div {x y : UInt32} {s t : Bool} {a b : Nat} (hx : FZ x s a) (hy : FZ y t b) (hb0 : 0 < b) (hb : a * 2 ^ 149 < b * 2 ^ 276) : FZ (FP.fdiv x y) (s != t) (rq (a * 2 ^ 149) b) := by
  obtain ⟨c, k, h1, h2, h3, h4⟩ := hx
  obtain ⟨d, l, g1, g2, g3, g4⟩ := hy
  have hd : 0 < d := Nat.pos_of_ne_zero fun q => by rw [q, Nat.zero_mul] at g3; omega
  have hbd : c * 2 ^ (((k : Int) - 149) - ((l : Int) - 149) + 149).toNat < d * 2 ^ (-(((k : Int) - 149) - ((l : Int) - 149) + 149)).toNat * 2 ^ 276 := by
    rw [Nat.mul_assoc d, ← Nat.pow_add]
    rw [← h3, ← g3, Nat.mul_assoc c, Nat.mul_assoc d, ← Nat.pow_add, ← Nat.pow_add] at hb
    exact (lt_eqv (by omega)).mp hb
  obtain ⟨c', k', f1, f2, f3, f4⟩ := rr_fz (s := s != t) (num := c) (den := d) (e := ((k : Int) - 149) - ((l : Int) - 149)) hd hbd
  rw [rq_pw (a' := k + 149) (b' := l) (by omega), Nat.pow_add 2 k 149, ← Nat.mul_assoc c, h3, g3] at f3
  refine fz_enc2 f1 f2 f3 ?_
  rw [h4, g4]
  show (if d = 0 then _ else _) = _
  rw [if_neg (by omega)]
  exact f4
theorem FZ.ofI {z : Int} (h1 : -2147483648 ≤ z) (h2 : z < 2147483648) : FZ (FP.i2f (iI z)) (decide (z < 0)) (rq (z.natAbs * 2 ^ 149) 1) := by
  have hbd : z.natAbs * 2 ^ ((0 : Int) + 149).toNat < 1 * 2 ^ (-((0 : Int) + 149)).toNat * 2 ^ 276 := by
    have : z.natAbs < 2 ^ 32 := by omega
    rw [show ((0 : Int) + 149).toNat = 149 by decide, show (-((0 : Int) + 149)).toNat = 0 by decide, Nat.pow_zero, Nat.one_mul]
    exact Nat.lt_of_lt_of_le (Nat.mul_lt_mul_of_pos_right this (Nat.two_pow_pos 149)) (by decide +kernel)
  obtain ⟨c', k', f1, f2, f3, f4⟩ := rr_fz (s := decide (z < 0)) (num := z.natAbs) (den := 1) (e := 0) (by decide) hbd
  refine fz_enc2 f1 f2 (by rw [f3]; rfl) ?_
  rw [iI_toInt h1 h2]
  exact f4
theorem cmp_mul {u v : Int} {j : Nat} : compare (u * ((2 ^ j : Nat) : Int)) (v * ((2 ^ j : Nat) : Int)) = compare u v := by
  have hp : (0 : Int) < ((2 ^ j : Nat) : Int) := by have := Nat.two_pow_pos j; omega
  show (if u * _ < v * _ then Ordering.lt else if u * _ = v * _ then Ordering.eq else Ordering.gt) = if u < v then Ordering.lt else if u = v then Ordering.eq else Ordering.gt
  have e1 : (u * ((2 ^ j : Nat) : Int) < v * ((2 ^ j : Nat) : Int)) ↔ u < v := Int.mul_lt_mul_right hp
  have e2 : (u * ((2 ^ j : Nat) : Int) = v * ((2 ^ j : Nat) : Int)) ↔ u = v := Int.mul_eq_mul_right_iff (by omega)
  simp only [e1, e2]
theorem FZ.cmp {x y : UInt32} {s t : Bool} {a b : Nat} (hx : FZ x s a) (hy : FZ y t b) : FP.fcmp x y = some (if sgn s a < sgn t b then .lt else if sgn s a = sgn t b then .eq else .gt) := by
  obtain ⟨c, k, h1, h2, h3, h4⟩ := hx
  obtain ⟨d, l, g1, g2, g3, g4⟩ := hy
  have hj : min ((k : Int) - 149) ((l : Int) - 149) = ((min k l : Nat) : Int) - 149 := by omega
  show FP.Core.order (FP.Core.decode b32 x.toNat) (FP.Core.decode b32 y.toNat) = some (compare (sgn s a) (sgn t b))
  rw [h4, g4]
  show some (compare (sgn s (c * 2 ^ (((k : Int) - 149) - min ((k : Int) - 149) ((l : Int) - 149)).toNat)) (sgn t (d * 2 ^ (((l : Int) - 149) - min ((k : Int) - 149) ((l : Int) - 149)).toNat))) = _
  rw [hj, show (((k : Int) - 149) - (((min k l : Nat) : Int) - 149)).toNat = k - min k l by omega, show (((l : Int) - 149) - (((min k l : Nat) : Int) - 149)).toNat = l - min k l by omega]
  rw [← cmp_mul (j := min k l), ← sgn_mul, ← sgn_mul, Nat.mul_assoc, Nat.mul_assoc, ← Nat.pow_add, ← Nat.pow_add, show k - min k l + min k l = k by omega, show l - min k l + min k l = l by omega, h3, g3]
theorem FZ.toI {x : UInt32} {n : Nat} (hx : FZ x false (n * 2 ^ 149)) (hn : n < 2147483648) : FP.f2i x = nI n := by
  obtain ⟨c, k, h1, h2, h3, h4⟩ := hx
  have ht : FP.Core.truncate false c ((k : Int) - 149) = (n : Int) := by
    show ((c * 2 ^ ((k : Int) - 149).toNat / 2 ^ (-((k : Int) - 149)).toNat : Nat) : Int) = _
    congr 1
    by_cases hk : 149 ≤ k
    · obtain ⟨j, rfl⟩ : ∃ j, k = j + 149 := ⟨k - 149, by omega⟩
      rw [show (((j + 149 : Nat) : Int) - 149).toNat = j by omega, show (-(((j + 149 : Nat) : Int) - 149)).toNat = 0 by omega, Nat.pow_zero, Nat.div_one]
      rw [Nat.pow_add, ← Nat.mul_assoc] at h3
      exact Nat.eq_of_mul_eq_mul_right (Nat.two_pow_pos 149) h3
    · obtain ⟨j, hj⟩ : ∃ j, 149 = k + j := ⟨149 - k, by omega⟩
      rw [show ((k : Int) - 149).toNat = 0 by omega, show (-((k : Int) - 149)).toNat = j by omega, Nat.pow_zero, Nat.mul_one]
      rw [hj, Nat.pow_add, Nat.mul_comm (2 ^ k), ← Nat.mul_assoc] at h3
      have h5 := Nat.eq_of_mul_eq_mul_right (Nat.two_pow_pos k) h3
      rw [h5, Nat.mul_div_cancel _ (Nat.two_pow_pos j)]
  show Int32.ofInt (FP.Core.toInt (-2 ^ 31) (2 ^ 31 - 1) (FP.Core.decode b32 x.toNat)) = nI n
  rw [h4]
  show Int32.ofInt (max (-2 ^ 31) (min (2 ^ 31 - 1) (FP.Core.truncate false c ((k : Int) - 149)))) = nI n
  rw [ht, iI_nI, show max (-2 ^ 31) (min (2 ^ 31 - 1) (n : Int)) = (n : Int) by omega]
  rfl
theorem FZ.neg {x : UInt32} {s : Bool} {m : Nat} (hx : FZ x s m) : FZ (FP.fneg x) (!s) m := by
  obtain ⟨c, k, h1, h2, h3, h4, -⟩ := hx.bits
  have e : (FP.fneg x).toNat = fzB (!s) c k := by
    show (x ^^^ 0x80000000).toNat = _
    rw [UInt32.toNat_xor, h4]
    show fzB s c k ^^^ 2 ^ 31 = _
    have hb : ∀ r : Nat, r < 2 ^ 31 → r ^^^ 2 ^ 31 = 2 ^ 31 + r ∧ (2 ^ 31 + r) ^^^ 2 ^ 31 = r := fun r hr => by
      have e1 : 2 ^ 31 + r = 2 ^ 31 ||| r := by have := Nat.two_pow_add_eq_or_of_lt hr 1; rw [Nat.mul_one] at this; exact this
      have b : r.testBit 31 = false := Nat.testBit_lt_two_pow hr
      constructor
      · rw [e1]
        refine Nat.eq_of_testBit_eq fun i => ?_
        rw [Nat.testBit_xor, Nat.testBit_or, Nat.testBit_two_pow]
        by_cases hi : 31 = i
        · subst hi; rw [b]; rfl
        · rw [decide_eq_false hi, Bool.xor_false, Bool.false_or]
      · rw [e1]
        refine Nat.eq_of_testBit_eq fun i => ?_
        rw [Nat.testBit_xor, Nat.testBit_or, Nat.testBit_two_pow]
        by_cases hi : 31 = i
        · subst hi; rw [b]; rfl
        · rw [decide_eq_false hi, Bool.xor_false, Bool.false_or]
    have hr : fzB false c k < 2 ^ 31 := by
      obtain ⟨q1, q2⟩ := h1
      unfold fzB
      show (if c < 8388608 then (0 * 256 + 0) * 8388608 + c else (0 * 256 + (k + 1)) * 8388608 + (c - 8388608)) < 2147483648
      split <;> omega
    have ht : fzB true c k = 2 ^ 31 + fzB false c k := by
      unfold fzB
      show (if c < 8388608 then (1 * 256 + 0) * 8388608 + c else (1 * 256 + (k + 1)) * 8388608 + (c - 8388608)) = 2147483648 + if c < 8388608 then (0 * 256 + 0) * 8388608 + c else (0 * 256 + (k + 1)) * 8388608 + (c - 8388608)
      split <;> omega
    cases s with
    | false => rw [(hb _ hr).1, ← ht]; rfl
    | true => rw [ht, (hb _ hr).2]; rfl
  refine ⟨c, k, h1, h2, h3, ?_⟩
  rw [e]
  exact fz_dec h1 h2
