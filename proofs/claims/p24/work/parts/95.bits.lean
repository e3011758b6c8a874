/-! FLOATS: bits -/
theorem FZ.sub {x y : UInt32} {s t : Bool} {a b : Nat} (hx : FZ x s a) (hy : FZ y t b) (hb : a + b < 2 ^ 269) : FZ (FP.fsub x y) (FP.Core.sumSign s (!t) (sgn s a + sgn (!t) b)) (rq (sgn s a + sgn (!t) b).natAbs 1) := by
  obtain ⟨d, l, g1, g2, g3, g4⟩ := id hy
  have hy2 := fz_of (s := !t) g1 g2
  rw [g3] at hy2
  have e2 : FP.Core.decode b32 (UInt32.ofNat (FP.Core.encode b32 (.fin (!t) d ((l : Int) - 149)))).toNat = .fin (!t) d ((l : Int) - 149) := by
    rw [fz_enc g1 g2, u32_nat (fz_bnd g1 g2)]
    exact fz_dec g1 g2
  have e : FP.fsub x y = FP.fadd x (UInt32.ofNat (FP.Core.encode b32 (.fin (!t) d ((l : Int) - 149)))) := by
    show UInt32.ofNat (FP.Core.encode b32 (FP.Core.round b32 (FP.Core.exactSum (FP.Core.decode b32 x.toNat) (FP.Core.negate (FP.Core.decode b32 y.toNat))))) = UInt32.ofNat (FP.Core.encode b32 (FP.Core.round b32 (FP.Core.exactSum (FP.Core.decode b32 x.toNat) (FP.Core.decode b32 (UInt32.ofNat (FP.Core.encode b32 (.fin (!t) d ((l : Int) - 149)))).toNat))))
    rw [e2, g4]
    rfl
  rw [e]
  exact hx.add hy2 hb
theorem fz0 : FZ FP.fconst0 false 0 := ⟨0, 0, ⟨by decide, Or.inl rfl⟩, by decide, rfl, rfl⟩
theorem fz1 : FZ FP.fconst1 false (2 ^ 149) := ⟨8388608, 126, ⟨by decide, Or.inr (by decide)⟩, by decide, by decide +kernel, rfl⟩
theorem fz2 : FZ FP.fconst2 false (2 ^ 150) := ⟨8388608, 127, ⟨by decide, Or.inr (by decide)⟩, by decide, by decide +kernel, rfl⟩
theorem fz23 : FZ (1258291200 : UInt32) false (2 ^ 172) := ⟨8388608, 149, ⟨by decide, Or.inr (by decide)⟩, by decide, by decide +kernel, rfl⟩
theorem fz100 : FZ (1120403456 : UInt32) false (100 * 2 ^ 149) := ⟨13107200, 132, ⟨by decide, Or.inr (by decide)⟩, by decide, by decide +kernel, rfl⟩
theorem cv_lt {x y : UInt32} {s t : Bool} {a b : Nat} {op : CmpOp} (hx : FZ x s a) (hy : FZ y t b) : Op.cmpValue (FP.fcmp x y) op < 0 ↔ sgn s a < sgn t b := by
  rw [hx.cmp hy]
  by_cases h : sgn s a < sgn t b
  · rw [if_pos h]; exact ⟨fun _ => h, fun _ => by show (-1 : Int32) < 0; decide⟩
  · rw [if_neg h]
    refine ⟨fun q => ?_, fun q => absurd q h⟩
    split at q
    · exact absurd (show (0 : Int32) < 0 from q) (by decide)
    · exact absurd (show (1 : Int32) < 0 from q) (by decide)
theorem cv_0 {x y : UInt32} {s t : Bool} {a b : Nat} {op : CmpOp} (hx : FZ x s a) (hy : FZ y t b) : Op.cmpValue (FP.fcmp x y) op = 0 ↔ sgn s a = sgn t b := by
  rw [hx.cmp hy]
  by_cases h : sgn s a < sgn t b
  · rw [if_pos h]; exact ⟨fun q => absurd (show (-1 : Int32) = 0 from q) (by decide), fun q => by omega⟩
  · rw [if_neg h]
    by_cases h2 : sgn s a = sgn t b
    · rw [if_pos h2]; exact ⟨fun _ => h2, fun _ => rfl⟩
    · rw [if_neg h2]; exact ⟨fun q => absurd (show (1 : Int32) = 0 from q) (by decide), fun q => absurd q h2⟩
theorem cv_ge {x y : UInt32} {s t : Bool} {a b : Nat} {op : CmpOp} (hx : FZ x s a) (hy : FZ y t b) : 0 ≤ Op.cmpValue (FP.fcmp x y) op ↔ sgn t b ≤ sgn s a := by
  have h := cv_lt (op := op) hx hy
  rw [← Int32.not_lt, h, Int.not_lt]
theorem cv_le {x y : UInt32} {s t : Bool} {a b : Nat} {op : CmpOp} (hx : FZ x s a) (hy : FZ y t b) : Op.cmpValue (FP.fcmp x y) op ≤ 0 ↔ sgn s a ≤ sgn t b := by
  have h := cv_lt (op := op) hx hy
  have h2 := cv_0 (op := op) hx hy
  rw [Int32.le_iff_lt_or_eq, h, h2]
  omega
theorem nI_mul (a b : Nat) : nI a * nI b = nI (a * b) := (Int32.ofNat_mul a b).symm
theorem FZ.half {x : UInt32} {c j : Nat} (hx : FZ x false (c * 2 ^ (j + 1))) (hc : c < 2 ^ 24) (hj : j ≤ 252) : FZ (FP.fdiv x FP.fconst2) false (c * 2 ^ j) := by
  have e : c * 2 ^ (j + 1) * 2 ^ 149 = c * 2 ^ j * 2 ^ 150 := by rw [Nat.mul_assoc, Nat.mul_assoc, ← Nat.pow_add, ← Nat.pow_add, show j + 1 + 149 = j + 150 by omega]
  have h := hx.div fz2 (Nat.two_pow_pos 150) (by
    rw [e, Nat.mul_comm]
    refine Nat.mul_lt_mul_of_pos_left ?_ (Nat.two_pow_pos 150)
    calc c * 2 ^ j < 2 ^ 24 * 2 ^ j := Nat.mul_lt_mul_of_pos_right hc (Nat.two_pow_pos j)
      _ = 2 ^ (24 + j) := (Nat.pow_add 2 24 j).symm
      _ ≤ 2 ^ 276 := Nat.pow_le_pow_right (by decide) (by omega))
  rw [e, rq_ex (Nat.two_pow_pos 150) hc] at h
  exact h
theorem FZ.dbl {x : UInt32} {c j : Nat} (hx : FZ x false (c * 2 ^ j)) (hc : c < 2 ^ 24) (hj : j ≤ 240) : FZ (FP.fmul x FP.fconst2) false (c * 2 ^ (j + 1)) := by
  have e : c * 2 ^ j * 2 ^ 150 = c * 2 ^ (j + 1) * 2 ^ 149 := by rw [Nat.mul_assoc, Nat.mul_assoc, ← Nat.pow_add, ← Nat.pow_add, show j + 1 + 149 = j + 150 by omega]
  have h := hx.mul fz2 (by
    rw [e, Nat.mul_comm]
    refine Nat.mul_lt_mul_of_pos_left ?_ (Nat.two_pow_pos 149)
    calc c * 2 ^ (j + 1) < 2 ^ 24 * 2 ^ (j + 1) := Nat.mul_lt_mul_of_pos_right hc (Nat.two_pow_pos (j + 1))
      _ = 2 ^ (24 + (j + 1)) := (Nat.pow_add 2 24 (j + 1)).symm
      _ ≤ 2 ^ 276 := Nat.pow_le_pow_right (by decide) (by omega))
  rw [e, rq_ex (Nat.two_pow_pos 149) hc] at h
  exact h
theorem FZ.m23 {x : UInt32} {c : Nat} (hx : FZ x false (c * 2 ^ 126)) (hc : c < 2 ^ 24) : FZ (FP.fmul x (1258291200 : UInt32)) false (c * 2 ^ 149) := by
  have e : c * 2 ^ 126 * 2 ^ 172 = c * 2 ^ 149 * 2 ^ 149 := by rw [Nat.mul_assoc, Nat.mul_assoc, ← Nat.pow_add]
  have h := hx.mul fz23 (by
    rw [e, Nat.mul_comm]
    refine Nat.mul_lt_mul_of_pos_left ?_ (Nat.two_pow_pos 149)
    calc c * 2 ^ 149 < 2 ^ 24 * 2 ^ 149 := Nat.mul_lt_mul_of_pos_right hc (Nat.two_pow_pos 149)
      _ = 2 ^ (24 + 149) := (Nat.pow_add 2 24 149).symm
      _ ≤ 2 ^ 276 := Nat.pow_le_pow_right (by decide) (by omega))
  rw [e, rq_ex (Nat.two_pow_pos 149) hc] at h
  exact h
theorem FZ.m1 {x : UInt32} {c : Nat} (hx : FZ x false (c * 2 ^ 126)) (hc : c < 2 ^ 24) (h1 : 2 ^ 23 ≤ c) : FZ (FP.fsub x FP.fconst1) false ((c - 2 ^ 23) * 2 ^ 126) := by
  obtain ⟨d, rfl⟩ : ∃ d, c = 2 ^ 23 + d := ⟨c - 2 ^ 23, by omega⟩
  have e : (2 ^ 23 + d) * 2 ^ 126 = 2 ^ 149 + d * 2 ^ 126 := by rw [Nat.add_mul, ← Nat.pow_add]
  have hd : d * 2 ^ 126 < 2 ^ 24 * 2 ^ 126 := Nat.mul_lt_mul_of_pos_right (by omega) (Nat.two_pow_pos 126)
  rw [e] at hx
  have hp : (2 : Nat) ^ 24 * 2 ^ 126 = 2 ^ 150 := by rw [← Nat.pow_add]
  have h := hx.sub fz1 (by
    have : (2 : Nat) ^ 149 + 2 ^ 150 + 2 ^ 149 < 2 ^ 269 := by decide +kernel
    omega)
  have e2 : sgn false (2 ^ 149 + d * 2 ^ 126) + sgn (!false) (2 ^ 149) = ((d * 2 ^ 126 : Nat) : Int) := by
    show ((2 ^ 149 + d * 2 ^ 126 : Nat) : Int) + -((2 ^ 149 : Nat) : Int) = _
    omega
  rw [e2] at h
  have e3 : FP.Core.sumSign false (!false) ((d * 2 ^ 126 : Nat) : Int) = false := by
    unfold FP.Core.sumSign
    by_cases q : ((d * 2 ^ 126 : Nat) : Int) = 0
    · rw [if_pos q]; rfl
    · rw [if_neg q]; exact decide_eq_false (by omega)
  rw [e3, Int.natAbs_natCast] at h
  have e4 := rq_ex (D := 1) (c := d) (k := 126) (by decide) (by omega)
  rw [Nat.mul_one] at e4
  rw [e4] at h
  rw [show 2 ^ 23 + d - 2 ^ 23 = d by omega]
  exact h
theorem fz_i32 {x : UInt32} {n : Nat} (h : x.toNat = n) : x.toInt32 = nI n := by
  subst h
  show (⟨x⟩ : Int32) = ⟨UInt32.ofNat x.toNat⟩
  rw [UInt32.ofNat_toNat]
theorem nI_sgn {r : Nat} (h : r < 2147483648) : nI r ||| (-2147483648 : Int32) = nI (2147483648 + r) := by
  have e : (-2147483648 : Int32) = nI 2147483648 := by decide +kernel
  rw [e, nI_or, Nat.or_comm]
  congr 1
  have := Nat.two_pow_add_eq_or_of_lt (i := 31) (b := r) h 1
  rw [Nat.mul_one] at this
  exact this.symm
theorem pw_up {c j i : Nat} (hc : c < 2 ^ 24) (hj : j ≤ i) : c * 2 ^ j < 2 ^ (24 + i) := by
  calc c * 2 ^ j < 2 ^ 24 * 2 ^ j := Nat.mul_lt_mul_of_pos_right hc (Nat.two_pow_pos j)
    _ = 2 ^ (24 + j) := (Nat.pow_add 2 24 j).symm
    _ ≤ 2 ^ (24 + i) := Nat.pow_le_pow_right (by decide) (by omega)
theorem pw_dn {c j i : Nat} (hc : 2 ^ 23 ≤ c) (hj : i ≤ j) : 2 ^ (23 + i) ≤ c * 2 ^ j := by
  calc 2 ^ (23 + i) ≤ 2 ^ (23 + j) := Nat.pow_le_pow_right (by decide) (by omega)
    _ = 2 ^ 23 * 2 ^ j := Nat.pow_add 2 23 j
    _ ≤ c * 2 ^ j := Nat.mul_le_mul_right _ hc
set_option maxRecDepth 100000 in
set_option maxHeartbeats 4000000 in
theorem b_94 {n : Nat} {σ : Sto} {x a : UInt32} {s : Bool} {c k e r : Nat} (hv : x.toNat = fzB s c k) (hc : cno c k) (hk : k ≤ 253) (hx : FZ x s (c * 2 ^ k)) (hp : 0 < c) (hr : r = fzB false c k) : PW mX7_bitsOf 0 0 (fun v σ' => v = some (.int x.toInt32) ∧ σ' = σ) 94 [some (.float x), some (.float a), some (.int (nI e)), none] [.int (nI r)] n σ 0 0 := by
  have hr0 : r < 2147483648 := by
    obtain ⟨q1, q2⟩ := hc
    rw [hr]; unfold fzB
    show (if c < 8388608 then (0 * 256 + 0) * 8388608 + c else (0 * 256 + (k + 1)) * 8388608 + (c - 8388608)) < 2147483648
    split <;> omega
  have ht : fzB true c k = 2147483648 + fzB false c k := by
    unfold fzB
    show (if c < 8388608 then (1 * 256 + 0) * 8388608 + c else (1 * 256 + (k + 1)) * 8388608 + (c - 8388608)) = 2147483648 + if c < 8388608 then (0 * 256 + 0) * 8388608 + c else (0 * 256 + (k + 1)) * 8388608 + (c - 8388608)
    split <;> omega
  have hm : 0 < c * 2 ^ k := Nat.mul_pos hp (Nat.two_pow_pos k)
  refine P_istore_n (q := 95) (L' := [_, _, _, _]) dX7_bitsOf_94 rfl (by decide) rfl ?_
  refine P_fload_n (q := 96) dX7_bitsOf_95 rfl rfl ?_
  refine P_fconst0 (q := 97) dX7_bitsOf_96 rfl ?_
  refine P_fcmp (q := 98) dX7_bitsOf_97 rfl ?_
  refine P_if_ge (q := 101) (tgt := 108) dX7_bitsOf_98 rfl (by decide) (fun c_98 => ?_) (fun c_98 => ?_)
  · rw [cv_ge hx fz0] at c_98
    refine P_iload_n (q := 109) dX7_bitsOf_108 rfl rfl ?_
    refine P_iret dX7_bitsOf_109 rfl (rfl) ?_
    refine ⟨?_, rfl⟩
    cases s with
    | false =>
      first
        | exact congrArg (fun z => some (Value.int z)) ((fz_i32 (hv.trans hr.symm)).symm)
        | exact absurd (show ((0 : Nat) : Int) ≤ ((c * 2 ^ k : Nat) : Int) by omega) c_98
    | true =>
      first
        | exact congrArg (fun z => some (Value.int z)) ((nI_sgn hr0).trans ((fz_i32 (hv.trans (ht.trans (by rw [hr])))).symm))
        | exact absurd (show ((0 : Nat) : Int) ≤ -((c * 2 ^ k : Nat) : Int) from c_98) (by omega)
  · rw [cv_ge hx fz0] at c_98
    refine P_iload_n (q := 102) dX7_bitsOf_101 rfl rfl ?_
    refine P_ldc (q := 104) dX7_bitsOf_102 rfl qX7_204 ?_
    refine P_ior (q := 105) dX7_bitsOf_104 rfl ?_
    refine P_goto (tgt := 109) dX7_bitsOf_105 (by decide) ?_
    refine P_iret dX7_bitsOf_109 rfl (rfl) ?_
    refine ⟨?_, rfl⟩
    cases s with
    | false =>
      first
        | exact congrArg (fun z => some (Value.int z)) ((fz_i32 (hv.trans hr.symm)).symm)
        | exact absurd (show ((0 : Nat) : Int) ≤ ((c * 2 ^ k : Nat) : Int) by omega) c_98
    | true =>
      first
        | exact congrArg (fun z => some (Value.int z)) ((nI_sgn hr0).trans ((fz_i32 (hv.trans (ht.trans (by rw [hr])))).symm))
        | exact absurd (show ((0 : Nat) : Int) ≤ -((c * 2 ^ k : Nat) : Int) from c_98) (by omega)
set_option maxRecDepth 100000 in
set_option maxHeartbeats 4000000 in
theorem b_68 {n : Nat} {σ : Sto} {x a : UInt32} {s : Bool} {c k : Nat} (hv : x.toNat = fzB s c k) (hc : cno c k) (hk : k ≤ 253) (hx : FZ x s (c * 2 ^ k)) (hp : 0 < c) (ha : FZ a false (c * 2 ^ 126)) : PW mX7_bitsOf 0 0 (fun v σ' => v = some (.int x.toInt32) ∧ σ' = σ) 68 [some (.float x), some (.float a), some (.int (nI (k + 1))), none] [] n σ 0 0 := by
  have hc2 := hc.1
  have h1 := pw_up (j := 126) (i := 126) hc2 (Nat.le_refl _)
  refine P_fload_n (q := 69) dX7_bitsOf_68 rfl rfl ?_
  refine P_fconst1 (q := 70) dX7_bitsOf_69 rfl ?_
  refine P_fcmp (q := 71) dX7_bitsOf_70 rfl ?_
  refine P_if_ge (q := 74) (tgt := 82) dX7_bitsOf_71 rfl (by decide) (fun c_71 => ?_) (fun c_71 => ?_)
  · rw [cv_ge ha fz1] at c_71
    have c_71 : ((2 ^ 149 : Nat) : Int) ≤ ((c * 2 ^ 126 : Nat) : Int) := c_71
    have h2 : 2 ^ 23 ≤ c := by
      refine Nat.le_of_not_lt fun q => ?_
      have : c * 2 ^ 126 < 2 ^ 23 * 2 ^ 126 := Nat.mul_lt_mul_of_pos_right q (Nat.two_pow_pos 126)
      rw [← Nat.pow_add] at this
      omega
    have hs := ha.m1 hc2 h2
    refine P_iload_n (q := 83) dX7_bitsOf_82 rfl rfl ?_
    refine P_ldc (q := 85) dX7_bitsOf_83 rfl qX7_203 ?_
    rw [show (8388608 : Int32) = nI 8388608 from rfl]
    refine P_imul (q := 86) dX7_bitsOf_85 rfl ?_
    rw [nI_mul]
    refine P_fload_n (q := 87) dX7_bitsOf_86 rfl rfl ?_
    refine P_fconst1 (q := 88) dX7_bitsOf_87 rfl ?_
    refine P_fsub (q := 89) dX7_bitsOf_88 rfl (hs.nan) ?_
    refine P_ldcf (q := 91) dX7_bitsOf_89 rfl qX7_202 ?_
    refine P_fmul (q := 92) dX7_bitsOf_91 rfl ((hs.m23 (by omega)).nan) ?_
    refine P_f2i (q := 93) dX7_bitsOf_92 rfl ?_
    rw [(hs.m23 (by omega)).toI (by omega)]
    refine P_iadd (q := 94) dX7_bitsOf_93 rfl ?_
    rw [nI_add]
    refine b_94 hv hc hk hx hp ?_
    unfold fzB
    first
      | (rw [if_pos (show c < 8388608 from h2)]; show c = (0 * 256 + 0) * 8388608 + c; omega)
      | (rw [if_neg (show ¬ c < 8388608 by omega)]; show (k + 1) * 8388608 + (c - 2 ^ 23) = (0 * 256 + (k + 1)) * 8388608 + (c - 8388608); omega)
  · rw [cv_ge ha fz1] at c_71
    have c_71 : ¬ ((2 ^ 149 : Nat) : Int) ≤ ((c * 2 ^ 126 : Nat) : Int) := c_71
    have h2 : c < 2 ^ 23 := by
      refine Nat.lt_of_not_le fun q => ?_
      have := pw_dn (j := 126) (i := 126) q (Nat.le_refl _)
      omega
    have hk0 : k = 0 := by
      have := hc.2
      omega
    refine P_fload_n (q := 75) dX7_bitsOf_74 rfl rfl ?_
    refine P_ldcf (q := 77) dX7_bitsOf_75 rfl qX7_202 ?_
    refine P_fmul (q := 78) dX7_bitsOf_77 rfl ((ha.m23 hc2).nan) ?_
    refine P_f2i (q := 79) dX7_bitsOf_78 rfl ?_
    rw [(ha.m23 hc2).toI (by omega)]
    refine P_goto (tgt := 94) dX7_bitsOf_79 (by decide) ?_
    refine b_94 hv hc hk hx hp ?_
    unfold fzB
    first
      | (rw [if_pos (show c < 8388608 from h2)]; show c = (0 * 256 + 0) * 8388608 + c; omega)
      | (rw [if_neg (show ¬ c < 8388608 by omega)]; show (k + 1) * 8388608 + (c - 2 ^ 23) = (0 * 256 + (k + 1)) * 8388608 + (c - 8388608); omega)
set_option maxRecDepth 100000 in
set_option maxHeartbeats 4000000 in
theorem b_47 {n : Nat} {σ : Sto} {x : UInt32} {s : Bool} {c k : Nat} (hv : x.toNat = fzB s c k) (hc : cno c k) (hk : k ≤ 253) (hx : FZ x s (c * 2 ^ k)) (hp : 0 < c) : ∀ (d j : Nat) (a : UInt32), j + d = 126 → FZ a false (c * 2 ^ j) → (j = 126 → k ≤ 126 ∨ 2 ^ 23 ≤ c) → PW mX7_bitsOf 0 0 (fun v σ' => v = some (.int x.toInt32) ∧ σ' = σ) 47 [some (.float x), some (.float a), some (.int (nI (k + 127 - j))), none] [] n σ 0 0 := by
  intro d
  induction d with
  | zero =>
    intro j a hj ha _
    have e : j = 126 := by omega
    subst e
    rw [show k + 127 - 126 = k + 1 by omega]
    refine P_fload_n (q := 48) dX7_bitsOf_47 rfl rfl ?_
    refine P_fconst1 (q := 49) dX7_bitsOf_48 rfl ?_
    refine P_fcmp (q := 50) dX7_bitsOf_49 rfl ?_
    refine P_if_ge (q := 53) (tgt := 68) dX7_bitsOf_50 rfl (by decide) (fun c_50 => ?_) (fun c_50 => ?_)
    · clear c_50
      exact b_68 hv hc hk hx hp ha
    · rw [cv_ge ha fz1] at c_50
      have c_50 : ¬ ((2 ^ 149 : Nat) : Int) ≤ ((c * 2 ^ 126 : Nat) : Int) := c_50
      have h2 : c < 2 ^ 23 := by
        refine Nat.lt_of_not_le fun q => ?_
        have := pw_dn (j := 126) (i := 126) q (Nat.le_refl _)
        omega
      have hk0 : k = 0 := by
        have := hc.2
        omega
      refine P_iload_n (q := 54) dX7_bitsOf_53 rfl rfl ?_
      refine P_iconst (q := 55) (v := nI 1) dX7_bitsOf_54 rfl (by decide +kernel) ?_
      refine P_icmp_le (q := 58) (tgt := 68) dX7_bitsOf_55 rfl (by decide) (fun c_55 => ?_) (fun c_55 => ?_)
      · exact b_68 hv hc hk hx hp ha
      · exfalso; rw [nI_leI (by omega) (by omega)] at c_55; omega
  | succ d ih =>
    intro j a hj ha hjk
    have h1 : c * 2 ^ j < 2 ^ 149 := pw_up (i := 125) hc.1 (by omega)
    refine P_fload_n (q := 48) dX7_bitsOf_47 rfl rfl ?_
    refine P_fconst1 (q := 49) dX7_bitsOf_48 rfl ?_
    refine P_fcmp (q := 50) dX7_bitsOf_49 rfl ?_
    refine P_if_ge (q := 53) (tgt := 68) dX7_bitsOf_50 rfl (by decide) (fun c_50 => ?_) (fun c_50 => ?_)
    · exfalso; rw [cv_ge ha fz1] at c_50; have c_50 : ((2 ^ 149 : Nat) : Int) ≤ ((c * 2 ^ j : Nat) : Int) := c_50; omega
    · refine P_iload_n (q := 54) dX7_bitsOf_53 rfl rfl ?_
      refine P_iconst (q := 55) (v := nI 1) dX7_bitsOf_54 rfl (by decide +kernel) ?_
      refine P_icmp_le (q := 58) (tgt := 68) dX7_bitsOf_55 rfl (by decide) (fun c_55 => ?_) (fun c_55 => ?_)
      · exfalso; rw [nI_leI (by omega) (by omega)] at c_55; omega
      · obtain ⟨e, he⟩ : ∃ e, k + 127 - j = e + 1 := ⟨k + 126 - j, by omega⟩
        rw [he]
        refine P_fload_n (q := 59) dX7_bitsOf_58 rfl rfl ?_
        refine P_fconst2 (q := 60) dX7_bitsOf_59 rfl ?_
        refine P_fmul (q := 61) dX7_bitsOf_60 rfl ((ha.dbl hc.1 (by omega)).nan) ?_
        refine P_fstore_n (q := 62) (L' := [_, _, _, _]) dX7_bitsOf_61 rfl (by decide) rfl ?_
        refine P_iinc (q := 65) (L' := [_, _, _, _]) (v := nI e) dX7_bitsOf_62 rfl (by decide) rfl (nI_dec e) rfl ?_
        refine P_goto (tgt := 47) dX7_bitsOf_65 (by decide) ?_
        rw [show e = k + 127 - (j + 1) by omega]
        exact ih (j + 1) _ (by omega) (ha.dbl hc.1 (by omega)) (fun q => by have := hc.2; omega)
set_option maxRecDepth 100000 in
set_option maxHeartbeats 4000000 in
theorem b_24 {n : Nat} {σ : Sto} {x : UInt32} {s : Bool} {c k : Nat} (hv : x.toNat = fzB s c k) (hc : cno c k) (hk : k ≤ 253) (hx : FZ x s (c * 2 ^ k)) (hp : 0 < c) : ∀ (d j : Nat) (a : UInt32), j ≤ 126 + d → j ≤ k → (j < 126 → j = k) → FZ a false (c * 2 ^ j) → PW mX7_bitsOf 0 0 (fun v σ' => v = some (.int x.toInt32) ∧ σ' = σ) 24 [some (.float x), some (.float a), some (.int (nI (k + 127 - j))), none] [] n σ 0 0 := by
  have hcn := hc.2
  have exit : ∀ (j : Nat) (a : UInt32), j ≤ 126 → j ≤ k → FZ a false (c * 2 ^ j) → PW mX7_bitsOf 0 0 (fun v σ' => v = some (.int x.toInt32) ∧ σ' = σ) 24 [some (.float x), some (.float a), some (.int (nI (k + 127 - j))), none] [] n σ 0 0 := by
    intro j a hj hjk ha
    have h1 : c * 2 ^ j < 2 ^ 150 := pw_up (i := 126) hc.1 hj
    refine P_fload_n (q := 25) dX7_bitsOf_24 rfl rfl ?_
    refine P_fconst2 (q := 26) dX7_bitsOf_25 rfl ?_
    refine P_fcmp (q := 27) dX7_bitsOf_26 rfl ?_
    refine P_if_lt (q := 30) (tgt := 47) dX7_bitsOf_27 rfl (by decide) (fun c_27 => ?_) (fun c_27 => ?_)
    · clear c_27
      exact b_47 hv hc hk hx hp (126 - j) j a (by omega) ha (fun q => by omega)
    · exfalso; rw [cv_lt ha fz2] at c_27; have c_27 : ¬ ((c * 2 ^ j : Nat) : Int) < ((2 ^ 150 : Nat) : Int) := c_27; omega
  intro d
  induction d with
  | zero =>
    intro j a hj hjk _ ha
    exact exit j a (by omega) hjk ha
  | succ d ih =>
    intro j a hj hjk hjl ha
    by_cases hj6 : j ≤ 126
    · exact exit j a hj6 hjk ha
    obtain ⟨i, rfl⟩ : ∃ i, j = i + 1 := ⟨j - 1, by omega⟩
    have h2 : 2 ^ 23 ≤ c := by omega
    have h1 : 2 ^ 150 ≤ c * 2 ^ (i + 1) := pw_dn (i := 127) h2 (by omega)
    refine P_fload_n (q := 25) dX7_bitsOf_24 rfl rfl ?_
    refine P_fconst2 (q := 26) dX7_bitsOf_25 rfl ?_
    refine P_fcmp (q := 27) dX7_bitsOf_26 rfl ?_
    refine P_if_lt (q := 30) (tgt := 47) dX7_bitsOf_27 rfl (by decide) (fun c_27 => ?_) (fun c_27 => ?_)
    · exfalso; rw [cv_lt ha fz2] at c_27; have c_27 : ((c * 2 ^ (i + 1) : Nat) : Int) < ((2 ^ 150 : Nat) : Int) := c_27; omega
    · refine P_iload_n (q := 31) dX7_bitsOf_30 rfl rfl ?_
      refine P_sipush (q := 34) (v := nI 254) dX7_bitsOf_31 rfl (by decide +kernel) ?_
      refine P_icmp_ge (q := 37) (tgt := 47) dX7_bitsOf_34 rfl (by decide) (fun c_34 => ?_) (fun c_34 => ?_)
      · exfalso; rw [nI_leI (by omega) (by omega)] at c_34; omega
      · refine P_fload_n (q := 38) dX7_bitsOf_37 rfl rfl ?_
        refine P_fconst2 (q := 39) dX7_bitsOf_38 rfl ?_
        refine P_fdiv (q := 40) dX7_bitsOf_39 rfl ((ha.half hc.1 (by omega)).nan) ?_
        refine P_fstore_n (q := 41) (L' := [_, _, _, _]) dX7_bitsOf_40 rfl (by decide) rfl ?_
        refine P_iinc (q := 44) (L' := [_, _, _, _]) (v := nI (k + 127 - i)) dX7_bitsOf_41 rfl (by decide) rfl ((nI_1 _).trans (congrArg nI (by omega))) rfl ?_
        refine P_goto (tgt := 24) dX7_bitsOf_44 (by decide) ?_
        exact ih i _ (by omega) (by omega) (fun q => by omega) (ha.half hc.1 (by omega))
set_option maxRecDepth 100000 in
set_option maxHeartbeats 4000000 in
theorem t_bitsOf {n : Nat} {σ : Sto} {x : UInt32} {s : Bool} {m : Nat} (hx : FZ x s m) (h0 : s = true → m ≠ 0) : CD mX7_bitsOf [.float x] n σ (some (.int x.toInt32)) σ := by
  obtain ⟨c, k, hc, hk, rfl, hv, -⟩ := hx.bits
  refine CP_of (by decide +kernel) (Nat.le_of_ble_eq_true rfl) ?_
  change PW _ _ _ _ 0 [_, _, _, _] [] _ _ _ _
  refine P_fload_n (q := 1) dX7_bitsOf_0 rfl rfl ?_
  refine P_fconst0 (q := 2) dX7_bitsOf_1 rfl ?_
  refine P_fcmp (q := 3) dX7_bitsOf_2 rfl ?_
  refine P_if_ne (q := 6) (tgt := 8) dX7_bitsOf_3 rfl (by decide) (fun c_3 => ?_) (fun c_3 => ?_)
  · rw [cv_0 hx fz0] at c_3
    have hp : 0 < c := by
      refine Nat.pos_of_ne_zero fun q => c_3 ?_
      subst q
      rw [Nat.zero_mul]
      cases s <;> rfl
    have hm : 0 < c * 2 ^ k := Nat.mul_pos hp (Nat.two_pow_pos k)
    refine P_fload_n (q := 9) dX7_bitsOf_8 rfl rfl ?_
    refine P_fconst0 (q := 10) dX7_bitsOf_9 rfl ?_
    refine P_fcmp (q := 11) dX7_bitsOf_10 rfl ?_
    refine P_if_ge (q := 14) (tgt := 19) dX7_bitsOf_11 rfl (by decide) (fun c_11 => ?_) (fun c_11 => ?_)
    · rw [cv_ge hx fz0] at c_11
      have hx1 : FZ x false (c * 2 ^ k) := by
        cases s with
        | false => exact hx
        | true => exact absurd (show ((0 : Nat) : Int) ≤ -((c * 2 ^ k : Nat) : Int) from c_11) (by omega)
      refine P_fload_n (q := 20) dX7_bitsOf_19 rfl rfl ?_
      refine P_fstore_n (q := 21) (L' := [_, _, _, _]) dX7_bitsOf_20 rfl (by decide) rfl ?_
      refine P_bipush (q := 23) (v := nI 127) dX7_bitsOf_21 rfl (by decide +kernel) ?_
      refine P_istore_n (q := 24) (L' := [_, _, _, _]) dX7_bitsOf_23 rfl (by decide) rfl ?_
      have h24 := b_24 (n := n) (σ := σ) hv hc hk hx hp (k - 126) k _ (by omega) (Nat.le_refl _) (fun _ => rfl) hx1
      rw [show k + 127 - k = 127 by omega] at h24
      exact h24
    · rw [cv_ge hx fz0] at c_11
      have hx1 : FZ (FP.fneg x) false (c * 2 ^ k) := by
        cases s with
        | true => exact hx.neg
        | false => exact absurd (show ((0 : Nat) : Int) ≤ ((c * 2 ^ k : Nat) : Int) by omega) c_11
      refine P_fload_n (q := 15) dX7_bitsOf_14 rfl rfl ?_
      refine P_fneg (q := 16) dX7_bitsOf_15 rfl ?_
      refine P_goto (tgt := 20) dX7_bitsOf_16 (by decide) ?_
      refine P_fstore_n (q := 21) (L' := [_, _, _, _]) dX7_bitsOf_20 rfl (by decide) rfl ?_
      refine P_bipush (q := 23) (v := nI 127) dX7_bitsOf_21 rfl (by decide +kernel) ?_
      refine P_istore_n (q := 24) (L' := [_, _, _, _]) dX7_bitsOf_23 rfl (by decide) rfl ?_
      have h24 := b_24 (n := n) (σ := σ) hv hc hk hx hp (k - 126) k _ (by omega) (Nat.le_refl _) (fun _ => rfl) hx1
      rw [show k + 127 - k = 127 by omega] at h24
      exact h24
  · rw [cv_0 hx fz0] at c_3
    have hc0 : c = 0 := by
      refine Nat.eq_zero_of_not_pos fun q => ?_
      have hm : 0 < c * 2 ^ k := Nat.mul_pos q (Nat.two_pow_pos k)
      cases s with
      | false => have c_3 : ((c * 2 ^ k : Nat) : Int) = ((0 : Nat) : Int) := c_3; omega
      | true => have c_3 : -((c * 2 ^ k : Nat) : Int) = ((0 : Nat) : Int) := c_3; omega
    subst hc0
    have hs : s = false := by
      cases s with
      | false => rfl
      | true => exact absurd (Nat.zero_mul _) (h0 rfl)
    subst hs
    have hx0 : x.toInt32 = nI 0 := fz_i32 hv
    refine P_iconst (q := 7) (v := nI 0) dX7_bitsOf_6 rfl (by decide +kernel) ?_
    refine P_iret dX7_bitsOf_7 rfl (rfl) ?_
    exact ⟨congrArg (fun z => some (Value.int z)) hx0.symm, rfl⟩
