/-! HEAT: what is answered -/
def St.eL (A : St) : Int := 2 * ((A.md false).lo : Int) - ((A.md false).wr : Int)
def St.eH (A : St) : Int := 2 * ((A.md false).hi : Int) - ((A.md false).wr : Int)
def St.eK (A : St) : Nat := 2 * (A.md false).hi + 1 - 2 * (A.md false).lo
def St.en (A : St) (k : Nat) : Nat := A.CE false (A.eL + k)
def hB (h : Nat) : UInt32 := FP.fdiv (FP.i2f (nI h)) (1120403456 : UInt32)
def hM (h : Nat) : Nat := rq (h * 2 ^ 149 * 2 ^ 149) (100 * 2 ^ 149)
theorem hB_fz {h : Nat} (hh : h ≤ 100) : FZ (hB h) false (hM h) := by
  have h1 := fI_fz (n := h) (by omega)
  have e := rq_ex (D := 1) (c := h) (k := 149) (by decide) (by omega)
  rw [Nat.mul_one] at e
  rw [e] at h1
  exact h1.div fz100 (by decide) (Nat.lt_of_le_of_lt (Nat.mul_le_mul_right _ (Nat.mul_le_mul_right _ hh)) (by decide +kernel))
theorem hM_le {h : Nat} (hh : h ≤ 100) : hM h ≤ 2 ^ 149 := by
  have h1 : hM h ≤ 1 * 2 ^ 149 := rq_le (by decide) (by decide) (Nat.le_trans (Nat.mul_le_mul_right _ (Nat.mul_le_mul_right _ hh)) (by decide +kernel))
  rw [Nat.one_mul] at h1
  exact h1
theorem hM_100 : hM 100 = 2 ^ 149 := by
  have := rq_ex (D := 100 * 2 ^ 149) (c := 1) (k := 149) (by decide) (by decide)
  rw [Nat.one_mul] at this
  unfold hM
  rw [Nat.mul_comm (100 * 2 ^ 149)]
  exact this
theorem hM_99 {h : Nat} (hh : h ≤ 99) : 100 * (16777216 * hM h) ≤ 99 * (16777217 * 2 ^ 149) + 100 * 16777216 := by
  have h1 := rq_h2 (N := h * 2 ^ 149 * 2 ^ 149) (D := 100 * 2 ^ 149) (by decide)
  have h1 : 16777216 * (hM h * (100 * 2 ^ 149)) ≤ 16777217 * (h * 2 ^ 149 * 2 ^ 149) + 16777216 * (100 * 2 ^ 149) := h1
  generalize hM h = B at h1 ⊢
  have hD : 0 < 2 ^ 149 := Nat.two_pow_pos 149
  generalize 2 ^ 149 = D at h1 hD ⊢
  refine Nat.le_of_mul_le_mul_right (c := D) ?_ hD
  have e1 : 100 * (16777216 * B) * D = 16777216 * (B * (100 * D)) := by
    rw [Nat.mul_left_comm B, Nat.mul_left_comm 16777216 100, Nat.mul_assoc, Nat.mul_assoc]
  have e2 : h * D * D ≤ 99 * D * D := Nat.mul_le_mul_right _ (Nat.mul_le_mul_right _ hh)
  have e3 : (99 * (16777217 * D) + 100 * 16777216) * D = 16777217 * (99 * D * D) + 16777216 * (100 * D) := by
    rw [Nat.add_mul, Nat.mul_left_comm 99, Nat.mul_assoc 16777217, Nat.mul_assoc, Nat.mul_left_comm 16777216]
    rw [Nat.mul_assoc 100 16777216]
  rw [e1, e3]
  omega
theorem en_pt {A : St} (hA : A.ok) : ∃ l h : Nat, l ≤ h ∧ h ≤ 400 ∧ A.eL = (l : Int) - 200 ∧ A.eH = (h : Int) - 200 ∧ A.eK = h + 1 - l ∧ A.CE false ((l : Int) - 200) ≠ 0 ∧ (∀ y : Nat, y < l → A.CE false ((y : Int) - 200) = 0) ∧ ∀ y : Nat, h < y → y ≤ 400 → A.CE false ((y : Int) - 200) = 0 := by
  obtain ⟨⟨l, l1, l2, l3, l4⟩, h, h1, h2, h3, h4⟩ := lo_hi hA
  refine ⟨l, h, Nat.le_of_not_lt fun q => l3 (h4 l q l1), h1, l2.symm, h2.symm, ?_, l3, l4, h4⟩
  have : l ≤ h := Nat.le_of_not_lt fun q => l3 (h4 l q l1)
  unfold St.eK
  omega
theorem en_le {A : St} (hA : A.ok) (k : Nat) : A.en k ≤ 2 ^ 30 := CE_le hA false _
theorem en_0 {A : St} (hA : A.ok) : 1 ≤ A.en 0 := by
  obtain ⟨l, h, -, -, e, -, -, h3, -⟩ := en_pt hA
  refine Nat.pos_of_ne_zero ?_
  unfold St.en
  rw [e, Int.natCast_zero, Int.add_zero]
  exact h3
theorem eK_1 {A : St} (hA : A.ok) : 1 ≤ A.eK ∧ A.eK ≤ 401 ∧ ∀ i : Nat, i < A.eK → (A.eL + i).natAbs ≤ 200 := by
  obtain ⟨l, h, h1, h2, e1, e2, e3, -⟩ := en_pt hA
  refine ⟨by omega, by omega, fun i hi => ?_⟩
  omega
theorem e_mom {A : St} (hA : A.ok) : sumZ A.eK (fun k => (A.eL + (k : Int)) * (A.en k : Int)) = 0 := by
  obtain ⟨l, h, h1, h2, e1, e2, e3, -, z1, z2⟩ := en_pt hA
  have hm := CE_mom hA
  rw [show 601 = (100 + l) + (A.eK + (601 - (100 + l) - A.eK)) by omega, sumZ_split (100 + l), sumZ_split A.eK] at hm
  have a1 : sumZ (100 + l) (fun y => (-300 + (y : Int)) * (A.CE false (-300 + (y : Int)) : Int)) = 0 := by
    refine (sumZ_congr (g := fun _ => 0) fun y hy => ?_).trans (sumZ_zero _)
    have e : A.CE false (-300 + (y : Int)) = 0 := by
      by_cases hy2 : y < 100
      · exact CE_out hA false (by omega)
      · obtain ⟨q, rfl⟩ : ∃ q, y = 100 + q := ⟨y - 100, by omega⟩
        have := z1 q (by omega)
        rw [show -300 + ((100 + q : Nat) : Int) = (q : Int) - 200 by omega]
        exact this
    rw [e]
    exact Int.mul_zero _
  have a2 : sumZ (601 - (100 + l) - A.eK) (fun y => (-300 + ((100 + l + (A.eK + y) : Nat) : Int)) * (A.CE false (-300 + ((100 + l + (A.eK + y) : Nat) : Int)) : Int)) = 0 := by
    refine (sumZ_congr (g := fun _ => 0) fun y hy => ?_).trans (sumZ_zero _)
    have e : A.CE false (-300 + ((100 + l + (A.eK + y) : Nat) : Int)) = 0 := by
      by_cases hy2 : h + 1 + y ≤ 400
      · have := z2 (h + 1 + y) (by omega) hy2
        rw [show -300 + ((100 + l + (A.eK + y) : Nat) : Int) = ((h + 1 + y : Nat) : Int) - 200 by omega]
        exact this
      · exact CE_out hA false (by omega)
    rw [e]
    exact Int.mul_zero _
  rw [a1, a2, Int.zero_add, Int.add_zero] at hm
  rw [← hm]
  refine sumZ_congr fun k _ => ?_
  unfold St.en
  rw [show -300 + ((100 + l + k : Nat) : Int) = A.eL + (k : Int) by omega]
theorem e_bal {A : St} (hA : A.ok) {j I : Nat} (hj : A.eL = -(j : Int)) (hK : A.eK = j + I) : sumN j (fun i => A.en i * (j - i)) = sumN I (fun i => A.en (j + i) * i) := by
  have h := e_mom hA
  rw [hK, sumZ_split, hj] at h
  have e1 : sumZ j (fun k => (-(j : Int) + (k : Int)) * (A.en k : Int)) = -((sumN j (fun i => A.en i * (j - i)) : Nat) : Int) := by
    have q := sumZ_mul j (-1) (fun i => ((A.en i * (j - i) : Nat) : Int))
    rw [Int.neg_one_mul] at q
    rw [sumN_cast, ← q]
    refine sumZ_congr fun i hi => ?_
    rw [Int.natCast_mul, Int.natCast_sub (by omega), Int.neg_one_mul, Int.mul_comm, ← Int.mul_neg]
    congr 1
    omega
  have e2 : sumZ I (fun i => (-(j : Int) + ((j + i : Nat) : Int)) * (A.en (j + i) : Int)) = ((sumN I (fun i => A.en (j + i) * i) : Nat) : Int) := by
    rw [sumN_cast]
    refine sumZ_congr fun i hi => ?_
    rw [Int.natCast_mul, show -(j : Int) + ((j + i : Nat) : Int) = (i : Int) by omega, Int.mul_comm]
  rw [e1, e2] at h
  omega
theorem e_big {A : St} (hA : A.ok) {h : Nat} (hh : h ≤ 100) (hz : zN A.en (hM h) A.eL A.eK < 0) : 2 ^ 39 ≤ (zN A.en (hM h) A.eL A.eK).natAbs := by
  obtain ⟨k1, k2, k3⟩ := eK_1 hA
  by_cases h1 : h = 100
  · subst h1
    rw [hM_100] at hz ⊢
    exact z_one hz
  · by_cases hL : 0 ≤ A.eL
    · have := zN_nn (n := A.en) (B := hM h) hL A.eK
      omega
    · obtain ⟨j, hj⟩ : ∃ j : Nat, A.eL = -(j : Int) := ⟨A.eL.natAbs, by omega⟩
      have hj2 : j ≤ 200 := by
        have := k3 0 (by omega)
        omega
      rw [hj] at hz ⊢
      by_cases hKj : A.eK ≤ j
      · exact z_neg (en_0 hA) (by omega) hj2 k1 hKj
      · obtain ⟨I, hI⟩ : ∃ I, A.eK = j + I := ⟨A.eK - j, by omega⟩
        rw [hI] at hz ⊢
        exact z_big (en_le hA) (en_0 hA) (by omega) hj2 (by omega) (hM_le hh) (hM_99 (by omega)) (e_bal hA hj hI)
theorem hS_fz {A : St} (hA : A.ok) {h : Nat} (hh : h ≤ 100) : ∃ m, FZ (fS A.en (hB h) A.eK) false m ∧ 2 ^ 149 ≤ m ∧ m ≤ 401 * 2 ^ 179 := by
  obtain ⟨k1, k2, k3⟩ := eK_1 hA
  refine ⟨_, fS_fz (hB_fz hh) (hM_le hh) (en_le hA) A.eK (by omega), ?_, ?_⟩
  · obtain ⟨K, hK⟩ : ∃ K, A.eK = K + 1 := ⟨A.eK - 1, by omega⟩
    rw [hK]
    exact sN_ge (en_0 hA) K
  · exact Nat.le_trans (sN_le (hM_le hh) (en_le hA) A.eK (by omega)) (Nat.mul_le_mul_right _ k2)
theorem hE_fz {A : St} (hA : A.ok) {h : Nat} (hh : h ≤ 100) : ∃ s m, FZ (FP.fdiv (fE A.en (hB h) A.eL A.eK) (fS A.en (hB h) A.eK)) s m ∧ (s = true → m ≠ 0) := by
  obtain ⟨k1, k2, k3⟩ := eK_1 hA
  obtain ⟨m, m1, m2, m3⟩ := hS_fz hA hh
  have e1 := fE_fz (L := A.eL) (hB_fz hh) (hM_le hh) (en_le hA) A.eK (by omega) k3
  have e2 := zN_le (L := A.eL) (hM_le hh) (en_le hA) A.eK (by omega) k3
  have e3 := e_big hA hh
  have e4 : A.eK * 2 ^ 187 ≤ 401 * 2 ^ 187 := Nat.mul_le_mul_right _ k2
  have b1 : 401 * 2 ^ 187 < 2 ^ 196 := by decide +kernel
  have hlt : (zN A.en (hM h) A.eL A.eK).natAbs * 2 ^ 149 < m * 2 ^ 276 := by
    have q1 : (zN A.en (hM h) A.eL A.eK).natAbs * 2 ^ 149 < 2 ^ 196 * 2 ^ 149 := Nat.mul_lt_mul_of_pos_right (by omega) (Nat.two_pow_pos 149)
    refine Nat.lt_of_lt_of_le q1 ?_
    refine Nat.le_trans ?_ (Nat.mul_le_mul_right _ m2)
    decide +kernel
  refine ⟨_, _, e1.div m1 (by have := Nat.two_pow_pos 149; omega) hlt, fun q => ?_⟩
  have q : (decide (zN A.en (hM h) A.eL A.eK < 0) != false) = true := q
  have hz : zN A.en (hM h) A.eL A.eK < 0 := by
    by_cases hz : zN A.en (hM h) A.eL A.eK < 0
    · exact hz
    · rw [decide_eq_false hz] at q; cases q
  have e3 := e3 hz
  have h5 : 1 * 2 ^ 0 ≤ rq ((zN A.en (hM h) A.eL A.eK).natAbs * 2 ^ 149) m := rq_ge (by have := Nat.two_pow_pos 149; omega) (by decide) (by
    rw [Nat.pow_zero, Nat.one_mul]
    refine Nat.le_trans m3 (Nat.le_trans ?_ (Nat.mul_le_mul_right _ e3))
    decide +kernel)
  omega
/-- the answer of heat -/
def oHeat (w : Cs) (z : Int) (b : Bool) : Int32 × Cs := (if 50 ≤ z ∧ z ≤ 100 then (if b = true then (FP.fdiv (fE w.A.en (hB z.toNat) w.A.eL w.A.eK) (fS w.A.en (hB z.toNat) w.A.eK)).toInt32 else (fS w.A.en (hB z.toNat) w.A.eK).toInt32) else 0, w)
theorem fU_nan {A : St} (hA : A.ok) {h : Nat} (hh : h ≤ 100) {k : Nat} (hk : k < A.eK) : vf_n32 (fT A.en (hB h) k) ∧ vf_n32 (fU A.en (hB h) A.eL k) ∧ vf_n32 (fS A.en (hB h) (k + 1)) ∧ vf_n32 (fE A.en (hB h) A.eL (k + 1)) ∧ vf_n32 (fW (hB h) (k + 1)) := by
  obtain ⟨k1, k2, k3⟩ := eK_1 hA
  exact ⟨(fT_fz (hB_fz hh) (hM_le hh) (en_le hA k)).nan, (fU_fz (hB_fz hh) (hM_le hh) (en_le hA k) (k3 k hk)).nan, (fS_fz (hB_fz hh) (hM_le hh) (en_le hA) (k + 1) (by omega)).nan, (fE_fz (hB_fz hh) (hM_le hh) (en_le hA) (k + 1) (by omega) (fun i hi => k3 i (by omega))).nan, (fW_fz (hB_fz hh) (hM_le hh) (k + 1)).nan⟩
