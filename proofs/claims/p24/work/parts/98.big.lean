/-! HEAT: the sum of energies is no small negative number -/
theorem sumN_mulL (n k : Nat) (f : Nat → Nat) : sumN n (fun i => k * f i) = k * sumN n f := by
  induction n with
  | zero => exact (Nat.mul_zero k).symm
  | succ n ih =>
    show sumN n (fun i => k * f i) + k * f n = k * (sumN n f + f n)
    rw [ih, Nat.mul_add]
theorem sumN_pre {i I : Nat} (h : i ≤ I) (f : Nat → Nat) : sumN i f ≤ sumN I f := by
  obtain ⟨d, rfl⟩ := Nat.le.dest h
  rw [sumN_split]
  exact Nat.le_add_right _ _
theorem zN_nn {n : Nat → Nat} {B : Nat} {L : Int} (hL : 0 ≤ L) : ∀ k : Nat, 0 ≤ zN n B L k
  | 0 => Int.le_refl 0
  | k + 1 => by
    have h1 := zN_nn (n := n) (B := B) hL k
    have h2 : 0 ≤ uZ n B L k := by
      unfold uZ
      rw [if_neg (by omega)]
      exact Int.natCast_nonneg _
    refine Int.not_lt.mp fun q => ?_
    have h3 := (rz_neg (zN n B L k + uZ n B L k)).mp q
    omega
theorem rz_np {v : Int} (h : v ≤ 0) : rz v = -((rq v.natAbs 1 : Nat) : Int) := by
  unfold rz
  by_cases h2 : v < 0
  · rw [if_pos h2]
  · have : v = 0 := by omega
    subst this
    rw [if_neg h2]
    show ((rq 0 1 : Nat) : Int) = -((rq 0 1 : Nat) : Int)
    rw [rq_0 1 (by decide)]
    rfl
theorem st_1 {k Y N : Nat} (hk : k ≤ 400) (h : 16777215 * Y ≤ 16777216 * N) : (16777216 + 2 * k) * Y ≤ (16777216 + 2 * (k + 1)) * N := by
  have a : (16777216 + 2 * k) * 16777216 ≤ (16777216 + 2 * (k + 1)) * 16777215 := by omega
  have b := Nat.mul_le_mul_right Y a
  have c := Nat.mul_le_mul_left (16777216 + 2 * (k + 1)) h
  refine Nat.le_of_mul_le_mul_left (c := 16777216) ?_ (by decide)
  calc 16777216 * ((16777216 + 2 * k) * Y) = (16777216 + 2 * k) * 16777216 * Y := by rw [← Nat.mul_assoc, Nat.mul_comm 16777216]
    _ ≤ (16777216 + 2 * (k + 1)) * 16777215 * Y := b
    _ = (16777216 + 2 * (k + 1)) * (16777215 * Y) := Nat.mul_assoc _ _ _
    _ ≤ (16777216 + 2 * (k + 1)) * (16777216 * N) := c
    _ = 16777216 * ((16777216 + 2 * (k + 1)) * N) := Nat.mul_left_comm _ _ _
theorem uM_0 {n : Nat → Nat} {B : Nat} {L : Int} (h : 1 ≤ n 0) (hL : 1 ≤ L.natAbs) : 2 ^ 149 ≤ uM n B L 0 := by
  have h1 := tN_0 (B := B) h
  have e : (L + ((0 : Nat) : Int)).natAbs = L.natAbs := by rw [Int.natCast_zero, Int.add_zero]
  have h2 : 1 * 2 ^ 149 ≤ uM n B L 0 := rq_ge (by decide) (by decide) (by
    rw [Nat.mul_one, e, Nat.mul_comm 1]
    exact Nat.mul_le_mul h1 hL)
  rw [Nat.one_mul] at h2
  exact h2
theorem ph_1 {n : Nat → Nat} {B j : Nat} (h0 : 1 ≤ n 0) (h1 : 1 ≤ j) (h2 : j ≤ 200) : ∀ k : Nat, k ≤ j → zN n B (-(j : Int)) k ≤ 0 ∧ 16777216 * sumN k (uM n B (-(j : Int))) ≤ (16777216 + 2 * k) * (zN n B (-(j : Int)) k).natAbs ∧ (1 ≤ k → 2 ^ 149 ≤ (zN n B (-(j : Int)) k).natAbs) := by
  intro k
  induction k with
  | zero => exact fun _ => ⟨Int.le_refl 0, Nat.zero_le _, fun q => absurd q (by decide)⟩
  | succ k ih =>
    intro hk
    obtain ⟨a1, a2, a3⟩ := ih (by omega)
    have hu : uZ n B (-(j : Int)) k = -((uM n B (-(j : Int)) k : Nat) : Int) := if_pos (by omega)
    have u0 : k = 0 → 2 ^ 149 ≤ uM n B (-(j : Int)) k := fun q => by
      subst q
      exact uM_0 h0 (by omega)
    have ez : zN n B (-(j : Int)) (k + 1) = rz (zN n B (-(j : Int)) k + uZ n B (-(j : Int)) k) := rfl
    have es : sumN (k + 1) (uM n B (-(j : Int))) = sumN k (uM n B (-(j : Int))) + uM n B (-(j : Int)) k := rfl
    rw [ez, es, hu]
    generalize uM n B (-(j : Int)) k = u at u0 ⊢
    generalize sumN k (uM n B (-(j : Int))) = A at a2 ⊢
    generalize zN n B (-(j : Int)) k = z at a1 a2 a3 ⊢
    have hv : z + -(u : Int) ≤ 0 := by omega
    have hY : (z + -(u : Int)).natAbs = z.natAbs + u := by omega
    have hr := rz_np hv
    have hd := rq_dn (z + -(u : Int)).natAbs
    have hge : 1 * 2 ^ 149 ≤ rq (z + -(u : Int)).natAbs 1 := rq_ge (by decide) (by decide) (by
      rw [hY]
      rcases Nat.eq_zero_or_pos k with q | q
      · have := u0 q; omega
      · have := a3 q; omega)
    rw [hY] at hr hd hge
    rw [hr]
    generalize rq (z.natAbs + u) 1 = N at hd hge ⊢
    have hN : (-(N : Int)).natAbs = N := by omega
    rw [hN]
    refine ⟨by omega, ?_, fun _ => by omega⟩
    have hs := st_1 (k := k) (Y := z.natAbs + u) (N := N) (by omega) hd
    have e1 : (16777216 + 2 * k) * (z.natAbs + u) = (16777216 + 2 * k) * z.natAbs + (16777216 + 2 * k) * u := Nat.mul_add _ _ _
    have e2 : 16777216 * u ≤ (16777216 + 2 * k) * u := Nat.mul_le_mul_right _ (by omega)
    rw [Nat.mul_add]
    omega
theorem zN_rep (n : Nat → Nat) (B : Nat) (L : Int) (k : Nat) : ∃ c i, c < 2 ^ 24 ∧ c * 2 ^ i = (zN n B L k).natAbs := by
  cases k with
  | zero => exact ⟨0, 0, by decide, rfl⟩
  | succ k =>
    obtain ⟨c, i, h1, h2, -⟩ := rq_cno (N := (zN n B L k + uZ n B L k).natAbs) (D := 1) (by decide)
    refine ⟨c, i, h1.1, h2.trans ?_⟩
    exact (rz_abs _).symm
theorem ph_2 {n : Nat → Nat} {B j I N : Nat} (hI : I ≤ 401) (hz : zN n B (-(j : Int)) j = -(N : Int)) (hN : 2 ^ 149 ≤ N) (hU : 100 * sumN I (fun i => uM n B (-(j : Int)) (j + i)) ≤ 99 * N) : ∀ i, i ≤ I → zN n B (-(j : Int)) (j + i) ≤ 0 ∧ (zN n B (-(j : Int)) (j + i)).natAbs ≤ N ∧ 16777216 * N ≤ 16777216 * (zN n B (-(j : Int)) (j + i)).natAbs + 16777216 * sumN i (fun i => uM n B (-(j : Int)) (j + i)) + i * N := by
  obtain ⟨c, m, hc, hcm⟩ := zN_rep n B (-(j : Int)) j
  rw [hz, show (-(N : Int)).natAbs = N by omega] at hcm
  intro i
  induction i with
  | zero =>
    intro _
    rw [Nat.add_zero, hz]
    exact ⟨by omega, by omega, by omega⟩
  | succ i ih =>
    intro hi
    obtain ⟨a1, a2, a3⟩ := ih (by omega)
    have hu : uZ n B (-(j : Int)) (j + i) = ((uM n B (-(j : Int)) (j + i) : Nat) : Int) := if_neg (by omega)
    have ez : zN n B (-(j : Int)) (j + (i + 1)) = rz (zN n B (-(j : Int)) (j + i) + uZ n B (-(j : Int)) (j + i)) := rfl
    have hp := sumN_pre hi (fun i => uM n B (-(j : Int)) (j + i))
    have es : sumN (i + 1) (fun i => uM n B (-(j : Int)) (j + i)) = sumN i (fun i => uM n B (-(j : Int)) (j + i)) + uM n B (-(j : Int)) (j + i) := rfl
    rw [es] at hp
    rw [ez, es, hu]
    generalize sumN I (fun i => uM n B (-(j : Int)) (j + i)) = UI at hU hp
    generalize sumN i (fun i => uM n B (-(j : Int)) (j + i)) = U at a3 hp ⊢
    generalize uM n B (-(j : Int)) (j + i) = u at hp ⊢
    generalize zN n B (-(j : Int)) (j + i) = z at a1 a2 a3 ⊢
    have hiN : i * N ≤ 401 * N := Nat.mul_le_mul_right _ (by omega)
    have hle : u ≤ z.natAbs := by omega
    have hv : z + (u : Int) ≤ 0 := by omega
    have hY : (z + (u : Int)).natAbs = z.natAbs - u := by omega
    have hr := rz_np hv
    have hd := rq_dn (z + (u : Int)).natAbs
    have hle2 : rq (z + (u : Int)).natAbs 1 ≤ c * 2 ^ m := rq_le (by decide) hc (by rw [Nat.mul_one, hcm, hY]; omega)
    rw [hY] at hr hd hle2
    rw [hr]
    generalize rq (z.natAbs - u) 1 = N' at hd hle2 ⊢
    have hN' : (-(N' : Int)).natAbs = N' := by omega
    rw [hN', Nat.add_mul, Nat.one_mul]
    rw [hcm] at hle2
    exact ⟨by omega, hle2, by omega⟩
theorem w_drop {B k : Nat} (hB : B ≤ 2 ^ 149) (hb : 100 * (16777216 * B) ≤ 99 * (16777217 * 2 ^ 149) + 100 * 16777216) : 100 * (16777216 * 16777216) * wN B (k + 1) ≤ 99 * (16777217 * 16777217) * wN B k + 100 * (16777216 * (16777216 + 16777217)) := by
  have h1 := rq_h2 (N := wN B k * B) (Nat.two_pow_pos 149)
  have h1 : 16777216 * (wN B (k + 1) * 2 ^ 149) ≤ 16777217 * (wN B k * B) + 16777216 * 2 ^ 149 := h1
  have hw := wN_le hB k
  have h2 := Nat.mul_le_mul_left (wN B k) hb
  generalize wN B (k + 1) = w' at h1 ⊢
  generalize wN B k = w at h1 h2 hw ⊢
  have hD : 0 < 2 ^ 149 := Nat.two_pow_pos 149
  generalize 2 ^ 149 = D at h1 h2 hw hD
  refine Nat.le_of_mul_le_mul_right (c := D) ?_ hD
  have e1 : w * (100 * (16777216 * B)) = 100 * 16777216 * (w * B) := by rw [← Nat.mul_assoc 100, Nat.mul_left_comm]
  have e2 : w * (99 * (16777217 * D) + 100 * 16777216) = 99 * 16777217 * (w * D) + 100 * 16777216 * w := by rw [Nat.mul_add, ← Nat.mul_assoc 99, Nat.mul_left_comm, Nat.mul_comm w (100 * 16777216)]
  have e3 : 100 * (16777216 * 16777216) * w' * D = 100 * (16777216 * 16777216) * (w' * D) := Nat.mul_assoc _ _ _
  have e4 : (99 * (16777217 * 16777217) * w + 100 * (16777216 * (16777216 + 16777217))) * D = 99 * (16777217 * 16777217) * (w * D) + 100 * (16777216 * (16777216 + 16777217)) * D := by rw [Nat.add_mul, Nat.mul_assoc (99 * (16777217 * 16777217))]
  rw [e1, e2] at h2
  rw [e3, e4]
  generalize w * B = X at *
  generalize w * D = Y at *
  generalize w' * D = Z at *
  clear hb e1 e2 e3 e4
  omega
theorem t_lo {n : Nat → Nat} {B : Nat} {L : Int} {k V : Nat} (hV : 2 ^ 57 ≤ V) (hw : V ≤ wN B k) : 999 * (n k * V * (L + k).natAbs) ≤ 1000 * uM n B L k := by
  by_cases h0 : n k = 0
  · rw [h0, Nat.zero_mul, Nat.zero_mul]; exact Nat.zero_le _
  have h1 : 1 ≤ n k := Nat.pos_of_ne_zero h0
  have hf := rq_dn (n k * 2 ^ 149)
  have h2 := tm_lo (n := n k) (e := (L + k).natAbs) (w := wN B k) (t := tN n B k) (u := uM n B L k) (f := rq (n k * 2 ^ 149) 1) (Nat.two_pow_pos 149) hf (rq_l2 (Nat.two_pow_pos 149)) (rq_dn _) (by
    have := Nat.mul_le_mul h1 (Nat.le_trans hV hw)
    rw [Nat.one_mul] at this
    exact this)
  refine Nat.le_trans (Nat.mul_le_mul_left _ (Nat.mul_le_mul_right _ (Nat.mul_le_mul_left _ hw))) h2
theorem t_hi {n : Nat → Nat} {B : Nat} {L : Int} {k V : Nat} (hV : 2 ^ 57 ≤ V) (hw : wN B k ≤ V) : 1000 * uM n B L k ≤ 1001 * (n k * V * (L + k).natAbs) := by
  by_cases h0 : n k = 0
  · have e : uM n B L k = 0 := by
      unfold uM tN
      rw [h0, Nat.zero_mul, rq_0 1 (by decide), Nat.zero_mul, rq_0 _ (Nat.two_pow_pos 149), Nat.zero_mul, rq_0 1 (by decide)]
    rw [e]; exact Nat.zero_le _
  have h1 : 1 ≤ n k := Nat.pos_of_ne_zero h0
  have hf := rq_up (n k * 2 ^ 149)
  exact tm_hi (n := n k) (e := (L + k).natAbs) (w := wN B k) (t := tN n B k) (u := uM n B L k) (f := rq (n k * 2 ^ 149) 1) (Nat.two_pow_pos 149) hf (rq_h2 (Nat.two_pow_pos 149)) (rq_up _) hw (by
    have := Nat.mul_le_mul h1 hV
    rw [Nat.one_mul] at this
    exact this)
theorem t_z {n : Nat → Nat} {B j : Nat} : uM n B (-(j : Int)) j = 0 := by
  unfold uM
  rw [show (-(j : Int) + (j : Int)).natAbs = 0 by omega, Nat.mul_zero, rq_0 1 (by decide)]
theorem U_le {n : Nat → Nat} {B j I V : Nat} (hV : 2 ^ 57 ≤ V) (hB : B ≤ 2 ^ 149) (hw : wN B (j + 1) ≤ V) : 1000 * sumN I (fun i => uM n B (-(j : Int)) (j + i)) ≤ 1001 * (V * sumN I (fun i => n (j + i) * i)) := by
  rw [← sumN_mulL, ← sumN_mulL, ← sumN_mulL]
  refine sumN_le fun i _ => ?_
  rcases Nat.eq_zero_or_pos i with h | h
  · subst h
    rw [Nat.add_zero, t_z]
    exact Nat.zero_le _
  · have h1 := t_hi (n := n) (L := -(j : Int)) (k := j + i) hV (Nat.le_trans (wN_mono hB (show j + 1 ≤ j + i by omega)) hw)
    rw [show (-(j : Int) + ((j + i : Nat) : Int)).natAbs = i by omega, Nat.mul_right_comm, Nat.mul_comm _ V] at h1
    exact h1
theorem A_ge {n : Nat → Nat} {B j V : Nat} (hV : 2 ^ 57 ≤ V) (hB : B ≤ 2 ^ 149) (hw : V ≤ wN B (j - 1)) : 999 * (V * sumN j (fun i => n i * (j - i))) ≤ 1000 * sumN j (uM n B (-(j : Int))) := by
  rw [← sumN_mulL, ← sumN_mulL, ← sumN_mulL]
  refine sumN_le fun i hi => ?_
  have h1 := t_lo (n := n) (L := -(j : Int)) (k := i) hV (Nat.le_trans hw (wN_mono hB (show i ≤ j - 1 by omega)))
  rw [show (-(j : Int) + (i : Int)).natAbs = j - i by omega, Nat.mul_right_comm, Nat.mul_comm _ V] at h1
  exact h1
theorem z_big {n : Nat → Nat} {B j I : Nat} (hn : ∀ k, n k ≤ 2 ^ 30) (h0 : 1 ≤ n 0) (h1 : 1 ≤ j) (h2 : j ≤ 200) (hI : I ≤ 401) (hB : B ≤ 2 ^ 149) (hb : 100 * (16777216 * B) ≤ 99 * (16777217 * 2 ^ 149) + 100 * 16777216) (hT : sumN j (fun i => n i * (j - i)) = sumN I (fun i => n (j + i) * i)) : 2 ^ 39 ≤ (zN n B (-(j : Int)) (j + I)).natAbs := by
  obtain ⟨a1, a2, a3⟩ := ph_1 (B := B) h0 h1 h2 j (Nat.le_refl j)
  have a3 := a3 h1
  obtain ⟨N, hN⟩ : ∃ N : Nat, zN n B (-(j : Int)) j = -(N : Int) := ⟨(zN n B (-(j : Int)) j).natAbs, by omega⟩
  rw [hN, show (-(N : Int)).natAbs = N by omega] at a2 a3
  have hU : 100 * sumN I (fun i => uM n B (-(j : Int)) (j + i)) ≤ 99 * N := by
    by_cases hc : 2 ^ 60 ≤ wN B (j - 1)
    · have d1 := w_drop (k := j - 1) hB hb
      rw [show j - 1 + 1 = j by omega] at d1
      have d2 := w_drop (k := j) hB hb
      have hA := A_ge (n := n) (j := j) (V := wN B (j - 1)) (by omega) hB (Nat.le_refl _)
      have hU := U_le (n := n) (j := j) (I := I) (V := 981 * wN B (j - 1) / 1000) (by omega) hB (by omega)
      rw [← hT] at hU
      have e : (981 * wN B (j - 1) / 1000) * sumN j (fun i => n i * (j - i)) * 1000 ≤ 981 * (wN B (j - 1) * sumN j (fun i => n i * (j - i))) := by
        rw [Nat.mul_right_comm, ← Nat.mul_assoc]
        exact Nat.mul_le_mul_right _ (Nat.div_mul_le_self _ _)
      have e2 : (16777216 + 2 * j) * N ≤ 16777616 * N := Nat.mul_le_mul_right _ (by omega)
      generalize (981 * wN B (j - 1) / 1000) * sumN j (fun i => n i * (j - i)) = PT at *
      generalize wN B (j - 1) * sumN j (fun i => n i * (j - i)) = WT at *
      clear d1 d2 hc hT hB hb
      omega
    · have hU := U_le (n := n) (j := j) (I := I) (V := 2 ^ 60) (by decide) hB (by
        have := wN_mono hB (show j - 1 ≤ j + 1 by omega)
        omega)
      have hT2 : sumN I (fun i => n (j + i) * i) ≤ I * (2 ^ 30 * 401) := by
        rw [← sumN_const]
        exact sumN_le fun i hi => Nat.mul_le_mul (hn _) (by omega)
      have hT3 : I * (2 ^ 30 * 401) ≤ 401 * (2 ^ 30 * 401) := Nat.mul_le_mul_right _ hI
      clear hT
      omega
  obtain ⟨b1, b2, b3⟩ := ph_2 hI hN a3 hU I (Nat.le_refl I)
  have hiN : I * N ≤ 401 * N := Nat.mul_le_mul_right _ hI
  omega
theorem z_neg {n : Nat → Nat} {B j K : Nat} (h0 : 1 ≤ n 0) (h1 : 1 ≤ j) (h2 : j ≤ 200) (hK : 1 ≤ K) (hKj : K ≤ j) : 2 ^ 39 ≤ (zN n B (-(j : Int)) K).natAbs := by
  have := (ph_1 (B := B) h0 h1 h2 K hKj).2.2 hK
  omega
/-- where all weights are 1 -/
theorem wN_1 : ∀ k, wN (2 ^ 149) k = 2 ^ 149
  | 0 => rfl
  | k + 1 => by
    show rq (wN (2 ^ 149) k * 2 ^ 149) (2 ^ 149) = 2 ^ 149
    rw [wN_1 k]
    have := rq_ex (D := 2 ^ 149) (c := 1) (k := 149) (Nat.two_pow_pos 149) (by decide)
    rw [Nat.one_mul] at this
    exact this
theorem uM_dvd (n : Nat → Nat) (L : Int) (k : Nat) : 2 ^ 149 ∣ uM n (2 ^ 149) L k := by
  have h1 : 2 ^ 149 ∣ tN n (2 ^ 149) k := by
    unfold tN
    rw [wN_1]
    have := rq_pw (x := rq (n k * 2 ^ 149) 1) (y := 1) (a := 149) (b := 149) (a' := 0) (b' := 0) (by omega)
    rw [Nat.one_mul, Nat.pow_zero, Nat.mul_one, Nat.mul_one] at this
    rw [this]
    exact rq_dvd (rq_dvd (Nat.dvd_mul_left _ _))
  exact rq_dvd (Nat.dvd_trans h1 (Nat.dvd_mul_right _ _))
theorem zN_dvd (n : Nat → Nat) (L : Int) : ∀ k, 2 ^ 149 ∣ (zN n (2 ^ 149) L k).natAbs
  | 0 => ⟨0, rfl⟩
  | k + 1 => by
    show 2 ^ 149 ∣ (rz (zN n (2 ^ 149) L k + uZ n (2 ^ 149) L k)).natAbs
    rw [rz_abs]
    refine rq_dvd ?_
    have h1 := Int.ofNat_dvd_left.mpr (zN_dvd n L k)
    have h2 := uM_dvd n L k
    rw [← uZ_abs] at h2
    have h2 := Int.ofNat_dvd_left.mpr h2
    exact Int.ofNat_dvd_left.mp (Int.dvd_add h1 h2)
theorem z_one {n : Nat → Nat} {L : Int} {k : Nat} (h : zN n (2 ^ 149) L k < 0) : 2 ^ 39 ≤ (zN n (2 ^ 149) L k).natAbs := by
  have h1 := Nat.le_of_dvd (by omega) (zN_dvd n L k)
  omega
