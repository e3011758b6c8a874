theorem rv_i {x y : Int32} (h : x = y) : some (Value.int x) = some (Value.int y) := by rw [h]
theorem rv_l {x y : Int64} (h : x = y) : some (Value.long x) = some (Value.long y) := by rw [h]
/-! the bits of a word, counted -/
def pcN (n x : Nat) : Nat := sumN n (fun i => (x.testBit i).toNat)
def ev8 : List Nat → Nat
  | [] => 0
  | b :: l => b + 256 * ev8 l
theorem ev8_and (m k : Nat) (hk : k ≤ 8) (hm : m < 2 ^ (8 - k)) : ∀ l : List Nat, (∀ b ∈ l, b < 256) → (ev8 l / 2 ^ k) &&& ev8 (l.map (fun _ => m)) = ev8 (l.map (fun b => (b / 2 ^ k) &&& m))
  | [], _ => by simp [ev8]
  | b :: l, h => by
    have hb : b < 256 := h b List.mem_cons_self
    have ih := ev8_and m k hk hm l (fun x hx => h x (List.mem_cons_of_mem _ hx))
    have h256 : (256 : Nat) = 2 ^ (8 - k) * 2 ^ k := by rw [← Nat.pow_add, show 8 - k + k = 8 by omega]
    have e1 : ev8 (b :: l) / 2 ^ k = b / 2 ^ k + 2 ^ (8 - k) * ev8 l := by
      show (b + 256 * ev8 l) / 2 ^ k = _
      rw [h256, Nat.mul_assoc, Nat.mul_left_comm, Nat.add_comm, Nat.mul_add_div (Nat.two_pow_pos k), Nat.add_comm]
    have hb2 : b / 2 ^ k < 2 ^ (8 - k) := by
      rw [Nat.div_lt_iff_lt_mul (Nat.two_pow_pos k), ← h256]; exact hb
    have hm2 : m < 256 := Nat.lt_of_lt_of_le hm (by rw [h256]; exact Nat.le_mul_of_pos_right _ (Nat.two_pow_pos k))
    have hlow : (b / 2 ^ k + 2 ^ (8 - k) * ev8 l) % 2 ^ (8 - k) = b / 2 ^ k := by
      rw [Nat.add_mul_mod_self_left, Nat.mod_eq_of_lt hb2]
    have hdiv : (b / 2 ^ k + 2 ^ (8 - k) * ev8 l) / 256 = ev8 l / 2 ^ k := by
      rw [h256, ← Nat.div_div_eq_div_mul, Nat.add_mul_div_left _ _ (Nat.two_pow_pos (8 - k)), Nat.div_eq_of_lt hb2, Nat.zero_add]
    rw [e1]
    show _ &&& (m + 256 * ev8 (l.map (fun _ => m))) = ((b / 2 ^ k) &&& m) + 256 * ev8 (l.map (fun b => (b / 2 ^ k) &&& m))
    rw [← ih, ← hdiv]
    generalize hX : b / 2 ^ k + 2 ^ (8 - k) * ev8 l = X at hlow ⊢
    generalize ev8 (l.map (fun _ => m)) = Y
    rw [← hlow]
    apply Nat.eq_of_testBit_eq
    intro i
    have r1 : X % 2 ^ (8 - k) &&& m < 2 ^ 8 := Nat.and_lt_two_pow _ (by omega)
    have r2 : ((X % 2 ^ (8 - k) &&& m) + 256 * (X / 256 &&& Y)) = 2 ^ 8 * (X / 256 &&& Y) + (X % 2 ^ (8 - k) &&& m) := by omega
    have r3 : m + 256 * Y = 2 ^ 8 * Y + m := by omega
    rw [r2, r3, Nat.testBit_and, Nat.testBit_two_pow_mul_add _ (by omega), Nat.testBit_two_pow_mul_add _ r1]
    by_cases hi : i < 8
    · rw [if_pos hi, if_pos hi, Nat.testBit_and, Nat.testBit_mod_two_pow]
      by_cases hj : i < 8 - k
      · simp [hj]
      · have : m.testBit i = false := Nat.testBit_lt_two_pow (Nat.lt_of_lt_of_le hm (Nat.pow_le_pow_right (by first | decide | exact lt_c (by decide)) (by omega)))
        simp [this]
    · rw [if_neg hi, if_neg hi, Nat.testBit_and, show (256 : Nat) = 2 ^ 8 from rfl, Nat.testBit_div_two_pow, show i - 8 + 8 = i by omega]
theorem ev8_add (f g : Nat → Nat) : ∀ l : List Nat, ev8 (l.map f) + ev8 (l.map g) = ev8 (l.map (fun b => f b + g b))
  | [] => rfl
  | b :: l => by
    have ih := ev8_add f g l
    simp only [List.map_cons, ev8]
    omega
theorem ev8_le (f g : Nat → Nat) (h : ∀ b, f b ≤ g b) : ∀ l : List Nat, ev8 (l.map f) ≤ ev8 (l.map g)
  | [] => Nat.le_refl _
  | b :: l => by
    have ih := ev8_le f g h l
    have := h b
    simp only [List.map_cons, ev8]
    omega
theorem ev8_sub (f g : Nat → Nat) (h : ∀ b, g b ≤ f b) : ∀ l : List Nat, ev8 (l.map f) - ev8 (l.map g) = ev8 (l.map (fun b => f b - g b))
  | [] => rfl
  | b :: l => by
    have ih := ev8_sub f g h l
    have := h b
    have := ev8_le g f h l
    simp only [List.map_cons, ev8]
    omega
theorem ev8_map (f g : Nat → Nat) : ∀ l : List Nat, (l.map f).map g = l.map (fun b => g (f b)) := fun l => by simp
def pcb1 (b : Nat) : Nat := b - (b / 2 &&& 85)
def pcb2 (b : Nat) : Nat := (b &&& 51) + (b / 4 &&& 51)
def pcb3 (b : Nat) : Nat := b % 16 + b / 16
theorem ev8_nib : ∀ l : List Nat, (∀ b ∈ l, b % 16 ≤ 4 ∧ b / 16 ≤ 4) → (ev8 l + ev8 l / 16) &&& ev8 (l.map (fun _ => 15)) = ev8 (l.map pcb3)
  | [], _ => by simp [ev8]
  | b :: l, h => by
    have hb := h b List.mem_cons_self
    have ih := ev8_nib l (fun x hx => h x (List.mem_cons_of_mem _ hx))
    have hn : ev8 l % 16 ≤ 4 := by
      cases l with
      | nil => simp [ev8]
      | cons c l =>
        have hc := (h c (by simp)).1
        show (c + 256 * ev8 l) % 16 ≤ 4
        omega
    have e : ev8 (b :: l) + ev8 (b :: l) / 16 = 2 ^ 8 * (ev8 l + ev8 l / 16) + (b + b / 16 + 16 * (ev8 l % 16)) := by
      show (b + 256 * ev8 l) + (b + 256 * ev8 l) / 16 = _
      omega
    rw [e]
    show _ &&& (15 + 256 * ev8 (l.map (fun _ => 15))) = pcb3 b + 256 * ev8 (l.map pcb3)
    rw [← ih]
    generalize hX : ev8 l + ev8 l / 16 = X
    generalize ev8 (l.map (fun _ => 15)) = Y
    have e3 : (b + b / 16 + 16 * (ev8 l % 16)) &&& 15 = pcb3 b := by
      rw [show (15 : Nat) = 2 ^ 4 - 1 from rfl, Nat.and_two_pow_sub_one_eq_mod]
      unfold pcb3
      omega
    have r4 : pcb3 b + 256 * (X &&& Y) = 2 ^ 8 * (X &&& Y) + pcb3 b := by omega
    have r5 : 15 + 256 * Y = 2 ^ 8 * Y + 15 := by omega
    have r6 : pcb3 b < 2 ^ 8 := by unfold pcb3; omega
    rw [r4, r5]
    apply Nat.eq_of_testBit_eq
    intro i
    rw [Nat.testBit_and, Nat.testBit_two_pow_mul_add _ (by omega), Nat.testBit_two_pow_mul_add _ (by first | decide | exact lt_c (by decide)), Nat.testBit_two_pow_mul_add _ r6]
    by_cases hi : i < 8
    · rw [if_pos hi, if_pos hi, if_pos hi, ← Nat.testBit_and, e3]
    · rw [if_neg hi, if_neg hi, if_neg hi, Nat.testBit_and]
theorem pcb_ok : ∀ b, b < 256 → (pcb1 b < 256 ∧ pcb2 (pcb1 b) % 16 ≤ 4 ∧ pcb2 (pcb1 b) / 16 ≤ 4 ∧ pcb3 (pcb2 (pcb1 b)) = pcN 8 b) := by decide +kernel
theorem pcN_split (x : Nat) : ∀ n, pcN (8 + n) x = pcN 8 (x % 256) + pcN n (x / 256) := by
  intro n
  unfold pcN
  rw [sumN_split]
  congr 1
  · refine sumN_congr fun i hi => ?_
    rw [show (256 : Nat) = 2 ^ 8 from rfl, Nat.testBit_mod_two_pow]
    simp [hi]
  · refine sumN_congr fun i _ => ?_
    rw [show (256 : Nat) = 2 ^ 8 from rfl, Nat.testBit_div_two_pow, Nat.add_comm]
def bytes8 : Nat → Nat → List Nat
  | 0, _ => []
  | n + 1, x => x % 256 :: bytes8 n (x / 256)
theorem ev8_bytes : ∀ (n x : Nat), x < 256 ^ n → ev8 (bytes8 n x) = x
  | 0, x, h => by simp at h; subst h; rfl
  | n + 1, x, h => by
    have h2 : x / 256 < 256 ^ n := by
      rw [Nat.div_lt_iff_lt_mul (by first | decide | exact lt_c (by decide))]; rw [Nat.pow_succ] at h; exact h
    show x % 256 + 256 * ev8 (bytes8 n (x / 256)) = x
    rw [ev8_bytes n _ h2]; omega
theorem bytes8_lt : ∀ (n x : Nat), ∀ b ∈ bytes8 n x, b < 256
  | 0, x, b, h => by cases h
  | n + 1, x, b, h => by
    rcases List.mem_cons.mp h with rfl | h
    · omega
    · exact bytes8_lt n _ b h
theorem pcN_bytes : ∀ (n x : Nat), pcN (8 * n) x = ((bytes8 n x).map (pcN 8)).sum
  | 0, x => rfl
  | n + 1, x => by
    rw [show 8 * (n + 1) = 8 + 8 * n by omega, pcN_split, pcN_bytes n]
    rfl
/-- what Long.bitCount comes to -/
def pcw (x : Nat) : Nat :=
  let a := x - (x / 2 &&& 6148914691236517205)
  let b := (a &&& 3689348814741910323) + (a / 4 &&& 3689348814741910323)
  let c := (b + b / 16) &&& 1085102592571150095
  let d := c + c / 256
  let e := d + d / 65536
  (e + e / 4294967296) % 128
theorem pcw_st {x : Nat} (hx : x < 2 ^ 64) : ∃ l : List Nat, l.length = 8 ∧ (∀ b ∈ l, b < 256) ∧ x = ev8 l ∧ (l.map (pcN 8)).sum = pcN 64 x ∧ x / 2 &&& 6148914691236517205 ≤ x ∧ x - (x / 2 &&& 6148914691236517205) = ev8 (l.map pcb1) ∧ (ev8 (l.map pcb1) &&& 3689348814741910323) + (ev8 (l.map pcb1) / 4 &&& 3689348814741910323) = ev8 (l.map (fun b => pcb2 (pcb1 b))) ∧ (ev8 (l.map (fun b => pcb2 (pcb1 b))) + ev8 (l.map (fun b => pcb2 (pcb1 b))) / 16) &&& 1085102592571150095 = ev8 (l.map (pcN 8)) := by
  refine ⟨bytes8 8 x, rfl, bytes8_lt 8 x, (ev8_bytes 8 x (by omega)).symm, (pcN_bytes 8 x).symm, ?_⟩
  have hl := bytes8_lt 8 x
  have hlen : (bytes8 8 x).length = 8 := rfl
  have hx8 := (ev8_bytes 8 x (by omega))
  generalize bytes8 8 x = l at hl hlen hx8
  rw [← hx8]
  have m1 : ev8 (l.map (fun _ => 85)) = 6148914691236517205 := by
    match l, hlen with
    | [_, _, _, _, _, _, _, _], _ => simp [ev8]
  have m2 : ∀ l : List Nat, l.length = 8 → ev8 (l.map (fun _ => 51)) = 3689348814741910323 := by
    intro l hl
    match l, hl with
    | [_, _, _, _, _, _, _, _], _ => simp [ev8]
  have m3 : ∀ l : List Nat, l.length = 8 → ev8 (l.map (fun _ => 15)) = 1085102592571150095 := by
    intro l hl
    match l, hl with
    | [_, _, _, _, _, _, _, _], _ => simp [ev8]
  have s1 := ev8_and 85 1 (by first | decide | exact lt_c (by decide)) (by first | decide | exact lt_c (by decide)) l hl
  rw [m1] at s1
  have hid : l.map (fun b => b) = l := by simp
  have le1 : ∀ b : Nat, b / 2 ^ 1 &&& 85 ≤ b := fun b => Nat.le_trans Nat.and_le_left (by omega)
  have t1 := ev8_sub (fun b => b) (fun b => b / 2 ^ 1 &&& 85) le1 l
  have u1 := ev8_le (fun b => b / 2 ^ 1 &&& 85) (fun b => b) le1 l
  rw [hid] at t1 u1
  have hl2 : ∀ b ∈ l.map pcb1, b < 256 := fun b hb => by
    obtain ⟨c, hc, rfl⟩ := List.mem_map.mp hb
    exact (pcb_ok c (hl c hc)).1
  have s2 := ev8_and 51 0 (by first | decide | exact lt_c (by decide)) (by first | decide | exact lt_c (by decide)) (l.map pcb1) hl2
  have s3 := ev8_and 51 2 (by first | decide | exact lt_c (by decide)) (by first | decide | exact lt_c (by decide)) (l.map pcb1) hl2
  rw [m2 _ (by simpa using hlen)] at s2 s3
  refine ⟨?_, ?_, ?_, ?_⟩
  · rw [show (2 : Nat) = 2 ^ 1 from rfl, s1]; exact u1
  · rw [show ev8 l / 2 = ev8 l / 2 ^ 1 from rfl, s1]; exact t1
  · have s2' : ev8 (l.map pcb1) &&& 3689348814741910323 = ev8 ((l.map pcb1).map (fun b => b / 2 ^ 0 &&& 51)) := by rw [← s2]; simp
    rw [s2', show ev8 (l.map pcb1) / 4 = ev8 (l.map pcb1) / 2 ^ 2 from rfl, s3, ev8_add, ev8_map]
    congr 1
    apply List.map_congr_left
    intro b _
    unfold pcb2
    simp
  · have s4 := ev8_nib (l.map (fun b => pcb2 (pcb1 b))) (fun b hb => by
      obtain ⟨c, hc, rfl⟩ := List.mem_map.mp hb
      exact ⟨(pcb_ok c (hl c hc)).2.1, (pcb_ok c (hl c hc)).2.2.1⟩)
    rw [m3 _ (by simpa using hlen)] at s4
    rw [s4, ev8_map]
    congr 1
    apply List.map_congr_left
    intro b hb
    exact (pcb_ok b (hl b hb)).2.2.2
theorem pcN_le (n x : Nat) : pcN n x ≤ n := by
  unfold pcN
  induction n with
  | zero => exact Nat.le_refl _
  | succ n ih =>
    rw [sumN]
    have : (x.testBit n).toNat ≤ 1 := by cases x.testBit n <;> decide
    omega
theorem pc_dv {b B x t : Nat} (h : b < B) (e : x = b + B * t) : x / B = t := by
  rw [e, Nat.add_mul_div_left _ _ (by omega), Nat.div_eq_of_lt h, Nat.zero_add]
theorem pcw_end (l : List Nat) (hl : l.length = 8) (h : ∀ b ∈ l, b ≤ 8) : (ev8 l + ev8 l / 256 + (ev8 l + ev8 l / 256) / 65536 + (ev8 l + ev8 l / 256 + (ev8 l + ev8 l / 256) / 65536) / 4294967296) % 128 = l.sum := by
  match l, hl, h with
  | [c0, c1, c2, c3, c4, c5, c6, c7], _, h =>
    have h0 := h c0 (by simp)
    have h1 := h c1 (by simp)
    have h2 := h c2 (by simp)
    have h3 := h c3 (by simp)
    have h4 := h c4 (by simp)
    have h5 := h c5 (by simp)
    have h6 := h c6 (by simp)
    have h7 := h c7 (by simp)
    clear h
    generalize e8 : ev8 [] = X8
    have e8' : X8 = 0 := e8.symm
    generalize e7 : ev8 [c7] = X7
    have e7' : X7 = c7 + 256 * X8 := by rw [← e7, ← e8]; rfl
    generalize e6 : ev8 [c6, c7] = X6
    have e6' : X6 = c6 + 256 * X7 := by rw [← e6, ← e7]; rfl
    generalize e5 : ev8 [c5, c6, c7] = X5
    have e5' : X5 = c5 + 256 * X6 := by rw [← e5, ← e6]; rfl
    generalize e4 : ev8 [c4, c5, c6, c7] = X4
    have e4' : X4 = c4 + 256 * X5 := by rw [← e4, ← e5]; rfl
    generalize e3 : ev8 [c3, c4, c5, c6, c7] = X3
    have e3' : X3 = c3 + 256 * X4 := by rw [← e3, ← e4]; rfl
    generalize e2 : ev8 [c2, c3, c4, c5, c6, c7] = X2
    have e2' : X2 = c2 + 256 * X3 := by rw [← e2, ← e3]; rfl
    generalize e1 : ev8 [c1, c2, c3, c4, c5, c6, c7] = X1
    have e1' : X1 = c1 + 256 * X2 := by rw [← e1, ← e2]; rfl
    generalize e0 : ev8 [c0, c1, c2, c3, c4, c5, c6, c7] = X0
    have e0' : X0 = c0 + 256 * X1 := by rw [← e0, ← e1]; rfl
    clear e0 e1 e2 e3 e4 e5 e6 e7 e8
    have q1 : X0 / 256 = X1 := pc_dv (b := c0) (by clear e1' e2' e3' e4' e5' e6' e7'; omega) e0'
    rw [q1]
    generalize f4 : X4 + X5 = Y4
    generalize f3 : X3 + X4 = Y3
    generalize f2 : X2 + X3 = Y2
    generalize f1 : X1 + X2 = Y1
    generalize f0 : X0 + X1 = Y0
    generalize f5 : X5 + X6 = Y5
    generalize f6 : X6 + X7 = Y6
    have g0 : Y0 = (c0 + c1) + 256 * Y1 := by clear e2' e3' e4' e5' e6' e7'; omega
    have g1 : Y1 = (c1 + c2) + 256 * Y2 := by clear e0' e3' e4' e5' e6' e7'; omega
    have g2 : Y2 = (c2 + c3) + 256 * Y3 := by clear e0' e1' e4' e5' e6' e7'; omega
    have g3 : Y3 = (c3 + c4) + 256 * Y4 := by clear e0' e1' e2' e5' e6' e7'; omega
    have g4 : Y4 = (c4 + c5) + 256 * Y5 := by clear e0' e1' e2' e3' e6' e7'; omega
    have g5 : Y5 = (c5 + c6) + 256 * Y6 := by clear e0' e1' e2' e3' e4' e7'; omega
    have g6 : Y6 = (c6 + c7) + 256 * c7 := by clear e0' e1' e2' e3' e4' e5'; omega
    clear e0' e1' e2' e3' e4' e5' e6' e7' e8' f0 f1 f2 f3 f4 f5 f6
    have q2 : Y0 / 65536 = Y2 := pc_dv (b := (c0 + c1) + 256 * (c1 + c2)) (by clear g0 g1 g2 g3 g4 g5 g6; omega) (by clear g2 g3 g4 g5 g6; omega)
    rw [q2]
    have z0 : Y0 + Y2 = (c0 + c1 + c2 + c3) + 256 * (Y1 + Y3) := by clear g1 g3 g4 g5 g6; omega
    have z1 : Y1 + Y3 = (c1 + c2 + c3 + c4) + 256 * (Y2 + Y4) := by clear g0 g2 g4 g5 g6; omega
    have z2 : Y2 + Y4 = (c2 + c3 + c4 + c5) + 256 * (Y3 + Y5) := by clear g0 g1 g3 g5 g6; omega
    have z3 : Y3 + Y5 = (c3 + c4 + c5 + c6) + 256 * (Y4 + Y6) := by clear g0 g1 g2 g4 g6; omega
    have z4 : Y4 + Y6 = (c4 + c5 + c6 + c7) + 256 * (Y5 + c7) := by clear g0 g1 g2 g3 g5; omega
    generalize Y0 + Y2 = Z0 at z0 ⊢
    generalize Y1 + Y3 = Z1 at z0 z1
    generalize Y2 + Y4 = Z2 at z1 z2
    generalize Y3 + Y5 = Z3 at z2 z3
    generalize Y4 + Y6 = Z4 at z3 z4
    generalize Y5 + c7 = Z5 at z4
    clear g0 g1 g2 g3 g4 g5 g6 q1 q2
    have q3 : Z0 / 4294967296 = Z4 := pc_dv (b := (c0 + c1 + c2 + c3) + 256 * ((c1 + c2 + c3 + c4) + 256 * ((c2 + c3 + c4 + c5) + 256 * (c3 + c4 + c5 + c6)))) (by clear z0 z1 z2 z3 z4; omega) (by clear z4 h0 h1 h2 h3 h4 h5 h6 h7; omega)
    rw [q3]
    have z : (Z0 + Z4) = (c0 + c1 + c2 + c3 + c4 + c5 + c6 + c7) + 128 * (2 * (Z1 + Z5)) := by clear z1 z2 z3 h0 h1 h2 h3 h4 h5 h6 h7; omega
    rw [z, Nat.add_mul_mod_self_left, Nat.mod_eq_of_lt (by clear z z0 z1 z2 z3 z4; omega)]
    simp only [List.sum_cons, List.sum_nil]
    clear z z0 z1 z2 z3 z4 h0 h1 h2 h3 h4 h5 h6 h7
    omega

theorem pcw_eq {x : Nat} (hx : x < 2 ^ 64) : pcw x = pcN 64 x := by
  obtain ⟨l, h1, h2, h3, h4, h5, h6, h7, h8⟩ := pcw_st hx
  unfold pcw
  dsimp only
  rw [h6, h7, h8]
  have h := pcw_end (l.map (pcN 8)) (by simpa using h1) (fun b hb => by
    obtain ⟨c, -, rfl⟩ := List.mem_map.mp hb
    exact pcN_le 8 c)
  rw [← h4]
  exact h

theorem pc_sh {x k : Nat} (hx : x < 2 ^ 64) (hk : k < 64) (y : Nat) (hy : y = x / 2 ^ k) : ((lN x).toUInt64 >>> ((nI k).toInt64.toUInt64 &&& Int64.toUInt64 63)).toInt64 = lN y := by rw [wb_shr hx hk, hy]
theorem pc_a {x : Nat} (hx : x < 2 ^ 64) (h : x / 2 &&& 6148914691236517205 ≤ x) : lN x - (((lN x).toUInt64 >>> ((nI 1).toInt64.toUInt64 &&& Int64.toUInt64 63)).toInt64 &&& 6148914691236517205) = lN (x - (x / 2 &&& 6148914691236517205)) := by
  rw [pc_sh hx (by first | decide | exact lt_c (by decide)) (x / 2) rfl, show (6148914691236517205 : Int64) = lN 6148914691236517205 from rfl, wb_and (by omega) (by first | decide | exact lt_c (by decide)), lN_sub h]
theorem pc_b {x : Nat} (hx : x < 2 ^ 64) : (lN x &&& 3689348814741910323) + (((lN x).toUInt64 >>> ((nI 2).toInt64.toUInt64 &&& Int64.toUInt64 63)).toInt64 &&& 3689348814741910323) = lN ((x &&& 3689348814741910323) + (x / 4 &&& 3689348814741910323)) := by
  rw [pc_sh hx (by first | decide | exact lt_c (by decide)) (x / 4) rfl, show (3689348814741910323 : Int64) = lN 3689348814741910323 from rfl, wb_and (by omega) (by first | decide | exact lt_c (by decide)), wb_and (by omega) (by first | decide | exact lt_c (by decide)), lN_add]
theorem pc_c {x : Nat} (hx : x < 2 ^ 63) : (lN x + ((lN x).toUInt64 >>> ((nI 4).toInt64.toUInt64 &&& Int64.toUInt64 63)).toInt64) &&& 1085102592571150095 = lN ((x + x / 16) &&& 1085102592571150095) := by
  rw [pc_sh (by omega) (by first | decide | exact lt_c (by decide)) (x / 16) rfl, show (1085102592571150095 : Int64) = lN 1085102592571150095 from rfl, lN_add, wb_and (by omega) (by first | decide | exact lt_c (by decide))]
theorem pc_d {x k : Nat} (hx : x < 2 ^ 64) (hk : k < 64) : lN x + ((lN x).toUInt64 >>> ((nI k).toInt64.toUInt64 &&& Int64.toUInt64 63)).toInt64 = lN (x + x / 2 ^ k) := by
  rw [pc_sh hx hk (x / 2 ^ k) rfl, lN_add]
theorem nI_and (a b : Nat) : nI a &&& nI b = nI (a &&& b) := by
  apply Int32.toBitVec_inj.mp
  show BitVec.ofNat 32 a &&& BitVec.ofNat 32 b = BitVec.ofNat 32 (a &&& b)
  apply BitVec.eq_of_getLsbD_eq
  intro i hi
  simp [BitVec.getLsbD_ofNat, Nat.testBit_and, hi]
theorem pc_f (x : Nat) : (lN x).toInt32 &&& nI 127 = nI (x % 128) := by
  rw [lN_i, nI_and, show (127 : Nat) = 2 ^ 7 - 1 from rfl, Nat.and_two_pow_sub_one_eq_mod]
theorem pc_m1 (x : Nat) : x &&& 3689348814741910323 < 2 ^ 62 := Nat.lt_of_le_of_lt Nat.and_le_right (by first | decide | exact lt_c (by decide))
theorem pc_m2 (x : Nat) : x &&& 1085102592571150095 < 2 ^ 60 := Nat.lt_of_le_of_lt Nat.and_le_right (by first | decide | exact lt_c (by decide))

set_option maxRecDepth 100000 in
set_option maxHeartbeats 4000000 in
theorem t_bitCount {n : Nat} {σ : Sto} (x : Nat) (hx : x < 2 ^ 64) : CD mJ13_bitCount_95d88 [.long (lN x)] n σ (some (.int (nI (pcN 64 x)))) σ := by
  obtain ⟨-, -, -, -, -, g1, -⟩ := pcw_st hx
  generalize ha : x - (x / 2 &&& 6148914691236517205) = a
  generalize hb : (a &&& 3689348814741910323) + (a / 4 &&& 3689348814741910323) = b
  generalize hc : (b + b / 16) &&& 1085102592571150095 = c
  have a1 : a < 2 ^ 64 := by omega
  have b1 : b < 2 ^ 63 := by have := pc_m1 a; have := pc_m1 (a / 4); omega
  have c1 : c < 2 ^ 60 := by rw [← hc]; exact pc_m2 _
  refine CP_of (by decide +kernel) (Nat.le_of_ble_eq_true rfl) ?_
  change PW _ _ _ _ 0 [_, _] [] _ _ _ _
  refine P_lload_n (q := 1) dJ13_bitCount_95d88_0 rfl rfl ?_
  refine P_lload_n (q := 2) dJ13_bitCount_95d88_1 rfl rfl ?_
  refine P_iconst (q := 3) (v := nI 1) dJ13_bitCount_95d88_2 rfl (by decide +kernel) ?_
  refine P_lushr (q := 4) dJ13_bitCount_95d88_3 rfl ?_
  refine P_ldc2 (q := 7) dJ13_bitCount_95d88_4 rfl qJ13_314 ?_
  refine P_land (q := 8) dJ13_bitCount_95d88_7 rfl ?_
  refine P_lsub (q := 9) dJ13_bitCount_95d88_8 rfl ?_
  rw [pc_a hx g1, ha]
  refine P_lstore_n (q := 10) (L' := [_, _]) dJ13_bitCount_95d88_9 rfl (by first | decide | exact lt_c (by decide)) rfl ?_
  refine P_lload_n (q := 11) dJ13_bitCount_95d88_10 rfl rfl ?_
  refine P_ldc2 (q := 14) dJ13_bitCount_95d88_11 rfl qJ13_316 ?_
  refine P_land (q := 15) dJ13_bitCount_95d88_14 rfl ?_
  refine P_lload_n (q := 16) dJ13_bitCount_95d88_15 rfl rfl ?_
  refine P_iconst (q := 17) (v := nI 2) dJ13_bitCount_95d88_16 rfl (by decide +kernel) ?_
  refine P_lushr (q := 18) dJ13_bitCount_95d88_17 rfl ?_
  refine P_ldc2 (q := 21) dJ13_bitCount_95d88_18 rfl qJ13_316 ?_
  refine P_land (q := 22) dJ13_bitCount_95d88_21 rfl ?_
  refine P_ladd (q := 23) dJ13_bitCount_95d88_22 rfl ?_
  rw [pc_b a1, hb]
  refine P_lstore_n (q := 24) (L' := [_, _]) dJ13_bitCount_95d88_23 rfl (by first | decide | exact lt_c (by decide)) rfl ?_
  refine P_lload_n (q := 25) dJ13_bitCount_95d88_24 rfl rfl ?_
  refine P_lload_n (q := 26) dJ13_bitCount_95d88_25 rfl rfl ?_
  refine P_iconst (q := 27) (v := nI 4) dJ13_bitCount_95d88_26 rfl (by decide +kernel) ?_
  refine P_lushr (q := 28) dJ13_bitCount_95d88_27 rfl ?_
  refine P_ladd (q := 29) dJ13_bitCount_95d88_28 rfl ?_
  refine P_ldc2 (q := 32) dJ13_bitCount_95d88_29 rfl qJ13_318 ?_
  refine P_land (q := 33) dJ13_bitCount_95d88_32 rfl ?_
  rw [pc_c b1, hc]
  refine P_lstore_n (q := 34) (L' := [_, _]) dJ13_bitCount_95d88_33 rfl (by first | decide | exact lt_c (by decide)) rfl ?_
  refine P_lload_n (q := 35) dJ13_bitCount_95d88_34 rfl rfl ?_
  refine P_lload_n (q := 36) dJ13_bitCount_95d88_35 rfl rfl ?_
  refine P_bipush (q := 38) (v := nI 8) dJ13_bitCount_95d88_36 rfl (by decide +kernel) ?_
  refine P_lushr (q := 39) dJ13_bitCount_95d88_38 rfl ?_
  refine P_ladd (q := 40) dJ13_bitCount_95d88_39 rfl ?_
  rw [pc_d (x := c) (k := 8) (by omega) (by first | decide | exact lt_c (by decide))]
  refine P_lstore_n (q := 41) (L' := [_, _]) dJ13_bitCount_95d88_40 rfl (by first | decide | exact lt_c (by decide)) rfl ?_
  refine P_lload_n (q := 42) dJ13_bitCount_95d88_41 rfl rfl ?_
  refine P_lload_n (q := 43) dJ13_bitCount_95d88_42 rfl rfl ?_
  refine P_bipush (q := 45) (v := nI 16) dJ13_bitCount_95d88_43 rfl (by decide +kernel) ?_
  refine P_lushr (q := 46) dJ13_bitCount_95d88_45 rfl ?_
  refine P_ladd (q := 47) dJ13_bitCount_95d88_46 rfl ?_
  rw [pc_d (k := 16) (by omega) (by first | decide | exact lt_c (by decide))]
  refine P_lstore_n (q := 48) (L' := [_, _]) dJ13_bitCount_95d88_47 rfl (by first | decide | exact lt_c (by decide)) rfl ?_
  refine P_lload_n (q := 49) dJ13_bitCount_95d88_48 rfl rfl ?_
  refine P_lload_n (q := 50) dJ13_bitCount_95d88_49 rfl rfl ?_
  refine P_bipush (q := 52) (v := nI 32) dJ13_bitCount_95d88_50 rfl (by decide +kernel) ?_
  refine P_lushr (q := 53) dJ13_bitCount_95d88_52 rfl ?_
  refine P_ladd (q := 54) dJ13_bitCount_95d88_53 rfl ?_
  rw [pc_d (k := 32) (by omega) (by first | decide | exact lt_c (by decide))]
  refine P_lstore_n (q := 55) (L' := [_, _]) dJ13_bitCount_95d88_54 rfl (by first | decide | exact lt_c (by decide)) rfl ?_
  refine P_lload_n (q := 56) dJ13_bitCount_95d88_55 rfl rfl ?_
  refine P_l2i (q := 57) dJ13_bitCount_95d88_56 rfl ?_
  refine P_bipush (q := 59) (v := nI 127) dJ13_bitCount_95d88_57 rfl (by decide +kernel) ?_
  refine P_iand (q := 60) dJ13_bitCount_95d88_59 rfl ?_
  refine P_iret dJ13_bitCount_95d88_60 rfl (rfl) ?_
  refine ⟨rv_i ?_, rfl⟩
  rw [pc_f, ← pcw_eq hx]
  unfold pcw
  dsimp only
  rw [ha, hb, hc]
