variable {eN : Nat}
/-! the JDK's own methods: abs, min, bitCount of small ints, fill -/
theorem up_up {α : Type} (f : Nat → α) (k : Nat) (x y : α) : va_up (va_up f k x) k y = va_up f k y := by
  funext j; unfold va_up; by_cases h : j = k <;> simp [h]
theorem up_self {α : Type} {f : Nat → α} {k : Nat} {x : α} (h : f k = x) : va_up f k x = f := by
  funext j; unfold va_up; by_cases hj : j = k
  · rw [if_pos hj, hj, h]
  · rw [if_neg hj]
theorem up_at {α : Type} (f : Nat → α) (k : Nat) (x : α) : va_up f k x k = x := by unfold va_up; rw [if_pos rfl]
theorem up_ne {α : Type} (f : Nat → α) {k j : Nat} (x : α) (h : j ≠ k) : va_up f k x j = f j := by unfold va_up; rw [if_neg h]
section PWM
variable {M : Mth} {mc ms : Nat} {Q : Option Value → Sto → Prop} {pc q n cs sl : Nat} {L : List (Option Value)} {S : List Value} {σ : Sto}
theorem P_mabs {idx : Nat} {x : Int32} (d : decode M.2.1 pc = .ok (.invokestatic idx, 3)) (hq : pc + 3 = q) (hl : LkS M.1.cls idx mJ9_abs_0f7a4 1) (hd : 1 ≤ M.2.2.2.2) (hsum : (S.map fun v => v.category).sum ≤ 8) (hc : cs ≤ mc ∧ sl ≤ ms) (kk : PW M mc ms Q q L (.int (if 0 ≤ x then x else 0 - x) :: S) n σ cs sl) : PW M mc ms Q pc L (.int x :: S) n σ cs sl := by
  subst hq
  intro p l e s m args below meth c D aC h0 H locs ls hC hh hz hW hS hL
  obtain ⟨⟨h1, h2, -⟩, h3, h4⟩ := hl
  exact va_mabs hC.1 hC.2.1 (hC.2.2.1.trans hL.1.symm) hC.2.2.2.1 (hC.2.2.2.2.1 _ h3) (hC.2.2.2.2.1 _ h4) (hC.2.2.2.2.1 _ h2) (hC.2.2.2.2.1 _ h1) (by show 1 ≤ M.2.2.2.2; exact hd) (by show _ ≤ 37 * M.2.2.2.2; rw [pw_map_cat]; omega) (by show cs ≤ mc; exact hc.1) (by show sl ≤ ms; exact hc.2) d (kk p l e s m args below meth c D aC h0 H locs ls hC hh hz hW hS hL)
theorem P_mmin {idx : Nat} {x y : Int32} (d : decode M.2.1 pc = .ok (.invokestatic idx, 3)) (hq : pc + 3 = q) (hl : LkS M.1.cls idx mJ9_min_7cf53 2) (hd : 1 ≤ M.2.2.2.2) (hsum : (S.map fun v => v.category).sum ≤ 8) (hc : cs ≤ mc ∧ sl ≤ ms) (kk : PW M mc ms Q q L (.int (if y < x then y else x) :: S) n σ cs sl) : PW M mc ms Q pc L (.int y :: .int x :: S) n σ cs sl := by
  subst hq
  intro p l e s m args below meth c D aC h0 H locs ls hC hh hz hW hS hL
  obtain ⟨⟨h1, h2, -⟩, h3, h4⟩ := hl
  exact va_mmin hC.1 hC.2.1 (hC.2.2.1.trans hL.1.symm) hC.2.2.2.1 (hC.2.2.2.2.1 _ h3) (hC.2.2.2.2.1 _ h4) (hC.2.2.2.2.1 _ h2) (hC.2.2.2.2.1 _ h1) (by show 1 ≤ M.2.2.2.2; exact hd) (by show _ ≤ 37 * M.2.2.2.2; rw [pw_map_cat]; omega) (by show cs ≤ mc; exact hc.1) (by show sl ≤ ms; exact hc.2) d (kk p l e s m args below meth c D aC h0 H locs ls hC hh hz hW hS hL)
end PWM
theorem abs_i {z : Int} (h1 : -1000 ≤ z) (h2 : z ≤ 1000) : (if 0 ≤ iI z then iI z else 0 - iI z) = nI z.natAbs := by
  rw [iI_nI]
  have e : (0 ≤ iI z) ↔ 0 ≤ z := iI_le (a := 0) (by omega) (by omega) (by omega) (by omega)
  by_cases h : 0 ≤ z
  · rw [if_pos (e.mpr h)]; congr 1; omega
  · rw [if_neg (fun q => h (e.mp q)), show (0 : Int32) = iI 0 from rfl, iI_sub]; congr 1; omega
theorem min_n {a b : Nat} (h1 : a < 2 ^ 31) (h2 : b < 2 ^ 31) : (if nI b < nI a then nI b else nI a) = nI (min a b) := by
  have e := nI_ltI h2 h1
  by_cases h : b < a
  · rw [if_pos (e.mpr h), Nat.min_eq_right (Nat.le_of_lt h)]
  · rw [if_neg (fun q => h (e.mp q)), Nat.min_eq_left (by omega)]

theorem bc_small : ∀ x, x < 8 → (let a := nI x - (((nI x).toUInt32 >>> ((nI 1).toUInt32 &&& Int32.toUInt32 31)).toInt32 &&& 1431655765); let b := (a &&& 858993459) + (((a).toUInt32 >>> ((nI 2).toUInt32 &&& Int32.toUInt32 31)).toInt32 &&& 858993459); let c := (b + ((b).toUInt32 >>> ((nI 4).toUInt32 &&& Int32.toUInt32 31)).toInt32) &&& 252645135; let d := c + ((c).toUInt32 >>> ((nI 8).toUInt32 &&& Int32.toUInt32 31)).toInt32; let e := d + ((d).toUInt32 >>> ((nI 16).toUInt32 &&& Int32.toUInt32 31)).toInt32; e &&& nI 63) = nI (pcN 3 x) := by decide +kernel
set_option maxRecDepth 100000 in
set_option maxHeartbeats 4000000 in
theorem t_bc32 {n : Nat} {σ : Sto} (x : Nat) (hx : x < 8) : CD mJ6_bitCount_0f7a4 [.int (nI x)] n σ (some (.int (nI (pcN 3 x)))) σ := by
  refine CP_of (by decide +kernel) (Nat.le_of_ble_eq_true rfl) ?_
  change PW _ _ _ _ 0 [_] [] _ _ _ _
  refine P_iload_n (q := 1) dJ6_bitCount_0f7a4_0 rfl rfl ?_
  refine P_iload_n (q := 2) dJ6_bitCount_0f7a4_1 rfl rfl ?_
  refine P_iconst (q := 3) (v := nI 1) dJ6_bitCount_0f7a4_2 rfl (by decide +kernel) ?_
  refine P_iushr (q := 4) dJ6_bitCount_0f7a4_3 rfl ?_
  refine P_ldcw (q := 7) dJ6_bitCount_0f7a4_4 rfl qJ6_265 ?_
  refine P_iand (q := 8) dJ6_bitCount_0f7a4_7 rfl ?_
  refine P_isub (q := 9) dJ6_bitCount_0f7a4_8 rfl ?_
  refine P_istore_n (q := 10) (L' := [_]) dJ6_bitCount_0f7a4_9 rfl (by first | decide | exact lt_c (by decide)) rfl ?_
  refine P_iload_n (q := 11) dJ6_bitCount_0f7a4_10 rfl rfl ?_
  refine P_ldcw (q := 14) dJ6_bitCount_0f7a4_11 rfl qJ6_266 ?_
  refine P_iand (q := 15) dJ6_bitCount_0f7a4_14 rfl ?_
  refine P_iload_n (q := 16) dJ6_bitCount_0f7a4_15 rfl rfl ?_
  refine P_iconst (q := 17) (v := nI 2) dJ6_bitCount_0f7a4_16 rfl (by decide +kernel) ?_
  refine P_iushr (q := 18) dJ6_bitCount_0f7a4_17 rfl ?_
  refine P_ldcw (q := 21) dJ6_bitCount_0f7a4_18 rfl qJ6_266 ?_
  refine P_iand (q := 22) dJ6_bitCount_0f7a4_21 rfl ?_
  refine P_iadd (q := 23) dJ6_bitCount_0f7a4_22 rfl ?_
  refine P_istore_n (q := 24) (L' := [_]) dJ6_bitCount_0f7a4_23 rfl (by first | decide | exact lt_c (by decide)) rfl ?_
  refine P_iload_n (q := 25) dJ6_bitCount_0f7a4_24 rfl rfl ?_
  refine P_iload_n (q := 26) dJ6_bitCount_0f7a4_25 rfl rfl ?_
  refine P_iconst (q := 27) (v := nI 4) dJ6_bitCount_0f7a4_26 rfl (by decide +kernel) ?_
  refine P_iushr (q := 28) dJ6_bitCount_0f7a4_27 rfl ?_
  refine P_iadd (q := 29) dJ6_bitCount_0f7a4_28 rfl ?_
  refine P_ldcw (q := 32) dJ6_bitCount_0f7a4_29 rfl qJ6_267 ?_
  refine P_iand (q := 33) dJ6_bitCount_0f7a4_32 rfl ?_
  refine P_istore_n (q := 34) (L' := [_]) dJ6_bitCount_0f7a4_33 rfl (by first | decide | exact lt_c (by decide)) rfl ?_
  refine P_iload_n (q := 35) dJ6_bitCount_0f7a4_34 rfl rfl ?_
  refine P_iload_n (q := 36) dJ6_bitCount_0f7a4_35 rfl rfl ?_
  refine P_bipush (q := 38) (v := nI 8) dJ6_bitCount_0f7a4_36 rfl (by decide +kernel) ?_
  refine P_iushr (q := 39) dJ6_bitCount_0f7a4_38 rfl ?_
  refine P_iadd (q := 40) dJ6_bitCount_0f7a4_39 rfl ?_
  refine P_istore_n (q := 41) (L' := [_]) dJ6_bitCount_0f7a4_40 rfl (by first | decide | exact lt_c (by decide)) rfl ?_
  refine P_iload_n (q := 42) dJ6_bitCount_0f7a4_41 rfl rfl ?_
  refine P_iload_n (q := 43) dJ6_bitCount_0f7a4_42 rfl rfl ?_
  refine P_bipush (q := 45) (v := nI 16) dJ6_bitCount_0f7a4_43 rfl (by decide +kernel) ?_
  refine P_iushr (q := 46) dJ6_bitCount_0f7a4_45 rfl ?_
  refine P_iadd (q := 47) dJ6_bitCount_0f7a4_46 rfl ?_
  refine P_istore_n (q := 48) (L' := [_]) dJ6_bitCount_0f7a4_47 rfl (by first | decide | exact lt_c (by decide)) rfl ?_
  refine P_iload_n (q := 49) dJ6_bitCount_0f7a4_48 rfl rfl ?_
  refine P_bipush (q := 51) (v := nI 63) dJ6_bitCount_0f7a4_49 rfl (by decide +kernel) ?_
  refine P_iand (q := 52) dJ6_bitCount_0f7a4_51 rfl ?_
  refine P_iret dJ6_bitCount_0f7a4_52 rfl (rfl) ?_
  exact ⟨rv_i (bc_small x hx), rfl⟩
def flV (N : Nat) (v : Int32) (f : Nat → Int32) (i : Nat) : Nat → Int32 := fun j => if j < i then v else f j
theorem flV_succ (N : Nat) (v : Int32) (f : Nat → Int32) (i : Nat) : upd (flV N v f i) i v = flV N v f (i + 1) := by
  funext j
  unfold upd flV
  by_cases h : j = i
  · subst h; simp
  · have e : (j < i) = (j < i + 1) := by apply propext; omega
    simp only [h, e, if_false]
set_option maxRecDepth 100000 in
set_option maxHeartbeats 4000000 in
theorem w_fill {σ : Sto} {a N : Nat} {f : Nat → Int32} {v : Int32} (ha : a < eN + 114) (hN : N < 2 ^ 31) : ∀ k i, i + k = N → PW mJ7_fill_53178 0 0 (fun r σ' => r = none ∧ σ' = va_up σ a (pI .int N (flV N v f N))) 5 [some (.ref a), some (.int v), some (.int (nI i)), some (.int (nI N))] [] (eN + 114) (va_up σ a (pI .int N (flV N v f i))) 0 0 := by
  intro k
  induction k with
  | zero =>
    intro i hi
    refine P_iload_n (q := 6) dJ7_fill_53178_5 rfl rfl ?_
    refine P_iload_n (q := 7) dJ7_fill_53178_6 rfl rfl ?_
    refine P_icmp_ge (q := 10) (tgt := 20) dJ7_fill_53178_7 rfl (by first | decide | exact lt_c (by decide)) (fun c_7 => ?_) (fun c_7 => ?_)
    · rw [nI_leI (by omega) (by omega)] at c_7
      refine P_vret dJ7_fill_53178_20 rfl ?_
      exact ⟨rfl, by rw [show i = N by omega]⟩
    · exfalso; rw [nI_leI (by omega) (by omega)] at c_7; omega
  | succ k ih =>
    intro i hi
    refine P_iload_n (q := 6) dJ7_fill_53178_5 rfl rfl ?_
    refine P_iload_n (q := 7) dJ7_fill_53178_6 rfl rfl ?_
    refine P_icmp_ge (q := 10) (tgt := 20) dJ7_fill_53178_7 rfl (by first | decide | exact lt_c (by decide)) (fun c_7 => ?_) (fun c_7 => ?_)
    · exfalso; rw [nI_leI (by omega) (by omega)] at c_7; omega
    · rw [nI_leI (by omega) (by omega)] at c_7
      refine P_aload_n (q := 11) dJ7_fill_53178_10 rfl rfl ?_
      refine P_iload_n (q := 12) dJ7_fill_53178_11 rfl rfl ?_
      refine P_iload_n (q := 13) dJ7_fill_53178_12 rfl rfl ?_
      refine P_iast (q := 14) (j := i) (f' := flV N v f (i + 1)) (σ' := va_up σ a (pI .int N (flV N v f (i + 1)))) dJ7_fill_53178_13 rfl (ha) (up_at _ _ _) (rfl) (by omega) (hN) (flV_succ _ _ _ _) (up_up _ _ _ _) ?_
      refine P_iinc (q := 17) (L' := [_, _, _, _]) (v := nI (i + 1)) dJ7_fill_53178_14 rfl (by first | decide | exact lt_c (by decide)) rfl (nI_1 i) rfl ?_
      refine P_goto (tgt := 5) dJ7_fill_53178_17 (by first | decide | exact lt_c (by decide)) ?_
      exact ih (i + 1) (by omega)
set_option maxRecDepth 100000 in
set_option maxHeartbeats 4000000 in
theorem t_fill {σ : Sto} {a N : Nat} {f : Nat → Int32} (v : Int32) (ha : a < eN + 114) (hN : N < 2 ^ 31) (hσ : σ a = pI .int N f) : CD mJ7_fill_53178 [.ref a, .int v] (eN + 114) σ none (va_up σ a (pI .int N (flV N v f N))) := by
  refine CP_of (by decide +kernel) (Nat.le_of_ble_eq_true rfl) ?_
  change PW _ _ _ _ 0 [_, _, _, _] [] _ _ _ _
  refine P_iconst (q := 1) (v := nI 0) dJ7_fill_53178_0 rfl (by decide +kernel) ?_
  refine P_istore_n (q := 2) (L' := [_, _, _, _]) dJ7_fill_53178_1 rfl (by first | decide | exact lt_c (by decide)) rfl ?_
  refine P_aload_n (q := 3) dJ7_fill_53178_2 rfl rfl ?_
  refine P_ilen (q := 4) 0 (fun _ => rfl) dJ7_fill_53178_3 rfl (ha) (hσ) ?_
  refine P_istore_n (q := 5) (L' := [_, _, _, _]) dJ7_fill_53178_4 rfl (by first | decide | exact lt_c (by decide)) rfl ?_
  have h := w_fill (eN := eN) (σ := σ) (f := f) (v := v) ha hN N 0 (by omega)
  rw [show va_up σ a (pI .int N (flV N v f 0)) = σ from up_self (by rw [hσ]; congr 1)] at h
  exact h
