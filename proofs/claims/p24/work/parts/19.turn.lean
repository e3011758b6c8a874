variable {eN : Nat}
/-! THE STRIP: cells turned, patches, copies, laying anew -/
def St.flip (A : St) (a : Nat) : St := (A.C, A.R, A.g, A.al, A.ac, fun c => A.sp c ^^^ (a / 16 ^ c % 16), A.fd, A.tu + nI (pcN 64 a))
theorem dig_bit (a c i : Nat) : (a / 16 ^ c % 16).testBit i = (decide (i < 4) && a.testBit (4 * c + i)) := by
  rw [show (16 : Nat) = 2 ^ 4 from rfl, ← Nat.pow_mul, Nat.testBit_mod_two_pow, Nat.testBit_div_two_pow, Nat.add_comm]
theorem St.flip_U {A : St} (hA : A.ok) {a : Nat} (ha : a < 2 ^ 40) : (A.flip a).U = A.U ^^^ a := by
  have h16 : ∀ c, A.sp c ^^^ (a / 16 ^ c % 16) < 16 := fun c => Nat.xor_lt_two_pow (n := 4) (A.sp16 hA c) (Nat.mod_lt _ (by first | decide | exact lt_c (by decide)))
  apply Nat.eq_of_testBit_eq
  intro p
  show (upsN (fun c => A.sp c ^^^ (a / 16 ^ c % 16)) 10).testBit p = _
  rw [upsN_bit h16, Nat.testBit_xor, Nat.testBit_xor, A.U_bit hA, dig_bit, show 4 * (p / 4) + p % 4 = p by omega, decide_eq_true (show p % 4 < 4 by omega), Bool.true_and]
  by_cases hp : p / 4 < 10
  · rw [decide_eq_true hp, Bool.true_and]
  · have e1 : a.testBit p = false := Nat.testBit_lt_two_pow (Nat.lt_of_lt_of_le ha (Nat.pow_le_pow_right (by first | decide | exact lt_c (by decide)) (by omega)))
    have e2 := hA.2.2.2.2.2.2.1 (p / 4) (by have := hA.1.2; omega)
    rw [decide_eq_false hp, Bool.false_and, e1, e2, Nat.zero_testBit]; simp only [Bool.false_bne, bne_self_eq_false]
theorem St.flip_ok {A : St} (hA : A.ok) {a : Nat} (ha : ∀ p, a.testBit p = true → (mskN A.C A.R).testBit p = true) : (A.flip a).ok := by
  have hR := hA.2.1.2
  have key : ∀ c i, (a / 16 ^ c % 16).testBit i = true → c < A.C ∧ i < A.R := fun c i h => by
    rw [dig_bit, Bool.and_eq_true] at h
    have h2 := ha _ h.2
    have hi := of_decide_eq_true h.1
    rw [mskN_bit hR, Bool.and_eq_true, show (4 * c + i) / 4 = c by omega, show (4 * c + i) % 4 = i by omega] at h2
    exact ⟨of_decide_eq_true h2.1, of_decide_eq_true h2.2⟩
  obtain ⟨h1, h2, h3, h4, h5, h6, h7, h8⟩ := hA
  refine ⟨h1, h2, h3, h4, h5, fun c => ?_, fun c hc => ?_, h8⟩
  · refine Nat.xor_lt_two_pow (h6 c) (Nat.lt_pow_two_of_testBit _ fun i hi => ?_)
    cases hb : (a / 16 ^ c % 16).testBit i
    · rfl
    · have := (key c i hb).2
      have hi' : A.R ≤ i := hi
      omega
  · show A.sp c ^^^ (a / 16 ^ c % 16) = 0
    have e : a / 16 ^ c % 16 = 0 := by
      apply Nat.eq_of_testBit_eq
      intro i
      rw [Nat.zero_testBit]
      cases hb : (a / 16 ^ c % 16).testBit i
      · rfl
      · have := (key c i hb).1
        have hc' : A.C ≤ c := hc
        omega
    rw [h7 c hc, e]; rfl
theorem one_sub {A : St} (hA : A.ok) {c r : Nat} (hc : c < A.C) (hr : r < A.R) : ∀ p, (2 ^ (4 * c + r)).testBit p = true → (mskN A.C A.R).testBit p = true := by
  intro p hp
  have hR := hA.2.1.2
  rw [Nat.testBit_two_pow] at hp
  have e := of_decide_eq_true hp
  subst e
  rw [mskN_bit hR, show (4 * c + r) / 4 = c by omega, show (4 * c + r) % 4 = r by omega, decide_eq_true hc, decide_eq_true hr]
  rfl
set_option maxRecDepth 100000 in
set_option maxHeartbeats 4000000 in
theorem t_flip {σ : Sto} {A : St} (hA : A.ok) (h1 : σ 1 = stO A 2) (a : Nat) (ha : a < 2 ^ 40) : CD mX4_flip [.ref 1, .long (lN a)] (eN + 114) σ none (va_up σ 1 (stO (A.flip a) 2)) := by
  refine CP_of (by decide +kernel) (Nat.le_of_ble_eq_true rfl) ?_
  change PW _ _ _ _ 0 [_, _, _] [] _ _ _ _
  refine P_aload_n (q := 1) dX4_flip_0 rfl rfl ?_
  refine P_dup (q := 2) dX4_flip_1 rfl rfl ?_
  refine P_get (q := 5) dX4_flip_2 rfl fX4_36 (by first | decide | exact lt_c (by decide)) (by assumption) rfl ?_
  refine P_lload_n (q := 6) dX4_flip_5 rfl rfl ?_
  refine P_lxor (q := 7) dX4_flip_6 rfl ?_
  refine P_put (q := 10) (fs' := [_, _, _, _, _, _, _, _, _]) dX4_flip_7 rfl gX4_36 (by first | decide | exact lt_c (by decide)) (by assumption) (fun _ => rfl) (fun _ => rfl) (Nat.le_of_ble_eq_true rfl) rfl (rfl) ?_
  refine P_aload_n (q := 11) dX4_flip_10 rfl rfl ?_
  refine P_dup (q := 12) dX4_flip_11 rfl rfl ?_
  refine P_get (q := 15) dX4_flip_12 rfl fX4_39 (by first | decide | exact lt_c (by decide)) (up_at _ _ _) rfl ?_
  refine P_lload_n (q := 16) dX4_flip_15 rfl rfl ?_
  refine P_cs1 (q := 19) dX4_flip_16 rfl kX4_69 (t_bitCount a (by omega)) rfl rfl ⟨by decide, by decide⟩ (Nat.le_of_ble_eq_true rfl) ⟨Nat.le_refl _, Nat.le_refl _⟩ ?_
  refine P_iadd (q := 20) dX4_flip_19 rfl ?_
  refine P_put (q := 23) (fs' := [_, _, _, _, _, _, _, _, _]) dX4_flip_20 rfl gX4_39 (by first | decide | exact lt_c (by decide)) (up_at _ _ _) (fun _ => rfl) (fun _ => rfl) (Nat.le_of_ble_eq_true rfl) rfl (rfl) ?_
  refine P_vret dX4_flip_23 rfl ?_
  exact ⟨rfl, by rw [up_up, lN_xor, ← A.flip_U hA ha]; rfl⟩
/-- a sweep -/
def St.stp (A : St) (c r : Nat) : St := if 0 < A.gain c r then A.flip (2 ^ (4 * c + r)) else A
def St.swc (A : St) (c : Nat) : Nat → St
  | 0 => A
  | n + 1 => (A.swc c n).stp c n
def St.swp (A : St) : Nat → St
  | 0 => A
  | n + 1 => (A.swp n).swc n A.R
def St.like (A B : St) : Prop := B.ok ∧ B.C = A.C ∧ B.R = A.R ∧ B.g = A.g ∧ B.al = A.al ∧ B.ac = A.ac ∧ B.fd = A.fd
theorem St.stp_like {A B : St} (h : A.like B) {c r : Nat} (hc : c < A.C) (hr : r < A.R) : A.like (B.stp c r) := by
  unfold St.stp
  split
  · exact ⟨B.flip_ok h.1 (one_sub h.1 (by rw [h.2.1]; exact hc) (by rw [h.2.2.1]; exact hr)), h.2⟩
  · exact h
theorem St.swc_like {A B : St} (h : A.like B) {c : Nat} (hc : c < A.C) : ∀ n, n ≤ A.R → A.like (B.swc c n)
  | 0, _ => h
  | n + 1, hn => St.stp_like (St.swc_like h hc n (by omega)) hc (by omega)
theorem St.swp_like {A : St} (hA : A.ok) : ∀ n, n ≤ A.C → A.like (A.swp n)
  | 0, _ => ⟨hA, rfl, rfl, rfl, rfl, rfl, rfl⟩
  | n + 1, hn => St.swc_like (St.swp_like hA n (by omega)) (by omega) A.R (Nat.le_refl _)
theorem St.like_f {A B : St} (h : A.like B) {f : Nat → Int32} (hf : stF A f) : stF B f := fun c r hc hr => by
  rw [h.2.2.2.2.2.2]
  exact hf c r (by rw [← h.2.1]; exact hc) (by rw [← h.2.2.1]; exact hr)
set_option maxRecDepth 100000 in
set_option maxHeartbeats 4000000 in
theorem w_fg1 {σ : Sto} {A : St} {f : Nat → Int32} (hA : A.ok) (h1 : σ 1 = stO A 2) (h2 : σ 2 = pI .int 40 f) (hf : stF A f) {c : Nat} (hc : c < A.C) (K : ∀ x3 : Option Value, PW mX4_flipGainingCells 0 0 (fun v σ' => v = some (.int ((A.swp A.C).tu - A.tu)) ∧ σ' = va_up σ 1 (stO (A.swp A.C) 2)) 7 [some (.ref 1), some (.int A.tu), some (.int (nI (c + 1))), x3] [] (eN + 114) (va_up σ 1 (stO (A.swp (c + 1)) 2)) 0 0) : ∀ k r, r + k = A.R → PW mX4_flipGainingCells 0 0 (fun v σ' => v = some (.int ((A.swp A.C).tu - A.tu)) ∧ σ' = va_up σ 1 (stO (A.swp A.C) 2)) 17 [some (.ref 1), some (.int A.tu), some (.int (nI c)), some (.int (nI r))] [] (eN + 114) (va_up σ 1 (stO ((A.swp c).swc c r) 2)) 0 0 := by
  have hC := hA.1.2
  have hR := hA.2.1.2
  intro k
  induction k with
  | zero =>
    intro r hr
    have e : r = A.R := by omega
    subst e
    have hB := St.swc_like (St.swp_like hA c (by omega)) hc A.R (Nat.le_refl _)
    have g1 : va_up σ 1 (stO ((A.swp c).swc c A.R) 2) 1 = stO ((A.swp c).swc c A.R) 2 := up_at _ _ _
    refine P_iload_n (q := 18) dX4_flipGainingCells_17 rfl rfl ?_
    refine P_aload_n (q := 19) dX4_flipGainingCells_18 rfl rfl ?_
    refine P_get (q := 22) dX4_flipGainingCells_19 rfl fX4_15 (by first | decide | exact lt_c (by decide)) (by assumption) rfl ?_
    rw [hB.2.2.1]
    refine P_icmp_ge (q := 25) (tgt := 49) dX4_flipGainingCells_22 rfl (by first | decide | exact lt_c (by decide)) (fun c_22 => ?_) (fun c_22 => ?_)
    · rw [nI_leI (by omega) (by omega)] at c_22
      refine P_iinc (q := 52) (L' := [_, _, _, _]) (v := nI (c + 1)) dX4_flipGainingCells_49 rfl (by first | decide | exact lt_c (by decide)) rfl (nI_1 c) rfl ?_
      refine P_goto (tgt := 7) dX4_flipGainingCells_52 (by first | decide | exact lt_c (by decide)) ?_
      exact K _
    · exfalso; rw [nI_leI (by omega) (by omega)] at c_22; omega
  | succ k ih =>
    intro r hr
    have hr' : r < A.R := by omega
    have hB := St.swc_like (St.swp_like hA c (by omega)) hc r (by omega)
    have hs : (A.swp c).swc c (r + 1) = ((A.swp c).swc c r).stp c r := rfl
    have ihr := ih (r + 1) (by omega)
    rw [hs] at ihr
    generalize (A.swp c).swc c r = B at hB ihr ⊢
    have g1 : va_up σ 1 (stO B 2) 1 = stO B 2 := up_at _ _ _
    have g2 : va_up σ 1 (stO B 2) 2 = pI .int 40 f := (up_ne _ _ (by first | decide | exact lt_c (by decide))).trans h2
    have hBf := St.like_f hB hf
    have hg := B.gain_in hB.1 c r
    refine P_iload_n (q := 18) dX4_flipGainingCells_17 rfl rfl ?_
    refine P_aload_n (q := 19) dX4_flipGainingCells_18 rfl rfl ?_
    refine P_get (q := 22) dX4_flipGainingCells_19 rfl fX4_15 (by first | decide | exact lt_c (by decide)) (by assumption) rfl ?_
    rw [hB.2.2.1]
    refine P_icmp_ge (q := 25) (tgt := 49) dX4_flipGainingCells_22 rfl (by first | decide | exact lt_c (by decide)) (fun c_22 => ?_) (fun c_22 => ?_)
    · exfalso; rw [nI_leI (by omega) (by omega)] at c_22; omega
    · rw [nI_leI (by omega) (by omega)] at c_22
      refine P_aload_n (q := 26) dX4_flipGainingCells_25 rfl rfl ?_
      refine P_iload_n (q := 27) dX4_flipGainingCells_26 rfl rfl ?_
      refine P_iload_n (q := 28) dX4_flipGainingCells_27 rfl rfl ?_
      refine P_cv1 (q := 31) dX4_flipGainingCells_28 rfl kX4_109 (t_gain hB.1 g1 g2 hBf (by rw [hB.2.2.1]; exact hr') (by rw [hB.2.1]; exact hc)) rfl rfl (by first | decide | exact lt_c (by decide)) (by assumption) rfl ⟨by decide, by decide⟩ (Nat.le_of_ble_eq_true rfl) ⟨Nat.le_refl _, Nat.le_refl _⟩ ?_
      refine P_if_le (q := 34) (tgt := 43) dX4_flipGainingCells_31 rfl (by first | decide | exact lt_c (by decide)) (fun c_31 => ?_) (fun c_31 => ?_)
      · change iI (B.gain c r) ≤ iI 0 at c_31
        rw [iI_le (by omega) (by omega) (by omega) (by omega)] at c_31
        rw [show B.stp c r = B from if_neg (by omega)] at ihr
        refine P_iinc (q := 46) (L' := [_, _, _, _]) (v := nI (r + 1)) dX4_flipGainingCells_43 rfl (by first | decide | exact lt_c (by decide)) rfl (nI_1 r) rfl ?_
        refine P_goto (tgt := 17) dX4_flipGainingCells_46 (by first | decide | exact lt_c (by decide)) ?_
        exact ihr
      · change ¬ iI (B.gain c r) ≤ iI 0 at c_31
        rw [iI_le (by omega) (by omega) (by omega) (by omega)] at c_31
        rw [show B.stp c r = B.flip (2 ^ (4 * c + r)) from if_pos (by omega)] at ihr
        refine P_aload_n (q := 35) dX4_flipGainingCells_34 rfl rfl ?_
        refine P_iload_n (q := 36) dX4_flipGainingCells_35 rfl rfl ?_
        refine P_iload_n (q := 37) dX4_flipGainingCells_36 rfl rfl ?_
        refine P_cs1 (q := 40) dX4_flipGainingCells_37 rfl kX4_62 (t_bit r c (by omega)) rfl rfl ⟨by decide, by decide⟩ (Nat.le_of_ble_eq_true rfl) ⟨Nat.le_refl _, Nat.le_refl _⟩ ?_
        refine P_cv0 (q := 43) dX4_flipGainingCells_40 rfl kX4_112 (t_flip hB.1 g1 _ (one_lt hA hc hr')) rfl rfl (by first | decide | exact lt_c (by decide)) (by assumption) rfl ⟨by decide, by decide⟩ (Nat.le_of_ble_eq_true rfl) ⟨Nat.le_refl _, Nat.le_refl _⟩ ?_
        rw [up_up]
        refine P_iinc (q := 46) (L' := [_, _, _, _]) (v := nI (r + 1)) dX4_flipGainingCells_43 rfl (by first | decide | exact lt_c (by decide)) rfl (nI_1 r) rfl ?_
        refine P_goto (tgt := 17) dX4_flipGainingCells_46 (by first | decide | exact lt_c (by decide)) ?_
        exact ihr
set_option maxRecDepth 100000 in
set_option maxHeartbeats 4000000 in
theorem w_fg0 {σ : Sto} {A : St} {f : Nat → Int32} (hA : A.ok) (h1 : σ 1 = stO A 2) (h2 : σ 2 = pI .int 40 f) (hf : stF A f) : ∀ k c, c + k = A.C → ∀ x3 : Option Value, PW mX4_flipGainingCells 0 0 (fun v σ' => v = some (.int ((A.swp A.C).tu - A.tu)) ∧ σ' = va_up σ 1 (stO (A.swp A.C) 2)) 7 [some (.ref 1), some (.int A.tu), some (.int (nI c)), x3] [] (eN + 114) (va_up σ 1 (stO (A.swp c) 2)) 0 0 := by
  have hC := hA.1.2
  have hR := hA.2.1.2
  intro k
  induction k with
  | zero =>
    intro c hc x3
    have e : c = A.C := by omega
    subst e
    have hB := St.swp_like hA A.C (Nat.le_refl _)
    have g1 : va_up σ 1 (stO (A.swp A.C) 2) 1 = stO (A.swp A.C) 2 := up_at _ _ _
    refine P_iload_n (q := 8) dX4_flipGainingCells_7 rfl rfl ?_
    refine P_aload_n (q := 9) dX4_flipGainingCells_8 rfl rfl ?_
    refine P_get (q := 12) dX4_flipGainingCells_9 rfl fX4_9 (by first | decide | exact lt_c (by decide)) (by assumption) rfl ?_
    rw [hB.2.1]
    refine P_icmp_ge (q := 15) (tgt := 55) dX4_flipGainingCells_12 rfl (by first | decide | exact lt_c (by decide)) (fun c_12 => ?_) (fun c_12 => ?_)
    · rw [nI_leI (by omega) (by omega)] at c_12
      refine P_aload_n (q := 56) dX4_flipGainingCells_55 rfl rfl ?_
      refine P_get (q := 59) dX4_flipGainingCells_56 rfl fX4_39 (by first | decide | exact lt_c (by decide)) (by assumption) rfl ?_
      refine P_iload_n (q := 60) dX4_flipGainingCells_59 rfl rfl ?_
      refine P_isub (q := 61) dX4_flipGainingCells_60 rfl ?_
      refine P_iret dX4_flipGainingCells_61 rfl (rfl) ?_
      exact ⟨rfl, rfl⟩
    · exfalso; rw [nI_leI (by omega) (by omega)] at c_12; omega
  | succ k ih =>
    intro c hc x3
    have hB := St.swp_like hA c (by omega)
    have g1 : va_up σ 1 (stO (A.swp c) 2) 1 = stO (A.swp c) 2 := up_at _ _ _
    refine P_iload_n (q := 8) dX4_flipGainingCells_7 rfl rfl ?_
    refine P_aload_n (q := 9) dX4_flipGainingCells_8 rfl rfl ?_
    refine P_get (q := 12) dX4_flipGainingCells_9 rfl fX4_9 (by first | decide | exact lt_c (by decide)) (by assumption) rfl ?_
    rw [hB.2.1]
    refine P_icmp_ge (q := 15) (tgt := 55) dX4_flipGainingCells_12 rfl (by first | decide | exact lt_c (by decide)) (fun c_12 => ?_) (fun c_12 => ?_)
    · exfalso; rw [nI_leI (by omega) (by omega)] at c_12; omega
    · rw [nI_leI (by omega) (by omega)] at c_12
      refine P_iconst (q := 16) (v := nI 0) dX4_flipGainingCells_15 rfl (by decide +kernel) ?_
      refine P_istore_n (q := 17) (L' := [_, _, _, _]) dX4_flipGainingCells_16 rfl (by first | decide | exact lt_c (by decide)) rfl ?_
      exact w_fg1 hA h1 h2 hf (show c < A.C by omega) (fun x3 => ih (c + 1) (by omega) x3) A.R 0 (by omega)
set_option maxRecDepth 100000 in
set_option maxHeartbeats 4000000 in
theorem t_fg {σ : Sto} {A : St} {f : Nat → Int32} (hA : A.ok) (h1 : σ 1 = stO A 2) (h2 : σ 2 = pI .int 40 f) (hf : stF A f) : CD mX4_flipGainingCells [.ref 1] (eN + 114) σ (some (.int ((A.swp A.C).tu - A.tu))) (va_up σ 1 (stO (A.swp A.C) 2)) := by
  refine CP_of (by decide +kernel) (Nat.le_of_ble_eq_true rfl) ?_
  change PW _ _ _ _ 0 [_, _, _, _] [] _ _ _ _
  refine P_aload_n (q := 1) dX4_flipGainingCells_0 rfl rfl ?_
  refine P_get (q := 4) dX4_flipGainingCells_1 rfl fX4_39 (by first | decide | exact lt_c (by decide)) (by assumption) rfl ?_
  refine P_istore_n (q := 5) (L' := [_, _, _, _]) dX4_flipGainingCells_4 rfl (by first | decide | exact lt_c (by decide)) rfl ?_
  refine P_iconst (q := 6) (v := nI 0) dX4_flipGainingCells_5 rfl (by decide +kernel) ?_
  refine P_istore_n (q := 7) (L' := [_, _, _, _]) dX4_flipGainingCells_6 rfl (by first | decide | exact lt_c (by decide)) rfl ?_
  have h := w_fg0 (eN := eN) hA h1 h2 hf A.C 0 (by omega) none
  rw [show va_up σ 1 (stO (A.swp 0) 2) = σ from up_self h1] at h
  exact h
/-- the patch of the cell k, by steps -/
def St.pIt (A : St) (k : Nat) : Nat → Nat
  | 0 => 2 ^ k
  | n + 1 => A.pIt k n ||| (A.bN (A.pIt k n) &&& A.lk k)
theorem St.pIt_lt {A : St} (hA : A.ok) {k : Nat} (hk : k < 40) : ∀ n, A.pIt k n < 2 ^ 40
  | 0 => Nat.pow_lt_pow_right (by first | decide | exact lt_c (by decide)) hk
  | n + 1 => or_lt (A.pIt_lt hA hk n) (and_lt (A.lk_lt hA k))
theorem St.pIt_fix {A : St} {k n : Nat} (h : A.pIt k (n + 1) = A.pIt k n) : ∀ m, A.pIt k (n + m) = A.pIt k n
  | 0 => rfl
  | m + 1 => by
    have ih := St.pIt_fix h m
    show A.pIt k (n + m) ||| (A.bN (A.pIt k (n + m)) &&& A.lk k) = _
    rw [ih]
    exact h
theorem lcmp_eq {a b : Nat} (ha : a < 2 ^ 63) (hb : b < 2 ^ 63) : lg_cmp (lN a) (lN b) = 0 ↔ a = b := by
  have e : lN a = lN b ↔ a = b := pk_lEQ ha hb
  unfold lg_cmp
  by_cases h : lN a > lN b
  · rw [if_pos h]
    constructor
    · intro q; exact absurd q (by first | decide | exact lt_c (by decide))
    · intro q; rw [q] at h
      have h' : lN b < lN b := h
      rw [pk_lLT hb hb] at h'
      omega
  · rw [if_neg h]
    by_cases h' : lN a = lN b
    · simp [h', e.mp h']
    · rw [if_neg h']
      constructor
      · intro q; exact absurd q (by first | decide | exact lt_c (by decide))
      · intro q; exact absurd (e.mpr q) h'

set_option maxRecDepth 100000 in
set_option maxHeartbeats 4000000 in
theorem w_patch {σ : Sto} {A : St} (hA : A.ok) (h1 : σ 1 = stO A 2) {k : Nat} (hk : k < 40) (y : Int64) : ∀ m j, j + m = 30 → ∀ b, b < 2 ^ 40 → (A.pIt k j = b → ∃ i, j = i + 1 ∧ A.pIt k i = b) → PW mX4_patchOf 0 0 (fun v σ' => v = some (.long (lN (A.pIt k 30))) ∧ σ' = σ) 15 [some (.ref 1), some (.long y), none, some (.long (lN (A.lk k))), none, some (.long (lN (A.pIt k j))), none, some (.long (lN b)), none, some (.int (nI j))] [] (eN + 114) σ 0 0 := by
  intro m
  induction m with
  | zero =>
    intro j hj b hb hbj
    have e : j = 30 := by omega
    subst e
    refine P_iload (q := 17) dX4_patchOf_15 rfl rfl ?_
    refine P_bipush (q := 19) (v := nI 30) dX4_patchOf_17 rfl (by decide +kernel) ?_
    refine P_icmp_ge (q := 22) (tgt := 53) dX4_patchOf_19 rfl (by first | decide | exact lt_c (by decide)) (fun c_19 => ?_) (fun c_19 => ?_)
    · rw [nI_leI (by omega) (by omega)] at c_19
      refine P_lload (q := 55) dX4_patchOf_53 rfl rfl ?_
      refine P_lret dX4_patchOf_55 rfl ?_
      exact ⟨rfl, rfl⟩
    · exfalso; rw [nI_leI (by omega) (by omega)] at c_19; omega
  | succ m ih =>
    intro j hj b hb hbj
    have hp := A.pIt_lt hA hk j
    have hl := A.lk_lt hA k
    have hn := A.bN_lt hA (A.pIt k j)
    refine P_iload (q := 17) dX4_patchOf_15 rfl rfl ?_
    refine P_bipush (q := 19) (v := nI 30) dX4_patchOf_17 rfl (by decide +kernel) ?_
    refine P_icmp_ge (q := 22) (tgt := 53) dX4_patchOf_19 rfl (by first | decide | exact lt_c (by decide)) (fun c_19 => ?_) (fun c_19 => ?_)
    · exfalso; rw [nI_leI (by omega) (by omega)] at c_19; omega
    · rw [nI_leI (by omega) (by omega)] at c_19
      refine P_lload (q := 24) dX4_patchOf_22 rfl rfl ?_
      refine P_lload (q := 26) dX4_patchOf_24 rfl rfl ?_
      refine P_lcmp (q := 27) dX4_patchOf_26 rfl ?_
      refine P_if_eq (q := 30) (tgt := 53) dX4_patchOf_27 rfl (by first | decide | exact lt_c (by decide)) (fun c_27 => ?_) (fun c_27 => ?_)
      · rw [lcmp_eq (by omega) (by omega)] at c_27
        refine P_lload (q := 55) dX4_patchOf_53 rfl rfl ?_
        refine P_lret dX4_patchOf_55 rfl ?_
        obtain ⟨i, rfl, hi⟩ := hbj c_27
        have h := St.pIt_fix (A := A) (k := k) (n := i) (by rw [hi]; exact c_27) (30 - i)
        rw [show i + (30 - i) = 30 by omega] at h
        exact ⟨rv_l (by rw [h, c_27, hi]), rfl⟩
      · rw [lcmp_eq (by omega) (by omega)] at c_27
        refine P_lload (q := 32) dX4_patchOf_30 rfl rfl ?_
        refine P_lstore (q := 34) (L' := [_, _, _, _, _, _, _, _, _, _]) dX4_patchOf_32 rfl (by first | decide | exact lt_c (by decide)) rfl ?_
        refine P_lload (q := 36) dX4_patchOf_34 rfl rfl ?_
        refine P_aload_n (q := 37) dX4_patchOf_36 rfl rfl ?_
        refine P_lload (q := 39) dX4_patchOf_37 rfl rfl ?_
        refine P_cv1 (q := 42) dX4_patchOf_39 rfl kX4_100 (t_beside hA h1 _ hp) rfl rfl (by first | decide | exact lt_c (by decide)) (by assumption) rfl ⟨by decide, by decide⟩ (Nat.le_of_ble_eq_true rfl) ⟨Nat.le_refl _, Nat.le_refl _⟩ ?_
        refine P_lload_n (q := 43) dX4_patchOf_42 rfl rfl ?_
        refine P_land (q := 44) dX4_patchOf_43 rfl ?_
        rw [lN_and (by omega) (by omega)]
        refine P_lor (q := 45) dX4_patchOf_44 rfl ?_
        rw [lN_or (by omega) (Nat.lt_of_le_of_lt Nat.and_le_left (by omega))]
        refine P_lstore (q := 47) (L' := [_, _, _, _, _, _, _, _, _, _]) dX4_patchOf_45 rfl (by first | decide | exact lt_c (by decide)) rfl ?_
        refine P_iinc (q := 50) (L' := [_, _, _, _, _, _, _, _, _, _]) (v := nI (j + 1)) dX4_patchOf_47 rfl (by first | decide | exact lt_c (by decide)) rfl (nI_1 j) rfl ?_
        refine P_goto (tgt := 15) dX4_patchOf_50 (by first | decide | exact lt_c (by decide)) ?_
        exact ih (j + 1) (by omega) _ hp (fun h => ⟨j, rfl, rfl⟩)
set_option maxRecDepth 100000 in
set_option maxHeartbeats 4000000 in
theorem t_patchOf {σ : Sto} {A : St} (hA : A.ok) (h1 : σ 1 = stO A 2) {k : Nat} (hk : k < 40) : CD mX4_patchOf [.ref 1, .long (lN (2 ^ k))] (eN + 114) σ (some (.long (lN (A.pIt k 30)))) σ := by
  refine CP_of (by decide +kernel) (Nat.le_of_ble_eq_true rfl) ?_
  change PW _ _ _ _ 0 [_, _, _, _, _, _, _, _, _, _] [] _ _ _ _
  refine P_aload_n (q := 1) dX4_patchOf_0 rfl rfl ?_
  refine P_lload_n (q := 2) dX4_patchOf_1 rfl rfl ?_
  refine P_cv1 (q := 5) dX4_patchOf_2 rfl kX4_103 (t_alike hA h1 (by omega)) rfl rfl (by first | decide | exact lt_c (by decide)) (by assumption) rfl ⟨by decide, by decide⟩ (Nat.le_of_ble_eq_true rfl) ⟨Nat.le_refl _, Nat.le_refl _⟩ ?_
  refine P_lstore_n (q := 6) (L' := [_, _, _, _, _, _, _, _, _, _]) dX4_patchOf_5 rfl (by first | decide | exact lt_c (by decide)) rfl ?_
  refine P_lload_n (q := 7) dX4_patchOf_6 rfl rfl ?_
  refine P_lstore (q := 9) (L' := [_, _, _, _, _, _, _, _, _, _]) dX4_patchOf_7 rfl (by first | decide | exact lt_c (by decide)) rfl ?_
  refine P_lconst (q := 10) (v := lN 0) dX4_patchOf_9 rfl (by decide +kernel) ?_
  refine P_lstore (q := 12) (L' := [_, _, _, _, _, _, _, _, _, _]) dX4_patchOf_10 rfl (by first | decide | exact lt_c (by decide)) rfl ?_
  refine P_iconst (q := 13) (v := nI 0) dX4_patchOf_12 rfl (by decide +kernel) ?_
  refine P_istore (q := 15) (L' := [_, _, _, _, _, _, _, _, _, _]) dX4_patchOf_13 rfl (by first | decide | exact lt_c (by decide)) rfl ?_
  exact w_patch hA h1 hk _ 30 0 (by omega) 0 (by first | decide | exact lt_c (by decide)) (fun h => absurd h (by show ¬ 2 ^ k = 0; have := Nat.two_pow_pos k; omega))
