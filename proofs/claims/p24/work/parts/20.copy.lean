variable {eN : Nat}
/-! THE STRIP: patches counted, copies, laying anew -/
def St.ptc (A : St) (p : Nat × Nat) (c : Nat) : Nat → Nat × Nat
  | 0 => p
  | r + 1 => if (A.ptc p c r).2.testBit (4 * c + r) then A.ptc p c r else ((A.ptc p c r).1 + 1, (A.ptc p c r).2 ||| A.pIt (4 * c + r) 30)
def St.ptp (A : St) : Nat → Nat × Nat
  | 0 => (0, 0)
  | c + 1 => A.ptc (A.ptp c) c A.R
theorem St.ptc_lt {A : St} (hA : A.ok) {p : Nat × Nat} {c : Nat} (hp : p.2 < 2 ^ 40) (hc : c < A.C) : ∀ r, r ≤ A.R → (A.ptc p c r).2 < 2 ^ 40
  | 0, _ => hp
  | r + 1, h => by
    have ih := St.ptc_lt hA hp hc r (by omega)
    have hC := hA.1.2
    have hR := hA.2.1.2
    rw [St.ptc]
    split
    · exact ih
    · exact or_lt ih (A.pIt_lt hA (by omega) 30)
theorem St.ptp_lt {A : St} (hA : A.ok) : ∀ c, c ≤ A.C → (A.ptp c).2 < 2 ^ 40
  | 0, _ => (show 0 < 2 ^ 40 by decide)
  | c + 1, h => St.ptc_lt hA (St.ptp_lt hA c (by omega)) (by omega) A.R (Nat.le_refl _)
set_option maxRecDepth 100000 in
set_option maxHeartbeats 4000000 in
theorem w_pt1 {σ : Sto} {A : St} (hA : A.ok) (h1 : σ 1 = stO A 2) {c : Nat} (hc : c < A.C) (K : ∀ x5 x6 x7 : Option Value, PW mX4_patches 0 0 (fun v σ' => v = some (.int (nI (A.ptp A.C).1)) ∧ σ' = σ) 7 [some (.ref 1), some (.int (nI (A.ptp (c + 1)).1)), some (.long (lN (A.ptp (c + 1)).2)), none, some (.int (nI (c + 1))), x5, x6, x7] [] (eN + 114) σ 0 0) : ∀ k r, r + k = A.R → ∀ x6 x7 : Option Value, PW mX4_patches 0 0 (fun v σ' => v = some (.int (nI (A.ptp A.C).1)) ∧ σ' = σ) 19 [some (.ref 1), some (.int (nI (A.ptc (A.ptp c) c r).1)), some (.long (lN (A.ptc (A.ptp c) c r).2)), none, some (.int (nI c)), some (.int (nI r)), x6, x7] [] (eN + 114) σ 0 0 := by
  have hC := hA.1.2
  have hR := hA.2.1.2
  intro k
  induction k with
  | zero =>
    intro r hr x6 x7
    have e : r = A.R := by omega
    subst e
    refine P_iload (q := 21) dX4_patches_19 rfl rfl ?_
    refine P_aload_n (q := 22) dX4_patches_21 rfl rfl ?_
    refine P_get (q := 25) dX4_patches_22 rfl fX4_15 (by first | decide | exact lt_c (by decide)) (by assumption) rfl ?_
    refine P_icmp_ge (q := 28) (tgt := 64) dX4_patches_25 rfl (by first | decide | exact lt_c (by decide)) (fun c_25 => ?_) (fun c_25 => ?_)
    · rw [nI_leI (by omega) (by omega)] at c_25
      refine P_iinc (q := 67) (L' := [_, _, _, _, _, _, _, _]) (v := nI (c + 1)) dX4_patches_64 rfl (by first | decide | exact lt_c (by decide)) rfl (nI_1 c) rfl ?_
      refine P_goto (tgt := 7) dX4_patches_67 (by first | decide | exact lt_c (by decide)) ?_
      exact K _ _ _
    · exfalso; rw [nI_leI (by omega) (by omega)] at c_25; omega
  | succ k ih =>
    intro r hr x6 x7
    have hr' : r < A.R := by omega
    have hs := St.ptc_lt hA (St.ptp_lt hA c (by omega)) hc r (by omega)
    have ihr := ih (r + 1) (by omega)
    rw [St.ptc] at ihr
    generalize A.ptc (A.ptp c) c r = p at hs ihr ⊢
    have hp := A.pIt_lt hA (k := 4 * c + r) (by omega) 30
    refine P_iload (q := 21) dX4_patches_19 rfl rfl ?_
    refine P_aload_n (q := 22) dX4_patches_21 rfl rfl ?_
    refine P_get (q := 25) dX4_patches_22 rfl fX4_15 (by first | decide | exact lt_c (by decide)) (by assumption) rfl ?_
    refine P_icmp_ge (q := 28) (tgt := 64) dX4_patches_25 rfl (by first | decide | exact lt_c (by decide)) (fun c_25 => ?_) (fun c_25 => ?_)
    · exfalso; rw [nI_leI (by omega) (by omega)] at c_25; omega
    · rw [nI_leI (by omega) (by omega)] at c_25
      refine P_iload (q := 30) dX4_patches_28 rfl rfl ?_
      refine P_iload (q := 32) dX4_patches_30 rfl rfl ?_
      refine P_cs1 (q := 35) dX4_patches_32 rfl kX4_62 (t_bit r c (by omega)) rfl rfl ⟨by decide, by decide⟩ (Nat.le_of_ble_eq_true rfl) ⟨Nat.le_refl _, Nat.le_refl _⟩ ?_
      refine P_lstore (q := 37) (L' := [_, _, _, _, _, _, _, _]) dX4_patches_35 rfl (by first | decide | exact lt_c (by decide)) rfl ?_
      refine P_lload_n (q := 38) dX4_patches_37 rfl rfl ?_
      refine P_lload (q := 40) dX4_patches_38 rfl rfl ?_
      refine P_land (q := 41) dX4_patches_40 rfl ?_
      refine P_lconst (q := 42) (v := lN 0) dX4_patches_41 rfl (by decide +kernel) ?_
      refine P_lcmp (q := 43) dX4_patches_42 rfl ?_
      refine P_if_ne (q := 46) (tgt := 58) dX4_patches_43 rfl (by first | decide | exact lt_c (by decide)) (fun c_43 => ?_) (fun c_43 => ?_)
      · have hb : p.2.testBit (4 * c + r) = true := by cases hq : p.2.testBit (4 * c + r) with | true => rfl | false => exact absurd ((bit_test (by omega) (by omega)).mpr hq) c_43
        rw [if_pos hb] at ihr
        refine P_iinc (q := 61) (L' := [_, _, _, _, _, _, _, _]) (v := nI (r + 1)) dX4_patches_58 rfl (by first | decide | exact lt_c (by decide)) rfl (nI_1 r) rfl ?_
        refine P_goto (tgt := 19) dX4_patches_61 (by first | decide | exact lt_c (by decide)) ?_
        exact ihr _ _
      · rw [bit_test (by omega) (by omega)] at c_43
        rw [if_neg (by rw [c_43]; decide)] at ihr
        refine P_lload_n (q := 47) dX4_patches_46 rfl rfl ?_
        refine P_aload_n (q := 48) dX4_patches_47 rfl rfl ?_
        refine P_lload (q := 50) dX4_patches_48 rfl rfl ?_
        refine P_cv1 (q := 53) dX4_patches_50 rfl kX4_106 (t_patchOf hA h1 (by omega)) rfl rfl (by first | decide | exact lt_c (by decide)) (by assumption) rfl ⟨by decide, by decide⟩ (Nat.le_of_ble_eq_true rfl) ⟨Nat.le_refl _, Nat.le_refl _⟩ ?_
        refine P_lor (q := 54) dX4_patches_53 rfl ?_
        rw [lN_or (by omega) (by omega)]
        refine P_lstore_n (q := 55) (L' := [_, _, _, _, _, _, _, _]) dX4_patches_54 rfl (by first | decide | exact lt_c (by decide)) rfl ?_
        refine P_iinc (q := 58) (L' := [_, _, _, _, _, _, _, _]) (v := nI (p.1 + 1)) dX4_patches_55 rfl (by first | decide | exact lt_c (by decide)) rfl (nI_1 _) rfl ?_
        refine P_iinc (q := 61) (L' := [_, _, _, _, _, _, _, _]) (v := nI (r + 1)) dX4_patches_58 rfl (by first | decide | exact lt_c (by decide)) rfl (nI_1 r) rfl ?_
        refine P_goto (tgt := 19) dX4_patches_61 (by first | decide | exact lt_c (by decide)) ?_
        exact ihr _ _
set_option maxRecDepth 100000 in
set_option maxHeartbeats 4000000 in
theorem w_pt0 {σ : Sto} {A : St} (hA : A.ok) (h1 : σ 1 = stO A 2) : ∀ k c, c + k = A.C → ∀ x5 x6 x7 : Option Value, PW mX4_patches 0 0 (fun v σ' => v = some (.int (nI (A.ptp A.C).1)) ∧ σ' = σ) 7 [some (.ref 1), some (.int (nI (A.ptp c).1)), some (.long (lN (A.ptp c).2)), none, some (.int (nI c)), x5, x6, x7] [] (eN + 114) σ 0 0 := by
  have hC := hA.1.2
  have hR := hA.2.1.2
  intro k
  induction k with
  | zero =>
    intro c hc x5 x6 x7
    have e : c = A.C := by omega
    subst e
    refine P_iload (q := 9) dX4_patches_7 rfl rfl ?_
    refine P_aload_n (q := 10) dX4_patches_9 rfl rfl ?_
    refine P_get (q := 13) dX4_patches_10 rfl fX4_9 (by first | decide | exact lt_c (by decide)) (by assumption) rfl ?_
    refine P_icmp_ge (q := 16) (tgt := 70) dX4_patches_13 rfl (by first | decide | exact lt_c (by decide)) (fun c_13 => ?_) (fun c_13 => ?_)
    · rw [nI_leI (by omega) (by omega)] at c_13
      refine P_iload_n (q := 71) dX4_patches_70 rfl rfl ?_
      refine P_iret dX4_patches_71 rfl (rfl) ?_
      exact ⟨rfl, rfl⟩
    · exfalso; rw [nI_leI (by omega) (by omega)] at c_13; omega
  | succ k ih =>
    intro c hc x5 x6 x7
    refine P_iload (q := 9) dX4_patches_7 rfl rfl ?_
    refine P_aload_n (q := 10) dX4_patches_9 rfl rfl ?_
    refine P_get (q := 13) dX4_patches_10 rfl fX4_9 (by first | decide | exact lt_c (by decide)) (by assumption) rfl ?_
    refine P_icmp_ge (q := 16) (tgt := 70) dX4_patches_13 rfl (by first | decide | exact lt_c (by decide)) (fun c_13 => ?_) (fun c_13 => ?_)
    · exfalso; rw [nI_leI (by omega) (by omega)] at c_13; omega
    · rw [nI_leI (by omega) (by omega)] at c_13
      refine P_iconst (q := 17) (v := nI 0) dX4_patches_16 rfl (by decide +kernel) ?_
      refine P_istore (q := 19) (L' := [_, _, _, _, _, _, _, _]) dX4_patches_17 rfl (by first | decide | exact lt_c (by decide)) rfl ?_
      exact w_pt1 hA h1 (show c < A.C by omega) (fun x5 x6 x7 => ih (c + 1) (by omega) x5 x6 x7) A.R 0 (by omega) _ _
set_option maxRecDepth 100000 in
set_option maxHeartbeats 4000000 in
theorem t_patches {σ : Sto} {A : St} (hA : A.ok) (h1 : σ 1 = stO A 2) : CD mX4_patches [.ref 1] (eN + 114) σ (some (.int (nI (A.ptp A.C).1))) σ := by
  refine CP_of (by decide +kernel) (Nat.le_of_ble_eq_true rfl) ?_
  change PW _ _ _ _ 0 [_, _, _, _, _, _, _, _] [] _ _ _ _
  refine P_iconst (q := 1) (v := nI 0) dX4_patches_0 rfl (by decide +kernel) ?_
  refine P_istore_n (q := 2) (L' := [_, _, _, _, _, _, _, _]) dX4_patches_1 rfl (by first | decide | exact lt_c (by decide)) rfl ?_
  refine P_lconst (q := 3) (v := lN 0) dX4_patches_2 rfl (by decide +kernel) ?_
  refine P_lstore_n (q := 4) (L' := [_, _, _, _, _, _, _, _]) dX4_patches_3 rfl (by first | decide | exact lt_c (by decide)) rfl ?_
  refine P_iconst (q := 5) (v := nI 0) dX4_patches_4 rfl (by decide +kernel) ?_
  refine P_istore (q := 7) (L' := [_, _, _, _, _, _, _, _]) dX4_patches_5 rfl (by first | decide | exact lt_c (by decide)) rfl ?_
  exact w_pt0 hA h1 A.C 0 (by omega) _ _ _
section PWA
variable {M : Mth} {mc ms : Nat} {Q : Option Value → Sto → Prop} {pc q n cs sl : Nat} {L : List (Option Value)} {S : List Value} {σ σ' : Sto}
theorem P_copyi {idx a0 a1 n0 n1 sp dp N : Nat} {f g : Nat → Int32} {x y z : Int32} (d : decode M.2.1 pc = .ok (.invokestatic idx, 3)) (hq : pc + 3 = q) (h1 : Cond.methodLink M.1.cls idx ⟨"java/lang/System", "arraycopy", "(Ljava/lang/Object;ILjava/lang/Object;II)V"⟩ ∈ lw_w) (h2 : Cond.native arraycopyName ∈ lw_w) (h3 : Cond.static arraycopyName ∈ lw_w) (h4 : Cond.initialized "java/lang/System" ∈ lw_w) (ha0 : a0 < n) (ha1 : a1 < n) (hσ0 : σ a0 = pI .int n0 f) (hσ1 : σ a1 = pI .int n1 g)
    (hx : x = nI sp) (hy : y = nI dp) (hz : z = nI N) (b1 : sp + N ≤ n0) (b2 : dp + N ≤ n1) (b3 : n0 < 2 ^ 31) (b4 : n1 < 2 ^ 31) (hd : 1 ≤ M.2.2.2.2) (hsum : (S.map fun v => v.category).sum ≤ 8) (hs : va_up σ a1 (pI .int n1 (va_cpy f g sp dp N)) = σ') (kk : PW M mc ms Q q L S n σ' cs sl) : PW M mc ms Q pc L (.int z :: .int y :: .ref a1 :: .int x :: .ref a0 :: S) n σ cs sl := by
  subst hq; subst hx; subst hy; subst hz
  intro p l e s m args below meth c D aC h0 H locs ls hC hh hz hW hS hL
  have e0 := pw_at (D := D) (aC := aC) (h0 := h0) ha0 hσ0
  have e1 := pw_at (D := D) (aC := aC) (h0 := h0) ha1 hσ1
  refine va_copyi hC.1 hC.2.1 (hC.2.2.1.trans hL.1.symm) hC.2.2.2.1 (hC.2.2.2.2.1 _ h1) (hC.2.2.2.2.1 _ h2) (hC.2.2.2.2.1 _ h3) (hC.2.2.2.2.1 _ h4) hC.2.2.2.2.2.1.1 hW.1 (pw_D h0 aC n σ) hS a0 a1 0 0 e0 e1 rfl rfl rfl (nI_pos (by omega)) (nI_pos (by omega)) (nI_pos (by omega)) (by rw [nI_clamp (by omega), nI_clamp (by omega)]; exact b1) (by rw [nI_clamp (by omega), nI_clamp (by omega)]; exact b2) (fun _ _ => rfl) (by show 1 ≤ M.2.2.2.2; exact hd) ?_ d (fun H1 locs1 hP _ hS1 => pw_back hs kk hC hh hz hL ?_ hP hS1)
  · show _ ≤ 37 * M.2.2.2.2
    rw [pw_map_cat, show nativeFrameWords "java/lang/System" "arraycopy" 5 + 11 = nativeFrameWords "java/lang/System" "arraycopy" 5 + 11 from rfl]
    have hw : nativeFrameWords "java/lang/System" "arraycopy" 5 + 11 ≤ 29 := by decide +kernel
    omega
  · rw [nI_clamp (by omega), nI_clamp (by omega), nI_clamp (by omega)]
    rfl
end PWA
theorem w_ac1 : Cond.native arraycopyName ∈ lw_w := lw_w_at (i := 472) (by decide +kernel) (by decide +kernel)
theorem w_ac2 : Cond.static arraycopyName ∈ lw_w := lw_w_at (i := 471) (by decide +kernel) (by decide +kernel)
theorem w_ac3 : Cond.initialized "java/lang/System" ∈ lw_w := lw_w_at (i := 30) (by decide +kernel) (by decide +kernel)
theorem nar_b {g : Nat} (h : g ≤ 1) : narrow .boolean (.int (nI g)) = .int (nI g) := by
  have : g = 0 ∨ g = 1 := by omega
  rcases this with rfl | rfl <;> rfl
theorem fit_b {g : Nat} (h : g ≤ 1) : fits .boolean (.int (nI g)) = true := by
  have : g = 0 ∨ g = 1 := by omega
  rcases this with rfl | rfl <;> rfl
set_option maxRecDepth 100000 in
set_option maxHeartbeats 4000000 in
theorem t_copyFrom {σ : Sto} {A B : St} {a b fa fb : Nat} {f g : Nat → Int32} (hB : B.ok) (ha : a < eN + 114) (hb : b < eN + 114) (hfa : fa < eN + 114) (hfb : fb < eN + 114) (hab : a ≠ b) (haf : fa ≠ b) (hbf : fb ≠ b) (hσa : σ a = stO B fa) (hσb : σ b = stO A fb) (hσfa : σ fa = pI .int 40 f) (hσfb : σ fb = pI .int 40 g) : CD mX4_copyFrom [.ref b, .ref a] (eN + 114) σ none (va_up (va_up σ b (stO B fb)) fb (pI .int 40 (va_cpy f g 0 0 40))) := by
  refine CP_of (by decide +kernel) (Nat.le_of_ble_eq_true rfl) ?_
  change PW _ _ _ _ 0 [_, _] [] _ _ _ _
  refine P_aload_n (q := 1) dX4_copyFrom_0 rfl rfl ?_
  refine P_aload_n (q := 2) dX4_copyFrom_1 rfl rfl ?_
  refine P_get (q := 5) dX4_copyFrom_2 rfl fX4_9 (ha) (hσa) rfl ?_
  refine P_put (q := 8) (fs' := [_, _, _, _, _, _, _, _, _]) dX4_copyFrom_5 rfl gX4_9 (hb) (hσb) (fun _ => rfl) (fun _ => rfl) (Nat.le_of_ble_eq_true rfl) rfl (rfl) ?_
  refine P_aload_n (q := 9) dX4_copyFrom_8 rfl rfl ?_
  refine P_aload_n (q := 10) dX4_copyFrom_9 rfl rfl ?_
  refine P_get (q := 13) dX4_copyFrom_10 rfl fX4_15 (ha) ((up_ne _ _ hab).trans hσa) rfl ?_
  refine P_put (q := 16) (fs' := [_, _, _, _, _, _, _, _, _]) dX4_copyFrom_13 rfl gX4_15 (hb) (up_at _ _ _) (fun _ => rfl) (fun _ => rfl) (Nat.le_of_ble_eq_true rfl) rfl (up_up _ _ _ _) ?_
  refine P_aload_n (q := 17) dX4_copyFrom_16 rfl rfl ?_
  refine P_aload_n (q := 18) dX4_copyFrom_17 rfl rfl ?_
  refine P_get (q := 21) dX4_copyFrom_18 rfl fX4_18 (ha) ((up_ne _ _ hab).trans hσa) rfl ?_
  refine P_put (q := 24) (fs' := [_, _, _, _, _, _, _, _, _]) dX4_copyFrom_21 rfl gX4_18 (hb) (up_at _ _ _) (fun _ => nar_b hB.2.2.1) (fun _ => fit_b hB.2.2.1) (Nat.le_of_ble_eq_true rfl) rfl (up_up _ _ _ _) ?_
  refine P_aload_n (q := 25) dX4_copyFrom_24 rfl rfl ?_
  refine P_aload_n (q := 26) dX4_copyFrom_25 rfl rfl ?_
  refine P_get (q := 29) dX4_copyFrom_26 rfl fX4_22 (ha) ((up_ne _ _ hab).trans hσa) rfl ?_
  refine P_put (q := 32) (fs' := [_, _, _, _, _, _, _, _, _]) dX4_copyFrom_29 rfl gX4_22 (hb) (up_at _ _ _) (fun _ => rfl) (fun _ => rfl) (Nat.le_of_ble_eq_true rfl) rfl (up_up _ _ _ _) ?_
  refine P_aload_n (q := 33) dX4_copyFrom_32 rfl rfl ?_
  refine P_aload_n (q := 34) dX4_copyFrom_33 rfl rfl ?_
  refine P_get (q := 37) dX4_copyFrom_34 rfl fX4_25 (ha) ((up_ne _ _ hab).trans hσa) rfl ?_
  refine P_put (q := 40) (fs' := [_, _, _, _, _, _, _, _, _]) dX4_copyFrom_37 rfl gX4_25 (hb) (up_at _ _ _) (fun _ => rfl) (fun _ => rfl) (Nat.le_of_ble_eq_true rfl) rfl (up_up _ _ _ _) ?_
  refine P_aload_n (q := 41) dX4_copyFrom_40 rfl rfl ?_
  refine P_aload_n (q := 42) dX4_copyFrom_41 rfl rfl ?_
  refine P_get (q := 45) dX4_copyFrom_42 rfl fX4_32 (ha) ((up_ne _ _ hab).trans hσa) rfl ?_
  refine P_put (q := 48) (fs' := [_, _, _, _, _, _, _, _, _]) dX4_copyFrom_45 rfl gX4_32 (hb) (up_at _ _ _) (fun _ => rfl) (fun _ => rfl) (Nat.le_of_ble_eq_true rfl) rfl (up_up _ _ _ _) ?_
  refine P_aload_n (q := 49) dX4_copyFrom_48 rfl rfl ?_
  refine P_aload_n (q := 50) dX4_copyFrom_49 rfl rfl ?_
  refine P_get (q := 53) dX4_copyFrom_50 rfl fX4_36 (ha) ((up_ne _ _ hab).trans hσa) rfl ?_
  refine P_put (q := 56) (fs' := [_, _, _, _, _, _, _, _, _]) dX4_copyFrom_53 rfl gX4_36 (hb) (up_at _ _ _) (fun _ => rfl) (fun _ => rfl) (Nat.le_of_ble_eq_true rfl) rfl (up_up _ _ _ _) ?_
  refine P_aload_n (q := 57) dX4_copyFrom_56 rfl rfl ?_
  refine P_aload_n (q := 58) dX4_copyFrom_57 rfl rfl ?_
  refine P_get (q := 61) dX4_copyFrom_58 rfl fX4_39 (ha) ((up_ne _ _ hab).trans hσa) rfl ?_
  refine P_put (q := 64) (fs' := [_, _, _, _, _, _, _, _, _]) dX4_copyFrom_61 rfl gX4_39 (hb) (up_at _ _ _) (fun _ => rfl) (fun _ => rfl) (Nat.le_of_ble_eq_true rfl) rfl (up_up _ _ _ _) ?_
  refine P_aload_n (q := 65) dX4_copyFrom_64 rfl rfl ?_
  refine P_get (q := 68) dX4_copyFrom_65 rfl fX4_42 (ha) ((up_ne _ _ hab).trans hσa) rfl ?_
  refine P_iconst (q := 69) (v := nI 0) dX4_copyFrom_68 rfl (by decide +kernel) ?_
  refine P_aload_n (q := 70) dX4_copyFrom_69 rfl rfl ?_
  refine P_get (q := 73) dX4_copyFrom_70 rfl fX4_42 (hb) (up_at _ _ _) rfl ?_
  refine P_iconst (q := 74) (v := nI 0) dX4_copyFrom_73 rfl (by decide +kernel) ?_
  refine P_aload_n (q := 75) dX4_copyFrom_74 rfl rfl ?_
  refine P_get (q := 78) dX4_copyFrom_75 rfl fX4_42 (hb) (up_at _ _ _) rfl ?_
  refine P_ilen (q := 79) 0 (fun _ => rfl) dX4_copyFrom_78 rfl (hfb) ((up_ne _ _ hbf).trans hσfb) ?_
  refine P_copyi (q := 82) (sp := 0) (dp := 0) (N := 40) dX4_copyFrom_79 rfl kX4_50 w_ac1 w_ac2 w_ac3 hfa hfb ((up_ne _ _ haf).trans hσfa) ((up_ne _ _ hbf).trans hσfb) rfl rfl rfl (by first | decide | exact lt_c (by decide)) (by first | decide | exact lt_c (by decide)) (by first | decide | exact lt_c (by decide)) (by first | decide | exact lt_c (by decide)) (by first | decide | exact lt_c (by decide)) (Nat.le_of_ble_eq_true rfl) rfl ?_
  refine P_vret dX4_copyFrom_82 rfl ?_
  exact ⟨rfl, rfl⟩
def St.lay (A : St) (c r g : Nat) : St := (c, r, g, A.al, A.ac, fun k => if k < c then 2 ^ r - 1 else 0, fun _ _ => 0, A.tu)
theorem upsN_cut {sp : Nat → Nat} {n : Nat} : ∀ m, n ≤ m → upsN (fun k => if k < n then sp k else 0) m = upsN sp n := by
  intro m hm
  have h : ∀ k, k ≤ n → upsN (fun k => if k < n then sp k else 0) k = upsN sp k := fun k hk => sumN_congr fun i hi => by
    show (if i < n then sp i else 0) * 16 ^ i = _
    rw [if_pos (by omega)]
  obtain ⟨d, rfl⟩ : ∃ d, m = n + d := ⟨m - n, by omega⟩
  clear hm
  induction d with
  | zero => exact h n (Nat.le_refl _)
  | succ d ih =>
    rw [← Nat.add_assoc, upsN_succ]
    rw [show (if n + d < n then sp (n + d) else 0) = 0 from if_neg (by omega), ih]
    omega
theorem St.lay_U {A : St} {c r g : Nat} (hc : c ≤ 10) : (A.lay c r g).U = mskN c r := upsN_cut 10 hc
set_option maxRecDepth 100000 in
set_option maxHeartbeats 4000000 in
theorem t_remake {σ : Sto} {A : St} {f : Nat → Int32} (h1 : σ 1 = stO A 2) (h2 : σ 2 = pI .int 40 f) {c r g : Nat} (hc : c ≤ 10) (hr : r ≤ 3) (hg : g ≤ 1) : CD mX4_remake [.ref 1, .int (nI c), .int (nI r), .int (nI g)] (eN + 114) σ none (va_up (va_up σ 1 (stO (A.lay c r g) 2)) 2 (pI .int 40 (flV 40 (nI 0) f 40))) := by
  refine CP_of (by decide +kernel) (Nat.le_of_ble_eq_true rfl) ?_
  change PW _ _ _ _ 0 [_, _, _, _] [] _ _ _ _
  refine P_aload_n (q := 1) dX4_remake_0 rfl rfl ?_
  refine P_iload_n (q := 2) dX4_remake_1 rfl rfl ?_
  refine P_put (q := 5) (fs' := [_, _, _, _, _, _, _, _, _]) dX4_remake_2 rfl gX4_9 (by first | decide | exact lt_c (by decide)) (h1) (fun _ => rfl) (fun _ => rfl) (Nat.le_of_ble_eq_true rfl) rfl (rfl) ?_
  refine P_aload_n (q := 6) dX4_remake_5 rfl rfl ?_
  refine P_iload_n (q := 7) dX4_remake_6 rfl rfl ?_
  refine P_put (q := 10) (fs' := [_, _, _, _, _, _, _, _, _]) dX4_remake_7 rfl gX4_15 (by first | decide | exact lt_c (by decide)) (up_at _ _ _) (fun _ => rfl) (fun _ => rfl) (Nat.le_of_ble_eq_true rfl) rfl (up_up _ _ _ _) ?_
  refine P_aload_n (q := 11) dX4_remake_10 rfl rfl ?_
  refine P_iload_n (q := 12) dX4_remake_11 rfl rfl ?_
  refine P_put (q := 15) (fs' := [_, _, _, _, _, _, _, _, _]) dX4_remake_12 rfl gX4_18 (by first | decide | exact lt_c (by decide)) (up_at _ _ _) (fun _ => nar_b hg) (fun _ => fit_b hg) (Nat.le_of_ble_eq_true rfl) rfl (up_up _ _ _ _) ?_
  refine P_aload_n (q := 16) dX4_remake_15 rfl rfl ?_
  refine P_aload_n (q := 17) dX4_remake_16 rfl rfl ?_
  refine P_get (q := 20) dX4_remake_17 rfl fX4_9 (by first | decide | exact lt_c (by decide)) (up_at _ _ _) rfl ?_
  refine P_aload_n (q := 21) dX4_remake_20 rfl rfl ?_
  refine P_get (q := 24) dX4_remake_21 rfl fX4_15 (by first | decide | exact lt_c (by decide)) (up_at _ _ _) rfl ?_
  refine P_cs1 (q := 27) dX4_remake_24 rfl kX4_28 (t_allCells hc hr) rfl rfl ⟨by decide, by decide⟩ (Nat.le_of_ble_eq_true rfl) ⟨Nat.le_refl _, Nat.le_refl _⟩ ?_
  refine P_put (q := 30) (fs' := [_, _, _, _, _, _, _, _, _]) dX4_remake_27 rfl gX4_32 (by first | decide | exact lt_c (by decide)) (up_at _ _ _) (fun _ => rfl) (fun _ => rfl) (Nat.le_of_ble_eq_true rfl) rfl (up_up _ _ _ _) ?_
  refine P_aload_n (q := 31) dX4_remake_30 rfl rfl ?_
  refine P_aload_n (q := 32) dX4_remake_31 rfl rfl ?_
  refine P_get (q := 35) dX4_remake_32 rfl fX4_32 (by first | decide | exact lt_c (by decide)) (up_at _ _ _) rfl ?_
  refine P_put (q := 38) (fs' := [_, _, _, _, _, _, _, _, _]) dX4_remake_35 rfl gX4_36 (by first | decide | exact lt_c (by decide)) (up_at _ _ _) (fun _ => rfl) (fun _ => rfl) (Nat.le_of_ble_eq_true rfl) rfl (up_up _ _ _ _) ?_
  refine P_aload_n (q := 39) dX4_remake_38 rfl rfl ?_
  refine P_get (q := 42) dX4_remake_39 rfl fX4_42 (by first | decide | exact lt_c (by decide)) (up_at _ _ _) rfl ?_
  refine P_iconst (q := 43) (v := nI 0) dX4_remake_42 rfl (by decide +kernel) ?_
  refine P_cs0 (q := 46) dX4_remake_43 rfl kX4_56 (t_fill (f := f) _ (by first | decide | exact lt_c (by decide)) (by first | decide | exact lt_c (by decide)) ((up_ne _ _ (by first | decide | exact lt_c (by decide))).trans h2)) rfl rfl ⟨by decide, by decide⟩ (Nat.le_of_ble_eq_true rfl) ⟨Nat.le_refl _, Nat.le_refl _⟩ ?_
  refine P_vret dX4_remake_46 rfl ?_
  exact ⟨rfl, by rw [show stO (A.lay c r g) 2 = pO 4 [.int (nI c), .int (nI r), .int (nI g), .int (iI A.al), .int (iI A.ac), .long (lN (mskN c r)), .long (lN (mskN c r)), .int A.tu, .ref 2] from by unfold stO; rw [A.lay_U hc]; rfl]⟩
