/-! THE REFERENCE: energies, walls, gains -/
def St.nx (A : St) (k r : Nat) : Int := if r + 1 < A.R then spZ k (r + 1) else 0
def St.colT (A : St) (w : Bool) (c k r : Nat) : Int := if w then (if spZ k r * A.nx k r < 0 then 1 else 0) else -A.ac * spZ k r * A.nx k r - A.fd c r * spZ k r
def St.lnkT (A : St) (w : Bool) (k t r : Nat) : Int := if w then (if spZ k r * spZ t r < 0 then 1 else 0) else -A.al * (spZ k r * spZ t r)
def St.col (A : St) (w : Bool) (c k : Nat) : Int := sumZ A.R (A.colT w c k)
def St.lnk (A : St) (w : Bool) (k t : Nat) : Int := sumZ A.R (A.lnkT w k t)
def St.lnkO (A : St) (w : Bool) (k : Nat) (o : Option Nat) : Int := oZ o (fun d => A.lnk w k (A.sp d))
def St.totT (A : St) (w : Bool) (c : Nat) : Int := A.col w c (A.sp c) + A.lnkO w (A.sp c) (A.nxt c)
def St.tot (A : St) (w : Bool) : Int := sumZ A.C (A.totT w)
theorem spZ_pm (k r : Nat) : spZ k r = 1 ∨ spZ k r = -1 := by unfold spZ; split <;> simp
set_option maxRecDepth 100000 in
set_option maxHeartbeats 4000000 in
theorem m_col_true {σ : Sto} {A : St} (hM : MO σ) (hX : XA σ A) {c k : Nat} (hc : c < A.C) (hk : k < 8) : CD mX8_ofColumn [.ref 114, .int (bI true), .int (nI c), .int (nI k)] 132 σ (some (.int (iI (A.col true c k)))) σ := by
  obtain ⟨L, k0, pl, n0, sp0, rc, rr, h0⟩ := id hM
  obtain ⟨hA, g, h1, r0, r1, r2, r3, r4, r5, rs, rf⟩ := id hX
  have hC := hA.1
  have hR := hA.2.1
  have lp : ∀ n r, r + n = A.R → ∀ x6 x7 : Option Value, PW mX8_ofColumn 0 0 (fun v σ' => v = some (.int (iI (A.col true c k))) ∧ σ' = σ) 6 [some (.ref 114), some (.int (bI true)), some (.int (nI c)), some (.int (nI k)), some (.int (iI (sumZ r (A.colT true c k)))), some (.int (nI r)), x6, x7] [] 132 σ 0 0 := by
   intro n
   induction n with
   | zero =>
    intro r hr x6 x7
    have e : r = A.R := by omega
    subst e
    refine P_iload (q := 8) dX8_ofColumn_6 rfl rfl ?_
    refine P_aload_n (q := 9) dX8_ofColumn_8 rfl rfl ?_
    refine P_get (q := 12) dX8_ofColumn_9 rfl fX8_7 (by decide) (h0) rfl ?_
    refine P_iconst (q := 13) (v := nI 1) dX8_ofColumn_12 rfl (by decide +kernel) ?_
    refine P_iald (q := 14) (j := 1) dX8_ofColumn_13 rfl (by decide) (h1) (rfl) (by omega) (by decide) ?_
    rw [r1]
    refine P_icmp_ge (q := 17) (tgt := 108) dX8_ofColumn_14 rfl (by decide) (fun c_14 => ?_) (fun c_14 => ?_)
    · rw [nI_leI (by omega) (by omega)] at c_14
      refine P_iload (q := 110) dX8_ofColumn_108 rfl rfl ?_
      refine P_iret dX8_ofColumn_110 rfl (rfl) ?_
      exact ⟨rfl, rfl⟩
    · exfalso; rw [nI_leI (by omega) (by omega)] at c_14; omega
   | succ n ih =>
    intro r hr x6 x7
    have step : ∀ (v : Int32) (x6 x7 : Option Value), v = iI (A.colT true c k r) → PW mX8_ofColumn 0 0 (fun v σ' => v = some (.int (iI (A.col true c k))) ∧ σ' = σ) 6 [some (.ref 114), some (.int (bI true)), some (.int (nI c)), some (.int (nI k)), some (.int (iI (sumZ r (A.colT true c k)) + v)), some (.int (nI (r + 1))), x6, x7] [] 132 σ 0 0 := by
      intro v x6 x7 e
      rw [e, iI_add]
      exact ih (r + 1) (by omega) x6 x7
    have hv1 : ¬ A.R ≤ r + 1 → A.nx k r = spZ k (r + 1) := fun h => if_pos (by omega)
    have hv0 : A.R ≤ r + 1 → A.nx k r = 0 := fun h => if_neg (by omega)
    have sm := spZ_pm k r
    have sm2 := spZ_pm k (r + 1)
    have tt : A.colT true c k r = if spZ k r * A.nx k r < 0 then 1 else 0 := rfl
    refine P_iload (q := 8) dX8_ofColumn_6 rfl rfl ?_
    refine P_aload_n (q := 9) dX8_ofColumn_8 rfl rfl ?_
    refine P_get (q := 12) dX8_ofColumn_9 rfl fX8_7 (by decide) (h0) rfl ?_
    refine P_iconst (q := 13) (v := nI 1) dX8_ofColumn_12 rfl (by decide +kernel) ?_
    refine P_iald (q := 14) (j := 1) dX8_ofColumn_13 rfl (by decide) (h1) (rfl) (by omega) (by decide) ?_
    rw [r1]
    refine P_icmp_ge (q := 17) (tgt := 108) dX8_ofColumn_14 rfl (by decide) (fun c_14 => ?_) (fun c_14 => ?_)
    · exfalso; rw [nI_leI (by omega) (by omega)] at c_14; omega
    · rw [nI_leI (by omega) (by omega)] at c_14
      refine P_iload_n (q := 18) dX8_ofColumn_17 rfl rfl ?_
      refine P_iload (q := 20) dX8_ofColumn_18 rfl rfl ?_
      refine P_cs1 (q := 23) dX8_ofColumn_20 rfl kX8_77 (m_spinIn hk (by omega)) rfl rfl ⟨by decide, by decide⟩ (Nat.le_of_ble_eq_true rfl) ⟨Nat.le_refl _, Nat.le_refl _⟩ ?_
      refine P_istore (q := 25) (L' := [_, _, _, _, _, _, _, _]) dX8_ofColumn_23 rfl (by decide) rfl ?_
      refine P_iload (q := 27) dX8_ofColumn_25 rfl rfl ?_
      refine P_iconst (q := 28) (v := nI 1) dX8_ofColumn_27 rfl (by decide +kernel) ?_
      refine P_iadd (q := 29) dX8_ofColumn_28 rfl ?_
      refine P_aload_n (q := 30) dX8_ofColumn_29 rfl rfl ?_
      refine P_get (q := 33) dX8_ofColumn_30 rfl fX8_7 (by decide) (h0) rfl ?_
      refine P_iconst (q := 34) (v := nI 1) dX8_ofColumn_33 rfl (by decide +kernel) ?_
      refine P_iald (q := 35) (j := 1) dX8_ofColumn_34 rfl (by decide) (h1) (rfl) (by omega) (by decide) ?_
      rw [r1]
      refine P_icmp_ge (q := 38) (tgt := 49) dX8_ofColumn_35 rfl (by decide) (fun c_35 => ?_) (fun c_35 => ?_)
      · rw [show nI r + nI 1 = nI (r + 1) from nI_1 r, nI_leI (by omega) (by omega)] at c_35
        refine P_iconst (q := 50) (v := nI 0) dX8_ofColumn_49 rfl (by decide +kernel) ?_
        refine P_istore (q := 52) (L' := [_, _, _, _, _, _, _, _]) dX8_ofColumn_50 rfl (by decide) rfl ?_
        refine P_iload (q := 54) dX8_ofColumn_52 rfl rfl ?_
        refine P_iload_n (q := 55) dX8_ofColumn_54 rfl rfl ?_
        refine P_iconst (q := 56) (v := nI 1) dX8_ofColumn_55 rfl (by decide +kernel) ?_
        refine P_icmp_ne (q := 59) (tgt := 75) dX8_ofColumn_56 rfl (by decide) (fun c_56 => ?_) (fun c_56 => ?_)
        · exact absurd rfl c_56
        · refine P_iload (q := 61) dX8_ofColumn_59 rfl rfl ?_
          refine P_iload (q := 63) dX8_ofColumn_61 rfl rfl ?_
          refine P_imul (q := 64) dX8_ofColumn_63 rfl ?_
          refine P_if_ge (q := 67) (tgt := 71) dX8_ofColumn_64 rfl (by decide) (fun c_64 => ?_) (fun c_64 => ?_)
          · first
              | rw [iI_mul, show ((0 : Int32)) = iI 0 from rfl, iI_le (by omega) (by omega) (by rcases sm with e | e <;> rcases sm2 with e2 | e2 <;> rw [e, e2] <;> decide) (by rcases sm with e | e <;> rcases sm2 with e2 | e2 <;> rw [e, e2] <;> decide), Int.not_le] at c_64
              | rw [iI_mul, show ((0 : Int32)) = iI 0 from rfl, iI_le (by omega) (by omega) (by rcases sm with e | e <;> rcases sm2 with e2 | e2 <;> rw [e, e2] <;> decide) (by rcases sm with e | e <;> rcases sm2 with e2 | e2 <;> rw [e, e2] <;> decide), ← Int.not_lt] at c_64
              | skip
            refine P_iconst (q := 72) (v := nI 0) dX8_ofColumn_71 rfl (by decide +kernel) ?_
            refine P_goto (tgt := 99) dX8_ofColumn_72 (by decide) ?_
            refine P_iadd (q := 100) dX8_ofColumn_99 rfl ?_
            refine P_istore (q := 102) (L' := [_, _, _, _, _, _, _, _]) dX8_ofColumn_100 rfl (by decide) rfl ?_
            refine P_iinc (q := 105) (L' := [_, _, _, _, _, _, _, _]) (v := nI (r + 1)) dX8_ofColumn_102 rfl (by decide) rfl (nI_1 r) rfl ?_
            refine P_goto (tgt := 6) dX8_ofColumn_105 (by decide) ?_
            first
              | exact step _ _ _ (by rw [tt, hv1 c_35, if_pos c_64]; rfl)
              | exact step _ _ _ (by rw [tt, hv1 c_35, if_neg c_64]; rfl)
              | exact step _ _ _ (by rw [tt, hv0 c_35, Int.mul_zero]; rfl)
              | exact absurd (show (0 : Int32) ≤ iI (spZ k r) * nI 0 by rw [show iI (spZ k r) * nI 0 = iI (spZ k r * 0) from iI_mul _ 0, Int.mul_zero]; decide) c_64
          · first
              | rw [iI_mul, show ((0 : Int32)) = iI 0 from rfl, iI_le (by omega) (by omega) (by rcases sm with e | e <;> rcases sm2 with e2 | e2 <;> rw [e, e2] <;> decide) (by rcases sm with e | e <;> rcases sm2 with e2 | e2 <;> rw [e, e2] <;> decide), Int.not_le] at c_64
              | rw [iI_mul, show ((0 : Int32)) = iI 0 from rfl, iI_le (by omega) (by omega) (by rcases sm with e | e <;> rcases sm2 with e2 | e2 <;> rw [e, e2] <;> decide) (by rcases sm with e | e <;> rcases sm2 with e2 | e2 <;> rw [e, e2] <;> decide), ← Int.not_lt] at c_64
              | skip
            refine P_iconst (q := 68) (v := nI 1) dX8_ofColumn_67 rfl (by decide +kernel) ?_
            refine P_goto (tgt := 99) dX8_ofColumn_68 (by decide) ?_
            refine P_iadd (q := 100) dX8_ofColumn_99 rfl ?_
            refine P_istore (q := 102) (L' := [_, _, _, _, _, _, _, _]) dX8_ofColumn_100 rfl (by decide) rfl ?_
            refine P_iinc (q := 105) (L' := [_, _, _, _, _, _, _, _]) (v := nI (r + 1)) dX8_ofColumn_102 rfl (by decide) rfl (nI_1 r) rfl ?_
            refine P_goto (tgt := 6) dX8_ofColumn_105 (by decide) ?_
            first
              | exact step _ _ _ (by rw [tt, hv1 c_35, if_pos c_64]; rfl)
              | exact step _ _ _ (by rw [tt, hv1 c_35, if_neg c_64]; rfl)
              | exact step _ _ _ (by rw [tt, hv0 c_35, Int.mul_zero]; rfl)
              | exact absurd (show (0 : Int32) ≤ iI (spZ k r) * nI 0 by rw [show iI (spZ k r) * nI 0 = iI (spZ k r * 0) from iI_mul _ 0, Int.mul_zero]; decide) c_64
      · rw [show nI r + nI 1 = nI (r + 1) from nI_1 r, nI_leI (by omega) (by omega)] at c_35
        refine P_iload_n (q := 39) dX8_ofColumn_38 rfl rfl ?_
        refine P_iload (q := 41) dX8_ofColumn_39 rfl rfl ?_
        refine P_iconst (q := 42) (v := nI 1) dX8_ofColumn_41 rfl (by decide +kernel) ?_
        refine P_iadd (q := 43) dX8_ofColumn_42 rfl ?_
        rw [show nI r + nI 1 = nI (r + 1) from nI_1 r]
        refine P_cs1 (q := 46) dX8_ofColumn_43 rfl kX8_77 (m_spinIn hk (show r + 1 < 3 by omega)) rfl rfl ⟨by decide, by decide⟩ (Nat.le_of_ble_eq_true rfl) ⟨Nat.le_refl _, Nat.le_refl _⟩ ?_
        refine P_goto (tgt := 50) dX8_ofColumn_46 (by decide) ?_
        refine P_istore (q := 52) (L' := [_, _, _, _, _, _, _, _]) dX8_ofColumn_50 rfl (by decide) rfl ?_
        refine P_iload (q := 54) dX8_ofColumn_52 rfl rfl ?_
        refine P_iload_n (q := 55) dX8_ofColumn_54 rfl rfl ?_
        refine P_iconst (q := 56) (v := nI 1) dX8_ofColumn_55 rfl (by decide +kernel) ?_
        refine P_icmp_ne (q := 59) (tgt := 75) dX8_ofColumn_56 rfl (by decide) (fun c_56 => ?_) (fun c_56 => ?_)
        · exact absurd rfl c_56
        · refine P_iload (q := 61) dX8_ofColumn_59 rfl rfl ?_
          refine P_iload (q := 63) dX8_ofColumn_61 rfl rfl ?_
          refine P_imul (q := 64) dX8_ofColumn_63 rfl ?_
          refine P_if_ge (q := 67) (tgt := 71) dX8_ofColumn_64 rfl (by decide) (fun c_64 => ?_) (fun c_64 => ?_)
          · first
              | rw [iI_mul, show ((0 : Int32)) = iI 0 from rfl, iI_le (by omega) (by omega) (by rcases sm with e | e <;> rcases sm2 with e2 | e2 <;> rw [e, e2] <;> decide) (by rcases sm with e | e <;> rcases sm2 with e2 | e2 <;> rw [e, e2] <;> decide), Int.not_le] at c_64
              | rw [iI_mul, show ((0 : Int32)) = iI 0 from rfl, iI_le (by omega) (by omega) (by rcases sm with e | e <;> rcases sm2 with e2 | e2 <;> rw [e, e2] <;> decide) (by rcases sm with e | e <;> rcases sm2 with e2 | e2 <;> rw [e, e2] <;> decide), ← Int.not_lt] at c_64
              | skip
            refine P_iconst (q := 72) (v := nI 0) dX8_ofColumn_71 rfl (by decide +kernel) ?_
            refine P_goto (tgt := 99) dX8_ofColumn_72 (by decide) ?_
            refine P_iadd (q := 100) dX8_ofColumn_99 rfl ?_
            refine P_istore (q := 102) (L' := [_, _, _, _, _, _, _, _]) dX8_ofColumn_100 rfl (by decide) rfl ?_
            refine P_iinc (q := 105) (L' := [_, _, _, _, _, _, _, _]) (v := nI (r + 1)) dX8_ofColumn_102 rfl (by decide) rfl (nI_1 r) rfl ?_
            refine P_goto (tgt := 6) dX8_ofColumn_105 (by decide) ?_
            first
              | exact step _ _ _ (by rw [tt, hv1 c_35, if_pos c_64]; rfl)
              | exact step _ _ _ (by rw [tt, hv1 c_35, if_neg c_64]; rfl)
              | exact step _ _ _ (by rw [tt, hv0 c_35, Int.mul_zero]; rfl)
              | exact absurd (show (0 : Int32) ≤ iI (spZ k r) * nI 0 by rw [show iI (spZ k r) * nI 0 = iI (spZ k r * 0) from iI_mul _ 0, Int.mul_zero]; decide) c_64
          · first
              | rw [iI_mul, show ((0 : Int32)) = iI 0 from rfl, iI_le (by omega) (by omega) (by rcases sm with e | e <;> rcases sm2 with e2 | e2 <;> rw [e, e2] <;> decide) (by rcases sm with e | e <;> rcases sm2 with e2 | e2 <;> rw [e, e2] <;> decide), Int.not_le] at c_64
              | rw [iI_mul, show ((0 : Int32)) = iI 0 from rfl, iI_le (by omega) (by omega) (by rcases sm with e | e <;> rcases sm2 with e2 | e2 <;> rw [e, e2] <;> decide) (by rcases sm with e | e <;> rcases sm2 with e2 | e2 <;> rw [e, e2] <;> decide), ← Int.not_lt] at c_64
              | skip
            refine P_iconst (q := 68) (v := nI 1) dX8_ofColumn_67 rfl (by decide +kernel) ?_
            refine P_goto (tgt := 99) dX8_ofColumn_68 (by decide) ?_
            refine P_iadd (q := 100) dX8_ofColumn_99 rfl ?_
            refine P_istore (q := 102) (L' := [_, _, _, _, _, _, _, _]) dX8_ofColumn_100 rfl (by decide) rfl ?_
            refine P_iinc (q := 105) (L' := [_, _, _, _, _, _, _, _]) (v := nI (r + 1)) dX8_ofColumn_102 rfl (by decide) rfl (nI_1 r) rfl ?_
            refine P_goto (tgt := 6) dX8_ofColumn_105 (by decide) ?_
            first
              | exact step _ _ _ (by rw [tt, hv1 c_35, if_pos c_64]; rfl)
              | exact step _ _ _ (by rw [tt, hv1 c_35, if_neg c_64]; rfl)
              | exact step _ _ _ (by rw [tt, hv0 c_35, Int.mul_zero]; rfl)
              | exact absurd (show (0 : Int32) ≤ iI (spZ k r) * nI 0 by rw [show iI (spZ k r) * nI 0 = iI (spZ k r * 0) from iI_mul _ 0, Int.mul_zero]; decide) c_64
  refine CP_of (by decide +kernel) (Nat.le_of_ble_eq_true rfl) ?_
  change PW _ _ _ _ 0 [_, _, _, _, _, _, _, _] [] _ _ _ _
  refine P_iconst (q := 1) (v := nI 0) dX8_ofColumn_0 rfl (by decide +kernel) ?_
  refine P_istore (q := 3) (L' := [_, _, _, _, _, _, _, _]) dX8_ofColumn_1 rfl (by decide) rfl ?_
  refine P_iconst (q := 4) (v := nI 0) dX8_ofColumn_3 rfl (by decide +kernel) ?_
  refine P_istore (q := 6) (L' := [_, _, _, _, _, _, _, _]) dX8_ofColumn_4 rfl (by decide) rfl ?_
  exact lp A.R 0 (by omega) _ _
set_option maxRecDepth 100000 in
set_option maxHeartbeats 4000000 in
theorem m_col_false {σ : Sto} {A : St} (hM : MO σ) (hX : XA σ A) {c k : Nat} (hc : c < A.C) (hk : k < 8) : CD mX8_ofColumn [.ref 114, .int (bI false), .int (nI c), .int (nI k)] 132 σ (some (.int (iI (A.col false c k)))) σ := by
  obtain ⟨L, k0, pl, n0, sp0, rc, rr, h0⟩ := id hM
  obtain ⟨hA, g, h1, r0, r1, r2, r3, r4, r5, rs, rf⟩ := id hX
  have hC := hA.1
  have hR := hA.2.1
  have lp : ∀ n r, r + n = A.R → ∀ x6 x7 : Option Value, PW mX8_ofColumn 0 0 (fun v σ' => v = some (.int (iI (A.col false c k))) ∧ σ' = σ) 6 [some (.ref 114), some (.int (bI false)), some (.int (nI c)), some (.int (nI k)), some (.int (iI (sumZ r (A.colT false c k)))), some (.int (nI r)), x6, x7] [] 132 σ 0 0 := by
   intro n
   induction n with
   | zero =>
    intro r hr x6 x7
    have e : r = A.R := by omega
    subst e
    refine P_iload (q := 8) dX8_ofColumn_6 rfl rfl ?_
    refine P_aload_n (q := 9) dX8_ofColumn_8 rfl rfl ?_
    refine P_get (q := 12) dX8_ofColumn_9 rfl fX8_7 (by decide) (h0) rfl ?_
    refine P_iconst (q := 13) (v := nI 1) dX8_ofColumn_12 rfl (by decide +kernel) ?_
    refine P_iald (q := 14) (j := 1) dX8_ofColumn_13 rfl (by decide) (h1) (rfl) (by omega) (by decide) ?_
    rw [r1]
    refine P_icmp_ge (q := 17) (tgt := 108) dX8_ofColumn_14 rfl (by decide) (fun c_14 => ?_) (fun c_14 => ?_)
    · rw [nI_leI (by omega) (by omega)] at c_14
      refine P_iload (q := 110) dX8_ofColumn_108 rfl rfl ?_
      refine P_iret dX8_ofColumn_110 rfl (rfl) ?_
      exact ⟨rfl, rfl⟩
    · exfalso; rw [nI_leI (by omega) (by omega)] at c_14; omega
   | succ n ih =>
    intro r hr x6 x7
    have step : ∀ (v : Int32) (x6 x7 : Option Value), v = iI (A.colT false c k r) → PW mX8_ofColumn 0 0 (fun v σ' => v = some (.int (iI (A.col false c k))) ∧ σ' = σ) 6 [some (.ref 114), some (.int (bI false)), some (.int (nI c)), some (.int (nI k)), some (.int (iI (sumZ r (A.colT false c k)) + v)), some (.int (nI (r + 1))), x6, x7] [] 132 σ 0 0 := by
      intro v x6 x7 e
      rw [e, iI_add]
      exact ih (r + 1) (by omega) x6 x7
    have hv1 : ¬ A.R ≤ r + 1 → A.nx k r = spZ k (r + 1) := fun h => if_pos (by omega)
    have hv0 : A.R ≤ r + 1 → A.nx k r = 0 := fun h => if_neg (by omega)
    have tt : iI (A.colT false c k r) = -iI A.ac * iI (spZ k r) * iI (A.nx k r) - iI (A.fd c r) * iI (spZ k r) := by
      rw [iI_neg, iI_mul, iI_mul, iI_mul, iI_sub]; rfl
    refine P_iload (q := 8) dX8_ofColumn_6 rfl rfl ?_
    refine P_aload_n (q := 9) dX8_ofColumn_8 rfl rfl ?_
    refine P_get (q := 12) dX8_ofColumn_9 rfl fX8_7 (by decide) (h0) rfl ?_
    refine P_iconst (q := 13) (v := nI 1) dX8_ofColumn_12 rfl (by decide +kernel) ?_
    refine P_iald (q := 14) (j := 1) dX8_ofColumn_13 rfl (by decide) (h1) (rfl) (by omega) (by decide) ?_
    rw [r1]
    refine P_icmp_ge (q := 17) (tgt := 108) dX8_ofColumn_14 rfl (by decide) (fun c_14 => ?_) (fun c_14 => ?_)
    · exfalso; rw [nI_leI (by omega) (by omega)] at c_14; omega
    · rw [nI_leI (by omega) (by omega)] at c_14
      refine P_iload_n (q := 18) dX8_ofColumn_17 rfl rfl ?_
      refine P_iload (q := 20) dX8_ofColumn_18 rfl rfl ?_
      refine P_cs1 (q := 23) dX8_ofColumn_20 rfl kX8_77 (m_spinIn hk (by omega)) rfl rfl ⟨by decide, by decide⟩ (Nat.le_of_ble_eq_true rfl) ⟨Nat.le_refl _, Nat.le_refl _⟩ ?_
      refine P_istore (q := 25) (L' := [_, _, _, _, _, _, _, _]) dX8_ofColumn_23 rfl (by decide) rfl ?_
      refine P_iload (q := 27) dX8_ofColumn_25 rfl rfl ?_
      refine P_iconst (q := 28) (v := nI 1) dX8_ofColumn_27 rfl (by decide +kernel) ?_
      refine P_iadd (q := 29) dX8_ofColumn_28 rfl ?_
      refine P_aload_n (q := 30) dX8_ofColumn_29 rfl rfl ?_
      refine P_get (q := 33) dX8_ofColumn_30 rfl fX8_7 (by decide) (h0) rfl ?_
      refine P_iconst (q := 34) (v := nI 1) dX8_ofColumn_33 rfl (by decide +kernel) ?_
      refine P_iald (q := 35) (j := 1) dX8_ofColumn_34 rfl (by decide) (h1) (rfl) (by omega) (by decide) ?_
      rw [r1]
      refine P_icmp_ge (q := 38) (tgt := 49) dX8_ofColumn_35 rfl (by decide) (fun c_35 => ?_) (fun c_35 => ?_)
      · rw [show nI r + nI 1 = nI (r + 1) from nI_1 r, nI_leI (by omega) (by omega)] at c_35
        refine P_iconst (q := 50) (v := nI 0) dX8_ofColumn_49 rfl (by decide +kernel) ?_
        refine P_istore (q := 52) (L' := [_, _, _, _, _, _, _, _]) dX8_ofColumn_50 rfl (by decide) rfl ?_
        refine P_iload (q := 54) dX8_ofColumn_52 rfl rfl ?_
        refine P_iload_n (q := 55) dX8_ofColumn_54 rfl rfl ?_
        refine P_iconst (q := 56) (v := nI 1) dX8_ofColumn_55 rfl (by decide +kernel) ?_
        refine P_icmp_ne (q := 59) (tgt := 75) dX8_ofColumn_56 rfl (by decide) (fun c_56 => ?_) (fun c_56 => ?_)
        · refine P_aload_n (q := 76) dX8_ofColumn_75 rfl rfl ?_
          refine P_get (q := 79) dX8_ofColumn_76 rfl fX8_7 (by decide) (h0) rfl ?_
          refine P_iconst (q := 80) (v := nI 4) dX8_ofColumn_79 rfl (by decide +kernel) ?_
          refine P_iald (q := 81) (j := 4) dX8_ofColumn_80 rfl (by decide) (h1) (rfl) (by omega) (by decide) ?_
          rw [r4]
          refine P_ineg (q := 82) dX8_ofColumn_81 rfl ?_
          refine P_iload (q := 84) dX8_ofColumn_82 rfl rfl ?_
          refine P_imul (q := 85) dX8_ofColumn_84 rfl ?_
          refine P_iload (q := 87) dX8_ofColumn_85 rfl rfl ?_
          refine P_imul (q := 88) dX8_ofColumn_87 rfl ?_
          refine P_aload_n (q := 89) dX8_ofColumn_88 rfl rfl ?_
          refine P_iload (q := 91) dX8_ofColumn_89 rfl rfl ?_
          refine P_iload_n (q := 92) dX8_ofColumn_91 rfl rfl ?_
          refine P_cv1 (q := 95) dX8_ofColumn_92 rfl kX8_89 (m_fieldAt hM hX (show r < A.R by omega) hc) rfl rfl (by decide) (h0) rfl ⟨by decide, by decide⟩ (Nat.le_of_ble_eq_true rfl) ⟨Nat.le_refl _, Nat.le_refl _⟩ ?_
          refine P_iload (q := 97) dX8_ofColumn_95 rfl rfl ?_
          refine P_imul (q := 98) dX8_ofColumn_97 rfl ?_
          refine P_isub (q := 99) dX8_ofColumn_98 rfl ?_
          refine P_iadd (q := 100) dX8_ofColumn_99 rfl ?_
          refine P_istore (q := 102) (L' := [_, _, _, _, _, _, _, _]) dX8_ofColumn_100 rfl (by decide) rfl ?_
          refine P_iinc (q := 105) (L' := [_, _, _, _, _, _, _, _]) (v := nI (r + 1)) dX8_ofColumn_102 rfl (by decide) rfl (nI_1 r) rfl ?_
          refine P_goto (tgt := 6) dX8_ofColumn_105 (by decide) ?_
          first
            | exact step _ _ _ (by rw [tt, hv1 c_35])
            | exact step _ _ _ (by rw [tt, hv0 c_35]; rfl)
        · exact absurd (show ¬ bI false = nI 1 by decide) (fun q => q c_56)
      · rw [show nI r + nI 1 = nI (r + 1) from nI_1 r, nI_leI (by omega) (by omega)] at c_35
        refine P_iload_n (q := 39) dX8_ofColumn_38 rfl rfl ?_
        refine P_iload (q := 41) dX8_ofColumn_39 rfl rfl ?_
        refine P_iconst (q := 42) (v := nI 1) dX8_ofColumn_41 rfl (by decide +kernel) ?_
        refine P_iadd (q := 43) dX8_ofColumn_42 rfl ?_
        rw [show nI r + nI 1 = nI (r + 1) from nI_1 r]
        refine P_cs1 (q := 46) dX8_ofColumn_43 rfl kX8_77 (m_spinIn hk (show r + 1 < 3 by omega)) rfl rfl ⟨by decide, by decide⟩ (Nat.le_of_ble_eq_true rfl) ⟨Nat.le_refl _, Nat.le_refl _⟩ ?_
        refine P_goto (tgt := 50) dX8_ofColumn_46 (by decide) ?_
        refine P_istore (q := 52) (L' := [_, _, _, _, _, _, _, _]) dX8_ofColumn_50 rfl (by decide) rfl ?_
        refine P_iload (q := 54) dX8_ofColumn_52 rfl rfl ?_
        refine P_iload_n (q := 55) dX8_ofColumn_54 rfl rfl ?_
        refine P_iconst (q := 56) (v := nI 1) dX8_ofColumn_55 rfl (by decide +kernel) ?_
        refine P_icmp_ne (q := 59) (tgt := 75) dX8_ofColumn_56 rfl (by decide) (fun c_56 => ?_) (fun c_56 => ?_)
        · refine P_aload_n (q := 76) dX8_ofColumn_75 rfl rfl ?_
          refine P_get (q := 79) dX8_ofColumn_76 rfl fX8_7 (by decide) (h0) rfl ?_
          refine P_iconst (q := 80) (v := nI 4) dX8_ofColumn_79 rfl (by decide +kernel) ?_
          refine P_iald (q := 81) (j := 4) dX8_ofColumn_80 rfl (by decide) (h1) (rfl) (by omega) (by decide) ?_
          rw [r4]
          refine P_ineg (q := 82) dX8_ofColumn_81 rfl ?_
          refine P_iload (q := 84) dX8_ofColumn_82 rfl rfl ?_
          refine P_imul (q := 85) dX8_ofColumn_84 rfl ?_
          refine P_iload (q := 87) dX8_ofColumn_85 rfl rfl ?_
          refine P_imul (q := 88) dX8_ofColumn_87 rfl ?_
          refine P_aload_n (q := 89) dX8_ofColumn_88 rfl rfl ?_
          refine P_iload (q := 91) dX8_ofColumn_89 rfl rfl ?_
          refine P_iload_n (q := 92) dX8_ofColumn_91 rfl rfl ?_
          refine P_cv1 (q := 95) dX8_ofColumn_92 rfl kX8_89 (m_fieldAt hM hX (show r < A.R by omega) hc) rfl rfl (by decide) (h0) rfl ⟨by decide, by decide⟩ (Nat.le_of_ble_eq_true rfl) ⟨Nat.le_refl _, Nat.le_refl _⟩ ?_
          refine P_iload (q := 97) dX8_ofColumn_95 rfl rfl ?_
          refine P_imul (q := 98) dX8_ofColumn_97 rfl ?_
          refine P_isub (q := 99) dX8_ofColumn_98 rfl ?_
          refine P_iadd (q := 100) dX8_ofColumn_99 rfl ?_
          refine P_istore (q := 102) (L' := [_, _, _, _, _, _, _, _]) dX8_ofColumn_100 rfl (by decide) rfl ?_
          refine P_iinc (q := 105) (L' := [_, _, _, _, _, _, _, _]) (v := nI (r + 1)) dX8_ofColumn_102 rfl (by decide) rfl (nI_1 r) rfl ?_
          refine P_goto (tgt := 6) dX8_ofColumn_105 (by decide) ?_
          first
            | exact step _ _ _ (by rw [tt, hv1 c_35])
            | exact step _ _ _ (by rw [tt, hv0 c_35]; rfl)
        · exact absurd (show ¬ bI false = nI 1 by decide) (fun q => q c_56)
  refine CP_of (by decide +kernel) (Nat.le_of_ble_eq_true rfl) ?_
  change PW _ _ _ _ 0 [_, _, _, _, _, _, _, _] [] _ _ _ _
  refine P_iconst (q := 1) (v := nI 0) dX8_ofColumn_0 rfl (by decide +kernel) ?_
  refine P_istore (q := 3) (L' := [_, _, _, _, _, _, _, _]) dX8_ofColumn_1 rfl (by decide) rfl ?_
  refine P_iconst (q := 4) (v := nI 0) dX8_ofColumn_3 rfl (by decide +kernel) ?_
  refine P_istore (q := 6) (L' := [_, _, _, _, _, _, _, _]) dX8_ofColumn_4 rfl (by decide) rfl ?_
  exact lp A.R 0 (by omega) _ _
