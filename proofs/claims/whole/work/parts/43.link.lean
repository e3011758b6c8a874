/-! THE REFERENCE: links, a strip's energy and walls, gains -/
set_option maxRecDepth 100000 in
set_option maxHeartbeats 4000000 in
theorem m_lnk_true {σ : Sto} {A : St} (hM : MO σ) (hX : XA σ A) {k t : Nat} (hk : k < 8) (ht : t < 8) : CD mX8_ofLink [.ref 114, .int (bI true), .int (nI k), .int (nI t)] 132 σ (some (.int (iI (A.lnk true k t)))) σ := by
  obtain ⟨L, k0, pl, n0, sp0, rc, rr, h0⟩ := id hM
  obtain ⟨hA, g, h1, r0, r1, r2, r3, r4, r5, rs, rf⟩ := id hX
  have hC := hA.1
  have hR := hA.2.1
  have lp : ∀ n r, r + n = A.R → ∀ x6 : Option Value, PW mX8_ofLink 0 0 (fun v σ' => v = some (.int (iI (A.lnk true k t))) ∧ σ' = σ) 6 [some (.ref 114), some (.int (bI true)), some (.int (nI k)), some (.int (nI t)), some (.int (iI (sumZ r (A.lnkT true k t)))), some (.int (nI r)), x6] [] 132 σ 0 0 := by
   intro n
   induction n with
   | zero =>
    intro r hr x6
    have e : r = A.R := by omega
    subst e
    refine P_iload (q := 8) dX8_ofLink_6 rfl rfl ?_
    refine P_aload_n (q := 9) dX8_ofLink_8 rfl rfl ?_
    refine P_get (q := 12) dX8_ofLink_9 rfl fX8_7 (by decide) (h0) rfl ?_
    refine P_iconst (q := 13) (v := nI 1) dX8_ofLink_12 rfl (by decide +kernel) ?_
    refine P_iald (q := 14) (j := 1) dX8_ofLink_13 rfl (by decide) (h1) (rfl) (by omega) (by decide) ?_
    rw [r1]
    refine P_icmp_ge (q := 17) (tgt := 71) dX8_ofLink_14 rfl (by decide) (fun c_14 => ?_) (fun c_14 => ?_)
    · rw [nI_leI (by omega) (by omega)] at c_14
      refine P_iload (q := 73) dX8_ofLink_71 rfl rfl ?_
      refine P_iret dX8_ofLink_73 rfl (rfl) ?_
      exact ⟨rfl, rfl⟩
    · exfalso; rw [nI_leI (by omega) (by omega)] at c_14; omega
   | succ n ih =>
    intro r hr x6
    have step : ∀ (v : Int32) (x6 : Option Value), v = iI (A.lnkT true k t r) → PW mX8_ofLink 0 0 (fun v σ' => v = some (.int (iI (A.lnk true k t))) ∧ σ' = σ) 6 [some (.ref 114), some (.int (bI true)), some (.int (nI k)), some (.int (nI t)), some (.int (iI (sumZ r (A.lnkT true k t)) + v)), some (.int (nI (r + 1))), x6] [] 132 σ 0 0 := by
      intro v x6 e
      rw [e, iI_add]
      exact ih (r + 1) (by omega) x6
    have sm := spZ_pm k r
    have sm2 := spZ_pm t r
    have tt : A.lnkT true k t r = if spZ k r * spZ t r < 0 then 1 else 0 := rfl
    refine P_iload (q := 8) dX8_ofLink_6 rfl rfl ?_
    refine P_aload_n (q := 9) dX8_ofLink_8 rfl rfl ?_
    refine P_get (q := 12) dX8_ofLink_9 rfl fX8_7 (by decide) (h0) rfl ?_
    refine P_iconst (q := 13) (v := nI 1) dX8_ofLink_12 rfl (by decide +kernel) ?_
    refine P_iald (q := 14) (j := 1) dX8_ofLink_13 rfl (by decide) (h1) (rfl) (by omega) (by decide) ?_
    rw [r1]
    refine P_icmp_ge (q := 17) (tgt := 71) dX8_ofLink_14 rfl (by decide) (fun c_14 => ?_) (fun c_14 => ?_)
    · exfalso; rw [nI_leI (by omega) (by omega)] at c_14; omega
    · rw [nI_leI (by omega) (by omega)] at c_14
      refine P_iload_n (q := 18) dX8_ofLink_17 rfl rfl ?_
      refine P_iload (q := 20) dX8_ofLink_18 rfl rfl ?_
      refine P_cs1 (q := 23) dX8_ofLink_20 rfl kX8_77 (m_spinIn hk (by omega)) rfl rfl ⟨by decide, by decide⟩ (Nat.le_of_ble_eq_true rfl) ⟨Nat.le_refl _, Nat.le_refl _⟩ ?_
      refine P_iload_n (q := 24) dX8_ofLink_23 rfl rfl ?_
      refine P_iload (q := 26) dX8_ofLink_24 rfl rfl ?_
      refine P_cs1 (q := 29) dX8_ofLink_26 rfl kX8_77 (m_spinIn ht (by omega)) rfl rfl ⟨by decide, by decide⟩ (Nat.le_of_ble_eq_true rfl) ⟨Nat.le_refl _, Nat.le_refl _⟩ ?_
      refine P_imul (q := 30) dX8_ofLink_29 rfl ?_
      refine P_istore (q := 32) (L' := [_, _, _, _, _, _, _]) dX8_ofLink_30 rfl (by decide) rfl ?_
      refine P_iload (q := 34) dX8_ofLink_32 rfl rfl ?_
      refine P_iload_n (q := 35) dX8_ofLink_34 rfl rfl ?_
      refine P_iconst (q := 36) (v := nI 1) dX8_ofLink_35 rfl (by decide +kernel) ?_
      refine P_icmp_ne (q := 39) (tgt := 52) dX8_ofLink_36 rfl (by decide) (fun c_36 => ?_) (fun c_36 => ?_)
      · exact absurd rfl c_36
      · refine P_iload (q := 41) dX8_ofLink_39 rfl rfl ?_
        refine P_if_ge (q := 44) (tgt := 48) dX8_ofLink_41 rfl (by decide) (fun c_41 => ?_) (fun c_41 => ?_)
        · rw [iI_mul, show ((0 : Int32)) = iI 0 from rfl, iI_le (by omega) (by omega) (by rcases sm with e | e <;> rcases sm2 with e2 | e2 <;> rw [e, e2] <;> decide) (by rcases sm with e | e <;> rcases sm2 with e2 | e2 <;> rw [e, e2] <;> decide)] at c_41
          refine P_iconst (q := 49) (v := nI 0) dX8_ofLink_48 rfl (by decide +kernel) ?_
          refine P_goto (tgt := 62) dX8_ofLink_49 (by decide) ?_
          refine P_iadd (q := 63) dX8_ofLink_62 rfl ?_
          refine P_istore (q := 65) (L' := [_, _, _, _, _, _, _]) dX8_ofLink_63 rfl (by decide) rfl ?_
          refine P_iinc (q := 68) (L' := [_, _, _, _, _, _, _]) (v := nI (r + 1)) dX8_ofLink_65 rfl (by decide) rfl (nI_1 r) rfl ?_
          refine P_goto (tgt := 6) dX8_ofLink_68 (by decide) ?_
          first
            | exact step _ _ (by rw [tt, if_pos (Int.not_le.mp c_41)]; rfl)
            | exact step _ _ (by rw [tt, if_neg (Int.not_lt.mpr c_41)]; rfl)
        · rw [iI_mul, show ((0 : Int32)) = iI 0 from rfl, iI_le (by omega) (by omega) (by rcases sm with e | e <;> rcases sm2 with e2 | e2 <;> rw [e, e2] <;> decide) (by rcases sm with e | e <;> rcases sm2 with e2 | e2 <;> rw [e, e2] <;> decide)] at c_41
          refine P_iconst (q := 45) (v := nI 1) dX8_ofLink_44 rfl (by decide +kernel) ?_
          refine P_goto (tgt := 62) dX8_ofLink_45 (by decide) ?_
          refine P_iadd (q := 63) dX8_ofLink_62 rfl ?_
          refine P_istore (q := 65) (L' := [_, _, _, _, _, _, _]) dX8_ofLink_63 rfl (by decide) rfl ?_
          refine P_iinc (q := 68) (L' := [_, _, _, _, _, _, _]) (v := nI (r + 1)) dX8_ofLink_65 rfl (by decide) rfl (nI_1 r) rfl ?_
          refine P_goto (tgt := 6) dX8_ofLink_68 (by decide) ?_
          first
            | exact step _ _ (by rw [tt, if_pos (Int.not_le.mp c_41)]; rfl)
            | exact step _ _ (by rw [tt, if_neg (Int.not_lt.mpr c_41)]; rfl)
  refine CP_of (by decide +kernel) (Nat.le_of_ble_eq_true rfl) ?_
  change PW _ _ _ _ 0 [_, _, _, _, _, _, _] [] _ _ _ _
  refine P_iconst (q := 1) (v := nI 0) dX8_ofLink_0 rfl (by decide +kernel) ?_
  refine P_istore (q := 3) (L' := [_, _, _, _, _, _, _]) dX8_ofLink_1 rfl (by decide) rfl ?_
  refine P_iconst (q := 4) (v := nI 0) dX8_ofLink_3 rfl (by decide +kernel) ?_
  refine P_istore (q := 6) (L' := [_, _, _, _, _, _, _]) dX8_ofLink_4 rfl (by decide) rfl ?_
  exact lp A.R 0 (by omega) _
set_option maxRecDepth 100000 in
set_option maxHeartbeats 4000000 in
theorem m_lnk_false {σ : Sto} {A : St} (hM : MO σ) (hX : XA σ A) {k t : Nat} (hk : k < 8) (ht : t < 8) : CD mX8_ofLink [.ref 114, .int (bI false), .int (nI k), .int (nI t)] 132 σ (some (.int (iI (A.lnk false k t)))) σ := by
  obtain ⟨L, k0, pl, n0, sp0, rc, rr, h0⟩ := id hM
  obtain ⟨hA, g, h1, r0, r1, r2, r3, r4, r5, rs, rf⟩ := id hX
  have hC := hA.1
  have hR := hA.2.1
  have lp : ∀ n r, r + n = A.R → ∀ x6 : Option Value, PW mX8_ofLink 0 0 (fun v σ' => v = some (.int (iI (A.lnk false k t))) ∧ σ' = σ) 6 [some (.ref 114), some (.int (bI false)), some (.int (nI k)), some (.int (nI t)), some (.int (iI (sumZ r (A.lnkT false k t)))), some (.int (nI r)), x6] [] 132 σ 0 0 := by
   intro n
   induction n with
   | zero =>
    intro r hr x6
    have e : r = A.R := by omega
    subst e
    refine P_iload (q := 8) dX8_ofLink_6 rfl rfl ?_
    refine P_aload_n (q := 9) dX8_ofLink_8 rfl rfl ?_
    refine P_get (q := 12) dX8_ofLink_9 rfl fX8_7 (by decide) (h0) rfl ?_
    refine P_iconst (q := 13) (v := nI 1) dX8_ofLink_12 rfl (by decide +kernel) ?_
    refine P_iald (q := 14) (j := 1) dX8_ofLink_13 rfl (by decide) (h1) (rfl) (by omega) (by decide) ?_
    rw [r1]
    refine P_icmp_ge (q := 17) (tgt := 71) dX8_ofLink_14 rfl (by decide) (fun c_14 => ?_) (fun c_14 => ?_)
    · rw [nI_leI (by omega) (by omega)] at c_14
      refine P_iload (q := 73) dX8_ofLink_71 rfl rfl ?_
      refine P_iret dX8_ofLink_73 rfl (rfl) ?_
      exact ⟨rfl, rfl⟩
    · exfalso; rw [nI_leI (by omega) (by omega)] at c_14; omega
   | succ n ih =>
    intro r hr x6
    have step : ∀ (v : Int32) (x6 : Option Value), v = iI (A.lnkT false k t r) → PW mX8_ofLink 0 0 (fun v σ' => v = some (.int (iI (A.lnk false k t))) ∧ σ' = σ) 6 [some (.ref 114), some (.int (bI false)), some (.int (nI k)), some (.int (nI t)), some (.int (iI (sumZ r (A.lnkT false k t)) + v)), some (.int (nI (r + 1))), x6] [] 132 σ 0 0 := by
      intro v x6 e
      rw [e, iI_add]
      exact ih (r + 1) (by omega) x6
    have tt : iI (A.lnkT false k t r) = -iI A.al * (iI (spZ k r) * iI (spZ t r)) := by
      rw [iI_neg, iI_mul, iI_mul]; rfl
    refine P_iload (q := 8) dX8_ofLink_6 rfl rfl ?_
    refine P_aload_n (q := 9) dX8_ofLink_8 rfl rfl ?_
    refine P_get (q := 12) dX8_ofLink_9 rfl fX8_7 (by decide) (h0) rfl ?_
    refine P_iconst (q := 13) (v := nI 1) dX8_ofLink_12 rfl (by decide +kernel) ?_
    refine P_iald (q := 14) (j := 1) dX8_ofLink_13 rfl (by decide) (h1) (rfl) (by omega) (by decide) ?_
    rw [r1]
    refine P_icmp_ge (q := 17) (tgt := 71) dX8_ofLink_14 rfl (by decide) (fun c_14 => ?_) (fun c_14 => ?_)
    · exfalso; rw [nI_leI (by omega) (by omega)] at c_14; omega
    · rw [nI_leI (by omega) (by omega)] at c_14
      refine P_iload_n (q := 18) dX8_ofLink_17 rfl rfl ?_
      refine P_iload (q := 20) dX8_ofLink_18 rfl rfl ?_
      refine P_cs1 (q := 23) dX8_ofLink_20 rfl kX8_77 (m_spinIn hk (by omega)) rfl rfl ⟨by decide, by decide⟩ (Nat.le_of_ble_eq_true rfl) ⟨Nat.le_refl _, Nat.le_refl _⟩ ?_
      refine P_iload_n (q := 24) dX8_ofLink_23 rfl rfl ?_
      refine P_iload (q := 26) dX8_ofLink_24 rfl rfl ?_
      refine P_cs1 (q := 29) dX8_ofLink_26 rfl kX8_77 (m_spinIn ht (by omega)) rfl rfl ⟨by decide, by decide⟩ (Nat.le_of_ble_eq_true rfl) ⟨Nat.le_refl _, Nat.le_refl _⟩ ?_
      refine P_imul (q := 30) dX8_ofLink_29 rfl ?_
      refine P_istore (q := 32) (L' := [_, _, _, _, _, _, _]) dX8_ofLink_30 rfl (by decide) rfl ?_
      refine P_iload (q := 34) dX8_ofLink_32 rfl rfl ?_
      refine P_iload_n (q := 35) dX8_ofLink_34 rfl rfl ?_
      refine P_iconst (q := 36) (v := nI 1) dX8_ofLink_35 rfl (by decide +kernel) ?_
      refine P_icmp_ne (q := 39) (tgt := 52) dX8_ofLink_36 rfl (by decide) (fun c_36 => ?_) (fun c_36 => ?_)
      · refine P_aload_n (q := 53) dX8_ofLink_52 rfl rfl ?_
        refine P_get (q := 56) dX8_ofLink_53 rfl fX8_7 (by decide) (h0) rfl ?_
        refine P_iconst (q := 57) (v := nI 3) dX8_ofLink_56 rfl (by decide +kernel) ?_
        refine P_iald (q := 58) (j := 3) dX8_ofLink_57 rfl (by decide) (h1) (rfl) (by omega) (by decide) ?_
        rw [r3]
        refine P_ineg (q := 59) dX8_ofLink_58 rfl ?_
        refine P_iload (q := 61) dX8_ofLink_59 rfl rfl ?_
        refine P_imul (q := 62) dX8_ofLink_61 rfl ?_
        refine P_iadd (q := 63) dX8_ofLink_62 rfl ?_
        refine P_istore (q := 65) (L' := [_, _, _, _, _, _, _]) dX8_ofLink_63 rfl (by decide) rfl ?_
        refine P_iinc (q := 68) (L' := [_, _, _, _, _, _, _]) (v := nI (r + 1)) dX8_ofLink_65 rfl (by decide) rfl (nI_1 r) rfl ?_
        refine P_goto (tgt := 6) dX8_ofLink_68 (by decide) ?_
        exact step _ _ tt.symm
      · exact absurd (show ¬ bI false = nI 1 by decide) (fun q => q c_36)
  refine CP_of (by decide +kernel) (Nat.le_of_ble_eq_true rfl) ?_
  change PW _ _ _ _ 0 [_, _, _, _, _, _, _] [] _ _ _ _
  refine P_iconst (q := 1) (v := nI 0) dX8_ofLink_0 rfl (by decide +kernel) ?_
  refine P_istore (q := 3) (L' := [_, _, _, _, _, _, _]) dX8_ofLink_1 rfl (by decide) rfl ?_
  refine P_iconst (q := 4) (v := nI 0) dX8_ofLink_3 rfl (by decide +kernel) ?_
  refine P_istore (q := 6) (L' := [_, _, _, _, _, _, _]) dX8_ofLink_4 rfl (by decide) rfl ?_
  exact lp A.R 0 (by omega) _
set_option maxRecDepth 100000 in
set_option maxHeartbeats 4000000 in
theorem m_strip_true {σ : Sto} {A : St} (hM : MO σ) (hX : XA σ A) : CD mX8_ofStrip [.ref 114, .int (bI true)] 132 σ (some (.int (iI (A.tot true)))) σ := by
  obtain ⟨L, k0, pl, n0, sp0, rc, rr, h0⟩ := id hM
  obtain ⟨hA, g, h1, r0, r1, r2, r3, r4, r5, rs, rf⟩ := id hX
  have hC := hA.1
  have hR := hA.2.1
  have h8 : ∀ c, A.sp c < 8 := fun c => Nat.lt_of_lt_of_le (hA.2.2.2.2.2.1 c) (pow8 hR.2)
  have lp : ∀ n c, c + n = A.C → ∀ x4 : Option Value, PW mX8_ofStrip 0 0 (fun v σ' => v = some (.int (iI (A.tot true))) ∧ σ' = σ) 4 [some (.ref 114), some (.int (bI true)), some (.int (iI (sumZ c (A.totT true)))), some (.int (nI c)), x4] [] 132 σ 0 0 := by
   intro n
   induction n with
   | zero =>
    intro c hc x4
    have e : c = A.C := by omega
    subst e
    refine P_iload_n (q := 5) dX8_ofStrip_4 rfl rfl ?_
    refine P_aload_n (q := 6) dX8_ofStrip_5 rfl rfl ?_
    refine P_get (q := 9) dX8_ofStrip_6 rfl fX8_7 (by decide) (h0) rfl ?_
    refine P_iconst (q := 10) (v := nI 0) dX8_ofStrip_9 rfl (by decide +kernel) ?_
    refine P_iald (q := 11) (j := 0) dX8_ofStrip_10 rfl (by decide) (h1) (rfl) (by omega) (by decide) ?_
    rw [r0]
    refine P_icmp_ge (q := 14) (tgt := 83) dX8_ofStrip_11 rfl (by decide) (fun c_11 => ?_) (fun c_11 => ?_)
    · rw [nI_leI (by omega) (by omega)] at c_11
      refine P_iload_n (q := 84) dX8_ofStrip_83 rfl rfl ?_
      refine P_iret dX8_ofStrip_84 rfl (rfl) ?_
      exact ⟨rfl, rfl⟩
    · exfalso; rw [nI_leI (by omega) (by omega)] at c_11; omega
   | succ n ih =>
    intro c hc x4
    have hc' : c < A.C := by omega
    have step : ∀ (v : Int32) (x4 : Option Value), v = iI (A.lnkO true (A.sp c) (A.nxt c)) → PW mX8_ofStrip 0 0 (fun v σ' => v = some (.int (iI (A.tot true))) ∧ σ' = σ) 4 [some (.ref 114), some (.int (bI true)), some (.int (iI (sumZ c (A.totT true)) + (iI (A.col true c (A.sp c)) + v))), some (.int (nI (c + 1))), x4] [] 132 σ 0 0 := by
      intro v x4 e
      rw [e, iI_add, iI_add]
      exact ih (c + 1) (by omega) x4
    have hnx : ∀ d, A.nxt c = some d → d < A.C := fun d h => by
      unfold St.nxt at h
      split at h
      · cases h; omega
      · split at h
        · cases h; omega
        · cases h
    cases hn : A.nxt c with
    | none =>
      have hb := m_next hM hX hc'
      rw [hn] at hb
      rw [hn] at step
      refine P_iload_n (q := 5) dX8_ofStrip_4 rfl rfl ?_
      refine P_aload_n (q := 6) dX8_ofStrip_5 rfl rfl ?_
      refine P_get (q := 9) dX8_ofStrip_6 rfl fX8_7 (by decide) (h0) rfl ?_
      refine P_iconst (q := 10) (v := nI 0) dX8_ofStrip_9 rfl (by decide +kernel) ?_
      refine P_iald (q := 11) (j := 0) dX8_ofStrip_10 rfl (by decide) (h1) (rfl) (by omega) (by decide) ?_
      rw [r0]
      refine P_icmp_ge (q := 14) (tgt := 83) dX8_ofStrip_11 rfl (by decide) (fun c_11 => ?_) (fun c_11 => ?_)
      · exfalso; rw [nI_leI (by omega) (by omega)] at c_11; omega
      · rw [nI_leI (by omega) (by omega)] at c_11
        refine P_aload_n (q := 15) dX8_ofStrip_14 rfl rfl ?_
        refine P_iload_n (q := 16) dX8_ofStrip_15 rfl rfl ?_
        refine P_iconst (q := 17) (v := nI 1) dX8_ofStrip_16 rfl (by decide +kernel) ?_
        refine P_cv1 (q := 20) dX8_ofStrip_17 rfl kX8_92 (hb) rfl rfl (by decide) (h0) rfl ⟨by decide, by decide⟩ (Nat.le_of_ble_eq_true rfl) ⟨Nat.le_refl _, Nat.le_refl _⟩ ?_
        refine P_istore (q := 22) (L' := [_, _, _, _, _]) dX8_ofStrip_20 rfl (by decide) rfl ?_
        refine P_iload_n (q := 23) dX8_ofStrip_22 rfl rfl ?_
        refine P_aload_n (q := 24) dX8_ofStrip_23 rfl rfl ?_
        refine P_iload_n (q := 25) dX8_ofStrip_24 rfl rfl ?_
        refine P_iload_n (q := 26) dX8_ofStrip_25 rfl rfl ?_
        refine P_aload_n (q := 27) dX8_ofStrip_26 rfl rfl ?_
        refine P_get (q := 30) dX8_ofStrip_27 rfl fX8_7 (by decide) (h0) rfl ?_
        refine P_bipush (q := 32) (v := nI 6) dX8_ofStrip_30 rfl (by decide +kernel) ?_
        refine P_iload_n (q := 33) dX8_ofStrip_32 rfl rfl ?_
        refine P_iadd (q := 34) dX8_ofStrip_33 rfl ?_
        refine P_iald (q := 35) (j := 6 + c) dX8_ofStrip_34 rfl (by decide) (h1) (nI_add _ _) (by omega) (by decide) ?_
        rw [rs c (by omega)]
        refine P_cv1 (q := 38) dX8_ofStrip_35 rfl kX8_95 (m_col_true hM hX hc' (h8 c)) rfl rfl (by decide) (h0) rfl ⟨by decide, by decide⟩ (Nat.le_of_ble_eq_true rfl) ⟨Nat.le_refl _, Nat.le_refl _⟩ ?_
        refine P_iload (q := 40) dX8_ofStrip_38 rfl rfl ?_
        refine P_sipush (q := 43) (v := iI (-1005)) dX8_ofStrip_40 rfl (by decide +kernel) ?_
        refine P_icmp_ne (q := 46) (tgt := 50) dX8_ofStrip_43 rfl (by decide) (fun c_43 => ?_) (fun c_43 => ?_)
        · exact absurd rfl c_43
        · refine P_iconst (q := 47) (v := nI 0) dX8_ofStrip_46 rfl (by decide +kernel) ?_
          refine P_goto (tgt := 74) dX8_ofStrip_47 (by decide) ?_
          refine P_iadd (q := 75) dX8_ofStrip_74 rfl ?_
          refine P_iadd (q := 76) dX8_ofStrip_75 rfl ?_
          refine P_istore_n (q := 77) (L' := [_, _, _, _, _]) dX8_ofStrip_76 rfl (by decide) rfl ?_
          refine P_iinc (q := 80) (L' := [_, _, _, _, _]) (v := nI (c + 1)) dX8_ofStrip_77 rfl (by decide) rfl (nI_1 c) rfl ?_
          refine P_goto (tgt := 4) dX8_ofStrip_80 (by decide) ?_
          exact step _ _ rfl
    | some d =>
      have hd := hnx d hn
      have hb := m_next hM hX hc'
      rw [hn] at hb
      rw [hn] at step
      refine P_iload_n (q := 5) dX8_ofStrip_4 rfl rfl ?_
      refine P_aload_n (q := 6) dX8_ofStrip_5 rfl rfl ?_
      refine P_get (q := 9) dX8_ofStrip_6 rfl fX8_7 (by decide) (h0) rfl ?_
      refine P_iconst (q := 10) (v := nI 0) dX8_ofStrip_9 rfl (by decide +kernel) ?_
      refine P_iald (q := 11) (j := 0) dX8_ofStrip_10 rfl (by decide) (h1) (rfl) (by omega) (by decide) ?_
      rw [r0]
      refine P_icmp_ge (q := 14) (tgt := 83) dX8_ofStrip_11 rfl (by decide) (fun c_11 => ?_) (fun c_11 => ?_)
      · exfalso; rw [nI_leI (by omega) (by omega)] at c_11; omega
      · rw [nI_leI (by omega) (by omega)] at c_11
        refine P_aload_n (q := 15) dX8_ofStrip_14 rfl rfl ?_
        refine P_iload_n (q := 16) dX8_ofStrip_15 rfl rfl ?_
        refine P_iconst (q := 17) (v := nI 1) dX8_ofStrip_16 rfl (by decide +kernel) ?_
        refine P_cv1 (q := 20) dX8_ofStrip_17 rfl kX8_92 (hb) rfl rfl (by decide) (h0) rfl ⟨by decide, by decide⟩ (Nat.le_of_ble_eq_true rfl) ⟨Nat.le_refl _, Nat.le_refl _⟩ ?_
        refine P_istore (q := 22) (L' := [_, _, _, _, _]) dX8_ofStrip_20 rfl (by decide) rfl ?_
        refine P_iload_n (q := 23) dX8_ofStrip_22 rfl rfl ?_
        refine P_aload_n (q := 24) dX8_ofStrip_23 rfl rfl ?_
        refine P_iload_n (q := 25) dX8_ofStrip_24 rfl rfl ?_
        refine P_iload_n (q := 26) dX8_ofStrip_25 rfl rfl ?_
        refine P_aload_n (q := 27) dX8_ofStrip_26 rfl rfl ?_
        refine P_get (q := 30) dX8_ofStrip_27 rfl fX8_7 (by decide) (h0) rfl ?_
        refine P_bipush (q := 32) (v := nI 6) dX8_ofStrip_30 rfl (by decide +kernel) ?_
        refine P_iload_n (q := 33) dX8_ofStrip_32 rfl rfl ?_
        refine P_iadd (q := 34) dX8_ofStrip_33 rfl ?_
        refine P_iald (q := 35) (j := 6 + c) dX8_ofStrip_34 rfl (by decide) (h1) (nI_add _ _) (by omega) (by decide) ?_
        rw [rs c (by omega)]
        refine P_cv1 (q := 38) dX8_ofStrip_35 rfl kX8_95 (m_col_true hM hX hc' (h8 c)) rfl rfl (by decide) (h0) rfl ⟨by decide, by decide⟩ (Nat.le_of_ble_eq_true rfl) ⟨Nat.le_refl _, Nat.le_refl _⟩ ?_
        refine P_iload (q := 40) dX8_ofStrip_38 rfl rfl ?_
        refine P_sipush (q := 43) (v := iI (-1005)) dX8_ofStrip_40 rfl (by decide +kernel) ?_
        refine P_icmp_ne (q := 46) (tgt := 50) dX8_ofStrip_43 rfl (by decide) (fun c_43 => ?_) (fun c_43 => ?_)
        · refine P_aload_n (q := 51) dX8_ofStrip_50 rfl rfl ?_
          refine P_iload_n (q := 52) dX8_ofStrip_51 rfl rfl ?_
          refine P_aload_n (q := 53) dX8_ofStrip_52 rfl rfl ?_
          refine P_get (q := 56) dX8_ofStrip_53 rfl fX8_7 (by decide) (h0) rfl ?_
          refine P_bipush (q := 58) (v := nI 6) dX8_ofStrip_56 rfl (by decide +kernel) ?_
          refine P_iload_n (q := 59) dX8_ofStrip_58 rfl rfl ?_
          refine P_iadd (q := 60) dX8_ofStrip_59 rfl ?_
          refine P_iald (q := 61) (j := 6 + c) dX8_ofStrip_60 rfl (by decide) (h1) (nI_add _ _) (by omega) (by decide) ?_
          rw [rs c (by omega)]
          refine P_aload_n (q := 62) dX8_ofStrip_61 rfl rfl ?_
          refine P_get (q := 65) dX8_ofStrip_62 rfl fX8_7 (by decide) (h0) rfl ?_
          refine P_bipush (q := 67) (v := nI 6) dX8_ofStrip_65 rfl (by decide +kernel) ?_
          refine P_iload (q := 69) dX8_ofStrip_67 rfl rfl ?_
          refine P_iadd (q := 70) dX8_ofStrip_69 rfl ?_
          refine P_iald (q := 71) (j := 6 + d) dX8_ofStrip_70 rfl (by decide) (h1) (nI_add _ _) (by omega) (by decide) ?_
          rw [rs d (by omega)]
          refine P_cv1 (q := 74) dX8_ofStrip_71 rfl kX8_99 (m_lnk_true hM hX (h8 c) (h8 d)) rfl rfl (by decide) (h0) rfl ⟨by decide, by decide⟩ (Nat.le_of_ble_eq_true rfl) ⟨Nat.le_refl _, Nat.le_refl _⟩ ?_
          refine P_iadd (q := 75) dX8_ofStrip_74 rfl ?_
          refine P_iadd (q := 76) dX8_ofStrip_75 rfl ?_
          refine P_istore_n (q := 77) (L' := [_, _, _, _, _]) dX8_ofStrip_76 rfl (by decide) rfl ?_
          refine P_iinc (q := 80) (L' := [_, _, _, _, _]) (v := nI (c + 1)) dX8_ofStrip_77 rfl (by decide) rfl (nI_1 c) rfl ?_
          refine P_goto (tgt := 4) dX8_ofStrip_80 (by decide) ?_
          exact step _ _ rfl
        · have c_43 : nI d = iI (-1005) := c_43
          rw [iI_nI, iI_inj (by omega) (by omega) (by omega) (by omega)] at c_43
          omega
  refine CP_of (by decide +kernel) (Nat.le_of_ble_eq_true rfl) ?_
  change PW _ _ _ _ 0 [_, _, _, _, _] [] _ _ _ _
  refine P_iconst (q := 1) (v := nI 0) dX8_ofStrip_0 rfl (by decide +kernel) ?_
  refine P_istore_n (q := 2) (L' := [_, _, _, _, _]) dX8_ofStrip_1 rfl (by decide) rfl ?_
  refine P_iconst (q := 3) (v := nI 0) dX8_ofStrip_2 rfl (by decide +kernel) ?_
  refine P_istore_n (q := 4) (L' := [_, _, _, _, _]) dX8_ofStrip_3 rfl (by decide) rfl ?_
  exact lp A.C 0 (by omega) _
set_option maxRecDepth 100000 in
set_option maxHeartbeats 4000000 in
theorem m_strip_false {σ : Sto} {A : St} (hM : MO σ) (hX : XA σ A) : CD mX8_ofStrip [.ref 114, .int (bI false)] 132 σ (some (.int (iI (A.tot false)))) σ := by
  obtain ⟨L, k0, pl, n0, sp0, rc, rr, h0⟩ := id hM
  obtain ⟨hA, g, h1, r0, r1, r2, r3, r4, r5, rs, rf⟩ := id hX
  have hC := hA.1
  have hR := hA.2.1
  have h8 : ∀ c, A.sp c < 8 := fun c => Nat.lt_of_lt_of_le (hA.2.2.2.2.2.1 c) (pow8 hR.2)
  have lp : ∀ n c, c + n = A.C → ∀ x4 : Option Value, PW mX8_ofStrip 0 0 (fun v σ' => v = some (.int (iI (A.tot false))) ∧ σ' = σ) 4 [some (.ref 114), some (.int (bI false)), some (.int (iI (sumZ c (A.totT false)))), some (.int (nI c)), x4] [] 132 σ 0 0 := by
   intro n
   induction n with
   | zero =>
    intro c hc x4
    have e : c = A.C := by omega
    subst e
    refine P_iload_n (q := 5) dX8_ofStrip_4 rfl rfl ?_
    refine P_aload_n (q := 6) dX8_ofStrip_5 rfl rfl ?_
    refine P_get (q := 9) dX8_ofStrip_6 rfl fX8_7 (by decide) (h0) rfl ?_
    refine P_iconst (q := 10) (v := nI 0) dX8_ofStrip_9 rfl (by decide +kernel) ?_
    refine P_iald (q := 11) (j := 0) dX8_ofStrip_10 rfl (by decide) (h1) (rfl) (by omega) (by decide) ?_
    rw [r0]
    refine P_icmp_ge (q := 14) (tgt := 83) dX8_ofStrip_11 rfl (by decide) (fun c_11 => ?_) (fun c_11 => ?_)
    · rw [nI_leI (by omega) (by omega)] at c_11
      refine P_iload_n (q := 84) dX8_ofStrip_83 rfl rfl ?_
      refine P_iret dX8_ofStrip_84 rfl (rfl) ?_
      exact ⟨rfl, rfl⟩
    · exfalso; rw [nI_leI (by omega) (by omega)] at c_11; omega
   | succ n ih =>
    intro c hc x4
    have hc' : c < A.C := by omega
    have step : ∀ (v : Int32) (x4 : Option Value), v = iI (A.lnkO false (A.sp c) (A.nxt c)) → PW mX8_ofStrip 0 0 (fun v σ' => v = some (.int (iI (A.tot false))) ∧ σ' = σ) 4 [some (.ref 114), some (.int (bI false)), some (.int (iI (sumZ c (A.totT false)) + (iI (A.col false c (A.sp c)) + v))), some (.int (nI (c + 1))), x4] [] 132 σ 0 0 := by
      intro v x4 e
      rw [e, iI_add, iI_add]
      exact ih (c + 1) (by omega) x4
    have hnx : ∀ d, A.nxt c = some d → d < A.C := fun d h => by
      unfold St.nxt at h
      split at h
      · cases h; omega
      · split at h
        · cases h; omega
        · cases h
    cases hn : A.nxt c with
    | none =>
      have hb := m_next hM hX hc'
      rw [hn] at hb
      rw [hn] at step
      refine P_iload_n (q := 5) dX8_ofStrip_4 rfl rfl ?_
      refine P_aload_n (q := 6) dX8_ofStrip_5 rfl rfl ?_
      refine P_get (q := 9) dX8_ofStrip_6 rfl fX8_7 (by decide) (h0) rfl ?_
      refine P_iconst (q := 10) (v := nI 0) dX8_ofStrip_9 rfl (by decide +kernel) ?_
      refine P_iald (q := 11) (j := 0) dX8_ofStrip_10 rfl (by decide) (h1) (rfl) (by omega) (by decide) ?_
      rw [r0]
      refine P_icmp_ge (q := 14) (tgt := 83) dX8_ofStrip_11 rfl (by decide) (fun c_11 => ?_) (fun c_11 => ?_)
      · exfalso; rw [nI_leI (by omega) (by omega)] at c_11; omega
      · rw [nI_leI (by omega) (by omega)] at c_11
        refine P_aload_n (q := 15) dX8_ofStrip_14 rfl rfl ?_
        refine P_iload_n (q := 16) dX8_ofStrip_15 rfl rfl ?_
        refine P_iconst (q := 17) (v := nI 1) dX8_ofStrip_16 rfl (by decide +kernel) ?_
        refine P_cv1 (q := 20) dX8_ofStrip_17 rfl kX8_92 (hb) rfl rfl (by decide) (h0) rfl ⟨by decide, by decide⟩ (Nat.le_of_ble_eq_true rfl) ⟨Nat.le_refl _, Nat.le_refl _⟩ ?_
        refine P_istore (q := 22) (L' := [_, _, _, _, _]) dX8_ofStrip_20 rfl (by decide) rfl ?_
        refine P_iload_n (q := 23) dX8_ofStrip_22 rfl rfl ?_
        refine P_aload_n (q := 24) dX8_ofStrip_23 rfl rfl ?_
        refine P_iload_n (q := 25) dX8_ofStrip_24 rfl rfl ?_
        refine P_iload_n (q := 26) dX8_ofStrip_25 rfl rfl ?_
        refine P_aload_n (q := 27) dX8_ofStrip_26 rfl rfl ?_
        refine P_get (q := 30) dX8_ofStrip_27 rfl fX8_7 (by decide) (h0) rfl ?_
        refine P_bipush (q := 32) (v := nI 6) dX8_ofStrip_30 rfl (by decide +kernel) ?_
        refine P_iload_n (q := 33) dX8_ofStrip_32 rfl rfl ?_
        refine P_iadd (q := 34) dX8_ofStrip_33 rfl ?_
        refine P_iald (q := 35) (j := 6 + c) dX8_ofStrip_34 rfl (by decide) (h1) (nI_add _ _) (by omega) (by decide) ?_
        rw [rs c (by omega)]
        refine P_cv1 (q := 38) dX8_ofStrip_35 rfl kX8_95 (m_col_false hM hX hc' (h8 c)) rfl rfl (by decide) (h0) rfl ⟨by decide, by decide⟩ (Nat.le_of_ble_eq_true rfl) ⟨Nat.le_refl _, Nat.le_refl _⟩ ?_
        refine P_iload (q := 40) dX8_ofStrip_38 rfl rfl ?_
        refine P_sipush (q := 43) (v := iI (-1005)) dX8_ofStrip_40 rfl (by decide +kernel) ?_
        refine P_icmp_ne (q := 46) (tgt := 50) dX8_ofStrip_43 rfl (by decide) (fun c_43 => ?_) (fun c_43 => ?_)
        · exact absurd rfl c_43
        · refine P_iconst (q := 47) (v := nI 0) dX8_ofStrip_46 rfl (by decide +kernel) ?_
          refine P_goto (tgt := 74) dX8_ofStrip_47 (by decide) ?_
          refine P_iadd (q := 75) dX8_ofStrip_74 rfl ?_
          refine P_iadd (q := 76) dX8_ofStrip_75 rfl ?_
          refine P_istore_n (q := 77) (L' := [_, _, _, _, _]) dX8_ofStrip_76 rfl (by decide) rfl ?_
          refine P_iinc (q := 80) (L' := [_, _, _, _, _]) (v := nI (c + 1)) dX8_ofStrip_77 rfl (by decide) rfl (nI_1 c) rfl ?_
          refine P_goto (tgt := 4) dX8_ofStrip_80 (by decide) ?_
          exact step _ _ rfl
    | some d =>
      have hd := hnx d hn
      have hb := m_next hM hX hc'
      rw [hn] at hb
      rw [hn] at step
      refine P_iload_n (q := 5) dX8_ofStrip_4 rfl rfl ?_
      refine P_aload_n (q := 6) dX8_ofStrip_5 rfl rfl ?_
      refine P_get (q := 9) dX8_ofStrip_6 rfl fX8_7 (by decide) (h0) rfl ?_
      refine P_iconst (q := 10) (v := nI 0) dX8_ofStrip_9 rfl (by decide +kernel) ?_
      refine P_iald (q := 11) (j := 0) dX8_ofStrip_10 rfl (by decide) (h1) (rfl) (by omega) (by decide) ?_
      rw [r0]
      refine P_icmp_ge (q := 14) (tgt := 83) dX8_ofStrip_11 rfl (by decide) (fun c_11 => ?_) (fun c_11 => ?_)
      · exfalso; rw [nI_leI (by omega) (by omega)] at c_11; omega
      · rw [nI_leI (by omega) (by omega)] at c_11
        refine P_aload_n (q := 15) dX8_ofStrip_14 rfl rfl ?_
        refine P_iload_n (q := 16) dX8_ofStrip_15 rfl rfl ?_
        refine P_iconst (q := 17) (v := nI 1) dX8_ofStrip_16 rfl (by decide +kernel) ?_
        refine P_cv1 (q := 20) dX8_ofStrip_17 rfl kX8_92 (hb) rfl rfl (by decide) (h0) rfl ⟨by decide, by decide⟩ (Nat.le_of_ble_eq_true rfl) ⟨Nat.le_refl _, Nat.le_refl _⟩ ?_
        refine P_istore (q := 22) (L' := [_, _, _, _, _]) dX8_ofStrip_20 rfl (by decide) rfl ?_
        refine P_iload_n (q := 23) dX8_ofStrip_22 rfl rfl ?_
        refine P_aload_n (q := 24) dX8_ofStrip_23 rfl rfl ?_
        refine P_iload_n (q := 25) dX8_ofStrip_24 rfl rfl ?_
        refine P_iload_n (q := 26) dX8_ofStrip_25 rfl rfl ?_
        refine P_aload_n (q := 27) dX8_ofStrip_26 rfl rfl ?_
        refine P_get (q := 30) dX8_ofStrip_27 rfl fX8_7 (by decide) (h0) rfl ?_
        refine P_bipush (q := 32) (v := nI 6) dX8_ofStrip_30 rfl (by decide +kernel) ?_
        refine P_iload_n (q := 33) dX8_ofStrip_32 rfl rfl ?_
        refine P_iadd (q := 34) dX8_ofStrip_33 rfl ?_
        refine P_iald (q := 35) (j := 6 + c) dX8_ofStrip_34 rfl (by decide) (h1) (nI_add _ _) (by omega) (by decide) ?_
        rw [rs c (by omega)]
        refine P_cv1 (q := 38) dX8_ofStrip_35 rfl kX8_95 (m_col_false hM hX hc' (h8 c)) rfl rfl (by decide) (h0) rfl ⟨by decide, by decide⟩ (Nat.le_of_ble_eq_true rfl) ⟨Nat.le_refl _, Nat.le_refl _⟩ ?_
        refine P_iload (q := 40) dX8_ofStrip_38 rfl rfl ?_
        refine P_sipush (q := 43) (v := iI (-1005)) dX8_ofStrip_40 rfl (by decide +kernel) ?_
        refine P_icmp_ne (q := 46) (tgt := 50) dX8_ofStrip_43 rfl (by decide) (fun c_43 => ?_) (fun c_43 => ?_)
        · refine P_aload_n (q := 51) dX8_ofStrip_50 rfl rfl ?_
          refine P_iload_n (q := 52) dX8_ofStrip_51 rfl rfl ?_
          refine P_aload_n (q := 53) dX8_ofStrip_52 rfl rfl ?_
          refine P_get (q := 56) dX8_ofStrip_53 rfl fX8_7 (by decide) (h0) rfl ?_
          refine P_bipush (q := 58) (v := nI 6) dX8_ofStrip_56 rfl (by decide +kernel) ?_
          refine P_iload_n (q := 59) dX8_ofStrip_58 rfl rfl ?_
          refine P_iadd (q := 60) dX8_ofStrip_59 rfl ?_
          refine P_iald (q := 61) (j := 6 + c) dX8_ofStrip_60 rfl (by decide) (h1) (nI_add _ _) (by omega) (by decide) ?_
          rw [rs c (by omega)]
          refine P_aload_n (q := 62) dX8_ofStrip_61 rfl rfl ?_
          refine P_get (q := 65) dX8_ofStrip_62 rfl fX8_7 (by decide) (h0) rfl ?_
          refine P_bipush (q := 67) (v := nI 6) dX8_ofStrip_65 rfl (by decide +kernel) ?_
          refine P_iload (q := 69) dX8_ofStrip_67 rfl rfl ?_
          refine P_iadd (q := 70) dX8_ofStrip_69 rfl ?_
          refine P_iald (q := 71) (j := 6 + d) dX8_ofStrip_70 rfl (by decide) (h1) (nI_add _ _) (by omega) (by decide) ?_
          rw [rs d (by omega)]
          refine P_cv1 (q := 74) dX8_ofStrip_71 rfl kX8_99 (m_lnk_false hM hX (h8 c) (h8 d)) rfl rfl (by decide) (h0) rfl ⟨by decide, by decide⟩ (Nat.le_of_ble_eq_true rfl) ⟨Nat.le_refl _, Nat.le_refl _⟩ ?_
          refine P_iadd (q := 75) dX8_ofStrip_74 rfl ?_
          refine P_iadd (q := 76) dX8_ofStrip_75 rfl ?_
          refine P_istore_n (q := 77) (L' := [_, _, _, _, _]) dX8_ofStrip_76 rfl (by decide) rfl ?_
          refine P_iinc (q := 80) (L' := [_, _, _, _, _]) (v := nI (c + 1)) dX8_ofStrip_77 rfl (by decide) rfl (nI_1 c) rfl ?_
          refine P_goto (tgt := 4) dX8_ofStrip_80 (by decide) ?_
          exact step _ _ rfl
        · have c_43 : nI d = iI (-1005) := c_43
          rw [iI_nI, iI_inj (by omega) (by omega) (by omega) (by omega)] at c_43
          omega
  refine CP_of (by decide +kernel) (Nat.le_of_ble_eq_true rfl) ?_
  change PW _ _ _ _ 0 [_, _, _, _, _] [] _ _ _ _
  refine P_iconst (q := 1) (v := nI 0) dX8_ofStrip_0 rfl (by decide +kernel) ?_
  refine P_istore_n (q := 2) (L' := [_, _, _, _, _]) dX8_ofStrip_1 rfl (by decide) rfl ?_
  refine P_iconst (q := 3) (v := nI 0) dX8_ofStrip_2 rfl (by decide +kernel) ?_
  refine P_istore_n (q := 4) (L' := [_, _, _, _, _]) dX8_ofStrip_3 rfl (by decide) rfl ?_
  exact lp A.C 0 (by omega) _
theorem sumZ_oZ {n : Nat} (o : Option Nat) (f : Nat → Nat → Int) : oZ o (fun d => sumZ n (fun r => f d r)) = sumZ n (fun r => oZ o (fun d => f d r)) := by
  cases o with
  | none => exact (sumZ_zero n).symm
  | some d => rfl
theorem s_spZ (A : St) (c r : Nat) : A.s c r = spZ (A.sp c) r := rfl
theorem dnr_nx (A : St) (r : Nat) (f : Nat → Int) : oZ (dnr A.R r) f = if r + 1 < A.R then f (r + 1) else 0 := by
  unfold dnr; split <;> rfl
theorem tot_E (A : St) : A.tot false = A.E := by
  have h : ∀ c, A.totT false c = sumZ A.R (fun r => -(A.halfP (fun c d r => A.al * (A.s c r * A.s d r)) (fun c r q => A.ac * (A.s c r * A.s c q)) c r + A.s c r * A.fd c r)) := fun c => by
    unfold St.totT St.col St.lnkO St.lnk
    rw [sumZ_oZ, ← sumZ_add]
    refine sumZ_congr fun r _ => ?_
    unfold St.halfP
    rw [dnr_nx]
    show (-A.ac * spZ (A.sp c) r * A.nx (A.sp c) r - A.fd c r * spZ (A.sp c) r) + oZ (A.nxt c) (fun d => -A.al * (spZ (A.sp c) r * spZ (A.sp d) r)) = _
    unfold St.nx
    simp only [s_spZ]
    cases A.nxt c with
    | none =>
      show _ + (0 : Int) = -((0 + _) + _)
      split <;> rcases spZ_pm (A.sp c) r with e | e <;> rw [e] <;> simp [Int.neg_mul, Int.mul_neg] <;> omega
    | some d =>
      show _ + (-A.al * (spZ (A.sp c) r * spZ (A.sp d) r)) = -((A.al * (spZ (A.sp c) r * spZ (A.sp d) r) + _) + _)
      split <;> rcases spZ_pm (A.sp c) r with e | e <;> rcases spZ_pm (A.sp d) r with e2 | e2 <;> rw [e, e2] <;> simp [Int.neg_mul, Int.mul_neg] <;> omega
  unfold St.tot St.E St.EP St.EF
  rw [sumZ_congr (fun c _ => h c), ← sumZ_add, show ∀ (n : Nat) (f : Nat → Int), -sumZ n f = sumZ n (fun i => -f i) from fun n f => by
    have := sumZ_mul n (-1) f
    rw [show (fun i => -f i) = fun i => -1 * f i from funext fun i => by omega, this]; omega]
  refine sumZ_congr fun c _ => ?_
  rw [← sumZ_add]
  have := sumZ_mul A.R (-1) (fun r => A.halfP (fun c d r => A.al * (A.s c r * A.s d r)) (fun c r q => A.ac * (A.s c r * A.s c q)) c r + A.s c r * A.fd c r)
  rw [show (fun r => -(A.halfP (fun c d r => A.al * (A.s c r * A.s d r)) (fun c r q => A.ac * (A.s c r * A.s c q)) c r + A.s c r * A.fd c r)) = fun r => -1 * (A.halfP (fun c d r => A.al * (A.s c r * A.s d r)) (fun c r q => A.ac * (A.s c r * A.s c q)) c r + A.s c r * A.fd c r) from funext fun r => by omega, this]
  omega
theorem ne_bZ (k r t q : Nat) : (if spZ k r * spZ t q < 0 then 1 else 0) = bZ (spZ k r != spZ t q) := by
  rcases spZ_pm k r with e | e <;> rcases spZ_pm t q with e2 | e2 <;> rw [e, e2] <;> decide
theorem tot_WL (A : St) : A.tot true = A.WL := by
  unfold St.tot St.WL
  refine sumZ_congr fun c _ => ?_
  unfold St.totT St.col St.lnkO St.lnk
  rw [sumZ_oZ, ← sumZ_add]
  refine sumZ_congr fun r _ => ?_
  unfold St.halfP
  rw [dnr_nx]
  simp only [s_spZ]
  have h1 : A.colT true c (A.sp c) r = if r + 1 < A.R then bZ (spZ (A.sp c) r != spZ (A.sp c) (r + 1)) else 0 := by
    show (if spZ (A.sp c) r * A.nx (A.sp c) r < 0 then 1 else 0) = _
    unfold St.nx
    split
    · exact ne_bZ _ _ _ _
    · rw [Int.mul_zero]; rfl
  have h2 : ∀ d, A.lnkT true (A.sp c) (A.sp d) r = bZ (spZ (A.sp c) r != spZ (A.sp d) r) := fun d => ne_bZ _ _ _ _
  simp only [h1, h2]
  omega
set_option maxRecDepth 100000 in
set_option maxHeartbeats 4000000 in
theorem m_energy {σ : Sto} {A : St} (hM : MO σ) (hX : XA σ A) : CD mX8_energy [.ref 114] 132 σ (some (.int (iI A.E))) σ := by
  have h := m_strip_false hM hX
  rw [tot_E] at h
  obtain ⟨L, k0, pl, n0, sp0, rc, rr, h0⟩ := id hM
  obtain ⟨hA, g, h1, r0, r1, r2, r3, r4, r5, rs, rf⟩ := id hX
  have hC := hA.1
  have hR := hA.2.1
  refine CP_of (by decide +kernel) (Nat.le_of_ble_eq_true rfl) ?_
  change PW _ _ _ _ 0 [_] [] _ _ _ _
  refine P_aload_n (q := 1) dX8_energy_0 rfl rfl ?_
  refine P_iconst (q := 2) (v := nI 0) dX8_energy_1 rfl (by decide +kernel) ?_
  refine P_cv1 (q := 5) dX8_energy_2 rfl kX8_102 (h) rfl rfl (by decide) (h0) rfl ⟨by decide, by decide⟩ (Nat.le_of_ble_eq_true rfl) ⟨Nat.le_refl _, Nat.le_refl _⟩ ?_
  refine P_iret dX8_energy_5 rfl (rfl) ?_
  exact ⟨rfl, rfl⟩
