/-! THE REFERENCE: settle -/
def sameB (f g : Nat → Nat) : Nat → Bool
  | 0 => true
  | n + 1 => sameB f g n && decide (f n = g n)
theorem sameB_iff (f g : Nat → Nat) : ∀ n, sameB f g n = true ↔ ∀ k, k < n → f k = g k
  | 0 => ⟨fun _ k h => by omega, fun _ => rfl⟩
  | n + 1 => by
    rw [sameB, Bool.and_eq_true_iff, sameB_iff f g n, decide_eq_true_iff]
    constructor
    · rintro ⟨h1, h2⟩ k hk
      by_cases e : k = n
      · rw [e]; exact h2
      · exact h1 k (by omega)
    · intro h
      exact ⟨fun k hk => h k (by omega), h n (by omega)⟩
theorem RA_su {g : Nat → Int32} {A : St} (h : RA g A.su) (e : ∀ k, k < 10 → A.su.sp k = A.sp k) : RA g A := by
  obtain ⟨h0, h1, h2, h3, h4, h5, h6, h7⟩ := h
  exact ⟨h0, h1, h2, h3, h4, h5, fun c hc => by rw [h6 c hc, e c hc], h7⟩
set_option maxRecDepth 100000 in
set_option maxHeartbeats 4000000 in
theorem r_settle {σ : Sto} {w : Cs} (hW : MW σ w) : CP mX8_settle 0 0 [.ref 114] 132 σ (MK σ (oSettle w)) := by
  obtain ⟨⟨pl, sp0, rc, rr, h0⟩, hX, hAR, hl, ⟨gh, h117, hH⟩, hSn, hn, gt, t131, tch⟩ := id hW
  have hM := hW.mo
  obtain ⟨hA, g, h1, hR⟩ := id hX
  have hC := hA.1
  have hRr := hA.2.1
  refine CP_of (by decide +kernel) (Nat.le_of_ble_eq_true rfl) ?_
  change PW _ _ _ _ 0 [_, _, _, _] [] _ _ _ _
  refine P_aload_n (q := 1) dX8_settle_0 rfl rfl ?_
  obtain ⟨gk, h116⟩ := hAR 116 (by decide) (by decide)
  change σ 116 = pI .int 46 gk at h116
  refine P_cv0 (q := 4) dX8_settle_1 rfl kX8_169 (m_rem hM h1 h116) rfl rfl (by decide) (h0) rfl ⟨by decide, by decide⟩ (Nat.le_of_ble_eq_true rfl) ⟨Nat.le_refl _, Nat.le_refl _⟩ ?_
  generalize hσ1 : va_up σ 116 (pI .int 46 (flC g gk 46)) = σ1
  have q0 : σ1 114 = moO w.H.length w.Sn.isSome.toNat pl w.n sp0 rc rr := by rw [← hσ1]; exact (up_ne _ _ (by omega)).trans h0
  have q1 : σ1 115 = pI .int 46 g := by rw [← hσ1]; exact (up_ne _ _ (by omega)).trans h1
  have q116 : σ1 116 = pI .int 46 (flC g gk 46) := by rw [← hσ1]; exact up_at _ _ _
  have qR := RA_flC (g := gk) hA hR
  have qs : same σ σ1 (fun i => i = 114 ∨ i = 115 ∨ i = 116 ∨ (119 ≤ i ∧ i ≤ 130)) := by rw [← hσ1]; exact same.rf.up (by omega)
  have qAR : AR σ1 := by rw [← hσ1]; exact hAR.up (a := 116)
  have qM : MO σ1 := ⟨_, _, _, _, _, _, _, q0⟩
  have y128 : ∃ g : Nat → Int32, σ1 128 = pI .int 80 g := qAR 128 (by decide) (by decide)
  have hle := m_le qM (XA.of q1 hA hR) qAR.e4 (qAR 126 (by decide) (by decide)) (qAR 127 (by decide) (by decide))
  refine P_aload_n (q := 5) dX8_settle_4 rfl rfl ?_
  refine P_callv (q := 8) dX8_settle_5 rfl (hle) kX8_198 rfl rfl (by decide) (q0) rfl ⟨by decide, by decide⟩ (Nat.le_of_ble_eq_true rfl) ⟨Nat.le_refl _, Nat.le_refl _⟩ ?_
  rintro v σ2 ⟨rfl, t2, u4, hU⟩
  have e0 := (t2 114 (by omega)).trans q0
  have e1 := (t2 115 (by omega)).trans q1
  have e116 := (t2 116 (by omega)).trans q116
  have hM2 : MO σ2 := ⟨_, _, _, _, _, _, _, e0⟩
  obtain ⟨gr, r128⟩ := y128
  have hse := m_settles hM2 (XA.of e1 hA hR) ⟨gr, (t2 128 (by omega)).trans r128⟩
  have qAR2 := AR_u qAR t2 u4 hU.ex.1 hU.ex.2
  refine P_istore_n (q := 9) (L' := [_, _, _, _]) dX8_settle_8 rfl (by decide) rfl ?_
  refine P_aload_n (q := 10) dX8_settle_9 rfl rfl ?_
  refine P_iload_n (q := 11) dX8_settle_10 rfl rfl ?_
  refine P_callv (q := 14) dX8_settle_11 rfl (hse) kX8_201 rfl rfl (by decide) (e0) rfl ⟨by decide, by decide⟩ (Nat.le_of_ble_eq_true rfl) ⟨Nat.le_refl _, Nat.le_refl _⟩ ?_
  rintro v σ3 ⟨rfl, t3, z128, g3, p1, hRB⟩
  have p0 := (t3 114 (by omega)).trans e0
  have p116 := (t3 116 (by omega)).trans e116
  have ps : same σ σ3 (fun i => i = 114 ∨ i = 115 ∨ i = 116 ∨ (119 ≤ i ∧ i ≤ 130)) := qs.trans ((t2.mono (fun i h => by omega)).trans (t3.mono (fun i h => by omega)))
  have hB := su_ok hA
  have pAR : AR σ3 := fun k a b => by
    by_cases e : k = 115
    · subst e; exact ⟨g3, p1⟩
    · by_cases e2 : k = 128
      · subst e2; exact z128
      · obtain ⟨q, hq⟩ := qAR2 k a b
        exact ⟨q, (t3 k (by omega)).trans hq⟩
  have lp : ∀ n c, c + n = 10 → PW mX8_settle 0 0 (MK σ (oSettle w)) 18 [some (.ref 114), some (.int (iI w.A.Es)), some (.int (bI (sameB w.A.su.sp w.A.sp c))), some (.int (nI c))] [] 132 σ3 0 0 := by
    intro n
    induction n with
    | zero =>
      intro c hc
      have e : c = 10 := by omega
      subst e
      refine P_iload_n (q := 19) dX8_settle_18 rfl rfl ?_
      refine P_bipush (q := 21) (v := nI 10) dX8_settle_19 rfl (by decide +kernel) ?_
      refine P_icmp_ge (q := 24) (tgt := 61) dX8_settle_21 rfl (by decide) (fun c_21 => ?_) (fun c_21 => ?_)
      · rw [nI_leI (by omega) (by omega)] at c_21
        refine P_iload_n (q := 62) dX8_settle_61 rfl rfl ?_
        refine P_if_eq (q := 65) (tgt := 71) dX8_settle_62 rfl (by decide) (fun c_62 => ?_) (fun c_62 => ?_)
        · rw [bI_0] at c_62
          refine P_aload_n (q := 72) dX8_settle_71 rfl rfl ?_
          refine P_iload_n (q := 73) dX8_settle_72 rfl rfl ?_
          refine P_callv (q := 76) dX8_settle_73 rfl (m_acted (x := iI w.A.Es) hA p116 qR hl p0 ((ps 117 (by omega)).trans h117) hH) kX8_172 rfl rfl (by decide) (p0) rfl ⟨by decide, by decide⟩ (Nat.le_of_ble_eq_true rfl) ⟨Nat.le_refl _, Nat.le_refl _⟩ ?_
          rintro v σ3 ⟨rfl, s3, e3, g3, e117, hH3⟩
          have fin := hW.act ps p1 hB hRB pAR s3 e3 e117 hH3
          refine P_iret dX8_settle_76 rfl (rfl) ?_
          have eo : oSettle w = (iI w.A.Es, w.to w.A.su) := by
            unfold oSettle
            rw [if_neg, su_E hA]
            intro hq
            rw [(sameB_iff _ _ _).mpr ((U_inj hB hA).mp hq)] at c_62
            cases c_62
          rw [eo]
          exact ⟨rfl, fin⟩
        · rw [bI_n] at c_62
          have hsm := (sameB_iff _ _ _).mp c_62
          refine P_sipush (q := 68) (v := iI (-1005)) dX8_settle_65 rfl (by decide +kernel) ?_
          refine P_goto (tgt := 76) dX8_settle_68 (by decide) ?_
          refine P_iret dX8_settle_76 rfl (rfl) ?_
          have eo : oSettle w = (iI (-1005), w) := by
            unfold oSettle
            rw [if_pos ((U_inj hB hA).mpr hsm)]
          rw [eo]
          exact ⟨rfl, ⟨⟨pl, sp0, rc, rr, p0⟩, XA.of p1 hA (RA_su hRB hsm), pAR, hl, ⟨gh, (ps 117 (by omega)).trans h117, hH⟩, fun C hC2 => by
            obtain ⟨hC1, q, hq, hq2⟩ := hSn C hC2
            exact ⟨hC1, q, (ps 118 (by omega)).trans hq, hq2⟩, hn, gt, (ps 131 (by omega)).trans t131, tch⟩, fun k hk => ps k (by omega)⟩
      · exfalso; rw [nI_leI (by omega) (by omega)] at c_21; omega
    | succ n ih =>
      intro c hc
      have e1 : g3 (6 + c) = nI (w.A.su.sp c) := hRB.2.2.2.2.2.2.1 c (by omega)
      have e2 : flC g gk 46 (6 + c) = nI (w.A.sp c) := qR.2.2.2.2.2.2.1 c (by omega)
      have b1 := St.sp16 hB c
      have b2 := St.sp16 hA c
      have go : ∀ x, x = sameB w.A.su.sp w.A.sp (c + 1) → PW mX8_settle 0 0 (MK σ (oSettle w)) 54 [some (.ref 114), some (.int (iI w.A.Es)), some (.int (bI (sameB w.A.su.sp w.A.sp c))), some (.int (nI c))] [.int (bI x)] 132 σ3 0 0 := fun x hx => by
        subst hx
        refine P_istore_n (q := 55) (L' := [_, _, _, _]) dX8_settle_54 rfl (by decide) rfl ?_
        refine P_iinc (q := 58) (L' := [_, _, _, _]) (v := nI (c + 1)) dX8_settle_55 rfl (by decide) rfl (nI_1 c) rfl ?_
        refine P_goto (tgt := 18) dX8_settle_58 (by decide) ?_
        exact ih (c + 1) (by omega)
      refine P_iload_n (q := 19) dX8_settle_18 rfl rfl ?_
      refine P_bipush (q := 21) (v := nI 10) dX8_settle_19 rfl (by decide +kernel) ?_
      refine P_icmp_ge (q := 24) (tgt := 61) dX8_settle_21 rfl (by decide) (fun c_21 => ?_) (fun c_21 => ?_)
      · exfalso; rw [nI_leI (by omega) (by omega)] at c_21; omega
      · rw [nI_leI (by omega) (by omega)] at c_21
        refine P_iload_n (q := 25) dX8_settle_24 rfl rfl ?_
        refine P_if_eq (q := 28) (tgt := 53) dX8_settle_25 rfl (by decide) (fun c_25 => ?_) (fun c_25 => ?_)
        · rw [bI_0] at c_25
          refine P_iconst (q := 54) (v := (bI false)) dX8_settle_53 rfl (by decide +kernel) ?_
          first
            | exact go true (by rw [sameB, c_25, Bool.true_and]; exact (decide_eq_true c_46).symm)
            | exact go false (by rw [sameB, c_25, Bool.true_and]; exact (decide_eq_false c_46).symm)
            | exact go false (by rw [sameB, c_25]; rfl)
        · rw [bI_n] at c_25
          refine P_aload_n (q := 29) dX8_settle_28 rfl rfl ?_
          refine P_get (q := 32) dX8_settle_29 rfl fX8_7 (by decide) (p0) rfl ?_
          refine P_bipush (q := 34) (v := nI 6) dX8_settle_32 rfl (by decide +kernel) ?_
          refine P_iload_n (q := 35) dX8_settle_34 rfl rfl ?_
          refine P_iadd (q := 36) dX8_settle_35 rfl ?_
          refine P_iald (q := 37) (j := 6 + c) dX8_settle_36 rfl (by decide) (p1) (nI_add _ _) (by omega) (by decide) ?_
          rw [e1]
          refine P_aload_n (q := 38) dX8_settle_37 rfl rfl ?_
          refine P_get (q := 41) dX8_settle_38 rfl fX8_13 (by decide) (p0) rfl ?_
          refine P_bipush (q := 43) (v := nI 6) dX8_settle_41 rfl (by decide +kernel) ?_
          refine P_iload_n (q := 44) dX8_settle_43 rfl rfl ?_
          refine P_iadd (q := 45) dX8_settle_44 rfl ?_
          refine P_iald (q := 46) (j := 6 + c) dX8_settle_45 rfl (by decide) (p116) (nI_add _ _) (by omega) (by decide) ?_
          rw [e2]
          refine P_icmp_ne (q := 49) (tgt := 53) dX8_settle_46 rfl (by decide) (fun c_46 => ?_) (fun c_46 => ?_)
          · rw [nI_eq (by omega) (by omega)] at c_46
            refine P_iconst (q := 54) (v := (bI false)) dX8_settle_53 rfl (by decide +kernel) ?_
            first
              | exact go true (by rw [sameB, c_25, Bool.true_and]; exact (decide_eq_true c_46).symm)
              | exact go false (by rw [sameB, c_25, Bool.true_and]; exact (decide_eq_false c_46).symm)
              | exact go false (by rw [sameB, c_25]; rfl)
          · rw [nI_eq (by omega) (by omega)] at c_46
            refine P_iconst (q := 50) (v := (bI true)) dX8_settle_49 rfl (by decide +kernel) ?_
            refine P_goto (tgt := 54) dX8_settle_50 (by decide) ?_
            first
              | exact go true (by rw [sameB, c_25, Bool.true_and]; exact (decide_eq_true c_46).symm)
              | exact go false (by rw [sameB, c_25, Bool.true_and]; exact (decide_eq_false c_46).symm)
              | exact go false (by rw [sameB, c_25]; rfl)
  refine P_iconst (q := 15) (v := (bI true)) dX8_settle_14 rfl (by decide +kernel) ?_
  refine P_istore_n (q := 16) (L' := [_, _, _, _]) dX8_settle_15 rfl (by decide) rfl ?_
  refine P_iconst (q := 17) (v := nI 0) dX8_settle_16 rfl (by decide +kernel) ?_
  refine P_istore_n (q := 18) (L' := [_, _, _, _]) dX8_settle_17 rfl (by decide) rfl ?_
  exact lp 10 0 (by omega)
