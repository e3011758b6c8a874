/-! THE REFERENCE: turns, keeping, texts -/
theorem nI_xor (a b : Nat) : nI a ^^^ nI b = nI (a ^^^ b) := by
  apply Int32.toBitVec_inj.mp
  show BitVec.ofNat 32 a ^^^ BitVec.ofNat 32 b = BitVec.ofNat 32 (a ^^^ b)
  apply BitVec.eq_of_getLsbD_eq
  intro i hi
  simp [BitVec.getLsbD_ofNat, Nat.testBit_xor, hi]
def tnV (g : Nat → Int32) (A : St) (c r : Nat) : Nat → Int32 := upd (upd g (6 + c) (nI (A.sp c ^^^ 2 ^ r))) 5 (A.tu + nI 1)
theorem dig_pow {c r k : Nat} (hr : r < 4) : 2 ^ (4 * c + r) / 16 ^ k % 16 = if k = c then 2 ^ r else 0 := by
  refine Nat.eq_of_testBit_eq fun i => ?_
  rw [dig_bit, Nat.testBit_two_pow]
  by_cases e : k = c
  · subst e
    rw [if_pos rfl, Nat.testBit_two_pow]
    by_cases hi : i < 4
    · rw [decide_eq_true hi, Bool.true_and]; apply decide_eq_decide.mpr; omega
    · rw [decide_eq_false hi, Bool.false_and, decide_eq_false (by omega)]
  · rw [if_neg e, Nat.zero_testBit]
    by_cases hi : i < 4
    · rw [decide_eq_true hi, Bool.true_and, decide_eq_false (by omega)]
    · rw [decide_eq_false hi, Bool.false_and]
theorem RA_tn {g : Nat → Int32} {A : St} (hA : A.ok) (h : RA g A) {c r : Nat} (hc : c < 10) (hr : r < 3) : RA (tnV g A c r) (A.flip (2 ^ (4 * c + r))) := by
  obtain ⟨h0, h1, h2, h3, h4, h5, h6, h7⟩ := h
  have e : ∀ k, k ≠ 5 → k ≠ 6 + c → tnV g A c r k = g k := fun k a b => by
    unfold tnV upd
    rw [if_neg a, if_neg b]
  refine ⟨(e 0 (by omega) (by omega)).trans h0, (e 1 (by omega) (by omega)).trans h1, (e 2 (by omega) (by omega)).trans h2, (e 3 (by omega) (by omega)).trans h3, (e 4 (by omega) (by omega)).trans h4, ?_, fun k hk => ?_, fun i j hi hj => (e _ (by omega) (by omega)).trans (h7 i j hi hj)⟩
  · show tnV g A c r 5 = A.tu + nI (pcN 64 (2 ^ (4 * c + r)))
    rw [pcN_pow (by omega)]
    unfold tnV upd
    rw [if_pos rfl]
  · show tnV g A c r (6 + k) = nI (A.sp k ^^^ (2 ^ (4 * c + r) / 16 ^ k % 16))
    rw [dig_pow (by omega)]
    by_cases ek : k = c
    · subst ek
      rw [if_pos rfl]
      unfold tnV upd
      rw [if_neg (by omega), if_pos rfl]
    · rw [if_neg ek, Nat.xor_zero, e _ (by omega) (by omega)]
      exact h6 k hk
set_option maxRecDepth 100000 in
set_option maxHeartbeats 4000000 in
theorem m_turns {σ : Sto} {A : St} {g : Nat → Int32} (hM : MO σ) (h1 : σ 115 = pI .int 46 g) (hR : RA g A) {r c : Nat} (hr : r < 3) (hc : c < 10) : CD mX8_turns [.ref 114, .int (nI r), .int (nI c)] 132 σ none (va_up σ 115 (pI .int 46 (tnV g A c r))) := by
  obtain ⟨L, k0, pl, n0, sp0, rc, rr, h0⟩ := hM
  have rs := hR.2.2.2.2.2.2.1 c hc
  have r5 := hR.2.2.2.2.2.1
  refine CP_of (by decide +kernel) (Nat.le_of_ble_eq_true rfl) ?_
  change PW _ _ _ _ 0 [_, _, _] [] _ _ _ _
  refine P_aload_n (q := 1) dX8_turns_0 rfl rfl ?_
  refine P_get (q := 4) dX8_turns_1 rfl fX8_7 (by decide) (h0) rfl ?_
  refine P_bipush (q := 6) (v := nI 6) dX8_turns_4 rfl (by decide +kernel) ?_
  refine P_iload_n (q := 7) dX8_turns_6 rfl rfl ?_
  refine P_iadd (q := 8) dX8_turns_7 rfl ?_
  rw [show nI 6 + nI c = nI (6 + c) from nI_add _ _]
  refine P_dup2 (q := 9) dX8_turns_8 rfl rfl rfl ?_
  refine P_iald (q := 10) (j := 6 + c) dX8_turns_9 rfl (by decide) (h1) (rfl) (by omega) (by decide) ?_
  rw [rs]
  refine P_iconst (q := 11) (v := nI 1) dX8_turns_10 rfl (by decide +kernel) ?_
  refine P_iload_n (q := 12) dX8_turns_11 rfl rfl ?_
  refine P_ishl (q := 13) dX8_turns_12 rfl ?_
  rw [sh1 (show r ≤ 3 by omega)]
  refine P_ixor (q := 14) dX8_turns_13 rfl ?_
  rw [nI_xor]
  refine P_iast (q := 15) (j := 6 + c) dX8_turns_14 rfl (by decide) (h1) (rfl) (by omega) (by decide) (rfl) (rfl) ?_
  refine P_aload_n (q := 16) dX8_turns_15 rfl rfl ?_
  refine P_get (q := 19) dX8_turns_16 rfl fX8_7 (by decide) ((up_ne _ _ (by omega)).trans h0) rfl ?_
  refine P_iconst (q := 20) (v := nI 5) dX8_turns_19 rfl (by decide +kernel) ?_
  refine P_dup2 (q := 21) dX8_turns_20 rfl rfl rfl ?_
  refine P_iald (q := 22) (j := 5) dX8_turns_21 rfl (by decide) (up_at _ _ _) (rfl) (by omega) (by decide) ?_
  rw [show upd g (6 + c) (nI (A.sp c ^^^ 2 ^ r)) 5 = A.tu from (if_neg (by omega)).trans r5]
  refine P_iconst (q := 23) (v := nI 1) dX8_turns_22 rfl (by decide +kernel) ?_
  refine P_iadd (q := 24) dX8_turns_23 rfl ?_
  refine P_iast (q := 25) (j := 5) (σ' := va_up σ 115 (pI .int 46 (tnV g A c r))) dX8_turns_24 rfl (by decide) (up_at _ _ _) (rfl) (by omega) (by decide) (rfl) (up_up _ _ _ _) ?_
  refine P_vret dX8_turns_25 rfl ?_
  exact ⟨rfl, rfl⟩
set_option maxRecDepth 100000 in
set_option maxHeartbeats 4000000 in
theorem r_turn {σ : Sto} {w : Cs} (hW : MW σ w) {r0 : Int} (r01 : -2147483648 ≤ r0) (r02 : r0 < 2147483648) {c0 : Int} (c01 : -2147483648 ≤ c0) (c02 : c0 < 2147483648) : CP mX8_turn 0 0 [.ref 114, .int (iI r0), .int (iI c0)] 132 σ (MK σ (oTurn w r0 c0)) := by
  obtain ⟨⟨pl, sp0, rc, rr, h0⟩, hX, hAR, hl, ⟨gh, h117, hH⟩, hSn, hn, gt, t131, tch⟩ := id hW
  have hM := hW.mo
  obtain ⟨hA, g, h1, hR⟩ := id hX
  have hC := hA.1
  have hRr := hA.2.1
  have ir := m_isRow hM hX r01 r02
  have ic := m_isColumn hM hX c01 c02
  have no : ¬ (0 ≤ r0 ∧ r0 < w.A.R ∧ 0 ≤ c0 ∧ c0 < w.A.C) → MK σ (oTurn w r0 c0) (some (.int (iI (-1001)))) σ := fun h => by
    unfold oTurn
    rw [if_neg (show ¬ w.A.inB r0 c0 = true from fun q => h (of_decide_eq_true q))]
    exact MK.stay hW
  refine CP_of (by decide +kernel) (Nat.le_of_ble_eq_true rfl) ?_
  change PW _ _ _ _ 0 [_, _, _] [] _ _ _ _
  refine P_aload_n (q := 1) dX8_turn_0 rfl rfl ?_
  refine P_iload_n (q := 2) dX8_turn_1 rfl rfl ?_
  refine P_cv1 (q := 5) dX8_turn_2 rfl kX8_109 (ir) rfl rfl (by decide) (h0) rfl ⟨by decide, by decide⟩ (Nat.le_of_ble_eq_true rfl) ⟨Nat.le_refl _, Nat.le_refl _⟩ ?_
  refine P_if_eq (q := 8) (tgt := 16) dX8_turn_5 rfl (by decide) (fun c_5 => ?_) (fun c_5 => ?_)
  · rw [bI_0] at c_5
    have c_5 := of_decide_eq_false c_5
    refine P_sipush (q := 19) (v := iI (-1001)) dX8_turn_16 rfl (by decide +kernel) ?_
    refine P_iret dX8_turn_19 rfl (rfl) ?_
    exact no (by omega)
  · rw [bI_n] at c_5
    have c_5 := of_decide_eq_true c_5
    refine P_aload_n (q := 9) dX8_turn_8 rfl rfl ?_
    refine P_iload_n (q := 10) dX8_turn_9 rfl rfl ?_
    refine P_cv1 (q := 13) dX8_turn_10 rfl kX8_81 (ic) rfl rfl (by decide) (h0) rfl ⟨by decide, by decide⟩ (Nat.le_of_ble_eq_true rfl) ⟨Nat.le_refl _, Nat.le_refl _⟩ ?_
    refine P_if_ne (q := 16) (tgt := 20) dX8_turn_13 rfl (by decide) (fun c_13 => ?_) (fun c_13 => ?_)
    · rw [bI_n] at c_13
      have c_13 := of_decide_eq_true c_13
      have hin : w.A.inB r0 c0 = true := decide_eq_true (by omega)
      obtain ⟨r, c, rfl, rfl, hr, hc⟩ := inB_n hin
      rw [← iI_nI, ← iI_nI]
      refine P_aload_n (q := 21) dX8_turn_20 rfl rfl ?_
      obtain ⟨gk, h116⟩ := hAR 116 (by decide) (by decide)
      change σ 116 = pI .int 46 gk at h116
      refine P_cv0 (q := 24) dX8_turn_21 rfl kX8_169 (m_rem hM h1 h116) rfl rfl (by decide) (h0) rfl ⟨by decide, by decide⟩ (Nat.le_of_ble_eq_true rfl) ⟨Nat.le_refl _, Nat.le_refl _⟩ ?_
      generalize hσ1 : va_up σ 116 (pI .int 46 (flC g gk 46)) = σ1
      have q0 : σ1 114 = moO w.H.length w.Sn.isSome.toNat pl w.n sp0 rc rr := by rw [← hσ1]; exact (up_ne _ _ (by omega)).trans h0
      have q1 : σ1 115 = pI .int 46 g := by rw [← hσ1]; exact (up_ne _ _ (by omega)).trans h1
      have q116 : σ1 116 = pI .int 46 (flC g gk 46) := by rw [← hσ1]; exact up_at _ _ _
      have qR := RA_flC (g := gk) hA hR
      have qs : same σ σ1 (fun i => i = 114 ∨ i = 115 ∨ i = 116 ∨ (119 ≤ i ∧ i ≤ 130)) := by rw [← hσ1]; exact same.rf.up (by omega)
      have qAR : AR σ1 := by rw [← hσ1]; exact hAR.up (a := 116)
      have qM : MO σ1 := ⟨_, _, _, _, _, _, _, q0⟩
      refine P_aload_n (q := 25) dX8_turn_24 rfl rfl ?_
      refine P_iload_n (q := 26) dX8_turn_25 rfl rfl ?_
      refine P_iload_n (q := 27) dX8_turn_26 rfl rfl ?_
      refine P_cv0 (q := 30) dX8_turn_27 rfl kX8_187 (m_turns qM q1 hR (show r < 3 by omega) (show c < 10 by omega)) rfl rfl (by decide) (q0) rfl ⟨by decide, by decide⟩ (Nat.le_of_ble_eq_true rfl) ⟨Nat.le_refl _, Nat.le_refl _⟩ ?_
      have p0 := (up_ne σ1 (k := 115) (pI .int 46 (tnV g w.A c r)) (show 114 ≠ 115 by omega)).trans q0
      have p1 := up_at σ1 115 (pI .int 46 (tnV g w.A c r))
      have p116 := (up_ne σ1 (k := 115) (pI .int 46 (tnV g w.A c r)) (show 116 ≠ 115 by omega)).trans q116
      have ps := qs.up (c := pI .int 46 (tnV g w.A c r)) (show 115 = 114 ∨ 115 = 115 ∨ 115 = 116 ∨ (119 ≤ 115 ∧ 115 ≤ 130) by omega)
      have pAR : AR (va_up σ1 115 (pI .int 46 (tnV g w.A c r))) := qAR.up (a := 115)
      have hB : (w.A.flip (2 ^ (4 * c + r))).ok := St.flip_ok hA (one_sub hA hc hr)
      have hRB := RA_tn hA hR (c := c) (r := r) (by omega) (by omega)
      refine P_aload_n (q := 31) dX8_turn_30 rfl rfl ?_
      refine P_aload_n (q := 32) dX8_turn_31 rfl rfl ?_
      refine P_cv1 (q := 35) dX8_turn_32 rfl kX8_175 (m_energy ⟨_, _, _, _, _, _, _, p0⟩ (XA.of p1 hB hRB)) rfl rfl (by decide) (p0) rfl ⟨by decide, by decide⟩ (Nat.le_of_ble_eq_true rfl) ⟨Nat.le_refl _, Nat.le_refl _⟩ ?_
      refine P_callv (q := 38) dX8_turn_35 rfl (m_acted (x := iI (w.A.flip (2 ^ (4 * c + r))).E) hA p116 qR hl p0 ((ps 117 (by omega)).trans h117) hH) kX8_172 rfl rfl (by decide) (p0) rfl ⟨by decide, by decide⟩ (Nat.le_of_ble_eq_true rfl) ⟨Nat.le_refl _, Nat.le_refl _⟩ ?_
      rintro v σ3 ⟨rfl, s3, e3, g3, e117, hH3⟩
      have fin := hW.act ps p1 hB hRB pAR s3 e3 e117 hH3
      refine P_iret dX8_turn_38 rfl (rfl) ?_
      unfold oTurn; rw [if_pos hin]; exact ⟨rfl, fin⟩
    · rw [bI_0] at c_13
      have c_13 := of_decide_eq_false c_13
      refine P_sipush (q := 19) (v := iI (-1001)) dX8_turn_16 rfl (by decide +kernel) ?_
      refine P_iret dX8_turn_19 rfl (rfl) ?_
      exact no (by omega)
set_option maxRecDepth 100000 in
set_option maxHeartbeats 4000000 in
theorem r_keep {σ : Sto} {w : Cs} (hW : MW σ w) : CP mX8_keep 0 0 [.ref 114] 132 σ (MK σ (oKeep w)) := by
  obtain ⟨⟨pl, sp0, rc, rr, h0⟩, hX, hAR, hl, ⟨gh, h117, hH⟩, hSn, hn, gt, t131, tch⟩ := id hW
  have hM := hW.mo
  obtain ⟨hA, g, h1, hR⟩ := id hX
  have hC := hA.1
  have hRr := hA.2.1
  obtain ⟨gs, h118⟩ := hAR 118 (by decide) (by decide)
  change σ 118 = pI .int 46 gs at h118
  have ne : ∀ (c1 c2 : PC) k, k ≠ 114 → k ≠ 118 → va_up (va_up σ 118 c1) 114 c2 k = σ k := fun c1 c2 k a b => (up_ne _ _ a).trans (up_ne _ _ b)
  refine CP_of (by decide +kernel) (Nat.le_of_ble_eq_true rfl) ?_
  change PW _ _ _ _ 0 [_] [] _ _ _ _
  refine P_aload_n (q := 1) dX8_keep_0 rfl rfl ?_
  refine P_get (q := 4) dX8_keep_1 rfl fX8_7 (by decide) (h0) rfl ?_
  refine P_aload_n (q := 5) dX8_keep_4 rfl rfl ?_
  refine P_get (q := 8) dX8_keep_5 rfl fX8_19 (by decide) (h0) rfl ?_
  refine P_cs0 (q := 11) dX8_keep_8 rfl kX8_65 (m_copy (by decide) (by decide) (by decide) h1 h118) rfl rfl ⟨by decide, by decide⟩ (Nat.le_of_ble_eq_true rfl) ⟨Nat.le_refl _, Nat.le_refl _⟩ ?_
  refine P_aload_n (q := 12) dX8_keep_11 rfl rfl ?_
  refine P_iconst (q := 13) (v := nI 1) dX8_keep_12 rfl (by decide +kernel) ?_
  refine P_put (q := 16) (fs' := [_, _, _, _, _, _, _, _, _, _, _, _, _, _, _, _, _, _, _, _, _, _, _, _]) (σ' := va_up (va_up σ 118 (pI .int 46 (flC g gs 46))) 114 (moO w.H.length 1 pl w.n sp0 rc rr)) dX8_keep_13 rfl gX8_225 (by decide) ((up_ne _ _ (by omega)).trans h0) (fun _ => rfl) (fun _ => rfl) (Nat.le_of_ble_eq_true rfl) rfl (rfl) ?_
  refine P_aload_n (q := 17) dX8_keep_16 rfl rfl ?_
  refine P_cv1 (q := 20) dX8_keep_17 rfl kX8_175 (m_energy ⟨_, _, _, _, _, _, _, up_at _ _ _⟩ (XA.of ((ne _ _ 115 (by omega) (by omega)).trans h1) hA hR)) rfl rfl (by decide) (up_at _ _ _) rfl ⟨by decide, by decide⟩ (Nat.le_of_ble_eq_true rfl) ⟨Nat.le_refl _, Nat.le_refl _⟩ ?_
  refine P_iret dX8_keep_20 rfl (rfl) ?_
  refine ⟨rfl, ⟨⟨pl, sp0, rc, rr, up_at _ _ _⟩, XA.of ((ne _ _ 115 (by omega) (by omega)).trans h1) hA hR, (hAR.up (a := 118)).upO, hl, ⟨gh, (ne _ _ 117 (by omega) (by omega)).trans h117, hH⟩, fun B hB => ?_, hn, gt, (ne _ _ 131 (by omega) (by omega)).trans t131, tch⟩, fun k hk => ne _ _ k (by omega) (by omega)⟩
  have hB : w.A = B := Option.some.inj hB
  subst hB
  exact ⟨hA, _, (up_ne _ _ (by omega)).trans (up_at _ _ _), RA_flC hA hR⟩
set_option maxRecDepth 100000 in
set_option maxHeartbeats 4000000 in
theorem r_back {σ : Sto} {w : Cs} (hW : MW σ w) : CP mX8_restore 0 0 [.ref 114] 132 σ (MK σ (oBack w)) := by
  obtain ⟨⟨pl, sp0, rc, rr, h0⟩, hX, hAR, hl, ⟨gh, h117, hH⟩, hSn, hn, gt, t131, tch⟩ := id hW
  have hM := hW.mo
  obtain ⟨hA, g, h1, hR⟩ := id hX
  have hC := hA.1
  have hRr := hA.2.1
  cases hs : w.Sn with
  | none =>
    rw [hs] at h0
    refine CP_of (by decide +kernel) (Nat.le_of_ble_eq_true rfl) ?_
    change PW _ _ _ _ 0 [_] [] _ _ _ _
    refine P_aload_n (q := 1) dX8_restore_0 rfl rfl ?_
    refine P_get (q := 4) dX8_restore_1 rfl fX8_225 (by decide) (h0) rfl ?_
    refine P_if_ne (q := 7) (tgt := 11) dX8_restore_4 rfl (by decide) (fun c_4 => ?_) (fun c_4 => ?_)
    · exact absurd rfl c_4
    · refine P_sipush (q := 10) (v := iI (-1005)) dX8_restore_7 rfl (by decide +kernel) ?_
      refine P_iret dX8_restore_10 rfl (rfl) ?_
      rw [show oBack w = (iI (-1005), w) from by unfold oBack; rw [hs]]; exact MK.stay hW
  | some B =>
    obtain ⟨hB, gB, h118, hRB0⟩ := hSn B hs
    have h0' := h0
    rw [hs] at h0'
    refine CP_of (by decide +kernel) (Nat.le_of_ble_eq_true rfl) ?_
    change PW _ _ _ _ 0 [_] [] _ _ _ _
    refine P_aload_n (q := 1) dX8_restore_0 rfl rfl ?_
    refine P_get (q := 4) dX8_restore_1 rfl fX8_225 (by decide) (h0') rfl ?_
    refine P_if_ne (q := 7) (tgt := 11) dX8_restore_4 rfl (by decide) (fun c_4 => ?_) (fun c_4 => ?_)
    · refine P_aload_n (q := 12) dX8_restore_11 rfl rfl ?_
      obtain ⟨gk, h116⟩ := hAR 116 (by decide) (by decide)
      change σ 116 = pI .int 46 gk at h116
      refine P_cv0 (q := 15) dX8_restore_12 rfl kX8_169 (m_rem hM h1 h116) rfl rfl (by decide) (h0) rfl ⟨by decide, by decide⟩ (Nat.le_of_ble_eq_true rfl) ⟨Nat.le_refl _, Nat.le_refl _⟩ ?_
      generalize hσ1 : va_up σ 116 (pI .int 46 (flC g gk 46)) = σ1
      have q0 : σ1 114 = moO w.H.length w.Sn.isSome.toNat pl w.n sp0 rc rr := by rw [← hσ1]; exact (up_ne _ _ (by omega)).trans h0
      have q1 : σ1 115 = pI .int 46 g := by rw [← hσ1]; exact (up_ne _ _ (by omega)).trans h1
      have q116 : σ1 116 = pI .int 46 (flC g gk 46) := by rw [← hσ1]; exact up_at _ _ _
      have qR := RA_flC (g := gk) hA hR
      have qs : same σ σ1 (fun i => i = 114 ∨ i = 115 ∨ i = 116 ∨ (119 ≤ i ∧ i ≤ 130)) := by rw [← hσ1]; exact same.rf.up (by omega)
      have qAR : AR σ1 := by rw [← hσ1]; exact hAR.up (a := 116)
      have qM : MO σ1 := ⟨_, _, _, _, _, _, _, q0⟩
      refine P_aload_n (q := 16) dX8_restore_15 rfl rfl ?_
      refine P_get (q := 19) dX8_restore_16 rfl fX8_19 (by decide) (q0) rfl ?_
      refine P_aload_n (q := 20) dX8_restore_19 rfl rfl ?_
      refine P_get (q := 23) dX8_restore_20 rfl fX8_7 (by decide) (q0) rfl ?_
      refine P_cs0 (q := 26) dX8_restore_23 rfl kX8_65 (m_copy (by decide) (by decide) (by decide) ((qs 118 (by omega)).trans h118) q1) rfl rfl ⟨by decide, by decide⟩ (Nat.le_of_ble_eq_true rfl) ⟨Nat.le_refl _, Nat.le_refl _⟩ ?_
      have p0 := (up_ne σ1 (k := 115) (pI .int 46 (flC gB g 46)) (show 114 ≠ 115 by omega)).trans q0
      have p1 := up_at σ1 115 (pI .int 46 (flC gB g 46))
      have p116 := (up_ne σ1 (k := 115) (pI .int 46 (flC gB g 46)) (show 116 ≠ 115 by omega)).trans q116
      have ps := qs.up (c := pI .int 46 (flC gB g 46)) (show 115 = 114 ∨ 115 = 115 ∨ 115 = 116 ∨ (119 ≤ 115 ∧ 115 ≤ 130) by omega)
      have pAR : AR (va_up σ1 115 (pI .int 46 (flC gB g 46))) := qAR.up (a := 115)
      have hRB := RA_flC (g := g) hB hRB0
      refine P_aload_n (q := 27) dX8_restore_26 rfl rfl ?_
      refine P_aload_n (q := 28) dX8_restore_27 rfl rfl ?_
      refine P_cv1 (q := 31) dX8_restore_28 rfl kX8_175 (m_energy ⟨_, _, _, _, _, _, _, p0⟩ (XA.of p1 hB hRB)) rfl rfl (by decide) (p0) rfl ⟨by decide, by decide⟩ (Nat.le_of_ble_eq_true rfl) ⟨Nat.le_refl _, Nat.le_refl _⟩ ?_
      refine P_callv (q := 34) dX8_restore_31 rfl (m_acted (x := iI B.E) hA p116 qR hl p0 ((ps 117 (by omega)).trans h117) hH) kX8_172 rfl rfl (by decide) (p0) rfl ⟨by decide, by decide⟩ (Nat.le_of_ble_eq_true rfl) ⟨Nat.le_refl _, Nat.le_refl _⟩ ?_
      rintro v σ3 ⟨rfl, s3, e3, g3, e117, hH3⟩
      have fin := hW.act ps p1 hB hRB pAR s3 e3 e117 hH3
      refine P_iret dX8_restore_34 rfl (rfl) ?_
      rw [show oBack w = (iI B.E, w.to B) from by unfold oBack; rw [hs]]; exact ⟨rfl, fin⟩
    · exact absurd (show nI 1 = 0 from c_4) (by decide)
