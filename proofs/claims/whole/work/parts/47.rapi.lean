/-! THE REFERENCE: lay, close, turn, .. -/
theorem MW.act {σ σ2 σ' : Sto} {w : Cs} (hW : MW σ w) {g' g3 : Nat → Int32} {B : St} {pl sp rc rr : Int32} (hs : same σ σ2 (fun i => i = 114 ∨ i = 115 ∨ i = 116 ∨ (119 ≤ i ∧ i ≤ 130))) (h115 : σ2 115 = pI .int 46 g') (hB : B.ok) (hRB : RA g' B) (hAR : AR σ2) (s' : same σ2 σ' (fun i => i = 114 ∨ i = 117)) (e114 : σ' 114 = moO (rec4 w.A w.H).length w.Sn.isSome.toNat pl w.n sp rc rr) (e117 : σ' 117 = pI .int 184 g3) (hH : XH g3 (rec4 w.A w.H)) : MW σ' (w.to B) ∧ same σ σ' (fun i => 114 ≤ i) := by
  obtain ⟨-, -, -, -, -, hSn, hn, tg, t1, t2⟩ := hW
  have al : ∀ k, 114 < k → k ≠ 117 → k < 119 ∨ 130 < k → k ≠ 115 → k ≠ 116 → σ' k = σ k := fun k a b c d e => (s' k (by omega)).trans (hs k (by omega))
  refine ⟨⟨⟨pl, sp, rc, rr, e114⟩, ⟨hB, g', (s' 115 (by omega)).trans h115, hRB⟩, fun k a b => ?_, rec4_4', ⟨g3, e117, hH⟩, fun C hC => ?_, hn, tg, (al 131 (by omega) (by omega) (by omega) (by omega) (by omega)).trans t1, t2⟩, fun k hk => (s' k (by omega)).trans (hs k (by omega))⟩
  · by_cases e : k = 117
    · subst e; exact ⟨g3, e117⟩
    · obtain ⟨q, hq⟩ := hAR k a b
      exact ⟨q, (s' k (by omega)).trans hq⟩
  · obtain ⟨hC1, q, hq, hq2⟩ := hSn C hC
    exact ⟨hC1, q, (al 118 (by omega) (by omega) (by omega) (by omega) (by omega)).trans hq, hq2⟩
theorem XA.of {σ : Sto} {g : Nat → Int32} {A : St} (h : σ 115 = pI .int 46 g) (hA : A.ok) (hR : RA g A) : XA σ A := ⟨hA, g, h, hR⟩
theorem RA_2 {g : Nat → Int32} {A : St} {q : Nat} (h : RA g A) : RA (upd g 2 (nI q)) (A.rg q) := by
  obtain ⟨h0, h1, h2, h3, h4, h5, h6, h7⟩ := h
  have e : ∀ k, k ≠ 2 → upd g 2 (nI q) k = g k := fun k h => if_neg h
  exact ⟨(e 0 (by omega)).trans h0, (e 1 (by omega)).trans h1, if_pos rfl, (e 3 (by omega)).trans h3, (e 4 (by omega)).trans h4, (e 5 (by omega)).trans h5, fun c hc => (e _ (by omega)).trans (h6 c hc), fun c r hc hr => (e _ (by omega)).trans (h7 c r hc hr)⟩
set_option maxRecDepth 100000 in
set_option maxHeartbeats 4000000 in
theorem r_lay {σ : Sto} {w : Cs} (hW : MW σ w) {c : Int} (c1 : -2147483648 ≤ c) (c2 : c < 2147483648) {r : Int} (r1 : -2147483648 ≤ r) (r2 : r < 2147483648) (q : Bool) : CP mX8_lay 0 0 [.ref 114, .int (iI c), .int (iI r), .int (bI q)] 132 σ (MK σ (oLay w c r q)) := by
  obtain ⟨⟨pl, sp0, rc, rr, h0⟩, hX, hAR, hl, ⟨gh, h117, hH⟩, hSn, hn, gt, t131, tch⟩ := id hW
  have hM := hW.mo
  obtain ⟨hA, g, h1, hR⟩ := id hX
  have hC := hA.1
  have hRr := hA.2.1
  have i1 := fun (σ : Sto) => m_in (n0 := 132) (σ := σ) (v := c) (a := 1) (b := 10) (by omega) (by omega) (by omega) (by omega) (by omega) (by omega)
  have i2 := fun (σ : Sto) => m_in (n0 := 132) (σ := σ) (v := r) (a := 1) (b := 3) (by omega) (by omega) (by omega) (by omega) (by omega) (by omega)
  have no : ¬ (1 ≤ c ∧ c ≤ 10 ∧ 1 ≤ r ∧ r ≤ 3) → MK σ (oLay w c r q) (some (.int (iI (-1002)))) σ := fun h => by
    unfold oLay
    rw [if_neg h]
    exact MK.stay hW
  refine CP_of (by decide +kernel) (Nat.le_of_ble_eq_true rfl) ?_
  change PW _ _ _ _ 0 [_, _, _, _] [] _ _ _ _
  refine P_iload_n (q := 1) dX8_lay_0 rfl rfl ?_
  refine P_i2l (q := 2) dX8_lay_1 rfl ?_
  rw [i2l_I c1 c2]
  refine P_lconst (q := 3) (v := lN 1) dX8_lay_2 rfl (by decide +kernel) ?_
  refine P_ldc2 (q := 6) dX8_lay_3 rfl qX8_165 ?_
  refine P_cs1 (q := 9) dX8_lay_6 rfl kX8_73 (i1 _) rfl rfl ⟨by decide, by decide⟩ (Nat.le_of_ble_eq_true rfl) ⟨Nat.le_refl _, Nat.le_refl _⟩ ?_
  refine P_if_eq (q := 12) (tgt := 24) dX8_lay_9 rfl (by decide) (fun c_9 => ?_) (fun c_9 => ?_)
  · rw [bI_0] at c_9
    have c_9 := of_decide_eq_false c_9
    refine P_sipush (q := 27) (v := iI (-1002)) dX8_lay_24 rfl (by decide +kernel) ?_
    refine P_iret dX8_lay_27 rfl (rfl) ?_
    exact no (by omega)
  · rw [bI_n] at c_9
    have c_9 := of_decide_eq_true c_9
    refine P_iload_n (q := 13) dX8_lay_12 rfl rfl ?_
    refine P_i2l (q := 14) dX8_lay_13 rfl ?_
    rw [i2l_I r1 r2]
    refine P_lconst (q := 15) (v := lN 1) dX8_lay_14 rfl (by decide +kernel) ?_
    refine P_ldc2 (q := 18) dX8_lay_15 rfl qX8_167 ?_
    refine P_cs1 (q := 21) dX8_lay_18 rfl kX8_73 (i2 _) rfl rfl ⟨by decide, by decide⟩ (Nat.le_of_ble_eq_true rfl) ⟨Nat.le_refl _, Nat.le_refl _⟩ ?_
    refine P_if_ne (q := 24) (tgt := 28) dX8_lay_21 rfl (by decide) (fun c_21 => ?_) (fun c_21 => ?_)
    · rw [bI_n] at c_21
      have c_21 := of_decide_eq_true c_21
      refine P_aload_n (q := 29) dX8_lay_28 rfl rfl ?_
      obtain ⟨a, rfl⟩ : ∃ a : Nat, c = a := ⟨c.toNat, by omega⟩
      obtain ⟨b, rfl⟩ : ∃ b : Nat, r = b := ⟨r.toNat, by omega⟩
      rw [← iI_nI, ← iI_nI]
      obtain ⟨gk, h116⟩ := hAR 116 (by decide) (by decide)
      change σ 116 = pI .int 46 gk at h116
      refine P_cv0 (q := 32) dX8_lay_29 rfl kX8_169 (m_rem hM h1 h116) rfl rfl (by decide) (h0) rfl ⟨by decide, by decide⟩ (Nat.le_of_ble_eq_true rfl) ⟨Nat.le_refl _, Nat.le_refl _⟩ ?_
      generalize hσ1 : va_up σ 116 (pI .int 46 (flC g gk 46)) = σ1
      have q0 : σ1 114 = moO w.H.length w.Sn.isSome.toNat pl w.n sp0 rc rr := by rw [← hσ1]; exact (up_ne _ _ (by omega)).trans h0
      have q1 : σ1 115 = pI .int 46 g := by rw [← hσ1]; exact (up_ne _ _ (by omega)).trans h1
      have q116 : σ1 116 = pI .int 46 (flC g gk 46) := by rw [← hσ1]; exact up_at _ _ _
      have qR := RA_flC (g := gk) hA hR
      have qs : same σ σ1 (fun i => i = 114 ∨ i = 115 ∨ i = 116 ∨ (119 ≤ i ∧ i ≤ 130)) := by rw [← hσ1]; exact same.rf.up (by omega)
      have qAR : AR σ1 := by rw [← hσ1]; exact hAR.up (a := 116)
      have qM : MO σ1 := ⟨_, _, _, _, _, _, _, q0⟩
      have go : ∀ x, x = nI q.toNat → PW mX8_lay 0 0 (MK σ (oLay w a b q)) 46 [some (.ref 114), some (.int (nI a)), some (.int (nI b)), some (.int (bI q))] [.int x, .int (nI 2), .ref 115] 132 σ1 0 0 := fun x hx => by
        subst hx
        refine P_iast (q := 47) (j := 2) dX8_lay_46 rfl (by decide) (q1) (rfl) (by omega) (by decide) (rfl) (rfl) ?_
        refine P_aload_n (q := 48) dX8_lay_47 rfl rfl ?_
        refine P_iload_n (q := 49) dX8_lay_48 rfl rfl ?_
        refine P_iload_n (q := 50) dX8_lay_49 rfl rfl ?_
        refine P_cv0 (q := 53) dX8_lay_50 rfl kX8_61 (m_lays (g := upd g 2 (nI q.toNat)) ⟨_, _, _, _, _, _, _, (up_ne _ _ (by omega)).trans q0⟩ (up_at _ _ _) (c := a) (r := b) (by omega) (by omega)) rfl rfl (by decide) ((up_ne _ _ (by omega)).trans q0) rfl ⟨by decide, by decide⟩ (Nat.le_of_ble_eq_true rfl) ⟨Nat.le_refl _, Nat.le_refl _⟩ ?_
        rw [up_up]
        have p0 := (up_ne σ1 (k := 115) (pI .int 46 (ly2 (upd g 2 (nI q.toNat)) a b 30)) (show 114 ≠ 115 by omega)).trans q0
        have p1 := up_at σ1 115 (pI .int 46 (ly2 (upd g 2 (nI q.toNat)) a b 30))
        have p116 := (up_ne σ1 (k := 115) (pI .int 46 (ly2 (upd g 2 (nI q.toNat)) a b 30)) (show 116 ≠ 115 by omega)).trans q116
        have ps := qs.up (c := pI .int 46 (ly2 (upd g 2 (nI q.toNat)) a b 30)) (show 115 = 114 ∨ 115 = 115 ∨ 115 = 116 ∨ (119 ≤ 115 ∧ 115 ≤ 130) by omega)
        have pAR : AR (va_up σ1 115 (pI .int 46 (ly2 (upd g 2 (nI q.toNat)) a b 30))) := qAR.up (a := 115)
        have hB := lay_ok hA (c := a) (r := b) (g := q.toNat) (by omega) (by omega) (by omega) (by omega) (by cases q <;> decide)
        have hRB : RA (ly2 (upd g 2 (nI q.toNat)) a b 30) (w.A.lay a b q.toNat) := RA_ly (A := w.A.rg q.toNat) (RA_2 hR) (by omega) (by omega) rfl
        refine P_aload_n (q := 54) dX8_lay_53 rfl rfl ?_
        refine P_aload_n (q := 55) dX8_lay_54 rfl rfl ?_
        refine P_cv1 (q := 58) dX8_lay_55 rfl kX8_159 (m_cells ⟨_, _, _, _, _, _, _, p0⟩ (XA.of p1 hB hRB)) rfl rfl (by decide) (p0) rfl ⟨by decide, by decide⟩ (Nat.le_of_ble_eq_true rfl) ⟨Nat.le_refl _, Nat.le_refl _⟩ ?_
        refine P_callv (q := 61) dX8_lay_58 rfl (m_acted (x := nI (a * b)) hA p116 qR hl p0 ((ps 117 (by omega)).trans h117) hH) kX8_172 rfl rfl (by decide) (p0) rfl ⟨by decide, by decide⟩ (Nat.le_of_ble_eq_true rfl) ⟨Nat.le_refl _, Nat.le_refl _⟩ ?_
        rintro v σ3 ⟨rfl, s3, e3, g3, e117, hH3⟩
        have fin := hW.act ps p1 hB hRB pAR s3 e3 e117 hH3
        refine P_iret dX8_lay_61 rfl (rfl) ?_
        unfold oLay; rw [if_pos (by omega)]; exact ⟨rfl, fin⟩
      refine P_aload_n (q := 33) dX8_lay_32 rfl rfl ?_
      refine P_get (q := 36) dX8_lay_33 rfl fX8_7 (by decide) (q0) rfl ?_
      refine P_iconst (q := 37) (v := nI 2) dX8_lay_36 rfl (by decide +kernel) ?_
      refine P_iload_n (q := 38) dX8_lay_37 rfl rfl ?_
      refine P_if_eq (q := 41) (tgt := 45) dX8_lay_38 rfl (by decide) (fun c_38 => ?_) (fun c_38 => ?_)
      · rw [bI_0] at c_38
        refine P_iconst (q := 46) (v := nI 0) dX8_lay_45 rfl (by decide +kernel) ?_
        exact go _ (by rw [c_38]; rfl)
      · rw [bI_n] at c_38
        refine P_iconst (q := 42) (v := nI 1) dX8_lay_41 rfl (by decide +kernel) ?_
        refine P_goto (tgt := 46) dX8_lay_42 (by decide) ?_
        exact go _ (by rw [c_38]; rfl)
    · rw [bI_0] at c_21
      have c_21 := of_decide_eq_false c_21
      refine P_sipush (q := 27) (v := iI (-1002)) dX8_lay_24 rfl (by decide +kernel) ?_
      refine P_iret dX8_lay_27 rfl (rfl) ?_
      exact no (by omega)
