/-! THE REFERENCE: close, pulls, fields, turns -/
set_option maxRecDepth 100000 in
set_option maxHeartbeats 4000000 in
theorem r_close {σ : Sto} {w : Cs} (hW : MW σ w) (q : Bool) : CP mX8_close 0 0 [.ref 114, .int (bI q)] 132 σ (MK σ (oClose w q)) := by
  obtain ⟨⟨pl, sp0, rc, rr, h0⟩, hX, hAR, hl, ⟨gh, h117, hH⟩, hSn, hn, gt, t131, tch⟩ := id hW
  have hM := hW.mo
  obtain ⟨hA, g, h1, hR⟩ := id hX
  have hC := hA.1
  have hRr := hA.2.1
  have r2 : g 2 = nI w.A.g := hR.2.2.1
  have hq : q.toNat ≤ 1 := by cases q <;> decide
  have hg2 := hA.2.2.1
  have go : ∀ x, x = nI q.toNat → PW mX8_close 0 0 (MK σ (oClose w q)) 9 [some (.ref 114), some (.int (bI q)), none] [.int x] 132 σ 0 0 := fun x hx => by
    subst hx
    refine P_istore_n (q := 10) (L' := [_, _, _]) dX8_close_9 rfl (by decide) rfl ?_
    refine P_aload_n (q := 11) dX8_close_10 rfl rfl ?_
    refine P_get (q := 14) dX8_close_11 rfl fX8_7 (by decide) (h0) rfl ?_
    refine P_iconst (q := 15) (v := nI 2) dX8_close_14 rfl (by decide +kernel) ?_
    refine P_iald (q := 16) (j := 2) dX8_close_15 rfl (by decide) (h1) (rfl) (by omega) (by decide) ?_
    rw [r2]
    refine P_iload_n (q := 17) dX8_close_16 rfl rfl ?_
    refine P_icmp_ne (q := 20) (tgt := 24) dX8_close_17 rfl (by decide) (fun c_17 => ?_) (fun c_17 => ?_)
    · rw [nI_eq (by omega) (by omega)] at c_17
      refine P_aload_n (q := 25) dX8_close_24 rfl rfl ?_
      obtain ⟨gk, h116⟩ := hAR 116 (by decide) (by decide)
      change σ 116 = pI .int 46 gk at h116
      refine P_cv0 (q := 28) dX8_close_25 rfl kX8_169 (m_rem hM h1 h116) rfl rfl (by decide) (h0) rfl ⟨by decide, by decide⟩ (Nat.le_of_ble_eq_true rfl) ⟨Nat.le_refl _, Nat.le_refl _⟩ ?_
      generalize hσ1 : va_up σ 116 (pI .int 46 (flC g gk 46)) = σ1
      have q0 : σ1 114 = moO w.H.length w.Sn.isSome.toNat pl w.n sp0 rc rr := by rw [← hσ1]; exact (up_ne _ _ (by omega)).trans h0
      have q1 : σ1 115 = pI .int 46 g := by rw [← hσ1]; exact (up_ne _ _ (by omega)).trans h1
      have q116 : σ1 116 = pI .int 46 (flC g gk 46) := by rw [← hσ1]; exact up_at _ _ _
      have qR := RA_flC (g := gk) hA hR
      have qs : same σ σ1 (fun i => i = 114 ∨ i = 115 ∨ i = 116 ∨ (119 ≤ i ∧ i ≤ 130)) := by rw [← hσ1]; exact same.rf.up (by omega)
      have qAR : AR σ1 := by rw [← hσ1]; exact hAR.up (a := 116)
      have qM : MO σ1 := ⟨_, _, _, _, _, _, _, q0⟩
      refine P_aload_n (q := 29) dX8_close_28 rfl rfl ?_
      refine P_get (q := 32) dX8_close_29 rfl fX8_7 (by decide) (q0) rfl ?_
      refine P_iconst (q := 33) (v := nI 2) dX8_close_32 rfl (by decide +kernel) ?_
      refine P_iload_n (q := 34) dX8_close_33 rfl rfl ?_
      refine P_iast (q := 35) (j := 2) dX8_close_34 rfl (by decide) (q1) (rfl) (by omega) (by decide) (rfl) (rfl) ?_
      have p0 := (up_ne σ1 (k := 115) (pI .int 46 (upd g 2 (nI q.toNat))) (show 114 ≠ 115 by omega)).trans q0
      have p1 := up_at σ1 115 (pI .int 46 (upd g 2 (nI q.toNat)))
      have p116 := (up_ne σ1 (k := 115) (pI .int 46 (upd g 2 (nI q.toNat))) (show 116 ≠ 115 by omega)).trans q116
      have ps := qs.up (c := pI .int 46 (upd g 2 (nI q.toNat))) (show 115 = 114 ∨ 115 = 115 ∨ 115 = 116 ∨ (119 ≤ 115 ∧ 115 ≤ 130) by omega)
      have pAR : AR (va_up σ1 115 (pI .int 46 (upd g 2 (nI q.toNat)))) := qAR.up (a := 115)
      have hB := rg_ok hA hq
      have hRB := RA_2 (q := q.toNat) hR
      refine P_aload_n (q := 36) dX8_close_35 rfl rfl ?_
      refine P_aload_n (q := 37) dX8_close_36 rfl rfl ?_
      refine P_cv1 (q := 40) dX8_close_37 rfl kX8_175 (m_energy ⟨_, _, _, _, _, _, _, p0⟩ (XA.of p1 hB hRB)) rfl rfl (by decide) (p0) rfl ⟨by decide, by decide⟩ (Nat.le_of_ble_eq_true rfl) ⟨Nat.le_refl _, Nat.le_refl _⟩ ?_
      refine P_callv (q := 43) dX8_close_40 rfl (m_acted (x := iI (w.A.rg q.toNat).E) hA p116 qR hl p0 ((ps 117 (by omega)).trans h117) hH) kX8_172 rfl rfl (by decide) (p0) rfl ⟨by decide, by decide⟩ (Nat.le_of_ble_eq_true rfl) ⟨Nat.le_refl _, Nat.le_refl _⟩ ?_
      rintro v σ3 ⟨rfl, s3, e3, g3, e117, hH3⟩
      have fin := hW.act ps p1 hB hRB pAR s3 e3 e117 hH3
      refine P_iret dX8_close_43 rfl (rfl) ?_
      unfold oClose; rw [if_neg (by omega)]; exact ⟨rfl, fin⟩
    · rw [nI_eq (by omega) (by omega)] at c_17
      refine P_sipush (q := 23) (v := iI (-1005)) dX8_close_20 rfl (by decide +kernel) ?_
      refine P_iret dX8_close_23 rfl (rfl) ?_
      unfold oClose; rw [if_pos (by omega)]; exact MK.stay hW
  refine CP_of (by decide +kernel) (Nat.le_of_ble_eq_true rfl) ?_
  change PW _ _ _ _ 0 [_, _, _] [] _ _ _ _
  refine P_iload_n (q := 1) dX8_close_0 rfl rfl ?_
  refine P_if_eq (q := 4) (tgt := 8) dX8_close_1 rfl (by decide) (fun c_1 => ?_) (fun c_1 => ?_)
  · rw [bI_0] at c_1
    refine P_iconst (q := 9) (v := nI 0) dX8_close_8 rfl (by decide +kernel) ?_
    exact go _ (by rw [c_1]; rfl)
  · rw [bI_n] at c_1
    refine P_iconst (q := 5) (v := nI 1) dX8_close_4 rfl (by decide +kernel) ?_
    refine P_goto (tgt := 9) dX8_close_5 (by decide) ?_
    exact go _ (by rw [c_1]; rfl)
set_option maxRecDepth 100000 in
set_option maxHeartbeats 4000000 in
theorem r_puts {σ : Sto} {w : Cs} (hW : MW σ w) {j : Nat} (hj : j < 46) {x y : Int32} {B : St} (hx : ∀ g, RA g w.A → g j = x) (hB : B.ok) (hB2 : ∀ g, RA g w.A → RA (upd g j y) B) : CP mX8_puts 0 0 [.ref 114, .int (nI j), .int y] 132 σ (MK σ (if x = y then (iI (-1005), w) else (x, w.to B))) := by
  obtain ⟨⟨pl, sp0, rc, rr, h0⟩, hX, hAR, hl, ⟨gh, h117, hH⟩, hSn, hn, gt, t131, tch⟩ := id hW
  have hM := hW.mo
  obtain ⟨hA, g, h1, hR⟩ := id hX
  have hC := hA.1
  have hRr := hA.2.1
  have ex := hx g hR
  refine CP_of (by decide +kernel) (Nat.le_of_ble_eq_true rfl) ?_
  change PW _ _ _ _ 0 [_, _, _, _] [] _ _ _ _
  refine P_aload_n (q := 1) dX8_puts_0 rfl rfl ?_
  refine P_get (q := 4) dX8_puts_1 rfl fX8_7 (by decide) (h0) rfl ?_
  refine P_iload_n (q := 5) dX8_puts_4 rfl rfl ?_
  refine P_iald (q := 6) (j := j) dX8_puts_5 rfl (by decide) (h1) (rfl) (by omega) (by decide) ?_
  rw [ex]
  refine P_istore_n (q := 7) (L' := [_, _, _, _]) dX8_puts_6 rfl (by decide) rfl ?_
  refine P_iload_n (q := 8) dX8_puts_7 rfl rfl ?_
  refine P_iload_n (q := 9) dX8_puts_8 rfl rfl ?_
  refine P_icmp_ne (q := 12) (tgt := 16) dX8_puts_9 rfl (by decide) (fun c_9 => ?_) (fun c_9 => ?_)
  · refine P_aload_n (q := 17) dX8_puts_16 rfl rfl ?_
    obtain ⟨gk, h116⟩ := hAR 116 (by decide) (by decide)
    change σ 116 = pI .int 46 gk at h116
    refine P_cv0 (q := 20) dX8_puts_17 rfl kX8_169 (m_rem hM h1 h116) rfl rfl (by decide) (h0) rfl ⟨by decide, by decide⟩ (Nat.le_of_ble_eq_true rfl) ⟨Nat.le_refl _, Nat.le_refl _⟩ ?_
    generalize hσ1 : va_up σ 116 (pI .int 46 (flC g gk 46)) = σ1
    have q0 : σ1 114 = moO w.H.length w.Sn.isSome.toNat pl w.n sp0 rc rr := by rw [← hσ1]; exact (up_ne _ _ (by omega)).trans h0
    have q1 : σ1 115 = pI .int 46 g := by rw [← hσ1]; exact (up_ne _ _ (by omega)).trans h1
    have q116 : σ1 116 = pI .int 46 (flC g gk 46) := by rw [← hσ1]; exact up_at _ _ _
    have qR := RA_flC (g := gk) hA hR
    have qs : same σ σ1 (fun i => i = 114 ∨ i = 115 ∨ i = 116 ∨ (119 ≤ i ∧ i ≤ 130)) := by rw [← hσ1]; exact same.rf.up (by omega)
    have qAR : AR σ1 := by rw [← hσ1]; exact hAR.up (a := 116)
    have qM : MO σ1 := ⟨_, _, _, _, _, _, _, q0⟩
    refine P_aload_n (q := 21) dX8_puts_20 rfl rfl ?_
    refine P_get (q := 24) dX8_puts_21 rfl fX8_7 (by decide) (q0) rfl ?_
    refine P_iload_n (q := 25) dX8_puts_24 rfl rfl ?_
    refine P_iload_n (q := 26) dX8_puts_25 rfl rfl ?_
    refine P_iast (q := 27) (j := j) dX8_puts_26 rfl (by decide) (q1) (rfl) (by omega) (by decide) (rfl) (rfl) ?_
    have p0 := (up_ne σ1 (k := 115) (pI .int 46 (upd g j y)) (show 114 ≠ 115 by omega)).trans q0
    have p1 := up_at σ1 115 (pI .int 46 (upd g j y))
    have p116 := (up_ne σ1 (k := 115) (pI .int 46 (upd g j y)) (show 116 ≠ 115 by omega)).trans q116
    have ps := qs.up (c := pI .int 46 (upd g j y)) (show 115 = 114 ∨ 115 = 115 ∨ 115 = 116 ∨ (119 ≤ 115 ∧ 115 ≤ 130) by omega)
    have pAR : AR (va_up σ1 115 (pI .int 46 (upd g j y))) := qAR.up (a := 115)
    have hRB := hB2 g hR
    refine P_aload_n (q := 28) dX8_puts_27 rfl rfl ?_
    refine P_iload_n (q := 29) dX8_puts_28 rfl rfl ?_
    refine P_callv (q := 32) dX8_puts_29 rfl (m_acted (x := x) hA p116 qR hl p0 ((ps 117 (by omega)).trans h117) hH) kX8_172 rfl rfl (by decide) (p0) rfl ⟨by decide, by decide⟩ (Nat.le_of_ble_eq_true rfl) ⟨Nat.le_refl _, Nat.le_refl _⟩ ?_
    rintro v σ3 ⟨rfl, s3, e3, g3, e117, hH3⟩
    have fin := hW.act ps p1 hB hRB pAR s3 e3 e117 hH3
    refine P_iret dX8_puts_32 rfl (rfl) ?_
    rw [if_neg c_9]; exact ⟨rfl, fin⟩
  · refine P_sipush (q := 15) (v := iI (-1005)) dX8_puts_12 rfl (by decide +kernel) ?_
    refine P_iret dX8_puts_15 rfl (rfl) ?_
    rw [if_pos c_9]; exact MK.stay hW
theorem RA_pl {g : Nat → Int32} {A : St} (h : RA g A) (a : Bool) (z : Int) : RA (upd g (if a then 4 else 3) (iI z)) (A.pl a z) := by
  obtain ⟨h0, h1, h2, h3, h4, h5, h6, h7⟩ := h
  cases a
  · have e : ∀ k, k ≠ 3 → upd g 3 (iI z) k = g k := fun k h => if_neg h
    exact ⟨(e 0 (by omega)).trans h0, (e 1 (by omega)).trans h1, (e 2 (by omega)).trans h2, if_pos rfl, (e 4 (by omega)).trans h4, (e 5 (by omega)).trans h5, fun c hc => (e _ (by omega)).trans (h6 c hc), fun c r hc hr => (e _ (by omega)).trans (h7 c r hc hr)⟩
  · have e : ∀ k, k ≠ 4 → upd g 4 (iI z) k = g k := fun k h => if_neg h
    exact ⟨(e 0 (by omega)).trans h0, (e 1 (by omega)).trans h1, (e 2 (by omega)).trans h2, (e 3 (by omega)).trans h3, if_pos rfl, (e 5 (by omega)).trans h5, fun c hc => (e _ (by omega)).trans (h6 c hc), fun c r hc hr => (e _ (by omega)).trans (h7 c r hc hr)⟩
theorem RA_pf {g : Nat → Int32} {A : St} (hA : A.ok) (h : RA g A) {c r : Nat} (hr : r < A.R) (z : Int) : RA (upd g (16 + (3 * c + r)) (iI z)) (A.pf c r z) := by
  obtain ⟨h0, h1, h2, h3, h4, h5, h6, h7⟩ := h
  have hR := hA.2.1.2
  have e : ∀ k, k < 16 → upd g (16 + (3 * c + r)) (iI z) k = g k := fun k h => if_neg (by omega)
  refine ⟨(e 0 (by omega)).trans h0, (e 1 (by omega)).trans h1, (e 2 (by omega)).trans h2, (e 3 (by omega)).trans h3, (e 4 (by omega)).trans h4, (e 5 (by omega)).trans h5, fun c hc => (e _ (by omega)).trans (h6 c hc), fun i j hi hj => ?_⟩
  have hj' : j < A.R := hj
  show upd g (16 + (3 * c + r)) (iI z) (16 + (3 * i + j)) = iI (if i = c ∧ j = r then z else A.fd i j)
  unfold upd
  by_cases e : i = c ∧ j = r
  · rw [if_pos (by omega), if_pos e]
  · rw [if_neg (by omega), if_neg e]; exact h7 i j hi hj
theorem puts_if {w : Cs} {z v : Int} {B : St} (z1 : -1000 ≤ z) (z2 : z ≤ 1000) (v1 : -1000 ≤ v) (v2 : v ≤ 1000) : (if iI v = iI z then ((iI (-1005), w) : Int32 × Cs) else (iI v, w.to B)) = if z = v then (iI (-1005), w) else (iI v, w.to B) := by
  by_cases e : z = v
  · rw [if_pos e, if_pos (by rw [e])]
  · rw [if_neg e, if_neg (fun q => e ((iI_inj (by omega) (by omega) (by omega) (by omega)).mp q).symm)]
theorem MK.cg {σ : Sto} {o o' : Int32 × Cs} (e : o = o') {v : Option Value} {τ : Sto} (h : MK σ o v τ) : MK σ o' v τ := e ▸ h
set_option maxRecDepth 100000 in
set_option maxHeartbeats 4000000 in
theorem r_pull {σ : Sto} {w : Cs} (hW : MW σ w) (a : Bool) {z : Int} (z1 : -2147483648 ≤ z) (z2 : z < 2147483648) : CP mX8_setPull 0 0 [.ref 114, .int (bI a), .int (iI z)] 132 σ (MK σ (oPull w a z)) := by
  obtain ⟨⟨pl, sp0, rc, rr, h0⟩, hX, hAR, hl, ⟨gh, h117, hH⟩, hSn, hn, gt, t131, tch⟩ := id hW
  have hM := hW.mo
  obtain ⟨hA, g, h1, hR⟩ := id hX
  have hC := hA.1
  have hRr := hA.2.1
  have i1 := fun (σ : Sto) => m_in (n0 := 132) (σ := σ) (v := z) (a := -2) (b := 2) (by omega) (by omega) (by omega) (by omega) (by omega) (by omega)
  have hp1 := hA.2.2.2.1
  have hp2 := hA.2.2.2.2.1
  have go : -2 ≤ z ∧ z ≤ 2 → ∀ j, j = (if a then 4 else 3) → PW mX8_setPull 0 0 (MK σ (oPull w a z)) 24 [some (.ref 114), some (.int (bI a)), some (.int (iI z))] [.int (nI j), .ref 114] 132 σ 0 0 := fun hz j hj => by
    have hx : ∀ g, RA g w.A → g j = iI (w.A.pv a) := fun g hg => by
      subst hj
      cases a
      · exact hg.2.2.2.1
      · exact hg.2.2.2.2.1
    have hpv : -2 ≤ w.A.pv a ∧ w.A.pv a ≤ 2 := by cases a <;> assumption
    have hp := r_puts hW (j := j) (by subst hj; cases a <;> decide) hx (pl_ok hA (a := a) hz.1 hz.2) (fun g hg => by subst hj; exact RA_pl hg a z)
    refine P_iload_n (q := 25) dX8_setPull_24 rfl rfl ?_
    refine P_callv (q := 28) dX8_setPull_25 rfl (hp) kX8_182 rfl rfl (by decide) (h0) rfl ⟨by decide, by decide⟩ (Nat.le_of_ble_eq_true rfl) ⟨Nat.le_refl _, Nat.le_refl _⟩ ?_
    rintro v σ2 hv
    have hv := hv.cg (o' := oPull w a z) (by unfold oPull; rw [if_pos hz]; exact puts_if (by omega) (by omega) (by omega) (by omega))
    obtain ⟨rfl, hv2⟩ := hv
    refine P_goto (tgt := 34) dX8_setPull_28 (by decide) ?_
    refine P_iret dX8_setPull_34 rfl (rfl) ?_
    exact ⟨rfl, hv2⟩
  refine CP_of (by decide +kernel) (Nat.le_of_ble_eq_true rfl) ?_
  change PW _ _ _ _ 0 [_, _, _] [] _ _ _ _
  refine P_iload_n (q := 1) dX8_setPull_0 rfl rfl ?_
  refine P_i2l (q := 2) dX8_setPull_1 rfl ?_
  rw [i2l_I z1 z2]
  refine P_ldc2 (q := 5) dX8_setPull_2 rfl qX8_178 ?_
  refine P_ldc2 (q := 8) dX8_setPull_5 rfl qX8_180 ?_
  refine P_cs1 (q := 11) dX8_setPull_8 rfl kX8_73 (i1 _) rfl rfl ⟨by decide, by decide⟩ (Nat.le_of_ble_eq_true rfl) ⟨Nat.le_refl _, Nat.le_refl _⟩ ?_
  refine P_if_eq (q := 14) (tgt := 31) dX8_setPull_11 rfl (by decide) (fun c_11 => ?_) (fun c_11 => ?_)
  · rw [bI_0] at c_11
    have c_11 := of_decide_eq_false c_11
    refine P_sipush (q := 34) (v := iI (-1002)) dX8_setPull_31 rfl (by decide +kernel) ?_
    refine P_iret dX8_setPull_34 rfl (rfl) ?_
    unfold oPull; rw [if_neg c_11]; exact MK.stay hW
  · rw [bI_n] at c_11
    have c_11 := of_decide_eq_true c_11
    refine P_aload_n (q := 15) dX8_setPull_14 rfl rfl ?_
    refine P_iload_n (q := 16) dX8_setPull_15 rfl rfl ?_
    refine P_if_eq (q := 19) (tgt := 23) dX8_setPull_16 rfl (by decide) (fun c_16 => ?_) (fun c_16 => ?_)
    · rw [bI_0] at c_16
      refine P_iconst (q := 24) (v := nI 3) dX8_setPull_23 rfl (by decide +kernel) ?_
      exact go c_11 _ (by rw [c_16]; rfl)
    · rw [bI_n] at c_16
      refine P_iconst (q := 20) (v := nI 4) dX8_setPull_19 rfl (by decide +kernel) ?_
      refine P_goto (tgt := 24) dX8_setPull_20 (by decide) ?_
      exact go c_11 _ (by rw [c_16]; rfl)
set_option maxRecDepth 100000 in
set_option maxHeartbeats 4000000 in
theorem r_field {σ : Sto} {w : Cs} (hW : MW σ w) {r0 : Int} (r01 : -2147483648 ≤ r0) (r02 : r0 < 2147483648) {c0 : Int} (c01 : -2147483648 ≤ c0) (c02 : c0 < 2147483648) {z : Int} (z1 : -2147483648 ≤ z) (z2 : z < 2147483648) : CP mX8_setField 0 0 [.ref 114, .int (iI r0), .int (iI c0), .int (iI z)] 132 σ (MK σ (oField w r0 c0 z)) := by
  obtain ⟨⟨pl, sp0, rc, rr, h0⟩, hX, hAR, hl, ⟨gh, h117, hH⟩, hSn, hn, gt, t131, tch⟩ := id hW
  have hM := hW.mo
  obtain ⟨hA, g, h1, hR⟩ := id hX
  have hC := hA.1
  have hRr := hA.2.1
  have i1 := fun (σ : Sto) => m_in (n0 := 132) (σ := σ) (v := z) (a := -3) (b := 3) (by omega) (by omega) (by omega) (by omega) (by omega) (by omega)
  have ir := m_isRow hM hX r01 r02
  have ic := m_isColumn hM hX c01 c02
  have no : ¬ (0 ≤ r0 ∧ r0 < w.A.R ∧ 0 ≤ c0 ∧ c0 < w.A.C) → MK σ (oField w r0 c0 z) (some (.int (iI (-1001)))) σ := fun h => by
    unfold oField
    rw [if_neg (show ¬ w.A.inB r0 c0 = true from fun q => h (of_decide_eq_true q))]
    exact MK.stay hW
  refine CP_of (by decide +kernel) (Nat.le_of_ble_eq_true rfl) ?_
  change PW _ _ _ _ 0 [_, _, _, _] [] _ _ _ _
  refine P_aload_n (q := 1) dX8_setField_0 rfl rfl ?_
  refine P_iload_n (q := 2) dX8_setField_1 rfl rfl ?_
  refine P_cv1 (q := 5) dX8_setField_2 rfl kX8_109 (ir) rfl rfl (by decide) (h0) rfl ⟨by decide, by decide⟩ (Nat.le_of_ble_eq_true rfl) ⟨Nat.le_refl _, Nat.le_refl _⟩ ?_
  refine P_if_eq (q := 8) (tgt := 16) dX8_setField_5 rfl (by decide) (fun c_5 => ?_) (fun c_5 => ?_)
  · rw [bI_0] at c_5
    have c_5 := of_decide_eq_false c_5
    refine P_sipush (q := 19) (v := iI (-1001)) dX8_setField_16 rfl (by decide +kernel) ?_
    refine P_iret dX8_setField_19 rfl (rfl) ?_
    first | exact no (by omega) | (unfold oField; rw [if_pos hin, if_neg c_31]; exact MK.stay hW)
  · rw [bI_n] at c_5
    have c_5 := of_decide_eq_true c_5
    refine P_aload_n (q := 9) dX8_setField_8 rfl rfl ?_
    refine P_iload_n (q := 10) dX8_setField_9 rfl rfl ?_
    refine P_cv1 (q := 13) dX8_setField_10 rfl kX8_81 (ic) rfl rfl (by decide) (h0) rfl ⟨by decide, by decide⟩ (Nat.le_of_ble_eq_true rfl) ⟨Nat.le_refl _, Nat.le_refl _⟩ ?_
    refine P_if_ne (q := 16) (tgt := 20) dX8_setField_13 rfl (by decide) (fun c_13 => ?_) (fun c_13 => ?_)
    · rw [bI_n] at c_13
      have c_13 := of_decide_eq_true c_13
      have hin : w.A.inB r0 c0 = true := decide_eq_true (by omega)
      obtain ⟨r, c, rfl, rfl, hr, hc⟩ := inB_n hin
      have hfd := hA.2.2.2.2.2.2.2 c r
      rw [← iI_nI, ← iI_nI]
      refine P_iload_n (q := 21) dX8_setField_20 rfl rfl ?_
      refine P_i2l (q := 22) dX8_setField_21 rfl ?_
      rw [i2l_I z1 z2]
      refine P_ldc2 (q := 25) dX8_setField_22 rfl qX8_185 ?_
      refine P_ldc2 (q := 28) dX8_setField_25 rfl qX8_167 ?_
      refine P_cs1 (q := 31) dX8_setField_28 rfl kX8_73 (i1 _) rfl rfl ⟨by decide, by decide⟩ (Nat.le_of_ble_eq_true rfl) ⟨Nat.le_refl _, Nat.le_refl _⟩ ?_
      refine P_if_eq (q := 34) (tgt := 50) dX8_setField_31 rfl (by decide) (fun c_31 => ?_) (fun c_31 => ?_)
      · rw [bI_0] at c_31
        have c_31 := of_decide_eq_false c_31
        refine P_sipush (q := 53) (v := iI (-1002)) dX8_setField_50 rfl (by decide +kernel) ?_
        refine P_iret dX8_setField_53 rfl (rfl) ?_
        first | exact no (by omega) | (unfold oField; rw [if_pos hin, if_neg c_31]; exact MK.stay hW)
      · rw [bI_n] at c_31
        have c_31 := of_decide_eq_true c_31
        refine P_aload_n (q := 35) dX8_setField_34 rfl rfl ?_
        refine P_bipush (q := 37) (v := nI 16) dX8_setField_35 rfl (by decide +kernel) ?_
        refine P_iconst (q := 38) (v := nI 3) dX8_setField_37 rfl (by decide +kernel) ?_
        refine P_iload_n (q := 39) dX8_setField_38 rfl rfl ?_
        refine P_imul (q := 40) dX8_setField_39 rfl ?_
        refine P_iadd (q := 41) dX8_setField_40 rfl ?_
        refine P_iload_n (q := 42) dX8_setField_41 rfl rfl ?_
        refine P_iadd (q := 43) dX8_setField_42 rfl ?_
        rw [show nI 16 + nI 3 * nI c + nI r = nI (16 + (3 * c + r)) from by rw [pk_mul, nI_add, nI_add, Nat.add_assoc]]
        refine P_iload_n (q := 44) dX8_setField_43 rfl rfl ?_
        have hp := r_puts hW (j := 16 + (3 * c + r)) (y := iI z) (by omega) (fun g hg => hg.2.2.2.2.2.2.2 c r hc hr) (pf_ok hA (c := c) (r := r) c_31.1 c_31.2) (fun g hg => RA_pf hA hg hr z)
        refine P_callv (q := 47) dX8_setField_44 rfl (hp) kX8_182 rfl rfl (by decide) (h0) rfl ⟨by decide, by decide⟩ (Nat.le_of_ble_eq_true rfl) ⟨Nat.le_refl _, Nat.le_refl _⟩ ?_
        rintro v σ2 hv
        have hv := hv.cg (o' := oField w r c z) (by unfold oField; rw [if_pos hin, if_pos c_31]; simp only [Int.toNat_natCast]; exact puts_if (by omega) (by omega) (by omega) (by omega))
        obtain ⟨rfl, hv2⟩ := hv
        refine P_goto (tgt := 53) dX8_setField_47 (by decide) ?_
        refine P_iret dX8_setField_53 rfl (rfl) ?_
        exact ⟨rfl, hv2⟩
    · rw [bI_0] at c_13
      have c_13 := of_decide_eq_false c_13
      refine P_sipush (q := 19) (v := iI (-1001)) dX8_setField_16 rfl (by decide +kernel) ?_
      refine P_iret dX8_setField_19 rfl (rfl) ?_
      first | exact no (by omega) | (unfold oField; rw [if_pos hin, if_neg c_31]; exact MK.stay hW)
