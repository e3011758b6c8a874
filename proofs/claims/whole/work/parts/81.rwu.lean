/-! THE REFERENCE: withUps -/
theorem AR_u {σ τ : Sto} (hAR : AR σ) (s : same σ τ (fun i => 122 ≤ i ∧ i ≤ 127)) (h4 : E4 τ) (h126 : ∃ g : Nat → Int32, τ 126 = pI .int 31 g) (h127 : ∃ g : Nat → Int32, τ 127 = pI .int 31 g) : AR τ := fun k h1 h2 => by
  obtain ⟨a, b, c, d⟩ := h4
  by_cases e : 122 ≤ k ∧ k ≤ 127
  · rcases (show k = 122 ∨ k = 123 ∨ k = 124 ∨ k = 125 ∨ k = 126 ∨ k = 127 by omega) with e | e | e | e | e | e <;> subst e
    · exact a
    · exact b
    · exact c
    · exact d
    · exact h126
    · exact h127
  · obtain ⟨g, a⟩ := hAR k h1 h2
    exact ⟨g, (s k e).trans a⟩
theorem U1.ex {σ : Sto} {F : Nat → Int → Nat} (h : U1 σ F) : (∃ g : Nat → Int32, σ 126 = pI .int 31 g) ∧ ∃ g : Nat → Int32, σ 127 = pI .int 31 g := by
  obtain ⟨g, h, h1, h2, h3⟩ := h
  exact ⟨⟨g, h1⟩, ⟨h, h2⟩⟩
theorem MW.ups {σ τ : Sto} {w : Cs} (hW : MW σ w) (s : same σ τ (fun i => 122 ≤ i ∧ i ≤ 127)) (h4 : E4 τ) {F : Nat → Int → Nat} (hU : U1 τ F) : MW τ w := by
  obtain ⟨⟨pl, sp, rc, rr, h0⟩, -, hAR, -⟩ := id hW
  exact hW.ss (s.mono (fun i h => by omega)) ((s 114 (by omega)).trans h0) (AR_u hAR s h4 hU.ex.1 hU.ex.2)
theorem mu_out {A : St} (hA : A.ok) {u : Nat} (h : A.C * A.R < u) : (A.md false).mu u = 0 := by
  rw [← CU_mu hA]; exact CU_u hA h
set_option maxRecDepth 100000 in
set_option maxHeartbeats 4000000 in
theorem r_wu {σ : Sto} {w : Cs} (hW : MW σ w) {z : Int} (z1 : -2147483648 ≤ z) (z2 : z < 2147483648) (l : Bool) : CP mX8_withUps 0 0 [.ref 114, .int (iI z), .int (bI l)] 132 σ (MK σ (oWU w z l)) := by
  obtain ⟨⟨pl, sp0, rc, rr, h0⟩, hX, hAR, hl, ⟨gh, h117, hH⟩, hSn, hn, gt, t131, tch⟩ := id hW
  have hM := hW.mo
  obtain ⟨hA, g, h1, hR⟩ := id hX
  have hC := hA.1
  have hRr := hA.2.1
  have hCR : w.A.C * w.A.R ≤ 30 := Nat.mul_le_mul hC.2 hRr.2
  have i1 := fun (σ : Sto) => m_in (n0 := 132) (σ := σ) (v := z) (a := 0) (b := (w.A.C * w.A.R : Nat)) (by omega) (by omega) (by omega) (by omega) (by omega) (by omega)
  have hcs := m_cells hM hX
  have x126 : ∃ g : Nat → Int32, σ 126 = pI .int 31 g := hAR 126 (by decide) (by decide)
  have x127 : ∃ g : Nat → Int32, σ 127 = pI .int 31 g := hAR 127 (by decide) (by decide)
  have no : ¬ (0 ≤ z ∧ z ≤ (w.A.C * w.A.R : Nat)) → oWU w z l = (nI 0, w) := fun h => by
    unfold oWU
    cases l
    · rw [if_neg (by decide), if_neg (by rw [← Int.natCast_mul]; exact h)]; rfl
    · rw [if_pos rfl]
      by_cases h2 : 0 ≤ z ∧ z < 31
      · rw [if_pos h2, mu_out hA (by omega)]
      · rw [if_neg h2]; rfl
  refine CP_of (by decide +kernel) (Nat.le_of_ble_eq_true rfl) ?_
  change PW _ _ _ _ 0 [_, _, _, _] [] _ _ _ _
  refine P_iload_n (q := 1) dX8_withUps_0 rfl rfl ?_
  refine P_i2l (q := 2) dX8_withUps_1 rfl ?_
  rw [i2l_I z1 z2]
  refine P_lconst (q := 3) (v := lN 0) dX8_withUps_2 rfl (by decide +kernel) ?_
  refine P_aload_n (q := 4) dX8_withUps_3 rfl rfl ?_
  refine P_cv1 (q := 7) dX8_withUps_4 rfl kX8_159 (hcs) rfl rfl (by decide) (h0) rfl ⟨by decide, by decide⟩ (Nat.le_of_ble_eq_true rfl) ⟨Nat.le_refl _, Nat.le_refl _⟩ ?_
  refine P_i2l (q := 8) dX8_withUps_7 rfl ?_
  rw [iI_nI, i2l_I (by omega) (by omega)]
  refine P_cs1 (q := 11) dX8_withUps_8 rfl kX8_73 (i1 _) rfl rfl ⟨by decide, by decide⟩ (Nat.le_of_ble_eq_true rfl) ⟨Nat.le_refl _, Nat.le_refl _⟩ ?_
  refine P_if_ne (q := 14) (tgt := 16) dX8_withUps_11 rfl (by decide) (fun c_11 => ?_) (fun c_11 => ?_)
  · rw [bI_n] at c_11
    have c_11 := of_decide_eq_true c_11
    obtain ⟨u, rfl⟩ : ∃ u : Nat, z = u := ⟨z.toNat, by omega⟩
    refine P_iload_n (q := 17) dX8_withUps_16 rfl rfl ?_
    refine P_if_ne (q := 20) (tgt := 29) dX8_withUps_17 rfl (by decide) (fun c_17 => ?_) (fun c_17 => ?_)
    · rw [bI_n] at c_17
      subst c_17
      refine P_aload_n (q := 30) dX8_withUps_29 rfl rfl ?_
      have hle := m_le hM hX hAR.e4 x126 x127
      refine P_callv (q := 33) dX8_withUps_30 rfl (hle) kX8_198 rfl rfl (by decide) (h0) rfl ⟨by decide, by decide⟩ (Nat.le_of_ble_eq_true rfl) ⟨Nat.le_refl _, Nat.le_refl _⟩ ?_
      rintro v σ1 ⟨rfl, t1, q1, hU⟩
      have hW1 := hW.ups t1 q1 hU
      have e0 := (t1 114 (by omega)).trans h0
      obtain ⟨g1, h1x, q126, q127, hgh⟩ := id hU
      obtain ⟨L, M, hgL, hhM, hMN⟩ := hgh u (by omega)
      have hE := MN_Es hA hMN
      have hEb : -500 ≤ w.A.Es ∧ w.A.Es ≤ 500 := by
        obtain ⟨u0, hu0, hne⟩ := CU_ex hA
        obtain ⟨L0, M0, -, -, hMN0⟩ := hgh u0 hu0
        have := (MN_Es hA hMN0).2.2.2.1 hne
        omega
      refine P_istore_n (q := 34) (L' := [_, _, _, _]) dX8_withUps_33 rfl (by decide) rfl ?_
      refine P_aload_n (q := 35) dX8_withUps_34 rfl rfl ?_
      refine P_get (q := 38) dX8_withUps_35 rfl fX8_43 (by decide) (e0) rfl ?_
      refine P_iload_n (q := 39) dX8_withUps_38 rfl rfl ?_
      refine P_iald (q := 40) (j := u) dX8_withUps_39 rfl (by decide) (q126) ((iI_nI u).symm) (by omega) (by decide) ?_
      rw [hgL]
      refine P_iload_n (q := 41) dX8_withUps_40 rfl rfl ?_
      refine P_icmp_ne (q := 44) (tgt := 53) dX8_withUps_41 rfl (by decide) (fun c_41 => ?_) (fun c_41 => ?_)
      · rw [iI_inj (by omega) (by omega) (by omega) (by omega)] at c_41
        refine P_iconst (q := 54) (v := nI 0) dX8_withUps_53 rfl (by decide +kernel) ?_
        refine P_iret dX8_withUps_54 rfl (rfl) ?_
        refine ⟨?_, hW1, t1.mono (fun i h => by omega)⟩
        have e : oWU w u true = (nI ((w.A.md false).mu u), w) := by
          unfold oWU
          rw [if_pos rfl, if_pos (by omega), Int.toNat_natCast]
        rw [e, ← CU_mu hA]
        first
          | (rw [hE.2.2.1 c_41 (by omega)]; done)
          | (rw [hE.2.2.2.2 c_41]; done)
      · rw [iI_inj (by omega) (by omega) (by omega) (by omega)] at c_41
        refine P_aload_n (q := 45) dX8_withUps_44 rfl rfl ?_
        refine P_get (q := 48) dX8_withUps_45 rfl fX8_46 (by decide) (e0) rfl ?_
        refine P_iload_n (q := 49) dX8_withUps_48 rfl rfl ?_
        refine P_iald (q := 50) (j := u) dX8_withUps_49 rfl (by decide) (q127) ((iI_nI u).symm) (by omega) (by decide) ?_
        rw [hhM]
        refine P_goto (tgt := 54) dX8_withUps_50 (by decide) ?_
        refine P_iret dX8_withUps_54 rfl (rfl) ?_
        refine ⟨?_, hW1, t1.mono (fun i h => by omega)⟩
        have e : oWU w u true = (nI ((w.A.md false).mu u), w) := by
          unfold oWU
          rw [if_pos rfl, if_pos (by omega), Int.toNat_natCast]
        rw [e, ← CU_mu hA]
        first
          | (rw [hE.2.2.1 c_41 (by omega)]; done)
          | (rw [hE.2.2.2.2 c_41]; done)
    · rw [bI_0] at c_17
      subst c_17
      refine P_aload_n (q := 21) dX8_withUps_20 rfl rfl ?_
      refine P_cv1 (q := 24) dX8_withUps_21 rfl kX8_159 (hcs) rfl rfl (by decide) (h0) rfl ⟨by decide, by decide⟩ (Nat.le_of_ble_eq_true rfl) ⟨Nat.le_refl _, Nat.le_refl _⟩ ?_
      rw [← iI_nI]
      refine P_iload_n (q := 25) dX8_withUps_24 rfl rfl ?_
      refine P_cs1 (q := 28) dX8_withUps_25 rfl kX8_235 (m_choices (n0 := 132) (σ := σ) (N := w.A.C * w.A.R) (m := u) hCR (by omega)) rfl rfl ⟨by decide, by decide⟩ (Nat.le_of_ble_eq_true rfl) ⟨Nat.le_refl _, Nat.le_refl _⟩ ?_
      refine P_iret dX8_withUps_28 rfl (rfl) ?_
      have e : oWU w u false = ((chs (w.A.C * w.A.R) u).toInt32, w) := by
        unfold oWU
        rw [if_neg (by decide), if_pos (by rw [← Int.natCast_mul]; exact c_11), Int.toNat_natCast]
      rw [e]
      exact MK.stay hW
  · rw [bI_0] at c_11
    have c_11 := of_decide_eq_false c_11
    refine P_iconst (q := 15) (v := nI 0) dX8_withUps_14 rfl (by decide +kernel) ?_
    refine P_iret dX8_withUps_15 rfl (rfl) ?_
    first
      | (rw [no c_11]; exact MK.stay hW)
