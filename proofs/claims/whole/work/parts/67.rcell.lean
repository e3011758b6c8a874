/-! THE REFERENCE: patches counted and turned, cells told -/
def St.ptk (A : St) (k : Nat) : Nat × Nat := A.ptc (A.ptp (k / A.R)) (k / A.R) (k % A.R)
theorem ptk_s {A : St} (hA : A.ok) (k : Nat) : A.ptk (k + 1) = if (A.ptk k).2.testBit (4 * (k / A.R) + k % A.R) = true then A.ptk k else ((A.ptk k).1 + 1, (A.ptk k).2 ||| A.pIt (4 * (k / A.R) + k % A.R) 30) := by
  unfold St.ptk
  rcases dm_next (k := k) (show 0 < A.R by have := hA.2.1.1; omega) with ⟨e1, e2, -⟩ | ⟨e1, e2, e3⟩
  · rw [e1, e2]; rfl
  · rw [e1, e2]
    show A.ptc (A.ptp (k / A.R)) (k / A.R) A.R = _
    have : A.ptc (A.ptp (k / A.R)) (k / A.R) A.R = A.ptc (A.ptp (k / A.R)) (k / A.R) (k % A.R + 1) := by rw [e3]
    rw [this]; rfl
theorem ptk_0 (A : St) : A.ptk 0 = (0, 0) := by
  unfold St.ptk
  rw [Nat.zero_div, Nat.zero_mod]; rfl
theorem ptk_e {A : St} (hA : A.ok) : A.ptk (A.C * A.R) = A.ptp A.C := by
  have h : 0 < A.R := by have := hA.2.1.1; omega
  unfold St.ptk
  rw [Nat.mul_div_cancel _ h, Nat.mul_mod_left]; rfl
theorem ptk_cld {A : St} (hA : A.ok) : ∀ k, k ≤ A.C * A.R → A.cld (A.ptk k).2
  | 0, _ => by rw [ptk_0]; exact cld_0 A
  | k + 1, h => by
    rw [ptk_s hA]
    have hd := dm_lt hA (show k < A.C * A.R by omega)
    split
    · exact ptk_cld hA k (by omega)
    · exact cld_or (ptk_cld hA k (by omega)) (pIt_cld hA hd.1 hd.2)
theorem XP_next {σ : Sto} {M : Nat} {l : List Nat} (h : XP σ M l) : XP σ (M ||| bm l) [] := by
  obtain ⟨⟨g, a1, a2⟩, h, a3, a4⟩ := h
  exact ⟨⟨g, a1, fun c r hc hr => by show _ = bI ((M ||| bm l ||| 0).testBit _); rw [Nat.or_zero]; exact a2 c r hc hr⟩, h, a3, fun i p hi => by cases hi⟩
theorem XP_0 {σ : Sto} {g h : Nat → Int32} (h129 : σ 129 = pI .int 30 (flC (fun _ => nI 0) g 30)) (h130 : σ 130 = pI .int 30 h) : XP σ 0 [] := by
  refine ⟨⟨_, h129, fun c r hc hr => ?_⟩, h, h130, fun i p hi => by cases hi⟩
  show _ = bI ((0 ||| 0 : Nat).testBit _)
  rw [Nat.or_zero, Nat.zero_testBit]
  exact if_pos (by omega)
theorem AR_XP {σ τ : Sto} {M : Nat} {l : List Nat} (hAR : AR σ) (s : same σ τ (fun i => i = 114 ∨ i = 129 ∨ i = 130)) (h : XP τ M l) : AR τ := fun k h1 h2 => by
  by_cases e : k = 129
  · subst e; obtain ⟨⟨g, a, -⟩, -⟩ := h; exact ⟨g, a⟩
  · by_cases e2 : k = 130
    · subst e2; obtain ⟨-, g, a, -⟩ := h; exact ⟨g, a⟩
    · obtain ⟨g, a⟩ := hAR k h1 h2
      exact ⟨g, (s k (by omega)).trans a⟩
theorem MW.ss {σ τ : Sto} {w : Cs} (hW : MW σ w) (s : same σ τ (fun i => i = 114 ∨ (119 ≤ i ∧ i ≤ 130))) {pl sp rc rr : Int32} (e : τ 114 = moO w.H.length w.Sn.isSome.toNat pl w.n sp rc rr) (hAR : AR τ) : MW τ w := by
  obtain ⟨-, ⟨hA, g, h1, hR⟩, -, hl, ⟨gh, h117, hH⟩, hSn, hn, gt, t131, tch⟩ := hW
  refine ⟨⟨pl, sp, rc, rr, e⟩, ⟨hA, g, (s 115 (by omega)).trans h1, hR⟩, hAR, hl, ⟨gh, (s 117 (by omega)).trans h117, hH⟩, fun C hC => ?_, hn, gt, (s 131 (by omega)).trans t131, tch⟩
  obtain ⟨a, q, b, c⟩ := hSn C hC
  exact ⟨a, q, (s 118 (by omega)).trans b, c⟩
set_option maxRecDepth 100000 in
set_option maxHeartbeats 4000000 in
theorem m_patches {σ0 : Sto} {A : St} {L k0 n0 : Nat} {pl sp rc rr : Int32} (hX : XA σ0 A) (h0 : σ0 114 = moO L k0 pl n0 sp rc rr) {g h : Nat → Int32} (h129 : σ0 129 = pI .int 30 g) (h130 : σ0 130 = pI .int 30 h) : CP mX8_patches 0 0 [.ref 114] 132 σ0 (fun v σ' => v = some (.int (nI (A.ptp A.C).1)) ∧ same σ0 σ' (fun i => i = 114 ∨ i = 129 ∨ i = 130) ∧ (∃ pl', σ' 114 = moO L k0 pl' n0 sp rc rr) ∧ ∃ M, XP σ' M []) := by
  have hA := hX.1
  have hC := hA.1
  have hRr := hA.2.1
  have hCR : A.C * A.R ≤ 30 := Nat.mul_le_mul hC.2 hRr.2
  have hz := nz_R A.R (by omega) (by omega)
  have hXs : ∀ σ, same σ0 σ (fun i => i = 114 ∨ i = 129 ∨ i = 130) → XA σ A := fun σ s => by
    obtain ⟨-, g, h, hR⟩ := hX
    exact ⟨hA, g, (s 115 (by omega)).trans h, hR⟩
  have lp : ∀ n k, k + n = A.C * A.R → ∀ σ pl, same σ0 σ (fun i => i = 114 ∨ i = 129 ∨ i = 130) → σ 114 = moO L k0 pl n0 sp rc rr → XP σ (A.ptk k).2 [] → ∀ x3 x4 : Option Value, PW mX8_patches 0 0 (fun v σ' => v = some (.int (nI (A.ptp A.C).1)) ∧ same σ0 σ' (fun i => i = 114 ∨ i = 129 ∨ i = 130) ∧ (∃ pl', σ' 114 = moO L k0 pl' n0 sp rc rr) ∧ ∃ M, XP σ' M []) 8 [some (.ref 114), some (.int (nI (A.ptk k).1)), some (.int (nI k)), x3, x4] [] 132 σ 0 0 := by
   intro n
   induction n with
   | zero =>
    intro k hk σ pl hs e0 hP x3 x4
    have hM : MO σ := ⟨_, _, _, _, _, _, _, e0⟩
    have e : k = A.C * A.R := by omega
    have hc := m_cells hM (hXs σ hs)
    refine P_iload_n (q := 9) dX8_patches_8 rfl rfl ?_
    refine P_aload_n (q := 10) dX8_patches_9 rfl rfl ?_
    refine P_cv1 (q := 13) dX8_patches_10 rfl kX8_159 (hc) rfl rfl (by decide) (e0) rfl ⟨by decide, by decide⟩ (Nat.le_of_ble_eq_true rfl) ⟨Nat.le_refl _, Nat.le_refl _⟩ ?_
    refine P_icmp_ge (q := 16) (tgt := 65) dX8_patches_13 rfl (by decide) (fun c_13 => ?_) (fun c_13 => ?_)
    · rw [nI_leI (by omega) (by omega)] at c_13
      refine P_iload_n (q := 66) dX8_patches_65 rfl rfl ?_
      refine P_iret dX8_patches_66 rfl (rfl) ?_
      rw [e, ptk_e hA]
      exact ⟨rfl, hs, ⟨pl, e0⟩, _, hP⟩
    · exfalso; rw [nI_leI (by omega) (by omega)] at c_13; omega
   | succ n ih =>
    intro k hk σ pl hs e0 hP x3 x4
    have hk' : k < A.C * A.R := by omega
    have hM : MO σ := ⟨_, _, _, _, _, _, _, e0⟩
    have hX1 := hXs σ hs
    have hc := m_cells hM hX1
    have hd := dm_lt hA hk'
    have hdm := dm_i k (by omega) A.R (by omega) (by omega)
    obtain ⟨-, g1, hg1, hRA⟩ := id hX1
    have hR1 : g1 1 = nI A.R := hRA.2.1
    obtain ⟨⟨gm, h129', hgm⟩, -⟩ := id hP
    have hb := hgm (k / A.R) (k % A.R) (by omega) (by omega)
    rw [show bm [] = 0 from rfl, Nat.or_zero] at hb
    have hst := ptk_s hA k
    refine P_iload_n (q := 9) dX8_patches_8 rfl rfl ?_
    refine P_aload_n (q := 10) dX8_patches_9 rfl rfl ?_
    refine P_cv1 (q := 13) dX8_patches_10 rfl kX8_159 (hc) rfl rfl (by decide) (e0) rfl ⟨by decide, by decide⟩ (Nat.le_of_ble_eq_true rfl) ⟨Nat.le_refl _, Nat.le_refl _⟩ ?_
    refine P_icmp_ge (q := 16) (tgt := 65) dX8_patches_13 rfl (by decide) (fun c_13 => ?_) (fun c_13 => ?_)
    · exfalso; rw [nI_leI (by omega) (by omega)] at c_13; omega
    · rw [nI_leI (by omega) (by omega)] at c_13
      refine P_iload_n (q := 17) dX8_patches_16 rfl rfl ?_
      refine P_aload_n (q := 18) dX8_patches_17 rfl rfl ?_
      refine P_get (q := 21) dX8_patches_18 rfl fX8_7 (by decide) (e0) rfl ?_
      refine P_iconst (q := 22) (v := nI 1) dX8_patches_21 rfl (by decide +kernel) ?_
      refine P_iald (q := 23) (j := 1) dX8_patches_22 rfl (by decide) (hg1) (rfl) (by omega) (by decide) ?_
      rw [hR1]
      refine P_irem (q := 24) dX8_patches_23 rfl (hz) ?_
      rw [hdm.2]
      refine P_istore_n (q := 25) (L' := [_, _, _, _, _]) dX8_patches_24 rfl (by decide) rfl ?_
      refine P_iload_n (q := 26) dX8_patches_25 rfl rfl ?_
      refine P_aload_n (q := 27) dX8_patches_26 rfl rfl ?_
      refine P_get (q := 30) dX8_patches_27 rfl fX8_7 (by decide) (e0) rfl ?_
      refine P_iconst (q := 31) (v := nI 1) dX8_patches_30 rfl (by decide +kernel) ?_
      refine P_iald (q := 32) (j := 1) dX8_patches_31 rfl (by decide) (hg1) (rfl) (by omega) (by decide) ?_
      rw [hR1]
      refine P_idiv (q := 33) dX8_patches_32 rfl (hz) ?_
      rw [hdm.1]
      refine P_istore (q := 35) (L' := [_, _, _, _, _]) dX8_patches_33 rfl (by decide) rfl ?_
      refine P_aload_n (q := 36) dX8_patches_35 rfl rfl ?_
      refine P_get (q := 39) dX8_patches_36 rfl fX8_52 (by decide) (e0) rfl ?_
      refine P_iconst (q := 40) (v := nI 3) dX8_patches_39 rfl (by decide +kernel) ?_
      refine P_iload (q := 42) dX8_patches_40 rfl rfl ?_
      refine P_imul (q := 43) dX8_patches_42 rfl ?_
      refine P_iload_n (q := 44) dX8_patches_43 rfl rfl ?_
      refine P_iadd (q := 45) dX8_patches_44 rfl ?_
      refine P_iald (q := 46) (j := 3 * (k / A.R) + k % A.R) dX8_patches_45 rfl (by decide) (h129') (by rw [pk_mul, nI_add]) (by omega) (by decide) ?_
      rw [hb]
      refine P_if_ne (q := 49) (tgt := 59) dX8_patches_46 rfl (by decide) (fun c_46 => ?_) (fun c_46 => ?_)
      · rw [bI_n] at c_46
        rw [if_pos c_46] at hst
        refine P_iinc (q := 62) (L' := [_, _, _, _, _]) (v := nI (k + 1)) dX8_patches_59 rfl (by decide) rfl (nI_1 k) rfl ?_
        refine P_goto (tgt := 8) dX8_patches_62 (by decide) ?_
        have h := ih (k + 1) (by omega) σ pl hs e0 (by rw [hst]; exact hP) (some (.int (nI (k % A.R)))) (some (.int (nI (k / A.R))))
        rw [hst] at h
        exact h
      · have c_46 := (bI_0 _).mp c_46
        rw [if_neg (by rw [c_46]; decide)] at hst
        refine P_aload_n (q := 50) dX8_patches_49 rfl rfl ?_
        refine P_iload_n (q := 51) dX8_patches_50 rfl rfl ?_
        refine P_iload (q := 53) dX8_patches_51 rfl rfl ?_
        refine P_callv (q := 56) dX8_patches_53 rfl (m_finds hX1 e0 hP (ptk_cld hA k (by omega)) hd.2 hd.1 c_46) kX8_162 rfl rfl (by decide) (e0) rfl ⟨by decide, by decide⟩ (Nat.le_of_ble_eq_true rfl) ⟨Nat.le_refl _, Nat.le_refl _⟩ ?_
        rintro v σ1 ⟨rfl, l, e1, p1, t1, -, hbm⟩
        have p2 := XP_next p1
        rw [hbm] at p2
        refine P_iinc (q := 59) (L' := [_, _, _, _, _]) (v := nI ((A.ptk k).1 + 1)) dX8_patches_56 rfl (by decide) rfl (nI_1 _) rfl ?_
        refine P_iinc (q := 62) (L' := [_, _, _, _, _]) (v := nI (k + 1)) dX8_patches_59 rfl (by decide) rfl (nI_1 k) rfl ?_
        refine P_goto (tgt := 8) dX8_patches_62 (by decide) ?_
        have h := ih (k + 1) (by omega) σ1 _ (hs.trans t1) e1 (by rw [hst]; exact p2) (some (.int (nI (k % A.R)))) (some (.int (nI (k / A.R))))
        rw [hst] at h
        exact h
  have hM0 : MO σ0 := ⟨_, _, _, _, _, _, _, h0⟩
  refine CP_of (by decide +kernel) (Nat.le_of_ble_eq_true rfl) ?_
  change PW _ _ _ _ 0 [_, _, _, _, _] [] _ _ _ _
  refine P_aload_n (q := 1) dX8_patches_0 rfl rfl ?_
  refine P_cv0 (q := 4) dX8_patches_1 rfl kX8_156 (m_forgets hM0 h129) rfl rfl (by decide) (h0) rfl ⟨by decide, by decide⟩ (Nat.le_of_ble_eq_true rfl) ⟨Nat.le_refl _, Nat.le_refl _⟩ ?_
  refine P_iconst (q := 5) (v := nI 0) dX8_patches_4 rfl (by decide +kernel) ?_
  refine P_istore_n (q := 6) (L' := [_, _, _, _, _]) dX8_patches_5 rfl (by decide) rfl ?_
  refine P_iconst (q := 7) (v := nI 0) dX8_patches_6 rfl (by decide +kernel) ?_
  refine P_istore_n (q := 8) (L' := [_, _, _, _, _]) dX8_patches_7 rfl (by decide) rfl ?_
  have hx : XP (va_up σ0 129 (pI .int 30 (flC (fun _ => nI 0) g 30))) (A.ptk 0).2 [] := by rw [ptk_0]; exact XP_0 (up_at _ _ _) ((up_ne _ _ (by omega)).trans h130)
  have hl := lp (A.C * A.R) 0 (by omega) _ pl (same.rf.up (Or.inr (Or.inl rfl))) ((up_ne _ _ (by omega)).trans h0) hx none none
  rw [ptk_0] at hl
  exact hl
set_option maxRecDepth 100000 in
set_option maxHeartbeats 4000000 in
theorem r_cell {σ : Sto} {w : Cs} (hW : MW σ w) {r0 : Int} (r01 : -2147483648 ≤ r0) (r02 : r0 < 2147483648) {c0 : Int} (c01 : -2147483648 ≤ c0) (c02 : c0 < 2147483648) {k0 : Int} (k01 : -2147483648 ≤ k0) (k02 : k0 < 2147483648) : CP mX8_cell 0 0 [.ref 114, .int (iI r0), .int (iI c0), .int (iI k0)] 132 σ (MK σ (oCell w r0 c0 k0)) := by
  obtain ⟨⟨pl, sp0, rc, rr, h0⟩, hX, hAR, hl, ⟨gh, h117, hH⟩, hSn, hn, gt, t131, tch⟩ := id hW
  have hM := hW.mo
  obtain ⟨hA, g, h1, hR⟩ := id hX
  have hC := hA.1
  have hRr := hA.2.1
  have ir := m_isRow hM hX r01 r02
  have ic := m_isColumn hM hX c01 c02
  have no : ¬ (0 ≤ r0 ∧ r0 < w.A.R ∧ 0 ≤ c0 ∧ c0 < w.A.C) → MK σ (oCell w r0 c0 k0) (some (.int (iI (-1001)))) σ := fun h => by
    unfold oCell
    rw [if_neg (show ¬ w.A.inB r0 c0 = true from fun q => h (of_decide_eq_true q))]
    exact MK.stay hW
  refine CP_of (by decide +kernel) (Nat.le_of_ble_eq_true rfl) ?_
  change PW _ _ _ _ 0 [_, _, _, _, _] [] _ _ _ _
  refine P_aload_n (q := 1) dX8_cell_0 rfl rfl ?_
  refine P_iload_n (q := 2) dX8_cell_1 rfl rfl ?_
  refine P_cv1 (q := 5) dX8_cell_2 rfl kX8_109 (ir) rfl rfl (by decide) (h0) rfl ⟨by decide, by decide⟩ (Nat.le_of_ble_eq_true rfl) ⟨Nat.le_refl _, Nat.le_refl _⟩ ?_
  refine P_if_eq (q := 8) (tgt := 16) dX8_cell_5 rfl (by decide) (fun c_5 => ?_) (fun c_5 => ?_)
  · rw [bI_0] at c_5
    have c_5 := of_decide_eq_false c_5
    refine P_sipush (q := 19) (v := iI (-1001)) dX8_cell_16 rfl (by decide +kernel) ?_
    refine P_iret dX8_cell_19 rfl (rfl) ?_
    exact no (by omega)
  · rw [bI_n] at c_5
    have c_5 := of_decide_eq_true c_5
    refine P_aload_n (q := 9) dX8_cell_8 rfl rfl ?_
    refine P_iload_n (q := 10) dX8_cell_9 rfl rfl ?_
    refine P_cv1 (q := 13) dX8_cell_10 rfl kX8_81 (ic) rfl rfl (by decide) (h0) rfl ⟨by decide, by decide⟩ (Nat.le_of_ble_eq_true rfl) ⟨Nat.le_refl _, Nat.le_refl _⟩ ?_
    refine P_if_ne (q := 16) (tgt := 20) dX8_cell_13 rfl (by decide) (fun c_13 => ?_) (fun c_13 => ?_)
    · rw [bI_n] at c_13
      have c_13 := of_decide_eq_true c_13
      have hin : w.A.inB r0 c0 = true := decide_eq_true (by omega)
      obtain ⟨r, c, rfl, rfl, hr, hc⟩ := inB_n hin
      rw [← iI_nI, ← iI_nI]
      have ok : ∀ x, x = oCellK w.A r c k0 → MK σ (oCell w r c k0) (some (.int x)) σ := fun x e => by
        subst e
        unfold oCell
        rw [if_pos hin]
        exact MK.stay hW
      have hgn := St.gain_in hA c r
      refine P_aload_n (q := 21) dX8_cell_20 rfl rfl ?_
      refine P_iload_n (q := 22) dX8_cell_21 rfl rfl ?_
      refine P_iload_n (q := 23) dX8_cell_22 rfl rfl ?_
      refine P_cv1 (q := 26) dX8_cell_23 rfl kX8_190 (m_gain hM hX hr hc) rfl rfl (by decide) (h0) rfl ⟨by decide, by decide⟩ (Nat.le_of_ble_eq_true rfl) ⟨Nat.le_refl _, Nat.le_refl _⟩ ?_
      refine P_istore (q := 28) (L' := [_, _, _, _, _]) dX8_cell_26 rfl (by decide) rfl ?_
      refine P_iload_n (q := 29) dX8_cell_28 rfl rfl ?_
      by_cases hk : k0 < 0 ∨ 6 < k0
      · refine P_tabOut (tgt := 141) dX8_cell_29 (by rw [iI_toInt (by omega) (by omega)]; exact hk) (by decide) ?_
        refine P_sipush (q := 144) (v := iI (-1002)) dX8_cell_141 rfl (by decide +kernel) ?_
        refine P_iret dX8_cell_144 rfl (rfl) ?_
        exact ok _ (by unfold oCellK; rw [if_neg (by omega), if_neg (by omega), if_neg (by omega), if_neg (by omega), if_neg (by omega), if_neg (by omega), if_neg (by omega)])
      · have hk7 : k0 = 0 ∨ k0 = 1 ∨ k0 = 2 ∨ k0 = 3 ∨ k0 = 4 ∨ k0 = 5 ∨ k0 = 6 := by omega
        rcases hk7 with rfl | rfl | rfl | rfl | rfl | rfl | rfl
        · refine P_tabIn (tgt := 72) dX8_cell_29 (by decide) (by decide) (show _ = some 43 from rfl) (by decide) ?_
          refine P_aload_n (q := 73) dX8_cell_72 rfl rfl ?_
          refine P_iload_n (q := 74) dX8_cell_73 rfl rfl ?_
          refine P_iload_n (q := 75) dX8_cell_74 rfl rfl ?_
          refine P_cv1 (q := 78) dX8_cell_75 rfl kX8_106 (m_spin hM hX (r := r) (c := c) (by omega) (by omega)) rfl rfl (by decide) (h0) rfl ⟨by decide, by decide⟩ (Nat.le_of_ble_eq_true rfl) ⟨Nat.le_refl _, Nat.le_refl _⟩ ?_
          refine P_iret dX8_cell_78 rfl (rfl) ?_
          exact ok _ rfl
        · refine P_tabIn (tgt := 79) dX8_cell_29 (by decide) (by decide) (show _ = some 50 from rfl) (by decide) ?_
          refine P_aload_n (q := 80) dX8_cell_79 rfl rfl ?_
          refine P_iload_n (q := 81) dX8_cell_80 rfl rfl ?_
          refine P_iload_n (q := 82) dX8_cell_81 rfl rfl ?_
          refine P_cv1 (q := 85) dX8_cell_82 rfl kX8_89 (m_fieldAt hM hX hr hc) rfl rfl (by decide) (h0) rfl ⟨by decide, by decide⟩ (Nat.le_of_ble_eq_true rfl) ⟨Nat.le_refl _, Nat.le_refl _⟩ ?_
          refine P_iret dX8_cell_85 rfl (rfl) ?_
          exact ok _ rfl
        · refine P_tabIn (tgt := 86) dX8_cell_29 (by decide) (by decide) (show _ = some 57 from rfl) (by decide) ?_
          refine P_iload (q := 88) dX8_cell_86 rfl rfl ?_
          refine P_iret dX8_cell_88 rfl (rfl) ?_
          exact ok _ rfl
        · refine P_tabIn (tgt := 89) dX8_cell_29 (by decide) (by decide) (show _ = some 60 from rfl) (by decide) ?_
          refine P_iload (q := 91) dX8_cell_89 rfl rfl ?_
          refine P_if_le (q := 94) (tgt := 98) dX8_cell_91 rfl (by decide) (fun c_91 => ?_) (fun c_91 => ?_)
          · rw [show ((0 : Int32)) = iI 0 from rfl, iI_le (by omega) (by omega) (by omega) (by omega)] at c_91
            refine P_iload (q := 100) dX8_cell_98 rfl rfl ?_
            refine P_if_ne (q := 103) (tgt := 107) dX8_cell_100 rfl (by decide) (fun c_100 => ?_) (fun c_100 => ?_)
            · rw [show ((0 : Int32)) = iI 0 from rfl, iI_inj (by omega) (by omega) (by omega) (by omega)] at c_100
              refine P_iconst (q := 108) (v := nI 2) dX8_cell_107 rfl (by decide +kernel) ?_
              refine P_iret dX8_cell_108 rfl (rfl) ?_
              exact ok _ (by unfold oCellK rsn; rw [if_neg (by decide), if_neg (by decide), if_neg (by decide), if_pos rfl]; first | (rw [if_neg (by omega), if_neg (by omega)]; done) | (rw [if_neg (by omega), if_pos (by omega)]; done) | (rw [if_pos (by omega)]; done))
            · rw [show ((0 : Int32)) = iI 0 from rfl, iI_inj (by omega) (by omega) (by omega) (by omega)] at c_100
              refine P_iconst (q := 104) (v := nI 1) dX8_cell_103 rfl (by decide +kernel) ?_
              refine P_goto (tgt := 108) dX8_cell_104 (by decide) ?_
              refine P_iret dX8_cell_108 rfl (rfl) ?_
              exact ok _ (by unfold oCellK rsn; rw [if_neg (by decide), if_neg (by decide), if_neg (by decide), if_pos rfl]; first | (rw [if_neg (by omega), if_neg (by omega)]; done) | (rw [if_neg (by omega), if_pos (by omega)]; done) | (rw [if_pos (by omega)]; done))
          · rw [show ((0 : Int32)) = iI 0 from rfl, iI_le (by omega) (by omega) (by omega) (by omega)] at c_91
            refine P_iconst (q := 95) (v := nI 0) dX8_cell_94 rfl (by decide +kernel) ?_
            refine P_goto (tgt := 108) dX8_cell_95 (by decide) ?_
            refine P_iret dX8_cell_108 rfl (rfl) ?_
            exact ok _ (by unfold oCellK rsn; rw [if_neg (by decide), if_neg (by decide), if_neg (by decide), if_pos rfl]; first | (rw [if_neg (by omega), if_neg (by omega)]; done) | (rw [if_neg (by omega), if_pos (by omega)]; done) | (rw [if_pos (by omega)]; done))
        · refine P_tabIn (tgt := 109) dX8_cell_29 (by decide) (by decide) (show _ = some 80 from rfl) (by decide) ?_
          refine P_aload_n (q := 110) dX8_cell_109 rfl rfl ?_
          refine P_iload_n (q := 111) dX8_cell_110 rfl rfl ?_
          refine P_iload_n (q := 112) dX8_cell_111 rfl rfl ?_
          refine P_iload_n (q := 113) dX8_cell_112 rfl rfl ?_
          refine P_iconst (q := 114) (v := nI 5) dX8_cell_113 rfl (by decide +kernel) ?_
          refine P_icmp_ne (q := 117) (tgt := 121) dX8_cell_114 rfl (by decide) (fun c_114 => ?_) (fun c_114 => ?_)
          · refine P_iconst (q := 122) (v := nI 0) dX8_cell_121 rfl (by decide +kernel) ?_
            refine P_cv1 (q := 125) dX8_cell_122 rfl kX8_228 (m_nb hM hX false hr hc) rfl rfl (by decide) (h0) rfl ⟨by decide, by decide⟩ (Nat.le_of_ble_eq_true rfl) ⟨Nat.le_refl _, Nat.le_refl _⟩ ?_
            refine P_iret dX8_cell_125 rfl (rfl) ?_
            exact ok _ (by rw [← nb_false hA hc hr]; rfl)
          · exact absurd c_114 (by decide)
        · refine P_tabIn (tgt := 109) dX8_cell_29 (by decide) (by decide) (show _ = some 80 from rfl) (by decide) ?_
          refine P_aload_n (q := 110) dX8_cell_109 rfl rfl ?_
          refine P_iload_n (q := 111) dX8_cell_110 rfl rfl ?_
          refine P_iload_n (q := 112) dX8_cell_111 rfl rfl ?_
          refine P_iload_n (q := 113) dX8_cell_112 rfl rfl ?_
          refine P_iconst (q := 114) (v := nI 5) dX8_cell_113 rfl (by decide +kernel) ?_
          refine P_icmp_ne (q := 117) (tgt := 121) dX8_cell_114 rfl (by decide) (fun c_114 => ?_) (fun c_114 => ?_)
          · exact absurd rfl c_114
          · refine P_iconst (q := 118) (v := nI 1) dX8_cell_117 rfl (by decide +kernel) ?_
            refine P_goto (tgt := 122) dX8_cell_118 (by decide) ?_
            refine P_cv1 (q := 125) dX8_cell_122 rfl kX8_228 (m_nb hM hX true hr hc) rfl rfl (by decide) (h0) rfl ⟨by decide, by decide⟩ (Nat.le_of_ble_eq_true rfl) ⟨Nat.le_refl _, Nat.le_refl _⟩ ?_
            refine P_iret dX8_cell_125 rfl (rfl) ?_
            exact ok _ (by rw [← nb_true hA hc hr]; rfl)
        · refine P_tabIn (tgt := 126) dX8_cell_29 (by decide) (by decide) (show _ = some 97 from rfl) (by decide) ?_
          refine P_aload_n (q := 127) dX8_cell_126 rfl rfl ?_
          obtain ⟨gm, h129⟩ := hAR 129 (by decide) (by decide)
          change σ 129 = pI .int 30 gm at h129
          obtain ⟨gp, h130⟩ := hAR 130 (by decide) (by decide)
          change σ 130 = pI .int 30 gp at h130
          refine P_cv0 (q := 130) dX8_cell_127 rfl kX8_156 (m_forgets hM h129) rfl rfl (by decide) (h0) rfl ⟨by decide, by decide⟩ (Nat.le_of_ble_eq_true rfl) ⟨Nat.le_refl _, Nat.le_refl _⟩ ?_
          generalize hσ1 : va_up σ 129 (pI .int 30 (flC (fun _ => nI 0) gm 30)) = σ1
          have t1 : same σ σ1 (fun i => i = 114 ∨ i = 129 ∨ i = 130) := by rw [← hσ1]; exact same.rf.up (Or.inr (Or.inl rfl))
          have e1 : σ1 114 = moO w.H.length w.Sn.isSome.toNat pl w.n sp0 rc rr := by rw [← hσ1]; exact (up_ne _ _ (by omega)).trans h0
          have x1 : XA σ1 w.A := XA.of ((t1 115 (by omega)).trans h1) hA hR
          have p1 : XP σ1 0 [] := XP_0 (by rw [← hσ1]; exact up_at _ _ _) (by rw [← hσ1]; exact (up_ne _ _ (by omega)).trans h130)
          refine P_aload_n (q := 131) dX8_cell_130 rfl rfl ?_
          refine P_iload_n (q := 132) dX8_cell_131 rfl rfl ?_
          refine P_iload_n (q := 133) dX8_cell_132 rfl rfl ?_
          refine P_callv (q := 136) dX8_cell_133 rfl (m_finds x1 e1 p1 (cld_0 w.A) hr hc (Nat.zero_testBit _)) kX8_162 rfl rfl (by decide) (e1) rfl ⟨by decide, by decide⟩ (Nat.le_of_ble_eq_true rfl) ⟨Nat.le_refl _, Nat.le_refl _⟩ ?_
          rintro v σ2 ⟨rfl, l, e2, p2, t2, hL, hbm⟩
          refine P_aload_n (q := 137) dX8_cell_136 rfl rfl ?_
          refine P_get (q := 140) dX8_cell_137 rfl fX8_149 (by decide) (e2) rfl ?_
          refine P_iret dX8_cell_140 rfl (rfl) ?_
          have ee : oCellK w.A r c 6 = nI l.length := by
            show nI (pcN 64 (w.A.pIt (4 * c + r) 30)) = _
            rw [← hbm, hL.1]
          rw [← ee]
          have hS := t1.trans t2
          refine ⟨?_, hW.ss (hS.mono (fun i h => by omega)) e2 (AR_XP hAR hS p2), hS.mono (fun i h => by omega)⟩
          unfold oCell
          rw [if_pos hin]
          rfl
    · rw [bI_0] at c_13
      have c_13 := of_decide_eq_false c_13
      refine P_sipush (q := 19) (v := iI (-1001)) dX8_cell_16 rfl (by decide +kernel) ?_
      refine P_iret dX8_cell_19 rfl (rfl) ?_
      exact no (by omega)
