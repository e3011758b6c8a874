/-! THE REFERENCE: a patch is turned -/
theorem flip_or {A : St} {a b : Nat} (h : a &&& b = 0) : (A.flip a).flip b = A.flip (a ||| b) := by
  refine Prod.ext rfl (Prod.ext rfl (Prod.ext rfl (Prod.ext rfl (Prod.ext rfl (Prod.ext ?_ (Prod.ext rfl ?_))))))
  · funext c
    show (A.sp c ^^^ (a / 16 ^ c % 16)) ^^^ (b / 16 ^ c % 16) = A.sp c ^^^ ((a ||| b) / 16 ^ c % 16)
    rw [Nat.xor_assoc]
    congr 1
    refine Nat.eq_of_testBit_eq fun i => ?_
    rw [Nat.testBit_xor, dig_bit, dig_bit, dig_bit, Nat.testBit_or]
    have h2 := congrArg (fun z => z.testBit (4 * c + i)) h
    simp only [Nat.testBit_and, Nat.zero_testBit] at h2
    cases h3 : a.testBit (4 * c + i) <;> cases h4 : b.testBit (4 * c + i) <;> simp_all
  · show A.tu + nI (pcN 64 a) + nI (pcN 64 b) = A.tu + nI (pcN 64 (a ||| b))
    rw [pcN_or 64 h, ← nI_add, Int32.add_assoc]
theorem flip_0 (A : St) : A.flip 0 = A := by
  refine Prod.ext rfl (Prod.ext rfl (Prod.ext rfl (Prod.ext rfl (Prod.ext rfl (Prod.ext ?_ (Prod.ext rfl ?_))))))
  · funext c
    show A.sp c ^^^ (0 / 16 ^ c % 16) = A.sp c
    rw [Nat.zero_div, Nat.zero_mod, Nat.xor_zero]
  · show A.tu + nI (pcN 64 0) = A.tu
    rw [pcN_zero]
    exact Int32.add_zero _
theorem bm_take {l : List Nat} {k p : Nat} (h : l[k]? = some p) : bm (l.take (k + 1)) = bm (l.take k) ||| 2 ^ p := by
  rw [List.take_add_one, h]
  exact bm_app p _
theorem bm_take_sub {l : List Nat} {k q : Nat} (h : (bm (l.take k)).testBit q = true) : (bm l).testBit q = true := (bm_mem q l).mpr (List.mem_of_mem_take ((bm_mem q _).mp h))
set_option maxRecDepth 100000 in
set_option maxHeartbeats 4000000 in
theorem w_tp {σ0 : Sto} {A : St} {P M L k0 n0 : Nat} {sp rc rr : Int32} {l : List Nat} {h : Nat → Int32} (hA : A.ok) (hP : ∀ p, P.testBit p = true → (mskN A.C A.R).testBit p = true) (hL : LI P M l) (h0 : σ0 114 = moO L k0 (nI l.length) n0 sp rc rr) (h130 : σ0 130 = pI .int 30 h) (hh : ∀ i p, l[i]? = some p → h i = nI (3 * (p / 4) + p % 4)) {r c : Nat} {QQ : Option Value → Sto → Prop} (hQ : ∀ σ g, same σ0 σ (fun i => i = 115) → σ 115 = pI .int 46 g → RA g (A.flip (bm l)) → ∀ x : Option Value, PW mX8_turnPatch 0 0 QQ 70 [some (.ref 114), some (.int (nI r)), some (.int (nI c)), x] [] 132 σ 0 0) : ∀ n k, k + n = l.length → ∀ σ g, same σ0 σ (fun i => i = 115) → σ 115 = pI .int 46 g → RA g (A.flip (bm (l.take k))) → PW mX8_turnPatch 0 0 QQ 36 [some (.ref 114), some (.int (nI r)), some (.int (nI c)), some (.int (nI k))] [] 132 σ 0 0 := by
  have hll := LI_len hA hP hL
  have hC := hA.1
  have hR := hA.2.1
  intro n
  induction n with
  | zero =>
    intro k hk σ g hs h1 hRA
    have e : k = l.length := by omega
    rw [e, List.take_length] at hRA
    have e0 := (hs 114 (by omega)).trans h0
    refine P_iload_n (q := 37) dX8_turnPatch_36 rfl rfl ?_
    refine P_aload_n (q := 38) dX8_turnPatch_37 rfl rfl ?_
    refine P_get (q := 41) dX8_turnPatch_38 rfl fX8_149 (by decide) (e0) rfl ?_
    refine P_icmp_ge (q := 44) (tgt := 70) dX8_turnPatch_41 rfl (by decide) (fun c_41 => ?_) (fun c_41 => ?_)
    · rw [nI_leI (by omega) (by omega)] at c_41
      exact hQ σ g hs h1 hRA _
    · exfalso; rw [nI_leI (by omega) (by omega)] at c_41; omega
  | succ n ih =>
    intro k hk σ g hs h1 hRA
    have hlt : k < l.length := by omega
    obtain ⟨p, hp⟩ : ∃ p, l[k]? = some p := ⟨_, List.getElem?_eq_getElem hlt⟩
    have hpp := hL.2 k p hp
    have hg := sub_cr hA hP hpp.2.1
    have h3 := three_dec (p / 4) (by omega) (p % 4) (by omega)
    have e0 := (hs 114 (by omega)).trans h0
    have e130 := (hs 130 (by omega)).trans h130
    have hF : (A.flip (bm (l.take k))).ok := St.flip_ok hA (fun q hq => hP q (LI_mem hL (bm_take_sub hq)).1)
    have ht := m_turns (σ := σ) ⟨_, _, _, _, _, _, _, e0⟩ h1 hRA (r := p % 4) (c := p / 4) (by omega) (by omega)
    have hRA2 := RA_tn hF hRA (c := p / 4) (r := p % 4) (by omega) (by omega)
    rw [← hg.2.2, flip_or (and_pow0 hpp.1), ← bm_take hp] at hRA2
    refine P_iload_n (q := 37) dX8_turnPatch_36 rfl rfl ?_
    refine P_aload_n (q := 38) dX8_turnPatch_37 rfl rfl ?_
    refine P_get (q := 41) dX8_turnPatch_38 rfl fX8_149 (by decide) (e0) rfl ?_
    refine P_icmp_ge (q := 44) (tgt := 70) dX8_turnPatch_41 rfl (by decide) (fun c_41 => ?_) (fun c_41 => ?_)
    · exfalso; rw [nI_leI (by omega) (by omega)] at c_41; omega
    · rw [nI_leI (by omega) (by omega)] at c_41
      refine P_aload_n (q := 45) dX8_turnPatch_44 rfl rfl ?_
      refine P_aload_n (q := 46) dX8_turnPatch_45 rfl rfl ?_
      refine P_get (q := 49) dX8_turnPatch_46 rfl fX8_55 (by decide) (e0) rfl ?_
      refine P_iload_n (q := 50) dX8_turnPatch_49 rfl rfl ?_
      refine P_iald (q := 51) (j := k) dX8_turnPatch_50 rfl (by decide) (e130) (rfl) (by omega) (by decide) ?_
      rw [hh k p hp]
      refine P_iconst (q := 52) (v := nI 3) dX8_turnPatch_51 rfl (by decide +kernel) ?_
      refine P_irem (q := 53) dX8_turnPatch_52 rfl (by decide) ?_
      rw [h3.2]
      refine P_aload_n (q := 54) dX8_turnPatch_53 rfl rfl ?_
      refine P_get (q := 57) dX8_turnPatch_54 rfl fX8_55 (by decide) (e0) rfl ?_
      refine P_iload_n (q := 58) dX8_turnPatch_57 rfl rfl ?_
      refine P_iald (q := 59) (j := k) dX8_turnPatch_58 rfl (by decide) (e130) (rfl) (by omega) (by decide) ?_
      rw [hh k p hp]
      refine P_iconst (q := 60) (v := nI 3) dX8_turnPatch_59 rfl (by decide +kernel) ?_
      refine P_idiv (q := 61) dX8_turnPatch_60 rfl (by decide) ?_
      rw [h3.1]
      refine P_cv0 (q := 64) dX8_turnPatch_61 rfl kX8_187 (ht) rfl rfl (by decide) (e0) rfl ⟨by decide, by decide⟩ (Nat.le_of_ble_eq_true rfl) ⟨Nat.le_refl _, Nat.le_refl _⟩ ?_
      refine P_iinc (q := 67) (L' := [_, _, _, _]) (v := nI (k + 1)) dX8_turnPatch_64 rfl (by decide) rfl (nI_1 k) rfl ?_
      refine P_goto (tgt := 36) dX8_turnPatch_67 (by decide) ?_
      exact ih (k + 1) (by omega) _ _ (hs.up rfl) (up_at _ _ _) hRA2
set_option maxRecDepth 100000 in
set_option maxHeartbeats 4000000 in
theorem r_patch {σ : Sto} {w : Cs} (hW : MW σ w) {r0 : Int} (r01 : -2147483648 ≤ r0) (r02 : r0 < 2147483648) {c0 : Int} (c01 : -2147483648 ≤ c0) (c02 : c0 < 2147483648) : CP mX8_turnPatch 0 0 [.ref 114, .int (iI r0), .int (iI c0)] 132 σ (MK σ (oPatch w r0 c0)) := by
  obtain ⟨⟨pl, sp0, rc, rr, h0⟩, hX, hAR, hl, ⟨gh, h117, hH⟩, hSn, hn, gt, t131, tch⟩ := id hW
  have hM := hW.mo
  obtain ⟨hA, g, h1, hR⟩ := id hX
  have hC := hA.1
  have hRr := hA.2.1
  have ir := m_isRow hM hX r01 r02
  have ic := m_isColumn hM hX c01 c02
  have no : ¬ (0 ≤ r0 ∧ r0 < w.A.R ∧ 0 ≤ c0 ∧ c0 < w.A.C) → MK σ (oPatch w r0 c0) (some (.int (iI (-1001)))) σ := fun h => by
    unfold oPatch
    rw [if_neg (show ¬ w.A.inB r0 c0 = true from fun q => h (of_decide_eq_true q))]
    exact MK.stay hW
  refine CP_of (by decide +kernel) (Nat.le_of_ble_eq_true rfl) ?_
  change PW _ _ _ _ 0 [_, _, _, _] [] _ _ _ _
  refine P_aload_n (q := 1) dX8_turnPatch_0 rfl rfl ?_
  refine P_iload_n (q := 2) dX8_turnPatch_1 rfl rfl ?_
  refine P_cv1 (q := 5) dX8_turnPatch_2 rfl kX8_109 (ir) rfl rfl (by decide) (h0) rfl ⟨by decide, by decide⟩ (Nat.le_of_ble_eq_true rfl) ⟨Nat.le_refl _, Nat.le_refl _⟩ ?_
  refine P_if_eq (q := 8) (tgt := 16) dX8_turnPatch_5 rfl (by decide) (fun c_5 => ?_) (fun c_5 => ?_)
  · rw [bI_0] at c_5
    have c_5 := of_decide_eq_false c_5
    refine P_sipush (q := 19) (v := iI (-1001)) dX8_turnPatch_16 rfl (by decide +kernel) ?_
    refine P_iret dX8_turnPatch_19 rfl (rfl) ?_
    exact no (by omega)
  · rw [bI_n] at c_5
    have c_5 := of_decide_eq_true c_5
    refine P_aload_n (q := 9) dX8_turnPatch_8 rfl rfl ?_
    refine P_iload_n (q := 10) dX8_turnPatch_9 rfl rfl ?_
    refine P_cv1 (q := 13) dX8_turnPatch_10 rfl kX8_81 (ic) rfl rfl (by decide) (h0) rfl ⟨by decide, by decide⟩ (Nat.le_of_ble_eq_true rfl) ⟨Nat.le_refl _, Nat.le_refl _⟩ ?_
    refine P_if_ne (q := 16) (tgt := 20) dX8_turnPatch_13 rfl (by decide) (fun c_13 => ?_) (fun c_13 => ?_)
    · rw [bI_n] at c_13
      have c_13 := of_decide_eq_true c_13
      have hin : w.A.inB r0 c0 = true := decide_eq_true (by omega)
      obtain ⟨r, c, rfl, rfl, hr, hc⟩ := inB_n hin
      rw [← iI_nI, ← iI_nI]
      refine P_aload_n (q := 21) dX8_turnPatch_20 rfl rfl ?_
      obtain ⟨gk, h116⟩ := hAR 116 (by decide) (by decide)
      change σ 116 = pI .int 46 gk at h116
      refine P_cv0 (q := 24) dX8_turnPatch_21 rfl kX8_169 (m_rem hM h1 h116) rfl rfl (by decide) (h0) rfl ⟨by decide, by decide⟩ (Nat.le_of_ble_eq_true rfl) ⟨Nat.le_refl _, Nat.le_refl _⟩ ?_
      generalize hσ1 : va_up σ 116 (pI .int 46 (flC g gk 46)) = σ1
      have q0 : σ1 114 = moO w.H.length w.Sn.isSome.toNat pl w.n sp0 rc rr := by rw [← hσ1]; exact (up_ne _ _ (by omega)).trans h0
      have q1 : σ1 115 = pI .int 46 g := by rw [← hσ1]; exact (up_ne _ _ (by omega)).trans h1
      have q116 : σ1 116 = pI .int 46 (flC g gk 46) := by rw [← hσ1]; exact up_at _ _ _
      have qR := RA_flC (g := gk) hA hR
      have qs : same σ σ1 (fun i => i = 114 ∨ i = 115 ∨ i = 116 ∨ (119 ≤ i ∧ i ≤ 130)) := by rw [← hσ1]; exact same.rf.up (by omega)
      have qAR : AR σ1 := by rw [← hσ1]; exact hAR.up (a := 116)
      have qM : MO σ1 := ⟨_, _, _, _, _, _, _, q0⟩
      obtain ⟨gm, h129⟩ := qAR 129 (by decide) (by decide)
      change σ1 129 = pI .int 30 gm at h129
      obtain ⟨gp, h130⟩ := qAR 130 (by decide) (by decide)
      change σ1 130 = pI .int 30 gp at h130
      refine P_aload_n (q := 25) dX8_turnPatch_24 rfl rfl ?_
      refine P_cv0 (q := 28) dX8_turnPatch_25 rfl kX8_156 (m_forgets qM h129) rfl rfl (by decide) (q0) rfl ⟨by decide, by decide⟩ (Nat.le_of_ble_eq_true rfl) ⟨Nat.le_refl _, Nat.le_refl _⟩ ?_
      generalize hσ2 : va_up σ1 129 (pI .int 30 (flC (fun _ => nI 0) gm 30)) = σ2
      have t1 : same σ1 σ2 (fun i => i = 114 ∨ i = 129 ∨ i = 130) := by rw [← hσ2]; exact same.rf.up (Or.inr (Or.inl rfl))
      have e1 : σ2 114 = moO w.H.length w.Sn.isSome.toNat pl w.n sp0 rc rr := by rw [← hσ2]; exact (up_ne _ _ (by omega)).trans q0
      have x1 : XA σ2 w.A := XA.of ((t1 115 (by omega)).trans q1) hA hR
      have p1 : XP σ2 0 [] := XP_0 (by rw [← hσ2]; exact up_at _ _ _) (by rw [← hσ2]; exact (up_ne _ _ (by omega)).trans h130)
      refine P_aload_n (q := 29) dX8_turnPatch_28 rfl rfl ?_
      refine P_iload_n (q := 30) dX8_turnPatch_29 rfl rfl ?_
      refine P_iload_n (q := 31) dX8_turnPatch_30 rfl rfl ?_
      refine P_callv (q := 34) dX8_turnPatch_31 rfl (m_finds x1 e1 p1 (cld_0 w.A) hr hc (Nat.zero_testBit _)) kX8_162 rfl rfl (by decide) (e1) rfl ⟨by decide, by decide⟩ (Nat.le_of_ble_eq_true rfl) ⟨Nat.le_refl _, Nat.le_refl _⟩ ?_
      rintro v σ3 ⟨rfl, l, e2, p2, t2, hL, hbm⟩
      have t13 := t1.trans t2
      have hPm := pIt_sub hA hc hr 30
      obtain ⟨-, hp2, f130, fh⟩ := id p2
      refine P_iconst (q := 35) (v := nI 0) dX8_turnPatch_34 rfl (by decide +kernel) ?_
      refine P_istore_n (q := 36) (L' := [_, _, _, _]) dX8_turnPatch_35 rfl (by decide) rfl ?_
      refine w_tp hA hPm hL e2 f130 fh (fun σ4 g4 s4 r1 hRB x => ?_) l.length 0 (Nat.zero_add _) σ3 g same.rf ((t13 115 (by omega)).trans q1) (by rw [List.take_zero, show bm [] = 0 from rfl, flip_0]; exact hR)
      rw [hbm] at hRB
      have p0 := (s4 114 (by omega)).trans e2
      have p1 := r1
      have t14 : same σ1 σ4 (fun i => i = 114 ∨ i = 115 ∨ i = 129 ∨ i = 130) := (t13.mono (fun i h => by omega)).trans (s4.mono (fun i h => by omega))
      have p116 := (t14 116 (by omega)).trans q116
      have ps : same σ σ4 (fun i => i = 114 ∨ i = 115 ∨ i = 116 ∨ (119 ≤ i ∧ i ≤ 130)) := qs.trans (t14.mono (fun i h => by omega))
      have hB : (w.A.flip (w.A.pIt (4 * c + r) 30)).ok := St.flip_ok hA hPm
      have qAR3 := AR_XP qAR t13 p2
      have pAR : AR σ4 := fun k a b => by
        by_cases e : k = 115
        · subst e; exact ⟨g4, p1⟩
        · obtain ⟨q, hq⟩ := qAR3 k a b
          exact ⟨q, (s4 k e).trans hq⟩
      refine P_aload_n (q := 71) dX8_turnPatch_70 rfl rfl ?_
      refine P_aload_n (q := 72) dX8_turnPatch_71 rfl rfl ?_
      refine P_get (q := 75) dX8_turnPatch_72 rfl fX8_149 (by decide) (p0) rfl ?_
      refine P_callv (q := 78) dX8_turnPatch_75 rfl (m_acted (x := nI l.length) hA p116 qR hl p0 ((ps 117 (by omega)).trans h117) hH) kX8_172 rfl rfl (by decide) (p0) rfl ⟨by decide, by decide⟩ (Nat.le_of_ble_eq_true rfl) ⟨Nat.le_refl _, Nat.le_refl _⟩ ?_
      rintro v σ3 ⟨rfl, s3, e3, g3, e117, hH3⟩
      have fin := hW.act ps p1 hB hRB pAR s3 e3 e117 hH3
      refine P_iret dX8_turnPatch_78 rfl (rfl) ?_
      unfold oPatch
      rw [if_pos hin]
      simp only [Int.toNat_natCast]
      have ee : pcN 64 (w.A.pIt (4 * c + r) 30) = l.length := by rw [← hbm, hL.1]
      rw [ee]
      exact ⟨rfl, fin⟩
    · rw [bI_0] at c_13
      have c_13 := of_decide_eq_false c_13
      refine P_sipush (q := 19) (v := iI (-1001)) dX8_turnPatch_16 rfl (by decide +kernel) ?_
      refine P_iret dX8_turnPatch_19 rfl (rfl) ?_
      exact no (by omega)
