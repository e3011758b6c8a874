set_option maxRecDepth 100000 in
set_option maxHeartbeats 4000000 in
theorem r_heat_true {σ : Sto} {w : Cs} (hW : MW σ w) {h : Nat} (h0 : 50 ≤ h) (h1 : h ≤ 100) : PW mX8_heat 0 0 (MK σ (oHeat w ((h : Nat) : Int) true)) 16 [some (.ref 114), some (.int (nI h)), some (.int (bI true)), none, none, none, none, none, none] [] 132 σ 0 0 := by
  obtain ⟨⟨pl, sp0, rc, rr, h00⟩, hX, hAR, hl, ⟨gh, h117, hH⟩, hSn, hn, gt, t131, tch⟩ := id hW
  have hM := hW.mo
  obtain ⟨hA, g, h115, hR⟩ := id hX
  have hC := hA.1
  have hRr := hA.2.1
  have x119 : ∃ g : Nat → Int32, σ 119 = pI .int 401 g := hAR 119 (by decide) (by decide)
  have x120 : ∃ g : Nat → Int32, σ 120 = pI .int 3208 g := hAR 120 (by decide) (by decide)
  have x121 : ∃ g : Nat → Int32, σ 121 = pI .int 3208 g := hAR 121 (by decide) (by decide)
  obtain ⟨m, m1, m2, -⟩ := hS_fz hA h1
  obtain ⟨s3, m3, z2, z3⟩ := hE_fz hA h1
  have n2 := z2.nan
  obtain ⟨l, hi, p1, p2, p3, p4, p5, -⟩ := en_pt hA
  obtain ⟨y1, y2, y3⟩ := eK_1 hA
  have hcall := m_call (w := false) hM hX x119 x120 x121
  refine P_aload_n (q := 17) dX8_heat_16 rfl rfl ?_
  refine P_iconst (q := 18) (v := (bI false)) dX8_heat_17 rfl (by decide +kernel) ?_
  refine P_callv (q := 21) dX8_heat_18 rfl (hcall) kX8_120 rfl rfl (by decide) (h00) rfl ⟨by decide, by decide⟩ (Nat.le_of_ble_eq_true rfl) ⟨Nat.le_refl _, Nat.le_refl _⟩ ?_
  rintro v σ1 ⟨rfl, t1, q120, q121, hG⟩
  have hW1 := hW.cts t1 hG.ex q120 q121
  have hM1 := hW1.mo
  have e0 := (t1 114 (by omega)).trans h00
  obtain ⟨g1, q119, hg⟩ := id hG
  have hg : ∀ y, y < 401 → g1 y = nI (w.A.CE false ((y : Int) - 200)) := hg
  have lp : ∀ (d k : Nat) (x : Option Value), k + d = w.A.eK → PW mX8_heat 0 0 (MK σ (oHeat w ((h : Nat) : Int) true)) 42 [some (.ref 114), some (.int (nI h)), some (.int (bI true)), some (.float (hB h)), some (.float (fW (hB h) k)), some (.float (fS w.A.en (hB h) k)), some (.float (fE w.A.en (hB h) w.A.eL k)), some (.int (iI (w.A.eL + ((k : Nat) : Int)))), x] [] 132 σ1 0 0 := by
    intro d
    induction d with
    | zero =>
      intro k x hk
      have ek : k = w.A.eK := by omega
      refine P_iload (q := 44) dX8_heat_42 rfl rfl ?_
      refine P_aload_n (q := 45) dX8_heat_44 rfl rfl ?_
      refine P_cv1 (q := 48) dX8_heat_45 rfl kX8_244 (m_greatest hM1 hA hG) rfl rfl (by decide) (e0) rfl ⟨by decide, by decide⟩ (Nat.le_of_ble_eq_true rfl) ⟨Nat.le_refl _, Nat.le_refl _⟩ ?_
      refine P_icmp_gt (q := 51) (tgt := 98) dX8_heat_48 rfl (by decide) (fun c_48 => ?_) (fun c_48 => ?_)
      · rw [ek]
        refine P_iload_n (q := 99) dX8_heat_98 rfl rfl ?_
        refine P_if_eq (q := 102) (tgt := 110) dX8_heat_99 rfl (by decide) (fun c_99 => ?_) (fun c_99 => ?_)
        · exact absurd c_99 (by decide)
        · refine P_fload (q := 104) dX8_heat_102 rfl rfl ?_
          refine P_fload (q := 106) dX8_heat_104 rfl rfl ?_
          refine P_fdiv (q := 107) dX8_heat_106 rfl (n2) ?_
          refine P_goto (tgt := 112) dX8_heat_107 (by decide) ?_
          refine P_cs1 (q := 115) dX8_heat_112 rfl kX8_247 (t_f2ib z2) rfl rfl ⟨by decide, by decide⟩ (Nat.le_of_ble_eq_true rfl) ⟨Nat.le_refl _, Nat.le_refl _⟩ ?_
          refine P_iret dX8_heat_115 rfl (rfl) ?_
          refine ⟨?_, hW1, t1.mono (fun i h => by omega)⟩
          unfold oHeat
          rw [Int.toNat_natCast, if_pos ⟨by omega, by omega⟩, if_pos rfl]
      · exfalso; have c_48 : ¬ iI w.A.eH < iI (w.A.eL + ((k : Nat) : Int)) := c_48; rw [iI_lt (by omega) (by omega) (by omega) (by omega)] at c_48; omega
    | succ d ih =>
      intro k x hk
      have hn := fU_nan hA h1 (k := k) (by omega)
      refine P_iload (q := 44) dX8_heat_42 rfl rfl ?_
      refine P_aload_n (q := 45) dX8_heat_44 rfl rfl ?_
      refine P_cv1 (q := 48) dX8_heat_45 rfl kX8_244 (m_greatest hM1 hA hG) rfl rfl (by decide) (e0) rfl ⟨by decide, by decide⟩ (Nat.le_of_ble_eq_true rfl) ⟨Nat.le_refl _, Nat.le_refl _⟩ ?_
      refine P_icmp_gt (q := 51) (tgt := 98) dX8_heat_48 rfl (by decide) (fun c_48 => ?_) (fun c_48 => ?_)
      · exfalso; have c_48 : iI w.A.eH < iI (w.A.eL + ((k : Nat) : Int)) := c_48; rw [iI_lt (by omega) (by omega) (by omega) (by omega)] at c_48; omega
      · refine P_aload_n (q := 52) dX8_heat_51 rfl rfl ?_
        refine P_get (q := 55) dX8_heat_52 rfl fX8_22 (by decide) (e0) rfl ?_
        refine P_sipush (q := 58) (v := nI 200) dX8_heat_55 rfl (by decide +kernel) ?_
        refine P_iload (q := 60) dX8_heat_58 rfl rfl ?_
        refine P_iadd (q := 61) dX8_heat_60 rfl ?_
        rw [ni_add (a := 200) (b := l + k) (m := w.A.eL + ((k : Nat) : Int)) (by omega)]
        refine P_iald (q := 62) (j := l + k) dX8_heat_61 rfl (by decide) (q119) (rfl) (by omega) (by decide) ?_
        rw [hg (l + k) (by omega), show w.A.CE false (((l + k : Nat) : Int) - 200) = w.A.en k from congrArg (w.A.CE false) (by omega)]
        refine P_i2f (q := 63) dX8_heat_62 rfl ?_
        refine P_fload (q := 65) dX8_heat_63 rfl rfl ?_
        refine P_fmul (q := 66) dX8_heat_65 rfl (hn.1) ?_
        rw [show FP.fmul (FP.i2f (nI (w.A.en k))) (fW (hB h) k) = fT w.A.en (hB h) k from rfl]
        refine P_fstore (q := 68) (L' := [_, _, _, _, _, _, _, _, _]) dX8_heat_66 rfl (by decide) rfl ?_
        refine P_fload (q := 70) dX8_heat_68 rfl rfl ?_
        refine P_fload (q := 72) dX8_heat_70 rfl rfl ?_
        refine P_fadd (q := 73) dX8_heat_72 rfl (hn.2.2.1) ?_
        rw [show FP.fadd (fS w.A.en (hB h) k) (fT w.A.en (hB h) k) = fS w.A.en (hB h) (k + 1) from rfl]
        refine P_fstore (q := 75) (L' := [_, _, _, _, _, _, _, _, _]) dX8_heat_73 rfl (by decide) rfl ?_
        refine P_fload (q := 77) dX8_heat_75 rfl rfl ?_
        refine P_fload (q := 79) dX8_heat_77 rfl rfl ?_
        refine P_iload (q := 81) dX8_heat_79 rfl rfl ?_
        refine P_i2f (q := 82) dX8_heat_81 rfl ?_
        refine P_fmul (q := 83) dX8_heat_82 rfl (hn.2.1) ?_
        rw [show FP.fmul (fT w.A.en (hB h) k) (FP.i2f (iI (w.A.eL + ((k : Nat) : Int)))) = fU w.A.en (hB h) w.A.eL k from rfl]
        refine P_fadd (q := 84) dX8_heat_83 rfl (hn.2.2.2.1) ?_
        rw [show FP.fadd (fE w.A.en (hB h) w.A.eL k) (fU w.A.en (hB h) w.A.eL k) = fE w.A.en (hB h) w.A.eL (k + 1) from rfl]
        refine P_fstore (q := 86) (L' := [_, _, _, _, _, _, _, _, _]) dX8_heat_84 rfl (by decide) rfl ?_
        refine P_fload (q := 88) dX8_heat_86 rfl rfl ?_
        refine P_fload_n (q := 89) dX8_heat_88 rfl rfl ?_
        refine P_fmul (q := 90) dX8_heat_89 rfl (hn.2.2.2.2) ?_
        rw [show FP.fmul (fW (hB h) k) (hB h) = fW (hB h) (k + 1) from rfl]
        refine P_fstore (q := 92) (L' := [_, _, _, _, _, _, _, _, _]) dX8_heat_90 rfl (by decide) rfl ?_
        refine P_iinc (q := 95) (L' := [_, _, _, _, _, _, _, _, _]) (v := iI (w.A.eL + ((k + 1 : Nat) : Int))) dX8_heat_92 rfl (by decide) rfl ((iI_add _ 1).trans (congrArg iI (by omega))) rfl ?_
        refine P_goto (tgt := 42) dX8_heat_95 (by decide) ?_
        exact ih (k + 1) _ (by omega)
  refine P_iload_n (q := 22) dX8_heat_21 rfl rfl ?_
  refine P_i2f (q := 23) dX8_heat_22 rfl ?_
  refine P_ldcf (q := 25) dX8_heat_23 rfl qX8_240 ?_
  refine P_fdiv (q := 26) dX8_heat_25 rfl ((hB_fz h1).nan) ?_
  rw [show FP.fdiv (FP.i2f (nI h)) (1120403456 : UInt32) = hB h from rfl]
  refine P_fstore_n (q := 27) (L' := [_, _, _, _, _, _, _, _, _]) dX8_heat_26 rfl (by decide) rfl ?_
  refine P_fconst1 (q := 28) dX8_heat_27 rfl ?_
  refine P_fstore (q := 30) (L' := [_, _, _, _, _, _, _, _, _]) dX8_heat_28 rfl (by decide) rfl ?_
  refine P_fconst0 (q := 31) dX8_heat_30 rfl ?_
  refine P_fstore (q := 33) (L' := [_, _, _, _, _, _, _, _, _]) dX8_heat_31 rfl (by decide) rfl ?_
  refine P_fconst0 (q := 34) dX8_heat_33 rfl ?_
  refine P_fstore (q := 36) (L' := [_, _, _, _, _, _, _, _, _]) dX8_heat_34 rfl (by decide) rfl ?_
  refine P_aload_n (q := 37) dX8_heat_36 rfl rfl ?_
  refine P_cv1 (q := 40) dX8_heat_37 rfl kX8_241 (m_least hM1 hA hG) rfl rfl (by decide) (e0) rfl ⟨by decide, by decide⟩ (Nat.le_of_ble_eq_true rfl) ⟨Nat.le_refl _, Nat.le_refl _⟩ ?_
  refine P_istore (q := 42) (L' := [_, _, _, _, _, _, _, _, _]) dX8_heat_40 rfl (by decide) rfl ?_
  have l0 := lp w.A.eK 0 none (by omega)
  rw [show w.A.eL + ((0 : Nat) : Int) = w.A.eL by omega] at l0
  exact l0
set_option maxRecDepth 100000 in
set_option maxHeartbeats 4000000 in
theorem r_heat_false {σ : Sto} {w : Cs} (hW : MW σ w) {h : Nat} (h0 : 50 ≤ h) (h1 : h ≤ 100) : PW mX8_heat 0 0 (MK σ (oHeat w ((h : Nat) : Int) false)) 16 [some (.ref 114), some (.int (nI h)), some (.int (bI false)), none, none, none, none, none, none] [] 132 σ 0 0 := by
  obtain ⟨⟨pl, sp0, rc, rr, h00⟩, hX, hAR, hl, ⟨gh, h117, hH⟩, hSn, hn, gt, t131, tch⟩ := id hW
  have hM := hW.mo
  obtain ⟨hA, g, h115, hR⟩ := id hX
  have hC := hA.1
  have hRr := hA.2.1
  have x119 : ∃ g : Nat → Int32, σ 119 = pI .int 401 g := hAR 119 (by decide) (by decide)
  have x120 : ∃ g : Nat → Int32, σ 120 = pI .int 3208 g := hAR 120 (by decide) (by decide)
  have x121 : ∃ g : Nat → Int32, σ 121 = pI .int 3208 g := hAR 121 (by decide) (by decide)
  obtain ⟨m, m1, m2, -⟩ := hS_fz hA h1
  obtain ⟨s3, m3, z2, z3⟩ := hE_fz hA h1
  have n2 := z2.nan
  obtain ⟨l, hi, p1, p2, p3, p4, p5, -⟩ := en_pt hA
  obtain ⟨y1, y2, y3⟩ := eK_1 hA
  have hcall := m_call (w := false) hM hX x119 x120 x121
  refine P_aload_n (q := 17) dX8_heat_16 rfl rfl ?_
  refine P_iconst (q := 18) (v := (bI false)) dX8_heat_17 rfl (by decide +kernel) ?_
  refine P_callv (q := 21) dX8_heat_18 rfl (hcall) kX8_120 rfl rfl (by decide) (h00) rfl ⟨by decide, by decide⟩ (Nat.le_of_ble_eq_true rfl) ⟨Nat.le_refl _, Nat.le_refl _⟩ ?_
  rintro v σ1 ⟨rfl, t1, q120, q121, hG⟩
  have hW1 := hW.cts t1 hG.ex q120 q121
  have hM1 := hW1.mo
  have e0 := (t1 114 (by omega)).trans h00
  obtain ⟨g1, q119, hg⟩ := id hG
  have hg : ∀ y, y < 401 → g1 y = nI (w.A.CE false ((y : Int) - 200)) := hg
  have lp : ∀ (d k : Nat) (x : Option Value), k + d = w.A.eK → PW mX8_heat 0 0 (MK σ (oHeat w ((h : Nat) : Int) false)) 42 [some (.ref 114), some (.int (nI h)), some (.int (bI false)), some (.float (hB h)), some (.float (fW (hB h) k)), some (.float (fS w.A.en (hB h) k)), some (.float (fE w.A.en (hB h) w.A.eL k)), some (.int (iI (w.A.eL + ((k : Nat) : Int)))), x] [] 132 σ1 0 0 := by
    intro d
    induction d with
    | zero =>
      intro k x hk
      have ek : k = w.A.eK := by omega
      refine P_iload (q := 44) dX8_heat_42 rfl rfl ?_
      refine P_aload_n (q := 45) dX8_heat_44 rfl rfl ?_
      refine P_cv1 (q := 48) dX8_heat_45 rfl kX8_244 (m_greatest hM1 hA hG) rfl rfl (by decide) (e0) rfl ⟨by decide, by decide⟩ (Nat.le_of_ble_eq_true rfl) ⟨Nat.le_refl _, Nat.le_refl _⟩ ?_
      refine P_icmp_gt (q := 51) (tgt := 98) dX8_heat_48 rfl (by decide) (fun c_48 => ?_) (fun c_48 => ?_)
      · rw [ek]
        refine P_iload_n (q := 99) dX8_heat_98 rfl rfl ?_
        refine P_if_eq (q := 102) (tgt := 110) dX8_heat_99 rfl (by decide) (fun c_99 => ?_) (fun c_99 => ?_)
        · refine P_fload (q := 112) dX8_heat_110 rfl rfl ?_
          refine P_cs1 (q := 115) dX8_heat_112 rfl kX8_247 (t_f2ib m1) rfl rfl ⟨by decide, by decide⟩ (Nat.le_of_ble_eq_true rfl) ⟨Nat.le_refl _, Nat.le_refl _⟩ ?_
          refine P_iret dX8_heat_115 rfl (rfl) ?_
          refine ⟨?_, hW1, t1.mono (fun i h => by omega)⟩
          unfold oHeat
          rw [Int.toNat_natCast, if_pos ⟨by omega, by omega⟩, if_neg (by decide)]
        · exact absurd rfl c_99
      · exfalso; have c_48 : ¬ iI w.A.eH < iI (w.A.eL + ((k : Nat) : Int)) := c_48; rw [iI_lt (by omega) (by omega) (by omega) (by omega)] at c_48; omega
    | succ d ih =>
      intro k x hk
      have hn := fU_nan hA h1 (k := k) (by omega)
      refine P_iload (q := 44) dX8_heat_42 rfl rfl ?_
      refine P_aload_n (q := 45) dX8_heat_44 rfl rfl ?_
      refine P_cv1 (q := 48) dX8_heat_45 rfl kX8_244 (m_greatest hM1 hA hG) rfl rfl (by decide) (e0) rfl ⟨by decide, by decide⟩ (Nat.le_of_ble_eq_true rfl) ⟨Nat.le_refl _, Nat.le_refl _⟩ ?_
      refine P_icmp_gt (q := 51) (tgt := 98) dX8_heat_48 rfl (by decide) (fun c_48 => ?_) (fun c_48 => ?_)
      · exfalso; have c_48 : iI w.A.eH < iI (w.A.eL + ((k : Nat) : Int)) := c_48; rw [iI_lt (by omega) (by omega) (by omega) (by omega)] at c_48; omega
      · refine P_aload_n (q := 52) dX8_heat_51 rfl rfl ?_
        refine P_get (q := 55) dX8_heat_52 rfl fX8_22 (by decide) (e0) rfl ?_
        refine P_sipush (q := 58) (v := nI 200) dX8_heat_55 rfl (by decide +kernel) ?_
        refine P_iload (q := 60) dX8_heat_58 rfl rfl ?_
        refine P_iadd (q := 61) dX8_heat_60 rfl ?_
        rw [ni_add (a := 200) (b := l + k) (m := w.A.eL + ((k : Nat) : Int)) (by omega)]
        refine P_iald (q := 62) (j := l + k) dX8_heat_61 rfl (by decide) (q119) (rfl) (by omega) (by decide) ?_
        rw [hg (l + k) (by omega), show w.A.CE false (((l + k : Nat) : Int) - 200) = w.A.en k from congrArg (w.A.CE false) (by omega)]
        refine P_i2f (q := 63) dX8_heat_62 rfl ?_
        refine P_fload (q := 65) dX8_heat_63 rfl rfl ?_
        refine P_fmul (q := 66) dX8_heat_65 rfl (hn.1) ?_
        rw [show FP.fmul (FP.i2f (nI (w.A.en k))) (fW (hB h) k) = fT w.A.en (hB h) k from rfl]
        refine P_fstore (q := 68) (L' := [_, _, _, _, _, _, _, _, _]) dX8_heat_66 rfl (by decide) rfl ?_
        refine P_fload (q := 70) dX8_heat_68 rfl rfl ?_
        refine P_fload (q := 72) dX8_heat_70 rfl rfl ?_
        refine P_fadd (q := 73) dX8_heat_72 rfl (hn.2.2.1) ?_
        rw [show FP.fadd (fS w.A.en (hB h) k) (fT w.A.en (hB h) k) = fS w.A.en (hB h) (k + 1) from rfl]
        refine P_fstore (q := 75) (L' := [_, _, _, _, _, _, _, _, _]) dX8_heat_73 rfl (by decide) rfl ?_
        refine P_fload (q := 77) dX8_heat_75 rfl rfl ?_
        refine P_fload (q := 79) dX8_heat_77 rfl rfl ?_
        refine P_iload (q := 81) dX8_heat_79 rfl rfl ?_
        refine P_i2f (q := 82) dX8_heat_81 rfl ?_
        refine P_fmul (q := 83) dX8_heat_82 rfl (hn.2.1) ?_
        rw [show FP.fmul (fT w.A.en (hB h) k) (FP.i2f (iI (w.A.eL + ((k : Nat) : Int)))) = fU w.A.en (hB h) w.A.eL k from rfl]
        refine P_fadd (q := 84) dX8_heat_83 rfl (hn.2.2.2.1) ?_
        rw [show FP.fadd (fE w.A.en (hB h) w.A.eL k) (fU w.A.en (hB h) w.A.eL k) = fE w.A.en (hB h) w.A.eL (k + 1) from rfl]
        refine P_fstore (q := 86) (L' := [_, _, _, _, _, _, _, _, _]) dX8_heat_84 rfl (by decide) rfl ?_
        refine P_fload (q := 88) dX8_heat_86 rfl rfl ?_
        refine P_fload_n (q := 89) dX8_heat_88 rfl rfl ?_
        refine P_fmul (q := 90) dX8_heat_89 rfl (hn.2.2.2.2) ?_
        rw [show FP.fmul (fW (hB h) k) (hB h) = fW (hB h) (k + 1) from rfl]
        refine P_fstore (q := 92) (L' := [_, _, _, _, _, _, _, _, _]) dX8_heat_90 rfl (by decide) rfl ?_
        refine P_iinc (q := 95) (L' := [_, _, _, _, _, _, _, _, _]) (v := iI (w.A.eL + ((k + 1 : Nat) : Int))) dX8_heat_92 rfl (by decide) rfl ((iI_add _ 1).trans (congrArg iI (by omega))) rfl ?_
        refine P_goto (tgt := 42) dX8_heat_95 (by decide) ?_
        exact ih (k + 1) _ (by omega)
  refine P_iload_n (q := 22) dX8_heat_21 rfl rfl ?_
  refine P_i2f (q := 23) dX8_heat_22 rfl ?_
  refine P_ldcf (q := 25) dX8_heat_23 rfl qX8_240 ?_
  refine P_fdiv (q := 26) dX8_heat_25 rfl ((hB_fz h1).nan) ?_
  rw [show FP.fdiv (FP.i2f (nI h)) (1120403456 : UInt32) = hB h from rfl]
  refine P_fstore_n (q := 27) (L' := [_, _, _, _, _, _, _, _, _]) dX8_heat_26 rfl (by decide) rfl ?_
  refine P_fconst1 (q := 28) dX8_heat_27 rfl ?_
  refine P_fstore (q := 30) (L' := [_, _, _, _, _, _, _, _, _]) dX8_heat_28 rfl (by decide) rfl ?_
  refine P_fconst0 (q := 31) dX8_heat_30 rfl ?_
  refine P_fstore (q := 33) (L' := [_, _, _, _, _, _, _, _, _]) dX8_heat_31 rfl (by decide) rfl ?_
  refine P_fconst0 (q := 34) dX8_heat_33 rfl ?_
  refine P_fstore (q := 36) (L' := [_, _, _, _, _, _, _, _, _]) dX8_heat_34 rfl (by decide) rfl ?_
  refine P_aload_n (q := 37) dX8_heat_36 rfl rfl ?_
  refine P_cv1 (q := 40) dX8_heat_37 rfl kX8_241 (m_least hM1 hA hG) rfl rfl (by decide) (e0) rfl ⟨by decide, by decide⟩ (Nat.le_of_ble_eq_true rfl) ⟨Nat.le_refl _, Nat.le_refl _⟩ ?_
  refine P_istore (q := 42) (L' := [_, _, _, _, _, _, _, _, _]) dX8_heat_40 rfl (by decide) rfl ?_
  have l0 := lp w.A.eK 0 none (by omega)
  rw [show w.A.eL + ((0 : Nat) : Int) = w.A.eL by omega] at l0
  exact l0
set_option maxRecDepth 100000 in
set_option maxHeartbeats 4000000 in
theorem r_heat {σ : Sto} {w : Cs} (hW : MW σ w) {z : Int} (z1 : -2147483648 ≤ z) (z2 : z < 2147483648) (b : Bool) : CP mX8_heat 0 0 [.ref 114, .int (iI z), .int (bI b)] 132 σ (MK σ (oHeat w z b)) := by
  have i1 := fun (σ : Sto) => m_in (n0 := 132) (σ := σ) (v := z) (a := 50) (b := 100) (by omega) (by omega) (by omega) (by omega) (by omega) (by omega)
  refine CP_of (by decide +kernel) (Nat.le_of_ble_eq_true rfl) ?_
  change PW _ _ _ _ 0 [_, _, _, _, _, _, _, _, _] [] _ _ _ _
  refine P_iload_n (q := 1) dX8_heat_0 rfl rfl ?_
  refine P_i2l (q := 2) dX8_heat_1 rfl ?_
  rw [i2l_I z1 z2]
  refine P_ldc2 (q := 5) dX8_heat_2 rfl qX8_193 ?_
  refine P_ldc2 (q := 8) dX8_heat_5 rfl qX8_238 ?_
  refine P_cs1 (q := 11) dX8_heat_8 rfl kX8_73 (i1 _) rfl rfl ⟨by decide, by decide⟩ (Nat.le_of_ble_eq_true rfl) ⟨Nat.le_refl _, Nat.le_refl _⟩ ?_
  refine P_if_ne (q := 14) (tgt := 16) dX8_heat_11 rfl (by decide) (fun c_11 => ?_) (fun c_11 => ?_)
  · rw [bI_n] at c_11
    have c_11 := of_decide_eq_true c_11
    obtain ⟨h, rfl⟩ : ∃ h : Nat, z = h := ⟨z.toNat, by omega⟩
    rw [← iI_nI]
    cases b with
    | true => exact r_heat_true hW (by omega) (by omega)
    | false => exact r_heat_false hW (by omega) (by omega)
  · rw [bI_0] at c_11
    have c_11 := of_decide_eq_false c_11
    refine P_iconst (q := 15) (v := nI 0) dX8_heat_14 rfl (by decide +kernel) ?_
    refine P_iret dX8_heat_15 rfl (rfl) ?_
    have e : oHeat w z b = (nI 0, w) := by
      unfold oHeat
      rw [if_neg (by omega)]; rfl
    rw [e]
    exact MK.stay hW
