/-! THE REFERENCE: count -/
set_option maxRecDepth 100000 in
set_option maxHeartbeats 4000000 in
theorem r_count {σ : Sto} {w : Cs} (hW : MW σ w) {k0 : Int} (k01 : -2147483648 ≤ k0) (k02 : k0 < 2147483648) : CP mX8_count 0 0 [.ref 114, .int (iI k0)] 132 σ (MK σ (oCount w k0)) := by
  obtain ⟨⟨pl, sp0, rc, rr, h0⟩, hX, hAR, hl, ⟨gh, h117, hH⟩, hSn, hn, gt, t131, tch⟩ := id hW
  have hM := hW.mo
  obtain ⟨hA, g, h1, hR⟩ := id hX
  have hC := hA.1
  have hRr := hA.2.1
  refine CP_of (by decide +kernel) (Nat.le_of_ble_eq_true rfl) ?_
  change PW _ _ _ _ 0 [_, _] [] _ _ _ _
  refine P_iload_n (q := 1) dX8_count_0 rfl rfl ?_
  by_cases hk : k0 < 0 ∨ 16 < k0
  · refine P_tabOut (tgt := 157) dX8_count_1 (by rw [iI_toInt (by omega) (by omega)]; exact hk) (by decide) ?_
    refine P_sipush (q := 160) (v := iI (-1002)) dX8_count_157 rfl (by decide +kernel) ?_
    refine P_iret dX8_count_160 rfl (rfl) ?_
    have e : oCountK w k0 = iI (-1002) := by unfold oCountK; simp only [if_neg (show ¬ k0 = 0 by omega), if_neg (show ¬ k0 = 1 by omega), if_neg (show ¬ k0 = 2 by omega), if_neg (show ¬ k0 = 3 by omega), if_neg (show ¬ k0 = 4 by omega), if_neg (show ¬ k0 = 5 by omega), if_neg (show ¬ k0 = 6 by omega), if_neg (show ¬ k0 = 7 by omega), if_neg (show ¬ k0 = 8 by omega), if_neg (show ¬ k0 = 9 by omega), if_neg (show ¬ k0 = 10 by omega), if_neg (show ¬ k0 = 11 by omega), if_neg (show ¬ k0 = 12 by omega), if_neg (show ¬ k0 = 13 by omega), if_neg (show ¬ k0 = 14 by omega), if_neg (show ¬ k0 = 15 by omega), if_neg (show ¬ k0 = 16 by omega)]
    unfold oCount
    rw [e]
    exact MK.stay hW
  · have hk17 : k0 = 0 ∨ k0 = 1 ∨ k0 = 2 ∨ k0 = 3 ∨ k0 = 4 ∨ k0 = 5 ∨ k0 = 6 ∨ k0 = 7 ∨ k0 = 8 ∨ k0 = 9 ∨ k0 = 10 ∨ k0 = 11 ∨ k0 = 12 ∨ k0 = 13 ∨ k0 = 14 ∨ k0 = 15 ∨ k0 = 16 := by omega
    rcases hk17 with rfl | rfl | rfl | rfl | rfl | rfl | rfl | rfl | rfl | rfl | rfl | rfl | rfl | rfl | rfl | rfl | rfl
    · refine P_tabIn (tgt := 84) dX8_count_1 (by decide) (by decide) (show _ = some 83 from rfl) (by decide) ?_
      refine P_aload_n (q := 85) dX8_count_84 rfl rfl ?_
      refine P_get (q := 88) dX8_count_85 rfl fX8_7 (by decide) (h0) rfl ?_
      refine P_iload_n (q := 89) dX8_count_88 rfl rfl ?_
      refine P_iald (q := 90) (j := 0) dX8_count_89 rfl (by decide) (h1) (by decide +kernel) (by omega) (by decide) ?_
      rw [hR.1]
      refine P_iret dX8_count_90 rfl (rfl) ?_
      exact MK.stay hW
    · refine P_tabIn (tgt := 84) dX8_count_1 (by decide) (by decide) (show _ = some 83 from rfl) (by decide) ?_
      refine P_aload_n (q := 85) dX8_count_84 rfl rfl ?_
      refine P_get (q := 88) dX8_count_85 rfl fX8_7 (by decide) (h0) rfl ?_
      refine P_iload_n (q := 89) dX8_count_88 rfl rfl ?_
      refine P_iald (q := 90) (j := 1) dX8_count_89 rfl (by decide) (h1) (by decide +kernel) (by omega) (by decide) ?_
      rw [hR.2.1]
      refine P_iret dX8_count_90 rfl (rfl) ?_
      exact MK.stay hW
    · refine P_tabIn (tgt := 84) dX8_count_1 (by decide) (by decide) (show _ = some 83 from rfl) (by decide) ?_
      refine P_aload_n (q := 85) dX8_count_84 rfl rfl ?_
      refine P_get (q := 88) dX8_count_85 rfl fX8_7 (by decide) (h0) rfl ?_
      refine P_iload_n (q := 89) dX8_count_88 rfl rfl ?_
      refine P_iald (q := 90) (j := 2) dX8_count_89 rfl (by decide) (h1) (by decide +kernel) (by omega) (by decide) ?_
      rw [hR.2.2.1]
      refine P_iret dX8_count_90 rfl (rfl) ?_
      exact MK.stay hW
    · refine P_tabIn (tgt := 91) dX8_count_1 (by decide) (by decide) (show _ = some 90 from rfl) (by decide) ?_
      refine P_aload_n (q := 92) dX8_count_91 rfl rfl ?_
      refine P_cv1 (q := 95) dX8_count_92 rfl kX8_175 (m_energy hM hX) rfl rfl (by decide) (h0) rfl ⟨by decide, by decide⟩ (Nat.le_of_ble_eq_true rfl) ⟨Nat.le_refl _, Nat.le_refl _⟩ ?_
      refine P_iret dX8_count_95 rfl (rfl) ?_
      exact MK.stay hW
    · refine P_tabIn (tgt := 96) dX8_count_1 (by decide) (by decide) (show _ = some 95 from rfl) (by decide) ?_
      refine P_aload_n (q := 97) dX8_count_96 rfl rfl ?_
      refine P_iconst (q := 98) (v := (bI true)) dX8_count_97 rfl (by decide +kernel) ?_
      refine P_cv1 (q := 101) dX8_count_98 rfl kX8_102 (m_strip_true hM hX) rfl rfl (by decide) (h0) rfl ⟨by decide, by decide⟩ (Nat.le_of_ble_eq_true rfl) ⟨Nat.le_refl _, Nat.le_refl _⟩ ?_
      refine P_iret dX8_count_101 rfl (rfl) ?_
      rw [tot_WL]
      exact MK.stay hW
    · refine P_tabIn (tgt := 102) dX8_count_1 (by decide) (by decide) (show _ = some 101 from rfl) (by decide) ?_
      refine P_aload_n (q := 103) dX8_count_102 rfl rfl ?_
      refine P_cv1 (q := 106) dX8_count_103 rfl kX8_253 (m_upsNow hM hX) rfl rfl (by decide) (h0) rfl ⟨by decide, by decide⟩ (Nat.le_of_ble_eq_true rfl) ⟨Nat.le_refl _, Nat.le_refl _⟩ ?_
      refine P_iret dX8_count_106 rfl (rfl) ?_
      rw [← un_U hA]
      exact MK.stay hW
    · refine P_tabIn (tgt := 107) dX8_count_1 (by decide) (by decide) (show _ = some 106 from rfl) (by decide) ?_
      refine P_aload_n (q := 108) dX8_count_107 rfl rfl ?_
      refine P_get (q := 111) dX8_count_108 rfl fX8_7 (by decide) (h0) rfl ?_
      refine P_iconst (q := 112) (v := nI 3) dX8_count_111 rfl (by decide +kernel) ?_
      refine P_iload_n (q := 113) dX8_count_112 rfl rfl ?_
      refine P_iadd (q := 114) dX8_count_113 rfl ?_
      refine P_bipush (q := 116) (v := nI 6) dX8_count_114 rfl (by decide +kernel) ?_
      refine P_isub (q := 117) dX8_count_116 rfl ?_
      refine P_iald (q := 118) (j := 3) dX8_count_117 rfl (by decide) (h1) (by decide +kernel) (by omega) (by decide) ?_
      rw [hR.2.2.2.1]
      refine P_iret dX8_count_118 rfl (rfl) ?_
      exact MK.stay hW
    · refine P_tabIn (tgt := 107) dX8_count_1 (by decide) (by decide) (show _ = some 106 from rfl) (by decide) ?_
      refine P_aload_n (q := 108) dX8_count_107 rfl rfl ?_
      refine P_get (q := 111) dX8_count_108 rfl fX8_7 (by decide) (h0) rfl ?_
      refine P_iconst (q := 112) (v := nI 3) dX8_count_111 rfl (by decide +kernel) ?_
      refine P_iload_n (q := 113) dX8_count_112 rfl rfl ?_
      refine P_iadd (q := 114) dX8_count_113 rfl ?_
      refine P_bipush (q := 116) (v := nI 6) dX8_count_114 rfl (by decide +kernel) ?_
      refine P_isub (q := 117) dX8_count_116 rfl ?_
      refine P_iald (q := 118) (j := 4) dX8_count_117 rfl (by decide) (h1) (by decide +kernel) (by omega) (by decide) ?_
      rw [hR.2.2.2.2.1]
      refine P_iret dX8_count_118 rfl (rfl) ?_
      exact MK.stay hW
    · refine P_tabIn (tgt := 119) dX8_count_1 (by decide) (by decide) (show _ = some 118 from rfl) (by decide) ?_
      refine P_aload_n (q := 120) dX8_count_119 rfl rfl ?_
      refine P_iload_n (q := 121) dX8_count_120 rfl rfl ?_
      have ha := r_all hW (k := 8) (by decide) (by decide)
      rw [show nI 8 = iI 8 from by decide +kernel] at ha
      refine P_callv (q := 124) dX8_count_121 rfl (ha) kX8_256 rfl rfl (by decide) (h0) rfl ⟨by decide, by decide⟩ (Nat.le_of_ble_eq_true rfl) ⟨Nat.le_refl _, Nat.le_refl _⟩ ?_
      rintro v σ1 ⟨rfl, hW1, t1⟩
      refine P_iret dX8_count_124 rfl (rfl) ?_
      exact ⟨rfl, hW1, t1⟩
    · refine P_tabIn (tgt := 119) dX8_count_1 (by decide) (by decide) (show _ = some 118 from rfl) (by decide) ?_
      refine P_aload_n (q := 120) dX8_count_119 rfl rfl ?_
      refine P_iload_n (q := 121) dX8_count_120 rfl rfl ?_
      have ha := r_all hW (k := 9) (by decide) (by decide)
      rw [show nI 9 = iI 9 from by decide +kernel] at ha
      refine P_callv (q := 124) dX8_count_121 rfl (ha) kX8_256 rfl rfl (by decide) (h0) rfl ⟨by decide, by decide⟩ (Nat.le_of_ble_eq_true rfl) ⟨Nat.le_refl _, Nat.le_refl _⟩ ?_
      rintro v σ1 ⟨rfl, hW1, t1⟩
      refine P_iret dX8_count_124 rfl (rfl) ?_
      exact ⟨rfl, hW1, t1⟩
    · refine P_tabIn (tgt := 119) dX8_count_1 (by decide) (by decide) (show _ = some 118 from rfl) (by decide) ?_
      refine P_aload_n (q := 120) dX8_count_119 rfl rfl ?_
      refine P_iload_n (q := 121) dX8_count_120 rfl rfl ?_
      have ha := r_all hW (k := 10) (by decide) (by decide)
      rw [show nI 10 = iI 10 from by decide +kernel] at ha
      refine P_callv (q := 124) dX8_count_121 rfl (ha) kX8_256 rfl rfl (by decide) (h0) rfl ⟨by decide, by decide⟩ (Nat.le_of_ble_eq_true rfl) ⟨Nat.le_refl _, Nat.le_refl _⟩ ?_
      rintro v σ1 ⟨rfl, hW1, t1⟩
      refine P_iret dX8_count_124 rfl (rfl) ?_
      exact ⟨rfl, hW1, t1⟩
    · refine P_tabIn (tgt := 125) dX8_count_1 (by decide) (by decide) (show _ = some 124 from rfl) (by decide) ?_
      refine P_aload_n (q := 126) dX8_count_125 rfl rfl ?_
      obtain ⟨gm, h129⟩ := hAR 129 (by decide) (by decide)
      change σ 129 = pI .int 30 gm at h129
      obtain ⟨gp, h130⟩ := hAR 130 (by decide) (by decide)
      change σ 130 = pI .int 30 gp at h130
      refine P_callv (q := 129) dX8_count_126 rfl (m_patches hX h0 h129 h130) kX8_259 rfl rfl (by decide) (h0) rfl ⟨by decide, by decide⟩ (Nat.le_of_ble_eq_true rfl) ⟨Nat.le_refl _, Nat.le_refl _⟩ ?_
      rintro v σ1 ⟨rfl, t1, ⟨pl', e1⟩, M, hP⟩
      refine P_iret dX8_count_129 rfl (rfl) ?_
      exact ⟨rfl, hW.ss (t1.mono (fun i h => by omega)) e1 (AR_XP hAR t1 hP), t1.mono (fun i h => by omega)⟩
    · refine P_tabIn (tgt := 130) dX8_count_1 (by decide) (by decide) (show _ = some 129 from rfl) (by decide) ?_
      refine P_aload_n (q := 131) dX8_count_130 rfl rfl ?_
      refine P_cv1 (q := 134) dX8_count_131 rfl kX8_262 (m_twt hM hX) rfl rfl (by decide) (h0) rfl ⟨by decide, by decide⟩ (Nat.le_of_ble_eq_true rfl) ⟨Nat.le_refl _, Nat.le_refl _⟩ ?_
      refine P_iret dX8_count_134 rfl (rfl) ?_
      rw [iI_nI, ← gk_GC hA]
      exact MK.stay hW
    · refine P_tabIn (tgt := 135) dX8_count_1 (by decide) (by decide) (show _ = some 134 from rfl) (by decide) ?_
      refine P_aload_n (q := 136) dX8_count_135 rfl rfl ?_
      refine P_get (q := 139) dX8_count_136 rfl fX8_7 (by decide) (h0) rfl ?_
      refine P_iconst (q := 140) (v := nI 5) dX8_count_139 rfl (by decide +kernel) ?_
      refine P_iald (q := 141) (j := 5) dX8_count_140 rfl (by decide) (h1) (rfl) (by omega) (by decide) ?_
      rw [hR.2.2.2.2.2.1]
      refine P_iret dX8_count_141 rfl (rfl) ?_
      exact MK.stay hW
    · refine P_tabIn (tgt := 142) dX8_count_1 (by decide) (by decide) (show _ = some 141 from rfl) (by decide) ?_
      refine P_aload_n (q := 143) dX8_count_142 rfl rfl ?_
      refine P_cv1 (q := 146) dX8_count_143 rfl kX8_265 (m_pairs hM hX) rfl rfl (by decide) (h0) rfl ⟨by decide, by decide⟩ (Nat.le_of_ble_eq_true rfl) ⟨Nat.le_refl _, Nat.le_refl _⟩ ?_
      refine P_iret dX8_count_146 rfl (rfl) ?_
      exact MK.stay hW
    · refine P_tabIn (tgt := 147) dX8_count_1 (by decide) (by decide) (show _ = some 146 from rfl) (by decide) ?_
      refine P_aload_n (q := 148) dX8_count_147 rfl rfl ?_
      refine P_get (q := 151) dX8_count_148 rfl fX8_69 (by decide) (h0) rfl ?_
      refine P_iret dX8_count_151 rfl (rfl) ?_
      exact MK.stay hW
    · refine P_tabIn (tgt := 152) dX8_count_1 (by decide) (by decide) (show _ = some 151 from rfl) (by decide) ?_
      refine P_aload_n (q := 153) dX8_count_152 rfl rfl ?_
      refine P_get (q := 156) dX8_count_153 rfl fX8_204 (by decide) (h0) rfl ?_
      refine P_iret dX8_count_156 rfl (rfl) ?_
      exact MK.stay hW
