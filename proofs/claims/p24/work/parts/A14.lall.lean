/-! THE LAW: what is told of all strips -/
theorem nI_subI (a b : Nat) : nI a - nI b = iI ((a : Int) - (b : Int)) := by rw [iI_nI, iI_nI, iI_sub]
/-- what is counted of both alike -/
theorem cnt_same {w x : Cs} (h : Mir w.A x.A) (hA : w.A.ok) (hB : x.A.ok) : ∀ k : Nat, k < 15 → k ≠ 5 → k ≠ 13 → oCountK x (k : Int) = oCountK w (k : Int) := by
  intro k hk h5 h13
  have hk : k = 0 ∨ k = 1 ∨ k = 2 ∨ k = 3 ∨ k = 4 ∨ k = 6 ∨ k = 7 ∨ k = 8 ∨ k = 9 ∨ k = 10 ∨ k = 11 ∨ k = 12 ∨ k = 14 := by omega
  rcases hk with rfl | rfl | rfl | rfl | rfl | rfl | rfl | rfl | rfl | rfl | rfl | rfl | rfl
  · show nI x.A.C = nI w.A.C; rw [h.1.1]
  · show nI x.A.R = nI w.A.R; rw [h.1.2.1]
  · show nI x.A.g = nI w.A.g; rw [h.1.2.2.1]
  · show iI x.A.E = iI w.A.E; rw [h.E hA]
  · show iI x.A.WL = iI w.A.WL; rw [h.WL hA]
  · show iI x.A.al = iI w.A.al; rw [h.1.2.2.2.1]
  · show iI x.A.ac = iI w.A.ac; rw [h.1.2.2.2.2]
  · show iI (2 * ((x.A.md false).lo : Int) - ((x.A.md false).wr : Int)) = iI (2 * ((w.A.md false).lo : Int) - ((w.A.md false).wr : Int)); rw [h.lo hA hB, h.wr]
  · show iI (2 * ((x.A.md false).hi : Int) - ((x.A.md false).wr : Int)) = iI (2 * ((w.A.md false).hi : Int) - ((w.A.md false).wr : Int)); rw [h.hi hA hB, h.wr]
  · show nI ((x.A.md false).me (2 * ((x.A.md false).lo : Int) - ((x.A.md false).wr : Int))) = nI ((w.A.md false).me (2 * ((w.A.md false).lo : Int) - ((w.A.md false).wr : Int))); rw [h.me hA hB, h.lo hA hB, h.wr]
  · show nI (x.A.ptp x.A.C).1 = nI (w.A.ptp w.A.C).1; rw [h.1.1, h.ptp hA hB _ (Nat.le_refl _)]
  · show iI x.A.GC = iI w.A.GC; rw [h.GC hA]
  · show iI x.A.PR = iI w.A.PR; rw [h.PR hA]
theorem we_same {w x : Cs} (h : Mir w.A x.A) (hA : w.A.ok) (hB : x.A.ok) (z : Int) : (oWE x z).1 = (oWE w z).1 := by
  show nI ((x.A.md false).me z) = nI ((w.A.md false).me z)
  rw [h.me hA hB]
theorem ww_CE {w : Cs} (hA : w.A.ok) (z : Int) : (oWW w z).1 = nI (w.A.CE true z) := by
  rw [CE_ww hA]
  show (if 0 ≤ z ∧ z < 191 then nI ((w.A.md true).cnt z.toNat) else 0) = _
  by_cases e : 0 ≤ z ∧ z < 191
  · rw [if_pos e, if_pos e]
  · rw [if_neg e, if_neg e]; rfl
theorem ww_same {w x : Cs} (h : Mir w.A x.A) (hA : w.A.ok) (hB : x.A.ok) (z : Int) : (oWW x z).1 = (oWW w z).1 := by
  rw [ww_CE hA, ww_CE hB, h.CE hA]
theorem wu_same {w x : Cs} (h : Mir w.A x.A) (hA : w.A.ok) (hB : x.A.ok) {u : Nat} (hu : u ≤ w.A.C * w.A.R) : (oWU x ((w.A.C * w.A.R - u : Nat) : Int) true).1 = (oWU w (u : Int) true).1 := by
  have h30 : w.A.C * w.A.R ≤ 30 := Nat.mul_le_mul hA.1.2 hA.2.1.2
  show (if 0 ≤ ((w.A.C * w.A.R - u : Nat) : Int) ∧ ((w.A.C * w.A.R - u : Nat) : Int) < 31 then nI ((x.A.md false).mu ((w.A.C * w.A.R - u : Nat) : Int).toNat) else 0) = (if 0 ≤ (u : Int) ∧ (u : Int) < 31 then nI ((w.A.md false).mu (u : Int).toNat) else 0)
  rw [if_pos (by omega), if_pos (by omega), Int.toNat_natCast, Int.toNat_natCast, h.mu hA hB hu]
theorem wc_same {w : Cs} (h15 : w.A.C * w.A.R ≤ 15) {u : Nat} (hu : u ≤ w.A.C * w.A.R) : (oWU w ((w.A.C * w.A.R - u : Nat) : Int) false).1 = (oWU w (u : Int) false).1 := by
  have hc : ((w.A.C * w.A.R : Nat) : Int) = (w.A.C : Int) * (w.A.R : Int) := Int.natCast_mul _ _
  show (if 0 ≤ ((w.A.C * w.A.R - u : Nat) : Int) ∧ ((w.A.C * w.A.R - u : Nat) : Int) ≤ (w.A.C : Int) * (w.A.R : Int) then (chs (w.A.C * w.A.R) ((w.A.C * w.A.R - u : Nat) : Int).toNat).toInt32 else 0) = (if 0 ≤ (u : Int) ∧ (u : Int) ≤ (w.A.C : Int) * (w.A.R : Int) then (chs (w.A.C * w.A.R) (u : Int).toNat).toInt32 else 0)
  rw [← hc, if_pos (by omega), if_pos (by omega), Int.toNat_natCast, Int.toNat_natCast, ← chs_m (w.A.C * w.A.R) (by omega) u (by omega)]
theorem ht_same {w x : Cs} (h : Mir w.A x.A) (hA : w.A.ok) (hB : x.A.ok) (z : Int) (b : Bool) : (oHeat x z b).1 = (oHeat w z b).1 := by
  obtain ⟨e1, -, e3, e4⟩ := h.heat hA hB
  unfold oHeat
  rw [e1, e3, e4]
set_option maxRecDepth 100000 in
set_option maxHeartbeats 4000000 in
theorem t_isAll {σ : Sto} {w x : Cs} (hW : W2 σ w x) (h : Rel w x) (h5 : w.A.C ≤ 5) (y : Int32) : CP mL_isAll 0 0 [.ref 0, .ref 114, .int y] 228 σ LQ := by
  have hA := hW.okA
  have hB := hW.okB
  have hM := h.1
  have hC := hA.1.1
  have hR := hA.2.1
  have h15 : w.A.C * w.A.R ≤ 15 := Nat.mul_le_mul h5 hR.2
  have hu1 : upV y (w.A.C * w.A.R + 1) ≤ w.A.C * w.A.R := Nat.le_of_lt_succ (upV_lt y (Nat.succ_pos _))
  have hz1 := upV_lt (y >>> (nI 5 &&& 31)) (k := 61) (by decide)
  obtain ⟨o1, o2, o3, o4⟩ := E_own hA
  have o5 := CE_le hA false w.A.E
  have o6 := CE_le hA true w.A.WL
  have o7 := St.E_in hA
  have o8 := St.WL_in hA
  obtain ⟨l0, h0, -, l2, l3, l4, -⟩ := en_pt hA
  refine CP_of (by decide +kernel) (Nat.le_of_ble_eq_true rfl) ?_
  change PW _ _ _ _ 0 [_, _, _, _, _, _, _] [] _ _ _ _
  refine P_aload_n (q := 1) dL_isAll_0 rfl rfl ?_
  refine P_iconst (q := 2) (v := nI 0) dL_isAll_1 rfl (by decide +kernel) ?_
  refine P_api (q := 5) dL_isAll_2 rfl kL_19 (o_count hW 0 (by decide) (v := nI w.A.C) rfl) rfl rfl (by decide) (hW.oo) rfl ⟨by decide, by decide⟩ (Nat.le_of_ble_eq_true rfl) ?_
  intro σ1 hW1
  refine P_aload_n (q := 6) dL_isAll_5 rfl rfl ?_
  refine P_iconst (q := 7) (v := nI 1) dL_isAll_6 rfl (by decide +kernel) ?_
  refine P_api (q := 10) dL_isAll_7 rfl kL_19 (o_count hW1 1 (by decide) (v := nI w.A.R) rfl) rfl rfl (by decide) (hW1.oo) rfl ⟨by decide, by decide⟩ (Nat.le_of_ble_eq_true rfl) ?_
  intro σ2 hW2
  refine P_imul (q := 11) dL_isAll_10 rfl ?_
  rw [pk_mul]
  refine P_istore_n (q := 12) (L' := [_, _, _, _, _, _, _]) dL_isAll_11 rfl (by decide) rfl ?_
  refine P_iload_n (q := 13) dL_isAll_12 rfl rfl ?_
  refine P_iload_n (q := 14) dL_isAll_13 rfl rfl ?_
  refine P_iconst (q := 15) (v := nI 1) dL_isAll_14 rfl (by decide +kernel) ?_
  refine P_iadd (q := 16) dL_isAll_15 rfl ?_
  rw [nI_add]
  refine P_cs1 (q := 19) dL_isAll_16 rfl kL_23 (t_up y (by omega) (by omega)) rfl rfl ⟨by decide, by decide⟩ (Nat.le_of_ble_eq_true rfl) ⟨Nat.le_refl _, Nat.le_refl _⟩ ?_
  generalize hu : upV y (w.A.C * w.A.R + 1) = u at hu1 ⊢
  refine P_istore (q := 21) (L' := [_, _, _, _, _, _, _]) dL_isAll_19 rfl (by decide) rfl ?_
  refine P_iload_n (q := 22) dL_isAll_21 rfl rfl ?_
  refine P_iconst (q := 23) (v := nI 5) dL_isAll_22 rfl (by decide +kernel) ?_
  refine P_ishr (q := 24) dL_isAll_23 rfl ?_
  refine P_bipush (q := 26) (v := nI 61) dL_isAll_24 rfl (by decide +kernel) ?_
  refine P_cs1 (q := 29) dL_isAll_26 rfl kL_23 (t_up _ (by decide) (by decide)) rfl rfl ⟨by decide, by decide⟩ (Nat.le_of_ble_eq_true rfl) ⟨Nat.le_refl _, Nat.le_refl _⟩ ?_
  generalize hz : upV (y >>> (nI 5 &&& 31)) 61 = e at hz1 ⊢
  refine P_bipush (q := 31) (v := nI 30) dL_isAll_29 rfl (by decide +kernel) ?_
  refine P_isub (q := 32) dL_isAll_31 rfl ?_
  rw [nI_subI]
  refine P_istore (q := 34) (L' := [_, _, _, _, _, _, _]) dL_isAll_32 rfl (by decide) rfl ?_
  refine P_aload_n (q := 35) dL_isAll_34 rfl rfl ?_
  refine P_bipush (q := 37) (v := nI 8) dL_isAll_35 rfl (by decide +kernel) ?_
  refine P_api (q := 40) dL_isAll_37 rfl kL_19 (o_count hW2 8 (by decide) rfl) rfl rfl (by decide) (hW2.oo) rfl ⟨by decide, by decide⟩ (Nat.le_of_ble_eq_true rfl) ?_
  intro σ3 hW3
  refine P_aload_n (q := 41) dL_isAll_40 rfl rfl ?_
  refine P_bipush (q := 43) (v := nI 8) dL_isAll_41 rfl (by decide +kernel) ?_
  refine P_api (q := 46) dL_isAll_43 rfl kL_19 (p_count hW3 8 (by decide) (cnt_same hM hA hB 8 (by decide) (by decide) (by decide))) rfl rfl (by decide) (hW3.pp) rfl ⟨by decide, by decide⟩ (Nat.le_of_ble_eq_true rfl) ?_
  intro σ4 hW4
  refine P_icmp_ne (q := 49) (tgt := 225) dL_isAll_46 rfl (by decide) (fun c_46 => ?_) (fun c_46 => ?_)
  · exact absurd (rfl) c_46
  · refine P_aload_n (q := 50) dL_isAll_49 rfl rfl ?_
    refine P_bipush (q := 52) (v := nI 9) dL_isAll_50 rfl (by decide +kernel) ?_
    refine P_api (q := 55) dL_isAll_52 rfl kL_19 (o_count hW4 9 (by decide) rfl) rfl rfl (by decide) (hW4.oo) rfl ⟨by decide, by decide⟩ (Nat.le_of_ble_eq_true rfl) ?_
    intro σ5 hW5
    refine P_aload_n (q := 56) dL_isAll_55 rfl rfl ?_
    refine P_bipush (q := 58) (v := nI 9) dL_isAll_56 rfl (by decide +kernel) ?_
    refine P_api (q := 61) dL_isAll_58 rfl kL_19 (p_count hW5 9 (by decide) (cnt_same hM hA hB 9 (by decide) (by decide) (by decide))) rfl rfl (by decide) (hW5.pp) rfl ⟨by decide, by decide⟩ (Nat.le_of_ble_eq_true rfl) ?_
    intro σ6 hW6
    refine P_icmp_ne (q := 64) (tgt := 225) dL_isAll_61 rfl (by decide) (fun c_61 => ?_) (fun c_61 => ?_)
    · exact absurd (rfl) c_61
    · refine P_aload_n (q := 65) dL_isAll_64 rfl rfl ?_
      refine P_bipush (q := 67) (v := nI 10) dL_isAll_65 rfl (by decide +kernel) ?_
      refine P_api (q := 70) dL_isAll_67 rfl kL_19 (o_count hW6 10 (by decide) rfl) rfl rfl (by decide) (hW6.oo) rfl ⟨by decide, by decide⟩ (Nat.le_of_ble_eq_true rfl) ?_
      intro σ7 hW7
      refine P_aload_n (q := 71) dL_isAll_70 rfl rfl ?_
      refine P_bipush (q := 73) (v := nI 10) dL_isAll_71 rfl (by decide +kernel) ?_
      refine P_api (q := 76) dL_isAll_73 rfl kL_19 (p_count hW7 10 (by decide) (cnt_same hM hA hB 10 (by decide) (by decide) (by decide))) rfl rfl (by decide) (hW7.pp) rfl ⟨by decide, by decide⟩ (Nat.le_of_ble_eq_true rfl) ?_
      intro σ8 hW8
      refine P_icmp_ne (q := 79) (tgt := 225) dL_isAll_76 rfl (by decide) (fun c_76 => ?_) (fun c_76 => ?_)
      · exact absurd (rfl) c_76
      · refine P_aload_n (q := 80) dL_isAll_79 rfl rfl ?_
        refine P_iload (q := 82) dL_isAll_80 rfl rfl ?_
        refine P_api (q := 85) dL_isAll_82 rfl kL_78 (o_we hW8 (by omega) (by omega) rfl) rfl rfl (by decide) (hW8.oo) rfl ⟨by decide, by decide⟩ (Nat.le_of_ble_eq_true rfl) ?_
        intro σ9 hW9
        refine P_aload_n (q := 86) dL_isAll_85 rfl rfl ?_
        refine P_iload (q := 88) dL_isAll_86 rfl rfl ?_
        refine P_api (q := 91) dL_isAll_88 rfl kL_78 (p_we hW9 (by omega) (by omega) (we_same hM hA hB _)) rfl rfl (by decide) (hW9.pp) rfl ⟨by decide, by decide⟩ (Nat.le_of_ble_eq_true rfl) ?_
        intro σ10 hW10
        refine P_icmp_ne (q := 94) (tgt := 225) dL_isAll_91 rfl (by decide) (fun c_91 => ?_) (fun c_91 => ?_)
        · exact absurd (rfl) c_91
        · refine P_aload_n (q := 95) dL_isAll_94 rfl rfl ?_
          refine P_iload (q := 97) dL_isAll_95 rfl rfl ?_
          refine P_api (q := 100) dL_isAll_97 rfl kL_81 (o_wwN hW10 (by omega) rfl) rfl rfl (by decide) (hW10.oo) rfl ⟨by decide, by decide⟩ (Nat.le_of_ble_eq_true rfl) ?_
          intro σ11 hW11
          refine P_aload_n (q := 101) dL_isAll_100 rfl rfl ?_
          refine P_iload (q := 103) dL_isAll_101 rfl rfl ?_
          refine P_api (q := 106) dL_isAll_103 rfl kL_81 (p_wwN hW11 (by omega) (ww_same hM hA hB _)) rfl rfl (by decide) (hW11.pp) rfl ⟨by decide, by decide⟩ (Nat.le_of_ble_eq_true rfl) ?_
          intro σ12 hW12
          refine P_icmp_ne (q := 109) (tgt := 225) dL_isAll_106 rfl (by decide) (fun c_106 => ?_) (fun c_106 => ?_)
          · exact absurd (rfl) c_106
          · refine P_aload_n (q := 110) dL_isAll_109 rfl rfl ?_
            refine P_iload (q := 112) dL_isAll_110 rfl rfl ?_
            refine P_iconst (q := 113) (v := (bI true)) dL_isAll_112 rfl (by decide +kernel) ?_
            refine P_api (q := 116) dL_isAll_113 rfl kL_84 (o_wuN hW12 (by omega) true rfl) rfl rfl (by decide) (hW12.oo) rfl ⟨by decide, by decide⟩ (Nat.le_of_ble_eq_true rfl) ?_
            intro σ13 hW13
            refine P_aload_n (q := 117) dL_isAll_116 rfl rfl ?_
            refine P_iload_n (q := 118) dL_isAll_117 rfl rfl ?_
            refine P_iload (q := 120) dL_isAll_118 rfl rfl ?_
            refine P_isub (q := 121) dL_isAll_120 rfl ?_
            rw [pk_sub hu1]
            refine P_iconst (q := 122) (v := (bI true)) dL_isAll_121 rfl (by decide +kernel) ?_
            refine P_api (q := 125) dL_isAll_122 rfl kL_84 (p_wuN hW13 (by omega) true (wu_same hM hA hB hu1)) rfl rfl (by decide) (hW13.pp) rfl ⟨by decide, by decide⟩ (Nat.le_of_ble_eq_true rfl) ?_
            intro σ14 hW14
            refine P_icmp_ne (q := 128) (tgt := 225) dL_isAll_125 rfl (by decide) (fun c_125 => ?_) (fun c_125 => ?_)
            · exact absurd (rfl) c_125
            · refine P_aload_n (q := 129) dL_isAll_128 rfl rfl ?_
              refine P_iload (q := 131) dL_isAll_129 rfl rfl ?_
              refine P_iconst (q := 132) (v := (bI false)) dL_isAll_131 rfl (by decide +kernel) ?_
              refine P_api (q := 135) dL_isAll_132 rfl kL_84 (o_wuN hW14 (by omega) false rfl) rfl rfl (by decide) (hW14.oo) rfl ⟨by decide, by decide⟩ (Nat.le_of_ble_eq_true rfl) ?_
              intro σ15 hW15
              refine P_aload_n (q := 136) dL_isAll_135 rfl rfl ?_
              refine P_iload_n (q := 137) dL_isAll_136 rfl rfl ?_
              refine P_iload (q := 139) dL_isAll_137 rfl rfl ?_
              refine P_isub (q := 140) dL_isAll_139 rfl ?_
              rw [pk_sub hu1]
              refine P_iconst (q := 141) (v := (bI false)) dL_isAll_140 rfl (by decide +kernel) ?_
              refine P_api (q := 144) dL_isAll_141 rfl kL_84 (o_wuN hW15 (by omega) false (wc_same h15 hu1)) rfl rfl (by decide) (hW15.oo) rfl ⟨by decide, by decide⟩ (Nat.le_of_ble_eq_true rfl) ?_
              intro σ16 hW16
              refine P_icmp_ne (q := 147) (tgt := 225) dL_isAll_144 rfl (by decide) (fun c_144 => ?_) (fun c_144 => ?_)
              · exact absurd (rfl) c_144
              · refine P_aload_n (q := 148) dL_isAll_147 rfl rfl ?_
                refine P_bipush (q := 150) (v := nI 50) dL_isAll_148 rfl (by decide +kernel) ?_
                refine P_iload_n (q := 151) dL_isAll_150 rfl rfl ?_
                refine P_bipush (q := 153) (v := nI 9) dL_isAll_151 rfl (by decide +kernel) ?_
                refine P_ishr (q := 154) dL_isAll_153 rfl ?_
                refine P_bipush (q := 156) (v := nI 51) dL_isAll_154 rfl (by decide +kernel) ?_
                refine P_cs1 (q := 159) dL_isAll_156 rfl kL_23 (t_up _ (by decide) (by decide)) rfl rfl ⟨by decide, by decide⟩ (Nat.le_of_ble_eq_true rfl) ⟨Nat.le_refl _, Nat.le_refl _⟩ ?_
                refine P_iadd (q := 160) dL_isAll_159 rfl ?_
                rw [nI_add]
                refine P_iconst (q := 161) (v := (bI false)) dL_isAll_160 rfl (by decide +kernel) ?_
                refine P_api (q := 164) dL_isAll_161 rfl kL_88 (o_heat hW16 (by have := upV_lt (y >>> (nI 9 &&& 31)) (k := 51) (by decide); omega) false rfl) rfl rfl (by decide) (hW16.oo) rfl ⟨by decide, by decide⟩ (Nat.le_of_ble_eq_true rfl) ?_
                intro σ17 hW17
                refine P_aload_n (q := 165) dL_isAll_164 rfl rfl ?_
                refine P_bipush (q := 167) (v := nI 50) dL_isAll_165 rfl (by decide +kernel) ?_
                refine P_iload_n (q := 168) dL_isAll_167 rfl rfl ?_
                refine P_bipush (q := 170) (v := nI 9) dL_isAll_168 rfl (by decide +kernel) ?_
                refine P_ishr (q := 171) dL_isAll_170 rfl ?_
                refine P_bipush (q := 173) (v := nI 51) dL_isAll_171 rfl (by decide +kernel) ?_
                refine P_cs1 (q := 176) dL_isAll_173 rfl kL_23 (t_up _ (by decide) (by decide)) rfl rfl ⟨by decide, by decide⟩ (Nat.le_of_ble_eq_true rfl) ⟨Nat.le_refl _, Nat.le_refl _⟩ ?_
                refine P_iadd (q := 177) dL_isAll_176 rfl ?_
                rw [nI_add]
                refine P_iconst (q := 178) (v := (bI false)) dL_isAll_177 rfl (by decide +kernel) ?_
                refine P_api (q := 181) dL_isAll_178 rfl kL_88 (p_heat hW17 (by have := upV_lt (y >>> (nI 9 &&& 31)) (k := 51) (by decide); omega) false (ht_same hM hA hB _ _)) rfl rfl (by decide) (hW17.pp) rfl ⟨by decide, by decide⟩ (Nat.le_of_ble_eq_true rfl) ?_
                intro σ18 hW18
                refine P_icmp_ne (q := 184) (tgt := 225) dL_isAll_181 rfl (by decide) (fun c_181 => ?_) (fun c_181 => ?_)
                · exact absurd (rfl) c_181
                · refine P_aload_n (q := 185) dL_isAll_184 rfl rfl ?_
                  refine P_bipush (q := 187) (v := nI 50) dL_isAll_185 rfl (by decide +kernel) ?_
                  refine P_iload_n (q := 188) dL_isAll_187 rfl rfl ?_
                  refine P_bipush (q := 190) (v := nI 9) dL_isAll_188 rfl (by decide +kernel) ?_
                  refine P_ishr (q := 191) dL_isAll_190 rfl ?_
                  refine P_bipush (q := 193) (v := nI 51) dL_isAll_191 rfl (by decide +kernel) ?_
                  refine P_cs1 (q := 196) dL_isAll_193 rfl kL_23 (t_up _ (by decide) (by decide)) rfl rfl ⟨by decide, by decide⟩ (Nat.le_of_ble_eq_true rfl) ⟨Nat.le_refl _, Nat.le_refl _⟩ ?_
                  refine P_iadd (q := 197) dL_isAll_196 rfl ?_
                  rw [nI_add]
                  refine P_iconst (q := 198) (v := (bI true)) dL_isAll_197 rfl (by decide +kernel) ?_
                  refine P_api (q := 201) dL_isAll_198 rfl kL_88 (o_heat hW18 (by have := upV_lt (y >>> (nI 9 &&& 31)) (k := 51) (by decide); omega) true rfl) rfl rfl (by decide) (hW18.oo) rfl ⟨by decide, by decide⟩ (Nat.le_of_ble_eq_true rfl) ?_
                  intro σ19 hW19
                  refine P_aload_n (q := 202) dL_isAll_201 rfl rfl ?_
                  refine P_bipush (q := 204) (v := nI 50) dL_isAll_202 rfl (by decide +kernel) ?_
                  refine P_iload_n (q := 205) dL_isAll_204 rfl rfl ?_
                  refine P_bipush (q := 207) (v := nI 9) dL_isAll_205 rfl (by decide +kernel) ?_
                  refine P_ishr (q := 208) dL_isAll_207 rfl ?_
                  refine P_bipush (q := 210) (v := nI 51) dL_isAll_208 rfl (by decide +kernel) ?_
                  refine P_cs1 (q := 213) dL_isAll_210 rfl kL_23 (t_up _ (by decide) (by decide)) rfl rfl ⟨by decide, by decide⟩ (Nat.le_of_ble_eq_true rfl) ⟨Nat.le_refl _, Nat.le_refl _⟩ ?_
                  refine P_iadd (q := 214) dL_isAll_213 rfl ?_
                  rw [nI_add]
                  refine P_iconst (q := 215) (v := (bI true)) dL_isAll_214 rfl (by decide +kernel) ?_
                  refine P_api (q := 218) dL_isAll_215 rfl kL_88 (p_heat hW19 (by have := upV_lt (y >>> (nI 9 &&& 31)) (k := 51) (by decide); omega) true (ht_same hM hA hB _ _)) rfl rfl (by decide) (hW19.pp) rfl ⟨by decide, by decide⟩ (Nat.le_of_ble_eq_true rfl) ?_
                  intro σ20 hW20
                  refine P_icmp_ne (q := 221) (tgt := 225) dL_isAll_218 rfl (by decide) (fun c_218 => ?_) (fun c_218 => ?_)
                  · exact absurd (rfl) c_218
                  · refine P_iconst (q := 222) (v := nI 1) dL_isAll_221 rfl (by decide +kernel) ?_
                    refine P_goto (tgt := 226) dL_isAll_222 (by decide) ?_
                    refine P_istore (q := 228) (L' := [_, _, _, _, _, _, _]) dL_isAll_226 rfl (by decide) rfl ?_
                    refine P_iload (q := 230) dL_isAll_228 rfl rfl ?_
                    refine P_if_eq (q := 233) (tgt := 289) dL_isAll_230 rfl (by decide) (fun c_230 => ?_) (fun c_230 => ?_)
                    · exact absurd c_230 (by decide)
                    · refine P_aload_n (q := 234) dL_isAll_233 rfl rfl ?_
                      refine P_iconst (q := 235) (v := nI 3) dL_isAll_234 rfl (by decide +kernel) ?_
                      refine P_api (q := 238) dL_isAll_235 rfl kL_19 (o_count hW20 3 (by decide) (v := iI w.A.E) rfl) rfl rfl (by decide) (hW20.oo) rfl ⟨by decide, by decide⟩ (Nat.le_of_ble_eq_true rfl) ?_
                      intro σ21 hW21
                      refine P_aload_n (q := 239) dL_isAll_238 rfl rfl ?_
                      refine P_bipush (q := 241) (v := nI 8) dL_isAll_239 rfl (by decide +kernel) ?_
                      refine P_api (q := 244) dL_isAll_241 rfl kL_19 (o_count hW21 8 (by decide) (v := iI w.A.eL) rfl) rfl rfl (by decide) (hW21.oo) rfl ⟨by decide, by decide⟩ (Nat.le_of_ble_eq_true rfl) ?_
                      intro σ22 hW22
                      refine P_icmp_lt (q := 247) (tgt := 289) dL_isAll_244 rfl (by decide) (fun c_244 => ?_) (fun c_244 => ?_)
                      · exfalso; rw [iI_lt (by omega) (by omega) (by omega) (by omega)] at c_244; omega
                      · refine P_aload_n (q := 248) dL_isAll_247 rfl rfl ?_
                        refine P_iconst (q := 249) (v := nI 3) dL_isAll_248 rfl (by decide +kernel) ?_
                        refine P_api (q := 252) dL_isAll_249 rfl kL_19 (o_count hW22 3 (by decide) (v := iI w.A.E) rfl) rfl rfl (by decide) (hW22.oo) rfl ⟨by decide, by decide⟩ (Nat.le_of_ble_eq_true rfl) ?_
                        intro σ23 hW23
                        refine P_aload_n (q := 253) dL_isAll_252 rfl rfl ?_
                        refine P_bipush (q := 255) (v := nI 9) dL_isAll_253 rfl (by decide +kernel) ?_
                        refine P_api (q := 258) dL_isAll_255 rfl kL_19 (o_count hW23 9 (by decide) (v := iI w.A.eH) rfl) rfl rfl (by decide) (hW23.oo) rfl ⟨by decide, by decide⟩ (Nat.le_of_ble_eq_true rfl) ?_
                        intro σ24 hW24
                        refine P_icmp_gt (q := 261) (tgt := 289) dL_isAll_258 rfl (by decide) (fun c_258 => ?_) (fun c_258 => ?_)
                        · exfalso; rw [iI_lt (by omega) (by omega) (by omega) (by omega)] at c_258; omega
                        · refine P_aload_n (q := 262) dL_isAll_261 rfl rfl ?_
                          refine P_aload_n (q := 263) dL_isAll_262 rfl rfl ?_
                          refine P_iconst (q := 264) (v := nI 3) dL_isAll_263 rfl (by decide +kernel) ?_
                          refine P_api (q := 267) dL_isAll_264 rfl kL_19 (o_count hW24 3 (by decide) (v := iI w.A.E) rfl) rfl rfl (by decide) (hW24.oo) rfl ⟨by decide, by decide⟩ (Nat.le_of_ble_eq_true rfl) ?_
                          intro σ25 hW25
                          refine P_api (q := 270) dL_isAll_267 rfl kL_78 (o_we hW25 (by omega) (by omega) (v := nI (w.A.CE false w.A.E)) (by rw [CE_me hA]; rfl)) rfl rfl (by decide) (hW25.oo) rfl ⟨by decide, by decide⟩ (Nat.le_of_ble_eq_true rfl) ?_
                          intro σ26 hW26
                          refine P_if_le (q := 273) (tgt := 289) dL_isAll_270 rfl (by decide) (fun c_270 => ?_) (fun c_270 => ?_)
                          · exfalso; rw [show (0 : Int32) = nI 0 from rfl, nI_leI (by omega) (by omega)] at c_270; omega
                          · refine P_aload_n (q := 274) dL_isAll_273 rfl rfl ?_
                            refine P_aload_n (q := 275) dL_isAll_274 rfl rfl ?_
                            refine P_iconst (q := 276) (v := nI 4) dL_isAll_275 rfl (by decide +kernel) ?_
                            refine P_api (q := 279) dL_isAll_276 rfl kL_19 (o_count hW26 4 (by decide) (v := iI w.A.WL) rfl) rfl rfl (by decide) (hW26.oo) rfl ⟨by decide, by decide⟩ (Nat.le_of_ble_eq_true rfl) ?_
                            intro σ27 hW27
                            refine P_api (q := 282) dL_isAll_279 rfl kL_81 (o_ww hW27 (by omega) (by omega) (v := nI (w.A.CE true w.A.WL)) (ww_CE hA _)) rfl rfl (by decide) (hW27.oo) rfl ⟨by decide, by decide⟩ (Nat.le_of_ble_eq_true rfl) ?_
                            intro σ28 hW28
                            refine P_if_le (q := 285) (tgt := 289) dL_isAll_282 rfl (by decide) (fun c_282 => ?_) (fun c_282 => ?_)
                            · exfalso; rw [show (0 : Int32) = nI 0 from rfl, nI_leI (by omega) (by omega)] at c_282; omega
                            · refine P_iconst (q := 286) (v := nI 1) dL_isAll_285 rfl (by decide +kernel) ?_
                              refine P_goto (tgt := 290) dL_isAll_286 (by decide) ?_
                              refine P_iret dL_isAll_290 rfl (rfl) ?_
                              exact ⟨rfl, _, _, hW28, h⟩
