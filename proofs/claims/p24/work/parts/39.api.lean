variable {eN : Nat}
/-! THE CLASS: cells, counts -/
def rsn (g : Int) : Int32 := if g = 0 then nI 1 else if g < 0 then nI 2 else nI 0
set_option maxRecDepth 100000 in
set_option maxHeartbeats 4000000 in
theorem t_reason {n0 : Nat} {σ : Sto} {g : Int} (h1 : -1000 ≤ g) (h2 : g ≤ 1000) : CD mX7_reason [.int (iI g)] n0 σ (some (.int (rsn g))) σ := by
  refine CP_of (by decide +kernel) (Nat.le_of_ble_eq_true rfl) ?_
  change PW _ _ _ _ 0 [_] [] _ _ _ _
  refine P_iload_n (q := 1) dX7_reason_0 rfl rfl ?_
  refine P_if_ne (q := 4) (tgt := 6) dX7_reason_1 rfl (by first | decide | exact lt_c (by decide)) (fun c_1 => ?_) (fun c_1 => ?_)
  · rw [show ((0 : Int32)) = iI 0 from rfl, iI_inj (by omega) (by omega) (by omega) (by omega)] at c_1
    refine P_iload_n (q := 7) dX7_reason_6 rfl rfl ?_
    refine P_if_ge (q := 10) (tgt := 14) dX7_reason_7 rfl (by first | decide | exact lt_c (by decide)) (fun c_7 => ?_) (fun c_7 => ?_)
    · rw [show ((0 : Int32)) = iI 0 from rfl, iI_le (by omega) (by omega) (by omega) (by omega)] at c_7
      refine P_iconst (q := 15) (v := nI 0) dX7_reason_14 rfl (by decide +kernel) ?_
      refine P_iret dX7_reason_15 rfl (rfl) ?_
      exact ⟨rv_i (by unfold rsn; first | (rw [if_pos c_1]; done) | (rw [if_neg c_1, if_pos (by omega)]; done) | (rw [if_neg c_1, if_neg (by omega)]; done)), rfl⟩
    · rw [show ((0 : Int32)) = iI 0 from rfl, iI_le (by omega) (by omega) (by omega) (by omega)] at c_7
      refine P_iconst (q := 11) (v := nI 2) dX7_reason_10 rfl (by decide +kernel) ?_
      refine P_goto (tgt := 15) dX7_reason_11 (by first | decide | exact lt_c (by decide)) ?_
      refine P_iret dX7_reason_15 rfl (rfl) ?_
      exact ⟨rv_i (by unfold rsn; first | (rw [if_pos c_1]; done) | (rw [if_neg c_1, if_pos (by omega)]; done) | (rw [if_neg c_1, if_neg (by omega)]; done)), rfl⟩
  · rw [show ((0 : Int32)) = iI 0 from rfl, iI_inj (by omega) (by omega) (by omega) (by omega)] at c_1
    refine P_iconst (q := 5) (v := nI 1) dX7_reason_4 rfl (by decide +kernel) ?_
    refine P_iret dX7_reason_5 rfl (rfl) ?_
    exact ⟨rv_i (by unfold rsn; first | (rw [if_pos c_1]; done) | (rw [if_neg c_1, if_pos (by omega)]; done) | (rw [if_neg c_1, if_neg (by omega)]; done)), rfl⟩
def oCellK (A : St) (r c : Nat) (k : Int) : Int32 :=
  if k = 0 then iI (A.s c r) else if k = 1 then iI (A.fd c r) else if k = 2 then iI (A.gain c r) else if k = 3 then rsn (A.gain c r)
  else if k = 4 then nI (pcN 64 (A.bN (2 ^ (4 * c + r)))) else if k = 5 then nI (pcN 64 (A.bN (2 ^ (4 * c + r)) &&& A.lk (4 * c + r))) else if k = 6 then nI (pcN 64 (A.pIt (4 * c + r) 30)) else iI (-1002)
def oCell (w : Cs) (r c k : Int) : Int32 × Cs := (if w.A.inB r c = true then oCellK w.A r.toNat c.toNat k else iI (-1001), w)
theorem bN_lt {A : St} (hA : A.ok) (a : Nat) : A.bN a < 2 ^ 40 := or_lt (and_lt (mskN_lt hA.1.2 hA.2.1.2)) (and_lt (mskN_lt hA.1.2 hA.2.1.2))
set_option maxRecDepth 100000 in
set_option maxHeartbeats 4000000 in
theorem a_cell {σ : Sto} {w : Cs} (hW : CW σ w) {r0 : Int} (r01 : -2147483648 ≤ r0) (r02 : r0 < 2147483648) {c0 : Int} (c01 : -2147483648 ≤ c0) (c02 : c0 < 2147483648) {k0 : Int} (k01 : -2147483648 ≤ k0) (k02 : k0 < 2147483648) : CP mX7_cell 0 0 [.ref 0, .int (iI r0), .int (iI c0), .int (iI k0)] (eN + 114) σ (OK σ (oCell w r0 c0 k0)) := by
  obtain ⟨h0, hS, hAW, hH, hSn, hT⟩ := id hW
  have hA := hS.1
  obtain ⟨-, f0, e01, e02, ef0⟩ := id hS
  have hh := t_has (eN := eN) e01 (iI r0) (iI c0)
  rw [hasB_i hA r01 r02 c01 c02] at hh
  have hC := hA.1
  have hR := hA.2.1
  refine CP_of (by decide +kernel) (Nat.le_of_ble_eq_true rfl) ?_
  change PW _ _ _ _ 0 [_, _, _, _, _, _] [] _ _ _ _
  refine P_aload_n (q := 1) dX7_cell_0 rfl rfl ?_
  refine P_get (q := 4) dX7_cell_1 rfl fX7_12 (by first | decide | exact lt_c (by decide)) (h0) rfl ?_
  refine P_iload_n (q := 5) dX7_cell_4 rfl rfl ?_
  refine P_iload_n (q := 6) dX7_cell_5 rfl rfl ?_
  refine P_cv1 (q := 9) dX7_cell_6 rfl kX7_83 (hh) rfl rfl (by first | decide | exact lt_c (by decide)) (e01) rfl ⟨by decide, by decide⟩ (Nat.le_of_ble_eq_true rfl) ⟨Nat.le_refl _, Nat.le_refl _⟩ ?_
  refine P_if_ne (q := 12) (tgt := 16) dX7_cell_9 rfl (by first | decide | exact lt_c (by decide)) (fun c_9 => ?_) (fun c_9 => ?_)
  · rw [bI_n] at c_9
    obtain ⟨r, c, rfl, rfl, hr, hc⟩ := inB_n c_9
    have ok : ∀ x, x = oCellK w.A r c k0 → OK σ (oCell w r c k0) (some (.int x)) σ := fun x e => by
      subst e
      unfold oCell
      rw [if_pos c_9]
      exact OK.stay hW
    have hP : 2 ^ (4 * c + r) < 2 ^ 40 := Nat.pow_lt_pow_right (by first | decide | exact lt_c (by decide)) (by omega)
    have hbN := bN_lt hA (2 ^ (4 * c + r))
    have hgn := St.gain_in hA c r
    have hpI := w.A.pIt_lt hA (k := 4 * c + r) (by omega) 30
    have hlk : w.A.lk (4 * c + r) < 2 ^ 40 := Nat.lt_pow_two_of_testBit _ (fun i hi => by
      cases e : (w.A.lk (4 * c + r)).testBit i with
      | false => rfl
      | true =>
        have := lk_sub hA _ i e
        rw [Nat.testBit_lt_two_pow (Nat.lt_of_lt_of_le (mskN_lt hA.1.2 hA.2.1.2) (Nat.pow_le_pow_right (by first | decide | exact lt_c (by decide)) hi))] at this
        exact absurd this (by first | decide | exact lt_c (by decide)))
    rw [← iI_nI, ← iI_nI]
    refine P_iload_n (q := 17) dX7_cell_16 rfl rfl ?_
    refine P_iload_n (q := 18) dX7_cell_17 rfl rfl ?_
    refine P_cs1 (q := 21) dX7_cell_18 rfl kX7_95 (t_bit r c (by omega)) rfl rfl ⟨by decide, by decide⟩ (Nat.le_of_ble_eq_true rfl) ⟨Nat.le_refl _, Nat.le_refl _⟩ ?_
    refine P_lstore (q := 23) (L' := [_, _, _, _, _, _]) dX7_cell_21 rfl (by first | decide | exact lt_c (by decide)) rfl ?_
    refine P_iload_n (q := 24) dX7_cell_23 rfl rfl ?_
    by_cases hk : k0 < 0 ∨ 6 < k0
    · refine P_tabOut (tgt := 160) dX7_cell_24 (by rw [iI_toInt (by omega) (by omega)]; exact hk) (by first | decide | exact lt_c (by decide)) ?_
      refine P_sipush (q := 163) (v := iI (-1002)) dX7_cell_160 rfl (by decide +kernel) ?_
      refine P_iret dX7_cell_163 rfl (rfl) ?_
      exact ok _ (by unfold oCellK; rw [if_neg (by omega), if_neg (by omega), if_neg (by omega), if_neg (by omega), if_neg (by omega), if_neg (by omega), if_neg (by omega)])
    · have hk7 : k0 = 0 ∨ k0 = 1 ∨ k0 = 2 ∨ k0 = 3 ∨ k0 = 4 ∨ k0 = 5 ∨ k0 = 6 := by omega
      rcases hk7 with rfl | rfl | rfl | rfl | rfl | rfl | rfl
      · refine P_tabIn (tgt := 68) dX7_cell_24 (by first | decide | exact lt_c (by decide)) (by first | decide | exact lt_c (by decide)) (show _ = some 44 from rfl) (by first | decide | exact lt_c (by decide)) ?_
        refine P_aload_n (q := 69) dX7_cell_68 rfl rfl ?_
        refine P_get (q := 72) dX7_cell_69 rfl fX7_12 (by first | decide | exact lt_c (by decide)) (h0) rfl ?_
        refine P_iload_n (q := 73) dX7_cell_72 rfl rfl ?_
        refine P_iload_n (q := 74) dX7_cell_73 rfl rfl ?_
        refine P_cv1 (q := 77) dX7_cell_74 rfl kX7_140 (t_spinAt hA e01 hr hc) rfl rfl (by first | decide | exact lt_c (by decide)) (e01) rfl ⟨by decide, by decide⟩ (Nat.le_of_ble_eq_true rfl) ⟨Nat.le_refl _, Nat.le_refl _⟩ ?_
        refine P_iret dX7_cell_77 rfl (rfl) ?_
        exact ok _ rfl
      · refine P_tabIn (tgt := 78) dX7_cell_24 (by first | decide | exact lt_c (by decide)) (by first | decide | exact lt_c (by decide)) (show _ = some 54 from rfl) (by first | decide | exact lt_c (by decide)) ?_
        refine P_aload_n (q := 79) dX7_cell_78 rfl rfl ?_
        refine P_get (q := 82) dX7_cell_79 rfl fX7_12 (by first | decide | exact lt_c (by decide)) (h0) rfl ?_
        refine P_iload_n (q := 83) dX7_cell_82 rfl rfl ?_
        refine P_iload_n (q := 84) dX7_cell_83 rfl rfl ?_
        refine P_cv1 (q := 87) dX7_cell_84 rfl kX7_87 (t_fieldAt hA e01 e02 ef0 hr hc) rfl rfl (by first | decide | exact lt_c (by decide)) (e01) rfl ⟨by decide, by decide⟩ (Nat.le_of_ble_eq_true rfl) ⟨Nat.le_refl _, Nat.le_refl _⟩ ?_
        refine P_iret dX7_cell_87 rfl (rfl) ?_
        exact ok _ rfl
      · refine P_tabIn (tgt := 88) dX7_cell_24 (by first | decide | exact lt_c (by decide)) (by first | decide | exact lt_c (by decide)) (show _ = some 64 from rfl) (by first | decide | exact lt_c (by decide)) ?_
        refine P_aload_n (q := 89) dX7_cell_88 rfl rfl ?_
        refine P_get (q := 92) dX7_cell_89 rfl fX7_12 (by first | decide | exact lt_c (by decide)) (h0) rfl ?_
        refine P_iload_n (q := 93) dX7_cell_92 rfl rfl ?_
        refine P_iload_n (q := 94) dX7_cell_93 rfl rfl ?_
        refine P_cv1 (q := 97) dX7_cell_94 rfl kX7_143 (t_gain hA e01 e02 ef0 hr hc) rfl rfl (by first | decide | exact lt_c (by decide)) (e01) rfl ⟨by decide, by decide⟩ (Nat.le_of_ble_eq_true rfl) ⟨Nat.le_refl _, Nat.le_refl _⟩ ?_
        refine P_iret dX7_cell_97 rfl (rfl) ?_
        exact ok _ rfl
      · refine P_tabIn (tgt := 98) dX7_cell_24 (by first | decide | exact lt_c (by decide)) (by first | decide | exact lt_c (by decide)) (show _ = some 74 from rfl) (by first | decide | exact lt_c (by decide)) ?_
        refine P_aload_n (q := 99) dX7_cell_98 rfl rfl ?_
        refine P_get (q := 102) dX7_cell_99 rfl fX7_12 (by first | decide | exact lt_c (by decide)) (h0) rfl ?_
        refine P_iload_n (q := 103) dX7_cell_102 rfl rfl ?_
        refine P_iload_n (q := 104) dX7_cell_103 rfl rfl ?_
        refine P_cv1 (q := 107) dX7_cell_104 rfl kX7_143 (t_gain hA e01 e02 ef0 hr hc) rfl rfl (by first | decide | exact lt_c (by decide)) (e01) rfl ⟨by decide, by decide⟩ (Nat.le_of_ble_eq_true rfl) ⟨Nat.le_refl _, Nat.le_refl _⟩ ?_
        refine P_cs1 (q := 110) dX7_cell_107 rfl kX7_146 (t_reason (by omega) (by omega)) rfl rfl ⟨by decide, by decide⟩ (Nat.le_of_ble_eq_true rfl) ⟨Nat.le_refl _, Nat.le_refl _⟩ ?_
        refine P_iret dX7_cell_110 rfl (rfl) ?_
        exact ok _ rfl
      · refine P_tabIn (tgt := 111) dX7_cell_24 (by first | decide | exact lt_c (by decide)) (by first | decide | exact lt_c (by decide)) (show _ = some 87 from rfl) (by first | decide | exact lt_c (by decide)) ?_
        refine P_aload_n (q := 112) dX7_cell_111 rfl rfl ?_
        refine P_get (q := 115) dX7_cell_112 rfl fX7_12 (by first | decide | exact lt_c (by decide)) (h0) rfl ?_
        refine P_lload (q := 117) dX7_cell_115 rfl rfl ?_
        refine P_cv1 (q := 120) dX7_cell_117 rfl kX7_150 (t_beside hA e01 (2 ^ (4 * c + r)) hP) rfl rfl (by first | decide | exact lt_c (by decide)) (e01) rfl ⟨by decide, by decide⟩ (Nat.le_of_ble_eq_true rfl) ⟨Nat.le_refl _, Nat.le_refl _⟩ ?_
        refine P_cs1 (q := 123) dX7_cell_120 rfl kX7_107 (t_bitCount (w.A.bN (2 ^ (4 * c + r))) (by omega)) rfl rfl ⟨by decide, by decide⟩ (Nat.le_of_ble_eq_true rfl) ⟨Nat.le_refl _, Nat.le_refl _⟩ ?_
        refine P_iret dX7_cell_123 rfl (rfl) ?_
        exact ok _ rfl
      · refine P_tabIn (tgt := 124) dX7_cell_24 (by first | decide | exact lt_c (by decide)) (by first | decide | exact lt_c (by decide)) (show _ = some 100 from rfl) (by first | decide | exact lt_c (by decide)) ?_
        refine P_aload_n (q := 125) dX7_cell_124 rfl rfl ?_
        refine P_get (q := 128) dX7_cell_125 rfl fX7_12 (by first | decide | exact lt_c (by decide)) (h0) rfl ?_
        refine P_lload (q := 130) dX7_cell_128 rfl rfl ?_
        refine P_cv1 (q := 133) dX7_cell_130 rfl kX7_150 (t_beside hA e01 (2 ^ (4 * c + r)) hP) rfl rfl (by first | decide | exact lt_c (by decide)) (e01) rfl ⟨by decide, by decide⟩ (Nat.le_of_ble_eq_true rfl) ⟨Nat.le_refl _, Nat.le_refl _⟩ ?_
        refine P_aload_n (q := 134) dX7_cell_133 rfl rfl ?_
        refine P_get (q := 137) dX7_cell_134 rfl fX7_12 (by first | decide | exact lt_c (by decide)) (h0) rfl ?_
        refine P_lload (q := 139) dX7_cell_137 rfl rfl ?_
        refine P_cv1 (q := 142) dX7_cell_139 rfl kX7_153 (t_alike hA e01 (k := 4 * c + r) (by omega)) rfl rfl (by first | decide | exact lt_c (by decide)) (e01) rfl ⟨by decide, by decide⟩ (Nat.le_of_ble_eq_true rfl) ⟨Nat.le_refl _, Nat.le_refl _⟩ ?_
        refine P_land (q := 143) dX7_cell_142 rfl ?_
        rw [wb_and (by omega) (by omega)]
        refine P_cs1 (q := 146) dX7_cell_143 rfl kX7_107 (t_bitCount (w.A.bN (2 ^ (4 * c + r)) &&& w.A.lk (4 * c + r)) (Nat.lt_of_le_of_lt Nat.and_le_left (by omega))) rfl rfl ⟨by decide, by decide⟩ (Nat.le_of_ble_eq_true rfl) ⟨Nat.le_refl _, Nat.le_refl _⟩ ?_
        refine P_iret dX7_cell_146 rfl (rfl) ?_
        exact ok _ rfl
      · refine P_tabIn (tgt := 147) dX7_cell_24 (by first | decide | exact lt_c (by decide)) (by first | decide | exact lt_c (by decide)) (show _ = some 123 from rfl) (by first | decide | exact lt_c (by decide)) ?_
        refine P_aload_n (q := 148) dX7_cell_147 rfl rfl ?_
        refine P_get (q := 151) dX7_cell_148 rfl fX7_12 (by first | decide | exact lt_c (by decide)) (h0) rfl ?_
        refine P_lload (q := 153) dX7_cell_151 rfl rfl ?_
        refine P_cv1 (q := 156) dX7_cell_153 rfl kX7_103 (t_patchOf hA e01 (k := 4 * c + r) (by omega)) rfl rfl (by first | decide | exact lt_c (by decide)) (e01) rfl ⟨by decide, by decide⟩ (Nat.le_of_ble_eq_true rfl) ⟨Nat.le_refl _, Nat.le_refl _⟩ ?_
        refine P_cs1 (q := 159) dX7_cell_156 rfl kX7_107 (t_bitCount (w.A.pIt (4 * c + r) 30) (by omega)) rfl rfl ⟨by decide, by decide⟩ (Nat.le_of_ble_eq_true rfl) ⟨Nat.le_refl _, Nat.le_refl _⟩ ?_
        refine P_iret dX7_cell_159 rfl (rfl) ?_
        exact ok _ rfl
  · rw [bI_0] at c_9
    refine P_sipush (q := 15) (v := iI (-1001)) dX7_cell_12 rfl (by decide +kernel) ?_
    refine P_iret dX7_cell_15 rfl (rfl) ?_
    unfold oCell; rw [if_neg (by rw [c_9]; decide)]; exact OK.stay hW
def oCountK (w : Cs) (k : Int) : Int32 :=
  if k = 0 then nI w.A.C else if k = 1 then nI w.A.R else if k = 2 then nI w.A.g else if k = 3 then iI w.A.E else if k = 4 then iI w.A.WL else if k = 5 then nI (pcN 64 w.A.U)
  else if k = 6 then iI w.A.al else if k = 7 then iI w.A.ac else if k = 8 then iI (2 * (w.A.md false).lo - (w.A.md false).wr) else if k = 9 then iI (2 * (w.A.md false).hi - (w.A.md false).wr)
  else if k = 10 then nI ((w.A.md false).me (2 * (w.A.md false).lo - (w.A.md false).wr)) else if k = 11 then nI (w.A.ptp w.A.C).1 else if k = 12 then iI w.A.GC else if k = 13 then w.A.tu
  else if k = 14 then iI w.A.PR else if k = 15 then nI w.H.length else if k = 16 then nI w.n else iI (-1002)
def oCount (w : Cs) (k : Int) : Int32 × Cs := (oCountK w k, w)
set_option maxRecDepth 100000 in
set_option maxHeartbeats 4000000 in
theorem a_count {σ : Sto} {w : Cs} (hW : CW σ w) {k0 : Int} (k01 : -2147483648 ≤ k0) (k02 : k0 < 2147483648) : CP mX7_count 0 0 [.ref 0, .int (iI k0)] (eN + 114) σ (OK σ (oCount w k0)) := by
  obtain ⟨h0, hS, hAW, hH, hSn, hT⟩ := id hW
  have hA := hS.1
  obtain ⟨-, f0, e01, e02, ef0⟩ := id hS
  have hg2 := hA.2.2.1
  have hU := St.U_lt hA
  obtain ⟨o, Hs, -, -, h100, -⟩ := id hH
  obtain ⟨n60, hch, tc, tr, tu, tg, t112, t113, -⟩ := id hT
  refine CP_of (by decide +kernel) (Nat.le_of_ble_eq_true rfl) ?_
  change PW _ _ _ _ 0 [_, _] [] _ _ _ _
  refine P_iload_n (q := 1) dX7_count_0 rfl rfl ?_
  by_cases hk : k0 < 0 ∨ 16 < k0
  · refine P_tabOut (tgt := 254) dX7_count_1 (by rw [iI_toInt (by omega) (by omega)]; exact hk) (by first | decide | exact lt_c (by decide)) ?_
    refine P_sipush (q := 257) (v := iI (-1002)) dX7_count_254 rfl (by decide +kernel) ?_
    refine P_iret dX7_count_257 rfl (rfl) ?_
    have e : oCountK w k0 = iI (-1002) := by unfold oCountK; simp only [if_neg (show ¬ k0 = 0 by omega), if_neg (show ¬ k0 = 1 by omega), if_neg (show ¬ k0 = 2 by omega), if_neg (show ¬ k0 = 3 by omega), if_neg (show ¬ k0 = 4 by omega), if_neg (show ¬ k0 = 5 by omega), if_neg (show ¬ k0 = 6 by omega), if_neg (show ¬ k0 = 7 by omega), if_neg (show ¬ k0 = 8 by omega), if_neg (show ¬ k0 = 9 by omega), if_neg (show ¬ k0 = 10 by omega), if_neg (show ¬ k0 = 11 by omega), if_neg (show ¬ k0 = 12 by omega), if_neg (show ¬ k0 = 13 by omega), if_neg (show ¬ k0 = 14 by omega), if_neg (show ¬ k0 = 15 by omega), if_neg (show ¬ k0 = 16 by omega)]
    unfold oCount; rw [e]; exact OK.stay hW
  · have hk17 : k0 = 0 ∨ k0 = 1 ∨ k0 = 2 ∨ k0 = 3 ∨ k0 = 4 ∨ k0 = 5 ∨ k0 = 6 ∨ k0 = 7 ∨ k0 = 8 ∨ k0 = 9 ∨ k0 = 10 ∨ k0 = 11 ∨ k0 = 12 ∨ k0 = 13 ∨ k0 = 14 ∨ k0 = 15 ∨ k0 = 16 := by omega
    rcases hk17 with rfl | rfl | rfl | rfl | rfl | rfl | rfl | rfl | rfl | rfl | rfl | rfl | rfl | rfl | rfl | rfl | rfl
    · refine P_tabIn (tgt := 84) dX7_count_1 (by first | decide | exact lt_c (by decide)) (by first | decide | exact lt_c (by decide)) (show _ = some 83 from rfl) (by first | decide | exact lt_c (by decide)) ?_
      refine P_aload_n (q := 85) dX7_count_84 rfl rfl ?_
      refine P_get (q := 88) dX7_count_85 rfl fX7_12 (by first | decide | exact lt_c (by decide)) (h0) rfl ?_
      refine P_get (q := 91) dX7_count_88 rfl fX7_181 (by first | decide | exact lt_c (by decide)) (e01) rfl ?_
      refine P_iret dX7_count_91 rfl (rfl) ?_
      exact OK.stay hW
    · refine P_tabIn (tgt := 92) dX7_count_1 (by first | decide | exact lt_c (by decide)) (by first | decide | exact lt_c (by decide)) (show _ = some 91 from rfl) (by first | decide | exact lt_c (by decide)) ?_
      refine P_aload_n (q := 93) dX7_count_92 rfl rfl ?_
      refine P_get (q := 96) dX7_count_93 rfl fX7_12 (by first | decide | exact lt_c (by decide)) (h0) rfl ?_
      refine P_get (q := 99) dX7_count_96 rfl fX7_182 (by first | decide | exact lt_c (by decide)) (e01) rfl ?_
      refine P_iret dX7_count_99 rfl (rfl) ?_
      exact OK.stay hW
    · refine P_tabIn (tgt := 100) dX7_count_1 (by first | decide | exact lt_c (by decide)) (by first | decide | exact lt_c (by decide)) (show _ = some 99 from rfl) (by first | decide | exact lt_c (by decide)) ?_
      refine P_aload_n (q := 101) dX7_count_100 rfl rfl ?_
      refine P_get (q := 104) dX7_count_101 rfl fX7_12 (by first | decide | exact lt_c (by decide)) (h0) rfl ?_
      refine P_get (q := 107) dX7_count_104 rfl fX7_66 (by first | decide | exact lt_c (by decide)) (e01) rfl ?_
      refine P_if_eq (q := 110) (tgt := 114) dX7_count_107 rfl (by first | decide | exact lt_c (by decide)) (fun c_107 => ?_) (fun c_107 => ?_)
      · rw [show ((0 : Int32)) = nI 0 from rfl, nI_eq (by omega) (by omega)] at c_107
        refine P_iconst (q := 115) (v := nI 0) dX7_count_114 rfl (by decide +kernel) ?_
        refine P_iret dX7_count_115 rfl (rfl) ?_
        have e : oCount w 2 = (nI w.A.g, w) := rfl
        rw [e]
        first | (rw [show w.A.g = 0 by omega]; exact OK.stay hW) | (rw [show w.A.g = 1 by omega]; exact OK.stay hW)
      · rw [show ((0 : Int32)) = nI 0 from rfl, nI_eq (by omega) (by omega)] at c_107
        refine P_iconst (q := 111) (v := nI 1) dX7_count_110 rfl (by decide +kernel) ?_
        refine P_goto (tgt := 115) dX7_count_111 (by first | decide | exact lt_c (by decide)) ?_
        refine P_iret dX7_count_115 rfl (rfl) ?_
        have e : oCount w 2 = (nI w.A.g, w) := rfl
        rw [e]
        first | (rw [show w.A.g = 0 by omega]; exact OK.stay hW) | (rw [show w.A.g = 1 by omega]; exact OK.stay hW)
    · refine P_tabIn (tgt := 116) dX7_count_1 (by first | decide | exact lt_c (by decide)) (by first | decide | exact lt_c (by decide)) (show _ = some 115 from rfl) (by first | decide | exact lt_c (by decide)) ?_
      refine P_aload_n (q := 117) dX7_count_116 rfl rfl ?_
      refine P_get (q := 120) dX7_count_117 rfl fX7_12 (by first | decide | exact lt_c (by decide)) (h0) rfl ?_
      refine P_cv1 (q := 123) dX7_count_120 rfl kX7_74 (t_energy hA e01 e02 ef0) rfl rfl (by first | decide | exact lt_c (by decide)) (e01) rfl ⟨by decide, by decide⟩ (Nat.le_of_ble_eq_true rfl) ⟨Nat.le_refl _, Nat.le_refl _⟩ ?_
      refine P_iret dX7_count_123 rfl (rfl) ?_
      exact OK.stay hW
    · refine P_tabIn (tgt := 124) dX7_count_1 (by first | decide | exact lt_c (by decide)) (by first | decide | exact lt_c (by decide)) (show _ = some 123 from rfl) (by first | decide | exact lt_c (by decide)) ?_
      refine P_aload_n (q := 125) dX7_count_124 rfl rfl ?_
      refine P_get (q := 128) dX7_count_125 rfl fX7_12 (by first | decide | exact lt_c (by decide)) (h0) rfl ?_
      refine P_cv1 (q := 131) dX7_count_128 rfl kX7_183 (t_walls hA e01) rfl rfl (by first | decide | exact lt_c (by decide)) (e01) rfl ⟨by decide, by decide⟩ (Nat.le_of_ble_eq_true rfl) ⟨Nat.le_refl _, Nat.le_refl _⟩ ?_
      refine P_iret dX7_count_131 rfl (rfl) ?_
      exact OK.stay hW
    · refine P_tabIn (tgt := 132) dX7_count_1 (by first | decide | exact lt_c (by decide)) (by first | decide | exact lt_c (by decide)) (show _ = some 131 from rfl) (by first | decide | exact lt_c (by decide)) ?_
      refine P_aload_n (q := 133) dX7_count_132 rfl rfl ?_
      refine P_get (q := 136) dX7_count_133 rfl fX7_12 (by first | decide | exact lt_c (by decide)) (h0) rfl ?_
      refine P_get (q := 139) dX7_count_136 rfl fX7_73 (by first | decide | exact lt_c (by decide)) (e01) rfl ?_
      refine P_cs1 (q := 142) dX7_count_139 rfl kX7_107 (t_bitCount w.A.U (by omega)) rfl rfl ⟨by decide, by decide⟩ (Nat.le_of_ble_eq_true rfl) ⟨Nat.le_refl _, Nat.le_refl _⟩ ?_
      refine P_iret dX7_count_142 rfl (rfl) ?_
      exact OK.stay hW
    · refine P_tabIn (tgt := 143) dX7_count_1 (by first | decide | exact lt_c (by decide)) (by first | decide | exact lt_c (by decide)) (show _ = some 142 from rfl) (by first | decide | exact lt_c (by decide)) ?_
      refine P_aload_n (q := 144) dX7_count_143 rfl rfl ?_
      refine P_get (q := 147) dX7_count_144 rfl fX7_12 (by first | decide | exact lt_c (by decide)) (h0) rfl ?_
      refine P_get (q := 150) dX7_count_147 rfl fX7_80 (by first | decide | exact lt_c (by decide)) (e01) rfl ?_
      refine P_iret dX7_count_150 rfl (rfl) ?_
      exact OK.stay hW
    · refine P_tabIn (tgt := 151) dX7_count_1 (by first | decide | exact lt_c (by decide)) (by first | decide | exact lt_c (by decide)) (show _ = some 150 from rfl) (by first | decide | exact lt_c (by decide)) ?_
      refine P_aload_n (q := 152) dX7_count_151 rfl rfl ?_
      refine P_get (q := 155) dX7_count_152 rfl fX7_12 (by first | decide | exact lt_c (by decide)) (h0) rfl ?_
      refine P_get (q := 158) dX7_count_155 rfl fX7_77 (by first | decide | exact lt_c (by decide)) (e01) rfl ?_
      refine P_iret dX7_count_158 rfl (rfl) ?_
      exact OK.stay hW
    · refine P_tabIn (tgt := 159) dX7_count_1 (by first | decide | exact lt_c (by decide)) (by first | decide | exact lt_c (by decide)) (show _ = some 158 from rfl) (by first | decide | exact lt_c (by decide)) ?_
      refine P_aload_n (q := 160) dX7_count_159 rfl rfl ?_
      refine P_get (q := 163) dX7_count_160 rfl fX7_19 (by first | decide | exact lt_c (by decide)) (h0) rfl ?_
      refine P_aload_n (q := 164) dX7_count_163 rfl rfl ?_
      refine P_get (q := 167) dX7_count_164 rfl fX7_12 (by first | decide | exact lt_c (by decide)) (h0) rfl ?_
      refine P_callv (q := 170) dX7_count_167 rfl (t_loE hS hAW) kX7_186 rfl rfl (by first | decide | exact lt_c (by decide)) (hAW.at.choose_spec.choose_spec.choose_spec.choose_spec.choose_spec) rfl ⟨by decide, by decide⟩ (Nat.le_of_ble_eq_true rfl) ⟨Nat.le_refl _, Nat.le_refl _⟩ ?_
      rintro v σ1 ⟨rfl, t1, hAW1⟩
      refine P_iret dX7_count_170 rfl (rfl) ?_
      exact ⟨rfl, hW.all t1 hAW1, t1.mono (fun i h => by omega)⟩
    · refine P_tabIn (tgt := 171) dX7_count_1 (by first | decide | exact lt_c (by decide)) (by first | decide | exact lt_c (by decide)) (show _ = some 170 from rfl) (by first | decide | exact lt_c (by decide)) ?_
      refine P_aload_n (q := 172) dX7_count_171 rfl rfl ?_
      refine P_get (q := 175) dX7_count_172 rfl fX7_19 (by first | decide | exact lt_c (by decide)) (h0) rfl ?_
      refine P_aload_n (q := 176) dX7_count_175 rfl rfl ?_
      refine P_get (q := 179) dX7_count_176 rfl fX7_12 (by first | decide | exact lt_c (by decide)) (h0) rfl ?_
      refine P_callv (q := 182) dX7_count_179 rfl (t_hiE hS hAW) kX7_190 rfl rfl (by first | decide | exact lt_c (by decide)) (hAW.at.choose_spec.choose_spec.choose_spec.choose_spec.choose_spec) rfl ⟨by decide, by decide⟩ (Nat.le_of_ble_eq_true rfl) ⟨Nat.le_refl _, Nat.le_refl _⟩ ?_
      rintro v σ1 ⟨rfl, t1, hAW1⟩
      refine P_iret dX7_count_182 rfl (rfl) ?_
      exact ⟨rfl, hW.all t1 hAW1, t1.mono (fun i h => by omega)⟩
    · refine P_tabIn (tgt := 183) dX7_count_1 (by first | decide | exact lt_c (by decide)) (by first | decide | exact lt_c (by decide)) (show _ = some 182 from rfl) (by first | decide | exact lt_c (by decide)) ?_
      refine P_aload_n (q := 184) dX7_count_183 rfl rfl ?_
      refine P_get (q := 187) dX7_count_184 rfl fX7_19 (by first | decide | exact lt_c (by decide)) (h0) rfl ?_
      refine P_aload_n (q := 188) dX7_count_187 rfl rfl ?_
      refine P_get (q := 191) dX7_count_188 rfl fX7_12 (by first | decide | exact lt_c (by decide)) (h0) rfl ?_
      refine P_aload_n (q := 192) dX7_count_191 rfl rfl ?_
      refine P_get (q := 195) dX7_count_192 rfl fX7_19 (by first | decide | exact lt_c (by decide)) (h0) rfl ?_
      refine P_aload_n (q := 196) dX7_count_195 rfl rfl ?_
      refine P_get (q := 199) dX7_count_196 rfl fX7_12 (by first | decide | exact lt_c (by decide)) (h0) rfl ?_
      refine P_callv (q := 202) dX7_count_199 rfl (t_loE hS hAW) kX7_186 rfl rfl (by first | decide | exact lt_c (by decide)) (hAW.at.choose_spec.choose_spec.choose_spec.choose_spec.choose_spec) rfl ⟨by decide, by decide⟩ (Nat.le_of_ble_eq_true rfl) ⟨Nat.le_refl _, Nat.le_refl _⟩ ?_
      rintro v σ1 ⟨rfl, t1, hAW1⟩
      have hW1 := hW.all t1 hAW1
      have hlo := fsA_le (w.A.md false).nz 190 0
      have hwr := St.wr_b hA false
      change (w.A.md false).lo ≤ 0 + 190 at hlo
      refine P_callv (q := 205) dX7_count_202 rfl (t_mwe hW1.2.1 hAW1 (z := 2 * (w.A.md false).lo - (w.A.md false).wr) (by omega) (by omega)) kX7_159 rfl rfl (by first | decide | exact lt_c (by decide)) (hAW1.at.choose_spec.choose_spec.choose_spec.choose_spec.choose_spec) rfl ⟨by decide, by decide⟩ (Nat.le_of_ble_eq_true rfl) ⟨Nat.le_refl _, Nat.le_refl _⟩ ?_
      rintro v σ2 ⟨rfl, t2, hAW2⟩
      refine P_iret dX7_count_205 rfl (rfl) ?_
      exact ⟨rfl, hW1.all t2 hAW2, (t1.trans t2).mono (fun i h => by omega)⟩
    · refine P_tabIn (tgt := 206) dX7_count_1 (by first | decide | exact lt_c (by decide)) (by first | decide | exact lt_c (by decide)) (show _ = some 205 from rfl) (by first | decide | exact lt_c (by decide)) ?_
      refine P_aload_n (q := 207) dX7_count_206 rfl rfl ?_
      refine P_get (q := 210) dX7_count_207 rfl fX7_12 (by first | decide | exact lt_c (by decide)) (h0) rfl ?_
      refine P_cv1 (q := 213) dX7_count_210 rfl kX7_193 (t_patches hA e01) rfl rfl (by first | decide | exact lt_c (by decide)) (e01) rfl ⟨by decide, by decide⟩ (Nat.le_of_ble_eq_true rfl) ⟨Nat.le_refl _, Nat.le_refl _⟩ ?_
      refine P_iret dX7_count_213 rfl (rfl) ?_
      exact OK.stay hW
    · refine P_tabIn (tgt := 214) dX7_count_1 (by first | decide | exact lt_c (by decide)) (by first | decide | exact lt_c (by decide)) (show _ = some 213 from rfl) (by first | decide | exact lt_c (by decide)) ?_
      refine P_aload_n (q := 215) dX7_count_214 rfl rfl ?_
      refine P_get (q := 218) dX7_count_215 rfl fX7_12 (by first | decide | exact lt_c (by decide)) (h0) rfl ?_
      refine P_cv1 (q := 221) dX7_count_218 rfl kX7_113 (t_gaining hA e01 e02 ef0) rfl rfl (by first | decide | exact lt_c (by decide)) (e01) rfl ⟨by decide, by decide⟩ (Nat.le_of_ble_eq_true rfl) ⟨Nat.le_refl _, Nat.le_refl _⟩ ?_
      refine P_iret dX7_count_221 rfl (rfl) ?_
      exact OK.stay hW
    · refine P_tabIn (tgt := 222) dX7_count_1 (by first | decide | exact lt_c (by decide)) (by first | decide | exact lt_c (by decide)) (show _ = some 221 from rfl) (by first | decide | exact lt_c (by decide)) ?_
      refine P_aload_n (q := 223) dX7_count_222 rfl rfl ?_
      refine P_get (q := 226) dX7_count_223 rfl fX7_12 (by first | decide | exact lt_c (by decide)) (h0) rfl ?_
      refine P_get (q := 229) dX7_count_226 rfl fX7_196 (by first | decide | exact lt_c (by decide)) (e01) rfl ?_
      refine P_iret dX7_count_229 rfl (rfl) ?_
      exact OK.stay hW
    · refine P_tabIn (tgt := 230) dX7_count_1 (by first | decide | exact lt_c (by decide)) (by first | decide | exact lt_c (by decide)) (show _ = some 229 from rfl) (by first | decide | exact lt_c (by decide)) ?_
      refine P_aload_n (q := 231) dX7_count_230 rfl rfl ?_
      refine P_get (q := 234) dX7_count_231 rfl fX7_12 (by first | decide | exact lt_c (by decide)) (h0) rfl ?_
      refine P_cv1 (q := 237) dX7_count_234 rfl kX7_199 (t_pairs hA e01) rfl rfl (by first | decide | exact lt_c (by decide)) (e01) rfl ⟨by decide, by decide⟩ (Nat.le_of_ble_eq_true rfl) ⟨Nat.le_refl _, Nat.le_refl _⟩ ?_
      refine P_iret dX7_count_237 rfl (rfl) ?_
      exact OK.stay hW
    · refine P_tabIn (tgt := 238) dX7_count_1 (by first | decide | exact lt_c (by decide)) (by first | decide | exact lt_c (by decide)) (show _ = some 237 from rfl) (by first | decide | exact lt_c (by decide)) ?_
      refine P_aload_n (q := 239) dX7_count_238 rfl rfl ?_
      refine P_get (q := 242) dX7_count_239 rfl fX7_26 (by first | decide | exact lt_c (by decide)) (h0) rfl ?_
      refine P_get (q := 245) dX7_count_242 rfl fX7_134 (by first | decide | exact lt_c (by decide)) (h100) rfl ?_
      refine P_iret dX7_count_245 rfl (rfl) ?_
      exact OK.stay hW
    · refine P_tabIn (tgt := 246) dX7_count_1 (by first | decide | exact lt_c (by decide)) (by first | decide | exact lt_c (by decide)) (show _ = some 245 from rfl) (by first | decide | exact lt_c (by decide)) ?_
      refine P_aload_n (q := 247) dX7_count_246 rfl rfl ?_
      refine P_get (q := 250) dX7_count_247 rfl fX7_40 (by first | decide | exact lt_c (by decide)) (h0) rfl ?_
      refine P_get (q := 253) dX7_count_250 rfl fX7_127 (by first | decide | exact lt_c (by decide)) (t112) rfl ?_
      refine P_iret dX7_count_253 rfl (rfl) ?_
      exact OK.stay hW
