variable {eN : Nat}
/-! THE CLASS: texts, what is told of all strips -/
theorem CW.tx {σ τ : Sto} {w : Cs} (hW : CW σ w) (s : same σ τ (fun i => i = 112 ∨ i = 113)) {n : Nat} {ch : Nat → Nat} (hT : TW τ n ch) : CW τ (w.A, w.H, w.Sn, n, ch) := by
  obtain ⟨h0, hS, hA, hH, ⟨C, h4, h5⟩, -⟩ := hW
  exact ⟨(s 0 (by omega)).trans h0, hS.congr (s 1 (by omega)) (s 2 (by omega)), hA.congr (fun k a b => s k (by omega)), hH.congr (fun k a b => s k (by omega)), ⟨C, h4.congr (s 110 (by omega)) (s 111 (by omega)), h5⟩, hT⟩
set_option maxRecDepth 100000 in
set_option maxHeartbeats 4000000 in
theorem a_type {σ : Sto} {w : Cs} (hW : CW σ w) {x : Nat} (hx : x < 65536) : CP mX7_type 0 0 [.ref 0, .int (nI x)] (eN + 114) σ (OK σ (oType w x)) := by
  obtain ⟨h0, hS, hAW, hH, hSn, hT⟩ := id hW
  have hA := hS.1
  obtain ⟨-, f0, e01, e02, ef0⟩ := id hS
  obtain ⟨n60, hch, tc, tr, tu, tg, t112, -⟩ := id hT
  by_cases hn : w.n < 60
  · refine CP_of (by decide +kernel) (Nat.le_of_ble_eq_true rfl) ?_
    change PW _ _ _ _ 0 [_, _] [] _ _ _ _
    refine P_aload_n (q := 1) dX7_type_0 rfl rfl ?_
    refine P_get (q := 4) dX7_type_1 rfl fX7_40 (by first | decide | exact lt_c (by decide)) (h0) rfl ?_
    refine P_iload_n (q := 5) dX7_type_4 rfl rfl ?_
    refine P_callv (q := 8) dX7_type_5 rfl (t_append hT hx hn) kX7_123 rfl rfl (by first | decide | exact lt_c (by decide)) (t112) rfl ⟨by decide, by decide⟩ (Nat.le_of_ble_eq_true rfl) ⟨Nat.le_refl _, Nat.le_refl _⟩ ?_
    rintro v σ1 ⟨rfl, hT1, t1⟩
    have h01 := (t1 0 (by omega)).trans h0
    obtain ⟨-, -, uc, ur, uu, ug, u112, -⟩ := id hT1
    refine P_if_eq (q := 11) (tgt := 21) dX7_type_8 rfl (by first | decide | exact lt_c (by decide)) (fun c_8 => ?_) (fun c_8 => ?_)
    · exact absurd c_8 (by first | decide | exact lt_c (by decide))
    · refine P_aload_n (q := 12) dX7_type_11 rfl rfl ?_
      refine P_get (q := 15) dX7_type_12 rfl fX7_40 (by first | decide | exact lt_c (by decide)) (h01) rfl ?_
      refine P_get (q := 18) dX7_type_15 rfl fX7_127 (by first | decide | exact lt_c (by decide)) (u112) rfl ?_
      refine P_goto (tgt := 24) dX7_type_18 (by first | decide | exact lt_c (by decide)) ?_
      refine P_iret dX7_type_24 rfl (rfl) ?_
      unfold oType; rw [if_pos hn]; exact ⟨rfl, hW.tx t1 hT1, t1.mono (fun i h => by omega)⟩
  · have en : w.n = 60 := by omega
    rw [en] at hT
    refine CP_of (by decide +kernel) (Nat.le_of_ble_eq_true rfl) ?_
    change PW _ _ _ _ 0 [_, _] [] _ _ _ _
    refine P_aload_n (q := 1) dX7_type_0 rfl rfl ?_
    refine P_get (q := 4) dX7_type_1 rfl fX7_40 (by first | decide | exact lt_c (by decide)) (h0) rfl ?_
    refine P_iload_n (q := 5) dX7_type_4 rfl rfl ?_
    refine P_cv1 (q := 8) dX7_type_5 rfl kX7_123 (t_appendF hT) rfl rfl (by first | decide | exact lt_c (by decide)) (t112) rfl ⟨by decide, by decide⟩ (Nat.le_of_ble_eq_true rfl) ⟨Nat.le_refl _, Nat.le_refl _⟩ ?_
    refine P_if_eq (q := 11) (tgt := 21) dX7_type_8 rfl (by first | decide | exact lt_c (by decide)) (fun c_8 => ?_) (fun c_8 => ?_)
    · refine P_sipush (q := 24) (v := iI (-1003)) dX7_type_21 rfl (by decide +kernel) ?_
      refine P_iret dX7_type_24 rfl (rfl) ?_
      unfold oType; rw [if_neg hn]; exact OK.stay hW
    · exact absurd rfl c_8
set_option maxRecDepth 100000 in
set_option maxHeartbeats 4000000 in
theorem a_clear {σ : Sto} {w : Cs} (hW : CW σ w) : CP mX7_clearText 0 0 [.ref 0] (eN + 114) σ (OK σ (oClear w)) := by
  obtain ⟨h0, hS, hAW, hH, hSn, hT⟩ := id hW
  have hA := hS.1
  obtain ⟨-, f0, e01, e02, ef0⟩ := id hS
  obtain ⟨n60, hch, tc, tr, tu, tg, t112, t113, -⟩ := id hT
  refine CP_of (by decide +kernel) (Nat.le_of_ble_eq_true rfl) ?_
  change PW _ _ _ _ 0 [_, _] [] _ _ _ _
  refine P_aload_n (q := 1) dX7_clearText_0 rfl rfl ?_
  refine P_get (q := 4) dX7_clearText_1 rfl fX7_40 (by first | decide | exact lt_c (by decide)) (h0) rfl ?_
  refine P_get (q := 7) dX7_clearText_4 rfl fX7_127 (by first | decide | exact lt_c (by decide)) (t112) rfl ?_
  refine P_istore_n (q := 8) (L' := [_, _]) dX7_clearText_7 rfl (by first | decide | exact lt_c (by decide)) rfl ?_
  refine P_aload_n (q := 9) dX7_clearText_8 rfl rfl ?_
  refine P_get (q := 12) dX7_clearText_9 rfl fX7_40 (by first | decide | exact lt_c (by decide)) (h0) rfl ?_
  refine P_iconst (q := 13) (v := nI 0) dX7_clearText_12 rfl (by decide +kernel) ?_
  refine P_put (q := 16) (fs' := [_, .int (nI 0), _, _, _]) dX7_clearText_13 rfl gX7_127 (by first | decide | exact lt_c (by decide)) (t112) (fun _ => rfl) (fun _ => rfl) (Nat.le_of_ble_eq_true rfl) rfl (rfl) ?_
  refine P_iload_n (q := 17) dX7_clearText_16 rfl rfl ?_
  refine P_iret dX7_clearText_17 rfl (rfl) ?_
  have s : same σ (va_up σ 112 (txO 0 tc tr tu)) (fun i => i = 112 ∨ i = 113) := same.rf.up (Or.inl rfl)
  exact ⟨rfl, hW.tx s ⟨Nat.zero_le _, hch, tc, tr, tu, tg, up_at _ _ _, (up_ne _ _ (by omega)).trans t113, fun i hi => absurd hi (Nat.not_lt_zero _)⟩, s.mono (fun i h => by omega)⟩
set_option maxRecDepth 100000 in
set_option maxHeartbeats 4000000 in
theorem a_col {σ : Sto} {w : Cs} (hW : CW σ w) {c0 : Int} (c01 : -2147483648 ≤ c0) (c02 : c0 < 2147483648) : CP mX7_column 0 0 [.ref 0, .int (iI c0)] (eN + 114) σ (OK σ (oCol w c0)) := by
  obtain ⟨h0, hS, hAW, hH, hSn, hT⟩ := id hW
  have hA := hS.1
  obtain ⟨-, f0, e01, e02, ef0⟩ := id hS
  have hh := t_has (eN := eN) e01 (nI 0) (iI c0)
  rw [show nI 0 = iI 0 from rfl, hasB_i hA (by omega) (by omega) c01 c02] at hh
  have hR := hA.2.1
  refine CP_of (by decide +kernel) (Nat.le_of_ble_eq_true rfl) ?_
  change PW _ _ _ _ 0 [_, _] [] _ _ _ _
  refine P_aload_n (q := 1) dX7_column_0 rfl rfl ?_
  refine P_get (q := 4) dX7_column_1 rfl fX7_12 (by first | decide | exact lt_c (by decide)) (h0) rfl ?_
  refine P_iconst (q := 5) (v := nI 0) dX7_column_4 rfl (by decide +kernel) ?_
  refine P_iload_n (q := 6) dX7_column_5 rfl rfl ?_
  refine P_cv1 (q := 9) dX7_column_6 rfl kX7_83 (hh) rfl rfl (by first | decide | exact lt_c (by decide)) (e01) rfl ⟨by decide, by decide⟩ (Nat.le_of_ble_eq_true rfl) ⟨Nat.le_refl _, Nat.le_refl _⟩ ?_
  refine P_if_eq (q := 12) (tgt := 23) dX7_column_9 rfl (by first | decide | exact lt_c (by decide)) (fun c_9 => ?_) (fun c_9 => ?_)
  · rw [bI_0] at c_9
    have hno := of_decide_eq_false c_9
    refine P_sipush (q := 26) (v := iI (-1001)) dX7_column_23 rfl (by decide +kernel) ?_
    refine P_iret dX7_column_26 rfl (rfl) ?_
    first | (unfold oCol; rw [if_neg (by omega)]; exact OK.stay hW) | (unfold oCol; rw [if_pos ⟨by omega, by omega⟩]; exact OK.stay hW)
  · rw [bI_n] at c_9
    obtain ⟨r, c, -, rfl, hr, hc⟩ := inB_n c_9
    rw [← iI_nI]
    refine P_aload_n (q := 13) dX7_column_12 rfl rfl ?_
    refine P_get (q := 16) dX7_column_13 rfl fX7_12 (by first | decide | exact lt_c (by decide)) (h0) rfl ?_
    refine P_iload_n (q := 17) dX7_column_16 rfl rfl ?_
    refine P_cv1 (q := 20) dX7_column_17 rfl kX7_156 (t_kindOf hA e01 hc) rfl rfl (by first | decide | exact lt_c (by decide)) (e01) rfl ⟨by decide, by decide⟩ (Nat.le_of_ble_eq_true rfl) ⟨Nat.le_refl _, Nat.le_refl _⟩ ?_
    refine P_goto (tgt := 26) dX7_column_20 (by first | decide | exact lt_c (by decide)) ?_
    refine P_iret dX7_column_26 rfl (rfl) ?_
    first | (unfold oCol; rw [if_neg (by omega)]; exact OK.stay hW) | (unfold oCol; rw [if_pos ⟨by omega, by omega⟩]; exact OK.stay hW)
def oWE (w : Cs) (z : Int) : Int32 × Cs := (nI ((w.A.md false).me z), w)
def oWW (w : Cs) (z : Int) : Int32 × Cs := (if 0 ≤ z ∧ z < 191 then nI ((w.A.md true).cnt z.toNat) else 0, w)
def oWU (w : Cs) (z : Int) (l : Bool) : Int32 × Cs := (if l then (if 0 ≤ z ∧ z < 31 then nI ((w.A.md false).mu z.toNat) else 0) else (if 0 ≤ z ∧ z ≤ w.A.C * w.A.R then (chs (w.A.C * w.A.R) z.toNat).toInt32 else 0), w)
set_option maxRecDepth 100000 in
set_option maxHeartbeats 4000000 in
theorem a_we {σ : Sto} {w : Cs} (hW : CW σ w) {z : Int} (z1 : -2147483648 ≤ z) (z2 : z < 2147483648) : CP mX7_withEnergy 0 0 [.ref 0, .int (iI z)] (eN + 114) σ (OK σ (oWE w z)) := by
  obtain ⟨h0, hS, hAW, hH, hSn, hT⟩ := id hW
  have hA := hS.1
  obtain ⟨-, f0, e01, e02, ef0⟩ := id hS
  refine CP_of (by decide +kernel) (Nat.le_of_ble_eq_true rfl) ?_
  change PW _ _ _ _ 0 [_, _] [] _ _ _ _
  refine P_aload_n (q := 1) dX7_withEnergy_0 rfl rfl ?_
  refine P_get (q := 4) dX7_withEnergy_1 rfl fX7_19 (by first | decide | exact lt_c (by decide)) (h0) rfl ?_
  refine P_aload_n (q := 5) dX7_withEnergy_4 rfl rfl ?_
  refine P_get (q := 8) dX7_withEnergy_5 rfl fX7_12 (by first | decide | exact lt_c (by decide)) (h0) rfl ?_
  refine P_iload_n (q := 9) dX7_withEnergy_8 rfl rfl ?_
  refine P_callv (q := 12) dX7_withEnergy_9 rfl (t_mwe hS hAW z1 z2) kX7_159 rfl rfl (by first | decide | exact lt_c (by decide)) (hAW.at.choose_spec.choose_spec.choose_spec.choose_spec.choose_spec) rfl ⟨by decide, by decide⟩ (Nat.le_of_ble_eq_true rfl) ⟨Nat.le_refl _, Nat.le_refl _⟩ ?_
  rintro v σ1 ⟨rfl, t1, hAW1⟩
  refine P_iret dX7_withEnergy_12 rfl (rfl) ?_
  exact ⟨rfl, hW.all t1 hAW1, t1.mono (fun i h => by omega)⟩
set_option maxRecDepth 100000 in
set_option maxHeartbeats 4000000 in
theorem a_ww {σ : Sto} {w : Cs} (hW : CW σ w) {z : Int} (z1 : -2147483648 ≤ z) (z2 : z < 2147483648) : CP mX7_withWalls 0 0 [.ref 0, .int (iI z)] (eN + 114) σ (OK σ (oWW w z)) := by
  obtain ⟨h0, hS, hAW, hH, hSn, hT⟩ := id hW
  have hA := hS.1
  obtain ⟨-, f0, e01, e02, ef0⟩ := id hS
  refine CP_of (by decide +kernel) (Nat.le_of_ble_eq_true rfl) ?_
  change PW _ _ _ _ 0 [_, _] [] _ _ _ _
  refine P_aload_n (q := 1) dX7_withWalls_0 rfl rfl ?_
  refine P_get (q := 4) dX7_withWalls_1 rfl fX7_19 (by first | decide | exact lt_c (by decide)) (h0) rfl ?_
  refine P_aload_n (q := 5) dX7_withWalls_4 rfl rfl ?_
  refine P_get (q := 8) dX7_withWalls_5 rfl fX7_12 (by first | decide | exact lt_c (by decide)) (h0) rfl ?_
  refine P_iload_n (q := 9) dX7_withWalls_8 rfl rfl ?_
  refine P_callv (q := 12) dX7_withWalls_9 rfl (t_mww hS hAW z1 z2) kX7_163 rfl rfl (by first | decide | exact lt_c (by decide)) (hAW.at.choose_spec.choose_spec.choose_spec.choose_spec.choose_spec) rfl ⟨by decide, by decide⟩ (Nat.le_of_ble_eq_true rfl) ⟨Nat.le_refl _, Nat.le_refl _⟩ ?_
  rintro v σ1 ⟨rfl, t1, hAW1⟩
  refine P_iret dX7_withWalls_12 rfl (rfl) ?_
  exact ⟨rfl, hW.all t1 hAW1, t1.mono (fun i h => by omega)⟩
set_option maxRecDepth 100000 in
set_option maxHeartbeats 4000000 in
theorem a_wu {σ : Sto} {w : Cs} (hW : CW σ w) {z : Int} (z1 : -2147483648 ≤ z) (z2 : z < 2147483648) (l : Bool) : CP mX7_withUps 0 0 [.ref 0, .int (iI z), .int (bI l)] (eN + 114) σ (OK σ (oWU w z l)) := by
  obtain ⟨h0, hS, hAW, hH, hSn, hT⟩ := id hW
  have hA := hS.1
  obtain ⟨-, f0, e01, e02, ef0⟩ := id hS
  refine CP_of (by decide +kernel) (Nat.le_of_ble_eq_true rfl) ?_
  change PW _ _ _ _ 0 [_, _, _] [] _ _ _ _
  refine P_iload_n (q := 1) dX7_withUps_0 rfl rfl ?_
  refine P_if_eq (q := 4) (tgt := 19) dX7_withUps_1 rfl (by first | decide | exact lt_c (by decide)) (fun c_1 => ?_) (fun c_1 => ?_)
  · rw [bI_0] at c_1
    subst c_1
    refine P_aload_n (q := 20) dX7_withUps_19 rfl rfl ?_
    refine P_get (q := 23) dX7_withUps_20 rfl fX7_12 (by first | decide | exact lt_c (by decide)) (h0) rfl ?_
    refine P_iload_n (q := 24) dX7_withUps_23 rfl rfl ?_
    refine P_cs1 (q := 27) dX7_withUps_24 rfl kX7_169 (t_mwu hS z1 z2) rfl rfl ⟨by decide, by decide⟩ (Nat.le_of_ble_eq_true rfl) ⟨Nat.le_refl _, Nat.le_refl _⟩ ?_
    refine P_iret dX7_withUps_27 rfl (rfl) ?_
    exact OK.stay hW
  · rw [bI_n] at c_1
    subst c_1
    refine P_aload_n (q := 5) dX7_withUps_4 rfl rfl ?_
    refine P_get (q := 8) dX7_withUps_5 rfl fX7_19 (by first | decide | exact lt_c (by decide)) (h0) rfl ?_
    refine P_aload_n (q := 9) dX7_withUps_8 rfl rfl ?_
    refine P_get (q := 12) dX7_withUps_9 rfl fX7_12 (by first | decide | exact lt_c (by decide)) (h0) rfl ?_
    refine P_iload_n (q := 13) dX7_withUps_12 rfl rfl ?_
    refine P_callv (q := 16) dX7_withUps_13 rfl (t_mlu hS hAW z1 z2) kX7_166 rfl rfl (by first | decide | exact lt_c (by decide)) (hAW.at.choose_spec.choose_spec.choose_spec.choose_spec.choose_spec) rfl ⟨by decide, by decide⟩ (Nat.le_of_ble_eq_true rfl) ⟨Nat.le_refl _, Nat.le_refl _⟩ ?_
    rintro v σ1 ⟨rfl, t1, hAW1⟩
    refine P_goto (tgt := 27) dX7_withUps_16 (by first | decide | exact lt_c (by decide)) ?_
    refine P_iret dX7_withUps_27 rfl (rfl) ?_
    exact ⟨rfl, hW.all t1 hAW1, t1.mono (fun i h => by omega)⟩
