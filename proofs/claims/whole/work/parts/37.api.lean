/-! THE CLASS: texts, what is told of all strips -/
theorem CW.tx {σ τ : Sto} {w : Cs} (hW : CW σ w) (s : same σ τ (fun i => i = 112 ∨ i = 113)) {n : Nat} {ch : Nat → Nat} (hT : TW τ n ch) : CW τ (w.A, w.H, w.Sn, n, ch) := by
  obtain ⟨h0, hS, hA, hH, ⟨C, h4, h5⟩, -⟩ := hW
  exact ⟨(s 0 (by omega)).trans h0, hS.congr (s 1 (by omega)) (s 2 (by omega)), hA.congr (fun k a b => s k (by omega)), hH.congr (fun k a b => s k (by omega)), ⟨C, h4.congr (s 110 (by omega)) (s 111 (by omega)), h5⟩, hT⟩
set_option maxRecDepth 100000 in
set_option maxHeartbeats 4000000 in
theorem a_type {σ : Sto} {w : Cs} (hW : CW σ w) {x : Nat} (hx : x < 65536) : CP mX7_type 0 0 [.ref 0, .int (nI x)] 132 σ (OK σ (oType w x)) := by
  obtain ⟨h0, hS, hAW, hH, hSn, hT⟩ := id hW
  have hA := hS.1
  obtain ⟨-, f0, e01, e02, ef0⟩ := id hS
  obtain ⟨n60, hch, tc, tr, tu, tg, t112, -⟩ := id hT
  by_cases hn : w.n < 60
  · refine CP_of (by decide +kernel) (Nat.le_of_ble_eq_true rfl) ?_
    change PW _ _ _ _ 0 [_, _] [] _ _ _ _
    refine P_aload_n (q := 1) dX7_type_0 rfl rfl ?_
    refine P_get (q := 4) dX7_type_1 rfl fX7_40 (by decide) (h0) rfl ?_
    refine P_iload_n (q := 5) dX7_type_4 rfl rfl ?_
    refine P_callv (q := 8) dX7_type_5 rfl (t_append hT hx hn) kX7_123 rfl rfl (by decide) (t112) rfl ⟨by decide, by decide⟩ (Nat.le_of_ble_eq_true rfl) ⟨Nat.le_refl _, Nat.le_refl _⟩ ?_
    rintro v σ1 ⟨rfl, hT1, t1⟩
    have h01 := (t1 0 (by omega)).trans h0
    obtain ⟨-, -, uc, ur, uu, ug, u112, -⟩ := id hT1
    refine P_if_eq (q := 11) (tgt := 21) dX7_type_8 rfl (by decide) (fun c_8 => ?_) (fun c_8 => ?_)
    · exact absurd c_8 (by decide)
    · refine P_aload_n (q := 12) dX7_type_11 rfl rfl ?_
      refine P_get (q := 15) dX7_type_12 rfl fX7_40 (by decide) (h01) rfl ?_
      refine P_get (q := 18) dX7_type_15 rfl fX7_127 (by decide) (u112) rfl ?_
      refine P_goto (tgt := 24) dX7_type_18 (by decide) ?_
      refine P_iret dX7_type_24 rfl (rfl) ?_
      unfold oType; rw [if_pos hn]; exact ⟨rfl, hW.tx t1 hT1, t1.mono (fun i h => by omega)⟩
  · have en : w.n = 60 := by omega
    rw [en] at hT
    refine CP_of (by decide +kernel) (Nat.le_of_ble_eq_true rfl) ?_
    change PW _ _ _ _ 0 [_, _] [] _ _ _ _
    refine P_aload_n (q := 1) dX7_type_0 rfl rfl ?_
    refine P_get (q := 4) dX7_type_1 rfl fX7_40 (by decide) (h0) rfl ?_
    refine P_iload_n (q := 5) dX7_type_4 rfl rfl ?_
    refine P_cv1 (q := 8) dX7_type_5 rfl kX7_123 (t_appendF hT) rfl rfl (by decide) (t112) rfl ⟨by decide, by decide⟩ (Nat.le_of_ble_eq_true rfl) ⟨Nat.le_refl _, Nat.le_refl _⟩ ?_
    refine P_if_eq (q := 11) (tgt := 21) dX7_type_8 rfl (by decide) (fun c_8 => ?_) (fun c_8 => ?_)
    · refine P_sipush (q := 24) (v := iI (-1003)) dX7_type_21 rfl (by decide +kernel) ?_
      refine P_iret dX7_type_24 rfl (rfl) ?_
      unfold oType; rw [if_neg hn]; exact OK.stay hW
    · exact absurd rfl c_8
set_option maxRecDepth 100000 in
set_option maxHeartbeats 4000000 in
theorem a_clear {σ : Sto} {w : Cs} (hW : CW σ w) : CP mX7_clearText 0 0 [.ref 0] 132 σ (OK σ (oClear w)) := by
  obtain ⟨h0, hS, hAW, hH, hSn, hT⟩ := id hW
  have hA := hS.1
  obtain ⟨-, f0, e01, e02, ef0⟩ := id hS
  obtain ⟨n60, hch, tc, tr, tu, tg, t112, t113, -⟩ := id hT
  refine CP_of (by decide +kernel) (Nat.le_of_ble_eq_true rfl) ?_
  change PW _ _ _ _ 0 [_, _] [] _ _ _ _
  refine P_aload_n (q := 1) dX7_clearText_0 rfl rfl ?_
  refine P_get (q := 4) dX7_clearText_1 rfl fX7_40 (by decide) (h0) rfl ?_
  refine P_get (q := 7) dX7_clearText_4 rfl fX7_127 (by decide) (t112) rfl ?_
  refine P_istore_n (q := 8) (L' := [_, _]) dX7_clearText_7 rfl (by decide) rfl ?_
  refine P_aload_n (q := 9) dX7_clearText_8 rfl rfl ?_
  refine P_get (q := 12) dX7_clearText_9 rfl fX7_40 (by decide) (h0) rfl ?_
  refine P_iconst (q := 13) (v := nI 0) dX7_clearText_12 rfl (by decide +kernel) ?_
  refine P_put (q := 16) (fs' := [_, .int (nI 0), _, _, _]) dX7_clearText_13 rfl gX7_127 (by decide) (t112) (fun _ => rfl) (fun _ => rfl) (Nat.le_of_ble_eq_true rfl) rfl (rfl) ?_
  refine P_iload_n (q := 17) dX7_clearText_16 rfl rfl ?_
  refine P_iret dX7_clearText_17 rfl (rfl) ?_
  have s : same σ (va_up σ 112 (txO 0 tc tr tu)) (fun i => i = 112 ∨ i = 113) := same.rf.up (Or.inl rfl)
  exact ⟨rfl, hW.tx s ⟨Nat.zero_le _, hch, tc, tr, tu, tg, up_at _ _ _, (up_ne _ _ (by omega)).trans t113, fun i hi => absurd hi (Nat.not_lt_zero _)⟩, s.mono (fun i h => by omega)⟩
set_option maxRecDepth 100000 in
set_option maxHeartbeats 4000000 in
theorem a_col {σ : Sto} {w : Cs} (hW : CW σ w) {c0 : Int} (c01 : -2147483648 ≤ c0) (c02 : c0 < 2147483648) : CP mX7_column 0 0 [.ref 0, .int (iI c0)] 132 σ (OK σ (oCol w c0)) := by
  obtain ⟨h0, hS, hAW, hH, hSn, hT⟩ := id hW
  have hA := hS.1
  obtain ⟨-, f0, e01, e02, ef0⟩ := id hS
  have hh := t_has e01 (nI 0) (iI c0)
  rw [show nI 0 = iI 0 from rfl, hasB_i hA (by omega) (by omega) c01 c02] at hh
  have hR := hA.2.1
  refine CP_of (by decide +kernel) (Nat.le_of_ble_eq_true rfl) ?_
  change PW _ _ _ _ 0 [_, _] [] _ _ _ _
  refine P_aload_n (q := 1) dX7_column_0 rfl rfl ?_
  refine P_get (q := 4) dX7_column_1 rfl fX7_12 (by decide) (h0) rfl ?_
  refine P_iconst (q := 5) (v := nI 0) dX7_column_4 rfl (by decide +kernel) ?_
  refine P_iload_n (q := 6) dX7_column_5 rfl rfl ?_
  refine P_cv1 (q := 9) dX7_column_6 rfl kX7_83 (hh) rfl rfl (by decide) (e01) rfl ⟨by decide, by decide⟩ (Nat.le_of_ble_eq_true rfl) ⟨Nat.le_refl _, Nat.le_refl _⟩ ?_
  refine P_if_eq (q := 12) (tgt := 23) dX7_column_9 rfl (by decide) (fun c_9 => ?_) (fun c_9 => ?_)
  · rw [bI_0] at c_9
    have hno := of_decide_eq_false c_9
    refine P_sipush (q := 26) (v := iI (-1001)) dX7_column_23 rfl (by decide +kernel) ?_
    refine P_iret dX7_column_26 rfl (rfl) ?_
    first | (unfold oCol; rw [if_neg (by omega)]; exact OK.stay hW) | (unfold oCol; rw [if_pos ⟨by omega, by omega⟩]; exact OK.stay hW)
  · rw [bI_n] at c_9
    obtain ⟨r, c, -, rfl, hr, hc⟩ := inB_n c_9
    rw [← iI_nI]
    refine P_aload_n (q := 13) dX7_column_12 rfl rfl ?_
    refine P_get (q := 16) dX7_column_13 rfl fX7_12 (by decide) (h0) rfl ?_
    refine P_iload_n (q := 17) dX7_column_16 rfl rfl ?_
    refine P_cv1 (q := 20) dX7_column_17 rfl kX7_156 (t_kindOf hA e01 hc) rfl rfl (by decide) (e01) rfl ⟨by decide, by decide⟩ (Nat.le_of_ble_eq_true rfl) ⟨Nat.le_refl _, Nat.le_refl _⟩ ?_
    refine P_goto (tgt := 26) dX7_column_20 (by decide) ?_
    refine P_iret dX7_column_26 rfl (rfl) ?_
    first | (unfold oCol; rw [if_neg (by omega)]; exact OK.stay hW) | (unfold oCol; rw [if_pos ⟨by omega, by omega⟩]; exact OK.stay hW)
def oWE (w : Cs) (z : Int) : Int32 × Cs := (nI ((w.A.md false).me z), w)
def oWW (w : Cs) (z : Int) : Int32 × Cs := (if 0 ≤ z ∧ z < 191 then nI ((w.A.md true).cnt z.toNat) else 0, w)
def oWU (w : Cs) (z : Int) (l : Bool) : Int32 × Cs := (if l then (if 0 ≤ z ∧ z < 31 then nI ((w.A.md false).mu z.toNat) else 0) else (if 0 ≤ z ∧ z ≤ w.A.C * w.A.R then (chs (w.A.C * w.A.R) z.toNat).toInt32 else 0), w)
set_option maxRecDepth 100000 in
set_option maxHeartbeats 4000000 in
theorem a_we {σ : Sto} {w : Cs} (hW : CW σ w) {z : Int} (z1 : -2147483648 ≤ z) (z2 : z < 2147483648) : CP mX7_withEnergy 0 0 [.ref 0, .int (iI z)] 132 σ (OK σ (oWE w z)) := by
  obtain ⟨h0, hS, hAW, hH, hSn, hT⟩ := id hW
  have hA := hS.1
  obtain ⟨-, f0, e01, e02, ef0⟩ := id hS
  refine CP_of (by decide +kernel) (Nat.le_of_ble_eq_true rfl) ?_
  change PW _ _ _ _ 0 [_, _] [] _ _ _ _
  refine P_aload_n (q := 1) dX7_withEnergy_0 rfl rfl ?_
  refine P_get (q := 4) dX7_withEnergy_1 rfl fX7_19 (by decide) (h0) rfl ?_
  refine P_aload_n (q := 5) dX7_withEnergy_4 rfl rfl ?_
  refine P_get (q := 8) dX7_withEnergy_5 rfl fX7_12 (by decide) (h0) rfl ?_
  refine P_iload_n (q := 9) dX7_withEnergy_8 rfl rfl ?_
  refine P_callv (q := 12) dX7_withEnergy_9 rfl (t_mwe hS hAW z1 z2) kX7_159 rfl rfl (by decide) (hAW.at.choose_spec.choose_spec.choose_spec.choose_spec.choose_spec) rfl ⟨by decide, by decide⟩ (Nat.le_of_ble_eq_true rfl) ⟨Nat.le_refl _, Nat.le_refl _⟩ ?_
  rintro v σ1 ⟨rfl, t1, hAW1⟩
  refine P_iret dX7_withEnergy_12 rfl (rfl) ?_
  exact ⟨rfl, hW.all t1 hAW1, t1.mono (fun i h => by omega)⟩
set_option maxRecDepth 100000 in
set_option maxHeartbeats 4000000 in
theorem a_ww {σ : Sto} {w : Cs} (hW : CW σ w) {z : Int} (z1 : -2147483648 ≤ z) (z2 : z < 2147483648) : CP mX7_withWalls 0 0 [.ref 0, .int (iI z)] 132 σ (OK σ (oWW w z)) := by
  obtain ⟨h0, hS, hAW, hH, hSn, hT⟩ := id hW
  have hA := hS.1
  obtain ⟨-, f0, e01, e02, ef0⟩ := id hS
  refine CP_of (by decide +kernel) (Nat.le_of_ble_eq_true rfl) ?_
  change PW _ _ _ _ 0 [_, _] [] _ _ _ _
  refine P_aload_n (q := 1) dX7_withWalls_0 rfl rfl ?_
  refine P_get (q := 4) dX7_withWalls_1 rfl fX7_19 (by decide) (h0) rfl ?_
  refine P_aload_n (q := 5) dX7_withWalls_4 rfl rfl ?_
  refine P_get (q := 8) dX7_withWalls_5 rfl fX7_12 (by decide) (h0) rfl ?_
  refine P_iload_n (q := 9) dX7_withWalls_8 rfl rfl ?_
  refine P_callv (q := 12) dX7_withWalls_9 rfl (t_mww hS hAW z1 z2) kX7_163 rfl rfl (by decide) (hAW.at.choose_spec.choose_spec.choose_spec.choose_spec.choose_spec) rfl ⟨by decide, by decide⟩ (Nat.le_of_ble_eq_true rfl) ⟨Nat.le_refl _, Nat.le_refl _⟩ ?_
  rintro v σ1 ⟨rfl, t1, hAW1⟩
  refine P_iret dX7_withWalls_12 rfl (rfl) ?_
  exact ⟨rfl, hW.all t1 hAW1, t1.mono (fun i h => by omega)⟩
set_option maxRecDepth 100000 in
set_option maxHeartbeats 4000000 in
theorem a_wu {σ : Sto} {w : Cs} (hW : CW σ w) {z : Int} (z1 : -2147483648 ≤ z) (z2 : z < 2147483648) (l : Bool) : CP mX7_withUps 0 0 [.ref 0, .int (iI z), .int (bI l)] 132 σ (OK σ (oWU w z l)) := by
  obtain ⟨h0, hS, hAW, hH, hSn, hT⟩ := id hW
  have hA := hS.1
  obtain ⟨-, f0, e01, e02, ef0⟩ := id hS
  refine CP_of (by decide +kernel) (Nat.le_of_ble_eq_true rfl) ?_
  change PW _ _ _ _ 0 [_, _, _] [] _ _ _ _
  refine P_iload_n (q := 1) dX7_withUps_0 rfl rfl ?_
  refine P_if_eq (q := 4) (tgt := 19) dX7_withUps_1 rfl (by decide) (fun c_1 => ?_) (fun c_1 => ?_)
  · rw [bI_0] at c_1
    subst c_1
    refine P_aload_n (q := 20) dX7_withUps_19 rfl rfl ?_
    refine P_get (q := 23) dX7_withUps_20 rfl fX7_12 (by decide) (h0) rfl ?_
    refine P_iload_n (q := 24) dX7_withUps_23 rfl rfl ?_
    refine P_cs1 (q := 27) dX7_withUps_24 rfl kX7_169 (t_mwu hS z1 z2) rfl rfl ⟨by decide, by decide⟩ (Nat.le_of_ble_eq_true rfl) ⟨Nat.le_refl _, Nat.le_refl _⟩ ?_
    refine P_iret dX7_withUps_27 rfl (rfl) ?_
    exact OK.stay hW
  · rw [bI_n] at c_1
    subst c_1
    refine P_aload_n (q := 5) dX7_withUps_4 rfl rfl ?_
    refine P_get (q := 8) dX7_withUps_5 rfl fX7_19 (by decide) (h0) rfl ?_
    refine P_aload_n (q := 9) dX7_withUps_8 rfl rfl ?_
    refine P_get (q := 12) dX7_withUps_9 rfl fX7_12 (by decide) (h0) rfl ?_
    refine P_iload_n (q := 13) dX7_withUps_12 rfl rfl ?_
    refine P_callv (q := 16) dX7_withUps_13 rfl (t_mlu hS hAW z1 z2) kX7_166 rfl rfl (by decide) (hAW.at.choose_spec.choose_spec.choose_spec.choose_spec.choose_spec) rfl ⟨by decide, by decide⟩ (Nat.le_of_ble_eq_true rfl) ⟨Nat.le_refl _, Nat.le_refl _⟩ ?_
    rintro v σ1 ⟨rfl, t1, hAW1⟩
    refine P_goto (tgt := 27) dX7_withUps_16 (by decide) ?_
    refine P_iret dX7_withUps_27 rfl (rfl) ?_
    exact ⟨rfl, hW.all t1 hAW1, t1.mono (fun i h => by omega)⟩
/-- the first strip with the least energy -/
def St.su (A : St) : St := (A.C, A.R, A.g, A.al, A.ac, fun c => if c < A.C then (A.md false).fo (A.md false).f1 c else 0, A.fd, A.tu)
theorem su_ok {A : St} (hA : A.ok) : A.su.ok := by
  refine ⟨hA.1, hA.2.1, hA.2.2.1, hA.2.2.2.1, hA.2.2.2.2.1, fun c => ?_, fun c hc => if_neg (show ¬ c < A.C from by have : A.C ≤ c := hc; omega), hA.2.2.2.2.2.2.2⟩
  show (if c < A.C then _ else 0) < 2 ^ A.R
  split
  · exact Md.fo_lt (m := A.md false) (Md.kio_lt _) c
  · exact Nat.two_pow_pos _
theorem upsN_cutC {sp : Nat → Nat} {C : Nat} : ∀ n, C ≤ n → upsN (fun c => if c < C then sp c else 0) n = upsN sp C
  | 0, h => by
    have : C = 0 := by omega
    subst this; rfl
  | n + 1, h => by
    rw [upsN_succ]
    by_cases e : C = n + 1
    · subst e
      rw [upsN_succ, if_pos (Nat.lt_succ_self n)]
      congr 1
      exact sumN_congr fun i hi => by
        show (if i < n + 1 then sp i else 0) * 16 ^ i = _
        rw [if_pos (by omega)]
    · rw [if_neg (by omega), upsN_cutC n (by omega), Nat.mul_zero, Nat.zero_add]
theorem su_U {A : St} (hA : A.ok) : A.su.U = upsN ((A.md false).fo (A.md false).f1) A.C := upsN_cutC 10 hA.1.2
def oSettle (w : Cs) : Int32 × Cs := if w.A.su.U = w.A.U then (iI (-1005), w) else (iI w.A.su.E, w.to w.A.su)
set_option maxRecDepth 100000 in
set_option maxHeartbeats 4000000 in
theorem a_settle {σ : Sto} {w : Cs} (hW : CW σ w) : CP mX7_settle 0 0 [.ref 0] 132 σ (OK σ (oSettle w)) := by
  have hA := hW.2.1.1
  have u1 := St.U_lt hA
  have hB := su_ok hA
  have u2 := St.U_lt hB
  have cmp : lg_cmp (lN w.A.su.U) (lN w.A.U) = 0 ↔ w.A.su.U = w.A.U := lcmp_eq (by omega) (by omega)
  have hAW0 := hW.2.2.1
  refine CP_of (by decide +kernel) (Nat.le_of_ble_eq_true rfl) ?_
  change PW _ _ _ _ 0 [_, _, _] [] _ _ _ _
  refine P_aload_n (q := 1) dX7_settle_0 rfl rfl ?_
  refine P_get (q := 4) dX7_settle_1 rfl fX7_19 (by decide) (hW.1) rfl ?_
  refine P_aload_n (q := 5) dX7_settle_4 rfl rfl ?_
  refine P_get (q := 8) dX7_settle_5 rfl fX7_12 (by decide) (hW.1) rfl ?_
  refine P_callv (q := 11) dX7_settle_8 rfl (t_fwl hW.2.1 hAW0) kX7_119 rfl rfl (by decide) (hAW0.at.choose_spec.choose_spec.choose_spec.choose_spec.choose_spec) rfl ⟨by decide, by decide⟩ (Nat.le_of_ble_eq_true rfl) ⟨Nat.le_refl _, Nat.le_refl _⟩ ?_
  rintro v σ0 ⟨rfl, t0, hAW00⟩
  have hW0 := hW.all t0 hAW00
  have ss0 : same σ σ0 (fun i => i ≤ 113) := t0.mono (fun i h => by omega)
  rw [← su_U hA]
  obtain ⟨h0, hS, hAW, hH, hSn, hT⟩ := id hW0
  obtain ⟨-, f0, e01, e02, ef0⟩ := id hS
  refine P_lstore_n (q := 12) (L' := [_, _, _]) dX7_settle_11 rfl (by decide) rfl ?_
  refine P_lload_n (q := 13) dX7_settle_12 rfl rfl ?_
  refine P_aload_n (q := 14) dX7_settle_13 rfl rfl ?_
  refine P_get (q := 17) dX7_settle_14 rfl fX7_12 (by decide) (h0) rfl ?_
  refine P_get (q := 20) dX7_settle_17 rfl fX7_73 (by decide) (e01) rfl ?_
  refine P_lcmp (q := 21) dX7_settle_20 rfl ?_
  refine P_if_ne (q := 24) (tgt := 28) dX7_settle_21 rfl (by decide) (fun c_21 => ?_) (fun c_21 => ?_)
  · rw [cmp] at c_21
    refine P_aload_n (q := 29) dX7_settle_28 rfl rfl ?_
    refine P_get (q := 32) dX7_settle_29 rfl fX7_26 (by decide) (h0) rfl ?_
    refine P_aload_n (q := 33) dX7_settle_32 rfl rfl ?_
    refine P_get (q := 36) dX7_settle_33 rfl fX7_12 (by decide) (h0) rfl ?_
    refine P_callv (q := 39) dX7_settle_36 rfl (t_record hS hH) kX7_44 rfl rfl (by decide) (hH.choose_spec.choose_spec.2.2.1) rfl ⟨by decide, by decide⟩ (Nat.le_of_ble_eq_true rfl) ⟨Nat.le_refl _, Nat.le_refl _⟩ ?_
    rintro v σ1 ⟨rfl, hH1, t1⟩
    have h01 := (t1 0 (by omega)).trans h0
    have hS1 : SW σ1 1 w.A := hS.congr (t1 1 (by omega)) (t1 2 (by omega))
    have hAW1 : AW σ1 w.A := hAW.congr (fun k a b => t1 k (by omega))
    obtain ⟨-, f1, e11, e12, ef1⟩ := id hS1
    refine P_aload_n (q := 40) dX7_settle_39 rfl rfl ?_
    refine P_get (q := 43) dX7_settle_40 rfl fX7_12 (by decide) (h01) rfl ?_
    refine P_lload_n (q := 44) dX7_settle_43 rfl rfl ?_
    refine P_put (q := 47) (fs' := [_, _, _, _, _, _, _, _, _]) (σ' := va_up σ1 1 (stO w.A.su 2)) dX7_settle_44 rfl gX7_73 (by decide) (e11) (fun _ => rfl) (fun _ => rfl) (Nat.le_of_ble_eq_true rfl) rfl (rfl) ?_
    have hS2 : SW (va_up σ1 1 (stO w.A.su 2)) 1 w.A.su := hS1.re hB rfl rfl rfl
    have hAW2 : AW (va_up σ1 1 (stO w.A.su 2)) w.A.su := (hAW1.congr (fun k a b => up_ne _ _ (by omega))).md (fun w => rfl)
    have ss : same σ0 (va_up σ1 1 (stO w.A.su 2)) (fun i => 1 ≤ i ∧ i ≤ 109) := fun i hi => (up_ne _ _ (by omega)).trans (t1 i (by omega))
    obtain ⟨-, f9, e91, e92, ef9⟩ := id hS2
    refine P_aload_n (q := 48) dX7_settle_47 rfl rfl ?_
    refine P_get (q := 51) dX7_settle_48 rfl fX7_12 (by decide) ((up_ne _ _ (by omega)).trans h01) rfl ?_
    refine P_cv1 (q := 54) dX7_settle_51 rfl kX7_74 (t_energy hB e91 e92 ef9) rfl rfl (by decide) (e91) rfl ⟨by decide, by decide⟩ (Nat.le_of_ble_eq_true rfl) ⟨Nat.le_refl _, Nat.le_refl _⟩ ?_
    refine P_iret dX7_settle_54 rfl (rfl) ?_
    unfold oSettle; rw [if_neg c_21]; exact ⟨rfl, hW0.go ss hS2 hAW2 (hH1.congr (fun k a b => up_ne _ _ (by omega))), ss0.trans (CW.ss ss)⟩
  · rw [cmp] at c_21
    refine P_sipush (q := 27) (v := iI (-1005)) dX7_settle_24 rfl (by decide +kernel) ?_
    refine P_iret dX7_settle_27 rfl (rfl) ?_
    unfold oSettle; rw [if_pos c_21]; exact ⟨rfl, hW0, ss0⟩
