/-! THE LAW'S SMALL METHODS -/
/-- a number under k, out of any int -/
def upV (v : Int32) (k : Nat) : Nat := v.toBitVec.toNat % 2 ^ 31 % k
theorem upV_lt (v : Int32) {k : Nat} (hk : 0 < k) : upV v k < k := Nat.mod_lt _ hk
set_option maxRecDepth 100000 in
set_option maxHeartbeats 4000000 in
theorem t_up {n : Nat} {σ : Sto} (v : Int32) {k : Nat} (h0 : 0 < k) (hk : k < 1000) : CD mL_up [.int v, .int (nI k)] n σ (some (.int (nI (upV v k)))) σ := by
  have hm : v.toBitVec.toNat % 2 ^ 31 < 2 ^ 31 := Nat.mod_lt _ (by decide)
  refine CP_of (by decide +kernel) (Nat.le_of_ble_eq_true rfl) ?_
  change PW _ _ _ _ 0 [_, _] [] _ _ _ _
  refine P_iload_n (q := 1) dL_up_0 rfl rfl ?_
  refine P_ldc (q := 3) dL_up_1 rfl qL_8 ?_
  refine P_iand (q := 4) dL_up_3 rfl ?_
  rw [pk_and v (m := 2147483647) 31 (by decide +kernel)]
  refine P_iload_n (q := 5) dL_up_4 rfl rfl ?_
  refine P_irem (q := 6) dL_up_5 rfl (by rw [show (0 : Int32) = nI 0 from rfl, nI_eq (by omega) (by omega)]; omega) ?_
  rw [pk_rem hm h0 (by omega)]
  refine P_iret dL_up_6 rfl (rfl) ?_
  exact ⟨rfl, rfl⟩
theorem oCountK_5 (w : Cs) : oCountK w ((5 : Nat) : Int) = nI (pcN 64 w.A.U) := rfl
theorem flip_lay_ok {B : St} (hB : B.ok) {c r g : Nat} (h : (B.lay c r g).ok) : ((B.lay c r g).flip (mskN c r)).ok := St.flip_ok h (fun p hp => hp)
set_option maxRecDepth 100000 in
set_option maxHeartbeats 4000000 in
theorem t_isLaid {σ : Sto} {w x : Cs} (hW : W2 σ w x) (h : Rel0 w x) {c r : Nat} (c1 : 1 ≤ c) (c2 : c ≤ 10) (r1 : 1 ≤ r) (r2 : r ≤ 3) (g : Bool) : CP mL_isLaid 0 0 [.ref 0, .ref 114, .int (nI c), .int (nI r), .int (bI g)] 228 σ LQ := by
  have hg : g.toNat ≤ 1 := by cases g <;> decide
  have e1 : oLay w c r g = (nI (c * r), w.to (w.A.lay c r g.toNat)) := by
    unfold oLay
    rw [if_pos ⟨by omega, by omega, by omega, by omega⟩]
    simp only [Int.toNat_natCast]
  have e2 : oLay x c r g = (nI (c * r), x.to (x.A.lay c r g.toNat)) := by
    unfold oLay
    rw [if_pos ⟨by omega, by omega, by omega, by omega⟩]
    simp only [Int.toNat_natCast]
  have hB := lay_ok hW.okB c1 c2 r1 r2 hg
  have hp := lay_patch hW.okB c1 c2 r1 r2 hg
  have e3 : oPatch (x.to (x.A.lay c r g.toNat)) ((0 : Nat) : Int) ((0 : Nat) : Int) = (nI (c * r), (x.to (x.A.lay c r g.toNat)).to ((x.A.lay c r g.toNat).flip (mskN c r))) := by
    unfold oPatch
    rw [if_pos (inB_t (A := (x.to (x.A.lay c r g.toNat)).A) (show 0 < r by omega) (show 0 < c by omega))]
    simp only [Int.toNat_natCast]
    show (nI (pcN 64 ((x.A.lay c r g.toNat).pIt 0 30)), (x.to (x.A.lay c r g.toNat)).to ((x.A.lay c r g.toNat).flip ((x.A.lay c r g.toNat).pIt 0 30))) = _
    rw [hp, pcN_cr c (by omega) r (by omega)]
  have e4 : oCountK (w.to (w.A.lay c r g.toNat)) ((5 : Nat) : Int) = nI (c * r) := by
    rw [oCountK_5]
    show nI (pcN 64 (w.A.lay c r g.toNat).U) = _
    rw [St.lay_U c2, pcN_cr c (by omega) r (by omega)]
  have e5 : oCountK ((x.to (x.A.lay c r g.toNat)).to ((x.A.lay c r g.toNat).flip (mskN c r))) ((5 : Nat) : Int) = nI 0 := by
    rw [oCountK_5]
    show nI (pcN 64 ((x.A.lay c r g.toNat).flip (mskN c r)).U) = _
    rw [flip_U0 hB, pcN_zero]
  refine CP_of (by decide +kernel) (Nat.le_of_ble_eq_true rfl) ?_
  change PW _ _ _ _ 0 [_, _, _, _, _, _] [] _ _ _ _
  refine P_iload_n (q := 1) dL_isLaid_0 rfl rfl ?_
  refine P_iload_n (q := 2) dL_isLaid_1 rfl rfl ?_
  refine P_imul (q := 3) dL_isLaid_2 rfl ?_
  rw [pk_mul]
  refine P_istore (q := 5) (L' := [_, _, _, _, _, _]) dL_isLaid_3 rfl (by decide) rfl ?_
  refine P_aload_n (q := 6) dL_isLaid_5 rfl rfl ?_
  refine P_iload_n (q := 7) dL_isLaid_6 rfl rfl ?_
  refine P_iload_n (q := 8) dL_isLaid_7 rfl rfl ?_
  refine P_iload (q := 10) dL_isLaid_8 rfl rfl ?_
  refine P_api (q := 13) dL_isLaid_10 rfl kL_9 (o_lay hW (by omega) (by omega) g e1) rfl rfl (by decide) (hW.oo) rfl ⟨by decide, by decide⟩ (Nat.le_of_ble_eq_true rfl) ?_
  intro σ1 hW1
  refine P_iload (q := 15) dL_isLaid_13 rfl rfl ?_
  refine P_icmp_ne (q := 18) (tgt := 64) dL_isLaid_15 rfl (by decide) (fun c_15 => ?_) (fun c_15 => ?_)
  · exact absurd (rfl) c_15
  · refine P_aload_n (q := 19) dL_isLaid_18 rfl rfl ?_
    refine P_iload_n (q := 20) dL_isLaid_19 rfl rfl ?_
    refine P_iload_n (q := 21) dL_isLaid_20 rfl rfl ?_
    refine P_iload (q := 23) dL_isLaid_21 rfl rfl ?_
    refine P_api (q := 26) dL_isLaid_23 rfl kL_9 (p_lay hW1 (by omega) (by omega) g e2) rfl rfl (by decide) (hW1.pp) rfl ⟨by decide, by decide⟩ (Nat.le_of_ble_eq_true rfl) ?_
    intro σ2 hW2
    refine P_iload (q := 28) dL_isLaid_26 rfl rfl ?_
    refine P_icmp_ne (q := 31) (tgt := 64) dL_isLaid_28 rfl (by decide) (fun c_28 => ?_) (fun c_28 => ?_)
    · exact absurd (rfl) c_28
    · refine P_aload_n (q := 32) dL_isLaid_31 rfl rfl ?_
      refine P_iconst (q := 33) (v := nI 0) dL_isLaid_32 rfl (by decide +kernel) ?_
      refine P_iconst (q := 34) (v := nI 0) dL_isLaid_33 rfl (by decide +kernel) ?_
      refine P_api (q := 37) dL_isLaid_34 rfl kL_15 (p_patch hW2 (r := 0) (c := 0) (by decide) (by decide) e3) rfl rfl (by decide) (hW2.pp) rfl ⟨by decide, by decide⟩ (Nat.le_of_ble_eq_true rfl) ?_
      intro σ3 hW3
      refine P_iload (q := 39) dL_isLaid_37 rfl rfl ?_
      refine P_icmp_ne (q := 42) (tgt := 64) dL_isLaid_39 rfl (by decide) (fun c_39 => ?_) (fun c_39 => ?_)
      · exact absurd (rfl) c_39
      · refine P_aload_n (q := 43) dL_isLaid_42 rfl rfl ?_
        refine P_iconst (q := 44) (v := nI 5) dL_isLaid_43 rfl (by decide +kernel) ?_
        refine P_api (q := 47) dL_isLaid_44 rfl kL_19 (o_count hW3 5 (by decide) e4) rfl rfl (by decide) (hW3.oo) rfl ⟨by decide, by decide⟩ (Nat.le_of_ble_eq_true rfl) ?_
        intro σ4 hW4
        refine P_iload (q := 49) dL_isLaid_47 rfl rfl ?_
        refine P_icmp_ne (q := 52) (tgt := 64) dL_isLaid_49 rfl (by decide) (fun c_49 => ?_) (fun c_49 => ?_)
        · exact absurd (rfl) c_49
        · refine P_aload_n (q := 53) dL_isLaid_52 rfl rfl ?_
          refine P_iconst (q := 54) (v := nI 5) dL_isLaid_53 rfl (by decide +kernel) ?_
          refine P_api (q := 57) dL_isLaid_54 rfl kL_19 (p_count hW4 5 (by decide) e5) rfl rfl (by decide) (hW4.pp) rfl ⟨by decide, by decide⟩ (Nat.le_of_ble_eq_true rfl) ?_
          intro σ5 hW5
          refine P_if_ne (q := 60) (tgt := 64) dL_isLaid_57 rfl (by decide) (fun c_57 => ?_) (fun c_57 => ?_)
          · exact absurd (rfl) c_57
          · refine P_iconst (q := 61) (v := nI 1) dL_isLaid_60 rfl (by decide +kernel) ?_
            refine P_goto (tgt := 65) dL_isLaid_61 (by decide) ?_
            refine P_iret dL_isLaid_65 rfl (rfl) ?_
            exact ⟨rfl, _, _, hW5, lay_Mir h.1 h.2.1 r2, h.2.2.1, h.2.2.2⟩
theorem Rel.keep {w x : Cs} (h : Rel w x) : Rel (oKeep w).2 (oKeep x).2 := ⟨h.1, Or.inr ⟨_, _, rfl, rfl, h.1⟩, h.2.2⟩
set_option maxRecDepth 100000 in
set_option maxHeartbeats 4000000 in
theorem t_isSlot {σ : Sto} {w x : Cs} (hW : W2 σ w x) (h : Rel w x) (y : Int32) : CP mL_isSlot 0 0 [.ref 0, .ref 114, .int y] 228 σ LQ := by
  have hA := hW.okA
  have ek : oKeep x = (iI w.A.E, (oKeep x).2) := by
    unfold oKeep
    rw [h.1.E hA]
  obtain ⟨v0, w1, x1, eb1, eb2, hr⟩ : ∃ v0 w1 x1, oBack w = (v0, w1) ∧ oBack x = (v0, x1) ∧ Rel w1 x1 := by
    rcases h.2.1 with ⟨s1, s2⟩ | ⟨A, B, s1, s2, hM⟩
    · refine ⟨iI (-1005), w, x, ?_, ?_, h⟩
      · unfold oBack; rw [s1]
      · unfold oBack; rw [s2]
    · refine ⟨iI A.E, w.to A, x.to B, ?_, ?_, hM, h.2.1, h.2.2⟩
      · unfold oBack; rw [s1]
      · unfold oBack; rw [s2]; show (iI B.E, x.to B) = _; rw [hM.E (hW.1.snok s1)]
  refine CP_of (by decide +kernel) (Nat.le_of_ble_eq_true rfl) ?_
  change PW _ _ _ _ 0 [_, _, _] [] _ _ _ _
  refine P_iload_n (q := 1) dL_isSlot_0 rfl rfl ?_
  refine P_iconst (q := 2) (v := nI 3) dL_isSlot_1 rfl (by decide +kernel) ?_
  refine P_cs1 (q := 5) dL_isSlot_2 rfl kL_23 (t_up y (by decide) (by decide)) rfl rfl ⟨by decide, by decide⟩ (Nat.le_of_ble_eq_true rfl) ⟨Nat.le_refl _, Nat.le_refl _⟩ ?_
  refine P_if_ne (q := 8) (tgt := 25) dL_isSlot_5 rfl (by decide) (fun c_5 => ?_) (fun c_5 => ?_)
  · refine P_iload_n (q := 26) dL_isSlot_25 rfl rfl ?_
    refine P_iconst (q := 27) (v := nI 3) dL_isSlot_26 rfl (by decide +kernel) ?_
    refine P_cs1 (q := 30) dL_isSlot_27 rfl kL_23 (t_up y (by decide) (by decide)) rfl rfl ⟨by decide, by decide⟩ (Nat.le_of_ble_eq_true rfl) ⟨Nat.le_refl _, Nat.le_refl _⟩ ?_
    refine P_iconst (q := 31) (v := nI 1) dL_isSlot_30 rfl (by decide +kernel) ?_
    refine P_icmp_eq (q := 34) (tgt := 45) dL_isSlot_31 rfl (by decide) (fun c_31 => ?_) (fun c_31 => ?_)
    · refine P_iconst (q := 46) (v := nI 1) dL_isSlot_45 rfl (by decide +kernel) ?_
      refine P_goto (tgt := 50) dL_isSlot_46 (by decide) ?_
      refine P_iret dL_isSlot_50 rfl (rfl) ?_
      first | exact ⟨rfl, _, _, hW2, h.keep⟩ | exact ⟨rfl, _, _, hW2, hr⟩ | exact ⟨rfl, _, _, hW, h⟩
    · refine P_aload_n (q := 35) dL_isSlot_34 rfl rfl ?_
      refine P_api (q := 38) dL_isSlot_35 rfl kL_75 (o_back hW (v := v0) (y := w1) eb1) rfl rfl (by decide) (hW.oo) rfl ⟨by decide, by decide⟩ (Nat.le_of_ble_eq_true rfl) ?_
      intro σ1 hW1
      refine P_aload_n (q := 39) dL_isSlot_38 rfl rfl ?_
      refine P_api (q := 42) dL_isSlot_39 rfl kL_75 (p_back hW1 (v := v0) (y := x1) eb2) rfl rfl (by decide) (hW1.pp) rfl ⟨by decide, by decide⟩ (Nat.le_of_ble_eq_true rfl) ?_
      intro σ2 hW2
      refine P_icmp_ne (q := 45) (tgt := 49) dL_isSlot_42 rfl (by decide) (fun c_42 => ?_) (fun c_42 => ?_)
      · exact absurd (rfl) c_42
      · refine P_iconst (q := 46) (v := nI 1) dL_isSlot_45 rfl (by decide +kernel) ?_
        refine P_goto (tgt := 50) dL_isSlot_46 (by decide) ?_
        refine P_iret dL_isSlot_50 rfl (rfl) ?_
        first | exact ⟨rfl, _, _, hW2, h.keep⟩ | exact ⟨rfl, _, _, hW2, hr⟩ | exact ⟨rfl, _, _, hW, h⟩
  · refine P_aload_n (q := 9) dL_isSlot_8 rfl rfl ?_
    refine P_api (q := 12) dL_isSlot_9 rfl kL_72 (o_keep hW (v := iI w.A.E) (y := (oKeep w).2) rfl) rfl rfl (by decide) (hW.oo) rfl ⟨by decide, by decide⟩ (Nat.le_of_ble_eq_true rfl) ?_
    intro σ1 hW1
    refine P_aload_n (q := 13) dL_isSlot_12 rfl rfl ?_
    refine P_api (q := 16) dL_isSlot_13 rfl kL_72 (p_keep hW1 (v := iI w.A.E) (y := (oKeep x).2) ek) rfl rfl (by decide) (hW1.pp) rfl ⟨by decide, by decide⟩ (Nat.le_of_ble_eq_true rfl) ?_
    intro σ2 hW2
    refine P_icmp_ne (q := 19) (tgt := 23) dL_isSlot_16 rfl (by decide) (fun c_16 => ?_) (fun c_16 => ?_)
    · exact absurd (rfl) c_16
    · refine P_iconst (q := 20) (v := nI 1) dL_isSlot_19 rfl (by decide +kernel) ?_
      refine P_goto (tgt := 24) dL_isSlot_20 (by decide) ?_
      refine P_iret dL_isSlot_24 rfl (rfl) ?_
      first | exact ⟨rfl, _, _, hW2, h.keep⟩ | exact ⟨rfl, _, _, hW2, hr⟩ | exact ⟨rfl, _, _, hW, h⟩
