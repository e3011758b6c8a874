variable {eN : Nat}
set_option maxRecDepth 100000 in
set_option maxHeartbeats 4000000 in
theorem t_sow_true {σ0 : Sto} {A : St} (hS : SW σ0 1 A) (hW : AW σ0 A) {h : Nat} (hh : h ≤ 100) : CP mX0_sumOfWeights 0 0 [.ref 3, .ref 1, .float (hB h), .int (bI true)] (eN + 114) σ0 (fun v σ' => v = some (.float (fE A.en (hB h) A.eL A.eK)) ∧ same σ0 σ' (fun i => 3 ≤ i ∧ i ≤ 99) ∧ AW σ' A) := by
  obtain ⟨lc, gc, k1, k2, k3, h3⟩ := hW.at
  have hA := hS.1
  obtain ⟨l, hi, p1, p2, p3, p4, p5, -⟩ := en_pt hA
  obtain ⟨g1, g2, g3⟩ := eK_1 hA
  refine CP_of (by decide +kernel) (Nat.le_of_ble_eq_true rfl) ?_
  change PW _ _ _ _ 0 [_, _, _, _, _, _, _, _, _] [] _ _ _ _
  refine P_aload_n (q := 1) dX0_sumOfWeights_0 rfl rfl ?_
  refine P_aload_n (q := 2) dX0_sumOfWeights_1 rfl rfl ?_
  refine P_callv (q := 5) dX0_sumOfWeights_2 rfl (t_learn hS hW) kX0_62 rfl rfl (by first | decide | exact lt_c (by decide)) (h3) rfl ⟨by decide, by decide⟩ (Nat.le_of_ble_eq_true rfl) ⟨Nat.le_refl _, Nat.le_refl _⟩ ?_
  rintro v σ1 ⟨rfl, t1, k2, k3, hK⟩
  obtain ⟨u3, -, -, -, -, -, ⟨g, u97, q⟩, -⟩ := id hK
  obtain ⟨q1, -, -, q2⟩ := q rfl
  have hm : ∀ k : Nat, k < A.eK → CD mX0_manyAtEnergy [.ref 3, .int (iI (A.eL + ((k : Nat) : Int)))] (eN + 114) σ1 (some (.int (nI (A.en k)))) σ1 := fun k hk => by
    have hx := t_mae (eN := eN) (St.wr_b hS.1 false) u3 q1.1 u97 q2 (z := A.eL + ((k : Nat) : Int)) (by omega) (by omega)
    rw [← CE_me hS.1] at hx
    exact hx
  have lp : ∀ (d k : Nat) (x : Option Value), k + d = A.eK → PW mX0_sumOfWeights 0 0 (fun v σ' => v = some (.float (fE A.en (hB h) A.eL A.eK)) ∧ same σ0 σ' (fun i => 3 ≤ i ∧ i ≤ 99) ∧ AW σ' A) 31 [some (.ref 3), some (.ref 1), some (.float (hB h)), some (.int (bI true)), some (.int (iI A.eH)), some (.float (fW (hB h) k)), some (.float (fE A.en (hB h) A.eL k)), some (.int (iI (A.eL + ((k : Nat) : Int)))), x] [] (eN + 114) σ1 0 0 := by
    intro d
    induction d with
    | zero =>
      intro k x hk
      have ek : k = A.eK := by omega
      refine P_iload (q := 33) dX0_sumOfWeights_31 rfl rfl ?_
      refine P_iload (q := 35) dX0_sumOfWeights_33 rfl rfl ?_
      refine P_icmp_gt (q := 38) (tgt := 82) dX0_sumOfWeights_35 rfl (by first | decide | exact lt_c (by decide)) (fun c_35 => ?_) (fun c_35 => ?_)
      · refine P_fload (q := 84) dX0_sumOfWeights_82 rfl rfl ?_
        refine P_fret dX0_sumOfWeights_84 rfl ?_
        exact ⟨by rw [← ek], t1, _, _, _, _, _, hK⟩
      · exfalso; rw [iI_lt (by omega) (by omega) (by omega) (by omega)] at c_35; omega
    | succ d ih =>
      intro k x hk
      have hn := fU_nan hA hh (k := k) (by omega)
      refine P_iload (q := 33) dX0_sumOfWeights_31 rfl rfl ?_
      refine P_iload (q := 35) dX0_sumOfWeights_33 rfl rfl ?_
      refine P_icmp_gt (q := 38) (tgt := 82) dX0_sumOfWeights_35 rfl (by first | decide | exact lt_c (by decide)) (fun c_35 => ?_) (fun c_35 => ?_)
      · exfalso; rw [iI_lt (by omega) (by omega) (by omega) (by omega)] at c_35; omega
      · refine P_aload_n (q := 39) dX0_sumOfWeights_38 rfl rfl ?_
        refine P_iload (q := 41) dX0_sumOfWeights_39 rfl rfl ?_
        refine P_cv1 (q := 44) dX0_sumOfWeights_41 rfl kX0_66 (hm k (by omega)) rfl rfl (by first | decide | exact lt_c (by decide)) (u3) rfl ⟨by decide, by decide⟩ (Nat.le_of_ble_eq_true rfl) ⟨Nat.le_refl _, Nat.le_refl _⟩ ?_
        refine P_i2f (q := 45) dX0_sumOfWeights_44 rfl ?_
        refine P_fload (q := 47) dX0_sumOfWeights_45 rfl rfl ?_
        refine P_fmul (q := 48) dX0_sumOfWeights_47 rfl (hn.1) ?_
        rw [show FP.fmul (FP.i2f (nI (A.en k))) (fW (hB h) k) = fT A.en (hB h) k from rfl]
        refine P_fstore (q := 50) (L' := [_, _, _, _, _, _, _, _, _]) dX0_sumOfWeights_48 rfl (by first | decide | exact lt_c (by decide)) rfl ?_
        refine P_fload (q := 52) dX0_sumOfWeights_50 rfl rfl ?_
        refine P_iload_n (q := 53) dX0_sumOfWeights_52 rfl rfl ?_
        refine P_if_eq (q := 56) (tgt := 65) dX0_sumOfWeights_53 rfl (by first | decide | exact lt_c (by decide)) (fun c_53 => ?_) (fun c_53 => ?_)
        · exact absurd c_53 (by first | decide | exact lt_c (by decide))
        · refine P_fload (q := 58) dX0_sumOfWeights_56 rfl rfl ?_
          refine P_iload (q := 60) dX0_sumOfWeights_58 rfl rfl ?_
          refine P_i2f (q := 61) dX0_sumOfWeights_60 rfl ?_
          refine P_fmul (q := 62) dX0_sumOfWeights_61 rfl (hn.2.1) ?_
          rw [show FP.fmul (fT A.en (hB h) k) (FP.i2f (iI (A.eL + ((k : Nat) : Int)))) = fU A.en (hB h) A.eL k from rfl]
          refine P_goto (tgt := 67) dX0_sumOfWeights_62 (by first | decide | exact lt_c (by decide)) ?_
          refine P_fadd (q := 68) dX0_sumOfWeights_67 rfl (hn.2.2.2.1) ?_
          rw [show FP.fadd (fE A.en (hB h) A.eL k) (fU A.en (hB h) A.eL k) = fE A.en (hB h) A.eL (k + 1) from rfl]
          refine P_fstore (q := 70) (L' := [_, _, _, _, _, _, _, _, _]) dX0_sumOfWeights_68 rfl (by first | decide | exact lt_c (by decide)) rfl ?_
          refine P_fload (q := 72) dX0_sumOfWeights_70 rfl rfl ?_
          refine P_fload_n (q := 73) dX0_sumOfWeights_72 rfl rfl ?_
          refine P_fmul (q := 74) dX0_sumOfWeights_73 rfl (hn.2.2.2.2) ?_
          rw [show FP.fmul (fW (hB h) k) (hB h) = fW (hB h) (k + 1) from rfl]
          refine P_fstore (q := 76) (L' := [_, _, _, _, _, _, _, _, _]) dX0_sumOfWeights_74 rfl (by first | decide | exact lt_c (by decide)) rfl ?_
          refine P_iinc (q := 79) (L' := [_, _, _, _, _, _, _, _, _]) (v := iI (A.eL + ((k + 1 : Nat) : Int))) dX0_sumOfWeights_76 rfl (by first | decide | exact lt_c (by decide)) rfl ((iI_add _ 1).trans (congrArg iI (by omega))) rfl ?_
          refine P_goto (tgt := 31) dX0_sumOfWeights_79 (by first | decide | exact lt_c (by decide)) ?_
          exact ih (k + 1) _ (by omega)
  refine P_aload_n (q := 6) dX0_sumOfWeights_5 rfl rfl ?_
  refine P_aload_n (q := 7) dX0_sumOfWeights_6 rfl rfl ?_
  refine P_get (q := 10) dX0_sumOfWeights_7 rfl fX0_49 (by first | decide | exact lt_c (by decide)) (u3) rfl ?_
  refine P_cv1 (q := 13) dX0_sumOfWeights_10 rfl kX0_93 (t_eo u3 q1.1) rfl rfl (by first | decide | exact lt_c (by decide)) (u3) rfl ⟨by decide, by decide⟩ (Nat.le_of_ble_eq_true rfl) ⟨Nat.le_refl _, Nat.le_refl _⟩ ?_
  refine P_istore (q := 15) (L' := [_, _, _, _, _, _, _, _, _]) dX0_sumOfWeights_13 rfl (by first | decide | exact lt_c (by decide)) rfl ?_
  refine P_fconst1 (q := 16) dX0_sumOfWeights_15 rfl ?_
  refine P_fstore (q := 18) (L' := [_, _, _, _, _, _, _, _, _]) dX0_sumOfWeights_16 rfl (by first | decide | exact lt_c (by decide)) rfl ?_
  refine P_fconst0 (q := 19) dX0_sumOfWeights_18 rfl ?_
  refine P_fstore (q := 21) (L' := [_, _, _, _, _, _, _, _, _]) dX0_sumOfWeights_19 rfl (by first | decide | exact lt_c (by decide)) rfl ?_
  refine P_aload_n (q := 22) dX0_sumOfWeights_21 rfl rfl ?_
  refine P_aload_n (q := 23) dX0_sumOfWeights_22 rfl rfl ?_
  refine P_get (q := 26) dX0_sumOfWeights_23 rfl fX0_45 (by first | decide | exact lt_c (by decide)) (u3) rfl ?_
  refine P_cv1 (q := 29) dX0_sumOfWeights_26 rfl kX0_93 (t_eo u3 q1.1) rfl rfl (by first | decide | exact lt_c (by decide)) (u3) rfl ⟨by decide, by decide⟩ (Nat.le_of_ble_eq_true rfl) ⟨Nat.le_refl _, Nat.le_refl _⟩ ?_
  refine P_istore (q := 31) (L' := [_, _, _, _, _, _, _, _, _]) dX0_sumOfWeights_29 rfl (by first | decide | exact lt_c (by decide)) rfl ?_
  have l0 := lp A.eK 0 none (by omega)
  rw [show A.eL + ((0 : Nat) : Int) = A.eL by omega] at l0
  exact l0
set_option maxRecDepth 100000 in
set_option maxHeartbeats 4000000 in
theorem t_sow_false {σ0 : Sto} {A : St} (hS : SW σ0 1 A) (hW : AW σ0 A) {h : Nat} (hh : h ≤ 100) : CP mX0_sumOfWeights 0 0 [.ref 3, .ref 1, .float (hB h), .int (bI false)] (eN + 114) σ0 (fun v σ' => v = some (.float (fS A.en (hB h) A.eK)) ∧ same σ0 σ' (fun i => 3 ≤ i ∧ i ≤ 99) ∧ AW σ' A) := by
  obtain ⟨lc, gc, k1, k2, k3, h3⟩ := hW.at
  have hA := hS.1
  obtain ⟨l, hi, p1, p2, p3, p4, p5, -⟩ := en_pt hA
  obtain ⟨g1, g2, g3⟩ := eK_1 hA
  refine CP_of (by decide +kernel) (Nat.le_of_ble_eq_true rfl) ?_
  change PW _ _ _ _ 0 [_, _, _, _, _, _, _, _, _] [] _ _ _ _
  refine P_aload_n (q := 1) dX0_sumOfWeights_0 rfl rfl ?_
  refine P_aload_n (q := 2) dX0_sumOfWeights_1 rfl rfl ?_
  refine P_callv (q := 5) dX0_sumOfWeights_2 rfl (t_learn hS hW) kX0_62 rfl rfl (by first | decide | exact lt_c (by decide)) (h3) rfl ⟨by decide, by decide⟩ (Nat.le_of_ble_eq_true rfl) ⟨Nat.le_refl _, Nat.le_refl _⟩ ?_
  rintro v σ1 ⟨rfl, t1, k2, k3, hK⟩
  obtain ⟨u3, -, -, -, -, -, ⟨g, u97, q⟩, -⟩ := id hK
  obtain ⟨q1, -, -, q2⟩ := q rfl
  have hm : ∀ k : Nat, k < A.eK → CD mX0_manyAtEnergy [.ref 3, .int (iI (A.eL + ((k : Nat) : Int)))] (eN + 114) σ1 (some (.int (nI (A.en k)))) σ1 := fun k hk => by
    have hx := t_mae (eN := eN) (St.wr_b hS.1 false) u3 q1.1 u97 q2 (z := A.eL + ((k : Nat) : Int)) (by omega) (by omega)
    rw [← CE_me hS.1] at hx
    exact hx
  have lp : ∀ (d k : Nat) (x : Option Value), k + d = A.eK → PW mX0_sumOfWeights 0 0 (fun v σ' => v = some (.float (fS A.en (hB h) A.eK)) ∧ same σ0 σ' (fun i => 3 ≤ i ∧ i ≤ 99) ∧ AW σ' A) 31 [some (.ref 3), some (.ref 1), some (.float (hB h)), some (.int (bI false)), some (.int (iI A.eH)), some (.float (fW (hB h) k)), some (.float (fS A.en (hB h) k)), some (.int (iI (A.eL + ((k : Nat) : Int)))), x] [] (eN + 114) σ1 0 0 := by
    intro d
    induction d with
    | zero =>
      intro k x hk
      have ek : k = A.eK := by omega
      refine P_iload (q := 33) dX0_sumOfWeights_31 rfl rfl ?_
      refine P_iload (q := 35) dX0_sumOfWeights_33 rfl rfl ?_
      refine P_icmp_gt (q := 38) (tgt := 82) dX0_sumOfWeights_35 rfl (by first | decide | exact lt_c (by decide)) (fun c_35 => ?_) (fun c_35 => ?_)
      · refine P_fload (q := 84) dX0_sumOfWeights_82 rfl rfl ?_
        refine P_fret dX0_sumOfWeights_84 rfl ?_
        exact ⟨by rw [← ek], t1, _, _, _, _, _, hK⟩
      · exfalso; rw [iI_lt (by omega) (by omega) (by omega) (by omega)] at c_35; omega
    | succ d ih =>
      intro k x hk
      have hn := fU_nan hA hh (k := k) (by omega)
      refine P_iload (q := 33) dX0_sumOfWeights_31 rfl rfl ?_
      refine P_iload (q := 35) dX0_sumOfWeights_33 rfl rfl ?_
      refine P_icmp_gt (q := 38) (tgt := 82) dX0_sumOfWeights_35 rfl (by first | decide | exact lt_c (by decide)) (fun c_35 => ?_) (fun c_35 => ?_)
      · exfalso; rw [iI_lt (by omega) (by omega) (by omega) (by omega)] at c_35; omega
      · refine P_aload_n (q := 39) dX0_sumOfWeights_38 rfl rfl ?_
        refine P_iload (q := 41) dX0_sumOfWeights_39 rfl rfl ?_
        refine P_cv1 (q := 44) dX0_sumOfWeights_41 rfl kX0_66 (hm k (by omega)) rfl rfl (by first | decide | exact lt_c (by decide)) (u3) rfl ⟨by decide, by decide⟩ (Nat.le_of_ble_eq_true rfl) ⟨Nat.le_refl _, Nat.le_refl _⟩ ?_
        refine P_i2f (q := 45) dX0_sumOfWeights_44 rfl ?_
        refine P_fload (q := 47) dX0_sumOfWeights_45 rfl rfl ?_
        refine P_fmul (q := 48) dX0_sumOfWeights_47 rfl (hn.1) ?_
        rw [show FP.fmul (FP.i2f (nI (A.en k))) (fW (hB h) k) = fT A.en (hB h) k from rfl]
        refine P_fstore (q := 50) (L' := [_, _, _, _, _, _, _, _, _]) dX0_sumOfWeights_48 rfl (by first | decide | exact lt_c (by decide)) rfl ?_
        refine P_fload (q := 52) dX0_sumOfWeights_50 rfl rfl ?_
        refine P_iload_n (q := 53) dX0_sumOfWeights_52 rfl rfl ?_
        refine P_if_eq (q := 56) (tgt := 65) dX0_sumOfWeights_53 rfl (by first | decide | exact lt_c (by decide)) (fun c_53 => ?_) (fun c_53 => ?_)
        · refine P_fload (q := 67) dX0_sumOfWeights_65 rfl rfl ?_
          refine P_fadd (q := 68) dX0_sumOfWeights_67 rfl (hn.2.2.1) ?_
          rw [show FP.fadd (fS A.en (hB h) k) (fT A.en (hB h) k) = fS A.en (hB h) (k + 1) from rfl]
          refine P_fstore (q := 70) (L' := [_, _, _, _, _, _, _, _, _]) dX0_sumOfWeights_68 rfl (by first | decide | exact lt_c (by decide)) rfl ?_
          refine P_fload (q := 72) dX0_sumOfWeights_70 rfl rfl ?_
          refine P_fload_n (q := 73) dX0_sumOfWeights_72 rfl rfl ?_
          refine P_fmul (q := 74) dX0_sumOfWeights_73 rfl (hn.2.2.2.2) ?_
          rw [show FP.fmul (fW (hB h) k) (hB h) = fW (hB h) (k + 1) from rfl]
          refine P_fstore (q := 76) (L' := [_, _, _, _, _, _, _, _, _]) dX0_sumOfWeights_74 rfl (by first | decide | exact lt_c (by decide)) rfl ?_
          refine P_iinc (q := 79) (L' := [_, _, _, _, _, _, _, _, _]) (v := iI (A.eL + ((k + 1 : Nat) : Int))) dX0_sumOfWeights_76 rfl (by first | decide | exact lt_c (by decide)) rfl ((iI_add _ 1).trans (congrArg iI (by omega))) rfl ?_
          refine P_goto (tgt := 31) dX0_sumOfWeights_79 (by first | decide | exact lt_c (by decide)) ?_
          exact ih (k + 1) _ (by omega)
        · exact absurd rfl c_53
  refine P_aload_n (q := 6) dX0_sumOfWeights_5 rfl rfl ?_
  refine P_aload_n (q := 7) dX0_sumOfWeights_6 rfl rfl ?_
  refine P_get (q := 10) dX0_sumOfWeights_7 rfl fX0_49 (by first | decide | exact lt_c (by decide)) (u3) rfl ?_
  refine P_cv1 (q := 13) dX0_sumOfWeights_10 rfl kX0_93 (t_eo u3 q1.1) rfl rfl (by first | decide | exact lt_c (by decide)) (u3) rfl ⟨by decide, by decide⟩ (Nat.le_of_ble_eq_true rfl) ⟨Nat.le_refl _, Nat.le_refl _⟩ ?_
  refine P_istore (q := 15) (L' := [_, _, _, _, _, _, _, _, _]) dX0_sumOfWeights_13 rfl (by first | decide | exact lt_c (by decide)) rfl ?_
  refine P_fconst1 (q := 16) dX0_sumOfWeights_15 rfl ?_
  refine P_fstore (q := 18) (L' := [_, _, _, _, _, _, _, _, _]) dX0_sumOfWeights_16 rfl (by first | decide | exact lt_c (by decide)) rfl ?_
  refine P_fconst0 (q := 19) dX0_sumOfWeights_18 rfl ?_
  refine P_fstore (q := 21) (L' := [_, _, _, _, _, _, _, _, _]) dX0_sumOfWeights_19 rfl (by first | decide | exact lt_c (by decide)) rfl ?_
  refine P_aload_n (q := 22) dX0_sumOfWeights_21 rfl rfl ?_
  refine P_aload_n (q := 23) dX0_sumOfWeights_22 rfl rfl ?_
  refine P_get (q := 26) dX0_sumOfWeights_23 rfl fX0_45 (by first | decide | exact lt_c (by decide)) (u3) rfl ?_
  refine P_cv1 (q := 29) dX0_sumOfWeights_26 rfl kX0_93 (t_eo u3 q1.1) rfl rfl (by first | decide | exact lt_c (by decide)) (u3) rfl ⟨by decide, by decide⟩ (Nat.le_of_ble_eq_true rfl) ⟨Nat.le_refl _, Nat.le_refl _⟩ ?_
  refine P_istore (q := 31) (L' := [_, _, _, _, _, _, _, _, _]) dX0_sumOfWeights_29 rfl (by first | decide | exact lt_c (by decide)) rfl ?_
  have l0 := lp A.eK 0 none (by omega)
  rw [show A.eL + ((0 : Nat) : Int) = A.eL by omega] at l0
  exact l0
set_option maxRecDepth 100000 in
set_option maxHeartbeats 4000000 in
theorem a_heat_true {σ : Sto} {w : Cs} (hW : CW σ w) {h : Nat} (h0 : 50 ≤ h) (h1 : h ≤ 100) : PW mX7_heat 0 0 (OK σ (oHeat w ((h : Nat) : Int) true)) 14 [some (.ref 0), some (.int (nI h)), some (.int (bI true)), none, none] [] (eN + 114) σ 0 0 := by
  obtain ⟨h00, hS, hAW, hH, hSn, hT⟩ := id hW
  have hA := hS.1
  obtain ⟨m, m1, m2, -⟩ := hS_fz hA h1
  obtain ⟨s3, m3, z2, z3⟩ := hE_fz hA h1
  have n2 := z2.nan
  refine P_iload_n (q := 15) dX7_heat_14 rfl rfl ?_
  refine P_i2f (q := 16) dX7_heat_15 rfl ?_
  refine P_ldcf (q := 18) dX7_heat_16 rfl qX7_172 ?_
  refine P_fdiv (q := 19) dX7_heat_18 rfl ((hB_fz h1).nan) ?_
  rw [show FP.fdiv (FP.i2f (nI h)) (1120403456 : UInt32) = hB h from rfl]
  refine P_fstore_n (q := 20) (L' := [_, _, _, _, _]) dX7_heat_19 rfl (by first | decide | exact lt_c (by decide)) rfl ?_
  refine P_aload_n (q := 21) dX7_heat_20 rfl rfl ?_
  refine P_get (q := 24) dX7_heat_21 rfl fX7_19 (by first | decide | exact lt_c (by decide)) (h00) rfl ?_
  refine P_aload_n (q := 25) dX7_heat_24 rfl rfl ?_
  refine P_get (q := 28) dX7_heat_25 rfl fX7_12 (by first | decide | exact lt_c (by decide)) (h00) rfl ?_
  refine P_fload_n (q := 29) dX7_heat_28 rfl rfl ?_
  refine P_iconst (q := 30) (v := (bI false)) dX7_heat_29 rfl (by decide +kernel) ?_
  refine P_callv (q := 33) dX7_heat_30 rfl (t_sow_false hS hAW h1) kX7_173 rfl rfl (by first | decide | exact lt_c (by decide)) (hAW.at.choose_spec.choose_spec.choose_spec.choose_spec.choose_spec) rfl ⟨by decide, by decide⟩ (Nat.le_of_ble_eq_true rfl) ⟨Nat.le_refl _, Nat.le_refl _⟩ ?_
  rintro v σ1 ⟨rfl, t1, hAW1⟩
  have hW1 := hW.all t1 hAW1
  have h01 := (t1 0 (by omega)).trans h00
  have hS1 : SW σ1 1 w.A := hS.congr (t1 1 (by omega)) (t1 2 (by omega))
  refine P_fstore (q := 35) (L' := [_, _, _, _, _]) dX7_heat_33 rfl (by first | decide | exact lt_c (by decide)) rfl ?_
  refine P_iload_n (q := 36) dX7_heat_35 rfl rfl ?_
  refine P_if_ne (q := 39) (tgt := 45) dX7_heat_36 rfl (by first | decide | exact lt_c (by decide)) (fun c_36 => ?_) (fun c_36 => ?_)
  · refine P_fload (q := 47) dX7_heat_45 rfl rfl ?_
    refine P_fconst0 (q := 48) dX7_heat_47 rfl ?_
    refine P_fcmp (q := 49) dX7_heat_48 rfl ?_
    refine P_if_le (q := 52) (tgt := 74) dX7_heat_49 rfl (by first | decide | exact lt_c (by decide)) (fun c_49 => ?_) (fun c_49 => ?_)
    · exfalso; rw [cv_le m1 fz0] at c_49; have c_49 : ((m : Nat) : Int) ≤ ((0 : Nat) : Int) := c_49; have := Nat.two_pow_pos 149; omega
    · refine P_aload_n (q := 53) dX7_heat_52 rfl rfl ?_
      refine P_get (q := 56) dX7_heat_53 rfl fX7_19 (by first | decide | exact lt_c (by decide)) (h01) rfl ?_
      refine P_aload_n (q := 57) dX7_heat_56 rfl rfl ?_
      refine P_get (q := 60) dX7_heat_57 rfl fX7_12 (by first | decide | exact lt_c (by decide)) (h01) rfl ?_
      refine P_fload_n (q := 61) dX7_heat_60 rfl rfl ?_
      refine P_iconst (q := 62) (v := (bI true)) dX7_heat_61 rfl (by decide +kernel) ?_
      refine P_callv (q := 65) dX7_heat_62 rfl (t_sow_true hS1 hAW1 h1) kX7_173 rfl rfl (by first | decide | exact lt_c (by decide)) (hAW1.at.choose_spec.choose_spec.choose_spec.choose_spec.choose_spec) rfl ⟨by decide, by decide⟩ (Nat.le_of_ble_eq_true rfl) ⟨Nat.le_refl _, Nat.le_refl _⟩ ?_
      rintro v σ2 ⟨rfl, t2, hAW2⟩
      refine P_fload (q := 67) dX7_heat_65 rfl rfl ?_
      refine P_fdiv (q := 68) dX7_heat_67 rfl (n2) ?_
      rw [show FP.fdiv (fE w.A.en (hB h) w.A.eL w.A.eK) (fS w.A.en (hB h) w.A.eK) = FP.fdiv (fE w.A.en (hB h) w.A.eL w.A.eK) (fS w.A.en (hB h) w.A.eK) from rfl]
      refine P_cs1 (q := 71) dX7_heat_68 rfl kX7_177 (t_bitsOf z2 z3) rfl rfl ⟨by decide, by decide⟩ (Nat.le_of_ble_eq_true rfl) ⟨Nat.le_refl _, Nat.le_refl _⟩ ?_
      refine P_goto (tgt := 75) dX7_heat_71 (by first | decide | exact lt_c (by decide)) ?_
      refine P_iret dX7_heat_75 rfl (rfl) ?_
      refine ⟨?_, hW1.all t2 hAW2, (t1.trans t2).mono (fun i h => by omega)⟩
      unfold oHeat
      rw [Int.toNat_natCast, if_pos ⟨by omega, by omega⟩, if_pos rfl]
  · exact absurd c_36 (by first | decide | exact lt_c (by decide))
set_option maxRecDepth 100000 in
set_option maxHeartbeats 4000000 in
theorem a_heat_false {σ : Sto} {w : Cs} (hW : CW σ w) {h : Nat} (h0 : 50 ≤ h) (h1 : h ≤ 100) : PW mX7_heat 0 0 (OK σ (oHeat w ((h : Nat) : Int) false)) 14 [some (.ref 0), some (.int (nI h)), some (.int (bI false)), none, none] [] (eN + 114) σ 0 0 := by
  obtain ⟨h00, hS, hAW, hH, hSn, hT⟩ := id hW
  have hA := hS.1
  obtain ⟨m, m1, m2, -⟩ := hS_fz hA h1
  obtain ⟨s3, m3, z2, z3⟩ := hE_fz hA h1
  have n2 := z2.nan
  refine P_iload_n (q := 15) dX7_heat_14 rfl rfl ?_
  refine P_i2f (q := 16) dX7_heat_15 rfl ?_
  refine P_ldcf (q := 18) dX7_heat_16 rfl qX7_172 ?_
  refine P_fdiv (q := 19) dX7_heat_18 rfl ((hB_fz h1).nan) ?_
  rw [show FP.fdiv (FP.i2f (nI h)) (1120403456 : UInt32) = hB h from rfl]
  refine P_fstore_n (q := 20) (L' := [_, _, _, _, _]) dX7_heat_19 rfl (by first | decide | exact lt_c (by decide)) rfl ?_
  refine P_aload_n (q := 21) dX7_heat_20 rfl rfl ?_
  refine P_get (q := 24) dX7_heat_21 rfl fX7_19 (by first | decide | exact lt_c (by decide)) (h00) rfl ?_
  refine P_aload_n (q := 25) dX7_heat_24 rfl rfl ?_
  refine P_get (q := 28) dX7_heat_25 rfl fX7_12 (by first | decide | exact lt_c (by decide)) (h00) rfl ?_
  refine P_fload_n (q := 29) dX7_heat_28 rfl rfl ?_
  refine P_iconst (q := 30) (v := (bI false)) dX7_heat_29 rfl (by decide +kernel) ?_
  refine P_callv (q := 33) dX7_heat_30 rfl (t_sow_false hS hAW h1) kX7_173 rfl rfl (by first | decide | exact lt_c (by decide)) (hAW.at.choose_spec.choose_spec.choose_spec.choose_spec.choose_spec) rfl ⟨by decide, by decide⟩ (Nat.le_of_ble_eq_true rfl) ⟨Nat.le_refl _, Nat.le_refl _⟩ ?_
  rintro v σ1 ⟨rfl, t1, hAW1⟩
  have hW1 := hW.all t1 hAW1
  have h01 := (t1 0 (by omega)).trans h00
  have hS1 : SW σ1 1 w.A := hS.congr (t1 1 (by omega)) (t1 2 (by omega))
  refine P_fstore (q := 35) (L' := [_, _, _, _, _]) dX7_heat_33 rfl (by first | decide | exact lt_c (by decide)) rfl ?_
  refine P_iload_n (q := 36) dX7_heat_35 rfl rfl ?_
  refine P_if_ne (q := 39) (tgt := 45) dX7_heat_36 rfl (by first | decide | exact lt_c (by decide)) (fun c_36 => ?_) (fun c_36 => ?_)
  · exact absurd rfl c_36
  · refine P_fload (q := 41) dX7_heat_39 rfl rfl ?_
    refine P_cs1 (q := 44) dX7_heat_41 rfl kX7_177 (t_bitsOf m1 (fun q => by cases q)) rfl rfl ⟨by decide, by decide⟩ (Nat.le_of_ble_eq_true rfl) ⟨Nat.le_refl _, Nat.le_refl _⟩ ?_
    refine P_iret dX7_heat_44 rfl (rfl) ?_
    refine ⟨?_, hW1, t1.mono (fun i h => by omega)⟩
    unfold oHeat
    rw [Int.toNat_natCast, if_pos ⟨by omega, by omega⟩, if_neg (by first | decide | exact lt_c (by decide))]
set_option maxRecDepth 100000 in
set_option maxHeartbeats 4000000 in
theorem a_heat {σ : Sto} {w : Cs} (hW : CW σ w) {z : Int} (z1 : -2147483648 ≤ z) (z2 : z < 2147483648) (b : Bool) : CP mX7_heat 0 0 [.ref 0, .int (iI z), .int (bI b)] (eN + 114) σ (OK σ (oHeat w z b)) := by
  refine CP_of (by decide +kernel) (Nat.le_of_ble_eq_true rfl) ?_
  change PW _ _ _ _ 0 [_, _, _, _, _] [] _ _ _ _
  refine P_iload_n (q := 1) dX7_heat_0 rfl rfl ?_
  refine P_bipush (q := 3) (v := iI 50) dX7_heat_1 rfl (by decide +kernel) ?_
  refine P_icmp_lt (q := 6) (tgt := 12) dX7_heat_3 rfl (by first | decide | exact lt_c (by decide)) (fun c_3 => ?_) (fun c_3 => ?_)
  · rw [iI_lt z1 z2 (by omega) (by omega)] at c_3
    refine P_iconst (q := 13) (v := nI 0) dX7_heat_12 rfl (by decide +kernel) ?_
    refine P_iret dX7_heat_13 rfl (rfl) ?_
    have e : oHeat w z b = (nI 0, w) := by
      unfold oHeat
      rw [if_neg (by omega)]; rfl
    rw [e]
    exact OK.stay hW
  · rw [iI_lt z1 z2 (by omega) (by omega)] at c_3
    refine P_iload_n (q := 7) dX7_heat_6 rfl rfl ?_
    refine P_bipush (q := 9) (v := iI 100) dX7_heat_7 rfl (by decide +kernel) ?_
    refine P_icmp_le (q := 12) (tgt := 14) dX7_heat_9 rfl (by first | decide | exact lt_c (by decide)) (fun c_9 => ?_) (fun c_9 => ?_)
    · rw [iI_le z1 z2 (by omega) (by omega)] at c_9
      obtain ⟨h, rfl⟩ : ∃ h : Nat, z = h := ⟨z.toNat, by omega⟩
      rw [← iI_nI]
      cases b with
      | true => exact a_heat_true hW (by omega) (by omega)
      | false => exact a_heat_false hW (by omega) (by omega)
    · rw [iI_le z1 z2 (by omega) (by omega)] at c_9
      refine P_iconst (q := 13) (v := nI 0) dX7_heat_12 rfl (by decide +kernel) ?_
      refine P_iret dX7_heat_13 rfl (rfl) ?_
      have e : oHeat w z b = (nI 0, w) := by
        unfold oHeat
        rw [if_neg (by omega)]; rfl
      rw [e]
      exact OK.stay hW
