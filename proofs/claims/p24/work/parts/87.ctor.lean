/-! CONSTRUCTORS, the small ones -/
theorem w_oi1 : Cond.instanceMethod Lib.objectInit ∈ lw_w := lw_w_at (i := 41) (by decide +kernel) (by decide +kernel)
theorem w_oi2 : Cond.code Lib.objectInit ⟨#[0xb1]⟩ 1 none ∈ lw_w := lw_w_at (i := 42) (by decide +kernel) (by decide +kernel)
/-- the first strip: 6 columns, 2 rows, all up -/
def A0 : St := (6, 2, 0, 1, 1, fun k => if k < 6 then 2 ^ 2 - 1 else 0, fun _ _ => 0, 0)
theorem A0_ok : A0.ok := ⟨⟨by decide, by decide⟩, ⟨by decide, by decide⟩, by decide, ⟨by decide, by decide⟩, ⟨by decide, by decide⟩, fun c => by
  show (if c < 6 then 2 ^ 2 - 1 else 0) < 2 ^ 2
  split <;> decide, fun c hc => if_neg (by have : 6 ≤ c := hc; omega), fun _ _ => ⟨by show -3 ≤ (0 : Int); decide, by show (0 : Int) ≤ 3; decide⟩⟩
theorem A0_U : A0.U = mskN 6 2 := upsN_cut 10 (by decide)
set_option maxRecDepth 100000 in
set_option maxHeartbeats 4000000 in
theorem c_strip {b : Nat} {σ : Sto} (hb : σ b = pO 4 [.int 0, .int 0, .int 0, .int 0, .int 0, .long 0, .long 0, .int 0, .null]) : CP mX4_init 1 40 [.ref b] (b + 1) σ (fun v σ' => v = none ∧ same σ σ' (fun i => b ≤ i) ∧ SW σ' b A0) := by
  refine CP_of (by decide +kernel) (Nat.le_of_ble_eq_true rfl) ?_
  change PW _ _ _ _ 0 [_] [] _ _ _ _
  refine P_aload_n (q := 1) dX4_init_0 rfl rfl ?_
  refine P_objinit (q := 4) dX4_init_1 rfl kX4_3 w_oi1 w_oi2 (by decide) (by decide) ?_
  refine P_aload_n (q := 5) dX4_init_4 rfl rfl ?_
  refine P_bipush (q := 7) (v := nI 6) dX4_init_5 rfl (by decide +kernel) ?_
  refine P_put (q := 10) (fs' := [_, _, _, _, _, _, _, _, _]) dX4_init_7 rfl gX4_9 (by omega) (hb) (fun _ => rfl) (fun _ => rfl) (Nat.le_of_ble_eq_true rfl) rfl rfl ?_
  refine P_aload_n (q := 11) dX4_init_10 rfl rfl ?_
  refine P_iconst (q := 12) (v := nI 2) dX4_init_11 rfl (by decide +kernel) ?_
  refine P_put (q := 15) (fs' := [_, _, _, _, _, _, _, _, _]) dX4_init_12 rfl gX4_15 (by omega) ((up_at _ _ _)) (fun _ => rfl) (fun _ => rfl) (Nat.le_of_ble_eq_true rfl) rfl rfl ?_
  refine P_aload_n (q := 16) dX4_init_15 rfl rfl ?_
  refine P_iconst (q := 17) (v := nI 0) dX4_init_16 rfl (by decide +kernel) ?_
  refine P_put (q := 20) (fs' := [_, _, _, _, _, _, _, _, _]) dX4_init_17 rfl gX4_18 (by omega) ((up_at _ _ _)) (fun _ => rfl) (fun _ => rfl) (Nat.le_of_ble_eq_true rfl) rfl rfl ?_
  refine P_aload_n (q := 21) dX4_init_20 rfl rfl ?_
  refine P_iconst (q := 22) (v := nI 1) dX4_init_21 rfl (by decide +kernel) ?_
  refine P_put (q := 25) (fs' := [_, _, _, _, _, _, _, _, _]) dX4_init_22 rfl gX4_22 (by omega) ((up_at _ _ _)) (fun _ => rfl) (fun _ => rfl) (Nat.le_of_ble_eq_true rfl) rfl rfl ?_
  refine P_aload_n (q := 26) dX4_init_25 rfl rfl ?_
  refine P_iconst (q := 27) (v := nI 1) dX4_init_26 rfl (by decide +kernel) ?_
  refine P_put (q := 30) (fs' := [_, _, _, _, _, _, _, _, _]) dX4_init_27 rfl gX4_25 (by omega) ((up_at _ _ _)) (fun _ => rfl) (fun _ => rfl) (Nat.le_of_ble_eq_true rfl) rfl rfl ?_
  refine P_aload_n (q := 31) dX4_init_30 rfl rfl ?_
  refine P_aload_n (q := 32) dX4_init_31 rfl rfl ?_
  refine P_get (q := 35) dX4_init_32 rfl fX4_9 (by omega) ((up_at _ _ _)) rfl ?_
  refine P_aload_n (q := 36) dX4_init_35 rfl rfl ?_
  refine P_get (q := 39) dX4_init_36 rfl fX4_15 (by omega) ((up_at _ _ _)) rfl ?_
  refine P_cs1 (q := 42) dX4_init_39 rfl kX4_28 (t_allCells (C := 6) (R := 2) (by decide) (by decide)) rfl rfl ⟨by decide, by decide⟩ (Nat.le_of_ble_eq_true rfl) ⟨Nat.le_of_ble_eq_true rfl, Nat.le_of_ble_eq_true rfl⟩ ?_
  refine P_put (q := 45) (fs' := [_, _, _, _, _, _, _, _, _]) dX4_init_42 rfl gX4_32 (by omega) ((up_at _ _ _)) (fun _ => rfl) (fun _ => rfl) (Nat.le_of_ble_eq_true rfl) rfl rfl ?_
  refine P_aload_n (q := 46) dX4_init_45 rfl rfl ?_
  refine P_aload_n (q := 47) dX4_init_46 rfl rfl ?_
  refine P_get (q := 50) dX4_init_47 rfl fX4_32 (by omega) ((up_at _ _ _)) rfl ?_
  refine P_put (q := 53) (fs' := [_, _, _, _, _, _, _, _, _]) dX4_init_50 rfl gX4_36 (by omega) ((up_at _ _ _)) (fun _ => rfl) (fun _ => rfl) (Nat.le_of_ble_eq_true rfl) rfl rfl ?_
  refine P_aload_n (q := 54) dX4_init_53 rfl rfl ?_
  refine P_iconst (q := 55) (v := nI 0) dX4_init_54 rfl (by decide +kernel) ?_
  refine P_put (q := 58) (fs' := [_, _, _, _, _, _, _, _, _]) dX4_init_55 rfl gX4_39 (by omega) ((up_at _ _ _)) (fun _ => rfl) (fun _ => rfl) (Nat.le_of_ble_eq_true rfl) rfl rfl ?_
  refine P_aload_n (q := 59) dX4_init_58 rfl rfl ?_
  refine P_bipush (q := 61) (v := nI 40) dX4_init_59 rfl (by decide +kernel) ?_
  refine P_newI (n := b + 1) (N := 40) (q := 63) dX4_init_61 rfl w_arI rfl (by decide) ⟨Nat.le_of_ble_eq_true rfl, Nat.le_of_ble_eq_true rfl⟩ ?_
  refine P_putF (q := 66) (fs' := [_, _, _, _, _, _, _, _, _]) dX4_init_63 rfl gX4_42 rfl (by omega) (((up_ne _ _ (by omega)).trans (up_at _ _ _))) (fun _ => rfl) (fun _ => rfl) (Nat.le_of_ble_eq_true rfl) rfl rfl ?_
  refine P_vret dX4_init_66 rfl ?_
  refine ⟨rfl, fun k hk => ?_, A0_ok, (fun _ => 0), ?_, ((up_ne _ _ (by omega)).trans (up_at _ _ _)), fun _ _ _ _ => rfl⟩
  · rw [up_ne _ _ (by omega), up_ne _ _ (by omega), up_ne _ _ (by omega), up_ne _ _ (by omega), up_ne _ _ (by omega), up_ne _ _ (by omega), up_ne _ _ (by omega), up_ne _ _ (by omega), up_ne _ _ (by omega), up_ne _ _ (by omega)]
  · refine ((up_at _ _ _) : _ = _).trans ?_
    show _ = stO A0 (b + 1)
    unfold stO
    rw [A0_U]
    rfl
set_option maxRecDepth 100000 in
set_option maxHeartbeats 4000000 in
theorem c_text {σ : Sto} (hb : σ 112 = pO 6 [.null, .int 0, .int 0, .int 0, .long 0]) : CP mX6_init 1 60 [.ref 112] 113 σ (fun v σ' => v = none ∧ same σ σ' (fun i => 112 ≤ i) ∧ TW σ' 0 (fun _ => 0)) := by
  refine CP_of (by decide +kernel) (Nat.le_of_ble_eq_true rfl) ?_
  change PW _ _ _ _ 0 [_] [] _ _ _ _
  refine P_aload_n (q := 1) dX6_init_0 rfl rfl ?_
  refine P_objinit (q := 4) dX6_init_1 rfl kX6_3 w_oi1 w_oi2 (by decide) (by decide) ?_
  refine P_aload_n (q := 5) dX6_init_4 rfl rfl ?_
  refine P_bipush (q := 7) (v := nI 60) dX6_init_5 rfl (by decide +kernel) ?_
  refine P_newC (n := 113) (N := 60) (q := 9) dX6_init_7 rfl w_arC rfl (by decide) ⟨Nat.le_of_ble_eq_true rfl, Nat.le_of_ble_eq_true rfl⟩ ?_
  refine P_putF (q := 12) (fs' := [_, _, _, _, _]) dX6_init_9 rfl gX6_9 rfl (by omega) (((up_ne _ _ (by omega)).trans hb)) (fun _ => rfl) (fun _ => rfl) (Nat.le_of_ble_eq_true rfl) rfl rfl ?_
  refine P_aload_n (q := 13) dX6_init_12 rfl rfl ?_
  refine P_iconst (q := 14) (v := nI 0) dX6_init_13 rfl (by decide +kernel) ?_
  refine P_put (q := 17) (fs' := [_, _, _, _, _]) dX6_init_14 rfl gX6_15 (by omega) ((up_at _ _ _)) (fun _ => rfl) (fun _ => rfl) (Nat.le_of_ble_eq_true rfl) rfl rfl ?_
  refine P_aload_n (q := 18) dX6_init_17 rfl rfl ?_
  refine P_iconst (q := 19) (v := nI 0) dX6_init_18 rfl (by decide +kernel) ?_
  refine P_put (q := 22) (fs' := [_, _, _, _, _]) dX6_init_19 rfl gX6_19 (by omega) ((up_at _ _ _)) (fun _ => rfl) (fun _ => rfl) (Nat.le_of_ble_eq_true rfl) rfl rfl ?_
  refine P_aload_n (q := 23) dX6_init_22 rfl rfl ?_
  refine P_iconst (q := 24) (v := nI 0) dX6_init_23 rfl (by decide +kernel) ?_
  refine P_put (q := 27) (fs' := [_, _, _, _, _]) dX6_init_24 rfl gX6_22 (by omega) ((up_at _ _ _)) (fun _ => rfl) (fun _ => rfl) (Nat.le_of_ble_eq_true rfl) rfl rfl ?_
  refine P_aload_n (q := 28) dX6_init_27 rfl rfl ?_
  refine P_lconst (q := 29) (v := lN 0) dX6_init_28 rfl (by decide +kernel) ?_
  refine P_put (q := 32) (fs' := [_, _, _, _, _]) dX6_init_29 rfl gX6_25 (by omega) ((up_at _ _ _)) (fun _ => rfl) (fun _ => rfl) (Nat.le_of_ble_eq_true rfl) rfl rfl ?_
  refine P_vret dX6_init_32 rfl ?_
  refine ⟨rfl, fun k hk => ?_, by decide, fun _ => (show 0 < 65536 by decide), 0, 0, 0, (fun _ => 0), (up_at _ _ _), ((up_ne _ _ (by omega)).trans ((up_ne _ _ (by omega)).trans ((up_ne _ _ (by omega)).trans ((up_ne _ _ (by omega)).trans ((up_ne _ _ (by omega)).trans (up_at _ _ _)))))), fun i hi => by omega⟩
  rw [up_ne _ _ (by omega), up_ne _ _ (by omega), up_ne _ _ (by omega), up_ne _ _ (by omega), up_ne _ _ (by omega), up_ne _ _ (by omega)]
