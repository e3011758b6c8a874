/-! CONSTRUCTORS: prices, sums, least -/
theorem GP_mn {τ : Sto} {q N n : Nat} {F : Nat → Nat → Nat} (h1 : τ q = grR q N) (h2 : ∀ i, i < N → τ (q + 1 + i) = pI .int n (fun _ => 0)) : GP τ q N n (fun _ _ => False) F := ⟨h1, fun i hi => ⟨_, h2 i hi, fun j h => h.elim⟩⟩
theorem GW_mn {τ : Sto} {q N n : Nat} {F : Nat → Nat → Nat} (h1 : τ q = grR q N) (h2 : ∀ i, i < N → τ (q + 1 + i) = pI .int n (fun _ => 0)) : GW τ q N n 0 0 F := ⟨h1, fun i hi => ⟨_, h2 i hi, fun h => by omega⟩⟩
set_option maxRecDepth 100000 in
set_option maxHeartbeats 4000000 in
theorem c_prices {b : Nat} {σ : Sto} (hb : σ b = pO 3 [.int 0, .int 0, .int 0, .int 0, .int 0, .null, .null, .null]) : CP mX3_init 21 172 [.ref b] (b + 1) σ (fun v σ' => v = none ∧ same σ σ' (fun i => b ≤ i) ∧ PrS σ' b) := by
  refine CP_of (by decide +kernel) (Nat.le_of_ble_eq_true rfl) ?_
  change PW _ _ _ _ 0 [_] [] _ _ _ _
  refine P_aload_n (q := 1) dX3_init_0 rfl rfl ?_
  refine P_objinit (q := 4) dX3_init_1 rfl kX3_3 w_oi1 w_oi2 (by decide) (by decide) ?_
  refine P_aload_n (q := 5) dX3_init_4 rfl rfl ?_
  refine P_iconst (q := 6) (v := nI 1) dX3_init_5 rfl (by decide +kernel) ?_
  refine P_put (q := 9) (fs' := [_, _, _, _, _, _, _, _]) dX3_init_6 rfl gX3_9 (by omega) (hb) (fun _ => rfl) (fun _ => rfl) (Nat.le_of_ble_eq_true rfl) rfl rfl ?_
  refine P_aload_n (q := 10) dX3_init_9 rfl rfl ?_
  refine P_iconst (q := 11) (v := nI 1) dX3_init_10 rfl (by decide +kernel) ?_
  refine P_put (q := 14) (fs' := [_, _, _, _, _, _, _, _]) dX3_init_11 rfl gX3_15 (by omega) ((up_at _ _ _)) (fun _ => rfl) (fun _ => rfl) (Nat.le_of_ble_eq_true rfl) rfl rfl ?_
  refine P_aload_n (q := 15) dX3_init_14 rfl rfl ?_
  refine P_iconst (q := 16) (v := nI 2) dX3_init_15 rfl (by decide +kernel) ?_
  refine P_put (q := 19) (fs' := [_, _, _, _, _, _, _, _]) dX3_init_16 rfl gX3_18 (by omega) ((up_at _ _ _)) (fun _ => rfl) (fun _ => rfl) (Nat.le_of_ble_eq_true rfl) rfl rfl ?_
  refine P_aload_n (q := 20) dX3_init_19 rfl rfl ?_
  refine P_iconst (q := 21) (v := nI 0) dX3_init_20 rfl (by decide +kernel) ?_
  refine P_put (q := 24) (fs' := [_, _, _, _, _, _, _, _]) dX3_init_21 rfl gX3_21 (by omega) ((up_at _ _ _)) (fun _ => rfl) (fun _ => rfl) (Nat.le_of_ble_eq_true rfl) rfl rfl ?_
  refine P_aload_n (q := 25) dX3_init_24 rfl rfl ?_
  refine P_iconst (q := 26) (v := nI 0) dX3_init_25 rfl (by decide +kernel) ?_
  refine P_put (q := 29) (fs' := [_, _, _, _, _, _, _, _]) dX3_init_26 rfl gX3_25 (by omega) ((up_at _ _ _)) (fun _ => rfl) (fun _ => rfl) (Nat.le_of_ble_eq_true rfl) rfl rfl ?_
  refine P_aload_n (q := 30) dX3_init_29 rfl rfl ?_
  refine P_bipush (q := 32) (v := nI 10) dX3_init_30 rfl (by decide +kernel) ?_
  refine P_newI (n := b + 1) (N := 10) (q := 34) dX3_init_32 rfl w_arI rfl (by decide) ⟨Nat.le_of_ble_eq_true rfl, Nat.le_of_ble_eq_true rfl⟩ ?_
  refine P_putF (q := 37) (fs' := [_, _, _, _, _, _, _, _]) dX3_init_34 rfl gX3_28 rfl (by omega) (((up_ne _ _ (by omega)).trans (up_at _ _ _))) (fun _ => rfl) (fun _ => rfl) (Nat.le_of_ble_eq_true rfl) rfl rfl ?_
  refine P_aload_n (q := 38) dX3_init_37 rfl rfl ?_
  refine P_bipush (q := 40) (v := nI 10) dX3_init_38 rfl (by decide +kernel) ?_
  refine P_bipush (q := 42) (v := nI 8) dX3_init_40 rfl (by decide +kernel) ?_
  refine P_mna (n := b + 2) (N := 10) (K := 8) (q := 46) dX3_init_42 rfl iX3_32 rfl rfl (by decide) (by decide) ⟨Nat.le_of_ble_eq_true rfl, Nat.le_of_ble_eq_true rfl⟩ ?_
  refine P_putF (q := 49) (fs' := [_, _, _, _, _, _, _, _]) dX3_init_46 rfl gX3_34 rfl (by omega) (((mn_ne (by omega)).trans (up_at _ _ _))) (fun _ => rfl) (fun _ => rfl) (Nat.le_of_ble_eq_true rfl) rfl rfl ?_
  refine P_aload_n (q := 50) dX3_init_49 rfl rfl ?_
  refine P_bipush (q := 52) (v := nI 8) dX3_init_50 rfl (by decide +kernel) ?_
  refine P_bipush (q := 54) (v := nI 8) dX3_init_52 rfl (by decide +kernel) ?_
  refine P_mna (n := b + 13) (N := 8) (K := 8) (q := 58) dX3_init_54 rfl iX3_32 rfl rfl (by decide) (by decide) ⟨Nat.le_of_ble_eq_true rfl, Nat.le_of_ble_eq_true rfl⟩ ?_
  refine P_putF (q := 61) (fs' := [_, _, _, _, _, _, _, _]) dX3_init_58 rfl gX3_37 rfl (by omega) (((mn_ne (by omega)).trans (up_at _ _ _))) (fun _ => rfl) (fun _ => rfl) (Nat.le_of_ble_eq_true rfl) rfl rfl ?_
  refine P_vret dX3_init_61 rfl ?_
  refine ⟨rfl, fun k hk => ?_, ⟨_, _, _, _, _, (up_at _ _ _)⟩, ⟨_, ((up_ne _ _ (by omega)).trans ((mn_ne (by omega)).trans ((up_ne _ _ (by omega)).trans ((mn_ne (by omega)).trans ((up_ne _ _ (by omega)).trans (up_at _ _ _))))))⟩, ⟨zz2, GP_mn ((up_ne _ _ (by omega)).trans ((mn_ne (by omega)).trans ((up_ne _ _ (by omega)).trans (mn_at _ _ _ _)))) (fun i hi => ((up_ne _ _ (by omega)).trans ((mn_ne (by omega)).trans ((up_ne _ _ (by omega)).trans (mn_row (by omega))))))⟩, ⟨zz2, GP_mn ((up_ne _ _ (by omega)).trans (mn_at _ _ _ _)) (fun i hi => ((up_ne _ _ (by omega)).trans (mn_row (by omega))))⟩⟩
  rw [up_ne _ _ (by omega), mn_ne (by omega), up_ne _ _ (by omega), mn_ne (by omega), up_ne _ _ (by omega), up_ne _ _ (by omega), up_ne _ _ (by omega), up_ne _ _ (by omega), up_ne _ _ (by omega), up_ne _ _ (by omega), up_ne _ _ (by omega)]
set_option maxRecDepth 100000 in
set_option maxHeartbeats 4000000 in
theorem c_sums {σ : Sto} (hb : σ 48 = pO 5 [.null, .null]) : CP mX5_init 18 3072 [.ref 48] 49 σ (fun v σ' => v = none ∧ same σ σ' (fun i => 48 ≤ i) ∧ SmW σ') := by
  refine CP_of (by decide +kernel) (Nat.le_of_ble_eq_true rfl) ?_
  change PW _ _ _ _ 0 [_] [] _ _ _ _
  refine P_aload_n (q := 1) dX5_init_0 rfl rfl ?_
  refine P_objinit (q := 4) dX5_init_1 rfl kX5_3 w_oi1 w_oi2 (by decide) (by decide) ?_
  refine P_aload_n (q := 5) dX5_init_4 rfl rfl ?_
  refine P_bipush (q := 7) (v := nI 8) dX5_init_5 rfl (by decide +kernel) ?_
  refine P_sipush (q := 10) (v := nI 191) dX5_init_7 rfl (by decide +kernel) ?_
  refine P_mna (n := 49) (N := 8) (K := 191) (q := 14) dX5_init_10 rfl iX5_9 rfl rfl (by decide) (by decide) ⟨Nat.le_of_ble_eq_true rfl, Nat.le_of_ble_eq_true rfl⟩ ?_
  refine P_put (q := 17) (fs' := [_, _]) dX5_init_14 rfl gX5_11 (by omega) (((mn_ne (by omega)).trans hb)) (fun _ => rfl) (fun _ => rfl) (Nat.le_of_ble_eq_true rfl) rfl rfl ?_
  refine P_aload_n (q := 18) dX5_init_17 rfl rfl ?_
  refine P_bipush (q := 20) (v := nI 8) dX5_init_18 rfl (by decide +kernel) ?_
  refine P_sipush (q := 23) (v := nI 191) dX5_init_20 rfl (by decide +kernel) ?_
  refine P_mna (n := 58) (N := 8) (K := 191) (q := 27) dX5_init_23 rfl iX5_9 rfl rfl (by decide) (by decide) ⟨Nat.le_of_ble_eq_true rfl, Nat.le_of_ble_eq_true rfl⟩ ?_
  refine P_put (q := 30) (fs' := [_, _]) dX5_init_27 rfl gX5_16 (by omega) (((mn_ne (by omega)).trans (up_at _ _ _))) (fun _ => rfl) (fun _ => rfl) (Nat.le_of_ble_eq_true rfl) rfl rfl ?_
  refine P_vret dX5_init_30 rfl ?_
  refine ⟨rfl, fun k hk => ?_, 49, 58, ⟨(up_at _ _ _), Or.inl ⟨rfl, rfl⟩⟩, GW_mn ((up_ne _ _ (by omega)).trans ((mn_ne (by omega)).trans ((up_ne _ _ (by omega)).trans (mn_at _ _ _ _)))) (fun i hi => ((up_ne _ _ (by omega)).trans ((mn_ne (by omega)).trans ((up_ne _ _ (by omega)).trans (mn_row (by omega)))))), GW_mn ((up_ne _ _ (by omega)).trans (mn_at _ _ _ _)) (fun i hi => ((up_ne _ _ (by omega)).trans (mn_row (by omega))))⟩
  rw [up_ne _ _ (by omega), mn_ne (by omega), up_ne _ _ (by omega), mn_ne (by omega)]
set_option maxRecDepth 100000 in
set_option maxHeartbeats 4000000 in
theorem c_least {σ : Sto} (hb : σ 67 = pO 2 [.null, .null, .null]) : CP mX2_init 29 602 [.ref 67] 68 σ (fun v σ' => v = none ∧ same σ σ' (fun i => 67 ≤ i) ∧ LsW σ' ∧ GP σ' 68 10 8 (fun _ _ => False) zz2) := by
  refine CP_of (by decide +kernel) (Nat.le_of_ble_eq_true rfl) ?_
  change PW _ _ _ _ 0 [_] [] _ _ _ _
  refine P_aload_n (q := 1) dX2_init_0 rfl rfl ?_
  refine P_objinit (q := 4) dX2_init_1 rfl kX2_3 w_oi1 w_oi2 (by decide) (by decide) ?_
  refine P_aload_n (q := 5) dX2_init_4 rfl rfl ?_
  refine P_bipush (q := 7) (v := nI 10) dX2_init_5 rfl (by decide +kernel) ?_
  refine P_bipush (q := 9) (v := nI 8) dX2_init_7 rfl (by decide +kernel) ?_
  refine P_mna (n := 68) (N := 10) (K := 8) (q := 13) dX2_init_9 rfl iX2_9 rfl rfl (by decide) (by decide) ⟨Nat.le_of_ble_eq_true rfl, Nat.le_of_ble_eq_true rfl⟩ ?_
  refine P_putF (q := 16) (fs' := [_, _, _]) dX2_init_13 rfl gX2_11 rfl (by omega) (((mn_ne (by omega)).trans hb)) (fun _ => rfl) (fun _ => rfl) (Nat.le_of_ble_eq_true rfl) rfl rfl ?_
  refine P_aload_n (q := 17) dX2_init_16 rfl rfl ?_
  refine P_bipush (q := 19) (v := nI 8) dX2_init_17 rfl (by decide +kernel) ?_
  refine P_bipush (q := 21) (v := nI 31) dX2_init_19 rfl (by decide +kernel) ?_
  refine P_mna (n := 79) (N := 8) (K := 31) (q := 25) dX2_init_21 rfl iX2_9 rfl rfl (by decide) (by decide) ⟨Nat.le_of_ble_eq_true rfl, Nat.le_of_ble_eq_true rfl⟩ ?_
  refine P_put (q := 28) (fs' := [_, _, _]) dX2_init_25 rfl gX2_16 (by omega) (((mn_ne (by omega)).trans (up_at _ _ _))) (fun _ => rfl) (fun _ => rfl) (Nat.le_of_ble_eq_true rfl) rfl rfl ?_
  refine P_aload_n (q := 29) dX2_init_28 rfl rfl ?_
  refine P_bipush (q := 31) (v := nI 8) dX2_init_29 rfl (by decide +kernel) ?_
  refine P_bipush (q := 33) (v := nI 31) dX2_init_31 rfl (by decide +kernel) ?_
  refine P_mna (n := 88) (N := 8) (K := 31) (q := 37) dX2_init_33 rfl iX2_9 rfl rfl (by decide) (by decide) ⟨Nat.le_of_ble_eq_true rfl, Nat.le_of_ble_eq_true rfl⟩ ?_
  refine P_put (q := 40) (fs' := [_, _, _]) dX2_init_37 rfl gX2_19 (by omega) (((mn_ne (by omega)).trans (up_at _ _ _))) (fun _ => rfl) (fun _ => rfl) (Nat.le_of_ble_eq_true rfl) rfl rfl ?_
  refine P_vret dX2_init_40 rfl ?_
  refine ⟨rfl, fun k hk => ?_, ⟨79, 88, ⟨(up_at _ _ _), Or.inl ⟨rfl, rfl⟩⟩, GW_mn ((up_ne _ _ (by omega)).trans ((mn_ne (by omega)).trans ((up_ne _ _ (by omega)).trans (mn_at _ _ _ _)))) (fun i hi => ((up_ne _ _ (by omega)).trans ((mn_ne (by omega)).trans ((up_ne _ _ (by omega)).trans (mn_row (by omega)))))), GW_mn ((up_ne _ _ (by omega)).trans (mn_at _ _ _ _)) (fun i hi => ((up_ne _ _ (by omega)).trans (mn_row (by omega))))⟩, GP_mn ((up_ne _ _ (by omega)).trans ((mn_ne (by omega)).trans ((up_ne _ _ (by omega)).trans ((mn_ne (by omega)).trans ((up_ne _ _ (by omega)).trans (mn_at _ _ _ _)))))) (fun i hi => ((up_ne _ _ (by omega)).trans ((mn_ne (by omega)).trans ((up_ne _ _ (by omega)).trans ((mn_ne (by omega)).trans ((up_ne _ _ (by omega)).trans (mn_row (by omega))))))))⟩
  rw [up_ne _ _ (by omega), mn_ne (by omega), up_ne _ _ (by omega), mn_ne (by omega), up_ne _ _ (by omega), mn_ne (by omega)]
