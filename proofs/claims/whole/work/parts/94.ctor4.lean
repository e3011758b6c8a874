/-! CONSTRUCTORS: the class, the reference -/
def w0 : Cs := (A0, [], none, 0, fun _ => 0)
set_option maxRecDepth 100000 in
set_option maxHeartbeats 4000000 in
theorem c_class {σ : Sto} (hb : σ 0 = pO 7 [.null, .null, .null, .null, .int 0, .null]) : CP mX7_init 113 4830 [.ref 0] 1 σ (fun v σ' => v = none ∧ CW σ' w0) := by
  refine CP_of (by decide +kernel) (Nat.le_of_ble_eq_true rfl) ?_
  change PW _ _ _ _ 0 [_] [] _ _ _ _
  refine P_aload_n (q := 1) dX7_init_0 rfl rfl ?_
  refine P_objinit (q := 4) dX7_init_1 rfl kX7_3 w_oi1 w_oi2 (by decide) (by decide) ?_
  refine P_aload_n (q := 5) dX7_init_4 rfl rfl ?_
  refine P_new (n := 1) (q := 8) dX7_init_5 rfl nX7_9 (fun _ => rfl) ⟨Nat.le_of_ble_eq_true rfl, Nat.le_of_ble_eq_true rfl⟩ ?_
  refine P_dup (q := 9) dX7_init_8 rfl rfl ?_
  refine P_calli (q := 12) dX7_init_9 rfl (c_strip (b := 1) (up_at _ _ _)) kX7_11 rfl rfl ⟨by decide, by decide⟩ (Nat.le_of_ble_eq_true rfl) ⟨Nat.le_of_ble_eq_true rfl, Nat.le_of_ble_eq_true rfl⟩ ?_
  rintro v1 σ1 ⟨rfl, t1, q1⟩
  have f1_0 : σ1 0 = pO 7 [.null, .null, .null, .null, .int 0, .null] := (t1 0 (by omega)).trans ((up_ne _ _ (by omega)).trans hb)
  have l1 : same σ σ1 (fun i => 0 ≤ i) := fun k hk => (t1 k (by omega)).trans ((up_ne _ _ (by omega)).trans (rfl))
  refine P_putF (q := 15) (fs' := [_, _, _, _, _, _]) dX7_init_12 rfl gX7_12 rfl (by omega) (f1_0) (fun _ => rfl) (fun _ => rfl) (Nat.le_of_ble_eq_true rfl) rfl rfl ?_
  refine P_aload_n (q := 16) dX7_init_15 rfl rfl ?_
  refine P_new (n := 3) (q := 19) dX7_init_16 rfl nX7_16 (fun _ => rfl) ⟨Nat.le_of_ble_eq_true rfl, Nat.le_of_ble_eq_true rfl⟩ ?_
  refine P_dup (q := 20) dX7_init_19 rfl rfl ?_
  refine P_calli (q := 23) dX7_init_20 rfl (c_all (up_at _ _ _)) kX7_18 rfl rfl ⟨by decide, by decide⟩ (Nat.le_of_ble_eq_true rfl) ⟨Nat.le_of_ble_eq_true rfl, Nat.le_of_ble_eq_true rfl⟩ ?_
  rintro v2 σ2 ⟨rfl, t2, qA⟩
  have f2_0 : σ2 0 = pO 7 [.ref 1, .null, .null, .null, .int 0, .null] := (t2 0 (by omega)).trans ((up_ne _ _ (by omega)).trans (up_at _ _ _))
  have l2 : same σ σ2 (fun i => 0 ≤ i) := fun k hk => (t2 k (by omega)).trans ((up_ne _ _ (by omega)).trans ((up_ne _ _ (by omega)).trans (l1 k hk)))
  have q1_2 := q1.congr ((t2 1 (by omega)).trans ((up_ne _ _ (by omega)).trans ((up_ne _ _ (by omega)).trans (rfl)))) ((t2 2 (by omega)).trans ((up_ne _ _ (by omega)).trans ((up_ne _ _ (by omega)).trans (rfl))))
  refine P_putF (q := 26) (fs' := [_, _, _, _, _, _]) dX7_init_23 rfl gX7_19 rfl (by omega) (f2_0) (fun _ => rfl) (fun _ => rfl) (Nat.le_of_ble_eq_true rfl) rfl rfl ?_
  refine P_aload_n (q := 27) dX7_init_26 rfl rfl ?_
  refine P_new (n := 100) (q := 30) dX7_init_27 rfl nX7_23 (fun _ => rfl) ⟨Nat.le_of_ble_eq_true rfl, Nat.le_of_ble_eq_true rfl⟩ ?_
  refine P_dup (q := 31) dX7_init_30 rfl rfl ?_
  refine P_calli (q := 34) dX7_init_31 rfl (c_hist (up_at _ _ _)) kX7_25 rfl rfl ⟨by decide, by decide⟩ (Nat.le_of_ble_eq_true rfl) ⟨Nat.le_of_ble_eq_true rfl, Nat.le_of_ble_eq_true rfl⟩ ?_
  rintro v3 σ3 ⟨rfl, t3, qH⟩
  have f3_0 : σ3 0 = pO 7 [.ref 1, .ref 3, .null, .null, .int 0, .null] := (t3 0 (by omega)).trans ((up_ne _ _ (by omega)).trans (up_at _ _ _))
  have l3 : same σ σ3 (fun i => 0 ≤ i) := fun k hk => (t3 k (by omega)).trans ((up_ne _ _ (by omega)).trans ((up_ne _ _ (by omega)).trans (l2 k hk)))
  have q1_3 := q1_2.congr ((t3 1 (by omega)).trans ((up_ne _ _ (by omega)).trans ((up_ne _ _ (by omega)).trans (rfl)))) ((t3 2 (by omega)).trans ((up_ne _ _ (by omega)).trans ((up_ne _ _ (by omega)).trans (rfl))))
  have qA_3 := (fun A => (qA A).congr (fun k a b => (t3 k (by omega)).trans ((up_ne _ _ (by omega)).trans ((up_ne _ _ (by omega)).trans (rfl)))))
  refine P_putF (q := 37) (fs' := [_, _, _, _, _, _]) dX7_init_34 rfl gX7_26 rfl (by omega) (f3_0) (fun _ => rfl) (fun _ => rfl) (Nat.le_of_ble_eq_true rfl) rfl rfl ?_
  refine P_aload_n (q := 38) dX7_init_37 rfl rfl ?_
  refine P_new (n := 110) (q := 41) dX7_init_38 rfl nX7_9 (fun _ => rfl) ⟨Nat.le_of_ble_eq_true rfl, Nat.le_of_ble_eq_true rfl⟩ ?_
  refine P_dup (q := 42) dX7_init_41 rfl rfl ?_
  refine P_calli (q := 45) dX7_init_42 rfl (c_strip (b := 110) (up_at _ _ _)) kX7_11 rfl rfl ⟨by decide, by decide⟩ (Nat.le_of_ble_eq_true rfl) ⟨Nat.le_of_ble_eq_true rfl, Nat.le_of_ble_eq_true rfl⟩ ?_
  rintro v4 σ4 ⟨rfl, t4, q110⟩
  have f4_0 : σ4 0 = pO 7 [.ref 1, .ref 3, .ref 100, .null, .int 0, .null] := (t4 0 (by omega)).trans ((up_ne _ _ (by omega)).trans (up_at _ _ _))
  have l4 : same σ σ4 (fun i => 0 ≤ i) := fun k hk => (t4 k (by omega)).trans ((up_ne _ _ (by omega)).trans ((up_ne _ _ (by omega)).trans (l3 k hk)))
  have q1_4 := q1_3.congr ((t4 1 (by omega)).trans ((up_ne _ _ (by omega)).trans ((up_ne _ _ (by omega)).trans (rfl)))) ((t4 2 (by omega)).trans ((up_ne _ _ (by omega)).trans ((up_ne _ _ (by omega)).trans (rfl))))
  have qA_4 := (fun A => (qA_3 A).congr (fun k a b => (t4 k (by omega)).trans ((up_ne _ _ (by omega)).trans ((up_ne _ _ (by omega)).trans (rfl)))))
  have qH_4 := qH.congr (fun k a b => (t4 k (by omega)).trans ((up_ne _ _ (by omega)).trans ((up_ne _ _ (by omega)).trans (rfl))))
  refine P_putF (q := 48) (fs' := [_, _, _, _, _, _]) dX7_init_45 rfl gX7_30 rfl (by omega) (f4_0) (fun _ => rfl) (fun _ => rfl) (Nat.le_of_ble_eq_true rfl) rfl rfl ?_
  refine P_aload_n (q := 49) dX7_init_48 rfl rfl ?_
  refine P_iconst (q := 50) (v := nI 0) dX7_init_49 rfl (by decide +kernel) ?_
  refine P_put (q := 53) (fs' := [_, _, _, _, _, _]) dX7_init_50 rfl gX7_33 (by omega) ((up_at _ _ _)) (fun _ => rfl) (fun _ => rfl) (Nat.le_of_ble_eq_true rfl) rfl rfl ?_
  refine P_aload_n (q := 54) dX7_init_53 rfl rfl ?_
  refine P_new (n := 112) (q := 57) dX7_init_54 rfl nX7_37 (fun _ => rfl) ⟨Nat.le_of_ble_eq_true rfl, Nat.le_of_ble_eq_true rfl⟩ ?_
  refine P_dup (q := 58) dX7_init_57 rfl rfl ?_
  refine P_calli (q := 61) dX7_init_58 rfl (c_text (up_at _ _ _)) kX7_39 rfl rfl ⟨by decide, by decide⟩ (Nat.le_of_ble_eq_true rfl) ⟨Nat.le_of_ble_eq_true rfl, Nat.le_of_ble_eq_true rfl⟩ ?_
  rintro v5 σ5 ⟨rfl, t5, qT⟩
  have f5_0 : σ5 0 = pO 7 [.ref 1, .ref 3, .ref 100, .ref 110, .int (nI 0), .null] := (t5 0 (by omega)).trans ((up_ne _ _ (by omega)).trans (up_at _ _ _))
  have l5 : same σ σ5 (fun i => 0 ≤ i) := fun k hk => (t5 k (by omega)).trans ((up_ne _ _ (by omega)).trans ((up_ne _ _ (by omega)).trans ((up_ne _ _ (by omega)).trans (l4 k hk))))
  have q1_5 := q1_4.congr ((t5 1 (by omega)).trans ((up_ne _ _ (by omega)).trans ((up_ne _ _ (by omega)).trans ((up_ne _ _ (by omega)).trans (rfl))))) ((t5 2 (by omega)).trans ((up_ne _ _ (by omega)).trans ((up_ne _ _ (by omega)).trans ((up_ne _ _ (by omega)).trans (rfl)))))
  have qA_5 := (fun A => (qA_4 A).congr (fun k a b => (t5 k (by omega)).trans ((up_ne _ _ (by omega)).trans ((up_ne _ _ (by omega)).trans ((up_ne _ _ (by omega)).trans (rfl))))))
  have qH_5 := qH_4.congr (fun k a b => (t5 k (by omega)).trans ((up_ne _ _ (by omega)).trans ((up_ne _ _ (by omega)).trans ((up_ne _ _ (by omega)).trans (rfl)))))
  have q110_5 := q110.congr ((t5 110 (by omega)).trans ((up_ne _ _ (by omega)).trans ((up_ne _ _ (by omega)).trans ((up_ne _ _ (by omega)).trans (rfl))))) ((t5 111 (by omega)).trans ((up_ne _ _ (by omega)).trans ((up_ne _ _ (by omega)).trans ((up_ne _ _ (by omega)).trans (rfl)))))
  refine P_putF (q := 64) (fs' := [_, _, _, _, _, _]) dX7_init_61 rfl gX7_40 rfl (by omega) (f5_0) (fun _ => rfl) (fun _ => rfl) (Nat.le_of_ble_eq_true rfl) rfl rfl ?_
  refine P_vret dX7_init_64 rfl ?_
  exact ⟨rfl, (up_at _ _ _), q1_5.congr ((up_ne _ _ (by omega)).trans (rfl)) ((up_ne _ _ (by omega)).trans (rfl)), (fun A => (qA_5 A).congr (fun k a b => (up_ne _ _ (by omega)).trans (rfl))) A0, qH_5.congr (fun k a b => (up_ne _ _ (by omega)).trans (rfl)), ⟨A0, q110_5.congr ((up_ne _ _ (by omega)).trans (rfl)) ((up_ne _ _ (by omega)).trans (rfl)), fun C hC => by cases hC⟩, ⟨qT.1, qT.2.1, by obtain ⟨c, r, u, g, e1, e2, e3⟩ := qT.2.2; exact ⟨c, r, u, g, (up_ne _ _ (by omega)).trans (e1), (up_ne _ _ (by omega)).trans (e2), e3⟩⟩⟩
set_option maxRecDepth 100000 in
set_option maxHeartbeats 4000000 in
theorem c_model {σ : Sto} (hb : σ 114 = pO 8 [.null, .null, .null, .int 0, .null, .int 0, .null, .null, .null, .null, .null, .null, .null, .null, .null, .null, .null, .null, .int 0, .null, .int 0, .int 0, .int 0, .int 0]) : CP mX8_init 17 8393 [.ref 114] 115 σ (fun v σ' => v = none ∧ same σ σ' (fun i => 114 ≤ i) ∧ MW σ' w0) := by
  refine CP_of (by decide +kernel) (Nat.le_of_ble_eq_true rfl) ?_
  change PW _ _ _ _ 0 [_] [] _ _ _ _
  refine P_aload_n (q := 1) dX8_init_0 rfl rfl ?_
  refine P_objinit (q := 4) dX8_init_1 rfl kX8_1 w_oi1 w_oi2 (by decide) (by decide) ?_
  refine P_aload_n (q := 5) dX8_init_4 rfl rfl ?_
  refine P_bipush (q := 7) (v := nI 46) dX8_init_5 rfl (by decide +kernel) ?_
  refine P_newI (n := 115) (N := 46) (q := 9) dX8_init_7 rfl w_arI rfl (by decide) ⟨Nat.le_of_ble_eq_true rfl, Nat.le_of_ble_eq_true rfl⟩ ?_
  refine P_putF (q := 12) (fs' := [_, _, _, _, _, _, _, _, _, _, _, _, _, _, _, _, _, _, _, _, _, _, _, _]) dX8_init_9 rfl gX8_7 rfl (by omega) (((up_ne _ _ (by omega)).trans hb)) (fun _ => rfl) (fun _ => rfl) (Nat.le_of_ble_eq_true rfl) rfl rfl ?_
  refine P_aload_n (q := 13) dX8_init_12 rfl rfl ?_
  refine P_bipush (q := 15) (v := nI 46) dX8_init_13 rfl (by decide +kernel) ?_
  refine P_newI (n := 116) (N := 46) (q := 17) dX8_init_15 rfl w_arI rfl (by decide) ⟨Nat.le_of_ble_eq_true rfl, Nat.le_of_ble_eq_true rfl⟩ ?_
  refine P_putF (q := 20) (fs' := [_, _, _, _, _, _, _, _, _, _, _, _, _, _, _, _, _, _, _, _, _, _, _, _]) dX8_init_17 rfl gX8_13 rfl (by omega) (((up_ne _ _ (by omega)).trans (up_at _ _ _))) (fun _ => rfl) (fun _ => rfl) (Nat.le_of_ble_eq_true rfl) rfl rfl ?_
  refine P_aload_n (q := 21) dX8_init_20 rfl rfl ?_
  refine P_sipush (q := 24) (v := nI 184) dX8_init_21 rfl (by decide +kernel) ?_
  refine P_newI (n := 117) (N := 184) (q := 26) dX8_init_24 rfl w_arI rfl (by decide) ⟨Nat.le_of_ble_eq_true rfl, Nat.le_of_ble_eq_true rfl⟩ ?_
  refine P_putF (q := 29) (fs' := [_, _, _, _, _, _, _, _, _, _, _, _, _, _, _, _, _, _, _, _, _, _, _, _]) dX8_init_26 rfl gX8_16 rfl (by omega) (((up_ne _ _ (by omega)).trans (up_at _ _ _))) (fun _ => rfl) (fun _ => rfl) (Nat.le_of_ble_eq_true rfl) rfl rfl ?_
  refine P_aload_n (q := 30) dX8_init_29 rfl rfl ?_
  refine P_bipush (q := 32) (v := nI 46) dX8_init_30 rfl (by decide +kernel) ?_
  refine P_newI (n := 118) (N := 46) (q := 34) dX8_init_32 rfl w_arI rfl (by decide) ⟨Nat.le_of_ble_eq_true rfl, Nat.le_of_ble_eq_true rfl⟩ ?_
  refine P_putF (q := 37) (fs' := [_, _, _, _, _, _, _, _, _, _, _, _, _, _, _, _, _, _, _, _, _, _, _, _]) dX8_init_34 rfl gX8_19 rfl (by omega) (((up_ne _ _ (by omega)).trans (up_at _ _ _))) (fun _ => rfl) (fun _ => rfl) (Nat.le_of_ble_eq_true rfl) rfl rfl ?_
  refine P_aload_n (q := 38) dX8_init_37 rfl rfl ?_
  refine P_sipush (q := 41) (v := nI 401) dX8_init_38 rfl (by decide +kernel) ?_
  refine P_newI (n := 119) (N := 401) (q := 43) dX8_init_41 rfl w_arI rfl (by decide) ⟨Nat.le_of_ble_eq_true rfl, Nat.le_of_ble_eq_true rfl⟩ ?_
  refine P_putF (q := 46) (fs' := [_, _, _, _, _, _, _, _, _, _, _, _, _, _, _, _, _, _, _, _, _, _, _, _]) dX8_init_43 rfl gX8_22 rfl (by omega) (((up_ne _ _ (by omega)).trans (up_at _ _ _))) (fun _ => rfl) (fun _ => rfl) (Nat.le_of_ble_eq_true rfl) rfl rfl ?_
  refine P_aload_n (q := 47) dX8_init_46 rfl rfl ?_
  refine P_sipush (q := 50) (v := nI 3208) dX8_init_47 rfl (by decide +kernel) ?_
  refine P_newI (n := 120) (N := 3208) (q := 52) dX8_init_50 rfl w_arI rfl (by decide) ⟨Nat.le_of_ble_eq_true rfl, Nat.le_of_ble_eq_true rfl⟩ ?_
  refine P_putF (q := 55) (fs' := [_, _, _, _, _, _, _, _, _, _, _, _, _, _, _, _, _, _, _, _, _, _, _, _]) dX8_init_52 rfl gX8_25 rfl (by omega) (((up_ne _ _ (by omega)).trans (up_at _ _ _))) (fun _ => rfl) (fun _ => rfl) (Nat.le_of_ble_eq_true rfl) rfl rfl ?_
  refine P_aload_n (q := 56) dX8_init_55 rfl rfl ?_
  refine P_sipush (q := 59) (v := nI 3208) dX8_init_56 rfl (by decide +kernel) ?_
  refine P_newI (n := 121) (N := 3208) (q := 61) dX8_init_59 rfl w_arI rfl (by decide) ⟨Nat.le_of_ble_eq_true rfl, Nat.le_of_ble_eq_true rfl⟩ ?_
  refine P_putF (q := 64) (fs' := [_, _, _, _, _, _, _, _, _, _, _, _, _, _, _, _, _, _, _, _, _, _, _, _]) dX8_init_61 rfl gX8_28 rfl (by omega) (((up_ne _ _ (by omega)).trans (up_at _ _ _))) (fun _ => rfl) (fun _ => rfl) (Nat.le_of_ble_eq_true rfl) rfl rfl ?_
  refine P_aload_n (q := 65) dX8_init_64 rfl rfl ?_
  refine P_sipush (q := 68) (v := nI 248) dX8_init_65 rfl (by decide +kernel) ?_
  refine P_newI (n := 122) (N := 248) (q := 70) dX8_init_68 rfl w_arI rfl (by decide) ⟨Nat.le_of_ble_eq_true rfl, Nat.le_of_ble_eq_true rfl⟩ ?_
  refine P_putF (q := 73) (fs' := [_, _, _, _, _, _, _, _, _, _, _, _, _, _, _, _, _, _, _, _, _, _, _, _]) dX8_init_70 rfl gX8_31 rfl (by omega) (((up_ne _ _ (by omega)).trans (up_at _ _ _))) (fun _ => rfl) (fun _ => rfl) (Nat.le_of_ble_eq_true rfl) rfl rfl ?_
  refine P_aload_n (q := 74) dX8_init_73 rfl rfl ?_
  refine P_sipush (q := 77) (v := nI 248) dX8_init_74 rfl (by decide +kernel) ?_
  refine P_newI (n := 123) (N := 248) (q := 79) dX8_init_77 rfl w_arI rfl (by decide) ⟨Nat.le_of_ble_eq_true rfl, Nat.le_of_ble_eq_true rfl⟩ ?_
  refine P_putF (q := 82) (fs' := [_, _, _, _, _, _, _, _, _, _, _, _, _, _, _, _, _, _, _, _, _, _, _, _]) dX8_init_79 rfl gX8_34 rfl (by omega) (((up_ne _ _ (by omega)).trans (up_at _ _ _))) (fun _ => rfl) (fun _ => rfl) (Nat.le_of_ble_eq_true rfl) rfl rfl ?_
  refine P_aload_n (q := 83) dX8_init_82 rfl rfl ?_
  refine P_sipush (q := 86) (v := nI 248) dX8_init_83 rfl (by decide +kernel) ?_
  refine P_newI (n := 124) (N := 248) (q := 88) dX8_init_86 rfl w_arI rfl (by decide) ⟨Nat.le_of_ble_eq_true rfl, Nat.le_of_ble_eq_true rfl⟩ ?_
  refine P_putF (q := 91) (fs' := [_, _, _, _, _, _, _, _, _, _, _, _, _, _, _, _, _, _, _, _, _, _, _, _]) dX8_init_88 rfl gX8_37 rfl (by omega) (((up_ne _ _ (by omega)).trans (up_at _ _ _))) (fun _ => rfl) (fun _ => rfl) (Nat.le_of_ble_eq_true rfl) rfl rfl ?_
  refine P_aload_n (q := 92) dX8_init_91 rfl rfl ?_
  refine P_sipush (q := 95) (v := nI 248) dX8_init_92 rfl (by decide +kernel) ?_
  refine P_newI (n := 125) (N := 248) (q := 97) dX8_init_95 rfl w_arI rfl (by decide) ⟨Nat.le_of_ble_eq_true rfl, Nat.le_of_ble_eq_true rfl⟩ ?_
  refine P_putF (q := 100) (fs' := [_, _, _, _, _, _, _, _, _, _, _, _, _, _, _, _, _, _, _, _, _, _, _, _]) dX8_init_97 rfl gX8_40 rfl (by omega) (((up_ne _ _ (by omega)).trans (up_at _ _ _))) (fun _ => rfl) (fun _ => rfl) (Nat.le_of_ble_eq_true rfl) rfl rfl ?_
  refine P_aload_n (q := 101) dX8_init_100 rfl rfl ?_
  refine P_bipush (q := 103) (v := nI 31) dX8_init_101 rfl (by decide +kernel) ?_
  refine P_newI (n := 126) (N := 31) (q := 105) dX8_init_103 rfl w_arI rfl (by decide) ⟨Nat.le_of_ble_eq_true rfl, Nat.le_of_ble_eq_true rfl⟩ ?_
  refine P_putF (q := 108) (fs' := [_, _, _, _, _, _, _, _, _, _, _, _, _, _, _, _, _, _, _, _, _, _, _, _]) dX8_init_105 rfl gX8_43 rfl (by omega) (((up_ne _ _ (by omega)).trans (up_at _ _ _))) (fun _ => rfl) (fun _ => rfl) (Nat.le_of_ble_eq_true rfl) rfl rfl ?_
  refine P_aload_n (q := 109) dX8_init_108 rfl rfl ?_
  refine P_bipush (q := 111) (v := nI 31) dX8_init_109 rfl (by decide +kernel) ?_
  refine P_newI (n := 127) (N := 31) (q := 113) dX8_init_111 rfl w_arI rfl (by decide) ⟨Nat.le_of_ble_eq_true rfl, Nat.le_of_ble_eq_true rfl⟩ ?_
  refine P_putF (q := 116) (fs' := [_, _, _, _, _, _, _, _, _, _, _, _, _, _, _, _, _, _, _, _, _, _, _, _]) dX8_init_113 rfl gX8_46 rfl (by omega) (((up_ne _ _ (by omega)).trans (up_at _ _ _))) (fun _ => rfl) (fun _ => rfl) (Nat.le_of_ble_eq_true rfl) rfl rfl ?_
  refine P_aload_n (q := 117) dX8_init_116 rfl rfl ?_
  refine P_bipush (q := 119) (v := nI 80) dX8_init_117 rfl (by decide +kernel) ?_
  refine P_newI (n := 128) (N := 80) (q := 121) dX8_init_119 rfl w_arI rfl (by decide) ⟨Nat.le_of_ble_eq_true rfl, Nat.le_of_ble_eq_true rfl⟩ ?_
  refine P_putF (q := 124) (fs' := [_, _, _, _, _, _, _, _, _, _, _, _, _, _, _, _, _, _, _, _, _, _, _, _]) dX8_init_121 rfl gX8_49 rfl (by omega) (((up_ne _ _ (by omega)).trans (up_at _ _ _))) (fun _ => rfl) (fun _ => rfl) (Nat.le_of_ble_eq_true rfl) rfl rfl ?_
  refine P_aload_n (q := 125) dX8_init_124 rfl rfl ?_
  refine P_bipush (q := 127) (v := nI 30) dX8_init_125 rfl (by decide +kernel) ?_
  refine P_newI (n := 129) (N := 30) (q := 129) dX8_init_127 rfl w_arI rfl (by decide) ⟨Nat.le_of_ble_eq_true rfl, Nat.le_of_ble_eq_true rfl⟩ ?_
  refine P_putF (q := 132) (fs' := [_, _, _, _, _, _, _, _, _, _, _, _, _, _, _, _, _, _, _, _, _, _, _, _]) dX8_init_129 rfl gX8_52 rfl (by omega) (((up_ne _ _ (by omega)).trans (up_at _ _ _))) (fun _ => rfl) (fun _ => rfl) (Nat.le_of_ble_eq_true rfl) rfl rfl ?_
  refine P_aload_n (q := 133) dX8_init_132 rfl rfl ?_
  refine P_bipush (q := 135) (v := nI 30) dX8_init_133 rfl (by decide +kernel) ?_
  refine P_newI (n := 130) (N := 30) (q := 137) dX8_init_135 rfl w_arI rfl (by decide) ⟨Nat.le_of_ble_eq_true rfl, Nat.le_of_ble_eq_true rfl⟩ ?_
  refine P_putF (q := 140) (fs' := [_, _, _, _, _, _, _, _, _, _, _, _, _, _, _, _, _, _, _, _, _, _, _, _]) dX8_init_137 rfl gX8_55 rfl (by omega) (((up_ne _ _ (by omega)).trans (up_at _ _ _))) (fun _ => rfl) (fun _ => rfl) (Nat.le_of_ble_eq_true rfl) rfl rfl ?_
  refine P_aload_n (q := 141) dX8_init_140 rfl rfl ?_
  refine P_bipush (q := 143) (v := nI 60) dX8_init_141 rfl (by decide +kernel) ?_
  refine P_newI (n := 131) (N := 60) (q := 145) dX8_init_143 rfl w_arI rfl (by decide) ⟨Nat.le_of_ble_eq_true rfl, Nat.le_of_ble_eq_true rfl⟩ ?_
  refine P_putF (q := 148) (fs' := [_, _, _, _, _, _, _, _, _, _, _, _, _, _, _, _, _, _, _, _, _, _, _, _]) dX8_init_145 rfl gX8_58 rfl (by omega) (((up_ne _ _ (by omega)).trans (up_at _ _ _))) (fun _ => rfl) (fun _ => rfl) (Nat.le_of_ble_eq_true rfl) rfl rfl ?_
  generalize hσ1 : (va_up (va_up (va_up (va_up (va_up (va_up (va_up (va_up (va_up (va_up (va_up (va_up (va_up (va_up (va_up (va_up (va_up (va_up (va_up (va_up (va_up (va_up (va_up (va_up (va_up (va_up (va_up (va_up (va_up (va_up (va_up (va_up (va_up (va_up σ 115 (pI .int 46 (fun _ => 0))) 114 (pO 8 [.ref 115, .null, .null, .int 0, .null, .int 0, .null, .null, .null, .null, .null, .null, .null, .null, .null, .null, .null, .null, .int 0, .null, .int 0, .int 0, .int 0, .int 0])) 116 (pI .int 46 (fun _ => 0))) 114 (pO 8 [.ref 115, .ref 116, .null, .int 0, .null, .int 0, .null, .null, .null, .null, .null, .null, .null, .null, .null, .null, .null, .null, .int 0, .null, .int 0, .int 0, .int 0, .int 0])) 117 (pI .int 184 (fun _ => 0))) 114 (pO 8 [.ref 115, .ref 116, .ref 117, .int 0, .null, .int 0, .null, .null, .null, .null, .null, .null, .null, .null, .null, .null, .null, .null, .int 0, .null, .int 0, .int 0, .int 0, .int 0])) 118 (pI .int 46 (fun _ => 0))) 114 (pO 8 [.ref 115, .ref 116, .ref 117, .int 0, .ref 118, .int 0, .null, .null, .null, .null, .null, .null, .null, .null, .null, .null, .null, .null, .int 0, .null, .int 0, .int 0, .int 0, .int 0])) 119 (pI .int 401 (fun _ => 0))) 114 (pO 8 [.ref 115, .ref 116, .ref 117, .int 0, .ref 118, .int 0, .ref 119, .null, .null, .null, .null, .null, .null, .null, .null, .null, .null, .null, .int 0, .null, .int 0, .int 0, .int 0, .int 0])) 120 (pI .int 3208 (fun _ => 0))) 114 (pO 8 [.ref 115, .ref 116, .ref 117, .int 0, .ref 118, .int 0, .ref 119, .ref 120, .null, .null, .null, .null, .null, .null, .null, .null, .null, .null, .int 0, .null, .int 0, .int 0, .int 0, .int 0])) 121 (pI .int 3208 (fun _ => 0))) 114 (pO 8 [.ref 115, .ref 116, .ref 117, .int 0, .ref 118, .int 0, .ref 119, .ref 120, .ref 121, .null, .null, .null, .null, .null, .null, .null, .null, .null, .int 0, .null, .int 0, .int 0, .int 0, .int 0])) 122 (pI .int 248 (fun _ => 0))) 114 (pO 8 [.ref 115, .ref 116, .ref 117, .int 0, .ref 118, .int 0, .ref 119, .ref 120, .ref 121, .ref 122, .null, .null, .null, .null, .null, .null, .null, .null, .int 0, .null, .int 0, .int 0, .int 0, .int 0])) 123 (pI .int 248 (fun _ => 0))) 114 (pO 8 [.ref 115, .ref 116, .ref 117, .int 0, .ref 118, .int 0, .ref 119, .ref 120, .ref 121, .ref 122, .ref 123, .null, .null, .null, .null, .null, .null, .null, .int 0, .null, .int 0, .int 0, .int 0, .int 0])) 124 (pI .int 248 (fun _ => 0))) 114 (pO 8 [.ref 115, .ref 116, .ref 117, .int 0, .ref 118, .int 0, .ref 119, .ref 120, .ref 121, .ref 122, .ref 123, .ref 124, .null, .null, .null, .null, .null, .null, .int 0, .null, .int 0, .int 0, .int 0, .int 0])) 125 (pI .int 248 (fun _ => 0))) 114 (pO 8 [.ref 115, .ref 116, .ref 117, .int 0, .ref 118, .int 0, .ref 119, .ref 120, .ref 121, .ref 122, .ref 123, .ref 124, .ref 125, .null, .null, .null, .null, .null, .int 0, .null, .int 0, .int 0, .int 0, .int 0])) 126 (pI .int 31 (fun _ => 0))) 114 (pO 8 [.ref 115, .ref 116, .ref 117, .int 0, .ref 118, .int 0, .ref 119, .ref 120, .ref 121, .ref 122, .ref 123, .ref 124, .ref 125, .ref 126, .null, .null, .null, .null, .int 0, .null, .int 0, .int 0, .int 0, .int 0])) 127 (pI .int 31 (fun _ => 0))) 114 (pO 8 [.ref 115, .ref 116, .ref 117, .int 0, .ref 118, .int 0, .ref 119, .ref 120, .ref 121, .ref 122, .ref 123, .ref 124, .ref 125, .ref 126, .ref 127, .null, .null, .null, .int 0, .null, .int 0, .int 0, .int 0, .int 0])) 128 (pI .int 80 (fun _ => 0))) 114 (pO 8 [.ref 115, .ref 116, .ref 117, .int 0, .ref 118, .int 0, .ref 119, .ref 120, .ref 121, .ref 122, .ref 123, .ref 124, .ref 125, .ref 126, .ref 127, .ref 128, .null, .null, .int 0, .null, .int 0, .int 0, .int 0, .int 0])) 129 (pI .int 30 (fun _ => 0))) 114 (pO 8 [.ref 115, .ref 116, .ref 117, .int 0, .ref 118, .int 0, .ref 119, .ref 120, .ref 121, .ref 122, .ref 123, .ref 124, .ref 125, .ref 126, .ref 127, .ref 128, .ref 129, .null, .int 0, .null, .int 0, .int 0, .int 0, .int 0])) 130 (pI .int 30 (fun _ => 0))) 114 (pO 8 [.ref 115, .ref 116, .ref 117, .int 0, .ref 118, .int 0, .ref 119, .ref 120, .ref 121, .ref 122, .ref 123, .ref 124, .ref 125, .ref 126, .ref 127, .ref 128, .ref 129, .ref 130, .int 0, .null, .int 0, .int 0, .int 0, .int 0])) 131 (pI .int 60 (fun _ => 0))) 114 (pO 8 [.ref 115, .ref 116, .ref 117, .int 0, .ref 118, .int 0, .ref 119, .ref 120, .ref 121, .ref 122, .ref 123, .ref 124, .ref 125, .ref 126, .ref 127, .ref 128, .ref 129, .ref 130, .int 0, .ref 131, .int 0, .int 0, .int 0, .int 0])) = σ1
  have e114 : σ1 114 = moO 0 0 (nI 0) 0 (nI 0) (nI 0) (nI 0) := by rw [← hσ1]; exact (up_at _ _ _)
  have hs : same σ σ1 (fun i => 114 ≤ i) := fun k hk => by rw [← hσ1]; exact (up_ne _ _ (by omega)).trans ((up_ne _ _ (by omega)).trans ((up_ne _ _ (by omega)).trans ((up_ne _ _ (by omega)).trans ((up_ne _ _ (by omega)).trans ((up_ne _ _ (by omega)).trans ((up_ne _ _ (by omega)).trans ((up_ne _ _ (by omega)).trans ((up_ne _ _ (by omega)).trans ((up_ne _ _ (by omega)).trans ((up_ne _ _ (by omega)).trans ((up_ne _ _ (by omega)).trans ((up_ne _ _ (by omega)).trans ((up_ne _ _ (by omega)).trans ((up_ne _ _ (by omega)).trans ((up_ne _ _ (by omega)).trans ((up_ne _ _ (by omega)).trans ((up_ne _ _ (by omega)).trans ((up_ne _ _ (by omega)).trans ((up_ne _ _ (by omega)).trans ((up_ne _ _ (by omega)).trans ((up_ne _ _ (by omega)).trans ((up_ne _ _ (by omega)).trans ((up_ne _ _ (by omega)).trans ((up_ne _ _ (by omega)).trans ((up_ne _ _ (by omega)).trans ((up_ne _ _ (by omega)).trans ((up_ne _ _ (by omega)).trans ((up_ne _ _ (by omega)).trans ((up_ne _ _ (by omega)).trans ((up_ne _ _ (by omega)).trans ((up_ne _ _ (by omega)).trans ((up_ne _ _ (by omega)).trans ((up_ne _ _ (by omega)).trans (rfl))))))))))))))))))))))))))))))))))
  have e115 : σ1 115 = pI .int 46 (fun _ => 0) := by rw [← hσ1]; exact ((up_ne _ _ (by omega)).trans ((up_ne _ _ (by omega)).trans ((up_ne _ _ (by omega)).trans ((up_ne _ _ (by omega)).trans ((up_ne _ _ (by omega)).trans ((up_ne _ _ (by omega)).trans ((up_ne _ _ (by omega)).trans ((up_ne _ _ (by omega)).trans ((up_ne _ _ (by omega)).trans ((up_ne _ _ (by omega)).trans ((up_ne _ _ (by omega)).trans ((up_ne _ _ (by omega)).trans ((up_ne _ _ (by omega)).trans ((up_ne _ _ (by omega)).trans ((up_ne _ _ (by omega)).trans ((up_ne _ _ (by omega)).trans ((up_ne _ _ (by omega)).trans ((up_ne _ _ (by omega)).trans ((up_ne _ _ (by omega)).trans ((up_ne _ _ (by omega)).trans ((up_ne _ _ (by omega)).trans ((up_ne _ _ (by omega)).trans ((up_ne _ _ (by omega)).trans ((up_ne _ _ (by omega)).trans ((up_ne _ _ (by omega)).trans ((up_ne _ _ (by omega)).trans ((up_ne _ _ (by omega)).trans ((up_ne _ _ (by omega)).trans ((up_ne _ _ (by omega)).trans ((up_ne _ _ (by omega)).trans ((up_ne _ _ (by omega)).trans ((up_ne _ _ (by omega)).trans ((up_ne _ _ (by omega)).trans (up_at _ _ _))))))))))))))))))))))))))))))))))
  have e116 : σ1 116 = pI .int 46 (fun _ => 0) := by rw [← hσ1]; exact ((up_ne _ _ (by omega)).trans ((up_ne _ _ (by omega)).trans ((up_ne _ _ (by omega)).trans ((up_ne _ _ (by omega)).trans ((up_ne _ _ (by omega)).trans ((up_ne _ _ (by omega)).trans ((up_ne _ _ (by omega)).trans ((up_ne _ _ (by omega)).trans ((up_ne _ _ (by omega)).trans ((up_ne _ _ (by omega)).trans ((up_ne _ _ (by omega)).trans ((up_ne _ _ (by omega)).trans ((up_ne _ _ (by omega)).trans ((up_ne _ _ (by omega)).trans ((up_ne _ _ (by omega)).trans ((up_ne _ _ (by omega)).trans ((up_ne _ _ (by omega)).trans ((up_ne _ _ (by omega)).trans ((up_ne _ _ (by omega)).trans ((up_ne _ _ (by omega)).trans ((up_ne _ _ (by omega)).trans ((up_ne _ _ (by omega)).trans ((up_ne _ _ (by omega)).trans ((up_ne _ _ (by omega)).trans ((up_ne _ _ (by omega)).trans ((up_ne _ _ (by omega)).trans ((up_ne _ _ (by omega)).trans ((up_ne _ _ (by omega)).trans ((up_ne _ _ (by omega)).trans ((up_ne _ _ (by omega)).trans ((up_ne _ _ (by omega)).trans (up_at _ _ _))))))))))))))))))))))))))))))))
  have e117 : σ1 117 = pI .int 184 (fun _ => 0) := by rw [← hσ1]; exact ((up_ne _ _ (by omega)).trans ((up_ne _ _ (by omega)).trans ((up_ne _ _ (by omega)).trans ((up_ne _ _ (by omega)).trans ((up_ne _ _ (by omega)).trans ((up_ne _ _ (by omega)).trans ((up_ne _ _ (by omega)).trans ((up_ne _ _ (by omega)).trans ((up_ne _ _ (by omega)).trans ((up_ne _ _ (by omega)).trans ((up_ne _ _ (by omega)).trans ((up_ne _ _ (by omega)).trans ((up_ne _ _ (by omega)).trans ((up_ne _ _ (by omega)).trans ((up_ne _ _ (by omega)).trans ((up_ne _ _ (by omega)).trans ((up_ne _ _ (by omega)).trans ((up_ne _ _ (by omega)).trans ((up_ne _ _ (by omega)).trans ((up_ne _ _ (by omega)).trans ((up_ne _ _ (by omega)).trans ((up_ne _ _ (by omega)).trans ((up_ne _ _ (by omega)).trans ((up_ne _ _ (by omega)).trans ((up_ne _ _ (by omega)).trans ((up_ne _ _ (by omega)).trans ((up_ne _ _ (by omega)).trans ((up_ne _ _ (by omega)).trans ((up_ne _ _ (by omega)).trans (up_at _ _ _))))))))))))))))))))))))))))))
  have e118 : σ1 118 = pI .int 46 (fun _ => 0) := by rw [← hσ1]; exact ((up_ne _ _ (by omega)).trans ((up_ne _ _ (by omega)).trans ((up_ne _ _ (by omega)).trans ((up_ne _ _ (by omega)).trans ((up_ne _ _ (by omega)).trans ((up_ne _ _ (by omega)).trans ((up_ne _ _ (by omega)).trans ((up_ne _ _ (by omega)).trans ((up_ne _ _ (by omega)).trans ((up_ne _ _ (by omega)).trans ((up_ne _ _ (by omega)).trans ((up_ne _ _ (by omega)).trans ((up_ne _ _ (by omega)).trans ((up_ne _ _ (by omega)).trans ((up_ne _ _ (by omega)).trans ((up_ne _ _ (by omega)).trans ((up_ne _ _ (by omega)).trans ((up_ne _ _ (by omega)).trans ((up_ne _ _ (by omega)).trans ((up_ne _ _ (by omega)).trans ((up_ne _ _ (by omega)).trans ((up_ne _ _ (by omega)).trans ((up_ne _ _ (by omega)).trans ((up_ne _ _ (by omega)).trans ((up_ne _ _ (by omega)).trans ((up_ne _ _ (by omega)).trans ((up_ne _ _ (by omega)).trans (up_at _ _ _))))))))))))))))))))))))))))
  have e119 : σ1 119 = pI .int 401 (fun _ => 0) := by rw [← hσ1]; exact ((up_ne _ _ (by omega)).trans ((up_ne _ _ (by omega)).trans ((up_ne _ _ (by omega)).trans ((up_ne _ _ (by omega)).trans ((up_ne _ _ (by omega)).trans ((up_ne _ _ (by omega)).trans ((up_ne _ _ (by omega)).trans ((up_ne _ _ (by omega)).trans ((up_ne _ _ (by omega)).trans ((up_ne _ _ (by omega)).trans ((up_ne _ _ (by omega)).trans ((up_ne _ _ (by omega)).trans ((up_ne _ _ (by omega)).trans ((up_ne _ _ (by omega)).trans ((up_ne _ _ (by omega)).trans ((up_ne _ _ (by omega)).trans ((up_ne _ _ (by omega)).trans ((up_ne _ _ (by omega)).trans ((up_ne _ _ (by omega)).trans ((up_ne _ _ (by omega)).trans ((up_ne _ _ (by omega)).trans ((up_ne _ _ (by omega)).trans ((up_ne _ _ (by omega)).trans ((up_ne _ _ (by omega)).trans ((up_ne _ _ (by omega)).trans (up_at _ _ _))))))))))))))))))))))))))
  have e120 : σ1 120 = pI .int 3208 (fun _ => 0) := by rw [← hσ1]; exact ((up_ne _ _ (by omega)).trans ((up_ne _ _ (by omega)).trans ((up_ne _ _ (by omega)).trans ((up_ne _ _ (by omega)).trans ((up_ne _ _ (by omega)).trans ((up_ne _ _ (by omega)).trans ((up_ne _ _ (by omega)).trans ((up_ne _ _ (by omega)).trans ((up_ne _ _ (by omega)).trans ((up_ne _ _ (by omega)).trans ((up_ne _ _ (by omega)).trans ((up_ne _ _ (by omega)).trans ((up_ne _ _ (by omega)).trans ((up_ne _ _ (by omega)).trans ((up_ne _ _ (by omega)).trans ((up_ne _ _ (by omega)).trans ((up_ne _ _ (by omega)).trans ((up_ne _ _ (by omega)).trans ((up_ne _ _ (by omega)).trans ((up_ne _ _ (by omega)).trans ((up_ne _ _ (by omega)).trans ((up_ne _ _ (by omega)).trans ((up_ne _ _ (by omega)).trans (up_at _ _ _))))))))))))))))))))))))
  have e121 : σ1 121 = pI .int 3208 (fun _ => 0) := by rw [← hσ1]; exact ((up_ne _ _ (by omega)).trans ((up_ne _ _ (by omega)).trans ((up_ne _ _ (by omega)).trans ((up_ne _ _ (by omega)).trans ((up_ne _ _ (by omega)).trans ((up_ne _ _ (by omega)).trans ((up_ne _ _ (by omega)).trans ((up_ne _ _ (by omega)).trans ((up_ne _ _ (by omega)).trans ((up_ne _ _ (by omega)).trans ((up_ne _ _ (by omega)).trans ((up_ne _ _ (by omega)).trans ((up_ne _ _ (by omega)).trans ((up_ne _ _ (by omega)).trans ((up_ne _ _ (by omega)).trans ((up_ne _ _ (by omega)).trans ((up_ne _ _ (by omega)).trans ((up_ne _ _ (by omega)).trans ((up_ne _ _ (by omega)).trans ((up_ne _ _ (by omega)).trans ((up_ne _ _ (by omega)).trans (up_at _ _ _))))))))))))))))))))))
  have e122 : σ1 122 = pI .int 248 (fun _ => 0) := by rw [← hσ1]; exact ((up_ne _ _ (by omega)).trans ((up_ne _ _ (by omega)).trans ((up_ne _ _ (by omega)).trans ((up_ne _ _ (by omega)).trans ((up_ne _ _ (by omega)).trans ((up_ne _ _ (by omega)).trans ((up_ne _ _ (by omega)).trans ((up_ne _ _ (by omega)).trans ((up_ne _ _ (by omega)).trans ((up_ne _ _ (by omega)).trans ((up_ne _ _ (by omega)).trans ((up_ne _ _ (by omega)).trans ((up_ne _ _ (by omega)).trans ((up_ne _ _ (by omega)).trans ((up_ne _ _ (by omega)).trans ((up_ne _ _ (by omega)).trans ((up_ne _ _ (by omega)).trans ((up_ne _ _ (by omega)).trans ((up_ne _ _ (by omega)).trans (up_at _ _ _))))))))))))))))))))
  have e123 : σ1 123 = pI .int 248 (fun _ => 0) := by rw [← hσ1]; exact ((up_ne _ _ (by omega)).trans ((up_ne _ _ (by omega)).trans ((up_ne _ _ (by omega)).trans ((up_ne _ _ (by omega)).trans ((up_ne _ _ (by omega)).trans ((up_ne _ _ (by omega)).trans ((up_ne _ _ (by omega)).trans ((up_ne _ _ (by omega)).trans ((up_ne _ _ (by omega)).trans ((up_ne _ _ (by omega)).trans ((up_ne _ _ (by omega)).trans ((up_ne _ _ (by omega)).trans ((up_ne _ _ (by omega)).trans ((up_ne _ _ (by omega)).trans ((up_ne _ _ (by omega)).trans ((up_ne _ _ (by omega)).trans ((up_ne _ _ (by omega)).trans (up_at _ _ _))))))))))))))))))
  have e124 : σ1 124 = pI .int 248 (fun _ => 0) := by rw [← hσ1]; exact ((up_ne _ _ (by omega)).trans ((up_ne _ _ (by omega)).trans ((up_ne _ _ (by omega)).trans ((up_ne _ _ (by omega)).trans ((up_ne _ _ (by omega)).trans ((up_ne _ _ (by omega)).trans ((up_ne _ _ (by omega)).trans ((up_ne _ _ (by omega)).trans ((up_ne _ _ (by omega)).trans ((up_ne _ _ (by omega)).trans ((up_ne _ _ (by omega)).trans ((up_ne _ _ (by omega)).trans ((up_ne _ _ (by omega)).trans ((up_ne _ _ (by omega)).trans ((up_ne _ _ (by omega)).trans (up_at _ _ _))))))))))))))))
  have e125 : σ1 125 = pI .int 248 (fun _ => 0) := by rw [← hσ1]; exact ((up_ne _ _ (by omega)).trans ((up_ne _ _ (by omega)).trans ((up_ne _ _ (by omega)).trans ((up_ne _ _ (by omega)).trans ((up_ne _ _ (by omega)).trans ((up_ne _ _ (by omega)).trans ((up_ne _ _ (by omega)).trans ((up_ne _ _ (by omega)).trans ((up_ne _ _ (by omega)).trans ((up_ne _ _ (by omega)).trans ((up_ne _ _ (by omega)).trans ((up_ne _ _ (by omega)).trans ((up_ne _ _ (by omega)).trans (up_at _ _ _))))))))))))))
  have e126 : σ1 126 = pI .int 31 (fun _ => 0) := by rw [← hσ1]; exact ((up_ne _ _ (by omega)).trans ((up_ne _ _ (by omega)).trans ((up_ne _ _ (by omega)).trans ((up_ne _ _ (by omega)).trans ((up_ne _ _ (by omega)).trans ((up_ne _ _ (by omega)).trans ((up_ne _ _ (by omega)).trans ((up_ne _ _ (by omega)).trans ((up_ne _ _ (by omega)).trans ((up_ne _ _ (by omega)).trans ((up_ne _ _ (by omega)).trans (up_at _ _ _))))))))))))
  have e127 : σ1 127 = pI .int 31 (fun _ => 0) := by rw [← hσ1]; exact ((up_ne _ _ (by omega)).trans ((up_ne _ _ (by omega)).trans ((up_ne _ _ (by omega)).trans ((up_ne _ _ (by omega)).trans ((up_ne _ _ (by omega)).trans ((up_ne _ _ (by omega)).trans ((up_ne _ _ (by omega)).trans ((up_ne _ _ (by omega)).trans ((up_ne _ _ (by omega)).trans (up_at _ _ _))))))))))
  have e128 : σ1 128 = pI .int 80 (fun _ => 0) := by rw [← hσ1]; exact ((up_ne _ _ (by omega)).trans ((up_ne _ _ (by omega)).trans ((up_ne _ _ (by omega)).trans ((up_ne _ _ (by omega)).trans ((up_ne _ _ (by omega)).trans ((up_ne _ _ (by omega)).trans ((up_ne _ _ (by omega)).trans (up_at _ _ _))))))))
  have e129 : σ1 129 = pI .int 30 (fun _ => 0) := by rw [← hσ1]; exact ((up_ne _ _ (by omega)).trans ((up_ne _ _ (by omega)).trans ((up_ne _ _ (by omega)).trans ((up_ne _ _ (by omega)).trans ((up_ne _ _ (by omega)).trans (up_at _ _ _))))))
  have e130 : σ1 130 = pI .int 30 (fun _ => 0) := by rw [← hσ1]; exact ((up_ne _ _ (by omega)).trans ((up_ne _ _ (by omega)).trans ((up_ne _ _ (by omega)).trans (up_at _ _ _))))
  have e131 : σ1 131 = pI .int 60 (fun _ => 0) := by rw [← hσ1]; exact ((up_ne _ _ (by omega)).trans (up_at _ _ _))
  have u0 : ∀ c, va_up σ1 115 c 114 = moO 0 0 (nI 0) 0 (nI 0) (nI 0) (nI 0) := fun c => (up_ne _ _ (by omega)).trans e114
  refine P_aload_n (q := 149) dX8_init_148 rfl rfl ?_
  refine P_get (q := 152) dX8_init_149 rfl fX8_7 (by decide) (e114) rfl ?_
  refine P_iconst (q := 153) (v := nI 3) dX8_init_152 rfl (by decide +kernel) ?_
  refine P_iconst (q := 154) (v := nI 1) dX8_init_153 rfl (by decide +kernel) ?_
  refine P_iast (q := 155) (j := 3) (f' := upd (fun _ => 0) 3 (nI 1)) dX8_init_154 rfl (by decide) (e115) (rfl) (by omega) (by decide) (rfl) (rfl) ?_
  refine P_aload_n (q := 156) dX8_init_155 rfl rfl ?_
  refine P_get (q := 159) dX8_init_156 rfl fX8_7 (by decide) (u0 _) rfl ?_
  refine P_iconst (q := 160) (v := nI 4) dX8_init_159 rfl (by decide +kernel) ?_
  refine P_iconst (q := 161) (v := nI 1) dX8_init_160 rfl (by decide +kernel) ?_
  refine P_iast (q := 162) (j := 4) (f' := upd (upd (fun _ => 0) 3 (nI 1)) 4 (nI 1)) (σ' := va_up σ1 115 (pI .int 46 (upd (upd (fun _ => 0) 3 (nI 1)) 4 (nI 1)))) dX8_init_161 rfl (by decide) (up_at _ _ _) (rfl) (by omega) (by decide) (rfl) (up_up _ _ _ _) ?_
  refine P_aload_n (q := 163) dX8_init_162 rfl rfl ?_
  refine P_bipush (q := 165) (v := nI 6) dX8_init_163 rfl (by decide +kernel) ?_
  refine P_iconst (q := 166) (v := nI 2) dX8_init_165 rfl (by decide +kernel) ?_
  refine P_cv0 (q := 169) dX8_init_166 rfl kX8_61 (m_lays ⟨_, _, _, _, _, _, _, u0 _⟩ (up_at _ _ _) (c := 6) (r := 2) (by decide) (by decide)) rfl rfl (by decide) (u0 _) rfl ⟨by decide, by decide⟩ (Nat.le_of_ble_eq_true rfl) ⟨Nat.le_refl _, Nat.le_refl _⟩ ?_
  rw [up_up]
  refine P_vret dX8_init_169 rfl ?_
  refine ⟨rfl, hs.up (by omega), ⟨nI 0, nI 0, nI 0, nI 0, u0 _⟩, ⟨A0_ok, _, up_at _ _ _, ?_⟩, fun k h1 h2 => ?_, by decide, ⟨_, (up_ne _ _ (by omega)).trans e117, fun i hi => absurd hi (Nat.not_lt_zero i)⟩, (fun B hB => by cases hB), by decide, _, (up_ne _ _ (by omega)).trans e131, fun i hi => absurd hi (Nat.not_lt_zero i)⟩
  · have h0 : RA (upd (upd (fun _ => 0) 3 (nI 1)) 4 (nI 1)) ((0, 0, 0, 1, 1, fun _ => 0, fun _ _ => 0, 0) : St) := ⟨rfl, rfl, rfl, rfl, rfl, rfl, fun c hc => by
      unfold upd
      rw [if_neg (by omega), if_neg (by omega)]; rfl, fun c r hc hr => absurd hc (Nat.not_lt_zero c)⟩
    exact RA_ly (c := 6) (r := 2) (q := 0) h0 (by decide) (by decide) rfl
  · by_cases e : k = 115
    · subst e; exact ⟨_, up_at _ _ _⟩
    · rcases (show k = 116 ∨ k = 117 ∨ k = 118 ∨ k = 119 ∨ k = 120 ∨ k = 121 ∨ k = 122 ∨ k = 123 ∨ k = 124 ∨ k = 125 ∨ k = 126 ∨ k = 127 ∨ k = 128 ∨ k = 129 ∨ k = 130 ∨ k = 131 by omega) with rfl | rfl | rfl | rfl | rfl | rfl | rfl | rfl | rfl | rfl | rfl | rfl | rfl | rfl | rfl | rfl <;> exact ⟨_, (up_ne _ _ (by omega)).trans (by assumption)⟩
