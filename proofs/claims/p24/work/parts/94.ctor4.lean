/-! CONSTRUCTORS: the class, the reference -/
def w0 : Cs := (A0, [], none, 0, fun _ => 0)
set_option maxRecDepth 100000 in
set_option maxHeartbeats 4000000 in
theorem c_class {σ : Sto} (hb : σ 0 = pO 7 [.null, .null, .null, .null, .int 0, .null]) : CP mX7_init 113 4830 [.ref 0] 1 σ (fun v σ' => v = none ∧ CW σ' w0) := by
  refine CP_of (by decide +kernel) (Nat.le_of_ble_eq_true rfl) ?_
  change PW _ _ _ _ 0 [_] [] _ _ _ _
  refine P_aload_n (q := 1) dX7_init_0 rfl rfl ?_
  refine P_objinit (q := 4) dX7_init_1 rfl kX7_3 w_oi1 w_oi2 (by decide) (by decide) ?_
  refine P_aload_n (q := 5) dX7_init_4 rfl rfl ?_
  refine P_new (n := 1) (q := 8) dX7_init_5 rfl nX7_9 (fun _ => rfl) ⟨Nat.le_of_ble_eq_true rfl, Nat.le_of_ble_eq_true rfl⟩ ?_
  refine P_dup (q := 9) dX7_init_8 rfl rfl ?_
  refine P_calli (q := 12) dX7_init_9 rfl (c_strip (b := 1) (up_at _ _ _)) kX7_11 rfl rfl ⟨by decide, by decide⟩ (Nat.le_of_ble_eq_true rfl) ⟨Nat.le_of_ble_eq_true rfl, Nat.le_of_ble_eq_true rfl⟩ ?_
  rintro v1 σ1 ⟨rfl, t1, q1⟩
  have f1_0 : σ1 0 = pO 7 [.null, .null, .null, .null, .int 0, .null] := (t1 0 (by omega)).trans ((up_ne _ _ (by omega)).trans hb)
  have l1 : same σ σ1 (fun i => 0 ≤ i) := fun k hk => (t1 k (by omega)).trans ((up_ne _ _ (by omega)).trans (rfl))
  refine P_putF (q := 15) (fs' := [_, _, _, _, _, _]) dX7_init_12 rfl gX7_12 rfl (by omega) (f1_0) (fun _ => rfl) (fun _ => rfl) (Nat.le_of_ble_eq_true rfl) rfl rfl ?_
  refine P_aload_n (q := 16) dX7_init_15 rfl rfl ?_
  refine P_new (n := 3) (q := 19) dX7_init_16 rfl nX7_16 (fun _ => rfl) ⟨Nat.le_of_ble_eq_true rfl, Nat.le_of_ble_eq_true rfl⟩ ?_
  refine P_dup (q := 20) dX7_init_19 rfl rfl ?_
  refine P_calli (q := 23) dX7_init_20 rfl (c_all (up_at _ _ _)) kX7_18 rfl rfl ⟨by decide, by decide⟩ (Nat.le_of_ble_eq_true rfl) ⟨Nat.le_of_ble_eq_true rfl, Nat.le_of_ble_eq_true rfl⟩ ?_
  rintro v2 σ2 ⟨rfl, t2, qA⟩
  have f2_0 : σ2 0 = pO 7 [.ref 1, .null, .null, .null, .int 0, .null] := (t2 0 (by omega)).trans ((up_ne _ _ (by omega)).trans (up_at _ _ _))
  have l2 : same σ σ2 (fun i => 0 ≤ i) := fun k hk => (t2 k (by omega)).trans ((up_ne _ _ (by omega)).trans ((up_ne _ _ (by omega)).trans (l1 k hk)))
  have q1_2 := q1.congr ((t2 1 (by omega)).trans ((up_ne _ _ (by omega)).trans ((up_ne _ _ (by omega)).trans (rfl)))) ((t2 2 (by omega)).trans ((up_ne _ _ (by omega)).trans ((up_ne _ _ (by omega)).trans (rfl))))
  refine P_putF (q := 26) (fs' := [_, _, _, _, _, _]) dX7_init_23 rfl gX7_19 rfl (by omega) (f2_0) (fun _ => rfl) (fun _ => rfl) (Nat.le_of_ble_eq_true rfl) rfl rfl ?_
  refine P_aload_n (q := 27) dX7_init_26 rfl rfl ?_
  refine P_new (n := 100) (q := 30) dX7_init_27 rfl nX7_23 (fun _ => rfl) ⟨Nat.le_of_ble_eq_true rfl, Nat.le_of_ble_eq_true rfl⟩ ?_
  refine P_dup (q := 31) dX7_init_30 rfl rfl ?_
  refine P_calli (q := 34) dX7_init_31 rfl (c_hist (up_at _ _ _)) kX7_25 rfl rfl ⟨by decide, by decide⟩ (Nat.le_of_ble_eq_true rfl) ⟨Nat.le_of_ble_eq_true rfl, Nat.le_of_ble_eq_true rfl⟩ ?_
  rintro v3 σ3 ⟨rfl, t3, qH⟩
  have f3_0 : σ3 0 = pO 7 [.ref 1, .ref 3, .null, .null, .int 0, .null] := (t3 0 (by omega)).trans ((up_ne _ _ (by omega)).trans (up_at _ _ _))
  have l3 : same σ σ3 (fun i => 0 ≤ i) := fun k hk => (t3 k (by omega)).trans ((up_ne _ _ (by omega)).trans ((up_ne _ _ (by omega)).trans (l2 k hk)))
  have q1_3 := q1_2.congr ((t3 1 (by omega)).trans ((up_ne _ _ (by omega)).trans ((up_ne _ _ (by omega)).trans (rfl)))) ((t3 2 (by omega)).trans ((up_ne _ _ (by omega)).trans ((up_ne _ _ (by omega)).trans (rfl))))
  have qA_3 := (fun A => (qA A).congr (fun k a b => (t3 k (by omega)).trans ((up_ne _ _ (by omega)).trans ((up_ne _ _ (by omega)).trans (rfl)))))
  refine P_putF (q := 37) (fs' := [_, _, _, _, _, _]) dX7_init_34 rfl gX7_26 rfl (by omega) (f3_0) (fun _ => rfl) (fun _ => rfl) (Nat.le_of_ble_eq_true rfl) rfl rfl ?_
  refine P_aload_n (q := 38) dX7_init_37 rfl rfl ?_
  refine P_new (n := 110) (q := 41) dX7_init_38 rfl nX7_9 (fun _ => rfl) ⟨Nat.le_of_ble_eq_true rfl, Nat.le_of_ble_eq_true rfl⟩ ?_
  refine P_dup (q := 42) dX7_init_41 rfl rfl ?_
  refine P_calli (q := 45) dX7_init_42 rfl (c_strip (b := 110) (up_at _ _ _)) kX7_11 rfl rfl ⟨by decide, by decide⟩ (Nat.le_of_ble_eq_true rfl) ⟨Nat.le_of_ble_eq_true rfl, Nat.le_of_ble_eq_true rfl⟩ ?_
  rintro v4 σ4 ⟨rfl, t4, q110⟩
  have f4_0 : σ4 0 = pO 7 [.ref 1, .ref 3, .ref 100, .null, .int 0, .null] := (t4 0 (by omega)).trans ((up_ne _ _ (by omega)).trans (up_at _ _ _))
  have l4 : same σ σ4 (fun i => 0 ≤ i) := fun k hk => (t4 k (by omega)).trans ((up_ne _ _ (by omega)).trans ((up_ne _ _ (by omega)).trans (l3 k hk)))
  have q1_4 := q1_3.congr ((t4 1 (by omega)).trans ((up_ne _ _ (by omega)).trans ((up_ne _ _ (by omega)).trans (rfl)))) ((t4 2 (by omega)).trans ((up_ne _ _ (by omega)).trans ((up_ne _ _ (by omega)).trans (rfl))))
  have qA_4 := (fun A => (qA_3 A).congr (fun k a b => (t4 k (by omega)).trans ((up_ne _ _ (by omega)).trans ((up_ne _ _ (by omega)).trans (rfl)))))
  have qH_4 := qH.congr (fun k a b => (t4 k (by omega)).trans ((up_ne _ _ (by omega)).trans ((up_ne _ _ (by omega)).trans (rfl))))
  refine P_putF (q := 48) (fs' := [_, _, _, _, _, _]) dX7_init_45 rfl gX7_30 rfl (by omega) (f4_0) (fun _ => rfl) (fun _ => rfl) (Nat.le_of_ble_eq_true rfl) rfl rfl ?_
  refine P_aload_n (q := 49) dX7_init_48 rfl rfl ?_
  refine P_iconst (q := 50) (v := nI 0) dX7_init_49 rfl (by decide +kernel) ?_
  refine P_put (q := 53) (fs' := [_, _, _, _, _, _]) dX7_init_50 rfl gX7_33 (by omega) ((up_at _ _ _)) (fun _ => rfl) (fun _ => rfl) (Nat.le_of_ble_eq_true rfl) rfl rfl ?_
  refine P_aload_n (q := 54) dX7_init_53 rfl rfl ?_
  refine P_new (n := 112) (q := 57) dX7_init_54 rfl nX7_37 (fun _ => rfl) ⟨Nat.le_of_ble_eq_true rfl, Nat.le_of_ble_eq_true rfl⟩ ?_
  refine P_dup (q := 58) dX7_init_57 rfl rfl ?_
  refine P_calli (q := 61) dX7_init_58 rfl (c_text (up_at _ _ _)) kX7_39 rfl rfl ⟨by decide, by decide⟩ (Nat.le_of_ble_eq_true rfl) ⟨Nat.le_of_ble_eq_true rfl, Nat.le_of_ble_eq_true rfl⟩ ?_
  rintro v5 σ5 ⟨rfl, t5, qT⟩
  have f5_0 : σ5 0 = pO 7 [.ref 1, .ref 3, .ref 100, .ref 110, .int (nI 0), .null] := (t5 0 (by omega)).trans ((up_ne _ _ (by omega)).trans (up_at _ _ _))
  have l5 : same σ σ5 (fun i => 0 ≤ i) := fun k hk => (t5 k (by omega)).trans ((up_ne _ _ (by omega)).trans ((up_ne _ _ (by omega)).trans ((up_ne _ _ (by omega)).trans (l4 k hk))))
  have q1_5 := q1_4.congr ((t5 1 (by omega)).trans ((up_ne _ _ (by omega)).trans ((up_ne _ _ (by omega)).trans ((up_ne _ _ (by omega)).trans (rfl))))) ((t5 2 (by omega)).trans ((up_ne _ _ (by omega)).trans ((up_ne _ _ (by omega)).trans ((up_ne _ _ (by omega)).trans (rfl)))))
  have qA_5 := (fun A => (qA_4 A).congr (fun k a b => (t5 k (by omega)).trans ((up_ne _ _ (by omega)).trans ((up_ne _ _ (by omega)).trans ((up_ne _ _ (by omega)).trans (rfl))))))
  have qH_5 := qH_4.congr (fun k a b => (t5 k (by omega)).trans ((up_ne _ _ (by omega)).trans ((up_ne _ _ (by omega)).trans ((up_ne _ _ (by omega)).trans (rfl)))))
  have q110_5 := q110.congr ((t5 110 (by omega)).trans ((up_ne _ _ (by omega)).trans ((up_ne _ _ (by omega)).trans ((up_ne _ _ (by omega)).trans (rfl))))) ((t5 111 (by omega)).trans ((up_ne _ _ (by omega)).trans ((up_ne _ _ (by omega)).trans ((up_ne _ _ (by omega)).trans (rfl)))))
  refine P_putF (q := 64) (fs' := [_, _, _, _, _, _]) dX7_init_61 rfl gX7_40 rfl (by omega) (f5_0) (fun _ => rfl) (fun _ => rfl) (Nat.le_of_ble_eq_true rfl) rfl rfl ?_
  refine P_vret dX7_init_64 rfl ?_
  exact ⟨rfl, (up_at _ _ _), q1_5.congr ((up_ne _ _ (by omega)).trans (rfl)) ((up_ne _ _ (by omega)).trans (rfl)), (fun A => (qA_5 A).congr (fun k a b => (up_ne _ _ (by omega)).trans (rfl))) A0, qH_5.congr (fun k a b => (up_ne _ _ (by omega)).trans (rfl)), ⟨A0, q110_5.congr ((up_ne _ _ (by omega)).trans (rfl)) ((up_ne _ _ (by omega)).trans (rfl)), fun C hC => by cases hC⟩, ⟨qT.1, qT.2.1, by obtain ⟨c, r, u, g, e1, e2, e3⟩ := qT.2.2; exact ⟨c, r, u, g, (up_ne _ _ (by omega)).trans (e1), (up_ne _ _ (by omega)).trans (e2), e3⟩⟩⟩
