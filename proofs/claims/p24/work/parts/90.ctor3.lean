/-! CONSTRUCTORS: all strips, the history, the class, the reference -/
set_option maxRecDepth 100000 in
set_option maxHeartbeats 4000000 in
theorem c_all {σ : Sto} (hb : σ 3 = pO 0 [.null, .null, .null, .null, .null, .null, .null, .int 0, .int 0, .int 0, .int 0, .int 0]) : CP mX0_init 96 4452 [.ref 3] 4 σ (fun v σ' => v = none ∧ same σ σ' (fun i => 3 ≤ i) ∧ ∀ A, AW σ' A) := by
  refine CP_of (by decide +kernel) (Nat.le_of_ble_eq_true rfl) ?_
  change PW _ _ _ _ 0 [_] [] _ _ _ _
  refine P_aload_n (q := 1) dX0_init_0 rfl rfl ?_
  refine P_objinit (q := 4) dX0_init_1 rfl kX0_3 w_oi1 w_oi2 (by decide) (by decide) ?_
  refine P_aload_n (q := 5) dX0_init_4 rfl rfl ?_
  refine P_new (n := 4) (q := 8) dX0_init_5 rfl nX0_9 (fun _ => rfl) ⟨Nat.le_of_ble_eq_true rfl, Nat.le_of_ble_eq_true rfl⟩ ?_
  refine P_dup (q := 9) dX0_init_8 rfl rfl ?_
  refine P_calli (q := 12) dX0_init_9 rfl (c_prices (b := 4) (up_at _ _ _)) kX0_11 rfl rfl ⟨by decide, by decide⟩ (Nat.le_of_ble_eq_true rfl) ⟨Nat.le_of_ble_eq_true rfl, Nat.le_of_ble_eq_true rfl⟩ ?_
  rintro v1 σ1 ⟨rfl, t1, q4⟩
  have f1_3 : σ1 3 = pO 0 [.null, .null, .null, .null, .null, .null, .null, .int 0, .int 0, .int 0, .int 0, .int 0] := (t1 3 (by omega)).trans ((up_ne _ _ (by omega)).trans hb)
  have l1 : same σ σ1 (fun i => 3 ≤ i) := fun k hk => (t1 k (by omega)).trans ((up_ne _ _ (by omega)).trans (rfl))
  refine P_putF (q := 15) (fs' := [_, _, _, _, _, _, _, _, _, _, _, _]) dX0_init_12 rfl gX0_12 rfl (by omega) (f1_3) (fun _ => rfl) (fun _ => rfl) (Nat.le_of_ble_eq_true rfl) rfl rfl ?_
  refine P_aload_n (q := 16) dX0_init_15 rfl rfl ?_
  refine P_new (n := 26) (q := 19) dX0_init_16 rfl nX0_9 (fun _ => rfl) ⟨Nat.le_of_ble_eq_true rfl, Nat.le_of_ble_eq_true rfl⟩ ?_
  refine P_dup (q := 20) dX0_init_19 rfl rfl ?_
  refine P_calli (q := 23) dX0_init_20 rfl (c_prices (b := 26) (up_at _ _ _)) kX0_11 rfl rfl ⟨by decide, by decide⟩ (Nat.le_of_ble_eq_true rfl) ⟨Nat.le_of_ble_eq_true rfl, Nat.le_of_ble_eq_true rfl⟩ ?_
  rintro v2 σ2 ⟨rfl, t2, q26⟩
  have f2_3 : σ2 3 = pO 0 [.ref 4, .null, .null, .null, .null, .null, .null, .int 0, .int 0, .int 0, .int 0, .int 0] := (t2 3 (by omega)).trans ((up_ne _ _ (by omega)).trans (up_at _ _ _))
  have l2 : same σ σ2 (fun i => 3 ≤ i) := fun k hk => (t2 k (by omega)).trans ((up_ne _ _ (by omega)).trans ((up_ne _ _ (by omega)).trans (l1 k hk)))
  have q4_2 := q4.congr (fun k a b => (t2 k (by omega)).trans ((up_ne _ _ (by omega)).trans ((up_ne _ _ (by omega)).trans (rfl))))
  refine P_putF (q := 26) (fs' := [_, _, _, _, _, _, _, _, _, _, _, _]) dX0_init_23 rfl gX0_18 rfl (by omega) (f2_3) (fun _ => rfl) (fun _ => rfl) (Nat.le_of_ble_eq_true rfl) rfl rfl ?_
  refine P_aload_n (q := 27) dX0_init_26 rfl rfl ?_
  refine P_new (n := 48) (q := 30) dX0_init_27 rfl nX0_21 (fun _ => rfl) ⟨Nat.le_of_ble_eq_true rfl, Nat.le_of_ble_eq_true rfl⟩ ?_
  refine P_dup (q := 31) dX0_init_30 rfl rfl ?_
  refine P_calli (q := 34) dX0_init_31 rfl (c_sums (up_at _ _ _)) kX0_23 rfl rfl ⟨by decide, by decide⟩ (Nat.le_of_ble_eq_true rfl) ⟨Nat.le_of_ble_eq_true rfl, Nat.le_of_ble_eq_true rfl⟩ ?_
  rintro v3 σ3 ⟨rfl, t3, q48⟩
  have f3_3 : σ3 3 = pO 0 [.ref 4, .ref 26, .null, .null, .null, .null, .null, .int 0, .int 0, .int 0, .int 0, .int 0] := (t3 3 (by omega)).trans ((up_ne _ _ (by omega)).trans (up_at _ _ _))
  have l3 : same σ σ3 (fun i => 3 ≤ i) := fun k hk => (t3 k (by omega)).trans ((up_ne _ _ (by omega)).trans ((up_ne _ _ (by omega)).trans (l2 k hk)))
  have q4_3 := q4_2.congr (fun k a b => (t3 k (by omega)).trans ((up_ne _ _ (by omega)).trans ((up_ne _ _ (by omega)).trans (rfl))))
  have q26_3 := q26.congr (fun k a b => (t3 k (by omega)).trans ((up_ne _ _ (by omega)).trans ((up_ne _ _ (by omega)).trans (rfl))))
  refine P_putF (q := 37) (fs' := [_, _, _, _, _, _, _, _, _, _, _, _]) dX0_init_34 rfl gX0_24 rfl (by omega) (f3_3) (fun _ => rfl) (fun _ => rfl) (Nat.le_of_ble_eq_true rfl) rfl rfl ?_
  refine P_aload_n (q := 38) dX0_init_37 rfl rfl ?_
  refine P_new (n := 67) (q := 41) dX0_init_38 rfl nX0_28 (fun _ => rfl) ⟨Nat.le_of_ble_eq_true rfl, Nat.le_of_ble_eq_true rfl⟩ ?_
  refine P_dup (q := 42) dX0_init_41 rfl rfl ?_
  refine P_calli (q := 45) dX0_init_42 rfl (c_least (up_at _ _ _)) kX0_30 rfl rfl ⟨by decide, by decide⟩ (Nat.le_of_ble_eq_true rfl) ⟨Nat.le_of_ble_eq_true rfl, Nat.le_of_ble_eq_true rfl⟩ ?_
  rintro v4 σ4 ⟨rfl, t4, q67, q68⟩
  have f4_3 : σ4 3 = pO 0 [.ref 4, .ref 26, .ref 48, .null, .null, .null, .null, .int 0, .int 0, .int 0, .int 0, .int 0] := (t4 3 (by omega)).trans ((up_ne _ _ (by omega)).trans (up_at _ _ _))
  have l4 : same σ σ4 (fun i => 3 ≤ i) := fun k hk => (t4 k (by omega)).trans ((up_ne _ _ (by omega)).trans ((up_ne _ _ (by omega)).trans (l3 k hk)))
  have q4_4 := q4_3.congr (fun k a b => (t4 k (by omega)).trans ((up_ne _ _ (by omega)).trans ((up_ne _ _ (by omega)).trans (rfl))))
  have q26_4 := q26_3.congr (fun k a b => (t4 k (by omega)).trans ((up_ne _ _ (by omega)).trans ((up_ne _ _ (by omega)).trans (rfl))))
  have q48_4 := q48.congr (fun k a b => (t4 k (by omega)).trans ((up_ne _ _ (by omega)).trans ((up_ne _ _ (by omega)).trans (rfl))))
  refine P_putF (q := 48) (fs' := [_, _, _, _, _, _, _, _, _, _, _, _]) dX0_init_45 rfl gX0_31 rfl (by omega) (f4_3) (fun _ => rfl) (fun _ => rfl) (Nat.le_of_ble_eq_true rfl) rfl rfl ?_
  refine P_aload_n (q := 49) dX0_init_48 rfl rfl ?_
  refine P_sipush (q := 52) (v := nI 191) dX0_init_49 rfl (by decide +kernel) ?_
  refine P_newI (n := 97) (N := 191) (q := 54) dX0_init_52 rfl w_arI rfl (by decide) ⟨Nat.le_of_ble_eq_true rfl, Nat.le_of_ble_eq_true rfl⟩ ?_
  refine P_putF (q := 57) (fs' := [_, _, _, _, _, _, _, _, _, _, _, _]) dX0_init_54 rfl gX0_35 rfl (by omega) (((up_ne _ _ (by omega)).trans (up_at _ _ _))) (fun _ => rfl) (fun _ => rfl) (Nat.le_of_ble_eq_true rfl) rfl rfl ?_
  refine P_aload_n (q := 58) dX0_init_57 rfl rfl ?_
  refine P_sipush (q := 61) (v := nI 191) dX0_init_58 rfl (by decide +kernel) ?_
  refine P_newI (n := 98) (N := 191) (q := 63) dX0_init_61 rfl w_arI rfl (by decide) ⟨Nat.le_of_ble_eq_true rfl, Nat.le_of_ble_eq_true rfl⟩ ?_
  refine P_putF (q := 66) (fs' := [_, _, _, _, _, _, _, _, _, _, _, _]) dX0_init_63 rfl gX0_39 rfl (by omega) (((up_ne _ _ (by omega)).trans (up_at _ _ _))) (fun _ => rfl) (fun _ => rfl) (Nat.le_of_ble_eq_true rfl) rfl rfl ?_
  refine P_aload_n (q := 67) dX0_init_66 rfl rfl ?_
  refine P_bipush (q := 69) (v := nI 31) dX0_init_67 rfl (by decide +kernel) ?_
  refine P_newI (n := 99) (N := 31) (q := 71) dX0_init_69 rfl w_arI rfl (by decide) ⟨Nat.le_of_ble_eq_true rfl, Nat.le_of_ble_eq_true rfl⟩ ?_
  refine P_putF (q := 74) (fs' := [_, _, _, _, _, _, _, _, _, _, _, _]) dX0_init_71 rfl gX0_42 rfl (by omega) (((up_ne _ _ (by omega)).trans (up_at _ _ _))) (fun _ => rfl) (fun _ => rfl) (Nat.le_of_ble_eq_true rfl) rfl rfl ?_
  refine P_aload_n (q := 75) dX0_init_74 rfl rfl ?_
  refine P_iconst (q := 76) (v := nI 0) dX0_init_75 rfl (by decide +kernel) ?_
  refine P_put (q := 79) (fs' := [_, _, _, _, _, _, _, _, _, _, _, _]) dX0_init_76 rfl gX0_45 (by omega) ((up_at _ _ _)) (fun _ => rfl) (fun _ => rfl) (Nat.le_of_ble_eq_true rfl) rfl rfl ?_
  refine P_aload_n (q := 80) dX0_init_79 rfl rfl ?_
  refine P_iconst (q := 81) (v := nI 0) dX0_init_80 rfl (by decide +kernel) ?_
  refine P_put (q := 84) (fs' := [_, _, _, _, _, _, _, _, _, _, _, _]) dX0_init_81 rfl gX0_49 (by omega) ((up_at _ _ _)) (fun _ => rfl) (fun _ => rfl) (Nat.le_of_ble_eq_true rfl) rfl rfl ?_
  refine P_aload_n (q := 85) dX0_init_84 rfl rfl ?_
  refine P_iconst (q := 86) (v := nI 0) dX0_init_85 rfl (by decide +kernel) ?_
  refine P_put (q := 89) (fs' := [_, _, _, _, _, _, _, _, _, _, _, _]) dX0_init_86 rfl gX0_52 (by omega) ((up_at _ _ _)) (fun _ => rfl) (fun _ => rfl) (Nat.le_of_ble_eq_true rfl) rfl rfl ?_
  refine P_aload_n (q := 90) dX0_init_89 rfl rfl ?_
  refine P_iconst (q := 91) (v := nI 0) dX0_init_90 rfl (by decide +kernel) ?_
  refine P_put (q := 94) (fs' := [_, _, _, _, _, _, _, _, _, _, _, _]) dX0_init_91 rfl gX0_56 (by omega) ((up_at _ _ _)) (fun _ => rfl) (fun _ => rfl) (Nat.le_of_ble_eq_true rfl) rfl rfl ?_
  refine P_aload_n (q := 95) dX0_init_94 rfl rfl ?_
  refine P_iconst (q := 96) (v := nI 0) dX0_init_95 rfl (by decide +kernel) ?_
  refine P_put (q := 99) (fs' := [_, _, _, _, _, _, _, _, _, _, _, _]) dX0_init_96 rfl gX0_59 (by omega) ((up_at _ _ _)) (fun _ => rfl) (fun _ => rfl) (Nat.le_of_ble_eq_true rfl) rfl rfl ?_
  refine P_vret dX0_init_99 rfl ?_
  refine ⟨rfl, fun k hk => (up_ne _ _ (by omega)).trans ((up_ne _ _ (by omega)).trans ((up_ne _ _ (by omega)).trans ((up_ne _ _ (by omega)).trans ((up_ne _ _ (by omega)).trans ((up_ne _ _ (by omega)).trans ((up_ne _ _ (by omega)).trans ((up_ne _ _ (by omega)).trans ((up_ne _ _ (by omega)).trans ((up_ne _ _ (by omega)).trans ((up_ne _ _ (by omega)).trans ((up_ne _ _ (by omega)).trans (l4 k hk)))))))))))), fun A => ⟨0, 0, false, false, false, (up_at _ _ _), q4_4.congr (fun k a b => (up_ne _ _ (by omega)).trans ((up_ne _ _ (by omega)).trans ((up_ne _ _ (by omega)).trans ((up_ne _ _ (by omega)).trans ((up_ne _ _ (by omega)).trans ((up_ne _ _ (by omega)).trans ((up_ne _ _ (by omega)).trans ((up_ne _ _ (by omega)).trans ((up_ne _ _ (by omega)).trans ((up_ne _ _ (by omega)).trans ((up_ne _ _ (by omega)).trans ((up_ne _ _ (by omega)).trans (rfl))))))))))))), q26_4.congr (fun k a b => (up_ne _ _ (by omega)).trans ((up_ne _ _ (by omega)).trans ((up_ne _ _ (by omega)).trans ((up_ne _ _ (by omega)).trans ((up_ne _ _ (by omega)).trans ((up_ne _ _ (by omega)).trans ((up_ne _ _ (by omega)).trans ((up_ne _ _ (by omega)).trans ((up_ne _ _ (by omega)).trans ((up_ne _ _ (by omega)).trans ((up_ne _ _ (by omega)).trans ((up_ne _ _ (by omega)).trans (rfl))))))))))))), q48_4.congr (fun k a b => (up_ne _ _ (by omega)).trans ((up_ne _ _ (by omega)).trans ((up_ne _ _ (by omega)).trans ((up_ne _ _ (by omega)).trans ((up_ne _ _ (by omega)).trans ((up_ne _ _ (by omega)).trans ((up_ne _ _ (by omega)).trans ((up_ne _ _ (by omega)).trans ((up_ne _ _ (by omega)).trans ((up_ne _ _ (by omega)).trans ((up_ne _ _ (by omega)).trans ((up_ne _ _ (by omega)).trans (rfl))))))))))))), q67.congr (fun k a => (up_ne _ _ (by omega)).trans ((up_ne _ _ (by omega)).trans ((up_ne _ _ (by omega)).trans ((up_ne _ _ (by omega)).trans ((up_ne _ _ (by omega)).trans ((up_ne _ _ (by omega)).trans ((up_ne _ _ (by omega)).trans ((up_ne _ _ (by omega)).trans ((up_ne _ _ (by omega)).trans ((up_ne _ _ (by omega)).trans ((up_ne _ _ (by omega)).trans ((up_ne _ _ (by omega)).trans (rfl))))))))))))), q68.congr (fun k a b => (up_ne _ _ (by omega)).trans ((up_ne _ _ (by omega)).trans ((up_ne _ _ (by omega)).trans ((up_ne _ _ (by omega)).trans ((up_ne _ _ (by omega)).trans ((up_ne _ _ (by omega)).trans ((up_ne _ _ (by omega)).trans ((up_ne _ _ (by omega)).trans ((up_ne _ _ (by omega)).trans ((up_ne _ _ (by omega)).trans ((up_ne _ _ (by omega)).trans ((up_ne _ _ (by omega)).trans (rfl))))))))))))), ⟨_, ((up_ne _ _ (by omega)).trans ((up_ne _ _ (by omega)).trans ((up_ne _ _ (by omega)).trans ((up_ne _ _ (by omega)).trans ((up_ne _ _ (by omega)).trans ((up_ne _ _ (by omega)).trans ((up_ne _ _ (by omega)).trans ((up_ne _ _ (by omega)).trans ((up_ne _ _ (by omega)).trans ((up_ne _ _ (by omega)).trans (up_at _ _ _))))))))))), fun h => by cases h⟩, ⟨_, ((up_ne _ _ (by omega)).trans ((up_ne _ _ (by omega)).trans ((up_ne _ _ (by omega)).trans ((up_ne _ _ (by omega)).trans ((up_ne _ _ (by omega)).trans ((up_ne _ _ (by omega)).trans ((up_ne _ _ (by omega)).trans ((up_ne _ _ (by omega)).trans (up_at _ _ _))))))))), fun h => by cases h⟩, _, ((up_ne _ _ (by omega)).trans ((up_ne _ _ (by omega)).trans ((up_ne _ _ (by omega)).trans ((up_ne _ _ (by omega)).trans ((up_ne _ _ (by omega)).trans ((up_ne _ _ (by omega)).trans (up_at _ _ _))))))), fun h => by cases h⟩⟩
set_option maxRecDepth 100000 in
set_option maxHeartbeats 4000000 in
theorem c_hist {σ : Sto} (hb : σ 100 = pO 1 [.null, .int 0, .int 0]) : CP mX1_init 9 200 [.ref 100] 101 σ (fun v σ' => v = none ∧ same σ σ' (fun i => 100 ≤ i) ∧ HW σ' []) := by
  have lp : ∀ m j, j + m = 4 → ∀ τ, same σ τ (fun i => 100 ≤ i) → τ 100 = pO 1 [.ref 101, .int (nI 0), .int (nI 0)] → τ 101 = pR tyS 4 (fun i => if i < j then some (102 + 2 * i) else none) → (∀ i, i < j → SW τ (102 + 2 * i) A0) → PW mX1_init 9 200 (fun v σ' => v = none ∧ same σ σ' (fun i => 100 ≤ i) ∧ HW σ' []) 24 [some (.ref 100), some (.int (nI j))] [] (102 + 2 * j) τ (1 + 2 * j) (4 + 49 * j) := by
    intro m
    induction m with
    | zero =>
      intro j hj τ hs h100 h101 hS
      have e : j = 4 := by omega
      subst e
      refine P_iload_n (q := 25) dX1_init_24 rfl rfl ?_
      refine P_iconst (q := 26) (v := nI 4) dX1_init_25 rfl (by decide +kernel) ?_
      refine P_icmp_ge (q := 29) (tgt := 48) dX1_init_26 rfl (by decide) (fun c_26 => ?_) (fun c_26 => ?_)
      · rw [nI_leI (by omega) (by omega)] at c_26
        refine P_vret dX1_init_48 rfl ?_
        exact ⟨rfl, hs, 0, (fun _ => A0), by decide, by decide, h100, h101, hS, fun i hi => absurd hi (Nat.not_lt_zero i)⟩
      · exfalso; rw [nI_leI (by omega) (by omega)] at c_26; omega
    | succ m ih =>
      intro j hj τ hs h100 h101 hS
      refine P_iload_n (q := 25) dX1_init_24 rfl rfl ?_
      refine P_iconst (q := 26) (v := nI 4) dX1_init_25 rfl (by decide +kernel) ?_
      refine P_icmp_ge (q := 29) (tgt := 48) dX1_init_26 rfl (by decide) (fun c_26 => ?_) (fun c_26 => ?_)
      · exfalso; rw [nI_leI (by omega) (by omega)] at c_26; omega
      · rw [nI_leI (by omega) (by omega)] at c_26
        refine P_aload_n (q := 30) dX1_init_29 rfl rfl ?_
        refine P_get (q := 33) dX1_init_30 rfl fX1_11 (by omega) (h100) rfl ?_
        refine P_iload_n (q := 34) dX1_init_33 rfl rfl ?_
        refine P_new (q := 37) dX1_init_34 rfl nX1_9 (fun _ => rfl) ⟨by omega, by show 4 + 49 * j + 9 ≤ 200; omega⟩ ?_
        refine P_dup (q := 38) dX1_init_37 rfl rfl ?_
        refine P_calli (q := 41) dX1_init_38 rfl (c_strip (b := 102 + 2 * j) (up_at _ _ _)) kX1_24 rfl rfl ⟨by decide, by decide⟩ (Nat.le_of_ble_eq_true rfl) ⟨by omega, by show 4 + 49 * j + 9 + 40 ≤ 200; omega⟩ ?_
        rintro v τ1 ⟨rfl, t1, hS1⟩
        have g100 : τ1 100 = _ := (t1 100 (by omega)).trans ((up_ne _ _ (by omega)).trans h100)
        have g101 : τ1 101 = _ := (t1 101 (by omega)).trans ((up_ne _ _ (by omega)).trans h101)
        obtain ⟨-, f0, hso, -, -⟩ := id hS1
        refine P_qast (q := 42) (j := j) (g' := (fun i => if i < (j + 1) then some (102 + 2 * i) else none)) dX1_init_41 rfl (by omega) g101 (by omega) hso cls_4.1 rfl (by omega) (by decide) ?_ rfl ?_
        · funext k
          unfold va_up
          by_cases e : k = j
          · rw [if_pos e, if_pos (by omega), e]
          · rw [if_neg e]
            dsimp only
            by_cases h : k < j
            · rw [if_pos h, if_pos (by omega)]
            · rw [if_neg h, if_neg (by omega)]
        · refine P_iinc (q := 45) (L' := [_, _]) (v := nI (j + 1)) dX1_init_42 rfl (by decide) rfl (nI_1 j) rfl ?_
          refine P_goto (tgt := 24) dX1_init_45 (by decide) ?_
          refine ih (j + 1) (by omega) _ (fun k hk => ?_) ((up_ne _ _ (by omega)).trans g100) (up_at _ _ _) (fun i hi => ?_)
          · exact (up_ne _ _ (by omega)).trans ((t1 k (by omega)).trans ((up_ne _ _ (by omega)).trans (hs k hk)))
          · by_cases e : i = j
            · subst e; exact hS1.congr (up_ne _ _ (by omega)) (up_ne _ _ (by omega))
            · exact (hS i (by omega)).congr ((up_ne _ _ (by omega)).trans ((t1 _ (by omega)).trans (up_ne _ _ (by omega)))) ((up_ne _ _ (by omega)).trans ((t1 _ (by omega)).trans (up_ne _ _ (by omega))))
  refine CP_of (by decide +kernel) (Nat.le_of_ble_eq_true rfl) ?_
  change PW _ _ _ _ 0 [_, _] [] _ _ _ _
  refine P_aload_n (q := 1) dX1_init_0 rfl rfl ?_
  refine P_objinit (q := 4) dX1_init_1 rfl kX1_3 w_oi1 w_oi2 (by decide) (by decide) ?_
  refine P_aload_n (q := 5) dX1_init_4 rfl rfl ?_
  refine P_iconst (q := 6) (v := nI 4) dX1_init_5 rfl (by decide +kernel) ?_
  refine P_newQ (n := 101) (N := 4) (q := 9) dX1_init_6 rfl iX1_9 rfl (by decide) ⟨Nat.le_of_ble_eq_true rfl, Nat.le_of_ble_eq_true rfl⟩ ?_
  refine P_putF (q := 12) (fs' := [_, _, _]) dX1_init_9 rfl gX1_11 rfl (by omega) (((up_ne _ _ (by omega)).trans hb)) (fun _ => rfl) (fun _ => rfl) (Nat.le_of_ble_eq_true rfl) rfl rfl ?_
  refine P_aload_n (q := 13) dX1_init_12 rfl rfl ?_
  refine P_iconst (q := 14) (v := nI 0) dX1_init_13 rfl (by decide +kernel) ?_
  refine P_put (q := 17) (fs' := [_, _, _]) dX1_init_14 rfl gX1_17 (by omega) ((up_at _ _ _)) (fun _ => rfl) (fun _ => rfl) (Nat.le_of_ble_eq_true rfl) rfl rfl ?_
  refine P_aload_n (q := 18) dX1_init_17 rfl rfl ?_
  refine P_iconst (q := 19) (v := nI 0) dX1_init_18 rfl (by decide +kernel) ?_
  refine P_put (q := 22) (fs' := [_, _, _]) dX1_init_19 rfl gX1_21 (by omega) ((up_at _ _ _)) (fun _ => rfl) (fun _ => rfl) (Nat.le_of_ble_eq_true rfl) rfl rfl ?_
  refine P_iconst (q := 23) (v := nI 0) dX1_init_22 rfl (by decide +kernel) ?_
  refine P_istore_n (q := 24) (L' := [_, _]) dX1_init_23 rfl (by decide) rfl ?_
  have hl := lp 4 0 (by omega) (va_up (va_up (va_up (va_up σ 101 (pR tyS 4 (fun _ => none))) 100 (pO 1 [.ref 101, .int 0, .int 0])) 100 (pO 1 [.ref 101, .int (nI 0), .int 0])) 100 (pO 1 [.ref 101, .int (nI 0), .int (nI 0)])) (fun k hk => (up_ne _ _ (by omega)).trans ((up_ne _ _ (by omega)).trans ((up_ne _ _ (by omega)).trans ((up_ne _ _ (by omega)).trans (rfl))))) (up_at _ _ _) ((((up_ne _ _ (by omega)).trans ((up_ne _ _ (by omega)).trans ((up_ne _ _ (by omega)).trans (up_at _ _ _))))).trans (congrArg (fun f => pR tyS 4 f) (funext fun i => (if_neg (Nat.not_lt_zero i)).symm))) (fun i hi => by omega)
  exact hl
