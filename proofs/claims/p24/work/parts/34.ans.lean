variable {eN : Nat}
/-! ALL STRIPS: answers -/
theorem AW.at {σ : Sto} {A : St} (h : AW σ A) : ∃ lc gc k1 k2 k3, σ 3 = asO lc gc k1 k2 k3 := by
  obtain ⟨lc, gc, k1, k2, k3, h, -⟩ := h
  exact ⟨lc, gc, k1, k2, k3, h⟩
set_option maxRecDepth 100000 in
set_option maxHeartbeats 4000000 in
theorem t_mwe {σ0 : Sto} {A : St} (hS : SW σ0 1 A) (hW : AW σ0 A) {z : Int} (h1 : -2147483648 ≤ z) (h2 : z < 2147483648) : CP mX0_manyWithEnergy 0 0 [.ref 3, .ref 1, .int (iI z)] (eN + 114) σ0 (fun v σ' => v = some (.int (nI ((A.md false).me z))) ∧ same σ0 σ' (fun i => 3 ≤ i ∧ i ≤ 99) ∧ AW σ' A) := by
  obtain ⟨lc, gc, k1, k2, k3, h3⟩ := hW.at
  refine CP_of (by decide +kernel) (Nat.le_of_ble_eq_true rfl) ?_
  change PW _ _ _ _ 0 [_, _, _] [] _ _ _ _
  refine P_aload_n (q := 1) dX0_manyWithEnergy_0 rfl rfl ?_
  refine P_aload_n (q := 2) dX0_manyWithEnergy_1 rfl rfl ?_
  refine P_callv (q := 5) dX0_manyWithEnergy_2 rfl (t_learn hS hW) kX0_62 rfl rfl (by first | decide | exact lt_c (by decide)) (h3) rfl ⟨by decide, by decide⟩ (Nat.le_of_ble_eq_true rfl) ⟨Nat.le_refl _, Nat.le_refl _⟩ ?_
  rintro v σ1 ⟨rfl, t1, k2, k3, hK⟩
  obtain ⟨u3, -, -, -, -, -, ⟨g, u97, q⟩, -⟩ := id hK
  obtain ⟨q1, -, -, q2⟩ := q rfl
  refine P_aload_n (q := 6) dX0_manyWithEnergy_5 rfl rfl ?_
  refine P_iload_n (q := 7) dX0_manyWithEnergy_6 rfl rfl ?_
  refine P_cv1 (q := 10) dX0_manyWithEnergy_7 rfl kX0_66 (t_mae (St.wr_b hS.1 false) u3 q1.1 u97 q2 h1 h2) rfl rfl (by first | decide | exact lt_c (by decide)) (u3) rfl ⟨by decide, by decide⟩ (Nat.le_of_ble_eq_true rfl) ⟨Nat.le_refl _, Nat.le_refl _⟩ ?_
  refine P_iret dX0_manyWithEnergy_10 rfl (rfl) ?_
  exact ⟨rfl, t1, _, _, _, _, _, hK⟩
set_option maxRecDepth 100000 in
set_option maxHeartbeats 4000000 in
theorem t_loE {σ0 : Sto} {A : St} (hS : SW σ0 1 A) (hW : AW σ0 A) : CP mX0_leastEnergy 0 0 [.ref 3, .ref 1] (eN + 114) σ0 (fun v σ' => v = some (.int (iI (2 * (A.md false).lo - (A.md false).wr))) ∧ same σ0 σ' (fun i => 3 ≤ i ∧ i ≤ 99) ∧ AW σ' A) := by
  obtain ⟨lc, gc, k1, k2, k3, h3⟩ := hW.at
  refine CP_of (by decide +kernel) (Nat.le_of_ble_eq_true rfl) ?_
  change PW _ _ _ _ 0 [_, _] [] _ _ _ _
  refine P_aload_n (q := 1) dX0_leastEnergy_0 rfl rfl ?_
  refine P_aload_n (q := 2) dX0_leastEnergy_1 rfl rfl ?_
  refine P_callv (q := 5) dX0_leastEnergy_2 rfl (t_learn hS hW) kX0_62 rfl rfl (by first | decide | exact lt_c (by decide)) (h3) rfl ⟨by decide, by decide⟩ (Nat.le_of_ble_eq_true rfl) ⟨Nat.le_refl _, Nat.le_refl _⟩ ?_
  rintro v σ1 ⟨rfl, t1, k2, k3, hK⟩
  obtain ⟨u3, -, -, -, -, -, ⟨g, u97, q⟩, -⟩ := id hK
  obtain ⟨q1, -, -, q2⟩ := q rfl
  refine P_aload_n (q := 6) dX0_leastEnergy_5 rfl rfl ?_
  refine P_aload_n (q := 7) dX0_leastEnergy_6 rfl rfl ?_
  refine P_get (q := 10) dX0_leastEnergy_7 rfl fX0_45 (by first | decide | exact lt_c (by decide)) (u3) rfl ?_
  refine P_cv1 (q := 13) dX0_leastEnergy_10 rfl kX0_93 (t_eo u3 q1.1) rfl rfl (by first | decide | exact lt_c (by decide)) (u3) rfl ⟨by decide, by decide⟩ (Nat.le_of_ble_eq_true rfl) ⟨Nat.le_refl _, Nat.le_refl _⟩ ?_
  refine P_iret dX0_leastEnergy_13 rfl (rfl) ?_
  exact ⟨rfl, t1, _, _, _, _, _, hK⟩
set_option maxRecDepth 100000 in
set_option maxHeartbeats 4000000 in
theorem t_hiE {σ0 : Sto} {A : St} (hS : SW σ0 1 A) (hW : AW σ0 A) : CP mX0_greatestEnergy 0 0 [.ref 3, .ref 1] (eN + 114) σ0 (fun v σ' => v = some (.int (iI (2 * (A.md false).hi - (A.md false).wr))) ∧ same σ0 σ' (fun i => 3 ≤ i ∧ i ≤ 99) ∧ AW σ' A) := by
  obtain ⟨lc, gc, k1, k2, k3, h3⟩ := hW.at
  refine CP_of (by decide +kernel) (Nat.le_of_ble_eq_true rfl) ?_
  change PW _ _ _ _ 0 [_, _] [] _ _ _ _
  refine P_aload_n (q := 1) dX0_greatestEnergy_0 rfl rfl ?_
  refine P_aload_n (q := 2) dX0_greatestEnergy_1 rfl rfl ?_
  refine P_callv (q := 5) dX0_greatestEnergy_2 rfl (t_learn hS hW) kX0_62 rfl rfl (by first | decide | exact lt_c (by decide)) (h3) rfl ⟨by decide, by decide⟩ (Nat.le_of_ble_eq_true rfl) ⟨Nat.le_refl _, Nat.le_refl _⟩ ?_
  rintro v σ1 ⟨rfl, t1, k2, k3, hK⟩
  obtain ⟨u3, -, -, -, -, -, ⟨g, u97, q⟩, -⟩ := id hK
  obtain ⟨q1, -, -, q2⟩ := q rfl
  refine P_aload_n (q := 6) dX0_greatestEnergy_5 rfl rfl ?_
  refine P_aload_n (q := 7) dX0_greatestEnergy_6 rfl rfl ?_
  refine P_get (q := 10) dX0_greatestEnergy_7 rfl fX0_49 (by first | decide | exact lt_c (by decide)) (u3) rfl ?_
  refine P_cv1 (q := 13) dX0_greatestEnergy_10 rfl kX0_93 (t_eo u3 q1.1) rfl rfl (by first | decide | exact lt_c (by decide)) (u3) rfl ⟨by decide, by decide⟩ (Nat.le_of_ble_eq_true rfl) ⟨Nat.le_refl _, Nat.le_refl _⟩ ?_
  refine P_iret dX0_greatestEnergy_13 rfl (rfl) ?_
  exact ⟨rfl, t1, _, _, _, _, _, hK⟩
set_option maxRecDepth 100000 in
set_option maxHeartbeats 4000000 in
theorem t_mww {σ0 : Sto} {A : St} (hS : SW σ0 1 A) (hW : AW σ0 A) {z : Int} (h1 : -2147483648 ≤ z) (h2 : z < 2147483648) : CP mX0_manyWithWalls 0 0 [.ref 3, .ref 1, .int (iI z)] (eN + 114) σ0 (fun v σ' => v = some (.int (if 0 ≤ z ∧ z < 191 then nI ((A.md true).cnt z.toNat) else 0)) ∧ same σ0 σ' (fun i => 3 ≤ i ∧ i ≤ 99) ∧ AW σ' A) := by
  obtain ⟨lc, gc, k1, k2, k3, hK⟩ := hW
  obtain ⟨h3, h4, h26, h48, h67, h68, ⟨g7, h97, h97'⟩, ⟨g8, h98, h98'⟩, ⟨g9, h99, h99'⟩⟩ := id hK
  have hA := hS.1
  have hm := A.md_ok hA true
  have fin : ∀ g : Nat → Int32, (∀ x, x < 191 → g x = nI ((A.md true).cnt x)) → atV 191 g z = if 0 ≤ z ∧ z < 191 then nI ((A.md true).cnt z.toNat) else 0 := fun g hg => by
    unfold atV
    by_cases e : 0 ≤ z ∧ z < 191
    · rw [if_pos ⟨e.1, by omega⟩, if_pos e, hg _ (by omega)]
    · rw [if_neg (fun q => e ⟨q.1, by omega⟩), if_neg e]
  refine CP_of (by decide +kernel) (Nat.le_of_ble_eq_true rfl) ?_
  change PW _ _ _ _ 0 [_, _, _] [] _ _ _ _
  refine P_aload_n (q := 1) dX0_manyWithWalls_0 rfl rfl ?_
  refine P_get (q := 4) dX0_manyWithWalls_1 rfl fX0_56 (by first | decide | exact lt_c (by decide)) (h3) rfl ?_
  refine P_if_ne (q := 7) (tgt := 36) dX0_manyWithWalls_4 rfl (by first | decide | exact lt_c (by decide)) (fun c_4 => ?_) (fun c_4 => ?_)
  · rw [bI_n] at c_4
    refine P_aload_n (q := 37) dX0_manyWithWalls_36 rfl rfl ?_
    refine P_get (q := 40) dX0_manyWithWalls_37 rfl fX0_39 (by first | decide | exact lt_c (by decide)) (h3) rfl ?_
    refine P_iload_n (q := 41) dX0_manyWithWalls_40 rfl rfl ?_
    refine P_cs1 (q := 44) dX0_manyWithWalls_41 rfl kX0_78 (t_at (by first | decide | exact lt_c (by decide)) (by first | decide | exact lt_c (by decide)) h98 h1 h2) rfl rfl ⟨by decide, by decide⟩ (Nat.le_of_ble_eq_true rfl) ⟨Nat.le_refl _, Nat.le_refl _⟩ ?_
    refine P_iret dX0_manyWithWalls_44 rfl (rfl) ?_
    exact ⟨rv_i (fin g8 (h98' c_4)), same.rf, lc, gc, k1, k2, k3, hK⟩
  · rw [bI_0] at c_4
    subst c_4
    refine P_aload_n (q := 8) dX0_manyWithWalls_7 rfl rfl ?_
    refine P_get (q := 11) dX0_manyWithWalls_8 rfl fX0_18 (by first | decide | exact lt_c (by decide)) (h3) rfl ?_
    refine P_aload_n (q := 12) dX0_manyWithWalls_11 rfl rfl ?_
    refine P_iconst (q := 13) (v := nI 1) dX0_manyWithWalls_12 rfl (by decide +kernel) ?_
    refine P_callv (q := 16) dX0_manyWithWalls_13 rfl (t_tft hS (Or.inr rfl) h26) kX0_70 rfl rfl (by first | decide | exact lt_c (by decide)) (h26.1.choose_spec.choose_spec.choose_spec.choose_spec.choose_spec) rfl ⟨by decide, by decide⟩ (Nat.le_of_ble_eq_true rfl) ⟨Nat.le_refl _, Nat.le_refl _⟩ ?_
    rintro v σ1 ⟨rfl, t1, t2⟩
    have u3 := (t1 3 (by omega)).trans h3
    have u48 : SmW σ1 := h48.congr (fun k a b => t1 k (by omega))
    have u98 := (t1 98 (by omega)).trans h98
    refine P_aload_n (q := 17) dX0_manyWithWalls_16 rfl rfl ?_
    refine P_get (q := 20) dX0_manyWithWalls_17 rfl fX0_24 (by first | decide | exact lt_c (by decide)) (u3) rfl ?_
    refine P_aload_n (q := 21) dX0_manyWithWalls_20 rfl rfl ?_
    refine P_get (q := 24) dX0_manyWithWalls_21 rfl fX0_39 (by first | decide | exact lt_c (by decide)) (u3) rfl ?_
    refine P_aload_n (q := 25) dX0_manyWithWalls_24 rfl rfl ?_
    refine P_get (q := 28) dX0_manyWithWalls_25 rfl fX0_18 (by first | decide | exact lt_c (by decide)) (u3) rfl ?_
    obtain ⟨a, b, ⟨e48, hab⟩, -⟩ := id u48
    refine P_callv (q := 31) dX0_manyWithWalls_28 rfl (t_sumsFill t2 hm (Or.inr rfl) (Or.inr rfl) u48 u98) kX0_74 rfl rfl (by first | decide | exact lt_c (by decide)) (e48) rfl ⟨by decide, by decide⟩ (Nat.le_of_ble_eq_true rfl) ⟨Nat.le_refl _, Nat.le_refl _⟩ ?_
    rintro v σ2 ⟨rfl, s1, s2, g, s3, s4⟩
    have w3 := (s1 3 (by omega)).trans u3
    have fr : ∀ c k, 3 < k → (k < 26 ∨ 47 < k) → ¬ (48 ≤ k ∧ k ≤ 66) → k ≠ 98 → va_up σ2 3 c k = σ0 k := fun c k a b d e => (up_ne _ _ (by omega)).trans ((s1 k (by omega)).trans (t1 k (by omega)))
    refine P_aload_n (q := 32) dX0_manyWithWalls_31 rfl rfl ?_
    refine P_iconst (q := 33) (v := nI 1) dX0_manyWithWalls_32 rfl (by decide +kernel) ?_
    refine P_put (q := 36) (fs' := [_, _, _, _, _, _, _, _, _, _, .int (bI true), _]) dX0_manyWithWalls_33 rfl gX0_56 (by first | decide | exact lt_c (by decide)) (w3) (fun _ => rfl) (fun _ => rfl) (Nat.le_of_ble_eq_true rfl) rfl (rfl) ?_
    refine P_aload_n (q := 37) dX0_manyWithWalls_36 rfl rfl ?_
    refine P_get (q := 40) dX0_manyWithWalls_37 rfl fX0_39 (by first | decide | exact lt_c (by decide)) (up_at _ _ _) rfl ?_
    refine P_iload_n (q := 41) dX0_manyWithWalls_40 rfl rfl ?_
    refine P_cs1 (q := 44) dX0_manyWithWalls_41 rfl kX0_78 (t_at (by first | decide | exact lt_c (by decide)) (by first | decide | exact lt_c (by decide)) ((up_ne _ _ (by omega)).trans s3) h1 h2) rfl rfl ⟨by decide, by decide⟩ (Nat.le_of_ble_eq_true rfl) ⟨Nat.le_refl _, Nat.le_refl _⟩ ?_
    refine P_iret dX0_manyWithWalls_44 rfl (rfl) ?_
    refine ⟨rv_i (fin g s4), fun i hi => (up_ne _ _ (by omega)).trans ((s1 i (by omega)).trans (t1 i (by omega))), lc, gc, k1, true, k3, up_at _ _ _, h4.congr (fun k a b => fr _ k (by omega) (by omega) (by omega) (by omega)), (t2.congr (fun k a b => (up_ne _ _ (by omega)).trans (s1 k (by omega)))).s, s2.congr (fun k a b => up_ne _ _ (by omega)), h67.congr (fun k a => fr _ k (by omega) (by omega) (by omega) (by omega)), h68.congr (fun k a b => fr _ k (by omega) (by omega) (by omega) (by omega)), ⟨g7, (fr _ 97 (by omega) (by omega) (by omega) (by omega)).trans h97, fun q => ⟨(h97' q).1.congr (fun k a b => fr _ k (by omega) (by omega) (by omega) (by omega)), (h97' q).2⟩⟩, ⟨g, (up_ne _ _ (by omega)).trans s3, fun _ => s4⟩, ⟨g9, (fr _ 99 (by omega) (by omega) (by omega) (by omega)).trans h99, h99'⟩⟩
/-- the prices of a strip taken once more -/
theorem AK.prices {σ0 σ1 : Sto} {A : St} {lc gc : Nat} {k1 k2 k3 : Bool} (hK : AK σ0 A lc gc k1 k2 k3) (t1 : same σ0 σ1 (fun i => 4 ≤ i ∧ i ≤ 4 + 21)) (t2 : PrW σ1 4 (A.md false)) : AK σ1 A lc gc k1 k2 k3 := by
  obtain ⟨h3, h4, h26, h48, h67, h68, ⟨g7, h97, h97'⟩, ⟨g8, h98, h98'⟩, ⟨g9, h99, h99'⟩⟩ := hK
  exact ⟨(t1 3 (by omega)).trans h3, t2.s, h26.congr (fun k a b => t1 k (by omega)), h48.congr (fun k a b => t1 k (by omega)), h67.congr (fun k a => t1 k (by omega)), h68.congr (fun k a b => t1 k (by omega)), ⟨g7, (t1 97 (by omega)).trans h97, fun q => ⟨t2, (h97' q).2⟩⟩, ⟨g8, (t1 98 (by omega)).trans h98, h98'⟩, ⟨g9, (t1 99 (by omega)).trans h99, h99'⟩⟩
set_option maxRecDepth 100000 in
set_option maxHeartbeats 4000000 in
theorem t_mlu {σ0 : Sto} {A : St} (hS : SW σ0 1 A) (hW : AW σ0 A) {z : Int} (h1 : -2147483648 ≤ z) (h2 : z < 2147483648) : CP mX0_manyOfLeastWithUps 0 0 [.ref 3, .ref 1, .int (iI z)] (eN + 114) σ0 (fun v σ' => v = some (.int (if 0 ≤ z ∧ z < 31 then nI ((A.md false).mu z.toNat) else 0)) ∧ same σ0 σ' (fun i => 3 ≤ i ∧ i ≤ 99) ∧ AW σ' A) := by
  obtain ⟨lc, gc, k1, k2, k3, hK⟩ := hW
  obtain ⟨h3, h4, h26, h48, h67, h68, ⟨g7, h97, h97'⟩, ⟨g8, h98, h98'⟩, ⟨g9, h99, h99'⟩⟩ := id hK
  have hA := hS.1
  have hm := A.md_ok hA false
  have fin : ∀ g : Nat → Int32, (∀ x, x < 31 → g x = nI ((A.md false).mu x)) → atV 31 g z = if 0 ≤ z ∧ z < 31 then nI ((A.md false).mu z.toNat) else 0 := fun g hg => by
    unfold atV
    by_cases e : 0 ≤ z ∧ z < 31
    · rw [if_pos ⟨e.1, by omega⟩, if_pos e, hg _ (by omega)]
    · rw [if_neg (fun q => e ⟨q.1, by omega⟩), if_neg e]
  refine CP_of (by decide +kernel) (Nat.le_of_ble_eq_true rfl) ?_
  change PW _ _ _ _ 0 [_, _, _] [] _ _ _ _
  refine P_aload_n (q := 1) dX0_manyOfLeastWithUps_0 rfl rfl ?_
  refine P_get (q := 4) dX0_manyOfLeastWithUps_1 rfl fX0_59 (by first | decide | exact lt_c (by decide)) (h3) rfl ?_
  refine P_if_ne (q := 7) (tgt := 36) dX0_manyOfLeastWithUps_4 rfl (by first | decide | exact lt_c (by decide)) (fun c_4 => ?_) (fun c_4 => ?_)
  · rw [bI_n] at c_4
    refine P_aload_n (q := 37) dX0_manyOfLeastWithUps_36 rfl rfl ?_
    refine P_get (q := 40) dX0_manyOfLeastWithUps_37 rfl fX0_42 (by first | decide | exact lt_c (by decide)) (h3) rfl ?_
    refine P_iload_n (q := 41) dX0_manyOfLeastWithUps_40 rfl rfl ?_
    refine P_cs1 (q := 44) dX0_manyOfLeastWithUps_41 rfl kX0_78 (t_at (by first | decide | exact lt_c (by decide)) (by first | decide | exact lt_c (by decide)) h99 h1 h2) rfl rfl ⟨by decide, by decide⟩ (Nat.le_of_ble_eq_true rfl) ⟨Nat.le_refl _, Nat.le_refl _⟩ ?_
    refine P_iret dX0_manyOfLeastWithUps_44 rfl (rfl) ?_
    exact ⟨rv_i (fin g9 (h99' c_4)), same.rf, lc, gc, k1, k2, k3, hK⟩
  · rw [bI_0] at c_4
    subst c_4
    refine P_aload_n (q := 8) dX0_manyOfLeastWithUps_7 rfl rfl ?_
    refine P_get (q := 11) dX0_manyOfLeastWithUps_8 rfl fX0_12 (by first | decide | exact lt_c (by decide)) (h3) rfl ?_
    refine P_aload_n (q := 12) dX0_manyOfLeastWithUps_11 rfl rfl ?_
    refine P_iconst (q := 13) (v := nI 0) dX0_manyOfLeastWithUps_12 rfl (by decide +kernel) ?_
    refine P_callv (q := 16) dX0_manyOfLeastWithUps_13 rfl (t_tff hS (Or.inl rfl) h4) kX0_70 rfl rfl (by first | decide | exact lt_c (by decide)) (h4.1.choose_spec.choose_spec.choose_spec.choose_spec.choose_spec) rfl ⟨by decide, by decide⟩ (Nat.le_of_ble_eq_true rfl) ⟨Nat.le_refl _, Nat.le_refl _⟩ ?_
    rintro v σ1 ⟨rfl, t1, t2⟩
    have hK1 := hK.prices t1 t2
    obtain ⟨u3, u4, u26, u48, u67, u68, ⟨g7, u97, u97'⟩, ⟨g8, u98, u98'⟩, ⟨g9, u99, -⟩⟩ := hK1
    refine P_aload_n (q := 17) dX0_manyOfLeastWithUps_16 rfl rfl ?_
    refine P_get (q := 20) dX0_manyOfLeastWithUps_17 rfl fX0_31 (by first | decide | exact lt_c (by decide)) (u3) rfl ?_
    refine P_aload_n (q := 21) dX0_manyOfLeastWithUps_20 rfl rfl ?_
    refine P_get (q := 24) dX0_manyOfLeastWithUps_21 rfl fX0_42 (by first | decide | exact lt_c (by decide)) (u3) rfl ?_
    refine P_aload_n (q := 25) dX0_manyOfLeastWithUps_24 rfl rfl ?_
    refine P_get (q := 28) dX0_manyOfLeastWithUps_25 rfl fX0_12 (by first | decide | exact lt_c (by decide)) (u3) rfl ?_
    obtain ⟨a, b, ⟨e67, hab⟩, -⟩ := id u67
    refine P_callv (q := 31) dX0_manyOfLeastWithUps_28 rfl (t_fu t2 hm u67 u68 u99) kX0_82 rfl rfl (by first | decide | exact lt_c (by decide)) (e67) rfl ⟨by decide, by decide⟩ (Nat.le_of_ble_eq_true rfl) ⟨Nat.le_refl _, Nat.le_refl _⟩ ?_
    rintro v σ2 ⟨rfl, s1, s2, s5, g, s3, s4⟩
    have w3 := (s1 3 (by omega)).trans u3
    have fr : ∀ c k, 3 < k → k < 67 ∨ k = 97 ∨ k = 98 → va_up σ2 3 c k = σ1 k := fun c k a b => (up_ne _ _ (by omega)).trans (s1 k (by omega))
    refine P_aload_n (q := 32) dX0_manyOfLeastWithUps_31 rfl rfl ?_
    refine P_iconst (q := 33) (v := nI 1) dX0_manyOfLeastWithUps_32 rfl (by decide +kernel) ?_
    refine P_put (q := 36) (fs' := [_, _, _, _, _, _, _, _, _, _, _, .int (bI true)]) dX0_manyOfLeastWithUps_33 rfl gX0_59 (by first | decide | exact lt_c (by decide)) (w3) (fun _ => rfl) (fun _ => rfl) (Nat.le_of_ble_eq_true rfl) rfl (rfl) ?_
    refine P_aload_n (q := 37) dX0_manyOfLeastWithUps_36 rfl rfl ?_
    refine P_get (q := 40) dX0_manyOfLeastWithUps_37 rfl fX0_42 (by first | decide | exact lt_c (by decide)) (up_at _ _ _) rfl ?_
    refine P_iload_n (q := 41) dX0_manyOfLeastWithUps_40 rfl rfl ?_
    refine P_cs1 (q := 44) dX0_manyOfLeastWithUps_41 rfl kX0_78 (t_at (by first | decide | exact lt_c (by decide)) (by first | decide | exact lt_c (by decide)) ((up_ne _ _ (by omega)).trans s3) h1 h2) rfl rfl ⟨by decide, by decide⟩ (Nat.le_of_ble_eq_true rfl) ⟨Nat.le_refl _, Nat.le_refl _⟩ ?_
    refine P_iret dX0_manyOfLeastWithUps_44 rfl (rfl) ?_
    refine ⟨rv_i (fin g s4), fun i hi => (up_ne _ _ (by omega)).trans ((s1 i (by omega)).trans (t1 i (by omega))), lc, gc, k1, k2, true, up_at _ _ _, u4.congr (fun k a b => fr _ k (by omega) (by omega)), u26.congr (fun k a b => fr _ k (by omega) (by omega)), u48.congr (fun k a b => fr _ k (by omega) (by omega)), s2.congr (fun k a => up_ne _ _ (by omega)), s5.congr (fun k a b => up_ne _ _ (by omega)), ⟨g7, (fr _ 97 (by omega) (by omega)).trans u97, fun q => ⟨(u97' q).1.congr (fun k a b => fr _ k (by omega) (by omega)), (u97' q).2⟩⟩, ⟨g8, (fr _ 98 (by omega) (by omega)).trans u98, u98'⟩, ⟨g, (up_ne _ _ (by omega)).trans s3, fun _ => s4⟩⟩
/-- in how many ways so many are chosen, step by step -/
def chs (n : Nat) : Nat → Int64
  | 0 => lN 1
  | k + 1 => chs n k * (nI (n - k)).toInt64 / (nI (k + 1)).toInt64
theorem nz64 : ∀ k, k < 64 → ¬ (nI (k + 1)).toInt64 = 0 := by decide +kernel
set_option maxRecDepth 100000 in
set_option maxHeartbeats 4000000 in
theorem w_mwu {σ0 : Sto} {A : St} (hA : A.ok) {z : Int} (hz1 : 0 ≤ z) (hz2 : z ≤ A.C * A.R) (hc : A.C * A.R ≤ 30) : ∀ n k, k + n = z.toNat → PW mX0_manyWithUps 0 0 (fun v σ' => v = some (.int (if 0 ≤ z ∧ z ≤ A.C * A.R then (chs (A.C * A.R) z.toNat).toInt32 else 0)) ∧ σ' = σ0) 26 [some (.ref 1), some (.int (iI z)), some (.int (nI (A.C * A.R))), some (.long (chs (A.C * A.R) k)), none, some (.int (nI (k + 1)))] [] (eN + 114) σ0 0 0 := by
  have hz3 : z ≤ ((A.C * A.R : Nat) : Int) := by rw [Int.natCast_mul]; exact hz2
  generalize hn : A.C * A.R = N at hz3 hc ⊢
  intro n
  induction n with
  | zero =>
    intro k hk
    refine P_iload (q := 28) dX0_manyWithUps_26 rfl rfl ?_
    refine P_iload_n (q := 29) dX0_manyWithUps_28 rfl rfl ?_
    refine P_icmp_gt (q := 32) (tgt := 52) dX0_manyWithUps_29 rfl (by first | decide | exact lt_c (by decide)) (fun c_29 => ?_) (fun c_29 => ?_)
    · skip
      refine P_lload_n (q := 53) dX0_manyWithUps_52 rfl rfl ?_
      refine P_l2i (q := 54) dX0_manyWithUps_53 rfl ?_
      refine P_iret dX0_manyWithUps_54 rfl (rfl) ?_
      exact ⟨rv_i (by rw [if_pos ⟨hz1, hz2⟩, show k = z.toNat by omega]), rfl⟩
    · exfalso; rw [iI_nI, iI_lt (by omega) (by omega) (by omega) (by omega)] at c_29; omega
  | succ n ih =>
    intro k hk
    refine P_iload (q := 28) dX0_manyWithUps_26 rfl rfl ?_
    refine P_iload_n (q := 29) dX0_manyWithUps_28 rfl rfl ?_
    refine P_icmp_gt (q := 32) (tgt := 52) dX0_manyWithUps_29 rfl (by first | decide | exact lt_c (by decide)) (fun c_29 => ?_) (fun c_29 => ?_)
    · exfalso; rw [iI_nI, iI_lt (by omega) (by omega) (by omega) (by omega)] at c_29; omega
    · skip
      refine P_lload_n (q := 33) dX0_manyWithUps_32 rfl rfl ?_
      refine P_iload_n (q := 34) dX0_manyWithUps_33 rfl rfl ?_
      refine P_iload (q := 36) dX0_manyWithUps_34 rfl rfl ?_
      refine P_isub (q := 37) dX0_manyWithUps_36 rfl ?_
      refine P_iconst (q := 38) (v := nI 1) dX0_manyWithUps_37 rfl (by decide +kernel) ?_
      refine P_iadd (q := 39) dX0_manyWithUps_38 rfl ?_
      rw [show nI N - nI (k + 1) + nI 1 = nI (N - k) from by rw [pk_sub (by omega), nI_add]; congr 1; omega]
      refine P_i2l (q := 40) dX0_manyWithUps_39 rfl ?_
      refine P_lmul (q := 41) dX0_manyWithUps_40 rfl ?_
      refine P_iload (q := 43) dX0_manyWithUps_41 rfl rfl ?_
      refine P_i2l (q := 44) dX0_manyWithUps_43 rfl ?_
      refine P_ldiv (q := 45) dX0_manyWithUps_44 rfl (nz64 k (by omega)) ?_
      refine P_lstore_n (q := 46) (L' := [_, _, _, _, _, _]) dX0_manyWithUps_45 rfl (by first | decide | exact lt_c (by decide)) rfl ?_
      refine P_iinc (q := 49) (L' := [_, _, _, _, _, _]) (v := nI (k + 1 + 1)) dX0_manyWithUps_46 rfl (by first | decide | exact lt_c (by decide)) rfl (nI_1 (k + 1)) rfl ?_
      refine P_goto (tgt := 26) dX0_manyWithUps_49 (by first | decide | exact lt_c (by decide)) ?_
      exact ih (k + 1) (by omega)
set_option maxRecDepth 100000 in
set_option maxHeartbeats 4000000 in
theorem t_mwu {σ0 : Sto} {A : St} (hS : SW σ0 1 A) {z : Int} (h1 : -2147483648 ≤ z) (h2 : z < 2147483648) : CD mX0_manyWithUps [.ref 1, .int (iI z)] (eN + 114) σ0 (some (.int (if 0 ≤ z ∧ z ≤ A.C * A.R then (chs (A.C * A.R) z.toNat).toInt32 else 0))) σ0 := by
  obtain ⟨hA, f, hs1, -⟩ := hS
  have hc : A.C * A.R ≤ 30 := Nat.mul_le_mul hA.1.2 hA.2.1.2
  have hcc : ((A.C * A.R : Nat) : Int) = A.C * A.R := Int.natCast_mul _ _
  refine CP_of (by decide +kernel) (Nat.le_of_ble_eq_true rfl) ?_
  change PW _ _ _ _ 0 [_, _, _, _, _, _] [] _ _ _ _
  refine P_aload_n (q := 1) dX0_manyWithUps_0 rfl rfl ?_
  refine P_get (q := 4) dX0_manyWithUps_1 rfl fX0_85 (by first | decide | exact lt_c (by decide)) (hs1) rfl ?_
  refine P_aload_n (q := 5) dX0_manyWithUps_4 rfl rfl ?_
  refine P_get (q := 8) dX0_manyWithUps_5 rfl fX0_90 (by first | decide | exact lt_c (by decide)) (hs1) rfl ?_
  refine P_imul (q := 9) dX0_manyWithUps_8 rfl ?_
  rw [pk_mul]
  refine P_istore_n (q := 10) (L' := [_, _, _, _, _, _]) dX0_manyWithUps_9 rfl (by first | decide | exact lt_c (by decide)) rfl ?_
  refine P_iload_n (q := 11) dX0_manyWithUps_10 rfl rfl ?_
  refine P_if_lt (q := 14) (tgt := 19) dX0_manyWithUps_11 rfl (by first | decide | exact lt_c (by decide)) (fun c_11 => ?_) (fun c_11 => ?_)
  · change iI z < iI 0 at c_11; rw [iI_lt (by omega) (by omega) (by omega) (by omega)] at c_11
    refine P_iconst (q := 20) (v := nI 0) dX0_manyWithUps_19 rfl (by decide +kernel) ?_
    refine P_iret dX0_manyWithUps_20 rfl (rfl) ?_
    exact ⟨rv_i (by rw [if_neg (by omega)]; rfl), rfl⟩
  · change ¬ iI z < iI 0 at c_11; rw [iI_lt (by omega) (by omega) (by omega) (by omega)] at c_11
    refine P_iload_n (q := 15) dX0_manyWithUps_14 rfl rfl ?_
    refine P_iload_n (q := 16) dX0_manyWithUps_15 rfl rfl ?_
    refine P_icmp_le (q := 19) (tgt := 21) dX0_manyWithUps_16 rfl (by first | decide | exact lt_c (by decide)) (fun c_16 => ?_) (fun c_16 => ?_)
    · rw [iI_nI, iI_le (by omega) (by omega) (by omega) (by omega)] at c_16
      refine P_lconst (q := 22) (v := lN 1) dX0_manyWithUps_21 rfl (by decide +kernel) ?_
      refine P_lstore_n (q := 23) (L' := [_, _, _, _, _, _]) dX0_manyWithUps_22 rfl (by first | decide | exact lt_c (by decide)) rfl ?_
      refine P_iconst (q := 24) (v := nI 1) dX0_manyWithUps_23 rfl (by decide +kernel) ?_
      refine P_istore (q := 26) (L' := [_, _, _, _, _, _]) dX0_manyWithUps_24 rfl (by first | decide | exact lt_c (by decide)) rfl ?_
      exact w_mwu hA (by omega) (by omega) hc z.toNat 0 (by omega)
    · rw [iI_nI, iI_le (by omega) (by omega) (by omega) (by omega)] at c_16
      refine P_iconst (q := 20) (v := nI 0) dX0_manyWithUps_19 rfl (by decide +kernel) ?_
      refine P_iret dX0_manyWithUps_20 rfl (rfl) ?_
      exact ⟨rv_i (by rw [if_neg (by omega)]; rfl), rfl⟩
