variable {eN : Nat}
/-! THE FIRST STRIP WITH THE LEAST -/
/-- the first place at which P holds -/
def fsA (P : Nat → Bool) : Nat → Nat → Nat
  | 0, i => i
  | n + 1, i => if P i = true then i else fsA P n (i + 1)
theorem fsA_at {P : Nat → Bool} : ∀ {n i : Nat}, (∃ q, i ≤ q ∧ q < i + n ∧ P q = true) → P (fsA P n i) = true ∧ i ≤ fsA P n i ∧ fsA P n i < i + n ∧ ∀ q, i ≤ q → q < fsA P n i → P q = false
  | 0, i, ⟨q, h1, h2, _⟩ => by omega
  | n + 1, i, ⟨q, h1, h2, h3⟩ => by
    rw [fsA]
    by_cases e : P i = true
    · rw [if_pos e]
      exact ⟨e, Nat.le_refl _, by omega, fun _ _ _ => by omega⟩
    · rw [if_neg e]
      have hq : q ≠ i := fun h => e (by rw [← h]; exact h3)
      obtain ⟨a, b, c, d⟩ := fsA_at (P := P) (n := n) (i := i + 1) ⟨q, by omega, by omega, h3⟩
      refine ⟨a, by omega, by omega, fun x hx1 hx2 => ?_⟩
      by_cases ex : x = i
      · subst ex; simpa using e
      · exact d x (by omega) hx2
def Md.tg (m : Md) (f c k p : Nat) : Bool := decide (m.cn f c k (kioN m.R p) = m.B f c k)
def Md.nx (m : Md) (f c k : Nat) : Nat := kioN m.R (fsA (m.tg f c k) m.K 0)
theorem upsN_or {sp : Nat → Nat} (h : ∀ c, sp c < 16) (n : Nat) : upsN sp n ||| sp n * 2 ^ (4 * n) = upsN sp (n + 1) := by
  rw [upsN_succ, Nat.two_pow_add_eq_or_of_lt (upsN_lt h n), Nat.or_comm, Nat.mul_comm]
set_option maxRecDepth 100000 in
set_option maxHeartbeats 4000000 in
theorem w_lc {σ0 : Sto} {m : Md} (hS : LsO σ0) (hP : PrW σ0 4 m) (hm : m.ok) : ∀ n j, j + 1 + n = m.K → ∀ σ, same σ0 σ (fun i => 69 ≤ i ∧ i ≤ 78) → GP σ 68 10 8 (fun _ _ => False) zz2 → PW mX2_leastCost 0 0 (fun v σ' => v = some (.int (nI (mnN m.L (m.K - 1)))) ∧ same σ0 σ' (fun i => 69 ≤ i ∧ i ≤ 78) ∧ GP σ' 68 10 8 (fun _ _ => False) zz2) 9 [some (.ref 67), some (.ref 4), some (.int (nI (mnN m.L j))), some (.int (nI (j + 1)))] [] (eN + 114) σ 0 0 := by
  have hK := Md.K_le hm
  have hC := hm.1
  obtain ⟨a, b, h67, hab⟩ := id hS
  intro n
  induction n with
  | zero =>
    intro j hj σ hs hB
    have h4 := (hs 4 (by omega)).trans hP.1
    have e : m.K - 1 = j := by omega
    refine P_iload_n (q := 10) dX2_leastCost_9 rfl rfl ?_
    refine P_aload_n (q := 11) dX2_leastCost_10 rfl rfl ?_
    refine P_get (q := 14) dX2_leastCost_11 rfl fX2_26 (by first | decide | exact lt_c (by decide)) (h4) rfl ?_
    refine P_icmp_ge (q := 17) (tgt := 34) dX2_leastCost_14 rfl (by first | decide | exact lt_c (by decide)) (fun c_14 => ?_) (fun c_14 => ?_)
    · rw [nI_leI (by omega) (by omega)] at c_14
      refine P_iload_n (q := 35) dX2_leastCost_34 rfl rfl ?_
      refine P_iret dX2_leastCost_35 rfl (rfl) ?_
      rw [e]; exact ⟨rfl, hs, hB⟩
    · exfalso; rw [nI_leI (by omega) (by omega)] at c_14; omega
  | succ n ih =>
    intro j hj σ hs hB
    have h4 := (hs 4 (by omega)).trans hP.1
    have hPσ := hP.congr (τ := σ) (fun i h1 h2 => hs i (by omega))
    have h67' := (hs 67 (by omega)).trans h67
    have hSσ : LsO σ := ⟨a, b, h67', hab⟩
    have q1 := Md.L_le hm (f := j + 1) (by omega)
    have q2 := Md.mnL_le hm (j := j)
    refine P_iload_n (q := 10) dX2_leastCost_9 rfl rfl ?_
    refine P_aload_n (q := 11) dX2_leastCost_10 rfl rfl ?_
    refine P_get (q := 14) dX2_leastCost_11 rfl fX2_26 (by first | decide | exact lt_c (by decide)) (h4) rfl ?_
    refine P_icmp_ge (q := 17) (tgt := 34) dX2_leastCost_14 rfl (by first | decide | exact lt_c (by decide)) (fun c_14 => ?_) (fun c_14 => ?_)
    · exfalso; rw [nI_leI (by omega) (by omega)] at c_14; omega
    · rw [nI_leI (by omega) (by omega)] at c_14
      refine P_iload_n (q := 18) dX2_leastCost_17 rfl rfl ?_
      refine P_aload_n (q := 19) dX2_leastCost_18 rfl rfl ?_
      refine P_aload_n (q := 20) dX2_leastCost_19 rfl rfl ?_
      refine P_iload_n (q := 21) dX2_leastCost_20 rfl rfl ?_
      refine P_callv (q := 24) dX2_leastCost_21 rfl (t_look hSσ hPσ hm (show j + 1 < m.K by omega) hB) kX2_36 rfl rfl (by first | decide | exact lt_c (by decide)) h67' rfl ⟨by decide, by decide⟩ (Nat.le_of_ble_eq_true rfl) ⟨Nat.le_refl _, Nat.le_refl _⟩ ?_
      rintro v σ1 ⟨rfl, t1, t2⟩
      refine P_mmin (q := 27) dX2_leastCost_24 rfl kX2_54 (by first | decide | exact lt_c (by decide)) (Nat.le_of_ble_eq_true rfl) ⟨Nat.le_refl _, Nat.le_refl _⟩ ?_
      rw [min_n (by omega) (by omega)]
      refine P_istore_n (q := 28) (L' := [_, _, _, _]) dX2_leastCost_27 rfl (by first | decide | exact lt_c (by decide)) rfl ?_
      refine P_iinc (q := 31) (L' := [_, _, _, _]) (v := nI (j + 1 + 1)) dX2_leastCost_28 rfl (by first | decide | exact lt_c (by decide)) rfl (nI_1 (j + 1)) rfl ?_
      refine P_goto (tgt := 9) dX2_leastCost_31 (by first | decide | exact lt_c (by decide)) ?_
      exact ih (j + 1) (by omega) σ1 (hs.trans t1) (t2.imp (fun i j h => h.elim))
set_option maxRecDepth 100000 in
set_option maxHeartbeats 4000000 in
theorem t_lcost {σ0 : Sto} {m : Md} (hS : LsO σ0) (hP : PrW σ0 4 m) (hm : m.ok) (hB : GP σ0 68 10 8 (fun _ _ => False) zz2) : CP mX2_leastCost 0 0 [.ref 67, .ref 4] (eN + 114) σ0 (fun v σ' => v = some (.int (nI (mnN m.L (m.K - 1)))) ∧ same σ0 σ' (fun i => 69 ≤ i ∧ i ≤ 78) ∧ GP σ' 68 10 8 (fun _ _ => False) zz2) := by
  have hK := Md.K_le hm
  have hC := hm.1
  obtain ⟨a, b, h67, hab⟩ := id hS
  refine CP_of (by decide +kernel) (Nat.le_of_ble_eq_true rfl) ?_
  change PW _ _ _ _ 0 [_, _, _, _] [] _ _ _ _
  refine P_aload_n (q := 1) dX2_leastCost_0 rfl rfl ?_
  refine P_aload_n (q := 2) dX2_leastCost_1 rfl rfl ?_
  refine P_iconst (q := 3) (v := nI 0) dX2_leastCost_2 rfl (by decide +kernel) ?_
  refine P_callv (q := 6) dX2_leastCost_3 rfl (t_look hS hP hm (show 0 < m.K by omega) hB) kX2_36 rfl rfl (by first | decide | exact lt_c (by decide)) h67 rfl ⟨by decide, by decide⟩ (Nat.le_of_ble_eq_true rfl) ⟨Nat.le_refl _, Nat.le_refl _⟩ ?_
  rintro v σ1 ⟨rfl, t1, t2⟩
  refine P_istore_n (q := 7) (L' := [_, _, _, _]) dX2_leastCost_6 rfl (by first | decide | exact lt_c (by decide)) rfl ?_
  refine P_iconst (q := 8) (v := nI 1) dX2_leastCost_7 rfl (by decide +kernel) ?_
  refine P_istore_n (q := 9) (L' := [_, _, _, _]) dX2_leastCost_8 rfl (by first | decide | exact lt_c (by decide)) rfl ?_
  exact w_lc hS hP hm (m.K - 1) 0 (by omega) σ1 t1 (t2.imp (fun i j h => h.elim))
