variable {eN : Nat}
/-! PRICES -/
def prc (p : Int) (u n : Nat) : Nat := if p < 0 then p.natAbs * (n - u) else p.natAbs * u
theorem prc_le {p : Int} {u n : Nat} (h : u ≤ n) : prc p u n ≤ p.natAbs * n := by
  unfold prc
  split
  · exact Nat.mul_le_mul_left _ (Nat.sub_le _ _)
  · exact Nat.mul_le_mul_left _ h
set_option maxRecDepth 100000 in
set_option maxHeartbeats 4000000 in
theorem t_price {n0 : Nat} {σ : Sto} {p : Int} {u n : Nat} (h1 : -2 ≤ p) (h2 : p ≤ 2) (hu : u ≤ n) : CD mX3_price [.int (iI p), .int (nI u), .int (nI n)] n0 σ (some (.int (nI (prc p u n)))) σ := by
  refine CP_of (by decide +kernel) (Nat.le_of_ble_eq_true rfl) ?_
  change PW _ _ _ _ 0 [_, _, _] [] _ _ _ _
  refine P_iload_n (q := 1) dX3_price_0 rfl rfl ?_
  refine P_if_ge (q := 4) (tgt := 13) dX3_price_1 rfl (by first | decide | exact lt_c (by decide)) (fun c_1 => ?_) (fun c_1 => ?_)
  · change iI 0 ≤ iI p at c_1; rw [iI_le (by omega) (by omega) (by omega) (by omega)] at c_1
    refine P_iload_n (q := 14) dX3_price_13 rfl rfl ?_
    refine P_iload_n (q := 15) dX3_price_14 rfl rfl ?_
    refine P_imul (q := 16) dX3_price_15 rfl ?_
    refine P_iret dX3_price_16 rfl (rfl) ?_
    exact ⟨rv_i (by unfold prc; first | (rw [if_pos (show p < 0 by omega), iI_neg, pk_sub hu, iI_nI, iI_nI, iI_mul, Int.natCast_mul]; congr 2; omega) | (rw [if_neg (show ¬ p < 0 by omega), iI_nI u, iI_nI, iI_mul, Int.natCast_mul]; congr 2; omega)), rfl⟩
  · change ¬ iI 0 ≤ iI p at c_1; rw [iI_le (by omega) (by omega) (by omega) (by omega)] at c_1
    refine P_iload_n (q := 5) dX3_price_4 rfl rfl ?_
    refine P_ineg (q := 6) dX3_price_5 rfl ?_
    refine P_iload_n (q := 7) dX3_price_6 rfl rfl ?_
    refine P_iload_n (q := 8) dX3_price_7 rfl rfl ?_
    refine P_isub (q := 9) dX3_price_8 rfl ?_
    refine P_imul (q := 10) dX3_price_9 rfl ?_
    refine P_goto (tgt := 16) dX3_price_10 (by first | decide | exact lt_c (by decide)) ?_
    refine P_iret dX3_price_16 rfl (rfl) ?_
    exact ⟨rv_i (by unfold prc; first | (rw [if_pos (show p < 0 by omega), iI_neg, pk_sub hu, iI_nI, iI_nI, iI_mul, Int.natCast_mul]; congr 2; omega) | (rw [if_neg (show ¬ p < 0 by omega), iI_nI u, iI_nI, iI_mul, Int.natCast_mul]; congr 2; omega)), rfl⟩
/-- a grid of which some places are known -/
def GP (σ : Sto) (q N n : Nat) (P : Nat → Nat → Prop) (F : Nat → Nat → Nat) : Prop := σ q = grR q N ∧ ∀ i, i < N → ∃ g : Nat → Int32, σ (q + 1 + i) = pI .int n g ∧ ∀ j, P i j → g j = nI (F i j)
theorem GP.congr {σ τ : Sto} {q N n : Nat} {P : Nat → Nat → Prop} {F : Nat → Nat → Nat} (h : GP σ q N n P F) (he : ∀ k, q ≤ k → k ≤ q + N → τ k = σ k) : GP τ q N n P F := by
  refine ⟨(he q (by omega) (by omega)).trans h.1, fun i hi => ?_⟩
  obtain ⟨g, h1, h2⟩ := h.2 i hi
  exact ⟨g, (he _ (by omega) (by omega)).trans h1, h2⟩
theorem GP.set {σ : Sto} {q N n : Nat} {P P' : Nat → Nat → Prop} {F F' : Nat → Nat → Nat} (h : GP σ q N n P F) {i0 j0 : Nat} {g : Nat → Int32} {v : Int32} (hg : σ (q + 1 + i0) = pI .int n g) (hi0 : i0 < N) (hP : ∀ i j, P' i j → (i = i0 ∧ j = j0 ∧ v = nI (F' i j)) ∨ (¬ (i = i0 ∧ j = j0) ∧ P i j ∧ F' i j = F i j)) : GP (va_up σ (q + 1 + i0) (pI .int n (upd g j0 v))) q N n P' F' := by
  refine ⟨(up_ne _ _ (by omega)).trans h.1, fun i hi => ?_⟩
  by_cases e : i = i0
  · subst e
    obtain ⟨g', h1, h2⟩ := h.2 i hi
    rw [hg] at h1
    cases h1
    refine ⟨_, up_at _ _ _, fun j hj => ?_⟩
    unfold upd
    rcases hP i j hj with ⟨-, e2, e3⟩ | ⟨e1, e2, e3⟩
    · rw [if_pos e2, e3]
    · rw [if_neg (fun q => e1 ⟨rfl, q⟩), h2 j e2, e3]
  · obtain ⟨g', h1, h2⟩ := h.2 i hi
    refine ⟨g', (up_ne _ _ (by omega)).trans h1, fun j hj => ?_⟩
    rcases hP i j hj with ⟨e1, -, -⟩ | ⟨-, e2, e3⟩
    · exact absurd e1 e
    · rw [h2 j e2, e3]
theorem GP.imp {σ : Sto} {q N n : Nat} {P P' : Nat → Nat → Prop} {F F' : Nat → Nat → Nat} (h : GP σ q N n P F) (hP : ∀ i j, P' i j → P i j ∧ F' i j = F i j) : GP σ q N n P' F' := by
  refine ⟨h.1, fun i hi => ?_⟩
  obtain ⟨g, h1, h2⟩ := h.2 i hi
  exact ⟨g, h1, fun j hj => by rw [h2 j (hP i j hj).1, (hP i j hj).2]⟩
theorem GP.gw {σ : Sto} {q N n I J : Nat} {F : Nat → Nat → Nat} (h : GP σ q N n (fun i j => i < I ∧ j < J) F) : GW σ q N n I J F := by
  refine ⟨h.1, fun i hi => ?_⟩
  obtain ⟨g, h1, h2⟩ := h.2 i hi
  exact ⟨g, h1, fun a j b => h2 j ⟨a, b⟩⟩
theorem GW.gp {σ : Sto} {q N n I J : Nat} {F F' : Nat → Nat → Nat} (h : GW σ q N n I J F) : GP σ q N n (fun _ _ => False) F' := by
  refine ⟨h.1, fun i hi => ?_⟩
  obtain ⟨g, h1, h2⟩ := h.2 i hi
  exact ⟨g, h1, fun j hj => hj.elim⟩
def cbF (p : Int) (R s t : Nat) : Nat := prc p (pcN 3 (s ^^^ t)) R
def caF (p : Int) (R k : Nat) : Nat := prc p (pcN 3 ((k ^^^ (k / 2)) &&& (2 ^ (R - 1) - 1))) (R - 1)
def chk2 (R s t : Nat) : Bool := decide (pcN 3 (s ^^^ t) ≤ R ∧ s ^^^ t < 8 ∧ pcN 3 ((s ^^^ (s / 2)) &&& (2 ^ (R - 1) - 1)) ≤ R - 1 ∧ (s ^^^ (s / 2)) &&& (2 ^ (R - 1) - 1) < 8 ∧ (nI s ^^^ nI t) = nI (s ^^^ t) ∧ ((nI s ^^^ (nI s >>> (nI 1 &&& 31))) &&& ((nI 1 <<< (nI (R - 1) &&& 31)) - nI 1)) = nI ((s ^^^ (s / 2)) &&& (2 ^ (R - 1) - 1)))
theorem chk2_all : ((List.range 4).all fun R => R == 0 || (List.range (2 ^ R)).all fun s => (List.range (2 ^ R)).all fun t => chk2 R s t) = true := by decide +kernel
theorem kd_dec {R s t : Nat} (h1 : 1 ≤ R) (h2 : R ≤ 3) (hs : s < 2 ^ R) (ht : t < 2 ^ R) : pcN 3 (s ^^^ t) ≤ R ∧ s ^^^ t < 8 ∧ pcN 3 ((s ^^^ (s / 2)) &&& (2 ^ (R - 1) - 1)) ≤ R - 1 ∧ (s ^^^ (s / 2)) &&& (2 ^ (R - 1) - 1) < 8 ∧ (nI s ^^^ nI t) = nI (s ^^^ t) ∧ ((nI s ^^^ (nI s >>> (nI 1 &&& 31))) &&& ((nI 1 <<< (nI (R - 1) &&& 31)) - nI 1)) = nI ((s ^^^ (s / 2)) &&& (2 ^ (R - 1) - 1)) := by
  have h := List.all_eq_true.mp chk2_all R (List.mem_range.mpr (by omega))
  rcases Bool.or_eq_true_iff.mp h with h | h
  · have : R = 0 := by simpa using h
    omega
  · have h := List.all_eq_true.mp h s (List.mem_range.mpr hs)
    have h := List.all_eq_true.mp h t (List.mem_range.mpr ht)
    exact of_decide_eq_true h
/-- the object of prices while it is made -/
def prX (C R : Nat) (v3 v4 : Value) (b : Nat) : PC := pO 3 [.int (nI C), .int (nI R), .int (nI (2 ^ R)), v3, v4, .ref (b + 1), .ref (b + 2), .ref (b + 13)]
set_option maxRecDepth 100000 in
set_option maxHeartbeats 4000000 in
theorem w_pa1 {σ0 : Sto} {b C R : Nat} {v3 v4 : Value} {p : Int} (hb : b = 4 ∨ b = 26) (hC : C ≤ 10) (hR1 : 1 ≤ R) (hR : R ≤ 3) (hp1 : -2 ≤ p) (hp2 : p ≤ 2) (h0 : σ0 b = prX C R v3 v4 b) {k : Nat} (hk : k < 2 ^ R) (K : ∀ σ, same σ0 σ (fun i => b + 14 ≤ i ∧ i ≤ b + 21) → GP σ (b + 13) 8 8 (fun i j => i < k + 1 ∧ j < 2 ^ R) (cbF p R) → ∀ x3 : Option Value, PW mX3_priceAlong 0 0 (fun v σ' => v = none ∧ same σ0 σ' (fun i => b + 14 ≤ i ∧ i ≤ b + 21) ∧ GP σ' (b + 13) 8 8 (fun i j => i < 2 ^ R ∧ j < 2 ^ R) (cbF p R)) 2 [some (.ref b), some (.int (iI p)), some (.int (nI (k + 1))), x3] [] (eN + 114) σ 0 0) : ∀ n j, j + n = 2 ^ R → ∀ σ, same σ0 σ (fun i => b + 14 ≤ i ∧ i ≤ b + 21) → GP σ (b + 13) 8 8 (fun i y => (i < k ∧ y < 2 ^ R) ∨ (i = k ∧ y < j)) (cbF p R) → PW mX3_priceAlong 0 0 (fun v σ' => v = none ∧ same σ0 σ' (fun i => b + 14 ≤ i ∧ i ≤ b + 21) ∧ GP σ' (b + 13) 8 8 (fun i j => i < 2 ^ R ∧ j < 2 ^ R) (cbF p R)) 12 [some (.ref b), some (.int (iI p)), some (.int (nI k)), some (.int (nI j))] [] (eN + 114) σ 0 0 := by
  have h8 := pow8 hR
  intro n
  induction n with
  | zero =>
    intro j hj σ hs hG
    have e : j = 2 ^ R := by omega
    subst e
    have hb0 := (hs b (by omega)).trans h0
    refine P_iload_n (q := 13) dX3_priceAlong_12 rfl rfl ?_
    refine P_aload_n (q := 14) dX3_priceAlong_13 rfl rfl ?_
    refine P_get (q := 17) dX3_priceAlong_14 rfl fX3_18 (by omega) (hb0) rfl ?_
    refine P_icmp_ge (q := 20) (tgt := 48) dX3_priceAlong_17 rfl (by first | decide | exact lt_c (by decide)) (fun c_17 => ?_) (fun c_17 => ?_)
    · rw [nI_leI (by omega) (by omega)] at c_17
      refine P_iinc (q := 51) (L' := [_, _, _, _]) (v := nI (k + 1)) dX3_priceAlong_48 rfl (by first | decide | exact lt_c (by decide)) rfl (nI_1 k) rfl ?_
      refine P_goto (tgt := 2) dX3_priceAlong_51 (by first | decide | exact lt_c (by decide)) ?_
      exact K σ hs (hG.imp (fun i j h => ⟨by omega, rfl⟩)) _
    · exfalso; rw [nI_leI (by omega) (by omega)] at c_17; omega
  | succ n ih =>
    intro j hj σ hs hG
    have hb0 := (hs b (by omega)).trans h0
    obtain ⟨g, g1, -⟩ := hG.2 k (by omega)
    obtain ⟨d1, d2, -, -, d3, -⟩ := kd_dec hR1 hR hk (show j < 2 ^ R by omega)
    refine P_iload_n (q := 13) dX3_priceAlong_12 rfl rfl ?_
    refine P_aload_n (q := 14) dX3_priceAlong_13 rfl rfl ?_
    refine P_get (q := 17) dX3_priceAlong_14 rfl fX3_18 (by omega) (hb0) rfl ?_
    refine P_icmp_ge (q := 20) (tgt := 48) dX3_priceAlong_17 rfl (by first | decide | exact lt_c (by decide)) (fun c_17 => ?_) (fun c_17 => ?_)
    · exfalso; rw [nI_leI (by omega) (by omega)] at c_17; omega
    · rw [nI_leI (by omega) (by omega)] at c_17
      refine P_aload_n (q := 21) dX3_priceAlong_20 rfl rfl ?_
      refine P_get (q := 24) dX3_priceAlong_21 rfl fX3_37 (by omega) (hb0) rfl ?_
      refine P_iload_n (q := 25) dX3_priceAlong_24 rfl rfl ?_
      refine P_qald (q := 26) (j := k) (b := b + 13 + 1 + k) 2 (fun _ => rfl) rfl dX3_priceAlong_25 rfl (by omega) (hG.1) (rfl) (by omega) (by first | decide | exact lt_c (by decide)) (grR_at (by omega)) ?_
      refine P_iload_n (q := 27) dX3_priceAlong_26 rfl rfl ?_
      refine P_iload_n (q := 28) dX3_priceAlong_27 rfl rfl ?_
      refine P_iload_n (q := 29) dX3_priceAlong_28 rfl rfl ?_
      refine P_iload_n (q := 30) dX3_priceAlong_29 rfl rfl ?_
      refine P_ixor (q := 31) dX3_priceAlong_30 rfl ?_
      rw [d3]
      refine P_cs1 (q := 34) dX3_priceAlong_31 rfl kX3_70 (t_bc32 _ d2) rfl rfl ⟨by decide, by decide⟩ (Nat.le_of_ble_eq_true rfl) ⟨Nat.le_refl _, Nat.le_refl _⟩ ?_
      refine P_aload_n (q := 35) dX3_priceAlong_34 rfl rfl ?_
      refine P_get (q := 38) dX3_priceAlong_35 rfl fX3_15 (by omega) (hb0) rfl ?_
      refine P_cs1 (q := 41) dX3_priceAlong_38 rfl kX3_75 (t_price hp1 hp2 d1) rfl rfl ⟨by decide, by decide⟩ (Nat.le_of_ble_eq_true rfl) ⟨Nat.le_refl _, Nat.le_refl _⟩ ?_
      refine P_iast (q := 42) (j := j) dX3_priceAlong_41 rfl (by omega) (g1) (rfl) (by omega) (by first | decide | exact lt_c (by decide)) (rfl) (rfl) ?_
      refine P_iinc (q := 45) (L' := [_, _, _, _]) (v := nI (j + 1)) dX3_priceAlong_42 rfl (by first | decide | exact lt_c (by decide)) rfl (nI_1 j) rfl ?_
      refine P_goto (tgt := 12) dX3_priceAlong_45 (by first | decide | exact lt_c (by decide)) ?_
      exact ih (j + 1) (by omega) _ (hs.up (by omega)) (hG.set g1 (by omega) (fun i y h => (Decidable.em (i = k ∧ y = j)).elim (fun e => Or.inl ⟨e.1, e.2, by rw [e.1, e.2]; rfl⟩) (fun e => Or.inr ⟨e, by omega, rfl⟩)))
set_option maxRecDepth 100000 in
set_option maxHeartbeats 4000000 in
theorem w_pa0 {σ0 : Sto} {b C R : Nat} {v3 v4 : Value} {p : Int} (hb : b = 4 ∨ b = 26) (hC : C ≤ 10) (hR1 : 1 ≤ R) (hR : R ≤ 3) (hp1 : -2 ≤ p) (hp2 : p ≤ 2) (h0 : σ0 b = prX C R v3 v4 b) : ∀ n k, k + n = 2 ^ R → ∀ σ, same σ0 σ (fun i => b + 14 ≤ i ∧ i ≤ b + 21) → GP σ (b + 13) 8 8 (fun i j => i < k ∧ j < 2 ^ R) (cbF p R) → ∀ x3 : Option Value, PW mX3_priceAlong 0 0 (fun v σ' => v = none ∧ same σ0 σ' (fun i => b + 14 ≤ i ∧ i ≤ b + 21) ∧ GP σ' (b + 13) 8 8 (fun i j => i < 2 ^ R ∧ j < 2 ^ R) (cbF p R)) 2 [some (.ref b), some (.int (iI p)), some (.int (nI k)), x3] [] (eN + 114) σ 0 0 := by
  have h8 := pow8 hR
  intro n
  induction n with
  | zero =>
    intro k hk σ hs hG x3
    have e : k = 2 ^ R := by omega
    subst e
    have hb0 := (hs b (by omega)).trans h0
    refine P_iload_n (q := 3) dX3_priceAlong_2 rfl rfl ?_
    refine P_aload_n (q := 4) dX3_priceAlong_3 rfl rfl ?_
    refine P_get (q := 7) dX3_priceAlong_4 rfl fX3_18 (by omega) (hb0) rfl ?_
    refine P_icmp_ge (q := 10) (tgt := 54) dX3_priceAlong_7 rfl (by first | decide | exact lt_c (by decide)) (fun c_7 => ?_) (fun c_7 => ?_)
    · rw [nI_leI (by omega) (by omega)] at c_7
      refine P_vret dX3_priceAlong_54 rfl ?_
      exact ⟨rfl, hs, hG⟩
    · exfalso; rw [nI_leI (by omega) (by omega)] at c_7; omega
  | succ n ih =>
    intro k hk σ hs hG x3
    have hb0 := (hs b (by omega)).trans h0
    refine P_iload_n (q := 3) dX3_priceAlong_2 rfl rfl ?_
    refine P_aload_n (q := 4) dX3_priceAlong_3 rfl rfl ?_
    refine P_get (q := 7) dX3_priceAlong_4 rfl fX3_18 (by omega) (hb0) rfl ?_
    refine P_icmp_ge (q := 10) (tgt := 54) dX3_priceAlong_7 rfl (by first | decide | exact lt_c (by decide)) (fun c_7 => ?_) (fun c_7 => ?_)
    · exfalso; rw [nI_leI (by omega) (by omega)] at c_7; omega
    · rw [nI_leI (by omega) (by omega)] at c_7
      refine P_iconst (q := 11) (v := nI 0) dX3_priceAlong_10 rfl (by decide +kernel) ?_
      refine P_istore_n (q := 12) (L' := [_, _, _, _]) dX3_priceAlong_11 rfl (by first | decide | exact lt_c (by decide)) rfl ?_
      exact w_pa1 hb hC hR1 hR hp1 hp2 h0 (show k < 2 ^ R by omega) (fun σ h1 h2 x3 => ih (k + 1) (by omega) σ h1 h2 x3) (2 ^ R) 0 (by omega) σ hs (hG.imp (fun i j h => ⟨by omega, rfl⟩))
set_option maxRecDepth 100000 in
set_option maxHeartbeats 4000000 in
theorem t_priceAlong {σ0 : Sto} {b C R : Nat} {v3 v4 : Value} {p : Int} (hb : b = 4 ∨ b = 26) (hC : C ≤ 10) (hR1 : 1 ≤ R) (hR : R ≤ 3) (hp1 : -2 ≤ p) (hp2 : p ≤ 2) (h0 : σ0 b = prX C R v3 v4 b) {F : Nat → Nat → Nat} (hG : GP σ0 (b + 13) 8 8 (fun _ _ => False) F) : CP mX3_priceAlong 0 0 [.ref b, .int (iI p)] (eN + 114) σ0 (fun v σ' => v = none ∧ same σ0 σ' (fun i => b + 14 ≤ i ∧ i ≤ b + 21) ∧ GP σ' (b + 13) 8 8 (fun i j => i < 2 ^ R ∧ j < 2 ^ R) (cbF p R)) := by
  refine CP_of (by decide +kernel) (Nat.le_of_ble_eq_true rfl) ?_
  change PW _ _ _ _ 0 [_, _, _, _] [] _ _ _ _
  refine P_iconst (q := 1) (v := nI 0) dX3_priceAlong_0 rfl (by decide +kernel) ?_
  refine P_istore_n (q := 2) (L' := [_, _, _, _]) dX3_priceAlong_1 rfl (by first | decide | exact lt_c (by decide)) rfl ?_
  exact w_pa0 hb hC hR1 hR hp1 hp2 h0 (2 ^ R) 0 (by omega) σ0 same.rf (hG.imp (fun i j h => absurd h.1 (by omega))) _
set_option maxRecDepth 100000 in
set_option maxHeartbeats 4000000 in
theorem w_px1 {σ0 : Sto} {b C R : Nat} {v3 v4 : Value} {p : Int} (hb : b = 4 ∨ b = 26) (hC : C ≤ 10) (hR1 : 1 ≤ R) (hR : R ≤ 3) (hp1 : -2 ≤ p) (hp2 : p ≤ 2) (h0 : σ0 b = prX C R v3 v4 b) {k : Nat} (hk : k < 2 ^ R) (K : ∀ σ, same σ0 σ (fun i => b + 3 ≤ i ∧ i ≤ b + 12) → GP σ (b + 2) 10 8 (fun i j => i < C ∧ j < k + 1) (fun _ j => caF p R j) → ∀ x4 x5 : Option Value, PW mX3_priceAcross 0 0 (fun v σ' => v = none ∧ same σ0 σ' (fun i => b + 3 ≤ i ∧ i ≤ b + 12) ∧ GP σ' (b + 2) 10 8 (fun i j => i < C ∧ j < 2 ^ R) (fun _ j => caF p R j)) 9 [some (.ref b), some (.int (iI p)), some (.int (nI (R - 1))), some (.int (nI (k + 1))), x4, x5] [] (eN + 114) σ 0 0) : ∀ n c, c + n = C → ∀ σ, same σ0 σ (fun i => b + 3 ≤ i ∧ i ≤ b + 12) → GP σ (b + 2) 10 8 (fun i j => i < C ∧ (j < k ∨ (j = k ∧ i < c))) (fun _ j => caF p R j) → PW mX3_priceAcross 0 0 (fun v σ' => v = none ∧ same σ0 σ' (fun i => b + 3 ≤ i ∧ i ≤ b + 12) ∧ GP σ' (b + 2) 10 8 (fun i j => i < C ∧ j < 2 ^ R) (fun _ j => caF p R j)) 36 [some (.ref b), some (.int (iI p)), some (.int (nI (R - 1))), some (.int (nI k)), some (.int (nI (pcN 3 ((k ^^^ (k / 2)) &&& (2 ^ (R - 1) - 1))))), some (.int (nI c))] [] (eN + 114) σ 0 0 := by
  have h8 := pow8 hR
  obtain ⟨-, -, d1, -⟩ := kd_dec hR1 hR hk hk
  intro n
  induction n with
  | zero =>
    intro c hc σ hs hG
    have e : c = C := by omega
    subst e
    have hb0 := (hs b (by omega)).trans h0
    refine P_iload (q := 38) dX3_priceAcross_36 rfl rfl ?_
    refine P_aload_n (q := 39) dX3_priceAcross_38 rfl rfl ?_
    refine P_get (q := 42) dX3_priceAcross_39 rfl fX3_9 (by omega) (hb0) rfl ?_
    refine P_icmp_ge (q := 45) (tgt := 67) dX3_priceAcross_42 rfl (by first | decide | exact lt_c (by decide)) (fun c_42 => ?_) (fun c_42 => ?_)
    · rw [nI_leI (by omega) (by omega)] at c_42
      refine P_iinc (q := 70) (L' := [_, _, _, _, _, _]) (v := nI (k + 1)) dX3_priceAcross_67 rfl (by first | decide | exact lt_c (by decide)) rfl (nI_1 k) rfl ?_
      refine P_goto (tgt := 9) dX3_priceAcross_70 (by first | decide | exact lt_c (by decide)) ?_
      exact K σ hs (hG.imp (fun i j h => ⟨by omega, rfl⟩)) _ _
    · exfalso; rw [nI_leI (by omega) (by omega)] at c_42; omega
  | succ n ih =>
    intro c hc σ hs hG
    have hb0 := (hs b (by omega)).trans h0
    obtain ⟨g, g1, -⟩ := hG.2 c (by omega)
    refine P_iload (q := 38) dX3_priceAcross_36 rfl rfl ?_
    refine P_aload_n (q := 39) dX3_priceAcross_38 rfl rfl ?_
    refine P_get (q := 42) dX3_priceAcross_39 rfl fX3_9 (by omega) (hb0) rfl ?_
    refine P_icmp_ge (q := 45) (tgt := 67) dX3_priceAcross_42 rfl (by first | decide | exact lt_c (by decide)) (fun c_42 => ?_) (fun c_42 => ?_)
    · exfalso; rw [nI_leI (by omega) (by omega)] at c_42; omega
    · rw [nI_leI (by omega) (by omega)] at c_42
      refine P_aload_n (q := 46) dX3_priceAcross_45 rfl rfl ?_
      refine P_get (q := 49) dX3_priceAcross_46 rfl fX3_34 (by omega) (hb0) rfl ?_
      refine P_iload (q := 51) dX3_priceAcross_49 rfl rfl ?_
      refine P_qald (q := 52) (j := c) (b := b + 2 + 1 + c) 2 (fun _ => rfl) rfl dX3_priceAcross_51 rfl (by omega) (hG.1) (rfl) (by omega) (by first | decide | exact lt_c (by decide)) (grR_at (by omega)) ?_
      refine P_iload_n (q := 53) dX3_priceAcross_52 rfl rfl ?_
      refine P_iload_n (q := 54) dX3_priceAcross_53 rfl rfl ?_
      refine P_iload (q := 56) dX3_priceAcross_54 rfl rfl ?_
      refine P_iload_n (q := 57) dX3_priceAcross_56 rfl rfl ?_
      refine P_cs1 (q := 60) dX3_priceAcross_57 rfl kX3_75 (t_price hp1 hp2 d1) rfl rfl ⟨by decide, by decide⟩ (Nat.le_of_ble_eq_true rfl) ⟨Nat.le_refl _, Nat.le_refl _⟩ ?_
      refine P_iast (q := 61) (j := k) dX3_priceAcross_60 rfl (by omega) (g1) (rfl) (by omega) (by first | decide | exact lt_c (by decide)) (rfl) (rfl) ?_
      refine P_iinc (q := 64) (L' := [_, _, _, _, _, _]) (v := nI (c + 1)) dX3_priceAcross_61 rfl (by first | decide | exact lt_c (by decide)) rfl (nI_1 c) rfl ?_
      refine P_goto (tgt := 36) dX3_priceAcross_64 (by first | decide | exact lt_c (by decide)) ?_
      exact ih (c + 1) (by omega) _ (hs.up (by omega)) (hG.set g1 (by omega) (fun i y h => (Decidable.em (i = c ∧ y = k)).elim (fun e => Or.inl ⟨e.1, e.2, by rw [e.2]; rfl⟩) (fun e => Or.inr ⟨e, by omega, rfl⟩)))
set_option maxRecDepth 100000 in
set_option maxHeartbeats 4000000 in
theorem w_px0 {σ0 : Sto} {b C R : Nat} {v3 v4 : Value} {p : Int} (hb : b = 4 ∨ b = 26) (hC : C ≤ 10) (hR1 : 1 ≤ R) (hR : R ≤ 3) (hp1 : -2 ≤ p) (hp2 : p ≤ 2) (h0 : σ0 b = prX C R v3 v4 b) : ∀ n k, k + n = 2 ^ R → ∀ σ, same σ0 σ (fun i => b + 3 ≤ i ∧ i ≤ b + 12) → GP σ (b + 2) 10 8 (fun i j => i < C ∧ j < k) (fun _ j => caF p R j) → ∀ x4 x5 : Option Value, PW mX3_priceAcross 0 0 (fun v σ' => v = none ∧ same σ0 σ' (fun i => b + 3 ≤ i ∧ i ≤ b + 12) ∧ GP σ' (b + 2) 10 8 (fun i j => i < C ∧ j < 2 ^ R) (fun _ j => caF p R j)) 9 [some (.ref b), some (.int (iI p)), some (.int (nI (R - 1))), some (.int (nI k)), x4, x5] [] (eN + 114) σ 0 0 := by
  have h8 := pow8 hR
  intro n
  induction n with
  | zero =>
    intro k hk σ hs hG x4 x5
    have e : k = 2 ^ R := by omega
    subst e
    have hb0 := (hs b (by omega)).trans h0
    refine P_iload_n (q := 10) dX3_priceAcross_9 rfl rfl ?_
    refine P_aload_n (q := 11) dX3_priceAcross_10 rfl rfl ?_
    refine P_get (q := 14) dX3_priceAcross_11 rfl fX3_18 (by omega) (hb0) rfl ?_
    refine P_icmp_ge (q := 17) (tgt := 73) dX3_priceAcross_14 rfl (by first | decide | exact lt_c (by decide)) (fun c_14 => ?_) (fun c_14 => ?_)
    · rw [nI_leI (by omega) (by omega)] at c_14
      refine P_vret dX3_priceAcross_73 rfl ?_
      exact ⟨rfl, hs, hG⟩
    · exfalso; rw [nI_leI (by omega) (by omega)] at c_14; omega
  | succ n ih =>
    intro k hk σ hs hG x4 x5
    have hb0 := (hs b (by omega)).trans h0
    obtain ⟨-, -, d1, d2, -, d3⟩ := kd_dec hR1 hR (show k < 2 ^ R by omega) (show k < 2 ^ R by omega)
    refine P_iload_n (q := 10) dX3_priceAcross_9 rfl rfl ?_
    refine P_aload_n (q := 11) dX3_priceAcross_10 rfl rfl ?_
    refine P_get (q := 14) dX3_priceAcross_11 rfl fX3_18 (by omega) (hb0) rfl ?_
    refine P_icmp_ge (q := 17) (tgt := 73) dX3_priceAcross_14 rfl (by first | decide | exact lt_c (by decide)) (fun c_14 => ?_) (fun c_14 => ?_)
    · exfalso; rw [nI_leI (by omega) (by omega)] at c_14; omega
    · rw [nI_leI (by omega) (by omega)] at c_14
      refine P_iload_n (q := 18) dX3_priceAcross_17 rfl rfl ?_
      refine P_iload_n (q := 19) dX3_priceAcross_18 rfl rfl ?_
      refine P_iconst (q := 20) (v := nI 1) dX3_priceAcross_19 rfl (by decide +kernel) ?_
      refine P_ishr (q := 21) dX3_priceAcross_20 rfl ?_
      refine P_ixor (q := 22) dX3_priceAcross_21 rfl ?_
      refine P_iconst (q := 23) (v := nI 1) dX3_priceAcross_22 rfl (by decide +kernel) ?_
      refine P_iload_n (q := 24) dX3_priceAcross_23 rfl rfl ?_
      refine P_ishl (q := 25) dX3_priceAcross_24 rfl ?_
      refine P_iconst (q := 26) (v := nI 1) dX3_priceAcross_25 rfl (by decide +kernel) ?_
      refine P_isub (q := 27) dX3_priceAcross_26 rfl ?_
      refine P_iand (q := 28) dX3_priceAcross_27 rfl ?_
      rw [d3]
      refine P_cs1 (q := 31) dX3_priceAcross_28 rfl kX3_70 (t_bc32 _ d2) rfl rfl ⟨by decide, by decide⟩ (Nat.le_of_ble_eq_true rfl) ⟨Nat.le_refl _, Nat.le_refl _⟩ ?_
      refine P_istore (q := 33) (L' := [_, _, _, _, _, _]) dX3_priceAcross_31 rfl (by first | decide | exact lt_c (by decide)) rfl ?_
      refine P_iconst (q := 34) (v := nI 0) dX3_priceAcross_33 rfl (by decide +kernel) ?_
      refine P_istore (q := 36) (L' := [_, _, _, _, _, _]) dX3_priceAcross_34 rfl (by first | decide | exact lt_c (by decide)) rfl ?_
      exact w_px1 hb hC hR1 hR hp1 hp2 h0 (show k < 2 ^ R by omega) (fun σ h1 h2 x4 x5 => ih (k + 1) (by omega) σ h1 h2 x4 x5) C 0 (by omega) σ hs (hG.imp (fun i j h => ⟨by omega, rfl⟩))
set_option maxRecDepth 100000 in
set_option maxHeartbeats 4000000 in
theorem t_priceAcross {σ0 : Sto} {b C R : Nat} {v3 v4 : Value} {p : Int} (hb : b = 4 ∨ b = 26) (hC : C ≤ 10) (hR1 : 1 ≤ R) (hR : R ≤ 3) (hp1 : -2 ≤ p) (hp2 : p ≤ 2) (h0 : σ0 b = prX C R v3 v4 b) {F : Nat → Nat → Nat} (hG : GP σ0 (b + 2) 10 8 (fun _ _ => False) F) : CP mX3_priceAcross 0 0 [.ref b, .int (iI p)] (eN + 114) σ0 (fun v σ' => v = none ∧ same σ0 σ' (fun i => b + 3 ≤ i ∧ i ≤ b + 12) ∧ GP σ' (b + 2) 10 8 (fun i j => i < C ∧ j < 2 ^ R) (fun _ j => caF p R j)) := by
  refine CP_of (by decide +kernel) (Nat.le_of_ble_eq_true rfl) ?_
  change PW _ _ _ _ 0 [_, _, _, _, _, _] [] _ _ _ _
  refine P_aload_n (q := 1) dX3_priceAcross_0 rfl rfl ?_
  refine P_get (q := 4) dX3_priceAcross_1 rfl fX3_15 (by omega) (h0) rfl ?_
  refine P_iconst (q := 5) (v := nI 1) dX3_priceAcross_4 rfl (by decide +kernel) ?_
  refine P_isub (q := 6) dX3_priceAcross_5 rfl ?_
  rw [pk_sub (by omega)]
  refine P_istore_n (q := 7) (L' := [_, _, _, _, _, _]) dX3_priceAcross_6 rfl (by first | decide | exact lt_c (by decide)) rfl ?_
  refine P_iconst (q := 8) (v := nI 0) dX3_priceAcross_7 rfl (by decide +kernel) ?_
  refine P_istore_n (q := 9) (L' := [_, _, _, _, _, _]) dX3_priceAcross_8 rfl (by first | decide | exact lt_c (by decide)) rfl ?_
  exact w_px0 hb hC hR1 hR hp1 hp2 h0 (2 ^ R) 0 (by omega) σ0 same.rf (hG.imp (fun i j h => absurd h.2 (by omega))) _ _
