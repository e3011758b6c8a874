variable {eN : Nat}
/-! THE WORLD OF THE CLASS in parts: a strip with its fields behind it; the history; the text -/
def SW (σ : Sto) (a : Nat) (B : St) : Prop := B.ok ∧ ∃ f : Nat → Int32, σ a = stO B (a + 1) ∧ σ (a + 1) = pI .int 40 f ∧ stF B f
theorem SW.congr {σ τ : Sto} {a : Nat} {B : St} (h : SW σ a B) (h1 : τ a = σ a) (h2 : τ (a + 1) = σ (a + 1)) : SW τ a B := by
  obtain ⟨hB, f, e1, e2, e3⟩ := h
  exact ⟨hB, f, h1.trans e1, h2.trans e2, e3⟩
theorem stF_cpy {B : St} {f g : Nat → Int32} (hB : B.ok) (h : stF B f) : stF B (va_cpy f g 0 0 40) := fun c r hc hr => by
  have hC := hB.1.2
  have hR := hB.2.1.2
  rw [pk_cpy_in (by omega) (by omega), show 0 + (4 * c + r - 0) = 4 * c + r by omega]
  exact h c r hc hr
theorem SW_copy {σ : Sto} {a b : Nat} {A : St} (hA : SW σ a A) (hab : a + 1 < b ∨ b + 1 < a) {f g : Nat → Int32} (hf : σ (a + 1) = pI .int 40 f) (hff : stF A f) : SW (va_up (va_up σ b (stO A (b + 1))) (b + 1) (pI .int 40 (va_cpy f g 0 0 40))) b A :=
  ⟨hA.1, _, (up_ne _ _ (by omega)).trans (up_at _ _ _), up_at _ _ _, stF_cpy hA.1 hff⟩
def hsR : PC := pR (.object "SpinStrips$Strip") 4 (fun j => if j < 4 then some (102 + 2 * j) else none)
def HW (σ : Sto) (H : List St) : Prop := ∃ (o : Nat) (Hs : Nat → St), o < 4 ∧ H.length ≤ 4 ∧ σ 100 = pO 1 [.ref 101, .int (nI o), .int (nI H.length)] ∧ σ 101 = hsR ∧ (∀ j, j < 4 → SW σ (102 + 2 * j) (Hs j)) ∧ ∀ i, i < H.length → H[i]? = some (Hs ((o + (H.length - 1 - i)) % 4))
theorem HW.congr {σ τ : Sto} {H : List St} (h : HW σ H) (he : ∀ k, 100 ≤ k → k ≤ 109 → τ k = σ k) : HW τ H := by
  obtain ⟨o, Hs, h1, h2, h3, h4, h5, h6⟩ := h
  exact ⟨o, Hs, h1, h2, (he 100 (by omega) (by omega)).trans h3, (he 101 (by omega) (by omega)).trans h4, fun j hj => (h5 j hj).congr (he _ (by omega) (by omega)) (he _ (by omega) (by omega)), h6⟩
def rec4 (A : St) (H : List St) : List St := (A :: H).take 4
/-- what a method may have changed -/
def same (σ τ : Sto) (P : Nat → Prop) : Prop := ∀ k, ¬ P k → τ k = σ k
theorem hs_new {o sz : Nat} {Hs : Nat → St} {A : St} {H : List St} (ho : o < 4) (hl : H.length = sz) (hz : sz < 4) (hH : ∀ i, i < sz → H[i]? = some (Hs ((o + (sz - 1 - i)) % 4))) : ∀ i, i < sz + 1 → (A :: H)[i]? = some ((fun j => if j = (o + sz) % 4 then A else Hs j) ((o + (sz + 1 - 1 - i)) % 4)) := by
  intro i hi
  cases i with
  | zero => simp
  | succ i =>
    rw [List.getElem?_cons_succ, hH i (by omega)]
    show some (Hs _) = some (if _ then A else Hs _)
    rw [show sz + 1 - 1 - (i + 1) = sz - 1 - i by omega, if_neg (by omega)]
set_option maxRecDepth 100000 in
set_option maxHeartbeats 4000000 in
theorem w_rec {τ σ : Sto} {A : St} {H H0 : List St} {o : Nat} {Hs : Nat → St} (hA : SW σ 1 A) (ho : o < 4) (hl : H0.length < 4) (h1 : σ 100 = pO 1 [.ref 101, .int (nI o), .int (nI H0.length)]) (h2 : σ 101 = hsR) (h3 : ∀ j, j < 4 → SW σ (102 + 2 * j) (Hs j)) (h4 : ∀ i, i < H0.length → H0[i]? = some (Hs ((o + (H0.length - 1 - i)) % 4))) (hr : rec4 A H = A :: H0) (hs : same τ σ (fun k => 100 ≤ k ∧ k ≤ 109)) : PW mX1_record 0 0 (fun v σ' => v = none ∧ HW σ' (rec4 A H) ∧ same τ σ' (fun k => 100 ≤ k ∧ k ≤ 109)) 30 [some (.ref 100), some (.ref 1)] [] (eN + 114) σ 0 0 := by
  obtain ⟨hAo, f, a1, a2, a3⟩ := id hA
  have hj : (o + H0.length) % 4 < 4 := Nat.mod_lt _ (by first | decide | exact lt_c (by decide))
  generalize hjj : (o + H0.length) % 4 = j at hj
  obtain ⟨-, g, b1, b2, b3⟩ := h3 j hj
  refine P_aload_n (q := 31) dX1_record_30 rfl rfl ?_
  refine P_get (q := 34) dX1_record_31 rfl fX1_11 (by first | decide | exact lt_c (by decide)) (by assumption) rfl ?_
  refine P_aload_n (q := 35) dX1_record_34 rfl rfl ?_
  refine P_get (q := 38) dX1_record_35 rfl fX1_17 (by first | decide | exact lt_c (by decide)) (by assumption) rfl ?_
  refine P_aload_n (q := 39) dX1_record_38 rfl rfl ?_
  refine P_get (q := 42) dX1_record_39 rfl fX1_21 (by first | decide | exact lt_c (by decide)) (by assumption) rfl ?_
  refine P_iadd (q := 43) dX1_record_42 rfl ?_
  refine P_iconst (q := 44) (v := nI 4) dX1_record_43 rfl (by decide +kernel) ?_
  refine P_irem (q := 45) dX1_record_44 rfl (by first | decide | exact lt_c (by decide)) ?_
  rw [nI_add, pk_rem (by omega) (by first | decide | exact lt_c (by decide)) (by first | decide | exact lt_c (by decide)), hjj]
  refine P_qald (q := 46) (j := j) (b := 102 + 2 * j) 3 (fun _ => rfl) rfl dX1_record_45 rfl (by first | decide | exact lt_c (by decide)) (h2) (rfl) (by omega) (by first | decide | exact lt_c (by decide)) (if_pos hj) ?_
  refine P_aload_n (q := 47) dX1_record_46 rfl rfl ?_
  refine P_cv0 (q := 50) dX1_record_47 rfl kX1_25 (t_copyFrom (A := Hs j) (B := A) hAo (a := 1) (b := 102 + 2 * j) (fa := 2) (fb := 102 + 2 * j + 1) (by first | decide | exact lt_c (by decide)) (by omega) (by first | decide | exact lt_c (by decide)) (by omega) (by omega) (by omega) (by omega) a1 b1 a2 b2) rfl rfl (by omega) (b1) rfl ⟨by decide, by decide⟩ (Nat.le_of_ble_eq_true rfl) ⟨Nat.le_refl _, Nat.le_refl _⟩ ?_
  refine P_aload_n (q := 51) dX1_record_50 rfl rfl ?_
  refine P_dup (q := 52) dX1_record_51 rfl rfl ?_
  refine P_get (q := 55) dX1_record_52 rfl fX1_21 (by first | decide | exact lt_c (by decide)) ((up_ne _ _ (by omega)).trans ((up_ne _ _ (by omega)).trans h1)) rfl ?_
  refine P_iconst (q := 56) (v := nI 1) dX1_record_55 rfl (by decide +kernel) ?_
  refine P_iadd (q := 57) dX1_record_56 rfl ?_
  rw [nI_add]
  refine P_put (q := 60) (fs' := [_, _, _]) dX1_record_57 rfl gX1_21 (by first | decide | exact lt_c (by decide)) ((up_ne _ _ (by omega)).trans ((up_ne _ _ (by omega)).trans h1)) (fun _ => rfl) (fun _ => rfl) (Nat.le_of_ble_eq_true rfl) rfl (rfl) ?_
  refine P_vret dX1_record_60 rfl ?_
  refine ⟨rfl, ?_, ?_⟩
  · rw [hr]
    refine ⟨o, fun i => if i = j then A else Hs i, ho, hl, up_at _ _ _, (up_ne _ _ (by omega)).trans ((up_ne _ _ (by omega)).trans ((up_ne _ _ (by omega)).trans h2)), fun i hi => ?_, ?_⟩
    · by_cases hij : i = j
      · rw [show (fun i => if i = j then A else Hs i) i = A from if_pos hij]
        subst hij
        exact (SW_copy hA (by omega) a2 a3).congr (up_ne _ _ (by omega)) (up_ne _ _ (by omega))
      · rw [show (fun i => if i = j then A else Hs i) i = Hs i from if_neg hij]
        exact (h3 i hi).congr ((up_ne _ _ (by omega)).trans ((up_ne _ _ (by omega)).trans (up_ne _ _ (by omega)))) ((up_ne _ _ (by omega)).trans ((up_ne _ _ (by omega)).trans (up_ne _ _ (by omega))))
    · subst hjj
      exact hs_new ho rfl hl h4
  · intro k hk
    rw [up_ne _ _ (by omega), up_ne _ _ (by omega), up_ne _ _ (by omega)]
    exact hs k hk
theorem rec4_lt {A : St} {H : List St} (h : H.length < 4) : rec4 A H = A :: H := by
  unfold rec4
  rw [List.take_of_length_le]
  simp only [List.length_cons]; omega
theorem rec4_4 {A : St} {H : List St} (h : H.length = 4) : rec4 A H = A :: H.take 3 := rfl
set_option maxRecDepth 100000 in
set_option maxHeartbeats 4000000 in
theorem t_record {σ : Sto} {A : St} {H : List St} (hA : SW σ 1 A) (hH : HW σ H) : CP mX1_record 0 0 [.ref 100, .ref 1] (eN + 114) σ (fun v σ' => v = none ∧ HW σ' (rec4 A H) ∧ same σ σ' (fun k => 100 ≤ k ∧ k ≤ 109)) := by
  obtain ⟨o, Hs, ho, hl, h1, h2, h3, h4⟩ := hH
  refine CP_of (by decide +kernel) (Nat.le_of_ble_eq_true rfl) ?_
  change PW _ _ _ _ 0 [_, _] [] _ _ _ _
  refine P_aload_n (q := 1) dX1_record_0 rfl rfl ?_
  refine P_get (q := 4) dX1_record_1 rfl fX1_21 (by first | decide | exact lt_c (by decide)) (by assumption) rfl ?_
  refine P_iconst (q := 5) (v := nI 4) dX1_record_4 rfl (by decide +kernel) ?_
  refine P_icmp_ne (q := 8) (tgt := 30) dX1_record_5 rfl (by first | decide | exact lt_c (by decide)) (fun c_5 => ?_) (fun c_5 => ?_)
  · change ¬ nI H.length = nI 4 at c_5
    rw [nI_eq (by omega) (by first | decide | exact lt_c (by decide))] at c_5
    first | exact w_rec hA ho (by omega) h1 h2 h3 h4 (rec4_lt (by omega)) (fun _ _ => rfl) | refine w_rec (o := (o + 1) % 4) (H0 := H.take 3) (Hs := Hs) (hA.congr (up_ne _ _ (by omega)) (up_ne _ _ (by omega))) (Nat.mod_lt _ (by first | decide | exact lt_c (by decide))) (by rw [List.length_take]; omega) ((up_at _ _ _).trans (by rw [List.length_take, c_5]; rfl)) ((up_ne _ _ (by omega)).trans h2) (fun j hj => (h3 j hj).congr (up_ne _ _ (by omega)) (up_ne _ _ (by omega))) (fun i hi => ?_) (rec4_4 c_5) (fun k hk => up_ne _ _ (by omega))
    all_goals (have hlen : (H.take 3).length = 3 := (by rw [List.length_take, c_5]; rfl); rw [hlen] at hi ⊢; rw [List.getElem?_take_of_lt hi, h4 i (by omega), c_5]; congr 2; omega)
  · change nI H.length = nI 4 at c_5
    rw [nI_eq (by omega) (by first | decide | exact lt_c (by decide))] at c_5
    refine P_aload_n (q := 9) dX1_record_8 rfl rfl ?_
    refine P_aload_n (q := 10) dX1_record_9 rfl rfl ?_
    refine P_get (q := 13) dX1_record_10 rfl fX1_17 (by first | decide | exact lt_c (by decide)) (by assumption) rfl ?_
    refine P_iconst (q := 14) (v := nI 1) dX1_record_13 rfl (by decide +kernel) ?_
    refine P_iadd (q := 15) dX1_record_14 rfl ?_
    refine P_iconst (q := 16) (v := nI 4) dX1_record_15 rfl (by decide +kernel) ?_
    refine P_irem (q := 17) dX1_record_16 rfl (by first | decide | exact lt_c (by decide)) ?_
    rw [nI_add, pk_rem (by omega) (by first | decide | exact lt_c (by decide)) (by first | decide | exact lt_c (by decide))]
    refine P_put (q := 20) (fs' := [_, _, _]) dX1_record_17 rfl gX1_17 (by first | decide | exact lt_c (by decide)) (by assumption) (fun _ => rfl) (fun _ => rfl) (Nat.le_of_ble_eq_true rfl) rfl (rfl) ?_
    refine P_aload_n (q := 21) dX1_record_20 rfl rfl ?_
    refine P_dup (q := 22) dX1_record_21 rfl rfl ?_
    refine P_get (q := 25) dX1_record_22 rfl fX1_21 (by first | decide | exact lt_c (by decide)) (up_at _ _ _) rfl ?_
    refine P_iconst (q := 26) (v := nI 1) dX1_record_25 rfl (by decide +kernel) ?_
    refine P_isub (q := 27) dX1_record_26 rfl ?_
    rw [show nI H.length - nI 1 = nI 3 from by rw [c_5]; rfl]
    refine P_put (q := 30) (fs' := [_, _, _]) dX1_record_27 rfl gX1_21 (by first | decide | exact lt_c (by decide)) (up_at _ _ _) (fun _ => rfl) (fun _ => rfl) (Nat.le_of_ble_eq_true rfl) rfl (up_up _ _ _ _) ?_
    first | exact w_rec hA ho (by omega) h1 h2 h3 h4 (rec4_lt (by omega)) (fun _ _ => rfl) | refine w_rec (o := (o + 1) % 4) (H0 := H.take 3) (Hs := Hs) (hA.congr (up_ne _ _ (by omega)) (up_ne _ _ (by omega))) (Nat.mod_lt _ (by first | decide | exact lt_c (by decide))) (by rw [List.length_take]; omega) ((up_at _ _ _).trans (by rw [List.length_take, c_5]; rfl)) ((up_ne _ _ (by omega)).trans h2) (fun j hj => (h3 j hj).congr (up_ne _ _ (by omega)) (up_ne _ _ (by omega))) (fun i hi => ?_) (rec4_4 c_5) (fun k hk => up_ne _ _ (by omega))
    all_goals (have hlen : (H.take 3).length = 3 := (by rw [List.length_take, c_5]; rfl); rw [hlen] at hi ⊢; rw [List.getElem?_take_of_lt hi, h4 i (by omega), c_5]; congr 2; omega)
