variable {eN : Nat}
/-! ALL STRIPS: learnt, told -/
theorem cnt_nz {m : Md} (hm : m.ok) (x : Nat) : nI (m.cnt x) = (0 : Int32) ↔ m.nz x = false := by
  have h := cnt_le hm x
  rw [show (0 : Int32) = nI 0 from rfl, nI_eq (by omega) (by omega)]
  unfold Md.nz
  simp
theorem nI_m1 (n : Nat) : nI (n + 1) - nI 1 = nI n := by
  rw [iI_nI, iI_nI, iI_nI, iI_sub]; congr 1; omega
set_option maxRecDepth 100000 in
set_option maxHeartbeats 4000000 in
theorem w_ln2 {σ0 τ : Sto} {A : St} {k2 k3 : Bool} {g : Nat → Int32} (hA : A.ok) (hs : same σ0 τ (fun i => 3 ≤ i ∧ i ≤ 99)) (h97 : τ 97 = pI .int 191 g) (hg : ∀ x, x < 191 → g x = nI ((A.md false).cnt x)) (hf : ∀ lc gc, AK (va_up τ 3 (asO lc gc true k2 k3)) A lc gc true k2 k3 ↔ (lc = (A.md false).lo ∧ gc = (A.md false).hi)) : ∀ n, n < 191 → hiA (A.md false).nz n = (A.md false).hi → PW mX0_learnCosts 0 0 (fun v σ' => v = none ∧ same σ0 σ' (fun i => 3 ≤ i ∧ i ≤ 99) ∧ ∃ k2 k3, AK σ' A (A.md false).lo (A.md false).hi true k2 k3) 79 [some (.ref 3), some (.ref 1)] [] (eN + 114) (va_up τ 3 (asO (A.md false).lo n false k2 k3)) 0 0 := by
  have hm := A.md_ok hA false
  have hz := cnt_nz hm
  have hu : ∀ c, va_up τ 3 c 97 = pI .int 191 g := fun c => (up_ne _ _ (by omega)).trans h97
  have done : ∀ n, hiA (A.md false).nz n = (A.md false).hi → hiA (A.md false).nz n = n → AK (va_up τ 3 (asO (A.md false).lo n true k2 k3)) A (A.md false).lo (A.md false).hi true k2 k3 := fun n h1 h2 => by
    have e : n = (A.md false).hi := h2.symm.trans h1
    subst e
    exact (hf _ _).mpr ⟨rfl, rfl⟩
  intro n
  induction n with
  | zero =>
    intro hn hh
    refine P_aload_n (q := 80) dX0_learnCosts_79 rfl rfl ?_
    refine P_get (q := 83) dX0_learnCosts_80 rfl fX0_49 (by first | decide | exact lt_c (by decide)) (up_at _ _ _) rfl ?_
    refine P_if_le (q := 86) (tgt := 111) dX0_learnCosts_83 rfl (by first | decide | exact lt_c (by decide)) (fun c_83 => ?_) (fun c_83 => ?_)
    · refine P_aload_n (q := 112) dX0_learnCosts_111 rfl rfl ?_
      refine P_iconst (q := 113) (v := nI 1) dX0_learnCosts_112 rfl (by decide +kernel) ?_
      refine P_put (q := 116) (fs' := [_, _, _, _, _, _, _, _, _, _, _, _]) dX0_learnCosts_113 rfl gX0_52 (by first | decide | exact lt_c (by decide)) (up_at _ _ _) (fun _ => rfl) (fun _ => rfl) (Nat.le_of_ble_eq_true rfl) rfl (up_up _ _ _ _) ?_
      refine P_vret dX0_learnCosts_116 rfl ?_
      exact ⟨rfl, hs.up (by omega), k2, k3, done 0 hh rfl⟩
    · exact absurd (show nI 0 ≤ (0 : Int32) by decide) c_83
  | succ n ih =>
    intro hn hh
    rw [hiA] at hh
    refine P_aload_n (q := 80) dX0_learnCosts_79 rfl rfl ?_
    refine P_get (q := 83) dX0_learnCosts_80 rfl fX0_49 (by first | decide | exact lt_c (by decide)) (up_at _ _ _) rfl ?_
    refine P_if_le (q := 86) (tgt := 111) dX0_learnCosts_83 rfl (by first | decide | exact lt_c (by decide)) (fun c_83 => ?_) (fun c_83 => ?_)
    · exact absurd c_83 (by rw [show ((0 : Int32)) = nI 0 from rfl, nI_leI (by omega) (by omega)]; omega)
    · refine P_aload_n (q := 87) dX0_learnCosts_86 rfl rfl ?_
      refine P_get (q := 90) dX0_learnCosts_87 rfl fX0_35 (by first | decide | exact lt_c (by decide)) (up_at _ _ _) rfl ?_
      refine P_aload_n (q := 91) dX0_learnCosts_90 rfl rfl ?_
      refine P_get (q := 94) dX0_learnCosts_91 rfl fX0_49 (by first | decide | exact lt_c (by decide)) (up_at _ _ _) rfl ?_
      refine P_iald (q := 95) (j := n + 1) dX0_learnCosts_94 rfl (by first | decide | exact lt_c (by decide)) (hu _) (rfl) (by omega) (by first | decide | exact lt_c (by decide)) ?_
      rw [hg _ (by omega)]
      refine P_if_ne (q := 98) (tgt := 111) dX0_learnCosts_95 rfl (by first | decide | exact lt_c (by decide)) (fun c_95 => ?_) (fun c_95 => ?_)
      · rw [hz, Bool.not_eq_false] at c_95
        refine P_aload_n (q := 112) dX0_learnCosts_111 rfl rfl ?_
        refine P_iconst (q := 113) (v := nI 1) dX0_learnCosts_112 rfl (by decide +kernel) ?_
        refine P_put (q := 116) (fs' := [_, _, _, _, _, _, _, _, _, _, _, _]) dX0_learnCosts_113 rfl gX0_52 (by first | decide | exact lt_c (by decide)) (up_at _ _ _) (fun _ => rfl) (fun _ => rfl) (Nat.le_of_ble_eq_true rfl) rfl (up_up _ _ _ _) ?_
        refine P_vret dX0_learnCosts_116 rfl ?_
        exact ⟨rfl, hs.up (by omega), k2, k3, done (n + 1) (by rw [hiA]; exact hh) (by rw [hiA, if_pos c_95])⟩
      · rw [hz] at c_95
        rw [if_neg (by rw [c_95]; decide)] at hh
        refine P_aload_n (q := 99) dX0_learnCosts_98 rfl rfl ?_
        refine P_dup (q := 100) dX0_learnCosts_99 rfl rfl ?_
        refine P_get (q := 103) dX0_learnCosts_100 rfl fX0_49 (by first | decide | exact lt_c (by decide)) (up_at _ _ _) rfl ?_
        refine P_iconst (q := 104) (v := nI 1) dX0_learnCosts_103 rfl (by decide +kernel) ?_
        refine P_isub (q := 105) dX0_learnCosts_104 rfl ?_
        rw [nI_m1]
        refine P_put (q := 108) (fs' := [_, _, _, _, _, _, _, _, _, _, _, _]) dX0_learnCosts_105 rfl gX0_49 (by first | decide | exact lt_c (by decide)) (up_at _ _ _) (fun _ => rfl) (fun _ => rfl) (Nat.le_of_ble_eq_true rfl) rfl (up_up _ _ _ _) ?_
        refine P_goto (tgt := 79) dX0_learnCosts_108 (by first | decide | exact lt_c (by decide)) ?_
        exact ih (by omega) hh
set_option maxRecDepth 100000 in
set_option maxHeartbeats 4000000 in
theorem w_ln1 {σ0 τ : Sto} {A : St} {k2 k3 : Bool} {g : Nat → Int32} (hA : A.ok) (hs : same σ0 τ (fun i => 3 ≤ i ∧ i ≤ 99)) (h97 : τ 97 = pI .int 191 g) (hg : ∀ x, x < 191 → g x = nI ((A.md false).cnt x)) (hf : ∀ lc gc, AK (va_up τ 3 (asO lc gc true k2 k3)) A lc gc true k2 k3 ↔ (lc = (A.md false).lo ∧ gc = (A.md false).hi)) {gc : Nat} : ∀ n j, j + n = 190 → fsA (A.md false).nz n j = (A.md false).lo → PW mX0_learnCosts 0 0 (fun v σ' => v = none ∧ same σ0 σ' (fun i => 3 ≤ i ∧ i ≤ 99) ∧ ∃ k2 k3, AK σ' A (A.md false).lo (A.md false).hi true k2 k3) 37 [some (.ref 3), some (.ref 1)] [] (eN + 114) (va_up τ 3 (asO j gc false k2 k3)) 0 0 := by
  have hm := A.md_ok hA false
  have hz := cnt_nz hm
  have hu : ∀ c, va_up τ 3 c 97 = pI .int 191 g := fun c => (up_ne _ _ (by omega)).trans h97
  have next : ∀ j, j = (A.md false).lo → PW mX0_learnCosts 0 0 (fun v σ' => v = none ∧ same σ0 σ' (fun i => 3 ≤ i ∧ i ≤ 99) ∧ ∃ k2 k3, AK σ' A (A.md false).lo (A.md false).hi true k2 k3) 79 [some (.ref 3), some (.ref 1)] [] (eN + 114) (va_up τ 3 (asO j 190 false k2 k3)) 0 0 := fun j e => by
    subst e
    exact w_ln2 hA hs h97 hg hf 190 (by first | decide | exact lt_c (by decide)) rfl
  intro n
  induction n with
  | zero =>
    intro j hj hh
    refine P_aload_n (q := 38) dX0_learnCosts_37 rfl rfl ?_
    refine P_get (q := 41) dX0_learnCosts_38 rfl fX0_45 (by first | decide | exact lt_c (by decide)) (up_at _ _ _) rfl ?_
    refine P_sipush (q := 44) (v := nI 190) dX0_learnCosts_41 rfl (by decide +kernel) ?_
    refine P_icmp_ge (q := 47) (tgt := 72) dX0_learnCosts_44 rfl (by first | decide | exact lt_c (by decide)) (fun c_44 => ?_) (fun c_44 => ?_)
    · rw [nI_leI (by omega) (by omega)] at c_44
      refine P_aload_n (q := 73) dX0_learnCosts_72 rfl rfl ?_
      refine P_sipush (q := 76) (v := nI 190) dX0_learnCosts_73 rfl (by decide +kernel) ?_
      refine P_put (q := 79) (fs' := [_, _, _, _, _, _, _, _, _, _, _, _]) dX0_learnCosts_76 rfl gX0_49 (by first | decide | exact lt_c (by decide)) (up_at _ _ _) (fun _ => rfl) (fun _ => rfl) (Nat.le_of_ble_eq_true rfl) rfl (up_up _ _ _ _) ?_
      exact next j hh
    · exfalso; rw [nI_leI (by omega) (by omega)] at c_44; omega
  | succ n ih =>
    intro j hj hh
    rw [fsA] at hh
    refine P_aload_n (q := 38) dX0_learnCosts_37 rfl rfl ?_
    refine P_get (q := 41) dX0_learnCosts_38 rfl fX0_45 (by first | decide | exact lt_c (by decide)) (up_at _ _ _) rfl ?_
    refine P_sipush (q := 44) (v := nI 190) dX0_learnCosts_41 rfl (by decide +kernel) ?_
    refine P_icmp_ge (q := 47) (tgt := 72) dX0_learnCosts_44 rfl (by first | decide | exact lt_c (by decide)) (fun c_44 => ?_) (fun c_44 => ?_)
    · exfalso; rw [nI_leI (by omega) (by omega)] at c_44; omega
    · rw [nI_leI (by omega) (by omega)] at c_44
      refine P_aload_n (q := 48) dX0_learnCosts_47 rfl rfl ?_
      refine P_get (q := 51) dX0_learnCosts_48 rfl fX0_35 (by first | decide | exact lt_c (by decide)) (up_at _ _ _) rfl ?_
      refine P_aload_n (q := 52) dX0_learnCosts_51 rfl rfl ?_
      refine P_get (q := 55) dX0_learnCosts_52 rfl fX0_45 (by first | decide | exact lt_c (by decide)) (up_at _ _ _) rfl ?_
      refine P_iald (q := 56) (j := j) dX0_learnCosts_55 rfl (by first | decide | exact lt_c (by decide)) (hu _) (rfl) (by omega) (by first | decide | exact lt_c (by decide)) ?_
      rw [hg _ (by omega)]
      refine P_if_ne (q := 59) (tgt := 72) dX0_learnCosts_56 rfl (by first | decide | exact lt_c (by decide)) (fun c_56 => ?_) (fun c_56 => ?_)
      · rw [hz, Bool.not_eq_false] at c_56
        rw [if_pos c_56] at hh
        refine P_aload_n (q := 73) dX0_learnCosts_72 rfl rfl ?_
        refine P_sipush (q := 76) (v := nI 190) dX0_learnCosts_73 rfl (by decide +kernel) ?_
        refine P_put (q := 79) (fs' := [_, _, _, _, _, _, _, _, _, _, _, _]) dX0_learnCosts_76 rfl gX0_49 (by first | decide | exact lt_c (by decide)) (up_at _ _ _) (fun _ => rfl) (fun _ => rfl) (Nat.le_of_ble_eq_true rfl) rfl (up_up _ _ _ _) ?_
        exact next j hh
      · rw [hz] at c_56
        rw [if_neg (by rw [c_56]; decide)] at hh
        refine P_aload_n (q := 60) dX0_learnCosts_59 rfl rfl ?_
        refine P_dup (q := 61) dX0_learnCosts_60 rfl rfl ?_
        refine P_get (q := 64) dX0_learnCosts_61 rfl fX0_45 (by first | decide | exact lt_c (by decide)) (up_at _ _ _) rfl ?_
        refine P_iconst (q := 65) (v := nI 1) dX0_learnCosts_64 rfl (by decide +kernel) ?_
        refine P_iadd (q := 66) dX0_learnCosts_65 rfl ?_
        rw [show nI j + nI 1 = nI (j + 1) from nI_1 j]
        refine P_put (q := 69) (fs' := [_, _, _, _, _, _, _, _, _, _, _, _]) dX0_learnCosts_66 rfl gX0_45 (by first | decide | exact lt_c (by decide)) (up_at _ _ _) (fun _ => rfl) (fun _ => rfl) (Nat.le_of_ble_eq_true rfl) rfl (up_up _ _ _ _) ?_
        refine P_goto (tgt := 37) dX0_learnCosts_69 (by first | decide | exact lt_c (by decide)) ?_
        exact ih (j + 1) (by omega) hh
set_option maxRecDepth 100000 in
set_option maxHeartbeats 4000000 in
theorem t_learn {σ0 : Sto} {A : St} (hS : SW σ0 1 A) (hW : AW σ0 A) : CP mX0_learnCosts 0 0 [.ref 3, .ref 1] (eN + 114) σ0 (fun v σ' => v = none ∧ same σ0 σ' (fun i => 3 ≤ i ∧ i ≤ 99) ∧ ∃ k2 k3, AK σ' A (A.md false).lo (A.md false).hi true k2 k3) := by
  obtain ⟨lc, gc, k1, k2, k3, hK⟩ := hW
  obtain ⟨h3, h4, h26, h48, h67, h68, ⟨g7, h97, h97'⟩, ⟨g8, h98, h98'⟩, ⟨g9, h99, h99'⟩⟩ := id hK
  have hA := hS.1
  have hm := A.md_ok hA false
  refine CP_of (by decide +kernel) (Nat.le_of_ble_eq_true rfl) ?_
  change PW _ _ _ _ 0 [_, _] [] _ _ _ _
  refine P_aload_n (q := 1) dX0_learnCosts_0 rfl rfl ?_
  refine P_get (q := 4) dX0_learnCosts_1 rfl fX0_52 (by first | decide | exact lt_c (by decide)) (h3) rfl ?_
  refine P_if_eq (q := 7) (tgt := 8) dX0_learnCosts_4 rfl (by first | decide | exact lt_c (by decide)) (fun c_4 => ?_) (fun c_4 => ?_)
  · rw [bI_0] at c_4
    subst c_4
    refine P_aload_n (q := 9) dX0_learnCosts_8 rfl rfl ?_
    refine P_get (q := 12) dX0_learnCosts_9 rfl fX0_12 (by first | decide | exact lt_c (by decide)) (h3) rfl ?_
    refine P_aload_n (q := 13) dX0_learnCosts_12 rfl rfl ?_
    refine P_iconst (q := 14) (v := nI 0) dX0_learnCosts_13 rfl (by decide +kernel) ?_
    refine P_callv (q := 17) dX0_learnCosts_14 rfl (t_tff hS (Or.inl rfl) h4) kX0_70 rfl rfl (by first | decide | exact lt_c (by decide)) h4.1.choose_spec.choose_spec.choose_spec.choose_spec.choose_spec rfl ⟨by decide, by decide⟩ (Nat.le_of_ble_eq_true rfl) ⟨Nat.le_refl _, Nat.le_refl _⟩ ?_
    rintro v σ1 ⟨rfl, t1, t2⟩
    have u3 := (t1 3 (by omega)).trans h3
    have u48 : SmW σ1 := h48.congr (fun k a b => t1 k (by omega))
    have u97 := (t1 97 (by omega)).trans h97
    refine P_aload_n (q := 18) dX0_learnCosts_17 rfl rfl ?_
    refine P_get (q := 21) dX0_learnCosts_18 rfl fX0_24 (by first | decide | exact lt_c (by decide)) (u3) rfl ?_
    refine P_aload_n (q := 22) dX0_learnCosts_21 rfl rfl ?_
    refine P_get (q := 25) dX0_learnCosts_22 rfl fX0_35 (by first | decide | exact lt_c (by decide)) (u3) rfl ?_
    refine P_aload_n (q := 26) dX0_learnCosts_25 rfl rfl ?_
    refine P_get (q := 29) dX0_learnCosts_26 rfl fX0_12 (by first | decide | exact lt_c (by decide)) (u3) rfl ?_
    obtain ⟨a, b, ⟨e48, hab⟩, -⟩ := id u48
    refine P_callv (q := 32) dX0_learnCosts_29 rfl (t_sumsFill t2 hm (Or.inl rfl) (Or.inl rfl) u48 u97) kX0_74 rfl rfl (by first | decide | exact lt_c (by decide)) e48 rfl ⟨by decide, by decide⟩ (Nat.le_of_ble_eq_true rfl) ⟨Nat.le_refl _, Nat.le_refl _⟩ ?_
    rintro v σ2 ⟨rfl, s1, s2, g, s3, s4⟩
    have w3 := (s1 3 (by omega)).trans u3
    have sh : same σ0 σ2 (fun i => 3 ≤ i ∧ i ≤ 99) := (t1.mono (fun i h => by omega)).trans (s1.mono (fun i h => by omega))
    have v4 : PrW σ2 4 (A.md false) := t2.congr (fun k a b => s1 k (by omega))
    have fr : ∀ c k, 3 < k → (k < 4 ∨ 25 < k) → ¬ (48 ≤ k ∧ k ≤ 66) → k ≠ 97 → va_up σ2 3 c k = σ0 k := fun c k a b d e => (up_ne _ _ (by omega)).trans ((s1 k (by omega)).trans (t1 k (by omega)))
    have hf : ∀ lc gc, AK (va_up σ2 3 (asO lc gc true k2 k3)) A lc gc true k2 k3 ↔ (lc = (A.md false).lo ∧ gc = (A.md false).hi) := fun lc gc => ⟨fun h => by
      obtain ⟨-, -, -, -, -, -, ⟨g, -, q⟩, -⟩ := h
      exact ⟨(q rfl).2.1, (q rfl).2.2.1⟩, fun h => ⟨up_at _ _ _, (v4.congr (fun k a b => up_ne _ _ (by omega))).s, h26.congr (fun k a b => fr _ k (by omega) (by omega) (by omega) (by omega)), s2.congr (fun k a b => up_ne _ _ (by omega)), h67.congr (fun k a => fr _ k (by omega) (by omega) (by omega) (by omega)), h68.congr (fun k a b => fr _ k (by omega) (by omega) (by omega) (by omega)), ⟨g, (up_ne _ _ (by omega)).trans s3, fun _ => ⟨v4.congr (fun k a b => up_ne _ _ (by omega)), h.1, h.2, s4⟩⟩, ⟨g8, (fr _ 98 (by omega) (by omega) (by omega) (by omega)).trans h98, h98'⟩, ⟨g9, (fr _ 99 (by omega) (by omega) (by omega) (by omega)).trans h99, h99'⟩⟩⟩
    refine P_aload_n (q := 33) dX0_learnCosts_32 rfl rfl ?_
    refine P_iconst (q := 34) (v := nI 0) dX0_learnCosts_33 rfl (by decide +kernel) ?_
    refine P_put (q := 37) (fs' := [_, _, _, _, _, _, _, _, _, _, _, _]) dX0_learnCosts_34 rfl gX0_45 (by first | decide | exact lt_c (by decide)) (w3) (fun _ => rfl) (fun _ => rfl) (Nat.le_of_ble_eq_true rfl) rfl (rfl) ?_
    exact w_ln1 hA sh s3 s4 hf 190 0 (by first | decide | exact lt_c (by decide)) rfl
  · rw [bI_n] at c_4
    refine P_vret dX0_learnCosts_7 rfl ?_
    obtain ⟨q1, q2, q3, -⟩ := h97' c_4
    subst q2 q3 c_4
    exact ⟨rfl, same.rf, k2, k3, hK⟩
