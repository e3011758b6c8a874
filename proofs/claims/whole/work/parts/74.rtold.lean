/-! THE REFERENCE: what is told of counts -/
theorem CE_z {A : St} (hA : A.ok) (w : Bool) (e : Int) : nI (A.CE w e) = (0 : Int32) ↔ A.CE w e = 0 := by
  have := CE_le hA w e
  exact nI_eq (by omega) (by decide)
theorem CE_out {A : St} (hA : A.ok) (w : Bool) {z : Int} (h : z < -200 ∨ 200 < z) : A.CE w z = 0 := by
  cases w with
  | true => rw [CE_ww hA, if_neg (by omega)]
  | false =>
    rw [CE_me hA]
    have := wr_190 hA false
    exact if_neg (fun q => by omega)
theorem nI_dec (n : Nat) : nI (n + 1) + Int32.ofInt (-1) = nI n := ni_add (a := n + 1) (b := n) (m := -1) (by omega)
set_option maxRecDepth 100000 in
set_option maxHeartbeats 4000000 in
theorem m_least {σ : Sto} {A : St} (hM : MO σ) (hA : A.ok) (hG : GC σ (fun y => A.CE false ((y : Int) - 200))) : CD mX8_least [.ref 114] 132 σ (some (.int (iI (2 * ((A.md false).lo : Int) - ((A.md false).wr : Int))))) σ := by
  obtain ⟨a1, a2, a3, a4, a5, a6, a7, h0⟩ := hM
  obtain ⟨l, hl, e1, e2, e3⟩ := (lo_hi hA).1
  obtain ⟨g, h119, hg⟩ := hG
  have hg : ∀ y, y < 401 → g y = nI (A.CE false ((y : Int) - 200)) := hg
  have lp : ∀ n e, e + n = l → PW mX8_least 0 0 (fun v σ' => v = some (.int (iI (2 * ((A.md false).lo : Int) - ((A.md false).wr : Int)))) ∧ σ' = σ) 2 [some (.ref 114), some (.int (nI e))] [] 132 σ 0 0 := by
    intro n
    induction n with
    | zero =>
      intro e he
      have ee : e = l := by omega
      subst ee
      refine P_aload_n (q := 3) dX8_least_2 rfl rfl ?_
      refine P_get (q := 6) dX8_least_3 rfl fX8_22 (by decide) (h0) rfl ?_
      refine P_iload_n (q := 7) dX8_least_6 rfl rfl ?_
      refine P_iald (q := 8) (j := e) dX8_least_7 rfl (by decide) (h119) (rfl) (by omega) (by decide) ?_
      rw [hg e (by omega)]
      refine P_if_ne (q := 11) (tgt := 17) dX8_least_8 rfl (by decide) (fun c_8 => ?_) (fun c_8 => ?_)
      · refine P_iload_n (q := 18) dX8_least_17 rfl rfl ?_
        refine P_sipush (q := 21) (v := nI 200) dX8_least_18 rfl (by decide +kernel) ?_
        refine P_isub (q := 22) dX8_least_21 rfl ?_
        refine P_iret dX8_least_22 rfl (rfl) ?_
        refine ⟨?_, rfl⟩
        rw [iI_nI, iI_nI, iI_sub, ← e1]
        rfl
      · exact absurd ((CE_z hA false _).mp c_8) e2
    | succ n ih =>
      intro e he
      refine P_aload_n (q := 3) dX8_least_2 rfl rfl ?_
      refine P_get (q := 6) dX8_least_3 rfl fX8_22 (by decide) (h0) rfl ?_
      refine P_iload_n (q := 7) dX8_least_6 rfl rfl ?_
      refine P_iald (q := 8) (j := e) dX8_least_7 rfl (by decide) (h119) (rfl) (by omega) (by decide) ?_
      rw [hg e (by omega)]
      refine P_if_ne (q := 11) (tgt := 17) dX8_least_8 rfl (by decide) (fun c_8 => ?_) (fun c_8 => ?_)
      · exact absurd ((CE_z hA false _).mpr (e3 e (by omega))) c_8
      · refine P_iinc (q := 14) (L' := [_, _]) (v := nI (e + 1)) dX8_least_11 rfl (by decide) rfl (nI_1 e) rfl ?_
        refine P_goto (tgt := 2) dX8_least_14 (by decide) ?_
        exact ih (e + 1) (by omega)
  refine CP_of (by decide +kernel) (Nat.le_of_ble_eq_true rfl) ?_
  change PW _ _ _ _ 0 [_, _] [] _ _ _ _
  refine P_iconst (q := 1) (v := nI 0) dX8_least_0 rfl (by decide +kernel) ?_
  refine P_istore_n (q := 2) (L' := [_, _]) dX8_least_1 rfl (by decide) rfl ?_
  exact lp l 0 (by omega)
set_option maxRecDepth 100000 in
set_option maxHeartbeats 4000000 in
theorem m_greatest {σ : Sto} {A : St} (hM : MO σ) (hA : A.ok) (hG : GC σ (fun y => A.CE false ((y : Int) - 200))) : CD mX8_greatest [.ref 114] 132 σ (some (.int (iI (2 * ((A.md false).hi : Int) - ((A.md false).wr : Int))))) σ := by
  obtain ⟨a1, a2, a3, a4, a5, a6, a7, h0⟩ := hM
  obtain ⟨l, hl, e1, e2, e3⟩ := (lo_hi hA).2
  obtain ⟨g, h119, hg⟩ := hG
  have hg : ∀ y, y < 401 → g y = nI (A.CE false ((y : Int) - 200)) := hg
  have lp : ∀ n e, e = l + n → e ≤ 400 → PW mX8_greatest 0 0 (fun v σ' => v = some (.int (iI (2 * ((A.md false).hi : Int) - ((A.md false).wr : Int)))) ∧ σ' = σ) 4 [some (.ref 114), some (.int (nI e))] [] 132 σ 0 0 := by
    intro n
    induction n with
    | zero =>
      intro e he he2
      have ee : e = l := by omega
      subst ee
      refine P_aload_n (q := 5) dX8_greatest_4 rfl rfl ?_
      refine P_get (q := 8) dX8_greatest_5 rfl fX8_22 (by decide) (h0) rfl ?_
      refine P_iload_n (q := 9) dX8_greatest_8 rfl rfl ?_
      refine P_iald (q := 10) (j := e) dX8_greatest_9 rfl (by decide) (h119) (rfl) (by omega) (by decide) ?_
      rw [hg e (by omega)]
      refine P_if_ne (q := 13) (tgt := 19) dX8_greatest_10 rfl (by decide) (fun c_10 => ?_) (fun c_10 => ?_)
      · refine P_iload_n (q := 20) dX8_greatest_19 rfl rfl ?_
        refine P_sipush (q := 23) (v := nI 200) dX8_greatest_20 rfl (by decide +kernel) ?_
        refine P_isub (q := 24) dX8_greatest_23 rfl ?_
        refine P_iret dX8_greatest_24 rfl (rfl) ?_
        refine ⟨?_, rfl⟩
        rw [iI_nI, iI_nI, iI_sub, ← e1]
        rfl
      · exact absurd ((CE_z hA false _).mp c_10) e2
    | succ n ih =>
      intro e he he2
      obtain ⟨e', rfl⟩ : ∃ e', e = e' + 1 := ⟨e - 1, by omega⟩
      refine P_aload_n (q := 5) dX8_greatest_4 rfl rfl ?_
      refine P_get (q := 8) dX8_greatest_5 rfl fX8_22 (by decide) (h0) rfl ?_
      refine P_iload_n (q := 9) dX8_greatest_8 rfl rfl ?_
      refine P_iald (q := 10) (j := e' + 1) dX8_greatest_9 rfl (by decide) (h119) (rfl) (by omega) (by decide) ?_
      rw [hg (e' + 1) (by omega)]
      refine P_if_ne (q := 13) (tgt := 19) dX8_greatest_10 rfl (by decide) (fun c_10 => ?_) (fun c_10 => ?_)
      · exact absurd ((CE_z hA false _).mpr (e3 (e' + 1) (by omega) (by omega))) c_10
      · refine P_iinc (q := 16) (L' := [_, _]) (v := nI e') dX8_greatest_13 rfl (by decide) rfl (nI_dec e') rfl ?_
        refine P_goto (tgt := 4) dX8_greatest_16 (by decide) ?_
        exact ih e' (by omega) (by omega)
  refine CP_of (by decide +kernel) (Nat.le_of_ble_eq_true rfl) ?_
  change PW _ _ _ _ 0 [_, _] [] _ _ _ _
  refine P_sipush (q := 3) (v := nI 400) dX8_greatest_0 rfl (by decide +kernel) ?_
  refine P_istore_n (q := 4) (L' := [_, _]) dX8_greatest_3 rfl (by decide) rfl ?_
  exact lp (400 - l) 400 (by omega) (by omega)
theorem AR_c {σ τ : Sto} (hAR : AR σ) (s : same σ τ (fun i => i = 119 ∨ i = 120 ∨ i = 121)) (h119 : ∃ g : Nat → Int32, τ 119 = pI .int 401 g) (h120 : ∃ g : Nat → Int32, τ 120 = pI .int 3208 g) (h121 : ∃ g : Nat → Int32, τ 121 = pI .int 3208 g) : AR τ := fun k h1 h2 => by
  by_cases e : k = 119
  · subst e; exact h119
  · by_cases e2 : k = 120
    · subst e2; exact h120
    · by_cases e3 : k = 121
      · subst e3; exact h121
      · obtain ⟨g, a⟩ := hAR k h1 h2
        exact ⟨g, (s k (by omega)).trans a⟩
theorem GC.ex {σ : Sto} {F : Nat → Nat} (h : GC σ F) : ∃ g : Nat → Int32, σ 119 = pI .int 401 g := by
  obtain ⟨g, a, -⟩ := h
  exact ⟨g, a⟩
theorem MW.cts {σ τ : Sto} {w : Cs} (hW : MW σ w) (s : same σ τ (fun i => i = 119 ∨ i = 120 ∨ i = 121)) (h119 : ∃ g : Nat → Int32, τ 119 = pI .int 401 g) (h120 : ∃ g : Nat → Int32, τ 120 = pI .int 3208 g) (h121 : ∃ g : Nat → Int32, τ 121 = pI .int 3208 g) : MW τ w := by
  obtain ⟨⟨pl, sp, rc, rr, h0⟩, -, hAR, -⟩ := id hW
  exact hW.ss (s.mono (fun i h => by omega)) ((s 114 (by omega)).trans h0) (AR_c hAR s h119 h120 h121)
set_option maxRecDepth 100000 in
set_option maxHeartbeats 4000000 in
theorem r_with {σ : Sto} {w : Cs} (hW : MW σ w) (k : Bool) {z : Int} (z1 : -2147483648 ≤ z) (z2 : z < 2147483648) : CP mX8_with 0 0 [.ref 114, .int (bI k), .int (iI z)] 132 σ (MK σ (nI (w.A.CE k z), w)) := by
  obtain ⟨⟨pl, sp0, rc, rr, h0⟩, hX, hAR, hl, ⟨gh, h117, hH⟩, hSn, hn, gt, t131, tch⟩ := id hW
  have hM := hW.mo
  obtain ⟨hA, g, h1, hR⟩ := id hX
  have hC := hA.1
  have hRr := hA.2.1
  have x119 : ∃ g : Nat → Int32, σ 119 = pI .int 401 g := hAR 119 (by decide) (by decide)
  have x120 : ∃ g : Nat → Int32, σ 120 = pI .int 3208 g := hAR 120 (by decide) (by decide)
  have x121 : ∃ g : Nat → Int32, σ 121 = pI .int 3208 g := hAR 121 (by decide) (by decide)
  have i1 := fun (σ : Sto) => m_in (n0 := 132) (σ := σ) (v := z) (a := -200) (b := 200) (by omega) (by omega) (by omega) (by omega) (by omega) (by omega)
  have hcall := m_call (w := k) hM hX x119 x120 x121
  refine CP_of (by decide +kernel) (Nat.le_of_ble_eq_true rfl) ?_
  change PW _ _ _ _ 0 [_, _, _] [] _ _ _ _
  refine P_aload_n (q := 1) dX8_with_0 rfl rfl ?_
  refine P_iload_n (q := 2) dX8_with_1 rfl rfl ?_
  refine P_callv (q := 5) dX8_with_2 rfl (hcall) kX8_120 rfl rfl (by decide) (h0) rfl ⟨by decide, by decide⟩ (Nat.le_of_ble_eq_true rfl) ⟨Nat.le_refl _, Nat.le_refl _⟩ ?_
  rintro v σ1 ⟨rfl, t1, q120, q121, hG⟩
  have hW1 := hW.cts t1 hG.ex q120 q121
  have e0 := (t1 114 (by omega)).trans h0
  obtain ⟨g1, q119, hg⟩ := id hG
  have hg : ∀ y, y < 401 → g1 y = nI (w.A.CE k ((y : Int) - 200)) := hg
  refine P_iload_n (q := 6) dX8_with_5 rfl rfl ?_
  refine P_i2l (q := 7) dX8_with_6 rfl ?_
  rw [i2l_I z1 z2]
  refine P_ldc2 (q := 10) dX8_with_7 rfl qX8_124 ?_
  refine P_ldc2 (q := 13) dX8_with_10 rfl qX8_126 ?_
  refine P_cs1 (q := 16) dX8_with_13 rfl kX8_73 (i1 _) rfl rfl ⟨by decide, by decide⟩ (Nat.le_of_ble_eq_true rfl) ⟨Nat.le_refl _, Nat.le_refl _⟩ ?_
  refine P_if_eq (q := 19) (tgt := 32) dX8_with_16 rfl (by decide) (fun c_16 => ?_) (fun c_16 => ?_)
  · rw [bI_0] at c_16
    have c_16 := of_decide_eq_false c_16
    refine P_iconst (q := 33) (v := nI 0) dX8_with_32 rfl (by decide +kernel) ?_
    refine P_iret dX8_with_33 rfl (rfl) ?_
    first
      | exact ⟨rfl, hW1, t1.mono (fun i h => by omega)⟩
      | exact ⟨by rw [CE_out hA k (by omega)], hW1, t1.mono (fun i h => by omega)⟩
  · rw [bI_n] at c_16
    have c_16 := of_decide_eq_true c_16
    obtain ⟨y, hy⟩ : ∃ y : Nat, (y : Int) = 200 + z := ⟨(200 + z).toNat, by omega⟩
    refine P_aload_n (q := 20) dX8_with_19 rfl rfl ?_
    refine P_get (q := 23) dX8_with_20 rfl fX8_22 (by decide) (e0) rfl ?_
    refine P_sipush (q := 26) (v := nI 200) dX8_with_23 rfl (by decide +kernel) ?_
    refine P_iload_n (q := 27) dX8_with_26 rfl rfl ?_
    refine P_iadd (q := 28) dX8_with_27 rfl ?_
    rw [ni_add hy]
    refine P_iald (q := 29) (j := y) dX8_with_28 rfl (by decide) (q119) (rfl) (by omega) (by decide) ?_
    rw [hg y (by omega), show (y : Int) - 200 = z by omega]
    refine P_goto (tgt := 33) dX8_with_29 (by decide) ?_
    refine P_iret dX8_with_33 rfl (rfl) ?_
    first
      | exact ⟨rfl, hW1, t1.mono (fun i h => by omega)⟩
      | exact ⟨by rw [CE_out hA k (by omega)], hW1, t1.mono (fun i h => by omega)⟩
set_option maxRecDepth 100000 in
set_option maxHeartbeats 4000000 in
theorem r_we {σ : Sto} {w : Cs} (hW : MW σ w) {z : Int} (z1 : -2147483648 ≤ z) (z2 : z < 2147483648) : CP mX8_withEnergy 0 0 [.ref 114, .int (iI z)] 132 σ (MK σ (oWE w z)) := by
  obtain ⟨⟨pl, sp0, rc, rr, h0⟩, hX, hAR, hl, ⟨gh, h117, hH⟩, hSn, hn, gt, t131, tch⟩ := id hW
  have hM := hW.mo
  obtain ⟨hA, g, h1, hR⟩ := id hX
  have hC := hA.1
  have hRr := hA.2.1
  have h := r_with hW false z1 z2
  refine CP_of (by decide +kernel) (Nat.le_of_ble_eq_true rfl) ?_
  change PW _ _ _ _ 0 [_, _] [] _ _ _ _
  refine P_aload_n (q := 1) dX8_withEnergy_0 rfl rfl ?_
  refine P_iconst (q := 2) (v := (bI false)) dX8_withEnergy_1 rfl (by decide +kernel) ?_
  refine P_iload_n (q := 3) dX8_withEnergy_2 rfl rfl ?_
  refine P_callv (q := 6) dX8_withEnergy_3 rfl (h) kX8_232 rfl rfl (by decide) (h0) rfl ⟨by decide, by decide⟩ (Nat.le_of_ble_eq_true rfl) ⟨Nat.le_refl _, Nat.le_refl _⟩ ?_
  rintro v σ1 ⟨rfl, hW1, t1⟩
  refine P_iret dX8_withEnergy_6 rfl (rfl) ?_
  refine ⟨?_, hW1, t1⟩
  unfold oWE
  rw [CE_me hA]
set_option maxRecDepth 100000 in
set_option maxHeartbeats 4000000 in
theorem r_ww {σ : Sto} {w : Cs} (hW : MW σ w) {z : Int} (z1 : -2147483648 ≤ z) (z2 : z < 2147483648) : CP mX8_withWalls 0 0 [.ref 114, .int (iI z)] 132 σ (MK σ (oWW w z)) := by
  obtain ⟨⟨pl, sp0, rc, rr, h0⟩, hX, hAR, hl, ⟨gh, h117, hH⟩, hSn, hn, gt, t131, tch⟩ := id hW
  have hM := hW.mo
  obtain ⟨hA, g, h1, hR⟩ := id hX
  have hC := hA.1
  have hRr := hA.2.1
  have h := r_with hW true z1 z2
  refine CP_of (by decide +kernel) (Nat.le_of_ble_eq_true rfl) ?_
  change PW _ _ _ _ 0 [_, _] [] _ _ _ _
  refine P_aload_n (q := 1) dX8_withWalls_0 rfl rfl ?_
  refine P_iconst (q := 2) (v := (bI true)) dX8_withWalls_1 rfl (by decide +kernel) ?_
  refine P_iload_n (q := 3) dX8_withWalls_2 rfl rfl ?_
  refine P_callv (q := 6) dX8_withWalls_3 rfl (h) kX8_232 rfl rfl (by decide) (h0) rfl ⟨by decide, by decide⟩ (Nat.le_of_ble_eq_true rfl) ⟨Nat.le_refl _, Nat.le_refl _⟩ ?_
  rintro v σ1 ⟨rfl, hW1, t1⟩
  refine P_iret dX8_withWalls_6 rfl (rfl) ?_
  refine ⟨?_, hW1, t1⟩
  unfold oWW
  rw [CE_ww hA]
  split <;> rfl
def oAll (A : St) (k : Nat) : Int32 := if k = 8 then iI (2 * ((A.md false).lo : Int) - ((A.md false).wr : Int)) else if k = 9 then iI (2 * ((A.md false).hi : Int) - ((A.md false).wr : Int)) else nI ((A.md false).me (2 * ((A.md false).lo : Int) - ((A.md false).wr : Int)))
set_option maxRecDepth 100000 in
set_option maxHeartbeats 4000000 in
theorem r_all {σ : Sto} {w : Cs} (hW : MW σ w) {k : Nat} (k1 : 8 ≤ k) (k2 : k ≤ 10) : CP mX8_ofAll 0 0 [.ref 114, .int (nI k)] 132 σ (MK σ (oAll w.A k, w)) := by
  obtain ⟨⟨pl, sp0, rc, rr, h0⟩, hX, hAR, hl, ⟨gh, h117, hH⟩, hSn, hn, gt, t131, tch⟩ := id hW
  have hM := hW.mo
  obtain ⟨hA, g, h1, hR⟩ := id hX
  have hC := hA.1
  have hRr := hA.2.1
  have x119 : ∃ g : Nat → Int32, σ 119 = pI .int 401 g := hAR 119 (by decide) (by decide)
  have x120 : ∃ g : Nat → Int32, σ 120 = pI .int 3208 g := hAR 120 (by decide) (by decide)
  have x121 : ∃ g : Nat → Int32, σ 121 = pI .int 3208 g := hAR 121 (by decide) (by decide)
  have hcall := m_call (w := false) hM hX x119 x120 x121
  refine CP_of (by decide +kernel) (Nat.le_of_ble_eq_true rfl) ?_
  change PW _ _ _ _ 0 [_, _] [] _ _ _ _
  refine P_aload_n (q := 1) dX8_ofAll_0 rfl rfl ?_
  refine P_iconst (q := 2) (v := (bI false)) dX8_ofAll_1 rfl (by decide +kernel) ?_
  refine P_callv (q := 5) dX8_ofAll_2 rfl (hcall) kX8_120 rfl rfl (by decide) (h0) rfl ⟨by decide, by decide⟩ (Nat.le_of_ble_eq_true rfl) ⟨Nat.le_refl _, Nat.le_refl _⟩ ?_
  rintro v σ1 ⟨rfl, t1, q120, q121, hG⟩
  have hW1 := hW.cts t1 hG.ex q120 q121
  have e0 := (t1 114 (by omega)).trans h0
  have hle := m_least hW1.mo hA hG
  have hgr := m_greatest hW1.mo hA hG
  obtain ⟨g1, q119, hg⟩ := id hG
  have hg : ∀ y, y < 401 → g1 y = nI (w.A.CE false ((y : Int) - 200)) := hg
  obtain ⟨l, hl, el, -⟩ := (lo_hi hA).1
  rw [← el] at hle
  refine P_iload_n (q := 6) dX8_ofAll_5 rfl rfl ?_
  refine P_bipush (q := 8) (v := nI 8) dX8_ofAll_6 rfl (by decide +kernel) ?_
  refine P_icmp_ne (q := 11) (tgt := 18) dX8_ofAll_8 rfl (by decide) (fun c_8 => ?_) (fun c_8 => ?_)
  · rw [nI_eq (by omega) (by omega)] at c_8
    refine P_iload_n (q := 19) dX8_ofAll_18 rfl rfl ?_
    refine P_bipush (q := 21) (v := nI 9) dX8_ofAll_19 rfl (by decide +kernel) ?_
    refine P_icmp_ne (q := 24) (tgt := 31) dX8_ofAll_21 rfl (by decide) (fun c_21 => ?_) (fun c_21 => ?_)
    · rw [nI_eq (by omega) (by omega)] at c_21
      refine P_aload_n (q := 32) dX8_ofAll_31 rfl rfl ?_
      refine P_get (q := 35) dX8_ofAll_32 rfl fX8_22 (by decide) (e0) rfl ?_
      refine P_sipush (q := 38) (v := nI 200) dX8_ofAll_35 rfl (by decide +kernel) ?_
      refine P_aload_n (q := 39) dX8_ofAll_38 rfl rfl ?_
      refine P_cv1 (q := 42) dX8_ofAll_39 rfl kX8_241 (hle) rfl rfl (by decide) (e0) rfl ⟨by decide, by decide⟩ (Nat.le_of_ble_eq_true rfl) ⟨Nat.le_refl _, Nat.le_refl _⟩ ?_
      refine P_iadd (q := 43) dX8_ofAll_42 rfl ?_
      rw [ni_add (show (l : Int) = ((200 : Nat) : Int) + ((l : Int) - 200) by omega)]
      refine P_iald (q := 44) (j := l) dX8_ofAll_43 rfl (by decide) (q119) (rfl) (by omega) (by decide) ?_
      rw [hg l (by omega)]
      refine P_iret dX8_ofAll_44 rfl (rfl) ?_
      refine ⟨?_, hW1, t1.mono (fun i h => by omega)⟩
      unfold oAll
      first
        | (rw [if_neg c_8, if_neg c_21, ← el, CE_me hA]; done)
        | (rw [if_neg c_8, if_pos c_21]; done)
        | (rw [if_pos c_8, ← el]; done)
    · rw [nI_eq (by omega) (by omega)] at c_21
      refine P_aload_n (q := 25) dX8_ofAll_24 rfl rfl ?_
      refine P_cv1 (q := 28) dX8_ofAll_25 rfl kX8_244 (hgr) rfl rfl (by decide) (e0) rfl ⟨by decide, by decide⟩ (Nat.le_of_ble_eq_true rfl) ⟨Nat.le_refl _, Nat.le_refl _⟩ ?_
      refine P_goto (tgt := 44) dX8_ofAll_28 (by decide) ?_
      refine P_iret dX8_ofAll_44 rfl (rfl) ?_
      refine ⟨?_, hW1, t1.mono (fun i h => by omega)⟩
      unfold oAll
      first
        | (rw [if_neg c_8, if_neg c_21, ← el, CE_me hA]; done)
        | (rw [if_neg c_8, if_pos c_21]; done)
        | (rw [if_pos c_8, ← el]; done)
  · rw [nI_eq (by omega) (by omega)] at c_8
    refine P_aload_n (q := 12) dX8_ofAll_11 rfl rfl ?_
    refine P_cv1 (q := 15) dX8_ofAll_12 rfl kX8_241 (hle) rfl rfl (by decide) (e0) rfl ⟨by decide, by decide⟩ (Nat.le_of_ble_eq_true rfl) ⟨Nat.le_refl _, Nat.le_refl _⟩ ?_
    refine P_goto (tgt := 44) dX8_ofAll_15 (by decide) ?_
    refine P_iret dX8_ofAll_44 rfl (rfl) ?_
    refine ⟨?_, hW1, t1.mono (fun i h => by omega)⟩
    unfold oAll
    first
      | (rw [if_neg c_8, if_neg c_21, ← el, CE_me hA]; done)
      | (rw [if_neg c_8, if_pos c_21]; done)
      | (rw [if_pos c_8, ← el]; done)
