/-! THE REFERENCE: sweeps -/
def St.swk (A : St) (k : Nat) : St := (A.swp (k / A.R)).swc (k / A.R) (k % A.R)
def St.cnk (A : St) (k : Nat) : Nat := A.cnp (k / A.R) + (A.swp (k / A.R)).cnc (k / A.R) (k % A.R)
theorem dm_next {k R : Nat} (h : 0 < R) : ((k + 1) / R = k / R ∧ (k + 1) % R = k % R + 1 ∧ k % R + 1 < R) ∨ ((k + 1) / R = k / R + 1 ∧ (k + 1) % R = 0 ∧ k % R + 1 = R) := by
  have h1 := Nat.div_add_mod k R
  have h2 := Nat.mod_lt k h
  by_cases e : k % R + 1 < R
  · left
    have e2 : k + 1 = R * (k / R) + (k % R + 1) := by omega
    rw [e2, Nat.mul_add_div h, Nat.mul_add_mod, Nat.div_eq_of_lt e, Nat.mod_eq_of_lt e]
    exact ⟨rfl, rfl, by omega⟩
  · right
    have e2 : k + 1 = R * (k / R + 1) := by rw [Nat.mul_add]; omega
    rw [e2, Nat.mul_div_cancel_left _ h, Nat.mul_mod_right]
    exact ⟨rfl, rfl, by omega⟩
theorem swk_s {A : St} (hA : A.ok) (k : Nat) : A.swk (k + 1) = (A.swk k).stp (k / A.R) (k % A.R) ∧ A.cnk (k + 1) = A.cnk k + (if 0 < (A.swk k).gain (k / A.R) (k % A.R) then 1 else 0) := by
  unfold St.swk St.cnk
  rcases dm_next (k := k) (show 0 < A.R by have := hA.2.1.1; omega) with ⟨e1, e2, -⟩ | ⟨e1, e2, e3⟩
  · rw [e1, e2]
    exact ⟨rfl, by rw [St.cnc, Nat.add_assoc]⟩
  · rw [e1, e2]
    constructor
    · show (A.swp (k / A.R)).swc (k / A.R) A.R = (A.swp (k / A.R)).swc (k / A.R) (k % A.R + 1)
      rw [e3]
    · show A.cnp (k / A.R) + (A.swp (k / A.R)).cnc (k / A.R) A.R + 0 = _
      have : (A.swp (k / A.R)).cnc (k / A.R) A.R = (A.swp (k / A.R)).cnc (k / A.R) (k % A.R + 1) := by rw [e3]
      rw [this, St.cnc, Nat.add_zero, Nat.add_assoc]
theorem swk_0 {A : St} (hA : A.ok) : A.swk 0 = A ∧ A.cnk 0 = 0 := by
  unfold St.swk St.cnk
  rw [Nat.zero_div, Nat.zero_mod]
  exact ⟨rfl, rfl⟩
theorem swk_e {A : St} (hA : A.ok) : A.swk (A.C * A.R) = A.swp A.C ∧ A.cnk (A.C * A.R) = A.cnp A.C := by
  have h : 0 < A.R := by have := hA.2.1.1; omega
  unfold St.swk St.cnk
  rw [Nat.mul_div_cancel _ h, Nat.mul_mod_left]
  exact ⟨rfl, rfl⟩
theorem dm_lt {A : St} (hA : A.ok) {k : Nat} (hk : k < A.C * A.R) : k / A.R < A.C ∧ k % A.R < A.R := by
  have h : 0 < A.R := by have := hA.2.1.1; omega
  exact ⟨Nat.div_lt_of_lt_mul (by rw [Nat.mul_comm]; exact hk), Nat.mod_lt _ h⟩
theorem swk_like {A : St} (hA : A.ok) : ∀ k, k ≤ A.C * A.R → A.like (A.swk k)
  | 0, _ => by rw [(swk_0 hA).1]; exact ⟨hA, rfl, rfl, rfl, rfl, rfl, rfl⟩
  | k + 1, h => by
    rw [(swk_s hA k).1]
    have hd := dm_lt hA (show k < A.C * A.R by omega)
    exact St.stp_like (swk_like hA k (by omega)) hd.1 hd.2
theorem cnk_le {A : St} (hA : A.ok) : ∀ k, A.cnk k ≤ k
  | 0 => by rw [(swk_0 hA).2]; exact Nat.le_refl _
  | k + 1 => by
    rw [(swk_s hA k).2]
    have := cnk_le hA k
    split <;> omega
theorem dm_i : ∀ k, k < 31 → ∀ R, R < 4 → 0 < R → nI k / nI R = nI (k / R) ∧ nI k - nI k / nI R * nI R = nI (k % R) := by decide +kernel
theorem nz_R : ∀ R, R < 4 → 0 < R → ¬ nI R = 0 := by decide +kernel
set_option maxRecDepth 100000 in
set_option maxHeartbeats 4000000 in
theorem m_sweeps {σ0 : Sto} {A : St} (hM : MO σ0) (hX : XA σ0 A) : CP mX8_sweeps 0 0 [.ref 114] 132 σ0 (fun v σ' => v = some (.int (nI (A.cnp A.C))) ∧ same σ0 σ' (fun i => i = 115) ∧ ∃ g', σ' 115 = pI .int 46 g' ∧ RA g' (A.swp A.C)) := by
  have hA := hX.1
  have hC := hA.1
  have hRr := hA.2.1
  have hCR : A.C * A.R ≤ 30 := Nat.mul_le_mul hC.2 hRr.2
  have hz := nz_R A.R (by omega) (by omega)
  have lp : ∀ n k, k + n = A.C * A.R → ∀ σ g, same σ0 σ (fun i => i = 115) → σ 115 = pI .int 46 g → RA g (A.swk k) → PW mX8_sweeps 0 0 (fun v σ' => v = some (.int (nI (A.cnp A.C))) ∧ same σ0 σ' (fun i => i = 115) ∧ ∃ g', σ' 115 = pI .int 46 g' ∧ RA g' (A.swp A.C)) 4 [some (.ref 114), some (.int (nI (A.cnk k))), some (.int (nI k))] [] 132 σ 0 0 := by
   intro n
   induction n with
   | zero =>
    intro k hk σ g hs h1 hR
    have e : k = A.C * A.R := by omega
    have hl := swk_like hA k (by omega)
    have hMσ : MO σ := by obtain ⟨a1, a2, a3, a4, a5, a6, a7, h⟩ := hM; exact ⟨a1, a2, a3, a4, a5, a6, a7, (hs 114 (by omega)).trans h⟩
    have hc := m_cells hMσ (XA.of h1 hl.1 hR)
    rw [hl.2.1, hl.2.2.1] at hc
    obtain ⟨a1, a2, a3, a4, a5, a6, a7, h0⟩ := id hMσ
    refine P_iload_n (q := 5) dX8_sweeps_4 rfl rfl ?_
    refine P_aload_n (q := 6) dX8_sweeps_5 rfl rfl ?_
    refine P_cv1 (q := 9) dX8_sweeps_6 rfl kX8_159 (hc) rfl rfl (by decide) (h0) rfl ⟨by decide, by decide⟩ (Nat.le_of_ble_eq_true rfl) ⟨Nat.le_refl _, Nat.le_refl _⟩ ?_
    refine P_icmp_ge (q := 12) (tgt := 64) dX8_sweeps_9 rfl (by decide) (fun c_9 => ?_) (fun c_9 => ?_)
    · rw [nI_leI (by omega) (by omega)] at c_9
      refine P_iload_n (q := 65) dX8_sweeps_64 rfl rfl ?_
      refine P_iret dX8_sweeps_65 rfl (rfl) ?_
      subst e
      rw [(swk_e hA).2]
      rw [(swk_e hA).1] at hR
      exact ⟨rfl, hs, g, h1, hR⟩
    · exfalso; rw [nI_leI (by omega) (by omega)] at c_9; omega
   | succ n ih =>
    intro k hk σ g hs h1 hR
    have hk' : k < A.C * A.R := by omega
    have hl := swk_like hA k (by omega)
    have hd := dm_lt hA hk'
    have hdm := dm_i k (by omega) A.R (by omega) (by omega)
    have hMσ : MO σ := by obtain ⟨a1, a2, a3, a4, a5, a6, a7, h⟩ := hM; exact ⟨a1, a2, a3, a4, a5, a6, a7, (hs 114 (by omega)).trans h⟩
    have hX1 := XA.of h1 hl.1 hR
    have hc := m_cells hMσ hX1
    rw [hl.2.1, hl.2.2.1] at hc
    have hg := m_gain hMσ hX1 (r := k % A.R) (c := k / A.R) (by rw [hl.2.2.1]; exact hd.2) (by rw [hl.2.1]; exact hd.1)
    have hgn := St.gain_in hl.1 (k / A.R) (k % A.R)
    have ht := m_turns hMσ h1 hR (r := k % A.R) (c := k / A.R) (by omega) (by omega)
    have hR1 : g 1 = nI A.R := by rw [← hl.2.2.1]; exact hR.2.1
    have hst := swk_s hA k
    unfold St.stp at hst
    obtain ⟨a1, a2, a3, a4, a5, a6, a7, h0⟩ := id hMσ
    refine P_iload_n (q := 5) dX8_sweeps_4 rfl rfl ?_
    refine P_aload_n (q := 6) dX8_sweeps_5 rfl rfl ?_
    refine P_cv1 (q := 9) dX8_sweeps_6 rfl kX8_159 (hc) rfl rfl (by decide) (h0) rfl ⟨by decide, by decide⟩ (Nat.le_of_ble_eq_true rfl) ⟨Nat.le_refl _, Nat.le_refl _⟩ ?_
    refine P_icmp_ge (q := 12) (tgt := 64) dX8_sweeps_9 rfl (by decide) (fun c_9 => ?_) (fun c_9 => ?_)
    · exfalso; rw [nI_leI (by omega) (by omega)] at c_9; omega
    · rw [nI_leI (by omega) (by omega)] at c_9
      refine P_aload_n (q := 13) dX8_sweeps_12 rfl rfl ?_
      refine P_iload_n (q := 14) dX8_sweeps_13 rfl rfl ?_
      refine P_aload_n (q := 15) dX8_sweeps_14 rfl rfl ?_
      refine P_get (q := 18) dX8_sweeps_15 rfl fX8_7 (by decide) (h0) rfl ?_
      refine P_iconst (q := 19) (v := nI 1) dX8_sweeps_18 rfl (by decide +kernel) ?_
      refine P_iald (q := 20) (j := 1) dX8_sweeps_19 rfl (by decide) (h1) (rfl) (by omega) (by decide) ?_
      rw [hR1]
      refine P_irem (q := 21) dX8_sweeps_20 rfl (hz) ?_
      rw [hdm.2]
      refine P_iload_n (q := 22) dX8_sweeps_21 rfl rfl ?_
      refine P_aload_n (q := 23) dX8_sweeps_22 rfl rfl ?_
      refine P_get (q := 26) dX8_sweeps_23 rfl fX8_7 (by decide) (h0) rfl ?_
      refine P_iconst (q := 27) (v := nI 1) dX8_sweeps_26 rfl (by decide +kernel) ?_
      refine P_iald (q := 28) (j := 1) dX8_sweeps_27 rfl (by decide) (h1) (rfl) (by omega) (by decide) ?_
      rw [hR1]
      refine P_idiv (q := 29) dX8_sweeps_28 rfl (hz) ?_
      rw [hdm.1]
      refine P_cv1 (q := 32) dX8_sweeps_29 rfl kX8_190 (hg) rfl rfl (by decide) (h0) rfl ⟨by decide, by decide⟩ (Nat.le_of_ble_eq_true rfl) ⟨Nat.le_refl _, Nat.le_refl _⟩ ?_
      refine P_if_le (q := 35) (tgt := 58) dX8_sweeps_32 rfl (by decide) (fun c_32 => ?_) (fun c_32 => ?_)
      · rw [show ((0 : Int32)) = iI 0 from rfl, iI_le (by omega) (by omega) (by omega) (by omega)] at c_32
        refine P_iinc (q := 61) (L' := [_, _, _]) (v := nI (k + 1)) dX8_sweeps_58 rfl (by decide) rfl (nI_1 k) rfl ?_
        refine P_goto (tgt := 4) dX8_sweeps_61 (by decide) ?_
        first
          | (rw [if_neg (by omega)] at hst
             rw [if_neg (by omega)] at hst
             have h := ih (k + 1) (by omega) σ g hs h1 (by rw [hst.1]; exact hR)
             rw [hst.2] at h
             exact h)
          | (rw [if_pos (by omega)] at hst
             rw [if_pos (by omega)] at hst
             have h := ih (k + 1) (by omega) _ _ (hs.up rfl) (up_at _ _ _) (by rw [hst.1]; exact RA_tn hl.1 hR (by omega) (by omega))
             rw [hst.2] at h
             exact h)
      · rw [show ((0 : Int32)) = iI 0 from rfl, iI_le (by omega) (by omega) (by omega) (by omega)] at c_32
        refine P_aload_n (q := 36) dX8_sweeps_35 rfl rfl ?_
        refine P_iload_n (q := 37) dX8_sweeps_36 rfl rfl ?_
        refine P_aload_n (q := 38) dX8_sweeps_37 rfl rfl ?_
        refine P_get (q := 41) dX8_sweeps_38 rfl fX8_7 (by decide) (h0) rfl ?_
        refine P_iconst (q := 42) (v := nI 1) dX8_sweeps_41 rfl (by decide +kernel) ?_
        refine P_iald (q := 43) (j := 1) dX8_sweeps_42 rfl (by decide) (h1) (rfl) (by omega) (by decide) ?_
        rw [hR1]
        refine P_irem (q := 44) dX8_sweeps_43 rfl (hz) ?_
        rw [hdm.2]
        refine P_iload_n (q := 45) dX8_sweeps_44 rfl rfl ?_
        refine P_aload_n (q := 46) dX8_sweeps_45 rfl rfl ?_
        refine P_get (q := 49) dX8_sweeps_46 rfl fX8_7 (by decide) (h0) rfl ?_
        refine P_iconst (q := 50) (v := nI 1) dX8_sweeps_49 rfl (by decide +kernel) ?_
        refine P_iald (q := 51) (j := 1) dX8_sweeps_50 rfl (by decide) (h1) (rfl) (by omega) (by decide) ?_
        rw [hR1]
        refine P_idiv (q := 52) dX8_sweeps_51 rfl (hz) ?_
        rw [hdm.1]
        refine P_cv0 (q := 55) dX8_sweeps_52 rfl kX8_187 (ht) rfl rfl (by decide) (h0) rfl ⟨by decide, by decide⟩ (Nat.le_of_ble_eq_true rfl) ⟨Nat.le_refl _, Nat.le_refl _⟩ ?_
        refine P_iinc (q := 58) (L' := [_, _, _]) (v := nI (A.cnk k + 1)) dX8_sweeps_55 rfl (by decide) rfl (nI_1 _) rfl ?_
        refine P_iinc (q := 61) (L' := [_, _, _]) (v := nI (k + 1)) dX8_sweeps_58 rfl (by decide) rfl (nI_1 k) rfl ?_
        refine P_goto (tgt := 4) dX8_sweeps_61 (by decide) ?_
        first
          | (rw [if_neg (by omega)] at hst
             rw [if_neg (by omega)] at hst
             have h := ih (k + 1) (by omega) σ g hs h1 (by rw [hst.1]; exact hR)
             rw [hst.2] at h
             exact h)
          | (rw [if_pos (by omega)] at hst
             rw [if_pos (by omega)] at hst
             have h := ih (k + 1) (by omega) _ _ (hs.up rfl) (up_at _ _ _) (by rw [hst.1]; exact RA_tn hl.1 hR (by omega) (by omega))
             rw [hst.2] at h
             exact h)
  refine CP_of (by decide +kernel) (Nat.le_of_ble_eq_true rfl) ?_
  change PW _ _ _ _ 0 [_, _, _] [] _ _ _ _
  refine P_iconst (q := 1) (v := nI 0) dX8_sweeps_0 rfl (by decide +kernel) ?_
  refine P_istore_n (q := 2) (L' := [_, _, _]) dX8_sweeps_1 rfl (by decide) rfl ?_
  refine P_iconst (q := 3) (v := nI 0) dX8_sweeps_2 rfl (by decide +kernel) ?_
  refine P_istore_n (q := 4) (L' := [_, _, _]) dX8_sweeps_3 rfl (by decide) rfl ?_
  obtain ⟨-, g, h1, hR⟩ := hX
  have h := lp (A.C * A.R) 0 (by omega) σ0 g same.rf h1 (by rw [(swk_0 hA).1]; exact hR)
  rw [(swk_0 hA).2] at h
  exact h
set_option maxRecDepth 100000 in
set_option maxHeartbeats 4000000 in
theorem w_rsweep {σ0 : Sto} {A F : St} {T m : Nat} (hM : MO σ0) (hm : m ≤ 50) {QQ : Option Value → Sto → Prop} (hQ : ∀ σ g, same σ0 σ (fun i => i = 115) → σ 115 = pI .int 46 g → RA g F → ∀ x y : Option Value, PW mX8_sweep 0 0 QQ 52 [some (.ref 114), some (.int (nI m)), some (.int (nI T)), x, y] [] 132 σ 0 0) : ∀ n j, j + n = m → ∀ (B : St) (s t : Nat) (σ : Sto) (g : Nat → Int32), same σ0 σ (fun i => i = 115) → σ 115 = pI .int 46 g → RA g B → A.like B → (t = 0 → B.cnp B.C = 0) → t ≤ 30 → (St.run n B).1 = F → s + (St.run n B).2 = T → PW mX8_sweep 0 0 QQ 27 [some (.ref 114), some (.int (nI m)), some (.int (nI s)), some (.int (nI t)), some (.int (nI j))] [] 132 σ 0 0 := by
  intro n
  induction n with
  | zero =>
    intro j hj B s t σ g hs h1 hR hB ht ht2 hF hT
    have hT' : s + 0 = T := hT
    have hF' : B = F := hF
    subst hF' hT'
    refine P_iload (q := 29) dX8_sweep_27 rfl rfl ?_
    refine P_iload_n (q := 30) dX8_sweep_29 rfl rfl ?_
    refine P_icmp_ge (q := 33) (tgt := 52) dX8_sweep_30 rfl (by decide) (fun c_30 => ?_) (fun c_30 => ?_)
    · rw [nI_leI (by omega) (by omega)] at c_30
      exact hQ σ g hs h1 hR _ _
    · exfalso; rw [nI_leI (by omega) (by omega)] at c_30; omega
  | succ n ih =>
    intro j hj B s t σ g hs h1 hR hB ht ht2 hF hT
    have hBo := hB.1
    have hl := St.swp_like hBo B.C (Nat.le_refl _)
    have hcp := cnp_le hBo B.C
    have hBC := hBo.1.2
    have hl2 : A.like (B.swp B.C) := ⟨hl.1, hl.2.1.trans hB.2.1, hl.2.2.1.trans hB.2.2.1, hl.2.2.2.1.trans hB.2.2.2.1, hl.2.2.2.2.1.trans hB.2.2.2.2.1, hl.2.2.2.2.2.1.trans hB.2.2.2.2.2.1, hl.2.2.2.2.2.2.trans hB.2.2.2.2.2.2⟩
    have e1 := run_s (A := B) n
    have hMσ : MO σ := by obtain ⟨a1, a2, a3, a4, a5, a6, a7, h⟩ := hM; exact ⟨a1, a2, a3, a4, a5, a6, a7, (hs 114 (by omega)).trans h⟩
    have hsw := m_sweeps hMσ (XA.of h1 hBo hR)
    obtain ⟨a1, a2, a3, a4, a5, a6, a7, h0⟩ := id hMσ
    refine P_iload (q := 29) dX8_sweep_27 rfl rfl ?_
    refine P_iload_n (q := 30) dX8_sweep_29 rfl rfl ?_
    refine P_icmp_ge (q := 33) (tgt := 52) dX8_sweep_30 rfl (by decide) (fun c_30 => ?_) (fun c_30 => ?_)
    · exfalso; rw [nI_leI (by omega) (by omega)] at c_30; omega
    · rw [nI_leI (by omega) (by omega)] at c_30
      refine P_iload_n (q := 34) dX8_sweep_33 rfl rfl ?_
      refine P_if_le (q := 37) (tgt := 52) dX8_sweep_34 rfl (by decide) (fun c_34 => ?_) (fun c_34 => ?_)
      · have et : t = 0 := by rw [show ((0 : Int32)) = nI 0 from rfl, nI_leI (by omega) (by omega)] at c_34; omega
        have ez := run_0 (ht et) (n + 1)
        rw [ez] at hF hT
        have hT' : s + 0 = T := hT
        have hF' : B = F := hF
        subst hF' hT'
        exact hQ σ g hs h1 hR _ _
      · refine P_aload_n (q := 38) dX8_sweep_37 rfl rfl ?_
        refine P_callv (q := 41) dX8_sweep_38 rfl (hsw) kX8_195 rfl rfl (by decide) (h0) rfl ⟨by decide, by decide⟩ (Nat.le_of_ble_eq_true rfl) ⟨Nat.le_refl _, Nat.le_refl _⟩ ?_
        rintro v σ1 ⟨rfl, t1, g1, q1, q2⟩
        refine P_istore_n (q := 42) (L' := [_, _, _, _, _]) dX8_sweep_41 rfl (by decide) rfl ?_
        refine P_iload_n (q := 43) dX8_sweep_42 rfl rfl ?_
        refine P_iload_n (q := 44) dX8_sweep_43 rfl rfl ?_
        refine P_iadd (q := 45) dX8_sweep_44 rfl ?_
        rw [show nI s + nI (B.cnp B.C) = nI (s + B.cnp B.C) from nI_add s _]
        refine P_istore_n (q := 46) (L' := [_, _, _, _, _]) dX8_sweep_45 rfl (by decide) rfl ?_
        refine P_iinc (q := 49) (L' := [_, _, _, _, _]) (v := nI (j + 1)) dX8_sweep_46 rfl (by decide) rfl (nI_1 j) rfl ?_
        refine P_goto (tgt := 27) dX8_sweep_49 (by decide) ?_
        refine ih (j + 1) (by omega) (B.swp B.C) _ _ σ1 g1 (hs.trans t1) q1 q2 hl2 (fun e => ?_) (by omega) ?_ ?_
        · rw [(cnp_0 B.C e).1]; exact e
        · rw [← hF, e1]
        · rw [← hT, e1]; exact Nat.add_assoc _ _ _
set_option maxRecDepth 100000 in
set_option maxHeartbeats 4000000 in
theorem r_sweep {σ : Sto} {w : Cs} (hW : MW σ w) {z : Int} (z1 : -2147483648 ≤ z) (z2 : z < 2147483648) : CP mX8_sweep 0 0 [.ref 114, .int (iI z)] 132 σ (MK σ (oSweep w z)) := by
  obtain ⟨⟨pl, sp0, rc, rr, h0⟩, hX, hAR, hl, ⟨gh, h117, hH⟩, hSn, hn, gt, t131, tch⟩ := id hW
  have hM := hW.mo
  obtain ⟨hA, g, h1, hR⟩ := id hX
  have hC := hA.1
  have hRr := hA.2.1
  have i1 := fun (σ : Sto) => m_in (n0 := 132) (σ := σ) (v := z) (a := 1) (b := 50) (by omega) (by omega) (by omega) (by omega) (by omega) (by omega)
  refine CP_of (by decide +kernel) (Nat.le_of_ble_eq_true rfl) ?_
  change PW _ _ _ _ 0 [_, _, _, _, _] [] _ _ _ _
  refine P_iload_n (q := 1) dX8_sweep_0 rfl rfl ?_
  refine P_i2l (q := 2) dX8_sweep_1 rfl ?_
  rw [i2l_I z1 z2]
  refine P_lconst (q := 3) (v := lN 1) dX8_sweep_2 rfl (by decide +kernel) ?_
  refine P_ldc2 (q := 6) dX8_sweep_3 rfl qX8_193 ?_
  refine P_cs1 (q := 9) dX8_sweep_6 rfl kX8_73 (i1 _) rfl rfl ⟨by decide, by decide⟩ (Nat.le_of_ble_eq_true rfl) ⟨Nat.le_refl _, Nat.le_refl _⟩ ?_
  refine P_if_ne (q := 12) (tgt := 16) dX8_sweep_9 rfl (by decide) (fun c_9 => ?_) (fun c_9 => ?_)
  · rw [bI_n] at c_9
    have c_9 := of_decide_eq_true c_9
    obtain ⟨m, rfl⟩ : ∃ m : Nat, z = m := ⟨z.toNat, by omega⟩
    rw [← iI_nI]
    refine P_aload_n (q := 17) dX8_sweep_16 rfl rfl ?_
    obtain ⟨gk, h116⟩ := hAR 116 (by decide) (by decide)
    change σ 116 = pI .int 46 gk at h116
    refine P_cv0 (q := 20) dX8_sweep_17 rfl kX8_169 (m_rem hM h1 h116) rfl rfl (by decide) (h0) rfl ⟨by decide, by decide⟩ (Nat.le_of_ble_eq_true rfl) ⟨Nat.le_refl _, Nat.le_refl _⟩ ?_
    generalize hσ1 : va_up σ 116 (pI .int 46 (flC g gk 46)) = σ1
    have q0 : σ1 114 = moO w.H.length w.Sn.isSome.toNat pl w.n sp0 rc rr := by rw [← hσ1]; exact (up_ne _ _ (by omega)).trans h0
    have q1 : σ1 115 = pI .int 46 g := by rw [← hσ1]; exact (up_ne _ _ (by omega)).trans h1
    have q116 : σ1 116 = pI .int 46 (flC g gk 46) := by rw [← hσ1]; exact up_at _ _ _
    have qR := RA_flC (g := gk) hA hR
    have qs : same σ σ1 (fun i => i = 114 ∨ i = 115 ∨ i = 116 ∨ (119 ≤ i ∧ i ≤ 130)) := by rw [← hσ1]; exact same.rf.up (by omega)
    have qAR : AR σ1 := by rw [← hσ1]; exact hAR.up (a := 116)
    have qM : MO σ1 := ⟨_, _, _, _, _, _, _, q0⟩
    refine P_iconst (q := 21) (v := nI 0) dX8_sweep_20 rfl (by decide +kernel) ?_
    refine P_istore_n (q := 22) (L' := [_, _, _, _, _]) dX8_sweep_21 rfl (by decide) rfl ?_
    refine P_iconst (q := 23) (v := nI 1) dX8_sweep_22 rfl (by decide +kernel) ?_
    refine P_istore_n (q := 24) (L' := [_, _, _, _, _]) dX8_sweep_23 rfl (by decide) rfl ?_
    refine P_iconst (q := 25) (v := nI 0) dX8_sweep_24 rfl (by decide +kernel) ?_
    refine P_istore (q := 27) (L' := [_, _, _, _, _]) dX8_sweep_25 rfl (by decide) rfl ?_
    have hl0 : w.A.like w.A := ⟨hA, rfl, rfl, rfl, rfl, rfl, rfl⟩
    have hF := run_like m w.A hl0
    have hle := run_le hA m
    refine w_rsweep (F := (St.run m w.A).1) (T := (St.run m w.A).2) qM (show m ≤ 50 by omega) (fun σ2 g2 s2 p1 hRB x y => ?_) m 0 (by omega) w.A 0 1 σ1 g same.rf q1 hR hl0 (fun q => by omega) (by omega) rfl (Nat.zero_add _)
    have p0 := (s2 114 (by omega)).trans q0
    have p116 := (s2 116 (by omega)).trans q116
    have ps := qs.trans (s2.mono (fun i h => Or.inr (Or.inl h)))
    have hB := hF.1
    have pAR : AR σ2 := fun k a b => by
      by_cases e : k = 115
      · subst e; exact ⟨g2, p1⟩
      · obtain ⟨q, hq⟩ := qAR k a b
        exact ⟨q, (s2 k e).trans hq⟩
    refine P_iload_n (q := 53) dX8_sweep_52 rfl rfl ?_
    refine P_if_ne (q := 56) (tgt := 62) dX8_sweep_53 rfl (by decide) (fun c_53 => ?_) (fun c_53 => ?_)
    · rw [show ((0 : Int32)) = nI 0 from rfl, nI_eq (by omega) (by omega)] at c_53
      refine P_aload_n (q := 63) dX8_sweep_62 rfl rfl ?_
      refine P_iload_n (q := 64) dX8_sweep_63 rfl rfl ?_
      refine P_callv (q := 67) dX8_sweep_64 rfl (m_acted (x := nI (St.run m w.A).2) hA p116 qR hl p0 ((ps 117 (by omega)).trans h117) hH) kX8_172 rfl rfl (by decide) (p0) rfl ⟨by decide, by decide⟩ (Nat.le_of_ble_eq_true rfl) ⟨Nat.le_refl _, Nat.le_refl _⟩ ?_
      rintro v σ3 ⟨rfl, s3, e3, g3, e117, hH3⟩
      have fin := hW.act ps p1 hB hRB pAR s3 e3 e117 hH3
      refine P_iret dX8_sweep_67 rfl (rfl) ?_
      unfold oSweep
      rw [if_pos c_9]
      simp only [Int.toNat_natCast]
      rw [if_neg c_53]
      exact ⟨rfl, fin⟩
    · rw [show ((0 : Int32)) = nI 0 from rfl, nI_eq (by omega) (by omega)] at c_53
      refine P_sipush (q := 59) (v := iI (-1005)) dX8_sweep_56 rfl (by decide +kernel) ?_
      refine P_goto (tgt := 67) dX8_sweep_59 (by decide) ?_
      refine P_iret dX8_sweep_67 rfl (rfl) ?_
      unfold oSweep
      rw [if_pos c_9]
      simp only [Int.toNat_natCast]
      rw [if_pos c_53]
      have ez : St.run m w.A = (w.A, 0) := by
        obtain ⟨m, rfl⟩ : ∃ k, m = k + 1 := ⟨m - 1, by omega⟩
        exact run_0 ((GC_0 w.A).mp ((run_pos (by omega)).mp c_53)) _
      rw [ez] at hRB
      exact ⟨rfl, ⟨⟨pl, sp0, rc, rr, p0⟩, XA.of p1 hA hRB, pAR, hl, ⟨gh, (ps 117 (by omega)).trans h117, hH⟩, fun C hC => by
        obtain ⟨hC1, q, hq, hq2⟩ := hSn C hC
        exact ⟨hC1, q, (ps 118 (by omega)).trans hq, hq2⟩, hn, gt, (ps 131 (by omega)).trans t131, tch⟩, fun k hk => ps k (by omega)⟩
  · rw [bI_0] at c_9
    have c_9 := of_decide_eq_false c_9
    refine P_sipush (q := 15) (v := iI (-1002)) dX8_sweep_12 rfl (by decide +kernel) ?_
    refine P_iret dX8_sweep_15 rfl (rfl) ?_
    unfold oSweep; rw [if_neg c_9]; exact MK.stay hW
