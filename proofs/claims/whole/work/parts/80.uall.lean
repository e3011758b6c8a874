/-! THE REFERENCE: upsAll, the least energy, withUps -/
def E4 (σ : Sto) : Prop := (∃ g : Nat → Int32, σ 122 = pI .int 248 g) ∧ (∃ g : Nat → Int32, σ 123 = pI .int 248 g) ∧ (∃ g : Nat → Int32, σ 124 = pI .int 248 g) ∧ ∃ g : Nat → Int32, σ 125 = pI .int 248 g
theorem E4.to {σ τ : Sto} (h : E4 σ) (e : ∀ k, 122 ≤ k → k ≤ 125 → τ k = σ k) : E4 τ := by
  obtain ⟨⟨a, ha⟩, ⟨b, hb⟩, ⟨c, hc⟩, d, hd⟩ := h
  exact ⟨⟨a, (e _ (by omega) (by omega)).trans ha⟩, ⟨b, (e _ (by omega) (by omega)).trans hb⟩, ⟨c, (e _ (by omega) (by omega)).trans hc⟩, d, (e _ (by omega) (by omega)).trans hd⟩
theorem AR.e4 {σ : Sto} (h : AR σ) : E4 σ := ⟨h 122 (by decide) (by decide), h 123 (by decide) (by decide), h 124 (by decide) (by decide), h 125 (by decide) (by decide)⟩
set_option maxRecDepth 100000 in
set_option maxHeartbeats 4000000 in
theorem m_ufrom {σ0 : Sto} {A : St} {f last : Nat} {G : Nat → Int → Nat} (hM : MO σ0) (hX : XA σ0 A) (hE : E4 σ0) (hG : U1 σ0 G) (hf : f ≤ last) (hl : last < 2 ^ A.R) : CP mX8_upsFrom 0 0 [.ref 114, .int (nI f), .int (nI last), .int (bI A.lp)] 132 σ0 (fun v σ' => v = none ∧ same σ0 σ' (fun i => 122 ≤ i ∧ i ≤ 127) ∧ E4 σ' ∧ U1 σ' (fun u e => G u e + A.FU (rng f (last + 1)) f (2 ^ A.R) u e)) := by
  have hA := hX.1
  have hC := hA.1
  have hR := hA.2.1
  have h8 := pow8 hR.2
  have hMs : ∀ σ, same σ0 σ (fun i => 122 ≤ i ∧ i ≤ 125) → MO σ := fun σ s => by
    obtain ⟨a1, a2, a3, a4, a5, a6, a7, h⟩ := hM
    exact ⟨a1, a2, a3, a4, a5, a6, a7, (s 114 (by omega)).trans h⟩
  have hXs : ∀ σ, same σ0 σ (fun i => 122 ≤ i ∧ i ≤ 125) → XA σ A := fun σ s => by
    obtain ⟨-, g, h, hR⟩ := hX
    exact ⟨hA, g, (s 115 (by omega)).trans h, hR⟩
  obtain ⟨⟨gz, h122⟩, ⟨hz, h123⟩, h124, h125⟩ := hE
  refine CP_of (by decide +kernel) (Nat.le_of_ble_eq_true rfl) ?_
  change PW _ _ _ _ 0 [_, _, _, _, _, _, _, _, _] [] _ _ _ _
  refine P_iconst (q := 1) (v := nI 0) dX8_upsFrom_0 rfl (by decide +kernel) ?_
  refine P_istore (q := 3) (L' := [_, _, _, _, _, _, _, _, _]) dX8_upsFrom_1 rfl (by decide) rfl ?_
  have hzz := w_uz1 (cl := A.lp) (f := f) (last := last) (a5 := none) (a6 := none) (a7 := none) (a8 := none) (g := gz) (h := hz) hM (QQ := (fun v σ' => v = none ∧ same σ0 σ' (fun i => 122 ≤ i ∧ i ≤ 127) ∧ E4 σ' ∧ U1 σ' (fun u e => G u e + A.FU (rng f (last + 1)) f (2 ^ A.R) u e))) (fun xx => ?_) 248 0 (by omega)
  · rw [flC_0, flC_0, up_self h122, up_self h123] at hzz
    exact hzz
  · have hs1 : same σ0 (va_up (va_up σ0 122 (pI .int 248 (flC (fun _ => (1000000 : Int32)) gz 248))) 123 (pI .int 248 (flC (fun _ => nI 0) hz 248))) (fun i => 122 ≤ i ∧ i ≤ 125) := (same.rf.up (by omega)).up (by omega)
    have r122 : (va_up (va_up σ0 122 (pI .int 248 (flC (fun _ => (1000000 : Int32)) gz 248))) 123 (pI .int 248 (flC (fun _ => nI 0) hz 248))) 122 = pI .int 248 (flC (fun _ => (1000000 : Int32)) gz 248) := (up_ne _ _ (by omega)).trans (up_at _ _ _)
    have r123 : (va_up (va_up σ0 122 (pI .int 248 (flC (fun _ => (1000000 : Int32)) gz 248))) 123 (pI .int 248 (flC (fun _ => nI 0) hz 248))) 123 = pI .int 248 (flC (fun _ => nI 0) hz 248) := up_at _ _ _
    have un : ∀ k, k ≠ 122 → k ≠ 123 → (va_up (va_up σ0 122 (pI .int 248 (flC (fun _ => (1000000 : Int32)) gz 248))) 123 (pI .int 248 (flC (fun _ => nI 0) hz 248))) k = σ0 k := fun k h1 h2 => (up_ne _ _ h2).trans (up_ne _ _ h1)
    generalize (va_up (va_up σ0 122 (pI .int 248 (flC (fun _ => (1000000 : Int32)) gz 248))) 123 (pI .int 248 (flC (fun _ => nI 0) hz 248))) = σ1 at hs1 r122 r123 un ⊢
    refine P_iload_n (q := 35) dX8_upsFrom_34 rfl rfl ?_
    refine P_istore (q := 37) (L' := [_, _, _, _, _, _, _, _, _]) dX8_upsFrom_35 rfl (by decide) rfl ?_
    refine w_uin (hMs σ1 hs1) (hXs σ1 hs1) hl (fun σ2 t2 hG2 x4 x5 x6 x7 x8 => ?_) (last + 1 - f) f (by omega) (Nat.le_refl _) σ1 same.rf (UR_0 r122 r123 (by omega) (fun t u e _ _ => if_neg (fun q => by omega))) _ _ _ _
    have hs2 : same σ0 σ2 (fun i => 122 ≤ i ∧ i ≤ 125) := hs1.trans (t2.mono (fun i h => by omega))
    refine P_iconst (q := 91) (v := nI 1) dX8_upsFrom_90 rfl (by decide +kernel) ?_
    refine P_istore (q := 93) (L' := [_, _, _, _, _, _, _, _, _]) dX8_upsFrom_91 rfl (by decide) rfl ?_
    obtain ⟨g4, h124⟩ := h124
    obtain ⟨g5, h125⟩ := h125
    refine w_uf0 (hMs σ2 hs2) (hXs σ2 hs2) (P := rng f (last + 1)) (fun σ3 t3 hG3 h3 h4 y4 y5 y6 y7 y8 => ?_) (A.C - 1) 0 (by omega) σ2 same.rf (hG2.cg (fun t u x _ _ => ?_)) ⟨g4, ((t2 124 (by omega)).trans (un 124 (by omega) (by omega))).trans h124⟩ ⟨g5, ((t2 125 (by omega)).trans (un 125 (by omega) (by omega))).trans h125⟩ _ _ _ _
    · have hs3 : same σ0 σ3 (fun i => 122 ≤ i ∧ i ≤ 125) := hs2.trans t3
      have hG4 : U1 σ3 G := hG.to (hs3 126 (by omega)) (hs3 127 (by omega))
      refine P_iconst (q := 339) (v := nI 0) dX8_upsFrom_338 rfl (by decide +kernel) ?_
      refine P_istore (q := 341) (L' := [_, _, _, _, _, _, _, _, _]) dX8_upsFrom_339 rfl (by decide) rfl ?_
      refine w_uf5 (hMs σ3 hs3) (hXs σ3 hs3) hG3 (show f < 2 ^ A.R by omega) (G := G) (fun σ4 t4 hG5 z4 z5 z6 z7 z8 => ?_) (2 ^ A.R) 0 (by omega) σ3 same.rf (hG4.cg (fun u x _ => rfl)) _ _ _ _
      have hx := hG3.ex
      have hE3 : E4 σ3 := ⟨hx.1, hx.2, h3, h4⟩
      refine P_vret dX8_upsFrom_448 rfl ?_
      exact ⟨rfl, (hs3.mono (fun i h => by omega)).trans (t4.mono (fun i h => by omega)), hE3.to (fun k h1 h2 => t4 k (by omega)), hG5⟩
    · show (if rng f (last + 1) t = true ∧ u = pcN 3 t ∧ x = A.col false 0 t then 1 else 0) = A.I1 f (last + 1) t u x
      unfold St.I1 rng
      simp only [decide_eq_true_iff, and_assoc]
set_option maxRecDepth 100000 in
set_option maxHeartbeats 4000000 in
theorem m_uall {σ0 : Sto} {A : St} (hM : MO σ0) (hX : XA σ0 A) (hE : E4 σ0) (h126 : ∃ g : Nat → Int32, σ0 126 = pI .int 31 g) (h127 : ∃ g : Nat → Int32, σ0 127 = pI .int 31 g) : CP mX8_upsAll 0 0 [.ref 114] 132 σ0 (fun v σ' => v = none ∧ same σ0 σ' (fun i => 122 ≤ i ∧ i ≤ 127) ∧ E4 σ' ∧ U1 σ' A.CU) := by
  have hA := hX.1
  have hC := hA.1
  have hR := hA.2.1
  have h8 := pow8 hR.2
  have hMs : ∀ σ, same σ0 σ (fun i => 122 ≤ i ∧ i ≤ 127) → MO σ := fun σ s => by
    obtain ⟨a1, a2, a3, a4, a5, a6, a7, h⟩ := hM
    exact ⟨a1, a2, a3, a4, a5, a6, a7, (s 114 (by omega)).trans h⟩
  have hXs : ∀ σ, same σ0 σ (fun i => 122 ≤ i ∧ i ≤ 127) → XA σ A := fun σ s => by
    obtain ⟨-, g, h, hR⟩ := hX
    exact ⟨hA, g, (s 115 (by omega)).trans h, hR⟩
  have hK := Nat.two_pow_pos A.R
  obtain ⟨gc, h126⟩ := h126
  obtain ⟨hc, h127⟩ := h127
  have lp2 : A.lp = true → ∀ n f, f + n = 2 ^ A.R → ∀ σ, same σ0 σ (fun i => 122 ≤ i ∧ i ≤ 127) → E4 σ → U1 σ (fun u e => sumN f (fun f => A.FU (rng f (f + 1)) f (2 ^ A.R) u e)) → PW mX8_upsAll 0 0 (fun v σ' => v = none ∧ same σ0 σ' (fun i => 122 ≤ i ∧ i ≤ 127) ∧ E4 σ' ∧ U1 σ' A.CU) 38 [some (.ref 114), some (.int (nI f))] [] 132 σ 0 0 := by
    intro hlp n
    induction n with
    | zero =>
      intro f hf σ hs h1 hG
      obtain ⟨a1, a2, a3, a4, a5, a6, a7, h0⟩ := hMs σ hs
      have hst := m_states (hMs σ hs) (hXs σ hs)
      refine P_iload_n (q := 39) dX8_upsAll_38 rfl rfl ?_
      refine P_aload_n (q := 40) dX8_upsAll_39 rfl rfl ?_
      refine P_cv1 (q := 43) dX8_upsAll_40 rfl kX8_112 (hst) rfl rfl (by decide) (h0) rfl ⟨by decide, by decide⟩ (Nat.le_of_ble_eq_true rfl) ⟨Nat.le_refl _, Nat.le_refl _⟩ ?_
      refine P_icmp_ge (q := 46) (tgt := 59) dX8_upsAll_43 rfl (by decide) (fun c_43 => ?_) (fun c_43 => ?_)
      · rw [nI_leI (by omega) (by omega)] at c_43
        refine P_goto (tgt := 74) dX8_upsAll_59 (by decide) ?_
        refine P_vret dX8_upsAll_74 rfl ?_
        refine ⟨rfl, hs, h1, hG.cg (fun u x _ => ?_)⟩
        unfold St.CU
        rw [if_pos hlp, show f = 2 ^ A.R by omega]
      · exfalso; rw [nI_leI (by omega) (by omega)] at c_43; omega
    | succ n ih =>
      intro f hf σ hs h1 hG
      obtain ⟨a1, a2, a3, a4, a5, a6, a7, h0⟩ := hMs σ hs
      have hst := m_states (hMs σ hs) (hXs σ hs)
      have hcf := m_ufrom (hMs σ hs) (hXs σ hs) h1 hG (Nat.le_refl f) (by omega)
      rw [hlp] at hcf
      refine P_iload_n (q := 39) dX8_upsAll_38 rfl rfl ?_
      refine P_aload_n (q := 40) dX8_upsAll_39 rfl rfl ?_
      refine P_cv1 (q := 43) dX8_upsAll_40 rfl kX8_112 (hst) rfl rfl (by decide) (h0) rfl ⟨by decide, by decide⟩ (Nat.le_of_ble_eq_true rfl) ⟨Nat.le_refl _, Nat.le_refl _⟩ ?_
      refine P_icmp_ge (q := 46) (tgt := 59) dX8_upsAll_43 rfl (by decide) (fun c_43 => ?_) (fun c_43 => ?_)
      · exfalso; rw [nI_leI (by omega) (by omega)] at c_43; omega
      · rw [nI_leI (by omega) (by omega)] at c_43
        refine P_aload_n (q := 47) dX8_upsAll_46 rfl rfl ?_
        refine P_iload_n (q := 48) dX8_upsAll_47 rfl rfl ?_
        refine P_iload_n (q := 49) dX8_upsAll_48 rfl rfl ?_
        refine P_iconst (q := 50) (v := (bI true)) dX8_upsAll_49 rfl (by decide +kernel) ?_
        refine P_callv (q := 53) dX8_upsAll_50 rfl (hcf) kX8_136 rfl rfl (by decide) (h0) rfl ⟨by decide, by decide⟩ (Nat.le_of_ble_eq_true rfl) ⟨Nat.le_refl _, Nat.le_refl _⟩ ?_
        rintro v σ2 ⟨rfl, t2, q1, hG2⟩
        refine P_iinc (q := 56) (L' := [_, _]) (v := nI (f + 1)) dX8_upsAll_53 rfl (by decide) rfl (nI_1 f) rfl ?_
        refine P_goto (tgt := 38) dX8_upsAll_56 (by decide) ?_
        exact ih (f + 1) (by omega) σ2 (hs.trans t2) q1 hG2
  have lp1 : ∀ n i, i + n = 31 → PW mX8_upsAll 0 0 (fun v σ' => v = none ∧ same σ0 σ' (fun i => 122 ≤ i ∧ i ≤ 127) ∧ E4 σ' ∧ U1 σ' A.CU) 2 [some (.ref 114), some (.int (nI i))] [] 132 (va_up (va_up σ0 126 (pI .int 31 (flC (fun _ => (1000000 : Int32)) gc i))) 127 (pI .int 31 (flC (fun _ => nI 0) hc i))) 0 0 := by
    obtain ⟨a1, a2, a3, a4, a5, a6, a7, h0⟩ := id hM
    have u0 := fun c d => ((up_ne (va_up σ0 126 c) (k := 127) d (show 114 ≠ 127 by omega)).trans (up_ne σ0 (k := 126) c (show 114 ≠ 126 by omega))).trans h0
    intro n
    induction n with
    | zero =>
      intro i hi
      have e : i = 31 := by omega
      subst e
      have hs : same σ0 (va_up (va_up σ0 126 (pI .int 31 (flC (fun _ => (1000000 : Int32)) gc 31))) 127 (pI .int 31 (flC (fun _ => nI 0) hc 31))) (fun i => 122 ≤ i ∧ i ≤ 127) := (same.rf.up (by omega)).up (by omega)
      have hG : U1 (va_up (va_up σ0 126 (pI .int 31 (flC (fun _ => (1000000 : Int32)) gc 31))) 127 (pI .int 31 (flC (fun _ => nI 0) hc 31))) (fun _ _ => 0) := ⟨_, _, (up_ne _ _ (by omega)).trans (up_at _ _ _), up_at _ _ _, fun u hu => ⟨1000000, 0, (if_pos hu).trans (show (1000000 : Int32) = iI 1000000 by decide), if_pos hu, MN_0 (fun _ => rfl)⟩⟩
      have q1 : E4 (va_up (va_up σ0 126 (pI .int 31 (flC (fun _ => (1000000 : Int32)) gc 31))) 127 (pI .int 31 (flC (fun _ => nI 0) hc 31))) := hE.to (fun k h1 h2 => (up_ne _ _ (by omega)).trans (up_ne _ _ (by omega)))
      generalize (va_up (va_up σ0 126 (pI .int 31 (flC (fun _ => (1000000 : Int32)) gc 31))) 127 (pI .int 31 (flC (fun _ => nI 0) hc 31))) = σ at hs hG q1 ⊢
      obtain ⟨a1, a2, a3, a4, a5, a6, a7, h0⟩ := hMs σ hs
      have hlo := m_isLoop (hMs σ hs) (hXs σ hs)
      have hst := m_states (hMs σ hs) (hXs σ hs)
      have hcf := m_ufrom (f := 0) (last := 2 ^ A.R - 1) (hMs σ hs) (hXs σ hs) q1 hG (Nat.zero_le _) (by omega)
      refine P_iload_n (q := 3) dX8_upsAll_2 rfl rfl ?_
      refine P_bipush (q := 5) (v := nI 31) dX8_upsAll_3 rfl (by decide +kernel) ?_
      refine P_icmp_ge (q := 8) (tgt := 29) dX8_upsAll_5 rfl (by decide) (fun c_5 => ?_) (fun c_5 => ?_)
      · rw [nI_leI (by omega) (by omega)] at c_5
        refine P_aload_n (q := 30) dX8_upsAll_29 rfl rfl ?_
        refine P_cv1 (q := 33) dX8_upsAll_30 rfl kX8_85 (hlo) rfl rfl (by decide) (h0) rfl ⟨by decide, by decide⟩ (Nat.le_of_ble_eq_true rfl) ⟨Nat.le_refl _, Nat.le_refl _⟩ ?_
        refine P_if_eq (q := 36) (tgt := 62) dX8_upsAll_33 rfl (by decide) (fun c_33 => ?_) (fun c_33 => ?_)
        · rw [bI_0] at c_33
          rw [c_33] at hcf
          refine P_aload_n (q := 63) dX8_upsAll_62 rfl rfl ?_
          refine P_iconst (q := 64) (v := nI 0) dX8_upsAll_63 rfl (by decide +kernel) ?_
          refine P_aload_n (q := 65) dX8_upsAll_64 rfl rfl ?_
          refine P_cv1 (q := 68) dX8_upsAll_65 rfl kX8_112 (hst) rfl rfl (by decide) (h0) rfl ⟨by decide, by decide⟩ (Nat.le_of_ble_eq_true rfl) ⟨Nat.le_refl _, Nat.le_refl _⟩ ?_
          refine P_iconst (q := 69) (v := nI 1) dX8_upsAll_68 rfl (by decide +kernel) ?_
          refine P_isub (q := 70) dX8_upsAll_69 rfl ?_
          rw [pk_sub hK]
          refine P_iconst (q := 71) (v := (bI false)) dX8_upsAll_70 rfl (by decide +kernel) ?_
          refine P_callv (q := 74) dX8_upsAll_71 rfl (hcf) kX8_136 rfl rfl (by decide) (h0) rfl ⟨by decide, by decide⟩ (Nat.le_of_ble_eq_true rfl) ⟨Nat.le_refl _, Nat.le_refl _⟩ ?_
          rintro v σ2 ⟨rfl, t2, r1, hG2⟩
          refine P_vret dX8_upsAll_74 rfl ?_
          refine ⟨rfl, hs.trans t2, r1, hG2.cg (fun u x _ => ?_)⟩
          unfold St.CU
          rw [if_neg (by rw [c_33]; decide), show 2 ^ A.R - 1 + 1 = 2 ^ A.R by omega, Nat.zero_add]
        · rw [bI_n] at c_33
          refine P_iconst (q := 37) (v := nI 0) dX8_upsAll_36 rfl (by decide +kernel) ?_
          refine P_istore_n (q := 38) (L' := [_, _]) dX8_upsAll_37 rfl (by decide) rfl ?_
          exact lp2 c_33 (2 ^ A.R) 0 (by omega) σ hs q1 (hG.cg (fun _ _ _ => rfl))
      · exfalso; rw [nI_leI (by omega) (by omega)] at c_5; omega
    | succ n ih =>
      intro i hi
      refine P_iload_n (q := 3) dX8_upsAll_2 rfl rfl ?_
      refine P_bipush (q := 5) (v := nI 31) dX8_upsAll_3 rfl (by decide +kernel) ?_
      refine P_icmp_ge (q := 8) (tgt := 29) dX8_upsAll_5 rfl (by decide) (fun c_5 => ?_) (fun c_5 => ?_)
      · exfalso; rw [nI_leI (by omega) (by omega)] at c_5; omega
      · rw [nI_leI (by omega) (by omega)] at c_5
        refine P_aload_n (q := 9) dX8_upsAll_8 rfl rfl ?_
        refine P_get (q := 12) dX8_upsAll_9 rfl fX8_43 (by decide) (u0 _ _) rfl ?_
        refine P_iload_n (q := 13) dX8_upsAll_12 rfl rfl ?_
        refine P_ldc (q := 15) dX8_upsAll_13 rfl qX8_128 ?_
        refine P_iast (q := 16) (j := i) (f' := flC (fun _ => (1000000 : Int32)) gc (i + 1)) (σ' := (va_up (va_up σ0 126 (pI .int 31 (flC (fun _ => (1000000 : Int32)) gc (i + 1)))) 127 (pI .int 31 (flC (fun _ => nI 0) hc i)))) dX8_upsAll_15 rfl (by decide) ((up_ne _ _ (by omega)).trans (up_at _ _ _)) (rfl) (by omega) (by decide) (flC_succ (fun _ => (1000000 : Int32)) gc i) (by rw [up_swap _ _ _ (by omega), up_up]) ?_
        refine P_aload_n (q := 17) dX8_upsAll_16 rfl rfl ?_
        refine P_get (q := 20) dX8_upsAll_17 rfl fX8_46 (by decide) (u0 _ _) rfl ?_
        refine P_iload_n (q := 21) dX8_upsAll_20 rfl rfl ?_
        refine P_iconst (q := 22) (v := nI 0) dX8_upsAll_21 rfl (by decide +kernel) ?_
        refine P_iast (q := 23) (j := i) (f' := flC (fun _ => nI 0) hc (i + 1)) (σ' := (va_up (va_up σ0 126 (pI .int 31 (flC (fun _ => (1000000 : Int32)) gc (i + 1)))) 127 (pI .int 31 (flC (fun _ => nI 0) hc (i + 1))))) dX8_upsAll_22 rfl (by decide) (up_at _ _ _) (rfl) (by omega) (by decide) (flC_succ (fun _ => nI 0) hc i) (up_up _ _ _ _) ?_
        refine P_iinc (q := 26) (L' := [_, _]) (v := nI (i + 1)) dX8_upsAll_23 rfl (by decide) rfl (nI_1 i) rfl ?_
        refine P_goto (tgt := 2) dX8_upsAll_26 (by decide) ?_
        exact ih (i + 1) (by omega)
  refine CP_of (by decide +kernel) (Nat.le_of_ble_eq_true rfl) ?_
  change PW _ _ _ _ 0 [_, _] [] _ _ _ _
  refine P_iconst (q := 1) (v := nI 0) dX8_upsAll_0 rfl (by decide +kernel) ?_
  refine P_istore_n (q := 2) (L' := [_, _]) dX8_upsAll_1 rfl (by decide) rfl ?_
  have h := lp1 31 0 (by omega)
  rw [flC_0, flC_0, up_self h126, up_self h127] at h
  exact h
def mnZ (f : Nat → Int) : Nat → Int
  | 0 => 1000000
  | n + 1 => if f n < mnZ f n then f n else mnZ f n
theorem mnZ_ge {f : Nat → Int} {b : Int} (hb : b ≤ 1000000) : ∀ n, (∀ u, u < n → b ≤ f u) → b ≤ mnZ f n
  | 0, _ => hb
  | n + 1, h => by
    have h1 := mnZ_ge hb n (fun u hu => h u (by omega))
    have h2 := h n (by omega)
    unfold mnZ
    split <;> omega
theorem mnZ_le {f : Nat → Int} {u : Nat} : ∀ n, u < n → mnZ f n ≤ f u
  | 0, h => by omega
  | n + 1, h => by
    unfold mnZ
    by_cases e : u = n
    · subst e; split <;> omega
    · have := mnZ_le (f := f) (u := u) n (by omega)
      split <;> omega
theorem MN_Es {A : St} (hA : A.ok) {u : Nat} {L : Int} {M : Nat} (h : MN (A.CU u) L M) : (-500 ≤ L ∧ L ≤ 1000000) ∧ (A.Es ≤ L ∨ L = 1000000) ∧ (L = A.Es → L ≠ 1000000 → M = A.CU u A.Es) ∧ (A.CU u A.Es ≠ 0 → L = A.Es ∧ -500 ≤ L ∧ L ≤ 500) ∧ (L ≠ A.Es → A.CU u A.Es = 0) := by
  rcases h with ⟨h1, h2, h3⟩ | ⟨h1, h2, h3, h4⟩
  · exact ⟨by omega, Or.inr h2, fun _ q => absurd h2 q, fun q => absurd (h3 _) q, fun _ => h3 _⟩
  · have hge : A.Es ≤ L := Int.not_lt.mp fun q => by
      rw [CU_low hA q] at h1; exact h2 h1
    refine ⟨by omega, Or.inl hge, fun q _ => by rw [← q]; exact h1, fun q => ?_, fun q => h4 _ (by omega)⟩
    have : L ≤ A.Es := Int.not_lt.mp fun q2 => q (h4 _ q2)
    exact ⟨by omega, by omega, by omega⟩
set_option maxRecDepth 100000 in
set_option maxHeartbeats 4000000 in
theorem m_le {σ0 : Sto} {A : St} (hM : MO σ0) (hX : XA σ0 A) (hE : E4 σ0) (h126 : ∃ g : Nat → Int32, σ0 126 = pI .int 31 g) (h127 : ∃ g : Nat → Int32, σ0 127 = pI .int 31 g) : CP mX8_leastEnergy 0 0 [.ref 114] 132 σ0 (fun v σ' => v = some (.int (iI A.Es)) ∧ same σ0 σ' (fun i => 122 ≤ i ∧ i ≤ 127) ∧ E4 σ' ∧ U1 σ' A.CU) := by
  have hA := hX.1
  have hC := hA.1
  have hR := hA.2.1
  have h8 := pow8 hR.2
  have hMs : ∀ σ, same σ0 σ (fun i => 122 ≤ i ∧ i ≤ 127) → MO σ := fun σ s => by
    obtain ⟨a1, a2, a3, a4, a5, a6, a7, h⟩ := hM
    exact ⟨a1, a2, a3, a4, a5, a6, a7, (s 114 (by omega)).trans h⟩
  have hXs : ∀ σ, same σ0 σ (fun i => 122 ≤ i ∧ i ≤ 127) → XA σ A := fun σ s => by
    obtain ⟨-, g, h, hR⟩ := hX
    exact ⟨hA, g, (s 115 (by omega)).trans h, hR⟩
  have hall := m_uall hM hX hE h126 h127
  obtain ⟨a1, a2, a3, a4, a5, a6, a7, h0⟩ := id hM
  refine CP_of (by decide +kernel) (Nat.le_of_ble_eq_true rfl) ?_
  change PW _ _ _ _ 0 [_, _, _] [] _ _ _ _
  refine P_aload_n (q := 1) dX8_leastEnergy_0 rfl rfl ?_
  refine P_callv (q := 4) dX8_leastEnergy_1 rfl (hall) kX8_140 rfl rfl (by decide) (h0) rfl ⟨by decide, by decide⟩ (Nat.le_of_ble_eq_true rfl) ⟨Nat.le_refl _, Nat.le_refl _⟩ ?_
  rintro v σ1 ⟨rfl, t1, q1, hU⟩
  obtain ⟨g, h, q126, q127, hgh⟩ := id hU
  obtain ⟨Lf, hLf⟩ : ∃ Lf : Nat → Int, ∀ u, u < 31 → ∃ M, g u = iI (Lf u) ∧ h u = nI M ∧ MN (A.CU u) (Lf u) M := ⟨fun u => if hu : u < 31 then (hgh u hu).choose else 0, fun u hu => by
    dsimp only
    rw [dif_pos hu]
    exact (hgh u hu).choose_spec⟩
  obtain ⟨u0, hu0, hne⟩ := CU_ex hA
  have hEs : -500 ≤ A.Es ∧ A.Es ≤ 500 := by
    obtain ⟨M, -, -, hMN⟩ := hLf u0 hu0
    have := (MN_Es hA hMN).2.2.2.1 hne
    omega
  have hLb : ∀ u, u < 31 → A.Es ≤ Lf u ∧ Lf u ≤ 1000000 := fun u hu => by
    obtain ⟨M, -, -, hMN⟩ := hLf u hu
    have h1 := MN_Es hA hMN
    omega
  have hfin : mnZ Lf 31 = A.Es := by
    have h1 := mnZ_ge (f := Lf) (b := A.Es) (by omega) 31 (fun u hu => (hLb u hu).1)
    have h2 := mnZ_le (f := Lf) 31 hu0
    obtain ⟨M, -, -, hMN⟩ := hLf u0 hu0
    have h3 := (MN_Es hA hMN).2.2.2.1 hne
    omega
  have hmb : ∀ n, n ≤ 31 → -500 ≤ mnZ Lf n ∧ mnZ Lf n ≤ 1000000 := fun n hn => by
    have h1 := mnZ_ge (f := Lf) (b := A.Es) (by omega) n (fun u hu => (hLb u (by omega)).1)
    refine ⟨by omega, ?_⟩
    clear h1 hn
    induction n with
    | zero => exact Int.le_refl _
    | succ n ih => unfold mnZ; split <;> omega
  have e0 := (t1 114 (by omega)).trans h0
  have lp : ∀ n u, u + n = 31 → PW mX8_leastEnergy 0 0 (fun v σ' => v = some (.int (iI A.Es)) ∧ same σ0 σ' (fun i => 122 ≤ i ∧ i ≤ 127) ∧ E4 σ' ∧ U1 σ' A.CU) 9 [some (.ref 114), some (.int (iI (mnZ Lf u))), some (.int (nI u))] [] 132 σ1 0 0 := by
    intro n
    induction n with
    | zero =>
      intro u hu
      refine P_iload_n (q := 10) dX8_leastEnergy_9 rfl rfl ?_
      refine P_bipush (q := 12) (v := nI 31) dX8_leastEnergy_10 rfl (by decide +kernel) ?_
      refine P_icmp_ge (q := 15) (tgt := 42) dX8_leastEnergy_12 rfl (by decide) (fun c_12 => ?_) (fun c_12 => ?_)
      · rw [nI_leI (by omega) (by omega)] at c_12
        refine P_iload_n (q := 43) dX8_leastEnergy_42 rfl rfl ?_
        refine P_iret dX8_leastEnergy_43 rfl (rfl) ?_
        rw [show u = 31 by omega, hfin]
        exact ⟨rfl, t1, q1, hU⟩
      · exfalso; rw [nI_leI (by omega) (by omega)] at c_12; omega
    | succ n ih =>
      intro u hu
      obtain ⟨M, hgu, hhu, hMN⟩ := hLf u (by omega)
      have b1 := hmb u (by omega)
      have b2 := hLb u (by omega)
      have go : ∀ x, x = mnZ Lf (u + 1) → PW mX8_leastEnergy 0 0 (fun v σ' => v = some (.int (iI A.Es)) ∧ same σ0 σ' (fun i => 122 ≤ i ∧ i ≤ 127) ∧ E4 σ' ∧ U1 σ' A.CU) 35 [some (.ref 114), some (.int (iI (mnZ Lf u))), some (.int (nI u))] [.int (iI x)] 132 σ1 0 0 := fun x hx => by
        subst hx
        refine P_istore_n (q := 36) (L' := [_, _, _]) dX8_leastEnergy_35 rfl (by decide) rfl ?_
        refine P_iinc (q := 39) (L' := [_, _, _]) (v := nI (u + 1)) dX8_leastEnergy_36 rfl (by decide) rfl (nI_1 u) rfl ?_
        refine P_goto (tgt := 9) dX8_leastEnergy_39 (by decide) ?_
        exact ih (u + 1) (by omega)
      refine P_iload_n (q := 10) dX8_leastEnergy_9 rfl rfl ?_
      refine P_bipush (q := 12) (v := nI 31) dX8_leastEnergy_10 rfl (by decide +kernel) ?_
      refine P_icmp_ge (q := 15) (tgt := 42) dX8_leastEnergy_12 rfl (by decide) (fun c_12 => ?_) (fun c_12 => ?_)
      · exfalso; rw [nI_leI (by omega) (by omega)] at c_12; omega
      · rw [nI_leI (by omega) (by omega)] at c_12
        refine P_aload_n (q := 16) dX8_leastEnergy_15 rfl rfl ?_
        refine P_get (q := 19) dX8_leastEnergy_16 rfl fX8_43 (by decide) (e0) rfl ?_
        refine P_iload_n (q := 20) dX8_leastEnergy_19 rfl rfl ?_
        refine P_iald (q := 21) (j := u) dX8_leastEnergy_20 rfl (by decide) (q126) (rfl) (by omega) (by decide) ?_
        rw [hgu]
        refine P_iload_n (q := 22) dX8_leastEnergy_21 rfl rfl ?_
        refine P_icmp_ge (q := 25) (tgt := 34) dX8_leastEnergy_22 rfl (by decide) (fun c_22 => ?_) (fun c_22 => ?_)
        · rw [iI_le (by omega) (by omega) (by omega) (by omega)] at c_22
          refine P_iload_n (q := 35) dX8_leastEnergy_34 rfl rfl ?_
          first
            | exact go _ (by unfold mnZ; rw [if_pos (by omega)])
            | exact go _ (by conv => rhs; unfold mnZ
                             rw [if_neg (by omega)])
        · rw [iI_le (by omega) (by omega) (by omega) (by omega)] at c_22
          refine P_aload_n (q := 26) dX8_leastEnergy_25 rfl rfl ?_
          refine P_get (q := 29) dX8_leastEnergy_26 rfl fX8_43 (by decide) (e0) rfl ?_
          refine P_iload_n (q := 30) dX8_leastEnergy_29 rfl rfl ?_
          refine P_iald (q := 31) (j := u) dX8_leastEnergy_30 rfl (by decide) (q126) (rfl) (by omega) (by decide) ?_
          rw [hgu]
          refine P_goto (tgt := 35) dX8_leastEnergy_31 (by decide) ?_
          first
            | exact go _ (by unfold mnZ; rw [if_pos (by omega)])
            | exact go _ (by conv => rhs; unfold mnZ
                             rw [if_neg (by omega)])
  refine P_ldc (q := 6) dX8_leastEnergy_4 rfl qX8_128 ?_
  rw [show (1000000 : Int32) = iI (mnZ Lf 0) from by show (1000000 : Int32) = iI 1000000; decide]
  refine P_istore_n (q := 7) (L' := [_, _, _]) dX8_leastEnergy_6 rfl (by decide) rfl ?_
  refine P_iconst (q := 8) (v := nI 0) dX8_leastEnergy_7 rfl (by decide +kernel) ?_
  refine P_istore_n (q := 9) (L' := [_, _, _]) dX8_leastEnergy_8 rfl (by decide) rfl ?_
  exact lp 31 0 (by omega)
