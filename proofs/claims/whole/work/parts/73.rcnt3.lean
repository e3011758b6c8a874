/-! THE REFERENCE: countsFrom, countsAll -/
def St.I0 (A : St) (w : Bool) (f j s x : Nat) : Nat := if f ≤ s ∧ s < j ∧ (x : Int) - 200 = A.col w 0 s then 1 else 0
set_option maxRecDepth 100000 in
set_option maxHeartbeats 4000000 in
theorem w_cin {σ0 : Sto} {A : St} {w cl : Bool} {f last : Nat} (hM : MO σ0) (hX : XA σ0 A) (hl : last < 2 ^ A.R) {QQ : Option Value → Sto → Prop} (K : ∀ σ, same σ0 σ (fun i => i = 120) → GR σ 120 (2 ^ A.R) (A.I0 w f (last + 1)) → ∀ x5 x6 x7 x8 x9 x10 : Option Value, PW mX8_countsFrom 0 0 QQ 65 [some (.ref 114), some (.int (bI w)), some (.int (nI f)), some (.int (nI last)), some (.int (bI cl)), x5, x6, x7, x8, x9, x10] [] 132 σ 0 0) : ∀ n s, s + n = last + 1 → f ≤ s → ∀ σ, same σ0 σ (fun i => i = 120) → GR σ 120 (2 ^ A.R) (A.I0 w f s) → ∀ x6 x7 x8 x9 x10 : Option Value, PW mX8_countsFrom 0 0 QQ 28 [some (.ref 114), some (.int (bI w)), some (.int (nI f)), some (.int (nI last)), some (.int (bI cl)), some (.int (nI s)), x6, x7, x8, x9, x10] [] 132 σ 0 0 := by
  have hA := hX.1
  have hC := hA.1
  have hR := hA.2.1
  have h8 := pow8 hR.2
  have hMs : ∀ σ, same σ0 σ (fun i => i = 120) → MO σ := fun σ s => by
    obtain ⟨a1, a2, a3, a4, a5, a6, a7, h⟩ := hM
    exact ⟨a1, a2, a3, a4, a5, a6, a7, (s 114 (by omega)).trans h⟩
  have hXs : ∀ σ, same σ0 σ (fun i => i = 120) → XA σ A := fun σ s => by
    obtain ⟨-, g, h, hR⟩ := hX
    exact ⟨hA, g, (s 115 (by omega)).trans h, hR⟩
  intro n
  induction n with
  | zero =>
    intro s hs hf σ hs' hG x6 x7 x8 x9 x10
    obtain ⟨a1, a2, a3, a4, a5, a6, a7, h0⟩ := hMs σ hs'
    refine P_iload (q := 30) dX8_countsFrom_28 rfl rfl ?_
    refine P_iload_n (q := 31) dX8_countsFrom_30 rfl rfl ?_
    refine P_icmp_gt (q := 34) (tgt := 65) dX8_countsFrom_31 rfl (by decide) (fun c_31 => ?_) (fun c_31 => ?_)
    · rw [nI_ltI (by omega) (by omega)] at c_31
      exact K σ hs' (hG.cg (fun t y _ _ => by rw [show s = last + 1 by omega])) _ _ _ _ _ _
    · exfalso; rw [nI_ltI (by omega) (by omega)] at c_31; omega
  | succ n ih =>
    intro s hs hf σ hs' hG x6 x7 x8 x9 x10
    obtain ⟨a1, a2, a3, a4, a5, a6, a7, h0⟩ := hMs σ hs'
    obtain ⟨g, q120, hg⟩ := id hG
    have hcl := m_colw (hMs σ hs') (hXs σ hs') w (c := 0) (k := s) (by omega) (by omega)
    have hci := col_in hA w 0 s
    obtain ⟨y0, hy0⟩ : ∃ y0 : Nat, (y0 : Int) = 200 + A.col w 0 s := ⟨(200 + A.col w 0 s).toNat, by omega⟩
    refine P_iload (q := 30) dX8_countsFrom_28 rfl rfl ?_
    refine P_iload_n (q := 31) dX8_countsFrom_30 rfl rfl ?_
    refine P_icmp_gt (q := 34) (tgt := 65) dX8_countsFrom_31 rfl (by decide) (fun c_31 => ?_) (fun c_31 => ?_)
    · exfalso; rw [nI_ltI (by omega) (by omega)] at c_31; omega
    · rw [nI_ltI (by omega) (by omega)] at c_31
      refine P_aload_n (q := 35) dX8_countsFrom_34 rfl rfl ?_
      refine P_get (q := 38) dX8_countsFrom_35 rfl fX8_25 (by decide) (h0) rfl ?_
      refine P_sipush (q := 41) (v := nI 401) dX8_countsFrom_38 rfl (by decide +kernel) ?_
      refine P_iload (q := 43) dX8_countsFrom_41 rfl rfl ?_
      refine P_imul (q := 44) dX8_countsFrom_43 rfl ?_
      rw [pk_mul]
      refine P_sipush (q := 47) (v := nI 200) dX8_countsFrom_44 rfl (by decide +kernel) ?_
      refine P_iadd (q := 48) dX8_countsFrom_47 rfl ?_
      rw [nI_add]
      refine P_aload_n (q := 49) dX8_countsFrom_48 rfl rfl ?_
      refine P_iload_n (q := 50) dX8_countsFrom_49 rfl rfl ?_
      refine P_iconst (q := 51) (v := nI 0) dX8_countsFrom_50 rfl (by decide +kernel) ?_
      refine P_iload (q := 53) dX8_countsFrom_51 rfl rfl ?_
      refine P_cv1 (q := 56) dX8_countsFrom_53 rfl kX8_95 (hcl) rfl rfl (by decide) (h0) rfl ⟨by decide, by decide⟩ (Nat.le_of_ble_eq_true rfl) ⟨Nat.le_refl _, Nat.le_refl _⟩ ?_
      refine P_iadd (q := 57) dX8_countsFrom_56 rfl ?_
      rw [ni_add (show ((401 * s + y0 : Nat) : Int) = ((401 * s + 200 : Nat) : Int) + A.col w 0 s by omega)]
      refine P_iconst (q := 58) (v := nI 1) dX8_countsFrom_57 rfl (by decide +kernel) ?_
      refine P_iast (q := 59) (j := 401 * s + y0) (f' := upd g (401 * s + y0) (nI 1)) dX8_countsFrom_58 rfl (by decide) (q120) (rfl) (by omega) (by decide) (rfl) (rfl) ?_
      refine P_iinc (q := 62) (L' := [_, _, _, _, _, _, _, _, _, _, _]) (v := nI (s + 1)) dX8_countsFrom_59 rfl (by decide) rfl (nI_1 s) rfl ?_
      refine P_goto (tgt := 28) dX8_countsFrom_62 (by decide) ?_
      refine ih (s + 1) (by omega) (by omega) _ (hs'.up rfl) ⟨_, up_at _ _ _, GR_set hg (show y0 < 401 by omega) (m := 1) rfl (fun t' y _ _ => ?_)⟩ _ _ _ _ _
      unfold St.I0
      by_cases h : t' = s ∧ y = y0
      · rw [if_pos h, h.1, h.2, if_pos ⟨hf, by omega, by omega⟩]
      · rw [if_neg h]
        by_cases h2 : f ≤ t' ∧ t' < s ∧ (y : Int) - 200 = A.col w 0 t'
        · rw [if_pos h2, if_pos ⟨h2.1, by omega, h2.2.2⟩]
        · rw [if_neg h2, if_neg]
          rintro ⟨e1, e2, e3⟩
          by_cases e4 : t' = s
          · subst e4; exact h ⟨rfl, by omega⟩
          · exact h2 ⟨e1, by omega, e3⟩
set_option maxRecDepth 100000 in
set_option maxHeartbeats 4000000 in
theorem m_cfrom {σ0 : Sto} {A : St} {w : Bool} {f last : Nat} {G : Nat → Nat} (hM : MO σ0) (hX : XA σ0 A) (h120 : ∃ g : Nat → Int32, σ0 120 = pI .int 3208 g) (h121 : ∃ g : Nat → Int32, σ0 121 = pI .int 3208 g) (hG : GC σ0 G) (hf : f ≤ last) (hl : last < 2 ^ A.R) : CP mX8_countsFrom 0 0 [.ref 114, .int (bI w), .int (nI f), .int (nI last), .int (bI A.lp)] 132 σ0 (fun v σ' => v = none ∧ same σ0 σ' (fun i => i = 119 ∨ i = 120 ∨ i = 121) ∧ (∃ g : Nat → Int32, σ' 120 = pI .int 3208 g) ∧ (∃ g : Nat → Int32, σ' 121 = pI .int 3208 g) ∧ GC σ' (fun y => G y + A.FE w (rng f (last + 1)) f (2 ^ A.R) ((y : Int) - 200))) := by
  have hA := hX.1
  have hC := hA.1
  have hR := hA.2.1
  have h8 := pow8 hR.2
  have hMs : ∀ σ, same σ0 σ (fun i => i = 119 ∨ i = 120 ∨ i = 121) → MO σ := fun σ s => by
    obtain ⟨a1, a2, a3, a4, a5, a6, a7, h⟩ := hM
    exact ⟨a1, a2, a3, a4, a5, a6, a7, (s 114 (by omega)).trans h⟩
  have hXs : ∀ σ, same σ0 σ (fun i => i = 119 ∨ i = 120 ∨ i = 121) → XA σ A := fun σ s => by
    obtain ⟨-, g, h, hR⟩ := hX
    exact ⟨hA, g, (s 115 (by omega)).trans h, hR⟩
  obtain ⟨gn, h120⟩ := h120
  refine CP_of (by decide +kernel) (Nat.le_of_ble_eq_true rfl) ?_
  change PW _ _ _ _ 0 [_, _, _, _, _, _, _, _, _, _, _] [] _ _ _ _
  refine P_iconst (q := 1) (v := nI 0) dX8_countsFrom_0 rfl (by decide +kernel) ?_
  refine P_istore (q := 3) (L' := [_, _, _, _, _, _, _, _, _, _, _]) dX8_countsFrom_1 rfl (by decide) rfl ?_
  have hz := w_cz1 (cl := A.lp) (w := w) (f := f) (last := last) (a6 := none) (a7 := none) (a8 := none) (a9 := none) (a10 := none) (g := gn) hM (QQ := (fun v σ' => v = none ∧ same σ0 σ' (fun i => i = 119 ∨ i = 120 ∨ i = 121) ∧ (∃ g : Nat → Int32, σ' 120 = pI .int 3208 g) ∧ (∃ g : Nat → Int32, σ' 121 = pI .int 3208 g) ∧ GC σ' (fun y => G y + A.FE w (rng f (last + 1)) f (2 ^ A.R) ((y : Int) - 200)))) (fun xx => ?_) 3208 0 (by omega)
  · rw [flC_0, up_self h120] at hz
    exact hz
  · have hs1 : same σ0 (va_up σ0 120 (pI .int 3208 (flC (fun _ => nI 0) gn 3208))) (fun i => i = 119 ∨ i = 120 ∨ i = 121) := same.rf.up (Or.inr (Or.inl rfl))
    have q119 := up_ne σ0 (k := 120) (pI .int 3208 (flC (fun _ => nI 0) gn 3208)) (show 119 ≠ 120 by omega)
    have q121 := up_ne σ0 (k := 120) (pI .int 3208 (flC (fun _ => nI 0) gn 3208)) (show 121 ≠ 120 by omega)
    have q120 := up_at σ0 120 (pI .int 3208 (flC (fun _ => nI 0) gn 3208))
    generalize va_up σ0 120 (pI .int 3208 (flC (fun _ => nI 0) gn 3208)) = σ1 at hs1 q119 q121 q120 ⊢
    refine P_iload_n (q := 26) dX8_countsFrom_25 rfl rfl ?_
    refine P_istore (q := 28) (L' := [_, _, _, _, _, _, _, _, _, _, _]) dX8_countsFrom_26 rfl (by decide) rfl ?_
    refine w_cin (hMs σ1 hs1) (hXs σ1 hs1) hl (fun σ2 t2 hG2 x5 x6 x7 x8 x9 x10 => ?_) (last + 1 - f) f (by omega) (Nat.le_refl _) σ1 same.rf ⟨_, q120, fun s x hs hx => ?_⟩ _ _ _ _ _
    · have hs2 : same σ0 σ2 (fun i => i = 119 ∨ i = 120 ∨ i = 121) := hs1.trans (t2.mono (fun i h => Or.inr (Or.inl h)))
      refine P_iconst (q := 66) (v := nI 1) dX8_countsFrom_65 rfl (by decide +kernel) ?_
      refine P_istore (q := 68) (L' := [_, _, _, _, _, _, _, _, _, _, _]) dX8_countsFrom_66 rfl (by decide) rfl ?_
      refine w_cf0 (hMs σ2 hs2) (hXs σ2 hs2) (P := rng f (last + 1)) (fun σ3 t3 hG3 h3 y5 y6 y7 y8 y9 y10 => ?_) (A.C - 1) 0 (by omega) σ2 same.rf (hG2.cg (fun s x _ _ => ?_)) ?_ _ _ _ _ _
      · have hs3 : same σ0 σ3 (fun i => i = 119 ∨ i = 120 ∨ i = 121) := hs2.trans (t3.mono (fun i h => Or.inr h))
        have hG4 : GC σ3 G := by
          obtain ⟨g5, e1, e2⟩ := hG
          exact ⟨g5, (t3 119 (by omega)).trans ((t2 119 (by omega)).trans ((q119).trans e1)), e2⟩
        refine P_iconst (q := 259) (v := nI 0) dX8_countsFrom_258 rfl (by decide +kernel) ?_
        refine P_istore (q := 261) (L' := [_, _, _, _, _, _, _, _, _, _, _]) dX8_countsFrom_259 rfl (by decide) rfl ?_
        refine w_cf5 (hMs σ3 hs3) (hXs σ3 hs3) hG3 (show f < 2 ^ A.R by omega) (G := G) (fun σ4 t4 hG5 z5 z6 z7 z8 z9 z10 => ?_) (2 ^ A.R) 0 (by omega) σ3 same.rf (hG4.cg (fun y _ => rfl)) _ _ _ _ _
        obtain ⟨g6, e6, -⟩ := hG3
        obtain ⟨g7, e7⟩ := h3
        refine P_vret dX8_countsFrom_348 rfl ?_
        exact ⟨rfl, hs3.trans (t4.mono (fun i h => Or.inl h)), ⟨g6, (t4 120 (by omega)).trans e6⟩, ⟨g7, (t4 121 (by omega)).trans e7⟩, hG5⟩
      · show (if rng f (last + 1) s = true ∧ (x : Int) - 200 = A.col w 0 s then 1 else 0) = A.I0 w f (last + 1) s x
        unfold St.I0 rng
        simp only [decide_eq_true_iff, and_assoc]
      · obtain ⟨g7, e7⟩ := h121
        exact ⟨g7, (t2 121 (by omega)).trans (q121.trans e7)⟩
    · unfold St.I0
      rw [if_neg (fun q => by omega)]
      exact if_pos (by omega)
set_option maxRecDepth 100000 in
set_option maxHeartbeats 4000000 in
theorem m_call {σ0 : Sto} {A : St} {w : Bool} (hM : MO σ0) (hX : XA σ0 A) (h119 : ∃ g : Nat → Int32, σ0 119 = pI .int 401 g) (h120 : ∃ g : Nat → Int32, σ0 120 = pI .int 3208 g) (h121 : ∃ g : Nat → Int32, σ0 121 = pI .int 3208 g) : CP mX8_countsAll 0 0 [.ref 114, .int (bI w)] 132 σ0 (fun v σ' => v = none ∧ same σ0 σ' (fun i => i = 119 ∨ i = 120 ∨ i = 121) ∧ (∃ g : Nat → Int32, σ' 120 = pI .int 3208 g) ∧ (∃ g : Nat → Int32, σ' 121 = pI .int 3208 g) ∧ GC σ' (fun y => A.CE w ((y : Int) - 200))) := by
  have hA := hX.1
  have hC := hA.1
  have hR := hA.2.1
  have h8 := pow8 hR.2
  have hMs : ∀ σ, same σ0 σ (fun i => i = 119 ∨ i = 120 ∨ i = 121) → MO σ := fun σ s => by
    obtain ⟨a1, a2, a3, a4, a5, a6, a7, h⟩ := hM
    exact ⟨a1, a2, a3, a4, a5, a6, a7, (s 114 (by omega)).trans h⟩
  have hXs : ∀ σ, same σ0 σ (fun i => i = 119 ∨ i = 120 ∨ i = 121) → XA σ A := fun σ s => by
    obtain ⟨-, g, h, hR⟩ := hX
    exact ⟨hA, g, (s 115 (by omega)).trans h, hR⟩
  have hK := Nat.two_pow_pos A.R
  obtain ⟨gc, h119⟩ := h119
  have lp2 : A.lp = true → ∀ n f, f + n = 2 ^ A.R → ∀ σ, same σ0 σ (fun i => i = 119 ∨ i = 120 ∨ i = 121) → (∃ g : Nat → Int32, σ 120 = pI .int 3208 g) → (∃ g : Nat → Int32, σ 121 = pI .int 3208 g) → GC σ (fun y => sumN f (fun f => A.FE w (rng f (f + 1)) f (2 ^ A.R) ((y : Int) - 200))) → PW mX8_countsAll 0 0 (fun v σ' => v = none ∧ same σ0 σ' (fun i => i = 119 ∨ i = 120 ∨ i = 121) ∧ (∃ g : Nat → Int32, σ' 120 = pI .int 3208 g) ∧ (∃ g : Nat → Int32, σ' 121 = pI .int 3208 g) ∧ GC σ' (fun y => A.CE w ((y : Int) - 200))) 31 [some (.ref 114), some (.int (bI w)), some (.int (nI f))] [] 132 σ 0 0 := by
    intro hlp n
    induction n with
    | zero =>
      intro f hf σ hs h1 h2 hG
      obtain ⟨a1, a2, a3, a4, a5, a6, a7, h0⟩ := hMs σ hs
      have hst := m_states (hMs σ hs) (hXs σ hs)
      refine P_iload_n (q := 32) dX8_countsAll_31 rfl rfl ?_
      refine P_aload_n (q := 33) dX8_countsAll_32 rfl rfl ?_
      refine P_cv1 (q := 36) dX8_countsAll_33 rfl kX8_112 (hst) rfl rfl (by decide) (h0) rfl ⟨by decide, by decide⟩ (Nat.le_of_ble_eq_true rfl) ⟨Nat.le_refl _, Nat.le_refl _⟩ ?_
      refine P_icmp_ge (q := 39) (tgt := 53) dX8_countsAll_36 rfl (by decide) (fun c_36 => ?_) (fun c_36 => ?_)
      · rw [nI_leI (by omega) (by omega)] at c_36
        refine P_goto (tgt := 69) dX8_countsAll_53 (by decide) ?_
        refine P_vret dX8_countsAll_69 rfl ?_
        refine ⟨rfl, hs, h1, h2, hG.cg (fun y _ => ?_)⟩
        unfold St.CE
        rw [if_pos hlp, show f = 2 ^ A.R by omega]
      · exfalso; rw [nI_leI (by omega) (by omega)] at c_36; omega
    | succ n ih =>
      intro f hf σ hs h1 h2 hG
      obtain ⟨a1, a2, a3, a4, a5, a6, a7, h0⟩ := hMs σ hs
      have hst := m_states (hMs σ hs) (hXs σ hs)
      have hcf := m_cfrom (w := w) (hMs σ hs) (hXs σ hs) h1 h2 hG (Nat.le_refl f) (by omega)
      rw [hlp] at hcf
      refine P_iload_n (q := 32) dX8_countsAll_31 rfl rfl ?_
      refine P_aload_n (q := 33) dX8_countsAll_32 rfl rfl ?_
      refine P_cv1 (q := 36) dX8_countsAll_33 rfl kX8_112 (hst) rfl rfl (by decide) (h0) rfl ⟨by decide, by decide⟩ (Nat.le_of_ble_eq_true rfl) ⟨Nat.le_refl _, Nat.le_refl _⟩ ?_
      refine P_icmp_ge (q := 39) (tgt := 53) dX8_countsAll_36 rfl (by decide) (fun c_36 => ?_) (fun c_36 => ?_)
      · exfalso; rw [nI_leI (by omega) (by omega)] at c_36; omega
      · rw [nI_leI (by omega) (by omega)] at c_36
        refine P_aload_n (q := 40) dX8_countsAll_39 rfl rfl ?_
        refine P_iload_n (q := 41) dX8_countsAll_40 rfl rfl ?_
        refine P_iload_n (q := 42) dX8_countsAll_41 rfl rfl ?_
        refine P_iload_n (q := 43) dX8_countsAll_42 rfl rfl ?_
        refine P_iconst (q := 44) (v := (bI true)) dX8_countsAll_43 rfl (by decide +kernel) ?_
        refine P_callv (q := 47) dX8_countsAll_44 rfl (hcf) kX8_116 rfl rfl (by decide) (h0) rfl ⟨by decide, by decide⟩ (Nat.le_of_ble_eq_true rfl) ⟨Nat.le_refl _, Nat.le_refl _⟩ ?_
        rintro v σ2 ⟨rfl, t2, q1, q2, hG2⟩
        refine P_iinc (q := 50) (L' := [_, _, _]) (v := nI (f + 1)) dX8_countsAll_47 rfl (by decide) rfl (nI_1 f) rfl ?_
        refine P_goto (tgt := 31) dX8_countsAll_50 (by decide) ?_
        exact ih (f + 1) (by omega) σ2 (hs.trans t2) q1 q2 hG2
  have lp1 : ∀ n i, i + n = 401 → PW mX8_countsAll 0 0 (fun v σ' => v = none ∧ same σ0 σ' (fun i => i = 119 ∨ i = 120 ∨ i = 121) ∧ (∃ g : Nat → Int32, σ' 120 = pI .int 3208 g) ∧ (∃ g : Nat → Int32, σ' 121 = pI .int 3208 g) ∧ GC σ' (fun y => A.CE w ((y : Int) - 200))) 2 [some (.ref 114), some (.int (bI w)), some (.int (nI i))] [] 132 (va_up σ0 119 (pI .int 401 (flC (fun _ => nI 0) gc i))) 0 0 := by
    obtain ⟨a1, a2, a3, a4, a5, a6, a7, h0⟩ := id hM
    have u0 := fun c => (up_ne σ0 (k := 119) c (show 114 ≠ 119 by omega)).trans h0
    intro n
    induction n with
    | zero =>
      intro i hi
      have e : i = 401 := by omega
      subst e
      have hs : same σ0 (va_up σ0 119 (pI .int 401 (flC (fun _ => nI 0) gc 401))) (fun i => i = 119 ∨ i = 120 ∨ i = 121) := same.rf.up (Or.inl rfl)
      have hG : GC (va_up σ0 119 (pI .int 401 (flC (fun _ => nI 0) gc 401))) (fun _ => 0) := ⟨_, up_at _ _ _, fun y hy => if_pos hy⟩
      have q1 : ∃ g : Nat → Int32, (va_up σ0 119 (pI .int 401 (flC (fun _ => nI 0) gc 401))) 120 = pI .int 3208 g := by
        obtain ⟨g, h⟩ := h120
        exact ⟨g, (up_ne _ _ (by omega)).trans h⟩
      have q2 : ∃ g : Nat → Int32, (va_up σ0 119 (pI .int 401 (flC (fun _ => nI 0) gc 401))) 121 = pI .int 3208 g := by
        obtain ⟨g, h⟩ := h121
        exact ⟨g, (up_ne _ _ (by omega)).trans h⟩
      generalize (va_up σ0 119 (pI .int 401 (flC (fun _ => nI 0) gc 401))) = σ at hs hG q1 q2 ⊢
      obtain ⟨a1, a2, a3, a4, a5, a6, a7, h0⟩ := hMs σ hs
      have hlo := m_isLoop (hMs σ hs) (hXs σ hs)
      have hst := m_states (hMs σ hs) (hXs σ hs)
      have hcf := m_cfrom (w := w) (f := 0) (last := 2 ^ A.R - 1) (hMs σ hs) (hXs σ hs) q1 q2 hG (Nat.zero_le _) (by omega)
      refine P_iload_n (q := 3) dX8_countsAll_2 rfl rfl ?_
      refine P_sipush (q := 6) (v := nI 401) dX8_countsAll_3 rfl (by decide +kernel) ?_
      refine P_icmp_ge (q := 9) (tgt := 22) dX8_countsAll_6 rfl (by decide) (fun c_6 => ?_) (fun c_6 => ?_)
      · rw [nI_leI (by omega) (by omega)] at c_6
        refine P_aload_n (q := 23) dX8_countsAll_22 rfl rfl ?_
        refine P_cv1 (q := 26) dX8_countsAll_23 rfl kX8_85 (hlo) rfl rfl (by decide) (h0) rfl ⟨by decide, by decide⟩ (Nat.le_of_ble_eq_true rfl) ⟨Nat.le_refl _, Nat.le_refl _⟩ ?_
        refine P_if_eq (q := 29) (tgt := 56) dX8_countsAll_26 rfl (by decide) (fun c_26 => ?_) (fun c_26 => ?_)
        · rw [bI_0] at c_26
          rw [c_26] at hcf
          refine P_aload_n (q := 57) dX8_countsAll_56 rfl rfl ?_
          refine P_iload_n (q := 58) dX8_countsAll_57 rfl rfl ?_
          refine P_iconst (q := 59) (v := nI 0) dX8_countsAll_58 rfl (by decide +kernel) ?_
          refine P_aload_n (q := 60) dX8_countsAll_59 rfl rfl ?_
          refine P_cv1 (q := 63) dX8_countsAll_60 rfl kX8_112 (hst) rfl rfl (by decide) (h0) rfl ⟨by decide, by decide⟩ (Nat.le_of_ble_eq_true rfl) ⟨Nat.le_refl _, Nat.le_refl _⟩ ?_
          refine P_iconst (q := 64) (v := nI 1) dX8_countsAll_63 rfl (by decide +kernel) ?_
          refine P_isub (q := 65) dX8_countsAll_64 rfl ?_
          rw [pk_sub hK]
          refine P_iconst (q := 66) (v := (bI false)) dX8_countsAll_65 rfl (by decide +kernel) ?_
          refine P_callv (q := 69) dX8_countsAll_66 rfl (hcf) kX8_116 rfl rfl (by decide) (h0) rfl ⟨by decide, by decide⟩ (Nat.le_of_ble_eq_true rfl) ⟨Nat.le_refl _, Nat.le_refl _⟩ ?_
          rintro v σ2 ⟨rfl, t2, r1, r2, hG2⟩
          refine P_vret dX8_countsAll_69 rfl ?_
          refine ⟨rfl, hs.trans t2, r1, r2, hG2.cg (fun y _ => ?_)⟩
          unfold St.CE
          rw [if_neg (by rw [c_26]; decide), show 2 ^ A.R - 1 + 1 = 2 ^ A.R by omega, Nat.zero_add]
        · rw [bI_n] at c_26
          refine P_iconst (q := 30) (v := nI 0) dX8_countsAll_29 rfl (by decide +kernel) ?_
          refine P_istore_n (q := 31) (L' := [_, _, _]) dX8_countsAll_30 rfl (by decide) rfl ?_
          exact lp2 c_26 (2 ^ A.R) 0 (by omega) σ hs q1 q2 (hG.cg (fun _ _ => rfl))
      · exfalso; rw [nI_leI (by omega) (by omega)] at c_6; omega
    | succ n ih =>
      intro i hi
      refine P_iload_n (q := 3) dX8_countsAll_2 rfl rfl ?_
      refine P_sipush (q := 6) (v := nI 401) dX8_countsAll_3 rfl (by decide +kernel) ?_
      refine P_icmp_ge (q := 9) (tgt := 22) dX8_countsAll_6 rfl (by decide) (fun c_6 => ?_) (fun c_6 => ?_)
      · exfalso; rw [nI_leI (by omega) (by omega)] at c_6; omega
      · rw [nI_leI (by omega) (by omega)] at c_6
        refine P_aload_n (q := 10) dX8_countsAll_9 rfl rfl ?_
        refine P_get (q := 13) dX8_countsAll_10 rfl fX8_22 (by decide) (u0 _) rfl ?_
        refine P_iload_n (q := 14) dX8_countsAll_13 rfl rfl ?_
        refine P_iconst (q := 15) (v := nI 0) dX8_countsAll_14 rfl (by decide +kernel) ?_
        refine P_iast (q := 16) (j := i) (f' := flC (fun _ => nI 0) gc (i + 1)) (σ' := (va_up σ0 119 (pI .int 401 (flC (fun _ => nI 0) gc (i + 1))))) dX8_countsAll_15 rfl (by decide) (up_at _ _ _) (rfl) (by omega) (by decide) (flC_succ (fun _ => nI 0) gc i) (up_up _ _ _ _) ?_
        refine P_iinc (q := 19) (L' := [_, _, _]) (v := nI (i + 1)) dX8_countsAll_16 rfl (by decide) rfl (nI_1 i) rfl ?_
        refine P_goto (tgt := 2) dX8_countsAll_19 (by decide) ?_
        exact ih (i + 1) (by omega)
  refine CP_of (by decide +kernel) (Nat.le_of_ble_eq_true rfl) ?_
  change PW _ _ _ _ 0 [_, _, _] [] _ _ _ _
  refine P_iconst (q := 1) (v := nI 0) dX8_countsAll_0 rfl (by decide +kernel) ?_
  refine P_istore_n (q := 2) (L' := [_, _, _]) dX8_countsAll_1 rfl (by decide) rfl ?_
  have h := lp1 401 0 (by omega)
  rw [flC_0, up_self h119] at h
  exact h
