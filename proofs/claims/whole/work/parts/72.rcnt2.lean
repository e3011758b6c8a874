/-! THE REFERENCE: countsFrom -/
set_option maxRecDepth 100000 in
set_option maxHeartbeats 4000000 in
theorem w_cz1 {σ : Sto} {w cl : Bool} {f last : Nat} {g : Nat → Int32} (hM : MO σ) {a6 a7 a8 a9 a10 : Option Value} {QQ : Option Value → Sto → Prop} (K : ∀ xx : Option Value, PW mX8_countsFrom 0 0 QQ 25 [some (.ref 114), some (.int (bI w)), some (.int (nI f)), some (.int (nI last)), some (.int (bI cl)), xx, a6, a7, a8, a9, a10] [] 132 (va_up σ 120 (pI .int 3208 (flC (fun _ => nI 0) g 3208))) 0 0) : ∀ n i, i + n = 3208 → PW mX8_countsFrom 0 0 QQ 3 [some (.ref 114), some (.int (bI w)), some (.int (nI f)), some (.int (nI last)), some (.int (bI cl)), some (.int (nI i)), a6, a7, a8, a9, a10] [] 132 (va_up σ 120 (pI .int 3208 (flC (fun _ => nI 0) g i))) 0 0 := by
  obtain ⟨a1, a2, a3, a4, a5, a6, a7, h0⟩ := hM
  have u0 := fun c => (up_ne σ (k := 120) c (show 114 ≠ 120 by omega)).trans h0
  intro n
  induction n with
  | zero =>
    intro i hi
    have e : i = 3208 := by omega
    subst e
    refine P_iload (q := 5) dX8_countsFrom_3 rfl rfl ?_
    refine P_sipush (q := 8) (v := nI 3208) dX8_countsFrom_5 rfl (by decide +kernel) ?_
    refine P_icmp_ge (q := 11) (tgt := 25) dX8_countsFrom_8 rfl (by decide) (fun c_8 => ?_) (fun c_8 => ?_)
    · rw [nI_leI (by omega) (by omega)] at c_8
      exact K _
    · exfalso; rw [nI_leI (by omega) (by omega)] at c_8; omega
  | succ n ih =>
    intro i hi
    refine P_iload (q := 5) dX8_countsFrom_3 rfl rfl ?_
    refine P_sipush (q := 8) (v := nI 3208) dX8_countsFrom_5 rfl (by decide +kernel) ?_
    refine P_icmp_ge (q := 11) (tgt := 25) dX8_countsFrom_8 rfl (by decide) (fun c_8 => ?_) (fun c_8 => ?_)
    · exfalso; rw [nI_leI (by omega) (by omega)] at c_8; omega
    · rw [nI_leI (by omega) (by omega)] at c_8
      refine P_aload_n (q := 12) dX8_countsFrom_11 rfl rfl ?_
      refine P_get (q := 15) dX8_countsFrom_12 rfl fX8_25 (by decide) (u0 _) rfl ?_
      refine P_iload (q := 17) dX8_countsFrom_15 rfl rfl ?_
      refine P_iconst (q := 18) (v := nI 0) dX8_countsFrom_17 rfl (by decide +kernel) ?_
      refine P_iast (q := 19) (j := i) (f' := flC (fun _ => nI 0) g (i + 1)) (σ' := (va_up σ 120 (pI .int 3208 (flC (fun _ => nI 0) g (i + 1))))) dX8_countsFrom_18 rfl (by decide) (up_at _ _ _) (rfl) (by omega) (by decide) (flC_succ (fun _ => nI 0) g i) (up_up _ _ _ _) ?_
      refine P_iinc (q := 22) (L' := [_, _, _, _, _, _, _, _, _, _, _]) (v := nI (i + 1)) dX8_countsFrom_19 rfl (by decide) rfl (nI_1 i) rfl ?_
      refine P_goto (tgt := 3) dX8_countsFrom_22 (by decide) ?_
      exact ih (i + 1) (by omega)
set_option maxRecDepth 100000 in
set_option maxHeartbeats 4000000 in
theorem w_cz2 {σ : Sto} {w cl : Bool} {f last : Nat} {g : Nat → Int32} (hM : MO σ) {k5 : Nat} {a7_ a8 a9 a10 : Option Value} {QQ : Option Value → Sto → Prop} (K : ∀ xx : Option Value, PW mX8_countsFrom 0 0 QQ 104 [some (.ref 114), some (.int (bI w)), some (.int (nI f)), some (.int (nI last)), some (.int (bI cl)), some (.int (nI k5)), xx, a7_, a8, a9, a10] [] 132 (va_up σ 121 (pI .int 3208 (flC (fun _ => nI 0) g 3208))) 0 0) : ∀ n i, i + n = 3208 → PW mX8_countsFrom 0 0 QQ 82 [some (.ref 114), some (.int (bI w)), some (.int (nI f)), some (.int (nI last)), some (.int (bI cl)), some (.int (nI k5)), some (.int (nI i)), a7_, a8, a9, a10] [] 132 (va_up σ 121 (pI .int 3208 (flC (fun _ => nI 0) g i))) 0 0 := by
  obtain ⟨a1, a2, a3, a4, a5, a6, a7, h0⟩ := hM
  have u0 := fun c => (up_ne σ (k := 121) c (show 114 ≠ 121 by omega)).trans h0
  intro n
  induction n with
  | zero =>
    intro i hi
    have e : i = 3208 := by omega
    subst e
    refine P_iload (q := 84) dX8_countsFrom_82 rfl rfl ?_
    refine P_sipush (q := 87) (v := nI 3208) dX8_countsFrom_84 rfl (by decide +kernel) ?_
    refine P_icmp_ge (q := 90) (tgt := 104) dX8_countsFrom_87 rfl (by decide) (fun c_87 => ?_) (fun c_87 => ?_)
    · rw [nI_leI (by omega) (by omega)] at c_87
      exact K _
    · exfalso; rw [nI_leI (by omega) (by omega)] at c_87; omega
  | succ n ih =>
    intro i hi
    refine P_iload (q := 84) dX8_countsFrom_82 rfl rfl ?_
    refine P_sipush (q := 87) (v := nI 3208) dX8_countsFrom_84 rfl (by decide +kernel) ?_
    refine P_icmp_ge (q := 90) (tgt := 104) dX8_countsFrom_87 rfl (by decide) (fun c_87 => ?_) (fun c_87 => ?_)
    · exfalso; rw [nI_leI (by omega) (by omega)] at c_87; omega
    · rw [nI_leI (by omega) (by omega)] at c_87
      refine P_aload_n (q := 91) dX8_countsFrom_90 rfl rfl ?_
      refine P_get (q := 94) dX8_countsFrom_91 rfl fX8_28 (by decide) (u0 _) rfl ?_
      refine P_iload (q := 96) dX8_countsFrom_94 rfl rfl ?_
      refine P_iconst (q := 97) (v := nI 0) dX8_countsFrom_96 rfl (by decide +kernel) ?_
      refine P_iast (q := 98) (j := i) (f' := flC (fun _ => nI 0) g (i + 1)) (σ' := (va_up σ 121 (pI .int 3208 (flC (fun _ => nI 0) g (i + 1))))) dX8_countsFrom_97 rfl (by decide) (up_at _ _ _) (rfl) (by omega) (by decide) (flC_succ (fun _ => nI 0) g i) (up_up _ _ _ _) ?_
      refine P_iinc (q := 101) (L' := [_, _, _, _, _, _, _, _, _, _, _]) (v := nI (i + 1)) dX8_countsFrom_98 rfl (by decide) rfl (nI_1 i) rfl ?_
      refine P_goto (tgt := 82) dX8_countsFrom_101 (by decide) ?_
      exact ih (i + 1) (by omega)
set_option maxRecDepth 100000 in
set_option maxHeartbeats 4000000 in
theorem w_ccp {σ : Sto} {w cl : Bool} {f last : Nat} {gt gn : Nat → Int32} (hM : MO σ) (h121 : σ 121 = pI .int 3208 gt) {k : Nat} {b7 b8 b9 b10 : Option Value} {QQ : Option Value → Sto → Prop} (K : ∀ xx : Option Value, PW mX8_countsFrom 0 0 QQ 68 [some (.ref 114), some (.int (bI w)), some (.int (nI f)), some (.int (nI last)), some (.int (bI cl)), some (.int (nI (k + 1))), xx, b7, b8, b9, b10] [] 132 (va_up σ 120 (pI .int 3208 (flC gt gn 3208))) 0 0) : ∀ n i, i + n = 3208 → PW mX8_countsFrom 0 0 QQ 224 [some (.ref 114), some (.int (bI w)), some (.int (nI f)), some (.int (nI last)), some (.int (bI cl)), some (.int (nI k)), some (.int (nI i)), b7, b8, b9, b10] [] 132 (va_up σ 120 (pI .int 3208 (flC gt gn i))) 0 0 := by
  obtain ⟨a1, a2, a3, a4, a5, a6, a7, h0⟩ := hM
  have u0 := fun c => (up_ne σ (k := 120) c (show 114 ≠ 120 by omega)).trans h0
  have u1 := fun c => (up_ne σ (k := 120) c (show 121 ≠ 120 by omega)).trans h121
  intro n
  induction n with
  | zero =>
    intro i hi
    have e : i = 3208 := by omega
    subst e
    refine P_iload (q := 226) dX8_countsFrom_224 rfl rfl ?_
    refine P_sipush (q := 229) (v := nI 3208) dX8_countsFrom_226 rfl (by decide +kernel) ?_
    refine P_icmp_ge (q := 232) (tgt := 252) dX8_countsFrom_229 rfl (by decide) (fun c_229 => ?_) (fun c_229 => ?_)
    · rw [nI_leI (by omega) (by omega)] at c_229
      refine P_iinc (q := 255) (L' := [_, _, _, _, _, _, _, _, _, _, _]) (v := nI (k + 1)) dX8_countsFrom_252 rfl (by decide) rfl (nI_1 k) rfl ?_
      refine P_goto (tgt := 68) dX8_countsFrom_255 (by decide) ?_
      exact K _
    · exfalso; rw [nI_leI (by omega) (by omega)] at c_229; omega
  | succ n ih =>
    intro i hi
    refine P_iload (q := 226) dX8_countsFrom_224 rfl rfl ?_
    refine P_sipush (q := 229) (v := nI 3208) dX8_countsFrom_226 rfl (by decide +kernel) ?_
    refine P_icmp_ge (q := 232) (tgt := 252) dX8_countsFrom_229 rfl (by decide) (fun c_229 => ?_) (fun c_229 => ?_)
    · exfalso; rw [nI_leI (by omega) (by omega)] at c_229; omega
    · rw [nI_leI (by omega) (by omega)] at c_229
      refine P_aload_n (q := 233) dX8_countsFrom_232 rfl rfl ?_
      refine P_get (q := 236) dX8_countsFrom_233 rfl fX8_25 (by decide) (u0 _) rfl ?_
      refine P_iload (q := 238) dX8_countsFrom_236 rfl rfl ?_
      refine P_aload_n (q := 239) dX8_countsFrom_238 rfl rfl ?_
      refine P_get (q := 242) dX8_countsFrom_239 rfl fX8_28 (by decide) (u0 _) rfl ?_
      refine P_iload (q := 244) dX8_countsFrom_242 rfl rfl ?_
      refine P_iald (q := 245) (j := i) dX8_countsFrom_244 rfl (by decide) (u1 _) (rfl) (by omega) (by decide) ?_
      refine P_iast (q := 246) (j := i) (f' := flC gt gn (i + 1)) (σ' := (va_up σ 120 (pI .int 3208 (flC gt gn (i + 1))))) dX8_countsFrom_245 rfl (by decide) (up_at _ _ _) (rfl) (by omega) (by decide) (flC_succ gt gn i) (up_up _ _ _ _) ?_
      refine P_iinc (q := 249) (L' := [_, _, _, _, _, _, _, _, _, _, _]) (v := nI (i + 1)) dX8_countsFrom_246 rfl (by decide) rfl (nI_1 i) rfl ?_
      refine P_goto (tgt := 224) dX8_countsFrom_249 (by decide) ?_
      exact ih (i + 1) (by omega)
set_option maxRecDepth 100000 in
set_option maxHeartbeats 4000000 in
theorem w_cf0 {σ0 : Sto} {A : St} {w cl : Bool} {P : Nat → Bool} {f last : Nat} (hM : MO σ0) (hX : XA σ0 A) {QQ : Option Value → Sto → Prop} (K : ∀ σ, same σ0 σ (fun i => i = 120 ∨ i = 121) → GR σ 120 (2 ^ A.R) (fun s x => A.WE w P (A.C - 1) s ((x : Int) - 200)) → (∃ g : Nat → Int32, σ 121 = pI .int 3208 g) → ∀ x5 x6 x7 x8 x9 x10 : Option Value, PW mX8_countsFrom 0 0 QQ 258 [some (.ref 114), some (.int (bI w)), some (.int (nI f)), some (.int (nI last)), some (.int (bI cl)), x5, x6, x7, x8, x9, x10] [] 132 σ 0 0) : ∀ n c, c + 1 + n = A.C → ∀ σ, same σ0 σ (fun i => i = 120 ∨ i = 121) → GR σ 120 (2 ^ A.R) (fun s x => A.WE w P c s ((x : Int) - 200)) → (∃ g : Nat → Int32, σ 121 = pI .int 3208 g) → ∀ x6 x7 x8 x9 x10 : Option Value, PW mX8_countsFrom 0 0 QQ 68 [some (.ref 114), some (.int (bI w)), some (.int (nI f)), some (.int (nI last)), some (.int (bI cl)), some (.int (nI (c + 1))), x6, x7, x8, x9, x10] [] 132 σ 0 0 := by
  have hA := hX.1
  have hC := hA.1
  have hR := hA.2.1
  have h8 := pow8 hR.2
  have hMs : ∀ σ, same σ0 σ (fun i => i = 120 ∨ i = 121) → MO σ := fun σ s => by
    obtain ⟨a1, a2, a3, a4, a5, a6, a7, h⟩ := hM
    exact ⟨a1, a2, a3, a4, a5, a6, a7, (s 114 (by omega)).trans h⟩
  have hXs : ∀ σ, same σ0 σ (fun i => i = 120 ∨ i = 121) → XA σ A := fun σ s => by
    obtain ⟨-, g, h, hR⟩ := hX
    exact ⟨hA, g, (s 115 (by omega)).trans h, hR⟩
  intro n
  induction n with
  | zero =>
    intro c hc σ hs hG h121 x6 x7 x8 x9 x10
    obtain ⟨a1, a2, a3, a4, a5, a6, a7, h0⟩ := hMs σ hs
    obtain ⟨-, g, h1, hRA⟩ := hXs σ hs
    refine P_iload (q := 70) dX8_countsFrom_68 rfl rfl ?_
    refine P_aload_n (q := 71) dX8_countsFrom_70 rfl rfl ?_
    refine P_get (q := 74) dX8_countsFrom_71 rfl fX8_7 (by decide) (h0) rfl ?_
    refine P_iconst (q := 75) (v := nI 0) dX8_countsFrom_74 rfl (by decide +kernel) ?_
    refine P_iald (q := 76) (j := 0) dX8_countsFrom_75 rfl (by decide) (h1) (rfl) (by omega) (by decide) ?_
    rw [hRA.1]
    refine P_icmp_ge (q := 79) (tgt := 258) dX8_countsFrom_76 rfl (by decide) (fun c_76 => ?_) (fun c_76 => ?_)
    · rw [nI_leI (by omega) (by omega)] at c_76
      have e : c = A.C - 1 := by omega
      subst e
      exact K σ hs hG h121 _ _ _ _ _ _
    · exfalso; rw [nI_leI (by omega) (by omega)] at c_76; omega
  | succ n ih =>
    intro c hc σ hs hG h121 x6 x7 x8 x9 x10
    obtain ⟨gz, h121⟩ := h121
    obtain ⟨a1, a2, a3, a4, a5, a6, a7, h0⟩ := hMs σ hs
    obtain ⟨-, g, h1, hRA⟩ := hXs σ hs
    refine P_iload (q := 70) dX8_countsFrom_68 rfl rfl ?_
    refine P_aload_n (q := 71) dX8_countsFrom_70 rfl rfl ?_
    refine P_get (q := 74) dX8_countsFrom_71 rfl fX8_7 (by decide) (h0) rfl ?_
    refine P_iconst (q := 75) (v := nI 0) dX8_countsFrom_74 rfl (by decide +kernel) ?_
    refine P_iald (q := 76) (j := 0) dX8_countsFrom_75 rfl (by decide) (h1) (rfl) (by omega) (by decide) ?_
    rw [hRA.1]
    refine P_icmp_ge (q := 79) (tgt := 258) dX8_countsFrom_76 rfl (by decide) (fun c_76 => ?_) (fun c_76 => ?_)
    · exfalso; rw [nI_leI (by omega) (by omega)] at c_76; omega
    · rw [nI_leI (by omega) (by omega)] at c_76
      refine P_iconst (q := 80) (v := nI 0) dX8_countsFrom_79 rfl (by decide +kernel) ?_
      refine P_istore (q := 82) (L' := [_, _, _, _, _, _, _, _, _, _, _]) dX8_countsFrom_80 rfl (by decide) rfl ?_
      have hz := w_cz2 (cl := cl) (w := w) (f := f) (last := last) (k5 := c + 1) (a7_ := x7) (a8 := x8) (a9 := x9) (a10 := x10) (g := gz) (hMs σ hs) (QQ := QQ) (fun xx => ?_) 3208 0 (by omega)
      · rw [flC_0, up_self h121] at hz
        exact hz
      · have hs1 : same σ0 (va_up σ 121 (pI .int 3208 (flC (fun _ => nI 0) gz 3208))) (fun i => i = 120 ∨ i = 121) := hs.up (Or.inr rfl)
        have q121 := up_at σ 121 (pI .int 3208 (flC (fun _ => nI 0) gz 3208))
        have hG1 : GR (va_up σ 121 (pI .int 3208 (flC (fun _ => nI 0) gz 3208))) 120 (2 ^ A.R) (fun s x => A.WE w P c s ((x : Int) - 200)) := by
          obtain ⟨g5, e1, e2⟩ := hG
          exact ⟨g5, (up_ne _ _ (by omega)).trans e1, e2⟩
        generalize va_up σ 121 (pI .int 3208 (flC (fun _ => nI 0) gz 3208)) = σ1 at hs1 q121 hG1 ⊢
        refine P_iconst (q := 105) (v := nI 0) dX8_countsFrom_104 rfl (by decide +kernel) ?_
        refine P_istore (q := 107) (L' := [_, _, _, _, _, _, _, _, _, _, _]) dX8_countsFrom_105 rfl (by decide) rfl ?_
        refine w_cf2 (hMs σ1 hs1) (hXs σ1 hs1) (c := c) (P := P) (by omega) hG1 (fun σ2 t2 hG2 y6 y7 y8 y9 y10 => ?_) (2 ^ A.R) 0 (by omega) σ1 same.rf ⟨_, q121, fun s x hs2 hx => ?_⟩ _ _ _ _
        · have hs2 := hs1.trans (t2.mono (fun i h => Or.inr h) : same σ1 σ2 (fun i => i = 120 ∨ i = 121))
          obtain ⟨gt, f121, hgt⟩ := hG2
          obtain ⟨gn, f120, hgn⟩ := id hG1
          have f120 := (t2 120 (by omega)).trans f120
          refine P_iconst (q := 222) (v := nI 0) dX8_countsFrom_221 rfl (by decide +kernel) ?_
          refine P_istore (q := 224) (L' := [_, _, _, _, _, _, _, _, _, _, _]) dX8_countsFrom_222 rfl (by decide) rfl ?_
          have hcc := w_ccp (cl := cl) (w := w) (f := f) (last := last) (k := c + 1) (b7 := y7) (b8 := y8) (b9 := y9) (b10 := y10) (gn := gn) (hMs σ2 hs2) f121 (QQ := QQ) (fun xx => ih (c + 1) (by omega) _ (hs2.up (Or.inl rfl)) ⟨_, up_at _ _ _, fun s x h9 hx => ?_⟩ ⟨_, (up_ne _ _ (by omega)).trans f121⟩ _ _ _ _ _) 3208 0 (by omega)
          · rw [flC_0, up_self f120] at hcc
            exact hcc
          · rw [← hgt s x h9 hx]
            exact if_pos (by omega)
        · rw [HH_0]
          exact if_pos (by omega)
def ptG (F : Int → Nat) (m : Int) (e y : Nat) : Nat := if 0 ≤ (y : Int) - m ∧ (y : Int) - m < (e : Int) then F ((y : Int) - 200 - m) else 0
theorem ptG_0 (F : Int → Nat) (m : Int) (y : Nat) : ptG F m 0 y = 0 := if_neg (fun q => by omega)
theorem ptG_s (F : Int → Nat) (m : Int) (e y : Nat) : ptG F m (e + 1) y = ptG F m e y + (if (y : Int) - m = e then F ((e : Int) - 200) else 0) := by
  unfold ptG
  by_cases h : (y : Int) - m = e
  · rw [if_pos h, if_pos (by omega), if_neg (by omega), show (y : Int) - 200 - m = e - 200 by omega, Nat.zero_add]
  · rw [if_neg h]
    by_cases h2 : 0 ≤ (y : Int) - m ∧ (y : Int) - m < (e : Int)
    · rw [if_pos h2, if_pos (by omega)]; rfl
    · rw [if_neg h2, if_neg (by omega)]
theorem ptG_e {F : Int → Nat} (hF : ∀ e, F e ≠ 0 → -190 ≤ e ∧ e ≤ 190) (m : Int) (y : Nat) : ptG F m 401 y = F ((y : Int) - 200 - m) := by
  unfold ptG
  by_cases h2 : 0 ≤ (y : Int) - m ∧ (y : Int) - m < ((401 : Nat) : Int)
  · rw [if_pos h2]
  · rw [if_neg h2]
    refine (Classical.byContradiction fun q => ?_ : F ((y : Int) - 200 - m) = 0).symm
    have := hF _ q
    omega
def GC (σ : Sto) (F : Nat → Nat) : Prop := ∃ g : Nat → Int32, σ 119 = pI .int 401 g ∧ ∀ y, y < 401 → g y = nI (F y)
theorem GC.cg {σ : Sto} {F F' : Nat → Nat} (h : GC σ F) (e : ∀ y, y < 401 → F' y = F y) : GC σ F' := by
  obtain ⟨g, h1, h2⟩ := h
  exact ⟨g, h1, fun y hy => by rw [h2 y hy, e y hy]⟩
theorem GC_add {σ : Sto} {F F' : Nat → Nat} {g : Nat → Int32} {y0 m : Nat} (h : ∀ y, y < 401 → g y = nI (F y)) (hy : y0 < 401) (hF : ∀ y, y < 401 → F' y = F y + (if y = y0 then m else 0)) : GC (va_up σ 119 (pI .int 401 (upd g y0 (g y0 + nI m)))) F' := by
  refine ⟨_, up_at _ _ _, fun y h2 => ?_⟩
  unfold upd
  rw [hF y h2]
  by_cases e : y = y0
  · rw [if_pos e, if_pos e, h y0 hy, nI_add, e]
  · rw [if_neg e, if_neg e]
    exact h y h2
set_option maxRecDepth 100000 in
set_option maxHeartbeats 4000000 in
theorem w_cf6 {σ0 : Sto} {A : St} {w : Bool} {P : Nat → Bool} {f last : Nat} (hM : MO σ0) (hX : XA σ0 A) (h120 : GR σ0 120 (2 ^ A.R) (fun s x => A.WE w P (A.C - 1) s ((x : Int) - 200))) {s : Nat} (hs : s < 2 ^ A.R) {G : Nat → Nat} {QQ : Option Value → Sto → Prop} (K : ∀ σ, same σ0 σ (fun i => i = 119) → GC σ (fun y => G y + A.WE w P (A.C - 1) s ((y : Int) - 200 - A.sf w s f)) → ∀ x6 x7 x8 x9 x10 : Option Value, PW mX8_countsFrom 0 0 QQ 261 [some (.ref 114), some (.int (bI w)), some (.int (nI f)), some (.int (nI last)), some (.int (bI A.lp)), some (.int (nI (s + 1))), x6, x7, x8, x9, x10] [] 132 σ 0 0) : ∀ n e, e + n = 401 → ∀ σ, same σ0 σ (fun i => i = 119) → GC σ (fun y => G y + ptG (A.WE w P (A.C - 1) s) (A.sf w s f) e y) → ∀ x8 x9 x10 : Option Value, PW mX8_countsFrom 0 0 QQ 292 [some (.ref 114), some (.int (bI w)), some (.int (nI f)), some (.int (nI last)), some (.int (bI A.lp)), some (.int (nI s)), some (.int (iI (A.sf w s f))), some (.int (nI e)), x8, x9, x10] [] 132 σ 0 0 := by
  have hA := hX.1
  have hC := hA.1
  have hR := hA.2.1
  have h8 := pow8 hR.2
  have hMs : ∀ σ, same σ0 σ (fun i => i = 119) → MO σ := fun σ s => by
    obtain ⟨a1, a2, a3, a4, a5, a6, a7, h⟩ := hM
    exact ⟨a1, a2, a3, a4, a5, a6, a7, (s 114 (by omega)).trans h⟩
  have hXs : ∀ σ, same σ0 σ (fun i => i = 119) → XA σ A := fun σ s => by
    obtain ⟨-, g, h, hR⟩ := hX
    exact ⟨hA, g, (s 115 (by omega)).trans h, hR⟩
  have hsf : -6 ≤ A.sf w s f ∧ A.sf w s f ≤ 6 := by
    unfold St.sf
    split
    · exact lnk_in hA w s f
    · omega
  generalize A.sf w s f = m at hsf K ⊢
  obtain ⟨g0, q120, hg0⟩ := h120
  have hg0 : ∀ s x, s < 2 ^ A.R → x < 401 → g0 (401 * s + x) = nI (A.WE w P (A.C - 1) s ((x : Int) - 200)) := hg0
  have hin := fun e => WE_in hA w P (c := A.C - 1) (t := s) (by omega) hs (e := e)
  intro n
  induction n with
  | zero =>
    intro e he σ hs' hG x8 x9 x10
    have ee : e = 401 := by omega
    subst ee
    refine P_iload (q := 294) dX8_countsFrom_292 rfl rfl ?_
    refine P_sipush (q := 297) (v := nI 401) dX8_countsFrom_294 rfl (by decide +kernel) ?_
    refine P_icmp_ge (q := 300) (tgt := 342) dX8_countsFrom_297 rfl (by decide) (fun c_297 => ?_) (fun c_297 => ?_)
    · rw [nI_leI (by omega) (by omega)] at c_297
      refine P_iinc (q := 345) (L' := [_, _, _, _, _, _, _, _, _, _, _]) (v := nI (s + 1)) dX8_countsFrom_342 rfl (by decide) rfl (nI_1 s) rfl ?_
      refine P_goto (tgt := 261) dX8_countsFrom_345 (by decide) ?_
      exact K σ hs' (hG.cg (fun y _ => by rw [ptG_e hin])) _ _ _ _ _
    · exfalso; rw [nI_leI (by omega) (by omega)] at c_297; omega
  | succ n ih =>
    intro e he σ hs' hG x8 x9 x10
    obtain ⟨a1, a2, a3, a4, a5, a6, a7, h0⟩ := hMs σ hs'
    have e120 := (hs' 120 (by omega)).trans q120
    obtain ⟨g, q119, hg⟩ := id hG
    have hg : ∀ y, y < 401 → g y = nI (G y + ptG (A.WE w P (A.C - 1) s) m e y) := hg
    have hW := WE_le hA w P (c := A.C - 1) (t := s) (by omega) hs ((e : Int) - 200)
    refine P_iload (q := 294) dX8_countsFrom_292 rfl rfl ?_
    refine P_sipush (q := 297) (v := nI 401) dX8_countsFrom_294 rfl (by decide +kernel) ?_
    refine P_icmp_ge (q := 300) (tgt := 342) dX8_countsFrom_297 rfl (by decide) (fun c_297 => ?_) (fun c_297 => ?_)
    · exfalso; rw [nI_leI (by omega) (by omega)] at c_297; omega
    · rw [nI_leI (by omega) (by omega)] at c_297
      refine P_aload_n (q := 301) dX8_countsFrom_300 rfl rfl ?_
      refine P_get (q := 304) dX8_countsFrom_301 rfl fX8_25 (by decide) (h0) rfl ?_
      refine P_sipush (q := 307) (v := nI 401) dX8_countsFrom_304 rfl (by decide +kernel) ?_
      refine P_iload (q := 309) dX8_countsFrom_307 rfl rfl ?_
      refine P_imul (q := 310) dX8_countsFrom_309 rfl ?_
      refine P_iload (q := 312) dX8_countsFrom_310 rfl rfl ?_
      refine P_iadd (q := 313) dX8_countsFrom_312 rfl ?_
      refine P_iald (q := 314) (j := 401 * s + e) dX8_countsFrom_313 rfl (by decide) (e120) (by rw [pk_mul, nI_add]) (by omega) (by decide) ?_
      rw [hg0 s e hs (by omega)]
      refine P_istore (q := 316) (L' := [_, _, _, _, _, _, _, _, _, _, _]) dX8_countsFrom_314 rfl (by decide) rfl ?_
      refine P_iload (q := 318) dX8_countsFrom_316 rfl rfl ?_
      refine P_if_le (q := 321) (tgt := 336) dX8_countsFrom_318 rfl (by decide) (fun c_318 => ?_) (fun c_318 => ?_)
      · rw [show ((0 : Int32)) = nI 0 from rfl, nI_leI (by omega) (by decide)] at c_318
        refine P_iinc (q := 339) (L' := [_, _, _, _, _, _, _, _, _, _, _]) (v := nI (e + 1)) dX8_countsFrom_336 rfl (by decide) rfl (nI_1 e) rfl ?_
        refine P_goto (tgt := 292) dX8_countsFrom_339 (by decide) ?_
        refine ih (e + 1) (by omega) σ hs' (hG.cg (fun y _ => ?_)) _ _ _
        rw [ptG_s, show (A.WE w P (A.C - 1) s) ((e : Int) - 200) = 0 by omega]
        split <;> rfl
      · rw [show ((0 : Int32)) = nI 0 from rfl, nI_leI (by omega) (by decide)] at c_318
        have hi := hin ((e : Int) - 200) (by omega)
        obtain ⟨y0, hy0⟩ : ∃ y0 : Nat, (y0 : Int) = e + m := ⟨((e : Int) + m).toNat, by omega⟩
        refine P_aload_n (q := 322) dX8_countsFrom_321 rfl rfl ?_
        refine P_get (q := 325) dX8_countsFrom_322 rfl fX8_22 (by decide) (h0) rfl ?_
        refine P_iload (q := 327) dX8_countsFrom_325 rfl rfl ?_
        refine P_iload (q := 329) dX8_countsFrom_327 rfl rfl ?_
        refine P_iadd (q := 330) dX8_countsFrom_329 rfl ?_
        rw [ni_add hy0]
        refine P_dup2 (q := 331) dX8_countsFrom_330 rfl rfl rfl ?_
        refine P_iald (q := 332) (j := y0) dX8_countsFrom_331 rfl (by decide) (q119) (rfl) (by omega) (by decide) ?_
        refine P_iload (q := 334) dX8_countsFrom_332 rfl rfl ?_
        refine P_iadd (q := 335) dX8_countsFrom_334 rfl ?_
        refine P_iast (q := 336) (j := y0) (f' := upd g y0 (g y0 + nI ((A.WE w P (A.C - 1) s) ((e : Int) - 200)))) dX8_countsFrom_335 rfl (by decide) (q119) (rfl) (by omega) (by decide) (rfl) (rfl) ?_
        refine P_iinc (q := 339) (L' := [_, _, _, _, _, _, _, _, _, _, _]) (v := nI (e + 1)) dX8_countsFrom_336 rfl (by decide) rfl (nI_1 e) rfl ?_
        refine P_goto (tgt := 292) dX8_countsFrom_339 (by decide) ?_
        refine ih (e + 1) (by omega) _ (hs'.up rfl) (GC_add hg (show y0 < 401 by omega) (fun y _ => ?_)) _ _ _
        rw [ptG_s, ← Nat.add_assoc]
        congr 1
        by_cases h : y = y0
        · rw [if_pos h, if_pos (by omega)]
        · rw [if_neg h, if_neg (by omega)]
set_option maxRecDepth 100000 in
set_option maxHeartbeats 4000000 in
theorem w_cf5 {σ0 : Sto} {A : St} {w : Bool} {P : Nat → Bool} {f last : Nat} (hM : MO σ0) (hX : XA σ0 A) (h120 : GR σ0 120 (2 ^ A.R) (fun s x => A.WE w P (A.C - 1) s ((x : Int) - 200))) (hf : f < 2 ^ A.R) {G : Nat → Nat} {QQ : Option Value → Sto → Prop} (K : ∀ σ, same σ0 σ (fun i => i = 119) → GC σ (fun y => G y + A.FE w P f (2 ^ A.R) ((y : Int) - 200)) → ∀ x5 x6 x7 x8 x9 x10 : Option Value, PW mX8_countsFrom 0 0 QQ 348 [some (.ref 114), some (.int (bI w)), some (.int (nI f)), some (.int (nI last)), some (.int (bI A.lp)), x5, x6, x7, x8, x9, x10] [] 132 σ 0 0) : ∀ n s, s + n = 2 ^ A.R → ∀ σ, same σ0 σ (fun i => i = 119) → GC σ (fun y => G y + A.FE w P f s ((y : Int) - 200)) → ∀ x6 x7 x8 x9 x10 : Option Value, PW mX8_countsFrom 0 0 QQ 261 [some (.ref 114), some (.int (bI w)), some (.int (nI f)), some (.int (nI last)), some (.int (bI A.lp)), some (.int (nI s)), x6, x7, x8, x9, x10] [] 132 σ 0 0 := by
  have hA := hX.1
  have hC := hA.1
  have hR := hA.2.1
  have h8 := pow8 hR.2
  have hMs : ∀ σ, same σ0 σ (fun i => i = 119) → MO σ := fun σ s => by
    obtain ⟨a1, a2, a3, a4, a5, a6, a7, h⟩ := hM
    exact ⟨a1, a2, a3, a4, a5, a6, a7, (s 114 (by omega)).trans h⟩
  have hXs : ∀ σ, same σ0 σ (fun i => i = 119) → XA σ A := fun σ s => by
    obtain ⟨-, g, h, hR⟩ := hX
    exact ⟨hA, g, (s 115 (by omega)).trans h, hR⟩
  intro n
  induction n with
  | zero =>
    intro s hs σ hs' hG x6 x7 x8 x9 x10
    obtain ⟨a1, a2, a3, a4, a5, a6, a7, h0⟩ := hMs σ hs'
    have hst := m_states (hMs σ hs') (hXs σ hs')
    refine P_iload (q := 263) dX8_countsFrom_261 rfl rfl ?_
    refine P_aload_n (q := 264) dX8_countsFrom_263 rfl rfl ?_
    refine P_cv1 (q := 267) dX8_countsFrom_264 rfl kX8_112 (hst) rfl rfl (by decide) (h0) rfl ⟨by decide, by decide⟩ (Nat.le_of_ble_eq_true rfl) ⟨Nat.le_refl _, Nat.le_refl _⟩ ?_
    refine P_icmp_ge (q := 270) (tgt := 348) dX8_countsFrom_267 rfl (by decide) (fun c_267 => ?_) (fun c_267 => ?_)
    · rw [nI_leI (by omega) (by omega)] at c_267
      exact K σ hs' (hG.cg (fun y _ => by rw [show s = 2 ^ A.R by omega])) _ _ _ _ _ _
    · exfalso; rw [nI_leI (by omega) (by omega)] at c_267; omega
  | succ n ih =>
    intro s hs σ hs' hG x6 x7 x8 x9 x10
    obtain ⟨a1, a2, a3, a4, a5, a6, a7, h0⟩ := hMs σ hs'
    have hst := m_states (hMs σ hs') (hXs σ hs')
    have hlk := m_lnkw (hMs σ hs') (hXs σ hs') w (k := s) (t := f) (by omega) (by omega)
    have go : ∀ x, x = iI (A.sf w s f) → ∀ y6 y7 : Option Value, PW mX8_countsFrom 0 0 QQ 287 [some (.ref 114), some (.int (bI w)), some (.int (nI f)), some (.int (nI last)), some (.int (bI A.lp)), some (.int (nI s)), y6, y7, x8, x9, x10] [.int x] 132 σ 0 0 := fun x hx y6 y7 => by
      subst hx
      refine P_istore (q := 289) (L' := [_, _, _, _, _, _, _, _, _, _, _]) dX8_countsFrom_287 rfl (by decide) rfl ?_
      refine P_iconst (q := 290) (v := nI 0) dX8_countsFrom_289 rfl (by decide +kernel) ?_
      refine P_istore (q := 292) (L' := [_, _, _, _, _, _, _, _, _, _, _]) dX8_countsFrom_290 rfl (by decide) rfl ?_
      refine w_cf6 hM hX h120 (show s < 2 ^ A.R by omega) (G := fun y => G y + A.FE w P f s ((y : Int) - 200)) (fun σ2 t2 hG2 z6 z7 z8 z9 z10 => ih (s + 1) (by omega) σ2 t2 (hG2.cg (fun y _ => ?_)) z6 z7 z8 z9 z10) 401 0 (by omega) σ hs' (hG.cg (fun y _ => ?_)) _ _ _
      · show G y + (A.FE w P f s _ + _) = _
        rw [← Nat.add_assoc]
      · rw [ptG_0]; rfl
    refine P_iload (q := 263) dX8_countsFrom_261 rfl rfl ?_
    refine P_aload_n (q := 264) dX8_countsFrom_263 rfl rfl ?_
    refine P_cv1 (q := 267) dX8_countsFrom_264 rfl kX8_112 (hst) rfl rfl (by decide) (h0) rfl ⟨by decide, by decide⟩ (Nat.le_of_ble_eq_true rfl) ⟨Nat.le_refl _, Nat.le_refl _⟩ ?_
    refine P_icmp_ge (q := 270) (tgt := 348) dX8_countsFrom_267 rfl (by decide) (fun c_267 => ?_) (fun c_267 => ?_)
    · exfalso; rw [nI_leI (by omega) (by omega)] at c_267; omega
    · rw [nI_leI (by omega) (by omega)] at c_267
      refine P_iload (q := 272) dX8_countsFrom_270 rfl rfl ?_
      refine P_if_eq (q := 275) (tgt := 286) dX8_countsFrom_272 rfl (by decide) (fun c_272 => ?_) (fun c_272 => ?_)
      · rw [bI_0] at c_272
        refine P_iconst (q := 287) (v := nI 0) dX8_countsFrom_286 rfl (by decide +kernel) ?_
        first
          | exact go _ (by unfold St.sf; rw [if_pos c_272]) _ _
          | exact go _ (by unfold St.sf; rw [c_272]; rfl) _ _
      · rw [bI_n] at c_272
        refine P_aload_n (q := 276) dX8_countsFrom_275 rfl rfl ?_
        refine P_iload_n (q := 277) dX8_countsFrom_276 rfl rfl ?_
        refine P_iload (q := 279) dX8_countsFrom_277 rfl rfl ?_
        refine P_iload_n (q := 280) dX8_countsFrom_279 rfl rfl ?_
        refine P_cv1 (q := 283) dX8_countsFrom_280 rfl kX8_99 (hlk) rfl rfl (by decide) (h0) rfl ⟨by decide, by decide⟩ (Nat.le_of_ble_eq_true rfl) ⟨Nat.le_refl _, Nat.le_refl _⟩ ?_
        refine P_goto (tgt := 287) dX8_countsFrom_283 (by decide) ?_
        first
          | exact go _ (by unfold St.sf; rw [if_pos c_272]) _ _
          | exact go _ (by unfold St.sf; rw [c_272]; rfl) _ _
