/-! THE REFERENCE: upsFrom -/
theorem UR_0 {σ : Sto} {a b n K : Nat} {g h : Nat → Int32} (h1 : σ a = pI .int n (flC (fun _ => (1000000 : Int32)) g n)) (h2 : σ b = pI .int n (flC (fun _ => nI 0) h n)) (hn : 31 * K ≤ n) {F : Nat → Nat → Int → Nat} (hF : ∀ t u e, t < K → u < 31 → F t u e = 0) : UR σ a b n K F := by
  refine ⟨_, _, h1, h2, fun t u ht hu => ⟨1000000, 0, ?_, if_pos ?_, MN_0 (fun e => hF t u e ht hu)⟩⟩
  · exact (if_pos (by omega)).trans (show (1000000 : Int32) = iI 1000000 by decide)
  · omega
set_option maxRecDepth 100000 in
set_option maxHeartbeats 4000000 in
theorem w_uz1 {σ : Sto} {cl : Bool} {f last : Nat} {g h : Nat → Int32} (hM : MO σ) {a5 a6 a7 a8 : Option Value} {QQ : Option Value → Sto → Prop} (K : ∀ xx : Option Value, PW mX8_upsFrom 0 0 QQ 34 [some (.ref 114), some (.int (nI f)), some (.int (nI last)), some (.int (bI cl)), xx, a5, a6, a7, a8] [] 132 (va_up (va_up σ 122 (pI .int 248 (flC (fun _ => (1000000 : Int32)) g 248))) 123 (pI .int 248 (flC (fun _ => nI 0) h 248))) 0 0) : ∀ n i, i + n = 248 → PW mX8_upsFrom 0 0 QQ 3 [some (.ref 114), some (.int (nI f)), some (.int (nI last)), some (.int (bI cl)), some (.int (nI i)), a5, a6, a7, a8] [] 132 (va_up (va_up σ 122 (pI .int 248 (flC (fun _ => (1000000 : Int32)) g i))) 123 (pI .int 248 (flC (fun _ => nI 0) h i))) 0 0 := by
  obtain ⟨a1, a2, a3, a4, a5, a6, a7, h0⟩ := hM
  have u0 := fun c d => ((up_ne (va_up σ 122 c) (k := 123) d (show 114 ≠ 123 by omega)).trans (up_ne σ (k := 122) c (show 114 ≠ 122 by omega))).trans h0
  intro n
  induction n with
  | zero =>
    intro i hi
    have e : i = 248 := by omega
    subst e
    refine P_iload (q := 5) dX8_upsFrom_3 rfl rfl ?_
    refine P_sipush (q := 8) (v := nI 248) dX8_upsFrom_5 rfl (by decide +kernel) ?_
    refine P_icmp_ge (q := 11) (tgt := 34) dX8_upsFrom_8 rfl (by decide) (fun c_8 => ?_) (fun c_8 => ?_)
    · rw [nI_leI (by omega) (by omega)] at c_8
      exact K _
    · exfalso; rw [nI_leI (by omega) (by omega)] at c_8; omega
  | succ n ih =>
    intro i hi
    refine P_iload (q := 5) dX8_upsFrom_3 rfl rfl ?_
    refine P_sipush (q := 8) (v := nI 248) dX8_upsFrom_5 rfl (by decide +kernel) ?_
    refine P_icmp_ge (q := 11) (tgt := 34) dX8_upsFrom_8 rfl (by decide) (fun c_8 => ?_) (fun c_8 => ?_)
    · exfalso; rw [nI_leI (by omega) (by omega)] at c_8; omega
    · rw [nI_leI (by omega) (by omega)] at c_8
      refine P_aload_n (q := 12) dX8_upsFrom_11 rfl rfl ?_
      refine P_get (q := 15) dX8_upsFrom_12 rfl fX8_31 (by decide) (u0 _ _) rfl ?_
      refine P_iload (q := 17) dX8_upsFrom_15 rfl rfl ?_
      refine P_ldc (q := 19) dX8_upsFrom_17 rfl qX8_128 ?_
      refine P_iast (q := 20) (j := i) (f' := flC (fun _ => (1000000 : Int32)) g (i + 1)) (σ' := (va_up (va_up σ 122 (pI .int 248 (flC (fun _ => (1000000 : Int32)) g (i + 1)))) 123 (pI .int 248 (flC (fun _ => nI 0) h i)))) dX8_upsFrom_19 rfl (by decide) ((up_ne _ _ (by omega)).trans (up_at _ _ _)) (rfl) (by omega) (by decide) (flC_succ (fun _ => (1000000 : Int32)) g i) (by rw [up_swap _ _ _ (by omega), up_up]) ?_
      refine P_aload_n (q := 21) dX8_upsFrom_20 rfl rfl ?_
      refine P_get (q := 24) dX8_upsFrom_21 rfl fX8_34 (by decide) (u0 _ _) rfl ?_
      refine P_iload (q := 26) dX8_upsFrom_24 rfl rfl ?_
      refine P_iconst (q := 27) (v := nI 0) dX8_upsFrom_26 rfl (by decide +kernel) ?_
      refine P_iast (q := 28) (j := i) (f' := flC (fun _ => nI 0) h (i + 1)) (σ' := (va_up (va_up σ 122 (pI .int 248 (flC (fun _ => (1000000 : Int32)) g (i + 1)))) 123 (pI .int 248 (flC (fun _ => nI 0) h (i + 1))))) dX8_upsFrom_27 rfl (by decide) (up_at _ _ _) (rfl) (by omega) (by decide) (flC_succ (fun _ => nI 0) h i) (up_up _ _ _ _) ?_
      refine P_iinc (q := 31) (L' := [_, _, _, _, _, _, _, _, _]) (v := nI (i + 1)) dX8_upsFrom_28 rfl (by decide) rfl (nI_1 i) rfl ?_
      refine P_goto (tgt := 3) dX8_upsFrom_31 (by decide) ?_
      exact ih (i + 1) (by omega)
set_option maxRecDepth 100000 in
set_option maxHeartbeats 4000000 in
theorem w_uz2 {σ : Sto} {cl : Bool} {f last : Nat} {g h : Nat → Int32} (hM : MO σ) {k4 : Nat} {a6 a7 a8 : Option Value} {QQ : Option Value → Sto → Prop} (K : ∀ xx : Option Value, PW mX8_upsFrom 0 0 QQ 138 [some (.ref 114), some (.int (nI f)), some (.int (nI last)), some (.int (bI cl)), some (.int (nI k4)), xx, a6, a7, a8] [] 132 (va_up (va_up σ 124 (pI .int 248 (flC (fun _ => (1000000 : Int32)) g 248))) 125 (pI .int 248 (flC (fun _ => nI 0) h 248))) 0 0) : ∀ n i, i + n = 248 → PW mX8_upsFrom 0 0 QQ 107 [some (.ref 114), some (.int (nI f)), some (.int (nI last)), some (.int (bI cl)), some (.int (nI k4)), some (.int (nI i)), a6, a7, a8] [] 132 (va_up (va_up σ 124 (pI .int 248 (flC (fun _ => (1000000 : Int32)) g i))) 125 (pI .int 248 (flC (fun _ => nI 0) h i))) 0 0 := by
  obtain ⟨a1, a2, a3, a4, a5, a6, a7, h0⟩ := hM
  have u0 := fun c d => ((up_ne (va_up σ 124 c) (k := 125) d (show 114 ≠ 125 by omega)).trans (up_ne σ (k := 124) c (show 114 ≠ 124 by omega))).trans h0
  intro n
  induction n with
  | zero =>
    intro i hi
    have e : i = 248 := by omega
    subst e
    refine P_iload (q := 109) dX8_upsFrom_107 rfl rfl ?_
    refine P_sipush (q := 112) (v := nI 248) dX8_upsFrom_109 rfl (by decide +kernel) ?_
    refine P_icmp_ge (q := 115) (tgt := 138) dX8_upsFrom_112 rfl (by decide) (fun c_112 => ?_) (fun c_112 => ?_)
    · rw [nI_leI (by omega) (by omega)] at c_112
      exact K _
    · exfalso; rw [nI_leI (by omega) (by omega)] at c_112; omega
  | succ n ih =>
    intro i hi
    refine P_iload (q := 109) dX8_upsFrom_107 rfl rfl ?_
    refine P_sipush (q := 112) (v := nI 248) dX8_upsFrom_109 rfl (by decide +kernel) ?_
    refine P_icmp_ge (q := 115) (tgt := 138) dX8_upsFrom_112 rfl (by decide) (fun c_112 => ?_) (fun c_112 => ?_)
    · exfalso; rw [nI_leI (by omega) (by omega)] at c_112; omega
    · rw [nI_leI (by omega) (by omega)] at c_112
      refine P_aload_n (q := 116) dX8_upsFrom_115 rfl rfl ?_
      refine P_get (q := 119) dX8_upsFrom_116 rfl fX8_37 (by decide) (u0 _ _) rfl ?_
      refine P_iload (q := 121) dX8_upsFrom_119 rfl rfl ?_
      refine P_ldc (q := 123) dX8_upsFrom_121 rfl qX8_128 ?_
      refine P_iast (q := 124) (j := i) (f' := flC (fun _ => (1000000 : Int32)) g (i + 1)) (σ' := (va_up (va_up σ 124 (pI .int 248 (flC (fun _ => (1000000 : Int32)) g (i + 1)))) 125 (pI .int 248 (flC (fun _ => nI 0) h i)))) dX8_upsFrom_123 rfl (by decide) ((up_ne _ _ (by omega)).trans (up_at _ _ _)) (rfl) (by omega) (by decide) (flC_succ (fun _ => (1000000 : Int32)) g i) (by rw [up_swap _ _ _ (by omega), up_up]) ?_
      refine P_aload_n (q := 125) dX8_upsFrom_124 rfl rfl ?_
      refine P_get (q := 128) dX8_upsFrom_125 rfl fX8_40 (by decide) (u0 _ _) rfl ?_
      refine P_iload (q := 130) dX8_upsFrom_128 rfl rfl ?_
      refine P_iconst (q := 131) (v := nI 0) dX8_upsFrom_130 rfl (by decide +kernel) ?_
      refine P_iast (q := 132) (j := i) (f' := flC (fun _ => nI 0) h (i + 1)) (σ' := (va_up (va_up σ 124 (pI .int 248 (flC (fun _ => (1000000 : Int32)) g (i + 1)))) 125 (pI .int 248 (flC (fun _ => nI 0) h (i + 1))))) dX8_upsFrom_131 rfl (by decide) (up_at _ _ _) (rfl) (by omega) (by decide) (flC_succ (fun _ => nI 0) h i) (up_up _ _ _ _) ?_
      refine P_iinc (q := 135) (L' := [_, _, _, _, _, _, _, _, _]) (v := nI (i + 1)) dX8_upsFrom_132 rfl (by decide) rfl (nI_1 i) rfl ?_
      refine P_goto (tgt := 107) dX8_upsFrom_135 (by decide) ?_
      exact ih (i + 1) (by omega)
set_option maxRecDepth 100000 in
set_option maxHeartbeats 4000000 in
theorem w_ucp {σ : Sto} {cl : Bool} {f last : Nat} {gt gn ht hn : Nat → Int32} (hM : MO σ) (h124 : σ 124 = pI .int 248 gt) (h125 : σ 125 = pI .int 248 ht) {k : Nat} {b6 b7 b8 : Option Value} {QQ : Option Value → Sto → Prop} (K : ∀ xx : Option Value, PW mX8_upsFrom 0 0 QQ 93 [some (.ref 114), some (.int (nI f)), some (.int (nI last)), some (.int (bI cl)), some (.int (nI (k + 1))), xx, b6, b7, b8] [] 132 (va_up (va_up σ 122 (pI .int 248 (flC gt gn 248))) 123 (pI .int 248 (flC ht hn 248))) 0 0) : ∀ n i, i + n = 248 → PW mX8_upsFrom 0 0 QQ 290 [some (.ref 114), some (.int (nI f)), some (.int (nI last)), some (.int (bI cl)), some (.int (nI k)), some (.int (nI i)), b6, b7, b8] [] 132 (va_up (va_up σ 122 (pI .int 248 (flC gt gn i))) 123 (pI .int 248 (flC ht hn i))) 0 0 := by
  obtain ⟨a1, a2, a3, a4, a5, a6, a7, h0⟩ := hM
  have uu := fun (k : Nat) (h1 : k ≠ 122) (h2 : k ≠ 123) c d => (up_ne (va_up σ 122 c) (k := 123) d h2).trans (up_ne σ (k := 122) c h1)
  intro n
  induction n with
  | zero =>
    intro i hi
    have e : i = 248 := by omega
    subst e
    refine P_iload (q := 292) dX8_upsFrom_290 rfl rfl ?_
    refine P_sipush (q := 295) (v := nI 248) dX8_upsFrom_292 rfl (by decide +kernel) ?_
    refine P_icmp_ge (q := 298) (tgt := 332) dX8_upsFrom_295 rfl (by decide) (fun c_295 => ?_) (fun c_295 => ?_)
    · rw [nI_leI (by omega) (by omega)] at c_295
      refine P_iinc (q := 335) (L' := [_, _, _, _, _, _, _, _, _]) (v := nI (k + 1)) dX8_upsFrom_332 rfl (by decide) rfl (nI_1 k) rfl ?_
      refine P_goto (tgt := 93) dX8_upsFrom_335 (by decide) ?_
      exact K _
    · exfalso; rw [nI_leI (by omega) (by omega)] at c_295; omega
  | succ n ih =>
    intro i hi
    refine P_iload (q := 292) dX8_upsFrom_290 rfl rfl ?_
    refine P_sipush (q := 295) (v := nI 248) dX8_upsFrom_292 rfl (by decide +kernel) ?_
    refine P_icmp_ge (q := 298) (tgt := 332) dX8_upsFrom_295 rfl (by decide) (fun c_295 => ?_) (fun c_295 => ?_)
    · exfalso; rw [nI_leI (by omega) (by omega)] at c_295; omega
    · rw [nI_leI (by omega) (by omega)] at c_295
      refine P_aload_n (q := 299) dX8_upsFrom_298 rfl rfl ?_
      refine P_get (q := 302) dX8_upsFrom_299 rfl fX8_31 (by decide) ((uu 114 (by omega) (by omega) _ _).trans h0) rfl ?_
      refine P_iload (q := 304) dX8_upsFrom_302 rfl rfl ?_
      refine P_aload_n (q := 305) dX8_upsFrom_304 rfl rfl ?_
      refine P_get (q := 308) dX8_upsFrom_305 rfl fX8_37 (by decide) ((uu 114 (by omega) (by omega) _ _).trans h0) rfl ?_
      refine P_iload (q := 310) dX8_upsFrom_308 rfl rfl ?_
      refine P_iald (q := 311) (j := i) dX8_upsFrom_310 rfl (by decide) ((uu 124 (by omega) (by omega) _ _).trans h124) (rfl) (by omega) (by decide) ?_
      refine P_iast (q := 312) (j := i) (f' := flC gt gn (i + 1)) (σ' := (va_up (va_up σ 122 (pI .int 248 (flC gt gn (i + 1)))) 123 (pI .int 248 (flC ht hn i)))) dX8_upsFrom_311 rfl (by decide) ((up_ne _ _ (by omega)).trans (up_at _ _ _)) (rfl) (by omega) (by decide) (flC_succ gt gn i) (by rw [up_swap _ _ _ (by omega), up_up]) ?_
      refine P_aload_n (q := 313) dX8_upsFrom_312 rfl rfl ?_
      refine P_get (q := 316) dX8_upsFrom_313 rfl fX8_34 (by decide) ((uu 114 (by omega) (by omega) _ _).trans h0) rfl ?_
      refine P_iload (q := 318) dX8_upsFrom_316 rfl rfl ?_
      refine P_aload_n (q := 319) dX8_upsFrom_318 rfl rfl ?_
      refine P_get (q := 322) dX8_upsFrom_319 rfl fX8_40 (by decide) ((uu 114 (by omega) (by omega) _ _).trans h0) rfl ?_
      refine P_iload (q := 324) dX8_upsFrom_322 rfl rfl ?_
      refine P_iald (q := 325) (j := i) dX8_upsFrom_324 rfl (by decide) ((uu 125 (by omega) (by omega) _ _).trans h125) (rfl) (by omega) (by decide) ?_
      refine P_iast (q := 326) (j := i) (f' := flC ht hn (i + 1)) (σ' := (va_up (va_up σ 122 (pI .int 248 (flC gt gn (i + 1)))) 123 (pI .int 248 (flC ht hn (i + 1))))) dX8_upsFrom_325 rfl (by decide) (up_at _ _ _) (rfl) (by omega) (by decide) (flC_succ ht hn i) (up_up _ _ _ _) ?_
      refine P_iinc (q := 329) (L' := [_, _, _, _, _, _, _, _, _]) (v := nI (i + 1)) dX8_upsFrom_326 rfl (by decide) rfl (nI_1 i) rfl ?_
      refine P_goto (tgt := 290) dX8_upsFrom_329 (by decide) ?_
      exact ih (i + 1) (by omega)
set_option maxRecDepth 100000 in
set_option maxHeartbeats 4000000 in
theorem w_uf0 {σ0 : Sto} {A : St} {cl : Bool} {P : Nat → Bool} {f last : Nat} (hM : MO σ0) (hX : XA σ0 A) {QQ : Option Value → Sto → Prop} (K : ∀ σ, same σ0 σ (fun i => 122 ≤ i ∧ i ≤ 125) → UR σ 122 123 248 (2 ^ A.R) (A.WU P (A.C - 1)) → (∃ g : Nat → Int32, σ 124 = pI .int 248 g) → (∃ g : Nat → Int32, σ 125 = pI .int 248 g) → ∀ x4 x5 x6 x7 x8 : Option Value, PW mX8_upsFrom 0 0 QQ 338 [some (.ref 114), some (.int (nI f)), some (.int (nI last)), some (.int (bI cl)), x4, x5, x6, x7, x8] [] 132 σ 0 0) : ∀ n c, c + 1 + n = A.C → ∀ σ, same σ0 σ (fun i => 122 ≤ i ∧ i ≤ 125) → UR σ 122 123 248 (2 ^ A.R) (A.WU P c) → (∃ g : Nat → Int32, σ 124 = pI .int 248 g) → (∃ g : Nat → Int32, σ 125 = pI .int 248 g) → ∀ x5 x6 x7 x8 : Option Value, PW mX8_upsFrom 0 0 QQ 93 [some (.ref 114), some (.int (nI f)), some (.int (nI last)), some (.int (bI cl)), some (.int (nI (c + 1))), x5, x6, x7, x8] [] 132 σ 0 0 := by
  have hA := hX.1
  have hC := hA.1
  have hR := hA.2.1
  have h8 := pow8 hR.2
  have hMs : ∀ σ, same σ0 σ (fun i => 122 ≤ i ∧ i ≤ 125) → MO σ := fun σ s => by
    obtain ⟨a1, a2, a3, a4, a5, a6, a7, h⟩ := hM
    exact ⟨a1, a2, a3, a4, a5, a6, a7, (s 114 (by omega)).trans h⟩
  have hXs : ∀ σ, same σ0 σ (fun i => 122 ≤ i ∧ i ≤ 125) → XA σ A := fun σ s => by
    obtain ⟨-, g, h, hR⟩ := hX
    exact ⟨hA, g, (s 115 (by omega)).trans h, hR⟩
  intro n
  induction n with
  | zero =>
    intro c hc σ hs hG h124 h125 x5 x6 x7 x8
    obtain ⟨a1, a2, a3, a4, a5, a6, a7, h0⟩ := hMs σ hs
    obtain ⟨-, g, h1, hRA⟩ := hXs σ hs
    refine P_iload (q := 95) dX8_upsFrom_93 rfl rfl ?_
    refine P_aload_n (q := 96) dX8_upsFrom_95 rfl rfl ?_
    refine P_get (q := 99) dX8_upsFrom_96 rfl fX8_7 (by decide) (h0) rfl ?_
    refine P_iconst (q := 100) (v := nI 0) dX8_upsFrom_99 rfl (by decide +kernel) ?_
    refine P_iald (q := 101) (j := 0) dX8_upsFrom_100 rfl (by decide) (h1) (rfl) (by omega) (by decide) ?_
    rw [hRA.1]
    refine P_icmp_ge (q := 104) (tgt := 338) dX8_upsFrom_101 rfl (by decide) (fun c_101 => ?_) (fun c_101 => ?_)
    · rw [nI_leI (by omega) (by omega)] at c_101
      have e : c = A.C - 1 := by omega
      subst e
      exact K σ hs hG h124 h125 _ _ _ _ _
    · exfalso; rw [nI_leI (by omega) (by omega)] at c_101; omega
  | succ n ih =>
    intro c hc σ hs hG h124 h125 x5 x6 x7 x8
    obtain ⟨gz, h124⟩ := h124
    obtain ⟨hz, h125⟩ := h125
    obtain ⟨a1, a2, a3, a4, a5, a6, a7, h0⟩ := hMs σ hs
    obtain ⟨-, g, h1, hRA⟩ := hXs σ hs
    refine P_iload (q := 95) dX8_upsFrom_93 rfl rfl ?_
    refine P_aload_n (q := 96) dX8_upsFrom_95 rfl rfl ?_
    refine P_get (q := 99) dX8_upsFrom_96 rfl fX8_7 (by decide) (h0) rfl ?_
    refine P_iconst (q := 100) (v := nI 0) dX8_upsFrom_99 rfl (by decide +kernel) ?_
    refine P_iald (q := 101) (j := 0) dX8_upsFrom_100 rfl (by decide) (h1) (rfl) (by omega) (by decide) ?_
    rw [hRA.1]
    refine P_icmp_ge (q := 104) (tgt := 338) dX8_upsFrom_101 rfl (by decide) (fun c_101 => ?_) (fun c_101 => ?_)
    · exfalso; rw [nI_leI (by omega) (by omega)] at c_101; omega
    · rw [nI_leI (by omega) (by omega)] at c_101
      refine P_iconst (q := 105) (v := nI 0) dX8_upsFrom_104 rfl (by decide +kernel) ?_
      refine P_istore (q := 107) (L' := [_, _, _, _, _, _, _, _, _]) dX8_upsFrom_105 rfl (by decide) rfl ?_
      have hzz := w_uz2 (cl := cl) (f := f) (last := last) (k4 := c + 1) (a6 := x6) (a7 := x7) (a8 := x8) (g := gz) (h := hz) (hMs σ hs) (QQ := QQ) (fun xx => ?_) 248 0 (by omega)
      · rw [flC_0, flC_0, up_self h124, up_self h125] at hzz
        exact hzz
      · have hs1 : same σ0 (va_up (va_up σ 124 (pI .int 248 (flC (fun _ => (1000000 : Int32)) gz 248))) 125 (pI .int 248 (flC (fun _ => nI 0) hz 248))) (fun i => 122 ≤ i ∧ i ≤ 125) := (hs.up (by omega)).up (by omega)
        have r124 : (va_up (va_up σ 124 (pI .int 248 (flC (fun _ => (1000000 : Int32)) gz 248))) 125 (pI .int 248 (flC (fun _ => nI 0) hz 248))) 124 = pI .int 248 (flC (fun _ => (1000000 : Int32)) gz 248) := (up_ne _ _ (by omega)).trans (up_at _ _ _)
        have r125 : (va_up (va_up σ 124 (pI .int 248 (flC (fun _ => (1000000 : Int32)) gz 248))) 125 (pI .int 248 (flC (fun _ => nI 0) hz 248))) 125 = pI .int 248 (flC (fun _ => nI 0) hz 248) := up_at _ _ _
        have hG1 : UR (va_up (va_up σ 124 (pI .int 248 (flC (fun _ => (1000000 : Int32)) gz 248))) 125 (pI .int 248 (flC (fun _ => nI 0) hz 248))) 122 123 248 (2 ^ A.R) (A.WU P c) := hG.to ((up_ne _ _ (by omega)).trans (up_ne _ _ (by omega))) ((up_ne _ _ (by omega)).trans (up_ne _ _ (by omega)))
        generalize (va_up (va_up σ 124 (pI .int 248 (flC (fun _ => (1000000 : Int32)) gz 248))) 125 (pI .int 248 (flC (fun _ => nI 0) hz 248))) = σ1 at hs1 r124 r125 hG1 ⊢
        refine P_iconst (q := 139) (v := nI 0) dX8_upsFrom_138 rfl (by decide +kernel) ?_
        refine P_istore (q := 141) (L' := [_, _, _, _, _, _, _, _, _]) dX8_upsFrom_139 rfl (by decide) rfl ?_
        refine w_uf2 (hMs σ1 hs1) (hXs σ1 hs1) (c := c) (P := P) (by omega) hG1 (fun σ2 t2 hG2 y5 y6 y7 y8 => ?_) (2 ^ A.R) 0 (by omega) σ1 same.rf (UR_0 r124 r125 (by omega) (fun t u e _ _ => HU_0 A P c t u e)) _ _ _
        have hs2 : same σ0 σ2 (fun i => 122 ≤ i ∧ i ≤ 125) := hs1.trans (t2.mono (fun i h => by omega))
        have hG2x := hG2.ex
        obtain ⟨gt, ht, f124, f125, hgt⟩ := hG2
        obtain ⟨gn, hn, f122, f123, -⟩ := id hG1
        have f122 := (t2 122 (by omega)).trans f122
        have f123 := (t2 123 (by omega)).trans f123
        refine P_iconst (q := 288) (v := nI 0) dX8_upsFrom_287 rfl (by decide +kernel) ?_
        refine P_istore (q := 290) (L' := [_, _, _, _, _, _, _, _, _]) dX8_upsFrom_288 rfl (by decide) rfl ?_
        have hcc := w_ucp (cl := cl) (f := f) (last := last) (k := c + 1) (b6 := y6) (b7 := y7) (b8 := y8) (gn := gn) (hn := hn) (hMs σ2 hs2) f124 f125 (QQ := QQ) (fun xx => ih (c + 1) (by omega) _ ((hs2.up (by omega)).up (by omega)) ⟨_, _, (up_ne _ _ (by omega)).trans (up_at _ _ _), up_at _ _ _, fun t u ht2 hu => ?_⟩ ⟨gt, ((up_ne _ _ (by omega)).trans (up_ne _ _ (by omega))).trans f124⟩ ⟨ht, ((up_ne _ _ (by omega)).trans (up_ne _ _ (by omega))).trans f125⟩ _ _ _ _) 248 0 (by omega)
        · rw [flC_0, flC_0, up_self f122, up_self f123] at hcc
          exact hcc
        · obtain ⟨L, M, b1, b2, b3⟩ := hgt t u ht2 hu
          exact ⟨L, M, (if_pos (by omega)).trans b1, (if_pos (by omega)).trans b2, b3⟩
def St.I1 (A : St) (f j s u : Nat) (e : Int) : Nat := if f ≤ s ∧ s < j ∧ u = pcN 3 s ∧ e = A.col false 0 s then 1 else 0
theorem MN_one {A : St} (hA : A.ok) {F : Int → Nat} {s : Nat} (h : ∀ e, F e = if e = A.col false 0 s then 1 else 0) : MN F (A.col false 0 s) 1 := by
  have := col_in hA false 0 s
  exact Or.inr ⟨by rw [h, if_pos rfl], by decide, by omega, fun e he => by rw [h, if_neg (by omega)]⟩
set_option maxRecDepth 100000 in
set_option maxHeartbeats 4000000 in
theorem w_uin {σ0 : Sto} {A : St} {cl : Bool} {f last : Nat} (hM : MO σ0) (hX : XA σ0 A) (hl : last < 2 ^ A.R) {QQ : Option Value → Sto → Prop} (K : ∀ σ, same σ0 σ (fun i => i = 122 ∨ i = 123) → UR σ 122 123 248 (2 ^ A.R) (A.I1 f (last + 1)) → ∀ x4 x5 x6 x7 x8 : Option Value, PW mX8_upsFrom 0 0 QQ 90 [some (.ref 114), some (.int (nI f)), some (.int (nI last)), some (.int (bI cl)), x4, x5, x6, x7, x8] [] 132 σ 0 0) : ∀ n s, s + n = last + 1 → f ≤ s → ∀ σ, same σ0 σ (fun i => i = 122 ∨ i = 123) → UR σ 122 123 248 (2 ^ A.R) (A.I1 f s) → ∀ x5 x6 x7 x8 : Option Value, PW mX8_upsFrom 0 0 QQ 37 [some (.ref 114), some (.int (nI f)), some (.int (nI last)), some (.int (bI cl)), some (.int (nI s)), x5, x6, x7, x8] [] 132 σ 0 0 := by
  have hA := hX.1
  have hC := hA.1
  have hR := hA.2.1
  have h8 := pow8 hR.2
  have hMs : ∀ σ, same σ0 σ (fun i => i = 122 ∨ i = 123) → MO σ := fun σ s => by
    obtain ⟨a1, a2, a3, a4, a5, a6, a7, h⟩ := hM
    exact ⟨a1, a2, a3, a4, a5, a6, a7, (s 114 (by omega)).trans h⟩
  have hXs : ∀ σ, same σ0 σ (fun i => i = 122 ∨ i = 123) → XA σ A := fun σ s => by
    obtain ⟨-, g, h, hR⟩ := hX
    exact ⟨hA, g, (s 115 (by omega)).trans h, hR⟩
  intro n
  induction n with
  | zero =>
    intro s hs hf σ hs' hG x5 x6 x7 x8
    refine P_iload (q := 39) dX8_upsFrom_37 rfl rfl ?_
    refine P_iload_n (q := 40) dX8_upsFrom_39 rfl rfl ?_
    refine P_icmp_gt (q := 43) (tgt := 90) dX8_upsFrom_40 rfl (by decide) (fun c_40 => ?_) (fun c_40 => ?_)
    · rw [nI_ltI (by omega) (by omega)] at c_40
      exact K σ hs' (hG.cg (fun t u e _ _ => by rw [show s = last + 1 by omega])) _ _ _ _ _
    · exfalso; rw [nI_ltI (by omega) (by omega)] at c_40; omega
  | succ n ih =>
    intro s hs hf σ hs' hG x5 x6 x7 x8
    obtain ⟨a1, a2, a3, a4, a5, a6, a7, h0⟩ := hMs σ hs'
    obtain ⟨g, k, q122, q123, hgk⟩ := id hG
    have hcl := m_colw (hMs σ hs') (hXs σ hs') false (c := 0) (k := s) (by omega) (by omega)
    have hci := col_in hA false 0 s
    have hp3 := pc3 hR.2 (show s < 2 ^ A.R by omega)
    have hpc := fun (τ : Sto) (n0 : Nat) => m_ups (n0 := n0) (σ := τ) (k := s) (show s < 8 by omega)
    generalize hpv : pcN 3 s = p at hp3 hpc
    refine P_iload (q := 39) dX8_upsFrom_37 rfl rfl ?_
    refine P_iload_n (q := 40) dX8_upsFrom_39 rfl rfl ?_
    refine P_icmp_gt (q := 43) (tgt := 90) dX8_upsFrom_40 rfl (by decide) (fun c_40 => ?_) (fun c_40 => ?_)
    · exfalso; rw [nI_ltI (by omega) (by omega)] at c_40; omega
    · rw [nI_ltI (by omega) (by omega)] at c_40
      refine P_aload_n (q := 44) dX8_upsFrom_43 rfl rfl ?_
      refine P_get (q := 47) dX8_upsFrom_44 rfl fX8_31 (by decide) (h0) rfl ?_
      refine P_bipush (q := 49) (v := nI 31) dX8_upsFrom_47 rfl (by decide +kernel) ?_
      refine P_iload (q := 51) dX8_upsFrom_49 rfl rfl ?_
      refine P_imul (q := 52) dX8_upsFrom_51 rfl ?_
      rw [pk_mul]
      refine P_iload (q := 54) dX8_upsFrom_52 rfl rfl ?_
      refine P_cs1 (q := 57) dX8_upsFrom_54 rfl kX8_129 (hpc _ _) rfl rfl ⟨by decide, by decide⟩ (Nat.le_of_ble_eq_true rfl) ⟨Nat.le_refl _, Nat.le_refl _⟩ ?_
      refine P_iadd (q := 58) dX8_upsFrom_57 rfl ?_
      rw [nI_add]
      refine P_aload_n (q := 59) dX8_upsFrom_58 rfl rfl ?_
      refine P_iconst (q := 60) (v := (bI false)) dX8_upsFrom_59 rfl (by decide +kernel) ?_
      refine P_iconst (q := 61) (v := nI 0) dX8_upsFrom_60 rfl (by decide +kernel) ?_
      refine P_iload (q := 63) dX8_upsFrom_61 rfl rfl ?_
      refine P_cv1 (q := 66) dX8_upsFrom_63 rfl kX8_95 (hcl) rfl rfl (by decide) (h0) rfl ⟨by decide, by decide⟩ (Nat.le_of_ble_eq_true rfl) ⟨Nat.le_refl _, Nat.le_refl _⟩ ?_
      refine P_iast (q := 67) (j := 31 * s + p) (f' := upd g (31 * s + p) (iI (A.col false 0 s))) dX8_upsFrom_66 rfl (by decide) (q122) (rfl) (by omega) (by decide) (rfl) (rfl) ?_
      refine P_aload_n (q := 68) dX8_upsFrom_67 rfl rfl ?_
      refine P_get (q := 71) dX8_upsFrom_68 rfl fX8_34 (by decide) ((up_ne _ _ (by omega)).trans h0) rfl ?_
      refine P_bipush (q := 73) (v := nI 31) dX8_upsFrom_71 rfl (by decide +kernel) ?_
      refine P_iload (q := 75) dX8_upsFrom_73 rfl rfl ?_
      refine P_imul (q := 76) dX8_upsFrom_75 rfl ?_
      rw [pk_mul]
      refine P_iload (q := 78) dX8_upsFrom_76 rfl rfl ?_
      refine P_cs1 (q := 81) dX8_upsFrom_78 rfl kX8_129 (hpc _ _) rfl rfl ⟨by decide, by decide⟩ (Nat.le_of_ble_eq_true rfl) ⟨Nat.le_refl _, Nat.le_refl _⟩ ?_
      refine P_iadd (q := 82) dX8_upsFrom_81 rfl ?_
      rw [nI_add]
      refine P_iconst (q := 83) (v := nI 1) dX8_upsFrom_82 rfl (by decide +kernel) ?_
      refine P_iast (q := 84) (j := 31 * s + p) (f' := upd k (31 * s + p) (nI 1)) dX8_upsFrom_83 rfl (by decide) ((up_ne _ _ (by omega)).trans q123) (rfl) (by omega) (by decide) (rfl) (rfl) ?_
      refine P_iinc (q := 87) (L' := [_, _, _, _, _, _, _, _, _]) (v := nI (s + 1)) dX8_upsFrom_84 rfl (by decide) rfl (nI_1 s) rfl ?_
      refine P_goto (tgt := 37) dX8_upsFrom_87 (by decide) ?_
      refine ih (s + 1) (by omega) (by omega) _ ((hs'.up (Or.inl rfl)).up (Or.inr rfl)) ⟨_, _, (up_ne _ _ (by omega)).trans (up_at _ _ _), up_at _ _ _, fun t u ht hu => ?_⟩ _ _ _ _
      by_cases e : t = s ∧ u = p
      · obtain ⟨rfl, rfl⟩ := e
        refine ⟨_, _, if_pos rfl, if_pos rfl, MN_one hA (fun x => ?_)⟩
        unfold St.I1
        by_cases h : x = A.col false 0 t
        · rw [if_pos h, if_pos ⟨hf, by omega, hpv.symm, h⟩]
        · rw [if_neg h, if_neg (fun q => h q.2.2.2)]
      · obtain ⟨L, M, b1, b2, b3⟩ := hgk t u ht hu
        refine ⟨L, M, (if_neg (by omega)).trans b1, (if_neg (by omega)).trans b2, MN_cg b3 (fun x => ?_)⟩
        unfold St.I1
        by_cases h : f ≤ t ∧ t < s ∧ u = pcN 3 t ∧ x = A.col false 0 t
        · rw [if_pos h, if_pos ⟨h.1, by omega, h.2.2⟩]
        · rw [if_neg h, if_neg]
          rintro ⟨e1, e2, e3, e4⟩
          by_cases e5 : t = s
          · subst e5; exact e ⟨rfl, e3.trans hpv⟩
          · exact h ⟨e1, by omega, e3, e4⟩
def U1 (σ : Sto) (F : Nat → Int → Nat) : Prop := ∃ g h : Nat → Int32, σ 126 = pI .int 31 g ∧ σ 127 = pI .int 31 h ∧ ∀ u, u < 31 → ∃ L M, g u = iI L ∧ h u = nI M ∧ MN (F u) L M
theorem U1.cg {σ : Sto} {F F' : Nat → Int → Nat} (h : U1 σ F) (e : ∀ u x, u < 31 → F' u x = F u x) : U1 σ F' := by
  obtain ⟨g, h, h1, h2, h3⟩ := h
  refine ⟨g, h, h1, h2, fun u hu => ?_⟩
  obtain ⟨L, M, a1, a2, a3⟩ := h3 u hu
  exact ⟨L, M, a1, a2, MN_cg a3 (fun x => e u x hu)⟩
theorem U1.to {σ τ : Sto} {F : Nat → Int → Nat} (h : U1 σ F) (e1 : τ 126 = σ 126) (e2 : τ 127 = σ 127) : U1 τ F := by
  obtain ⟨g, h, h1, h2, h3⟩ := h
  exact ⟨g, h, e1.trans h1, e2.trans h2, h3⟩
theorem U1_meets {σ : Sto} {u0 : Nat} {F F' : Nat → Int → Nat} {G : Int → Nat} {L E : Int} {M N : Nat} {g h g' h' : Nat → Int32} (hF : ∀ u, u < 31 → ∃ L M, g u = iI L ∧ h u = nI M ∧ MN (F u) L M) (hMN : MN (F u0) L M) (hN : N ≠ 0) (hG : G E = N) (hE : -500 ≤ E ∧ E ≤ 500) (hm : ∀ e, e < E → G e = 0) (h1 : σ 126 = pI .int 31 g') (h2 : σ 127 = pI .int 31 h') (h3 : g' u0 = iI (if E < L then E else L)) (h4 : h' u0 = nI ((if E < L then 0 else M) + (if E = (if E < L then E else L) then N else 0))) (h5 : ∀ i, i ≠ u0 → g' i = g i ∧ h' i = h i) (hF' : ∀ u x, F' u x = F u x + (if u = u0 then G x else 0)) : U1 σ F' := by
  refine ⟨g', h', h1, h2, fun u hu => ?_⟩
  by_cases e : u = u0
  · subst e
    exact ⟨_, _, h3, h4, MN_cg (MN_meets hMN hN hG hE hm) (fun x => by rw [hF', if_pos rfl])⟩
  · obtain ⟨L, M, a1, a2, a3⟩ := hF u hu
    have e2 := h5 u e
    exact ⟨L, M, e2.1.trans a1, e2.2.trans a2, MN_cg a3 (fun x => by rw [hF', if_neg e, Nat.add_zero])⟩
set_option maxRecDepth 100000 in
set_option maxHeartbeats 4000000 in
theorem w_uf6 {σ0 : Sto} {A : St} {P : Nat → Bool} {f last : Nat} (hM : MO σ0) (hX : XA σ0 A) (hN0 : UR σ0 122 123 248 (2 ^ A.R) (A.WU P (A.C - 1))) {s : Nat} (hs : s < 2 ^ A.R) {G : Nat → Int → Nat} {QQ : Option Value → Sto → Prop} (K : ∀ σ, same σ0 σ (fun i => i = 126 ∨ i = 127) → U1 σ (fun u e => G u e + A.WU P (A.C - 1) s u (e - A.sf false s f)) → ∀ x5 x6 x7 x8 : Option Value, PW mX8_upsFrom 0 0 QQ 341 [some (.ref 114), some (.int (nI f)), some (.int (nI last)), some (.int (bI A.lp)), some (.int (nI (s + 1))), x5, x6, x7, x8] [] 132 σ 0 0) : ∀ n v, v + n = 31 → ∀ σ, same σ0 σ (fun i => i = 126 ∨ i = 127) → U1 σ (fun u e => G u e + (if u < v then A.WU P (A.C - 1) s u (e - A.sf false s f) else 0)) → ∀ x7 x8 : Option Value, PW mX8_upsFrom 0 0 QQ 371 [some (.ref 114), some (.int (nI f)), some (.int (nI last)), some (.int (bI A.lp)), some (.int (nI s)), some (.int (iI (A.sf false s f))), some (.int (nI v)), x7, x8] [] 132 σ 0 0 := by
  have hA := hX.1
  have hC := hA.1
  have hR := hA.2.1
  have h8 := pow8 hR.2
  have hMs : ∀ σ, same σ0 σ (fun i => i = 126 ∨ i = 127) → MO σ := fun σ s => by
    obtain ⟨a1, a2, a3, a4, a5, a6, a7, h⟩ := hM
    exact ⟨a1, a2, a3, a4, a5, a6, a7, (s 114 (by omega)).trans h⟩
  have hXs : ∀ σ, same σ0 σ (fun i => i = 126 ∨ i = 127) → XA σ A := fun σ s => by
    obtain ⟨-, g, h, hR⟩ := hX
    exact ⟨hA, g, (s 115 (by omega)).trans h, hR⟩
  have hsf : -6 ≤ A.sf false s f ∧ A.sf false s f ≤ 6 := by
    unfold St.sf
    split
    · exact lnk_in hA false s f
    · omega
  generalize A.sf false s f = m at hsf K ⊢
  obtain ⟨g0, k0, q122, q123, hg0⟩ := hN0
  intro n
  induction n with
  | zero =>
    intro v hv σ hs' hG x7 x8
    refine P_iload (q := 373) dX8_upsFrom_371 rfl rfl ?_
    refine P_bipush (q := 375) (v := nI 31) dX8_upsFrom_373 rfl (by decide +kernel) ?_
    refine P_icmp_ge (q := 378) (tgt := 442) dX8_upsFrom_375 rfl (by decide) (fun c_375 => ?_) (fun c_375 => ?_)
    · rw [nI_leI (by omega) (by omega)] at c_375
      refine P_iinc (q := 445) (L' := [_, _, _, _, _, _, _, _, _]) (v := nI (s + 1)) dX8_upsFrom_442 rfl (by decide) rfl (nI_1 s) rfl ?_
      refine P_goto (tgt := 341) dX8_upsFrom_445 (by decide) ?_
      exact K σ hs' (hG.cg (fun u x hu => by rw [if_pos (by omega)])) _ _ _ _
    · exfalso; rw [nI_leI (by omega) (by omega)] at c_375; omega
  | succ n ih =>
    intro v hv σ hs' hG x7 x8
    obtain ⟨a1, a2, a3, a4, a5, a6, a7, h0⟩ := hMs σ hs'
    have e122 := (hs' 122 (by omega)).trans q122
    have e123 := (hs' 123 (by omega)).trans q123
    obtain ⟨L, M, hgL, hkM, hMN⟩ := hg0 s v hs (by omega)
    have hM30 : M ≤ 2 ^ 30 := by
      rcases hMN with ⟨e, -, -⟩ | ⟨e, -, -, -⟩
      · omega
      · rw [e]; exact WU_le hA P (by omega) hs L
    have hnx : ∀ u x, G u x + (if u < v + 1 then A.WU P (A.C - 1) s u (x - m) else 0) = G u x + (if u < v then A.WU P (A.C - 1) s u (x - m) else 0) + (if u = v then A.WU P (A.C - 1) s v (x - m) else 0) := fun u x => by
      by_cases h1 : u = v
      · subst h1; rw [if_pos (by omega), if_neg (by omega), if_pos rfl, Nat.add_zero]
      · rw [if_neg h1]
        by_cases h2 : u < v
        · rw [if_pos h2, if_pos (by omega)]; rfl
        · rw [if_neg h2, if_neg (by omega)]
    refine P_iload (q := 373) dX8_upsFrom_371 rfl rfl ?_
    refine P_bipush (q := 375) (v := nI 31) dX8_upsFrom_373 rfl (by decide +kernel) ?_
    refine P_icmp_ge (q := 378) (tgt := 442) dX8_upsFrom_375 rfl (by decide) (fun c_375 => ?_) (fun c_375 => ?_)
    · exfalso; rw [nI_leI (by omega) (by omega)] at c_375; omega
    · rw [nI_leI (by omega) (by omega)] at c_375
      refine P_aload_n (q := 379) dX8_upsFrom_378 rfl rfl ?_
      refine P_get (q := 382) dX8_upsFrom_379 rfl fX8_34 (by decide) (h0) rfl ?_
      refine P_bipush (q := 384) (v := nI 31) dX8_upsFrom_382 rfl (by decide +kernel) ?_
      refine P_iload (q := 386) dX8_upsFrom_384 rfl rfl ?_
      refine P_imul (q := 387) dX8_upsFrom_386 rfl ?_
      refine P_iload (q := 389) dX8_upsFrom_387 rfl rfl ?_
      refine P_iadd (q := 390) dX8_upsFrom_389 rfl ?_
      refine P_iald (q := 391) (j := 31 * s + v) dX8_upsFrom_390 rfl (by decide) (e123) (by rw [pk_mul, nI_add]) (by omega) (by decide) ?_
      rw [hkM]
      refine P_if_le (q := 394) (tgt := 436) dX8_upsFrom_391 rfl (by decide) (fun c_391 => ?_) (fun c_391 => ?_)
      · rw [show ((0 : Int32)) = nI 0 from rfl, nI_leI (by omega) (by decide)] at c_391
        refine P_iinc (q := 439) (L' := [_, _, _, _, _, _, _, _, _]) (v := nI (v + 1)) dX8_upsFrom_436 rfl (by decide) rfl (nI_1 v) rfl ?_
        refine P_goto (tgt := 371) dX8_upsFrom_439 (by decide) ?_
        refine ih (v + 1) (by omega) σ hs' (hG.cg (fun u x _ => ?_)) _ _
        rw [hnx]
        rcases hMN with ⟨-, -, e⟩ | ⟨-, e, -, -⟩
        · rw [e, show (if u = v then 0 else 0) = 0 by split <;> rfl]; rfl
        · omega
      · rw [show ((0 : Int32)) = nI 0 from rfl, nI_leI (by omega) (by decide)] at c_391
        have hne : M ≠ 0 := by omega
        obtain ⟨hML, -, hLb, hLm⟩ : M = A.WU P (A.C - 1) s v L ∧ M ≠ 0 ∧ (-500 ≤ L ∧ L ≤ 500) ∧ ∀ e, e < L → A.WU P (A.C - 1) s v e = 0 := by
          rcases hMN with ⟨e, -, -⟩ | e
          · exact absurd e hne
          · exact e
        have hLb2 := WU_in hA P (c := A.C - 1) (t := s) (u := v) (by omega) hs (e := L) (by omega)
        obtain ⟨g, k, q126, q127, hgk⟩ := id hG
        obtain ⟨L2, M2, hgL2, hkM2, hMN2⟩ := hgk v (by omega)
        have hL2 := MN_in hMN2
        have hmt := m_meets (σ := σ) (a := 126) (b := 127) (n := 31) (j := v) (M := M2) (N := M) (L := L2) (E := L + m) (by decide) (by decide) (by decide) (by decide) (by omega) q126 q127 hgL2 hkM2 (by omega) (by omega) (by omega) (by omega)
        refine P_aload_n (q := 395) dX8_upsFrom_394 rfl rfl ?_
        refine P_get (q := 398) dX8_upsFrom_395 rfl fX8_43 (by decide) (h0) rfl ?_
        refine P_aload_n (q := 399) dX8_upsFrom_398 rfl rfl ?_
        refine P_get (q := 402) dX8_upsFrom_399 rfl fX8_46 (by decide) (h0) rfl ?_
        refine P_iload (q := 404) dX8_upsFrom_402 rfl rfl ?_
        refine P_aload_n (q := 405) dX8_upsFrom_404 rfl rfl ?_
        refine P_get (q := 408) dX8_upsFrom_405 rfl fX8_31 (by decide) (h0) rfl ?_
        refine P_bipush (q := 410) (v := nI 31) dX8_upsFrom_408 rfl (by decide +kernel) ?_
        refine P_iload (q := 412) dX8_upsFrom_410 rfl rfl ?_
        refine P_imul (q := 413) dX8_upsFrom_412 rfl ?_
        refine P_iload (q := 415) dX8_upsFrom_413 rfl rfl ?_
        refine P_iadd (q := 416) dX8_upsFrom_415 rfl ?_
        refine P_iald (q := 417) (j := 31 * s + v) dX8_upsFrom_416 rfl (by decide) (e122) (by rw [pk_mul, nI_add]) (by omega) (by decide) ?_
        rw [hgL]
        refine P_iload (q := 419) dX8_upsFrom_417 rfl rfl ?_
        refine P_iadd (q := 420) dX8_upsFrom_419 rfl ?_
        rw [iI_add]
        refine P_aload_n (q := 421) dX8_upsFrom_420 rfl rfl ?_
        refine P_get (q := 424) dX8_upsFrom_421 rfl fX8_34 (by decide) (h0) rfl ?_
        refine P_bipush (q := 426) (v := nI 31) dX8_upsFrom_424 rfl (by decide +kernel) ?_
        refine P_iload (q := 428) dX8_upsFrom_426 rfl rfl ?_
        refine P_imul (q := 429) dX8_upsFrom_428 rfl ?_
        refine P_iload (q := 431) dX8_upsFrom_429 rfl rfl ?_
        refine P_iadd (q := 432) dX8_upsFrom_431 rfl ?_
        refine P_iald (q := 433) (j := 31 * s + v) dX8_upsFrom_432 rfl (by decide) (e123) (by rw [pk_mul, nI_add]) (by omega) (by decide) ?_
        rw [hkM]
        refine P_calls (q := 436) dX8_upsFrom_433 rfl (hmt) kX8_132 rfl rfl ⟨by decide, by decide⟩ (Nat.le_of_ble_eq_true rfl) ⟨Nat.le_refl _, Nat.le_refl _⟩ ?_
        rintro vv σ2 ⟨rfl, t2, g', k', r1, r2, r3, r4, r5⟩
        refine P_iinc (q := 439) (L' := [_, _, _, _, _, _, _, _, _]) (v := nI (v + 1)) dX8_upsFrom_436 rfl (by decide) rfl (nI_1 v) rfl ?_
        refine P_goto (tgt := 371) dX8_upsFrom_439 (by decide) ?_
        exact ih (v + 1) (by omega) σ2 (hs'.trans t2) (U1_meets (u0 := v) (G := fun e => A.WU P (A.C - 1) s v (e - m)) hgk hMN2 hne (by show A.WU P (A.C - 1) s v (L + m - m) = M; rw [Int.add_sub_cancel, hML]) (by omega) (fun e he => hLm _ (by omega)) r1 r2 r3 r4 r5 (fun u x => hnx u x)) _ _
set_option maxRecDepth 100000 in
set_option maxHeartbeats 4000000 in
theorem w_uf5 {σ0 : Sto} {A : St} {P : Nat → Bool} {f last : Nat} (hM : MO σ0) (hX : XA σ0 A) (hN0 : UR σ0 122 123 248 (2 ^ A.R) (A.WU P (A.C - 1))) (hf : f < 2 ^ A.R) {G : Nat → Int → Nat} {QQ : Option Value → Sto → Prop} (K : ∀ σ, same σ0 σ (fun i => i = 126 ∨ i = 127) → U1 σ (fun u e => G u e + A.FU P f (2 ^ A.R) u e) → ∀ x4 x5 x6 x7 x8 : Option Value, PW mX8_upsFrom 0 0 QQ 448 [some (.ref 114), some (.int (nI f)), some (.int (nI last)), some (.int (bI A.lp)), x4, x5, x6, x7, x8] [] 132 σ 0 0) : ∀ n s, s + n = 2 ^ A.R → ∀ σ, same σ0 σ (fun i => i = 126 ∨ i = 127) → U1 σ (fun u e => G u e + A.FU P f s u e) → ∀ x5 x6 x7 x8 : Option Value, PW mX8_upsFrom 0 0 QQ 341 [some (.ref 114), some (.int (nI f)), some (.int (nI last)), some (.int (bI A.lp)), some (.int (nI s)), x5, x6, x7, x8] [] 132 σ 0 0 := by
  have hA := hX.1
  have hC := hA.1
  have hR := hA.2.1
  have h8 := pow8 hR.2
  have hMs : ∀ σ, same σ0 σ (fun i => i = 126 ∨ i = 127) → MO σ := fun σ s => by
    obtain ⟨a1, a2, a3, a4, a5, a6, a7, h⟩ := hM
    exact ⟨a1, a2, a3, a4, a5, a6, a7, (s 114 (by omega)).trans h⟩
  have hXs : ∀ σ, same σ0 σ (fun i => i = 126 ∨ i = 127) → XA σ A := fun σ s => by
    obtain ⟨-, g, h, hR⟩ := hX
    exact ⟨hA, g, (s 115 (by omega)).trans h, hR⟩
  intro n
  induction n with
  | zero =>
    intro s hs σ hs' hG x5 x6 x7 x8
    obtain ⟨a1, a2, a3, a4, a5, a6, a7, h0⟩ := hMs σ hs'
    have hst := m_states (hMs σ hs') (hXs σ hs')
    refine P_iload (q := 343) dX8_upsFrom_341 rfl rfl ?_
    refine P_aload_n (q := 344) dX8_upsFrom_343 rfl rfl ?_
    refine P_cv1 (q := 347) dX8_upsFrom_344 rfl kX8_112 (hst) rfl rfl (by decide) (h0) rfl ⟨by decide, by decide⟩ (Nat.le_of_ble_eq_true rfl) ⟨Nat.le_refl _, Nat.le_refl _⟩ ?_
    refine P_icmp_ge (q := 350) (tgt := 448) dX8_upsFrom_347 rfl (by decide) (fun c_347 => ?_) (fun c_347 => ?_)
    · rw [nI_leI (by omega) (by omega)] at c_347
      exact K σ hs' (hG.cg (fun u x _ => by rw [show s = 2 ^ A.R by omega])) _ _ _ _ _
    · exfalso; rw [nI_leI (by omega) (by omega)] at c_347; omega
  | succ n ih =>
    intro s hs σ hs' hG x5 x6 x7 x8
    obtain ⟨a1, a2, a3, a4, a5, a6, a7, h0⟩ := hMs σ hs'
    have hst := m_states (hMs σ hs') (hXs σ hs')
    have hlk := m_lnkw (hMs σ hs') (hXs σ hs') false (k := s) (t := f) (by omega) (by omega)
    have go : ∀ x, x = iI (A.sf false s f) → ∀ y5 y6 : Option Value, PW mX8_upsFrom 0 0 QQ 366 [some (.ref 114), some (.int (nI f)), some (.int (nI last)), some (.int (bI A.lp)), some (.int (nI s)), y5, y6, x7, x8] [.int x] 132 σ 0 0 := fun x hx y5 y6 => by
      subst hx
      refine P_istore (q := 368) (L' := [_, _, _, _, _, _, _, _, _]) dX8_upsFrom_366 rfl (by decide) rfl ?_
      refine P_iconst (q := 369) (v := nI 0) dX8_upsFrom_368 rfl (by decide +kernel) ?_
      refine P_istore (q := 371) (L' := [_, _, _, _, _, _, _, _, _]) dX8_upsFrom_369 rfl (by decide) rfl ?_
      refine w_uf6 hM hX hN0 (show s < 2 ^ A.R by omega) (G := fun u e => G u e + A.FU P f s u e) (fun σ2 t2 hG2 z5 z6 z7 z8 => ih (s + 1) (by omega) σ2 t2 (hG2.cg (fun u x _ => ?_)) z5 z6 z7 z8) 31 0 (by omega) σ hs' (hG.cg (fun u x _ => ?_)) _ _
      · show G u x + (A.FU P f s u x + _) = _
        rw [← Nat.add_assoc]
      · rw [if_neg (by omega)]; rfl
    refine P_iload (q := 343) dX8_upsFrom_341 rfl rfl ?_
    refine P_aload_n (q := 344) dX8_upsFrom_343 rfl rfl ?_
    refine P_cv1 (q := 347) dX8_upsFrom_344 rfl kX8_112 (hst) rfl rfl (by decide) (h0) rfl ⟨by decide, by decide⟩ (Nat.le_of_ble_eq_true rfl) ⟨Nat.le_refl _, Nat.le_refl _⟩ ?_
    refine P_icmp_ge (q := 350) (tgt := 448) dX8_upsFrom_347 rfl (by decide) (fun c_347 => ?_) (fun c_347 => ?_)
    · exfalso; rw [nI_leI (by omega) (by omega)] at c_347; omega
    · rw [nI_leI (by omega) (by omega)] at c_347
      refine P_iload_n (q := 351) dX8_upsFrom_350 rfl rfl ?_
      refine P_if_eq (q := 354) (tgt := 365) dX8_upsFrom_351 rfl (by decide) (fun c_351 => ?_) (fun c_351 => ?_)
      · rw [bI_0] at c_351
        refine P_iconst (q := 366) (v := nI 0) dX8_upsFrom_365 rfl (by decide +kernel) ?_
        first
          | exact go _ (by unfold St.sf; rw [if_pos c_351]) _ _
          | exact go _ (by unfold St.sf; rw [c_351]; rfl) _ _
      · rw [bI_n] at c_351
        refine P_aload_n (q := 355) dX8_upsFrom_354 rfl rfl ?_
        refine P_iconst (q := 356) (v := (bI false)) dX8_upsFrom_355 rfl (by decide +kernel) ?_
        refine P_iload (q := 358) dX8_upsFrom_356 rfl rfl ?_
        refine P_iload_n (q := 359) dX8_upsFrom_358 rfl rfl ?_
        refine P_cv1 (q := 362) dX8_upsFrom_359 rfl kX8_99 (hlk) rfl rfl (by decide) (h0) rfl ⟨by decide, by decide⟩ (Nat.le_of_ble_eq_true rfl) ⟨Nat.le_refl _, Nat.le_refl _⟩ ?_
        refine P_goto (tgt := 366) dX8_upsFrom_362 (by decide) ?_
        first
          | exact go _ (by unfold St.sf; rw [if_pos c_351]) _ _
          | exact go _ (by unfold St.sf; rw [c_351]; rfl) _ _
