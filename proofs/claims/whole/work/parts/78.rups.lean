/-! THE REFERENCE: upsFrom, one column more -/
theorem WU_step (A : St) (P : Nat → Bool) {c s t v : Nat} (hs : s < 2 ^ A.R) (e : Int) : A.WU P c s v e ≤ A.WU P (c + 1) t (v + pcN 3 t) (e + A.mo false c s t) := by
  have h := sumN_term (f := fun s' => if pcN 3 t ≤ v + pcN 3 t then A.WU P c s' (v + pcN 3 t - pcN 3 t) (e + A.mo false c s t - A.mo false c s' t) else 0) hs
  have h : (if pcN 3 t ≤ v + pcN 3 t then A.WU P c s (v + pcN 3 t - pcN 3 t) (e + A.mo false c s t - A.mo false c s t) else 0) ≤ A.WU P (c + 1) t (v + pcN 3 t) (e + A.mo false c s t) := h
  rw [if_pos (Nat.le_add_left _ _), Nat.add_sub_cancel, Int.add_sub_cancel] at h
  exact h
theorem WU_in {A : St} (hA : A.ok) (P : Nat → Bool) {c t u : Nat} (hc : c < A.C) (ht : t < 2 ^ A.R) {e : Int} (h : A.WU P c t u e ≠ 0) : -190 ≤ e ∧ e ≤ 190 := by
  have := WU_WE A P c t u e
  exact WE_in hA false P hc ht (by omega)
theorem WU_le {A : St} (hA : A.ok) (P : Nat → Bool) {c t u : Nat} (hc : c < A.C) (ht : t < 2 ^ A.R) (e : Int) : A.WU P c t u e ≤ 2 ^ 30 := Nat.le_trans (WU_WE A P c t u e) (WE_le hA false P hc ht e)
theorem pc3 {R t : Nat} (hR : R ≤ 3) (ht : t < 2 ^ R) : pcN 3 t ≤ 3 := Nat.le_trans (pc_R R (by omega) t ht) hR
set_option maxRecDepth 100000 in
set_option maxHeartbeats 4000000 in
theorem w_uf4 {σ0 : Sto} {A : St} {cl : Bool} {P : Nat → Bool} {f last c : Nat} (hM : MO σ0) (hX : XA σ0 A) (hc : c + 1 < A.C) (hN0 : UR σ0 122 123 248 (2 ^ A.R) (A.WU P c)) {s t : Nat} (hs : s < 2 ^ A.R) (ht : t < 2 ^ A.R) {QQ : Option Value → Sto → Prop} (K : ∀ σ, same σ0 σ (fun i => i = 124 ∨ i = 125) → UR σ 124 125 248 (2 ^ A.R) (A.HU P c s (t + 1) 0) → ∀ x7 x8 : Option Value, PW mX8_upsFrom 0 0 QQ 153 [some (.ref 114), some (.int (nI f)), some (.int (nI last)), some (.int (bI cl)), some (.int (nI (c + 1))), some (.int (nI s)), some (.int (nI (t + 1))), x7, x8] [] 132 σ 0 0) : ∀ n v, v + n = 32 → ∀ σ, same σ0 σ (fun i => i = 124 ∨ i = 125) → UR σ 124 125 248 (2 ^ A.R) (A.HU P c s t v) → PW mX8_upsFrom 0 0 QQ 186 [some (.ref 114), some (.int (nI f)), some (.int (nI last)), some (.int (bI cl)), some (.int (nI (c + 1))), some (.int (nI s)), some (.int (nI t)), some (.int (iI (A.mo false c s t))), some (.int (nI v))] [] 132 σ 0 0 := by
  have hA := hX.1
  have hC := hA.1
  have hR := hA.2.1
  have h8 := pow8 hR.2
  have hMs : ∀ σ, same σ0 σ (fun i => i = 124 ∨ i = 125) → MO σ := fun σ s => by
    obtain ⟨a1, a2, a3, a4, a5, a6, a7, h⟩ := hM
    exact ⟨a1, a2, a3, a4, a5, a6, a7, (s 114 (by omega)).trans h⟩
  have hXs : ∀ σ, same σ0 σ (fun i => i = 124 ∨ i = 125) → XA σ A := fun σ s => by
    obtain ⟨-, g, h, hR⟩ := hX
    exact ⟨hA, g, (s 115 (by omega)).trans h, hR⟩
  have hb1 := lnk_in hA false s t
  have hb2 := col_in hA false (c + 1) t
  have hmo : (A.mo false c s t) = A.lnk false s t + A.col false (c + 1) t := rfl
  have hp3 := pc3 hR.2 ht
  obtain ⟨g0, k0, q122, q123, hg0⟩ := hN0
  have hHs := fun t' v u e => HU_s A P c s t v t' u e
  have hWs := fun v e => WU_step A P (c := c) (t := t) (v := v) hs e
  have hWin := fun v e => WU_in hA P (c := c + 1) (t := t) (u := v + pcN 3 t) hc ht (e := e)
  generalize hmv : (A.mo false c s t) = m at hmo hHs hWs ⊢
  have hpc := fun (τ : Sto) (n0 : Nat) => m_ups (n0 := n0) (σ := τ) (k := t) (show t < 8 by omega)
  generalize hpv : pcN 3 t = p at hp3 hHs hWs hWin hpc
  have hend : ∀ v, 31 ≤ v + p → ∀ σ, same σ0 σ (fun i => i = 124 ∨ i = 125) → UR σ 124 125 248 (2 ^ A.R) (A.HU P c s t v) → UR σ 124 125 248 (2 ^ A.R) (A.HU P c s (t + 1) 0) := fun v hv σ _ hG => hG.cg (fun t' u e _ hu => HU_t A P c s t v t' u e (by rw [hpv]; exact hv) hu)
  intro n
  induction n with
  | zero =>
    intro v hv σ hs' hG
    refine P_iload (q := 188) dX8_upsFrom_186 rfl rfl ?_
    refine P_iload (q := 190) dX8_upsFrom_188 rfl rfl ?_
    refine P_cs1 (q := 193) dX8_upsFrom_190 rfl kX8_129 (hpc _ _) rfl rfl ⟨by decide, by decide⟩ (Nat.le_of_ble_eq_true rfl) ⟨Nat.le_refl _, Nat.le_refl _⟩ ?_
    refine P_iadd (q := 194) dX8_upsFrom_193 rfl ?_
    rw [nI_add]
    refine P_bipush (q := 196) (v := nI 31) dX8_upsFrom_194 rfl (by decide +kernel) ?_
    refine P_icmp_ge (q := 199) (tgt := 275) dX8_upsFrom_196 rfl (by decide) (fun c_196 => ?_) (fun c_196 => ?_)
    · rw [nI_leI (by omega) (by omega)] at c_196
      refine P_iinc (q := 278) (L' := [_, _, _, _, _, _, _, _, _]) (v := nI (t + 1)) dX8_upsFrom_275 rfl (by decide) rfl (nI_1 t) rfl ?_
      refine P_goto (tgt := 153) dX8_upsFrom_278 (by decide) ?_
      exact K σ hs' (hend v (by omega) σ hs' hG) _ _
    · exfalso; rw [nI_leI (by omega) (by omega)] at c_196; omega
  | succ n ih =>
    intro v hv σ hs' hG
    obtain ⟨a1, a2, a3, a4, a5, a6, a7, h0⟩ := hMs σ hs'
    have e122 := (hs' 122 (by omega)).trans q122
    have e123 := (hs' 123 (by omega)).trans q123
    refine P_iload (q := 188) dX8_upsFrom_186 rfl rfl ?_
    refine P_iload (q := 190) dX8_upsFrom_188 rfl rfl ?_
    refine P_cs1 (q := 193) dX8_upsFrom_190 rfl kX8_129 (hpc _ _) rfl rfl ⟨by decide, by decide⟩ (Nat.le_of_ble_eq_true rfl) ⟨Nat.le_refl _, Nat.le_refl _⟩ ?_
    refine P_iadd (q := 194) dX8_upsFrom_193 rfl ?_
    rw [nI_add]
    refine P_bipush (q := 196) (v := nI 31) dX8_upsFrom_194 rfl (by decide +kernel) ?_
    refine P_icmp_ge (q := 199) (tgt := 275) dX8_upsFrom_196 rfl (by decide) (fun c_196 => ?_) (fun c_196 => ?_)
    · rw [nI_leI (by omega) (by omega)] at c_196
      refine P_iinc (q := 278) (L' := [_, _, _, _, _, _, _, _, _]) (v := nI (t + 1)) dX8_upsFrom_275 rfl (by decide) rfl (nI_1 t) rfl ?_
      refine P_goto (tgt := 153) dX8_upsFrom_278 (by decide) ?_
      exact K σ hs' (hend v c_196 σ hs' hG) _ _
    · rw [nI_leI (by omega) (by omega)] at c_196
      obtain ⟨L, M, hgL, hkM, hMN⟩ := hg0 s v hs (by omega)
      have hM30 : M ≤ 2 ^ 30 := by
        rcases hMN with ⟨e, -, -⟩ | ⟨e, -, -, -⟩
        · omega
        · rw [e]; exact WU_le hA P (by omega) hs L
      refine P_aload_n (q := 200) dX8_upsFrom_199 rfl rfl ?_
      refine P_get (q := 203) dX8_upsFrom_200 rfl fX8_34 (by decide) (h0) rfl ?_
      refine P_bipush (q := 205) (v := nI 31) dX8_upsFrom_203 rfl (by decide +kernel) ?_
      refine P_iload (q := 207) dX8_upsFrom_205 rfl rfl ?_
      refine P_imul (q := 208) dX8_upsFrom_207 rfl ?_
      refine P_iload (q := 210) dX8_upsFrom_208 rfl rfl ?_
      refine P_iadd (q := 211) dX8_upsFrom_210 rfl ?_
      refine P_iald (q := 212) (j := 31 * s + v) dX8_upsFrom_211 rfl (by decide) (e123) (by rw [pk_mul, nI_add]) (by omega) (by decide) ?_
      rw [hkM]
      refine P_if_le (q := 215) (tgt := 269) dX8_upsFrom_212 rfl (by decide) (fun c_212 => ?_) (fun c_212 => ?_)
      · rw [show ((0 : Int32)) = nI 0 from rfl, nI_leI (by omega) (by decide)] at c_212
        refine P_iinc (q := 272) (L' := [_, _, _, _, _, _, _, _, _]) (v := nI (v + 1)) dX8_upsFrom_269 rfl (by decide) rfl (nI_1 v) rfl ?_
        refine P_goto (tgt := 186) dX8_upsFrom_272 (by decide) ?_
        refine ih (v + 1) (by omega) σ hs' (hG.cg (fun t' u x _ _ => ?_))
        rw [hHs]
        rcases hMN with ⟨-, -, e⟩ | ⟨-, e, -, -⟩
        · rw [e]; split <;> rfl
        · omega
      · rw [show ((0 : Int32)) = nI 0 from rfl, nI_leI (by omega) (by decide)] at c_212
        have hne : M ≠ 0 := by omega
        obtain ⟨hML, -, hLb, hLm⟩ : M = A.WU P c s v L ∧ M ≠ 0 ∧ (-500 ≤ L ∧ L ≤ 500) ∧ ∀ e, e < L → A.WU P c s v e = 0 := by
          rcases hMN with ⟨e, -, -⟩ | e
          · exact absurd e hne
          · exact e
        have hEb := hWin v (L + m) (by have := hWs v L; omega)
        obtain ⟨g, k, q124, q125, hgk⟩ := id hG
        obtain ⟨L2, M2, hgL2, hkM2, hMN2⟩ := hgk t (v + p) ht (by omega)
        have hL2 := MN_in hMN2
        have hmt := m_meets (σ := σ) (a := 124) (b := 125) (n := 248) (j := 31 * t + (v + p)) (M := M2) (N := M) (L := L2) (E := L + m) (by decide) (by decide) (by decide) (by decide) (by omega) q124 q125 hgL2 hkM2 (by omega) (by omega) (by omega) (by omega)
        refine P_aload_n (q := 216) dX8_upsFrom_215 rfl rfl ?_
        refine P_get (q := 219) dX8_upsFrom_216 rfl fX8_37 (by decide) (h0) rfl ?_
        refine P_aload_n (q := 220) dX8_upsFrom_219 rfl rfl ?_
        refine P_get (q := 223) dX8_upsFrom_220 rfl fX8_40 (by decide) (h0) rfl ?_
        refine P_bipush (q := 225) (v := nI 31) dX8_upsFrom_223 rfl (by decide +kernel) ?_
        refine P_iload (q := 227) dX8_upsFrom_225 rfl rfl ?_
        refine P_imul (q := 228) dX8_upsFrom_227 rfl ?_
        rw [pk_mul]
        refine P_iload (q := 230) dX8_upsFrom_228 rfl rfl ?_
        refine P_iadd (q := 231) dX8_upsFrom_230 rfl ?_
        rw [nI_add]
        refine P_iload (q := 233) dX8_upsFrom_231 rfl rfl ?_
        refine P_cs1 (q := 236) dX8_upsFrom_233 rfl kX8_129 (hpc _ _) rfl rfl ⟨by decide, by decide⟩ (Nat.le_of_ble_eq_true rfl) ⟨Nat.le_refl _, Nat.le_refl _⟩ ?_
        refine P_iadd (q := 237) dX8_upsFrom_236 rfl ?_
        rw [show nI (31 * t + v) + nI p = nI (31 * t + (v + p)) from by rw [nI_add, Nat.add_assoc]]
        refine P_aload_n (q := 238) dX8_upsFrom_237 rfl rfl ?_
        refine P_get (q := 241) dX8_upsFrom_238 rfl fX8_31 (by decide) (h0) rfl ?_
        refine P_bipush (q := 243) (v := nI 31) dX8_upsFrom_241 rfl (by decide +kernel) ?_
        refine P_iload (q := 245) dX8_upsFrom_243 rfl rfl ?_
        refine P_imul (q := 246) dX8_upsFrom_245 rfl ?_
        refine P_iload (q := 248) dX8_upsFrom_246 rfl rfl ?_
        refine P_iadd (q := 249) dX8_upsFrom_248 rfl ?_
        refine P_iald (q := 250) (j := 31 * s + v) dX8_upsFrom_249 rfl (by decide) (e122) (by rw [pk_mul, nI_add]) (by omega) (by decide) ?_
        rw [hgL]
        refine P_iload (q := 252) dX8_upsFrom_250 rfl rfl ?_
        refine P_iadd (q := 253) dX8_upsFrom_252 rfl ?_
        rw [iI_add]
        refine P_aload_n (q := 254) dX8_upsFrom_253 rfl rfl ?_
        refine P_get (q := 257) dX8_upsFrom_254 rfl fX8_34 (by decide) (h0) rfl ?_
        refine P_bipush (q := 259) (v := nI 31) dX8_upsFrom_257 rfl (by decide +kernel) ?_
        refine P_iload (q := 261) dX8_upsFrom_259 rfl rfl ?_
        refine P_imul (q := 262) dX8_upsFrom_261 rfl ?_
        refine P_iload (q := 264) dX8_upsFrom_262 rfl rfl ?_
        refine P_iadd (q := 265) dX8_upsFrom_264 rfl ?_
        refine P_iald (q := 266) (j := 31 * s + v) dX8_upsFrom_265 rfl (by decide) (e123) (by rw [pk_mul, nI_add]) (by omega) (by decide) ?_
        rw [hkM]
        refine P_calls (q := 269) dX8_upsFrom_266 rfl (hmt) kX8_132 rfl rfl ⟨by decide, by decide⟩ (Nat.le_of_ble_eq_true rfl) ⟨Nat.le_refl _, Nat.le_refl _⟩ ?_
        rintro vv σ2 ⟨rfl, t2, g', k', r1, r2, r3, r4, r5⟩
        refine P_iinc (q := 272) (L' := [_, _, _, _, _, _, _, _, _]) (v := nI (v + 1)) dX8_upsFrom_269 rfl (by decide) rfl (nI_1 v) rfl ?_
        refine P_goto (tgt := 186) dX8_upsFrom_272 (by decide) ?_
        exact ih (v + 1) (by omega) σ2 (hs'.trans t2) (UR_meets (t0 := t) (u0 := v + p) (G := fun e => A.WU P c s v (e - m)) hgk hMN2 (by omega) hne (by show A.WU P c s v (L + m - m) = M; rw [Int.add_sub_cancel, hML]) (by omega) (fun e he => hLm _ (by omega)) r1 r2 r3 r4 r5 (fun t' u x => hHs t' v u x))
set_option maxRecDepth 100000 in
set_option maxHeartbeats 4000000 in
theorem w_uf3 {σ0 : Sto} {A : St} {cl : Bool} {P : Nat → Bool} {f last c : Nat} (hM : MO σ0) (hX : XA σ0 A) (hc : c + 1 < A.C) (hN0 : UR σ0 122 123 248 (2 ^ A.R) (A.WU P c)) {s : Nat} (hs : s < 2 ^ A.R) {QQ : Option Value → Sto → Prop} (K : ∀ σ, same σ0 σ (fun i => i = 124 ∨ i = 125) → UR σ 124 125 248 (2 ^ A.R) (A.HU P c (s + 1) 0 0) → ∀ x6 x7 x8 : Option Value, PW mX8_upsFrom 0 0 QQ 141 [some (.ref 114), some (.int (nI f)), some (.int (nI last)), some (.int (bI cl)), some (.int (nI (c + 1))), some (.int (nI (s + 1))), x6, x7, x8] [] 132 σ 0 0) : ∀ n t, t + n = 2 ^ A.R → ∀ σ, same σ0 σ (fun i => i = 124 ∨ i = 125) → UR σ 124 125 248 (2 ^ A.R) (A.HU P c s t 0) → ∀ x7 x8 : Option Value, PW mX8_upsFrom 0 0 QQ 153 [some (.ref 114), some (.int (nI f)), some (.int (nI last)), some (.int (bI cl)), some (.int (nI (c + 1))), some (.int (nI s)), some (.int (nI t)), x7, x8] [] 132 σ 0 0 := by
  have hA := hX.1
  have hC := hA.1
  have hR := hA.2.1
  have h8 := pow8 hR.2
  have hMs : ∀ σ, same σ0 σ (fun i => i = 124 ∨ i = 125) → MO σ := fun σ s => by
    obtain ⟨a1, a2, a3, a4, a5, a6, a7, h⟩ := hM
    exact ⟨a1, a2, a3, a4, a5, a6, a7, (s 114 (by omega)).trans h⟩
  have hXs : ∀ σ, same σ0 σ (fun i => i = 124 ∨ i = 125) → XA σ A := fun σ s => by
    obtain ⟨-, g, h, hR⟩ := hX
    exact ⟨hA, g, (s 115 (by omega)).trans h, hR⟩
  intro n
  induction n with
  | zero =>
    intro t ht σ hs' hG x7 x8
    obtain ⟨a1, a2, a3, a4, a5, a6, a7, h0⟩ := hMs σ hs'
    have hst := m_states (hMs σ hs') (hXs σ hs')
    refine P_iload (q := 155) dX8_upsFrom_153 rfl rfl ?_
    refine P_aload_n (q := 156) dX8_upsFrom_155 rfl rfl ?_
    refine P_cv1 (q := 159) dX8_upsFrom_156 rfl kX8_112 (hst) rfl rfl (by decide) (h0) rfl ⟨by decide, by decide⟩ (Nat.le_of_ble_eq_true rfl) ⟨Nat.le_refl _, Nat.le_refl _⟩ ?_
    refine P_icmp_ge (q := 162) (tgt := 281) dX8_upsFrom_159 rfl (by decide) (fun c_159 => ?_) (fun c_159 => ?_)
    · rw [nI_leI (by omega) (by omega)] at c_159
      refine P_iinc (q := 284) (L' := [_, _, _, _, _, _, _, _, _]) (v := nI (s + 1)) dX8_upsFrom_281 rfl (by decide) rfl (nI_1 s) rfl ?_
      refine P_goto (tgt := 141) dX8_upsFrom_284 (by decide) ?_
      exact K σ hs' (hG.cg (fun t' u e h _ => by rw [show t = 2 ^ A.R by omega]; exact HU_n A P c s t' u e h)) _ _ _
    · exfalso; rw [nI_leI (by omega) (by omega)] at c_159; omega
  | succ n ih =>
    intro t ht σ hs' hG x7 x8
    obtain ⟨a1, a2, a3, a4, a5, a6, a7, h0⟩ := hMs σ hs'
    have hst := m_states (hMs σ hs') (hXs σ hs')
    have hlk := m_lnkw (hMs σ hs') (hXs σ hs') false (k := s) (t := t) (by omega) (by omega)
    have hcl := m_colw (hMs σ hs') (hXs σ hs') false (c := c + 1) (k := t) hc (by omega)
    refine P_iload (q := 155) dX8_upsFrom_153 rfl rfl ?_
    refine P_aload_n (q := 156) dX8_upsFrom_155 rfl rfl ?_
    refine P_cv1 (q := 159) dX8_upsFrom_156 rfl kX8_112 (hst) rfl rfl (by decide) (h0) rfl ⟨by decide, by decide⟩ (Nat.le_of_ble_eq_true rfl) ⟨Nat.le_refl _, Nat.le_refl _⟩ ?_
    refine P_icmp_ge (q := 162) (tgt := 281) dX8_upsFrom_159 rfl (by decide) (fun c_159 => ?_) (fun c_159 => ?_)
    · exfalso; rw [nI_leI (by omega) (by omega)] at c_159; omega
    · rw [nI_leI (by omega) (by omega)] at c_159
      refine P_aload_n (q := 163) dX8_upsFrom_162 rfl rfl ?_
      refine P_iconst (q := 164) (v := (bI false)) dX8_upsFrom_163 rfl (by decide +kernel) ?_
      refine P_iload (q := 166) dX8_upsFrom_164 rfl rfl ?_
      refine P_iload (q := 168) dX8_upsFrom_166 rfl rfl ?_
      refine P_cv1 (q := 171) dX8_upsFrom_168 rfl kX8_99 (hlk) rfl rfl (by decide) (h0) rfl ⟨by decide, by decide⟩ (Nat.le_of_ble_eq_true rfl) ⟨Nat.le_refl _, Nat.le_refl _⟩ ?_
      refine P_aload_n (q := 172) dX8_upsFrom_171 rfl rfl ?_
      refine P_iconst (q := 173) (v := (bI false)) dX8_upsFrom_172 rfl (by decide +kernel) ?_
      refine P_iload (q := 175) dX8_upsFrom_173 rfl rfl ?_
      refine P_iload (q := 177) dX8_upsFrom_175 rfl rfl ?_
      refine P_cv1 (q := 180) dX8_upsFrom_177 rfl kX8_95 (hcl) rfl rfl (by decide) (h0) rfl ⟨by decide, by decide⟩ (Nat.le_of_ble_eq_true rfl) ⟨Nat.le_refl _, Nat.le_refl _⟩ ?_
      refine P_iadd (q := 181) dX8_upsFrom_180 rfl ?_
      rw [iI_add]
      refine P_istore (q := 183) (L' := [_, _, _, _, _, _, _, _, _]) dX8_upsFrom_181 rfl (by decide) rfl ?_
      refine P_iconst (q := 184) (v := nI 0) dX8_upsFrom_183 rfl (by decide +kernel) ?_
      refine P_istore (q := 186) (L' := [_, _, _, _, _, _, _, _, _]) dX8_upsFrom_184 rfl (by decide) rfl ?_
      exact w_uf4 hM hX hc hN0 hs (by omega) (fun σ2 s2 hG2 y7 y8 => ih (t + 1) (by omega) σ2 s2 hG2 y7 y8) 32 0 (by omega) σ hs' hG
set_option maxRecDepth 100000 in
set_option maxHeartbeats 4000000 in
theorem w_uf2 {σ0 : Sto} {A : St} {cl : Bool} {P : Nat → Bool} {f last c : Nat} (hM : MO σ0) (hX : XA σ0 A) (hc : c + 1 < A.C) (hN0 : UR σ0 122 123 248 (2 ^ A.R) (A.WU P c)) {QQ : Option Value → Sto → Prop} (K : ∀ σ, same σ0 σ (fun i => i = 124 ∨ i = 125) → UR σ 124 125 248 (2 ^ A.R) (A.WU P (c + 1)) → ∀ x5 x6 x7 x8 : Option Value, PW mX8_upsFrom 0 0 QQ 287 [some (.ref 114), some (.int (nI f)), some (.int (nI last)), some (.int (bI cl)), some (.int (nI (c + 1))), x5, x6, x7, x8] [] 132 σ 0 0) : ∀ n s, s + n = 2 ^ A.R → ∀ σ, same σ0 σ (fun i => i = 124 ∨ i = 125) → UR σ 124 125 248 (2 ^ A.R) (A.HU P c s 0 0) → ∀ x6 x7 x8 : Option Value, PW mX8_upsFrom 0 0 QQ 141 [some (.ref 114), some (.int (nI f)), some (.int (nI last)), some (.int (bI cl)), some (.int (nI (c + 1))), some (.int (nI s)), x6, x7, x8] [] 132 σ 0 0 := by
  have hA := hX.1
  have hC := hA.1
  have hR := hA.2.1
  have h8 := pow8 hR.2
  have hMs : ∀ σ, same σ0 σ (fun i => i = 124 ∨ i = 125) → MO σ := fun σ s => by
    obtain ⟨a1, a2, a3, a4, a5, a6, a7, h⟩ := hM
    exact ⟨a1, a2, a3, a4, a5, a6, a7, (s 114 (by omega)).trans h⟩
  have hXs : ∀ σ, same σ0 σ (fun i => i = 124 ∨ i = 125) → XA σ A := fun σ s => by
    obtain ⟨-, g, h, hR⟩ := hX
    exact ⟨hA, g, (s 115 (by omega)).trans h, hR⟩
  intro n
  induction n with
  | zero =>
    intro s hs σ hs' hG x6 x7 x8
    obtain ⟨a1, a2, a3, a4, a5, a6, a7, h0⟩ := hMs σ hs'
    have hst := m_states (hMs σ hs') (hXs σ hs')
    refine P_iload (q := 143) dX8_upsFrom_141 rfl rfl ?_
    refine P_aload_n (q := 144) dX8_upsFrom_143 rfl rfl ?_
    refine P_cv1 (q := 147) dX8_upsFrom_144 rfl kX8_112 (hst) rfl rfl (by decide) (h0) rfl ⟨by decide, by decide⟩ (Nat.le_of_ble_eq_true rfl) ⟨Nat.le_refl _, Nat.le_refl _⟩ ?_
    refine P_icmp_ge (q := 150) (tgt := 287) dX8_upsFrom_147 rfl (by decide) (fun c_147 => ?_) (fun c_147 => ?_)
    · rw [nI_leI (by omega) (by omega)] at c_147
      exact K σ hs' (hG.cg (fun t' u e h _ => by rw [show s = 2 ^ A.R by omega]; exact HU_e A P c t' u e)) _ _ _ _
    · exfalso; rw [nI_leI (by omega) (by omega)] at c_147; omega
  | succ n ih =>
    intro s hs σ hs' hG x6 x7 x8
    obtain ⟨a1, a2, a3, a4, a5, a6, a7, h0⟩ := hMs σ hs'
    have hst := m_states (hMs σ hs') (hXs σ hs')
    refine P_iload (q := 143) dX8_upsFrom_141 rfl rfl ?_
    refine P_aload_n (q := 144) dX8_upsFrom_143 rfl rfl ?_
    refine P_cv1 (q := 147) dX8_upsFrom_144 rfl kX8_112 (hst) rfl rfl (by decide) (h0) rfl ⟨by decide, by decide⟩ (Nat.le_of_ble_eq_true rfl) ⟨Nat.le_refl _, Nat.le_refl _⟩ ?_
    refine P_icmp_ge (q := 150) (tgt := 287) dX8_upsFrom_147 rfl (by decide) (fun c_147 => ?_) (fun c_147 => ?_)
    · exfalso; rw [nI_leI (by omega) (by omega)] at c_147; omega
    · rw [nI_leI (by omega) (by omega)] at c_147
      refine P_iconst (q := 151) (v := nI 0) dX8_upsFrom_150 rfl (by decide +kernel) ?_
      refine P_istore (q := 153) (L' := [_, _, _, _, _, _, _, _, _]) dX8_upsFrom_151 rfl (by decide) rfl ?_
      exact w_uf3 hM hX hc hN0 (by omega) (fun σ2 s2 hG2 y6 y7 y8 => ih (s + 1) (by omega) σ2 s2 hG2 y6 y7 y8) (2 ^ A.R) 0 (by omega) σ hs' hG _ _
