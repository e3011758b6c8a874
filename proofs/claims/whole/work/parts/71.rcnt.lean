/-! THE REFERENCE: countsFrom, one column more -/
theorem m_colw {σ : Sto} {A : St} (hM : MO σ) (hX : XA σ A) (w : Bool) {c k : Nat} (hc : c < A.C) (hk : k < 8) : CD mX8_ofColumn [.ref 114, .int (bI w), .int (nI c), .int (nI k)] 132 σ (some (.int (iI (A.col w c k)))) σ := by
  cases w
  · exact m_col_false hM hX hc hk
  · exact m_col_true hM hX hc hk
theorem m_lnkw {σ : Sto} {A : St} (hM : MO σ) (hX : XA σ A) (w : Bool) {k t : Nat} (hk : k < 8) (ht : t < 8) : CD mX8_ofLink [.ref 114, .int (bI w), .int (nI k), .int (nI t)] 132 σ (some (.int (iI (A.lnk w k t)))) σ := by
  cases w
  · exact m_lnk_false hM hX hk ht
  · exact m_lnk_true hM hX hk ht
theorem colT_in {A : St} (hA : A.ok) (w : Bool) (c k r : Nat) : -5 ≤ A.colT w c k r ∧ A.colT w c k r ≤ 5 := by
  obtain ⟨-, -, -, -, h2, -, -, h3⟩ := hA
  have h3 := h3 c r
  unfold St.colT St.nx
  cases w with
  | true => rw [if_pos rfl]; split <;> omega
  | false =>
    rw [if_neg (by decide)]
    split
    · rcases spZ_pm k r with e | e <;> rcases spZ_pm k (r + 1) with e2 | e2 <;> rw [e, e2] <;> omega
    · rcases spZ_pm k r with e | e <;> rw [e] <;> omega
theorem lnkT_in {A : St} (hA : A.ok) (w : Bool) (k t r : Nat) : -2 ≤ A.lnkT w k t r ∧ A.lnkT w k t r ≤ 2 := by
  obtain ⟨-, -, -, h1, -, -, -, -⟩ := hA
  unfold St.lnkT
  cases w with
  | true => rw [if_pos rfl]; split <;> omega
  | false =>
    rw [if_neg (by decide)]
    rcases spZ_pm k r with e | e <;> rcases spZ_pm t r with e2 | e2 <;> rw [e, e2] <;> omega
theorem col_in {A : St} (hA : A.ok) (w : Bool) (c k : Nat) : -15 ≤ A.col w c k ∧ A.col w c k ≤ 15 := by
  have hR := hA.2.1
  have h1 := sumZ_le (n := A.R) (f := A.colT w c k) (b := 5) (fun i _ => (colT_in hA w c k i).2)
  have h2 := sumZ_ge (n := A.R) (f := A.colT w c k) (b := -5) (fun i _ => (colT_in hA w c k i).1)
  unfold St.col
  omega
theorem lnk_in {A : St} (hA : A.ok) (w : Bool) (k t : Nat) : -6 ≤ A.lnk w k t ∧ A.lnk w k t ≤ 6 := by
  have hR := hA.2.1
  have h1 := sumZ_le (n := A.R) (f := A.lnkT w k t) (b := 2) (fun i _ => (lnkT_in hA w k t i).2)
  have h2 := sumZ_ge (n := A.R) (f := A.lnkT w k t) (b := -2) (fun i _ => (lnkT_in hA w k t i).1)
  unfold St.lnk
  omega
theorem ni_add {a b : Nat} {m : Int} (h : (b : Int) = a + m) : nI a + iI m = nI b := by
  rw [iI_nI, iI_nI, iI_add, h]
/-- rows of 401 numbers in a row of 3208 -/
def GR (σ : Sto) (a K : Nat) (F : Nat → Nat → Nat) : Prop := ∃ g : Nat → Int32, σ a = pI .int 3208 g ∧ ∀ s x, s < K → x < 401 → g (401 * s + x) = nI (F s x)
theorem GR.cg {σ : Sto} {a K : Nat} {F F' : Nat → Nat → Nat} (h : GR σ a K F) (e : ∀ s x, s < K → x < 401 → F' s x = F s x) : GR σ a K F' := by
  obtain ⟨g, h1, h2⟩ := h
  exact ⟨g, h1, fun s x hs hx => by rw [h2 s x hs hx, e s x hs hx]⟩
theorem GR_set {K t y0 m : Nat} {F F' : Nat → Nat → Nat} {g : Nat → Int32} {v : Int32} (h : ∀ s x, s < K → x < 401 → g (401 * s + x) = nI (F s x)) (hy : y0 < 401) (hv : v = nI m) (hF : ∀ s x, s < K → x < 401 → F' s x = if s = t ∧ x = y0 then m else F s x) : ∀ s x, s < K → x < 401 → upd g (401 * t + y0) v (401 * s + x) = nI (F' s x) := fun s x hs hx => by
  unfold upd
  rw [hF s x hs hx]
  by_cases e : s = t ∧ x = y0
  · rw [if_pos e, if_pos (by rw [e.1, e.2]), hv]
  · rw [if_neg e, if_neg (by omega)]
    exact h s x hs hx
def St.mo (A : St) (w : Bool) (c s t : Nat) : Int := A.lnk w s t + A.col w (c + 1) t
def St.TE (A : St) (w : Bool) (P : Nat → Bool) (c s t : Nat) (e : Int) : Nat := sumN s (fun s' => A.WE w P c s' (e - A.mo w c s' t))
def St.pt (A : St) (w : Bool) (P : Nat → Bool) (c s t e y : Nat) : Nat := if 0 ≤ (y : Int) - A.mo w c s t ∧ (y : Int) - A.mo w c s t < (e : Int) then A.WE w P c s ((y : Int) - 200 - A.mo w c s t) else 0
def St.HH (A : St) (w : Bool) (P : Nat → Bool) (c s t e t' y : Nat) : Nat := if t' < t then A.TE w P c (s + 1) t' ((y : Int) - 200) else A.TE w P c s t' ((y : Int) - 200) + (if t' = t then A.pt w P c s t e y else 0)
theorem WE_step (A : St) (w : Bool) (P : Nat → Bool) {c s t : Nat} (hs : s < 2 ^ A.R) (e : Int) : A.WE w P c s e ≤ A.WE w P (c + 1) t (e + A.mo w c s t) := by
  have h := sumN_term (f := fun s' => A.WE w P c s' (e + A.mo w c s t - (A.lnk w s' t + A.col w (c + 1) t))) hs
  have h : A.WE w P c s (e + A.mo w c s t - A.mo w c s t) ≤ A.WE w P (c + 1) t (e + A.mo w c s t) := h
  rw [Int.add_sub_cancel] at h
  exact h
theorem pt_0 (A : St) (w : Bool) (P : Nat → Bool) (c s t y : Nat) : A.pt w P c s t 0 y = 0 := if_neg (fun q => by omega)
theorem pt_s (A : St) (w : Bool) (P : Nat → Bool) (c s t e y : Nat) : A.pt w P c s t (e + 1) y = A.pt w P c s t e y + (if (y : Int) - A.mo w c s t = e then A.WE w P c s ((e : Int) - 200) else 0) := by
  unfold St.pt
  by_cases h : (y : Int) - A.mo w c s t = e
  · rw [if_pos h, if_pos (by omega), if_neg (by omega), show (y : Int) - 200 - A.mo w c s t = e - 200 by omega, Nat.zero_add]
  · rw [if_neg h, Nat.add_zero]
    by_cases h2 : 0 ≤ (y : Int) - A.mo w c s t ∧ (y : Int) - A.mo w c s t < (e : Int)
    · rw [if_pos h2, if_pos (by omega)]; rfl
    · rw [if_neg h2, if_neg (by omega)]
theorem pt_e {A : St} (hA : A.ok) {w : Bool} {P : Nat → Bool} {c s t y : Nat} (hc : c < A.C) (hs : s < 2 ^ A.R) : A.pt w P c s t 401 y = A.WE w P c s ((y : Int) - 200 - A.mo w c s t) := by
  unfold St.pt
  by_cases h2 : 0 ≤ (y : Int) - A.mo w c s t ∧ (y : Int) - A.mo w c s t < ((401 : Nat) : Int)
  · rw [if_pos h2]
  · rw [if_neg h2]
    refine (Classical.byContradiction fun q => ?_ : A.WE w P c s ((y : Int) - 200 - A.mo w c s t) = 0).symm
    have := WE_in hA w P hc hs q
    omega
theorem HH_0 (A : St) (w : Bool) (P : Nat → Bool) (c t' y : Nat) : A.HH w P c 0 0 0 t' y = 0 := by
  unfold St.HH
  rw [if_neg (by omega), pt_0]
  show 0 + (if _ then 0 else 0) = 0
  split <;> rfl
theorem HH_s (A : St) (w : Bool) (P : Nat → Bool) (c s t e t' y : Nat) : A.HH w P c s t (e + 1) t' y = A.HH w P c s t e t' y + (if t' = t ∧ (y : Int) - A.mo w c s t = e then A.WE w P c s ((e : Int) - 200) else 0) := by
  unfold St.HH
  by_cases h : t' < t
  · rw [if_pos h, if_pos h, if_neg (by omega)]; rfl
  · rw [if_neg h, if_neg h]
    by_cases h2 : t' = t
    · rw [if_pos h2, if_pos h2, pt_s, ← Nat.add_assoc]
      by_cases h3 : (y : Int) - A.mo w c s t = e
      · rw [if_pos h3, if_pos ⟨h2, h3⟩]
      · rw [if_neg h3, if_neg (fun q => h3 q.2)]
    · rw [if_neg h2, if_neg h2, if_neg (fun q => h2 q.1), Nat.add_zero]
theorem HH_t {A : St} (hA : A.ok) {w : Bool} {P : Nat → Bool} {c s t : Nat} (hc : c < A.C) (hs : s < 2 ^ A.R) (t' y : Nat) : A.HH w P c s (t + 1) 0 t' y = A.HH w P c s t 401 t' y := by
  unfold St.HH
  by_cases h : t' < t
  · rw [if_pos h, if_pos (by omega)]
  · rw [if_neg h]
    by_cases h2 : t' = t
    · subst h2
      rw [if_pos (by omega), if_pos rfl, pt_e hA hc hs]
      rfl
    · rw [if_neg (by omega), if_neg h2, pt_0]
      congr 1
      split <;> rfl
theorem HH_n (A : St) (w : Bool) (P : Nat → Bool) (c s t y : Nat) {K : Nat} (h : t < K) : A.HH w P c (s + 1) 0 0 t y = A.HH w P c s K 0 t y := by
  unfold St.HH
  rw [if_pos h, if_neg (by omega), pt_0]
  split <;> rfl
theorem HH_e (A : St) (w : Bool) (P : Nat → Bool) (c t y : Nat) : A.WE w P (c + 1) t ((y : Int) - 200) = A.HH w P c (2 ^ A.R) 0 0 t y := by
  unfold St.HH
  rw [if_neg (by omega), pt_0]
  show _ = A.TE w P c (2 ^ A.R) t _ + (if _ then 0 else 0)
  rw [show (if t = 0 then 0 else 0) = 0 by split <;> rfl]
  rfl
set_option maxRecDepth 100000 in
set_option maxHeartbeats 4000000 in
theorem m_states {σ : Sto} {A : St} (hM : MO σ) (hX : XA σ A) : CD mX8_states [.ref 114] 132 σ (some (.int (nI (2 ^ A.R)))) σ := by
  obtain ⟨L, k0, pl, n0, sp0, rc, rr, h0⟩ := hM
  obtain ⟨hA, g, h1, hR⟩ := id hX
  refine CP_of (by decide +kernel) (Nat.le_of_ble_eq_true rfl) ?_
  change PW _ _ _ _ 0 [_] [] _ _ _ _
  refine P_iconst (q := 1) (v := nI 1) dX8_states_0 rfl (by decide +kernel) ?_
  refine P_aload_n (q := 2) dX8_states_1 rfl rfl ?_
  refine P_get (q := 5) dX8_states_2 rfl fX8_7 (by decide) (h0) rfl ?_
  refine P_iconst (q := 6) (v := nI 1) dX8_states_5 rfl (by decide +kernel) ?_
  refine P_iald (q := 7) (j := 1) dX8_states_6 rfl (by decide) (h1) (rfl) (by omega) (by decide) ?_
  rw [hR.2.1]
  refine P_ishl (q := 8) dX8_states_7 rfl ?_
  rw [sh1 hA.2.1.2]
  refine P_iret dX8_states_8 rfl (rfl) ?_
  exact ⟨rfl, rfl⟩
set_option maxRecDepth 100000 in
set_option maxHeartbeats 4000000 in
theorem w_cf4 {σ0 : Sto} {A : St} {w cl : Bool} {P : Nat → Bool} {f last c : Nat} (hM : MO σ0) (hX : XA σ0 A) (hc : c + 1 < A.C) (h120 : GR σ0 120 (2 ^ A.R) (fun s x => A.WE w P c s ((x : Int) - 200))) {s t : Nat} (hs : s < 2 ^ A.R) (ht : t < 2 ^ A.R) {QQ : Option Value → Sto → Prop} (K : ∀ σ, same σ0 σ (fun i => i = 121) → GR σ 121 (2 ^ A.R) (A.HH w P c s (t + 1) 0) → ∀ x8 x9 x10 : Option Value, PW mX8_countsFrom 0 0 QQ 119 [some (.ref 114), some (.int (bI w)), some (.int (nI f)), some (.int (nI last)), some (.int (bI cl)), some (.int (nI (c + 1))), some (.int (nI s)), some (.int (nI (t + 1))), x8, x9, x10] [] 132 σ 0 0) : ∀ n e, e + n = 401 → ∀ σ, same σ0 σ (fun i => i = 121) → GR σ 121 (2 ^ A.R) (A.HH w P c s t e) → ∀ x10 : Option Value, PW mX8_countsFrom 0 0 QQ 152 [some (.ref 114), some (.int (bI w)), some (.int (nI f)), some (.int (nI last)), some (.int (bI cl)), some (.int (nI (c + 1))), some (.int (nI s)), some (.int (nI t)), some (.int (iI (A.mo w c s t))), some (.int (nI e)), x10] [] 132 σ 0 0 := by
  have hA := hX.1
  have hC := hA.1
  have hR := hA.2.1
  have h8 := pow8 hR.2
  have hMs : ∀ σ, same σ0 σ (fun i => i = 121) → MO σ := fun σ s => by
    obtain ⟨a1, a2, a3, a4, a5, a6, a7, h⟩ := hM
    exact ⟨a1, a2, a3, a4, a5, a6, a7, (s 114 (by omega)).trans h⟩
  have hXs : ∀ σ, same σ0 σ (fun i => i = 121) → XA σ A := fun σ s => by
    obtain ⟨-, g, h, hR⟩ := hX
    exact ⟨hA, g, (s 115 (by omega)).trans h, hR⟩
  have hb1 := lnk_in hA w s t
  have hb2 := col_in hA w (c + 1) t
  have hmo : (A.mo w c s t) = A.lnk w s t + A.col w (c + 1) t := rfl
  generalize hmv : (A.mo w c s t) = m at hmo
  obtain ⟨g0, q120, hg0⟩ := h120
  have hg0 : ∀ s x, s < 2 ^ A.R → x < 401 → g0 (401 * s + x) = nI (A.WE w P c s ((x : Int) - 200)) := hg0
  intro n
  induction n with
  | zero =>
    intro e he σ hs' hG x10
    have ee : e = 401 := by omega
    subst ee
    refine P_iload (q := 154) dX8_countsFrom_152 rfl rfl ?_
    refine P_sipush (q := 157) (v := nI 401) dX8_countsFrom_154 rfl (by decide +kernel) ?_
    refine P_icmp_ge (q := 160) (tgt := 209) dX8_countsFrom_157 rfl (by decide) (fun c_157 => ?_) (fun c_157 => ?_)
    · rw [nI_leI (by omega) (by omega)] at c_157
      refine P_iinc (q := 212) (L' := [_, _, _, _, _, _, _, _, _, _, _]) (v := nI (t + 1)) dX8_countsFrom_209 rfl (by decide) rfl (nI_1 t) rfl ?_
      refine P_goto (tgt := 119) dX8_countsFrom_212 (by decide) ?_
      exact K σ hs' (hG.cg (fun t' y _ _ => HH_t hA (by omega) hs t' y)) _ _ _
    · exfalso; rw [nI_leI (by omega) (by omega)] at c_157; omega
  | succ n ih =>
    intro e he σ hs' hG x10
    obtain ⟨a1, a2, a3, a4, a5, a6, a7, h0⟩ := hMs σ hs'
    have e120 := (hs' 120 (by omega)).trans q120
    obtain ⟨g, q121, hg⟩ := id hG
    have hW := WE_le hA w P (c := c) (t := s) (by omega) hs ((e : Int) - 200)
    have hHs := fun t' y => HH_s A w P c s t e t' y
    rw [hmv] at hHs
    refine P_iload (q := 154) dX8_countsFrom_152 rfl rfl ?_
    refine P_sipush (q := 157) (v := nI 401) dX8_countsFrom_154 rfl (by decide +kernel) ?_
    refine P_icmp_ge (q := 160) (tgt := 209) dX8_countsFrom_157 rfl (by decide) (fun c_157 => ?_) (fun c_157 => ?_)
    · exfalso; rw [nI_leI (by omega) (by omega)] at c_157; omega
    · rw [nI_leI (by omega) (by omega)] at c_157
      refine P_aload_n (q := 161) dX8_countsFrom_160 rfl rfl ?_
      refine P_get (q := 164) dX8_countsFrom_161 rfl fX8_25 (by decide) (h0) rfl ?_
      refine P_sipush (q := 167) (v := nI 401) dX8_countsFrom_164 rfl (by decide +kernel) ?_
      refine P_iload (q := 169) dX8_countsFrom_167 rfl rfl ?_
      refine P_imul (q := 170) dX8_countsFrom_169 rfl ?_
      refine P_iload (q := 172) dX8_countsFrom_170 rfl rfl ?_
      refine P_iadd (q := 173) dX8_countsFrom_172 rfl ?_
      refine P_iald (q := 174) (j := 401 * s + e) dX8_countsFrom_173 rfl (by decide) (e120) (by rw [pk_mul, nI_add]) (by omega) (by decide) ?_
      rw [hg0 s e hs (by omega)]
      refine P_istore (q := 176) (L' := [_, _, _, _, _, _, _, _, _, _, _]) dX8_countsFrom_174 rfl (by decide) rfl ?_
      refine P_iload (q := 178) dX8_countsFrom_176 rfl rfl ?_
      refine P_if_le (q := 181) (tgt := 203) dX8_countsFrom_178 rfl (by decide) (fun c_178 => ?_) (fun c_178 => ?_)
      · rw [show ((0 : Int32)) = nI 0 from rfl, nI_leI (by omega) (by decide)] at c_178
        refine P_iinc (q := 206) (L' := [_, _, _, _, _, _, _, _, _, _, _]) (v := nI (e + 1)) dX8_countsFrom_203 rfl (by decide) rfl (nI_1 e) rfl ?_
        refine P_goto (tgt := 152) dX8_countsFrom_206 (by decide) ?_
        refine ih (e + 1) (by omega) σ hs' (hG.cg (fun t' y _ _ => ?_)) _
        rw [hHs t' y, show A.WE w P c s ((e : Int) - 200) = 0 by omega]
        split <;> rfl
      · rw [show ((0 : Int32)) = nI 0 from rfl, nI_leI (by omega) (by decide)] at c_178
        have hstp := WE_step A w P (c := c) (t := t) hs ((e : Int) - 200)
        rw [hmv] at hstp
        have hin := WE_in hA w P (c := c + 1) (t := t) hc ht (e := (e : Int) - 200 + m) (by omega)
        obtain ⟨y0, hy0⟩ : ∃ y0 : Nat, (y0 : Int) = e + m := ⟨((e : Int) + m).toNat, by omega⟩
        refine P_aload_n (q := 182) dX8_countsFrom_181 rfl rfl ?_
        refine P_get (q := 185) dX8_countsFrom_182 rfl fX8_28 (by decide) (h0) rfl ?_
        refine P_sipush (q := 188) (v := nI 401) dX8_countsFrom_185 rfl (by decide +kernel) ?_
        refine P_iload (q := 190) dX8_countsFrom_188 rfl rfl ?_
        refine P_imul (q := 191) dX8_countsFrom_190 rfl ?_
        rw [pk_mul]
        refine P_iload (q := 193) dX8_countsFrom_191 rfl rfl ?_
        refine P_iadd (q := 194) dX8_countsFrom_193 rfl ?_
        rw [nI_add]
        refine P_iload (q := 196) dX8_countsFrom_194 rfl rfl ?_
        refine P_iadd (q := 197) dX8_countsFrom_196 rfl ?_
        rw [ni_add (show ((401 * t + y0 : Nat) : Int) = ((401 * t + e : Nat) : Int) + m by omega)]
        refine P_dup2 (q := 198) dX8_countsFrom_197 rfl rfl rfl ?_
        refine P_iald (q := 199) (j := 401 * t + y0) dX8_countsFrom_198 rfl (by decide) (q121) (rfl) (by omega) (by decide) ?_
        refine P_iload (q := 201) dX8_countsFrom_199 rfl rfl ?_
        refine P_iadd (q := 202) dX8_countsFrom_201 rfl ?_
        refine P_iast (q := 203) (j := 401 * t + y0) (f' := upd g (401 * t + y0) (g (401 * t + y0) + nI (A.WE w P c s ((e : Int) - 200)))) dX8_countsFrom_202 rfl (by decide) (q121) (rfl) (by omega) (by decide) (rfl) (rfl) ?_
        refine P_iinc (q := 206) (L' := [_, _, _, _, _, _, _, _, _, _, _]) (v := nI (e + 1)) dX8_countsFrom_203 rfl (by decide) rfl (nI_1 e) rfl ?_
        refine P_goto (tgt := 152) dX8_countsFrom_206 (by decide) ?_
        refine ih (e + 1) (by omega) _ (hs'.up rfl) ⟨_, up_at _ _ _, GR_set hg (show y0 < 401 by omega) (m := A.HH w P c s t e t y0 + A.WE w P c s ((e : Int) - 200)) (by rw [hg t y0 ht (by omega), nI_add]) (fun t' y _ _ => ?_)⟩ _
        rw [hHs t' y]
        by_cases h : t' = t ∧ y = y0
        · rw [if_pos h, if_pos (by omega), h.1, h.2]
        · rw [if_neg h, if_neg (by omega), Nat.add_zero]
set_option maxRecDepth 100000 in
set_option maxHeartbeats 4000000 in
theorem w_cf3 {σ0 : Sto} {A : St} {w cl : Bool} {P : Nat → Bool} {f last c : Nat} (hM : MO σ0) (hX : XA σ0 A) (hc : c + 1 < A.C) (h120 : GR σ0 120 (2 ^ A.R) (fun s x => A.WE w P c s ((x : Int) - 200))) {s : Nat} (hs : s < 2 ^ A.R) {QQ : Option Value → Sto → Prop} (K : ∀ σ, same σ0 σ (fun i => i = 121) → GR σ 121 (2 ^ A.R) (A.HH w P c (s + 1) 0 0) → ∀ x7 x8 x9 x10 : Option Value, PW mX8_countsFrom 0 0 QQ 107 [some (.ref 114), some (.int (bI w)), some (.int (nI f)), some (.int (nI last)), some (.int (bI cl)), some (.int (nI (c + 1))), some (.int (nI (s + 1))), x7, x8, x9, x10] [] 132 σ 0 0) : ∀ n t, t + n = 2 ^ A.R → ∀ σ, same σ0 σ (fun i => i = 121) → GR σ 121 (2 ^ A.R) (A.HH w P c s t 0) → ∀ x8 x9 x10 : Option Value, PW mX8_countsFrom 0 0 QQ 119 [some (.ref 114), some (.int (bI w)), some (.int (nI f)), some (.int (nI last)), some (.int (bI cl)), some (.int (nI (c + 1))), some (.int (nI s)), some (.int (nI t)), x8, x9, x10] [] 132 σ 0 0 := by
  have hA := hX.1
  have hC := hA.1
  have hR := hA.2.1
  have h8 := pow8 hR.2
  have hMs : ∀ σ, same σ0 σ (fun i => i = 121) → MO σ := fun σ s => by
    obtain ⟨a1, a2, a3, a4, a5, a6, a7, h⟩ := hM
    exact ⟨a1, a2, a3, a4, a5, a6, a7, (s 114 (by omega)).trans h⟩
  have hXs : ∀ σ, same σ0 σ (fun i => i = 121) → XA σ A := fun σ s => by
    obtain ⟨-, g, h, hR⟩ := hX
    exact ⟨hA, g, (s 115 (by omega)).trans h, hR⟩
  intro n
  induction n with
  | zero =>
    intro t ht σ hs' hG x8 x9 x10
    obtain ⟨a1, a2, a3, a4, a5, a6, a7, h0⟩ := hMs σ hs'
    have hst := m_states (hMs σ hs') (hXs σ hs')
    refine P_iload (q := 121) dX8_countsFrom_119 rfl rfl ?_
    refine P_aload_n (q := 122) dX8_countsFrom_121 rfl rfl ?_
    refine P_cv1 (q := 125) dX8_countsFrom_122 rfl kX8_112 (hst) rfl rfl (by decide) (h0) rfl ⟨by decide, by decide⟩ (Nat.le_of_ble_eq_true rfl) ⟨Nat.le_refl _, Nat.le_refl _⟩ ?_
    refine P_icmp_ge (q := 128) (tgt := 215) dX8_countsFrom_125 rfl (by decide) (fun c_125 => ?_) (fun c_125 => ?_)
    · rw [nI_leI (by omega) (by omega)] at c_125
      refine P_iinc (q := 218) (L' := [_, _, _, _, _, _, _, _, _, _, _]) (v := nI (s + 1)) dX8_countsFrom_215 rfl (by decide) rfl (nI_1 s) rfl ?_
      refine P_goto (tgt := 107) dX8_countsFrom_218 (by decide) ?_
      exact K σ hs' (hG.cg (fun t' y h _ => by rw [show t = 2 ^ A.R by omega]; exact HH_n A w P c s t' y h)) _ _ _ _
    · exfalso; rw [nI_leI (by omega) (by omega)] at c_125; omega
  | succ n ih =>
    intro t ht σ hs' hG x8 x9 x10
    obtain ⟨a1, a2, a3, a4, a5, a6, a7, h0⟩ := hMs σ hs'
    have hst := m_states (hMs σ hs') (hXs σ hs')
    have hlk := m_lnkw (hMs σ hs') (hXs σ hs') w (k := s) (t := t) (by omega) (by omega)
    have hcl := m_colw (hMs σ hs') (hXs σ hs') w (c := c + 1) (k := t) hc (by omega)
    refine P_iload (q := 121) dX8_countsFrom_119 rfl rfl ?_
    refine P_aload_n (q := 122) dX8_countsFrom_121 rfl rfl ?_
    refine P_cv1 (q := 125) dX8_countsFrom_122 rfl kX8_112 (hst) rfl rfl (by decide) (h0) rfl ⟨by decide, by decide⟩ (Nat.le_of_ble_eq_true rfl) ⟨Nat.le_refl _, Nat.le_refl _⟩ ?_
    refine P_icmp_ge (q := 128) (tgt := 215) dX8_countsFrom_125 rfl (by decide) (fun c_125 => ?_) (fun c_125 => ?_)
    · exfalso; rw [nI_leI (by omega) (by omega)] at c_125; omega
    · rw [nI_leI (by omega) (by omega)] at c_125
      refine P_aload_n (q := 129) dX8_countsFrom_128 rfl rfl ?_
      refine P_iload_n (q := 130) dX8_countsFrom_129 rfl rfl ?_
      refine P_iload (q := 132) dX8_countsFrom_130 rfl rfl ?_
      refine P_iload (q := 134) dX8_countsFrom_132 rfl rfl ?_
      refine P_cv1 (q := 137) dX8_countsFrom_134 rfl kX8_99 (hlk) rfl rfl (by decide) (h0) rfl ⟨by decide, by decide⟩ (Nat.le_of_ble_eq_true rfl) ⟨Nat.le_refl _, Nat.le_refl _⟩ ?_
      refine P_aload_n (q := 138) dX8_countsFrom_137 rfl rfl ?_
      refine P_iload_n (q := 139) dX8_countsFrom_138 rfl rfl ?_
      refine P_iload (q := 141) dX8_countsFrom_139 rfl rfl ?_
      refine P_iload (q := 143) dX8_countsFrom_141 rfl rfl ?_
      refine P_cv1 (q := 146) dX8_countsFrom_143 rfl kX8_95 (hcl) rfl rfl (by decide) (h0) rfl ⟨by decide, by decide⟩ (Nat.le_of_ble_eq_true rfl) ⟨Nat.le_refl _, Nat.le_refl _⟩ ?_
      refine P_iadd (q := 147) dX8_countsFrom_146 rfl ?_
      rw [iI_add]
      refine P_istore (q := 149) (L' := [_, _, _, _, _, _, _, _, _, _, _]) dX8_countsFrom_147 rfl (by decide) rfl ?_
      refine P_iconst (q := 150) (v := nI 0) dX8_countsFrom_149 rfl (by decide +kernel) ?_
      refine P_istore (q := 152) (L' := [_, _, _, _, _, _, _, _, _, _, _]) dX8_countsFrom_150 rfl (by decide) rfl ?_
      exact w_cf4 hM hX hc h120 hs (by omega) (fun σ2 s2 hG2 y8 y9 y10 => ih (t + 1) (by omega) σ2 s2 hG2 y8 y9 y10) 401 0 (by omega) σ hs' hG _
set_option maxRecDepth 100000 in
set_option maxHeartbeats 4000000 in
theorem w_cf2 {σ0 : Sto} {A : St} {w cl : Bool} {P : Nat → Bool} {f last c : Nat} (hM : MO σ0) (hX : XA σ0 A) (hc : c + 1 < A.C) (h120 : GR σ0 120 (2 ^ A.R) (fun s x => A.WE w P c s ((x : Int) - 200))) {QQ : Option Value → Sto → Prop} (K : ∀ σ, same σ0 σ (fun i => i = 121) → GR σ 121 (2 ^ A.R) (fun t y => A.WE w P (c + 1) t ((y : Int) - 200)) → ∀ x6 x7 x8 x9 x10 : Option Value, PW mX8_countsFrom 0 0 QQ 221 [some (.ref 114), some (.int (bI w)), some (.int (nI f)), some (.int (nI last)), some (.int (bI cl)), some (.int (nI (c + 1))), x6, x7, x8, x9, x10] [] 132 σ 0 0) : ∀ n s, s + n = 2 ^ A.R → ∀ σ, same σ0 σ (fun i => i = 121) → GR σ 121 (2 ^ A.R) (A.HH w P c s 0 0) → ∀ x7 x8 x9 x10 : Option Value, PW mX8_countsFrom 0 0 QQ 107 [some (.ref 114), some (.int (bI w)), some (.int (nI f)), some (.int (nI last)), some (.int (bI cl)), some (.int (nI (c + 1))), some (.int (nI s)), x7, x8, x9, x10] [] 132 σ 0 0 := by
  have hA := hX.1
  have hC := hA.1
  have hR := hA.2.1
  have h8 := pow8 hR.2
  have hMs : ∀ σ, same σ0 σ (fun i => i = 121) → MO σ := fun σ s => by
    obtain ⟨a1, a2, a3, a4, a5, a6, a7, h⟩ := hM
    exact ⟨a1, a2, a3, a4, a5, a6, a7, (s 114 (by omega)).trans h⟩
  have hXs : ∀ σ, same σ0 σ (fun i => i = 121) → XA σ A := fun σ s => by
    obtain ⟨-, g, h, hR⟩ := hX
    exact ⟨hA, g, (s 115 (by omega)).trans h, hR⟩
  intro n
  induction n with
  | zero =>
    intro s hs σ hs' hG x7 x8 x9 x10
    obtain ⟨a1, a2, a3, a4, a5, a6, a7, h0⟩ := hMs σ hs'
    have hst := m_states (hMs σ hs') (hXs σ hs')
    refine P_iload (q := 109) dX8_countsFrom_107 rfl rfl ?_
    refine P_aload_n (q := 110) dX8_countsFrom_109 rfl rfl ?_
    refine P_cv1 (q := 113) dX8_countsFrom_110 rfl kX8_112 (hst) rfl rfl (by decide) (h0) rfl ⟨by decide, by decide⟩ (Nat.le_of_ble_eq_true rfl) ⟨Nat.le_refl _, Nat.le_refl _⟩ ?_
    refine P_icmp_ge (q := 116) (tgt := 221) dX8_countsFrom_113 rfl (by decide) (fun c_113 => ?_) (fun c_113 => ?_)
    · rw [nI_leI (by omega) (by omega)] at c_113
      exact K σ hs' (hG.cg (fun t' y h _ => by rw [show s = 2 ^ A.R by omega]; exact HH_e A w P c t' y)) _ _ _ _ _
    · exfalso; rw [nI_leI (by omega) (by omega)] at c_113; omega
  | succ n ih =>
    intro s hs σ hs' hG x7 x8 x9 x10
    obtain ⟨a1, a2, a3, a4, a5, a6, a7, h0⟩ := hMs σ hs'
    have hst := m_states (hMs σ hs') (hXs σ hs')
    refine P_iload (q := 109) dX8_countsFrom_107 rfl rfl ?_
    refine P_aload_n (q := 110) dX8_countsFrom_109 rfl rfl ?_
    refine P_cv1 (q := 113) dX8_countsFrom_110 rfl kX8_112 (hst) rfl rfl (by decide) (h0) rfl ⟨by decide, by decide⟩ (Nat.le_of_ble_eq_true rfl) ⟨Nat.le_refl _, Nat.le_refl _⟩ ?_
    refine P_icmp_ge (q := 116) (tgt := 221) dX8_countsFrom_113 rfl (by decide) (fun c_113 => ?_) (fun c_113 => ?_)
    · exfalso; rw [nI_leI (by omega) (by omega)] at c_113; omega
    · rw [nI_leI (by omega) (by omega)] at c_113
      refine P_iconst (q := 117) (v := nI 0) dX8_countsFrom_116 rfl (by decide +kernel) ?_
      refine P_istore (q := 119) (L' := [_, _, _, _, _, _, _, _, _, _, _]) dX8_countsFrom_117 rfl (by decide) rfl ?_
      exact w_cf3 hM hX hc h120 (by omega) (fun σ2 s2 hG2 y7 y8 y9 y10 => ih (s + 1) (by omega) σ2 s2 hG2 y7 y8 y9 y10) (2 ^ A.R) 0 (by omega) σ hs' hG _ _ _
