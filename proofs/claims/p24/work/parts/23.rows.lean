variable {eN : Nat}
/-! ROWS OF SUMS: a grid of int rows; a row added to another, shifted -/
def grR (q N : Nat) : PC := pR (.array .int) N (fun i => if i < N then some (q + 1 + i) else none)
def GW (σ : Sto) (q N n I J : Nat) (F : Nat → Nat → Nat) : Prop := σ q = grR q N ∧ ∀ i, i < N → ∃ g : Nat → Int32, σ (q + 1 + i) = pI .int n g ∧ (i < I → ∀ j, j < J → g j = nI (F i j))
theorem GW.congr {σ τ : Sto} {q N n I J : Nat} {F : Nat → Nat → Nat} (h : GW σ q N n I J F) (he : ∀ k, q ≤ k → k ≤ q + N → τ k = σ k) : GW τ q N n I J F := by
  refine ⟨(he q (by omega) (by omega)).trans h.1, fun i hi => ?_⟩
  obtain ⟨g, h1, h2⟩ := h.2 i hi
  exact ⟨g, (he _ (by omega) (by omega)).trans h1, h2⟩
theorem GW.put {σ : Sto} {q N n I J I' : Nat} {F F' : Nat → Nat → Nat} (h : GW σ q N n I J F) {i : Nat} {g : Nat → Int32} (hg : i < I' → ∀ j, j < J → g j = nI (F' i j)) (hI : ∀ a, a < N → a ≠ i → a < I' → a < I ∧ ∀ j, j < J → F' a j = F a j) : GW (va_up σ (q + 1 + i) (pI .int n g)) q N n I' J F' := by
  refine ⟨(up_ne _ _ (by omega)).trans h.1, fun a ha => ?_⟩
  by_cases e : a = i
  · subst e
    exact ⟨g, up_at _ _ _, hg⟩
  · obtain ⟨g', h1, h2⟩ := h.2 a ha
    refine ⟨g', (up_ne _ _ (by omega)).trans h1, fun hI' j hj => ?_⟩
    obtain ⟨h3, h4⟩ := hI a ha e hI'
    rw [h2 h3 j hj, h4 j hj]
theorem GW.less {σ : Sto} {q N n I J I' J' : Nat} {F F' : Nat → Nat → Nat} (h : GW σ q N n I J F) (hi : I' ≤ I) (hj : J' ≤ J) (hF : ∀ a j, a < I' → j < J' → F' a j = F a j) : GW σ q N n I' J' F' := by
  refine ⟨h.1, fun i hi' => ?_⟩
  obtain ⟨g, h1, h2⟩ := h.2 i hi'
  exact ⟨g, h1, fun a j b => by rw [h2 (by omega) j (by omega), hF i j a b]⟩
theorem grR_at {q N i : Nat} (h : i < N) : (fun i => if i < N then some (q + 1 + i) else none) i = some (q + 1 + i) := if_pos h
def adV (np nq ρ s : Nat) (f g : Nat → Int32) : Nat → Int32 := fun y => if s ≤ y ∧ y - s ≤ ρ ∧ y - s < np ∧ y < nq then g y + f (y - s) else g y
def adI (s : Nat) (f g : Nat → Int32) (i : Nat) : Nat → Int32 := fun y => if s ≤ y ∧ y - s < i then g y + f (y - s) else g y
theorem adI_end {np nq ρ s i : Nat} {f g : Nat → Int32} (hI : ∀ a, a < i → a ≤ ρ ∧ a < np ∧ a + s < nq) (hE : ρ < i ∨ np ≤ i ∨ nq ≤ i + s) : adI s f g i = adV np nq ρ s f g := by
  funext y
  unfold adI adV
  have e : (s ≤ y ∧ y - s < i) ↔ (s ≤ y ∧ y - s ≤ ρ ∧ y - s < np ∧ y < nq) := by
    constructor
    · rintro ⟨h1, h2⟩
      have := hI _ h2
      omega
    · rintro ⟨h1, h2, h3, h4⟩
      refine ⟨h1, ?_⟩
      omega
  by_cases h : s ≤ y ∧ y - s < i
  · rw [if_pos h, if_pos (e.mp h)]
  · rw [if_neg h, if_neg (fun q => h (e.mpr q))]
theorem adI_succ {s i : Nat} {f g : Nat → Int32} : upd (adI s f g i) (i + s) (adI s f g i (i + s) + f i) = adI s f g (i + 1) := by
  funext y
  unfold upd adI
  by_cases h : y = i + s
  · subst h
    rw [if_pos rfl, if_neg (by omega), if_pos (by omega), show i + s - s = i by omega]
  · rw [if_neg h]
    have e : (s ≤ y ∧ y - s < i) ↔ (s ≤ y ∧ y - s < i + 1) := by omega
    by_cases h2 : s ≤ y ∧ y - s < i
    · rw [if_pos h2, if_pos (e.mp h2)]
    · rw [if_neg h2, if_neg (fun q => h2 (e.mpr q))]
set_option maxRecDepth 100000 in
set_option maxHeartbeats 4000000 in
theorem w_add {σ : Sto} {p q np nq ρ s : Nat} {f g : Nat → Int32} (hp : p < eN + 114) (hq : q < eN + 114) (hpq : p ≠ q) (hf : σ p = pI .int np f) (b1 : np < 2 ^ 30) (b2 : nq < 2 ^ 30) (b3 : ρ < 2 ^ 30) (b4 : s < 2 ^ 30) : ∀ k i, i + k = np → (∀ a, a < i → a ≤ ρ ∧ a < np ∧ a + s < nq) → PW mX5_addShifted 0 0 (fun v σ' => v = none ∧ σ' = va_up σ q (pI .int nq (adV np nq ρ s f g))) 3 [some (.ref p), some (.int (nI ρ)), some (.int (nI s)), some (.ref q), some (.int (nI i))] [] (eN + 114) (va_up σ q (pI .int nq (adI s f g i))) 0 0 := by
  have hf' : ∀ c, va_up σ q c p = pI .int np f := fun c => (up_ne _ _ hpq).trans hf
  intro k
  induction k with
  | zero =>
    intro i hi hI
    refine P_iload (q := 5) dX5_addShifted_3 rfl rfl ?_
    refine P_iload_n (q := 6) dX5_addShifted_5 rfl rfl ?_
    refine P_icmp_gt (q := 9) (tgt := 44) dX5_addShifted_6 rfl (by first | decide | exact lt_c (by decide)) (fun c_6 => ?_) (fun c_6 => ?_)
    · rw [nI_ltI (by omega) (by omega)] at c_6
      refine P_vret dX5_addShifted_44 rfl ?_
      exact ⟨rfl, by rw [adI_end hI (by omega)]⟩
    · rw [nI_ltI (by omega) (by omega)] at c_6
      refine P_iload (q := 11) dX5_addShifted_9 rfl rfl ?_
      refine P_aload_n (q := 12) dX5_addShifted_11 rfl rfl ?_
      refine P_ilen (q := 13) 0 (fun _ => rfl) dX5_addShifted_12 rfl (hp) (hf' _) ?_
      refine P_icmp_ge (q := 16) (tgt := 44) dX5_addShifted_13 rfl (by first | decide | exact lt_c (by decide)) (fun c_13 => ?_) (fun c_13 => ?_)
      · rw [nI_leI (by omega) (by omega)] at c_13
        refine P_vret dX5_addShifted_44 rfl ?_
        exact ⟨rfl, by rw [adI_end hI (by omega)]⟩
      · exfalso; rw [nI_leI (by omega) (by omega)] at c_13; omega
  | succ k ih =>
    intro i hi hI
    refine P_iload (q := 5) dX5_addShifted_3 rfl rfl ?_
    refine P_iload_n (q := 6) dX5_addShifted_5 rfl rfl ?_
    refine P_icmp_gt (q := 9) (tgt := 44) dX5_addShifted_6 rfl (by first | decide | exact lt_c (by decide)) (fun c_6 => ?_) (fun c_6 => ?_)
    · rw [nI_ltI (by omega) (by omega)] at c_6
      refine P_vret dX5_addShifted_44 rfl ?_
      exact ⟨rfl, by rw [adI_end hI (by omega)]⟩
    · rw [nI_ltI (by omega) (by omega)] at c_6
      refine P_iload (q := 11) dX5_addShifted_9 rfl rfl ?_
      refine P_aload_n (q := 12) dX5_addShifted_11 rfl rfl ?_
      refine P_ilen (q := 13) 0 (fun _ => rfl) dX5_addShifted_12 rfl (hp) (hf' _) ?_
      refine P_icmp_ge (q := 16) (tgt := 44) dX5_addShifted_13 rfl (by first | decide | exact lt_c (by decide)) (fun c_13 => ?_) (fun c_13 => ?_)
      · exfalso; rw [nI_leI (by omega) (by omega)] at c_13; omega
      · rw [nI_leI (by omega) (by omega)] at c_13
        refine P_iload (q := 18) dX5_addShifted_16 rfl rfl ?_
        refine P_iload_n (q := 19) dX5_addShifted_18 rfl rfl ?_
        refine P_iadd (q := 20) dX5_addShifted_19 rfl ?_
        refine P_aload_n (q := 21) dX5_addShifted_20 rfl rfl ?_
        refine P_ilen (q := 22) 0 (fun _ => rfl) dX5_addShifted_21 rfl (hq) (up_at _ _ _) ?_
        refine P_icmp_ge (q := 25) (tgt := 44) dX5_addShifted_22 rfl (by first | decide | exact lt_c (by decide)) (fun c_22 => ?_) (fun c_22 => ?_)
        · rw [nI_add, nI_leI (by omega) (by omega)] at c_22
          refine P_vret dX5_addShifted_44 rfl ?_
          exact ⟨rfl, by rw [adI_end hI (by omega)]⟩
        · rw [nI_add, nI_leI (by omega) (by omega)] at c_22
          refine P_aload_n (q := 26) dX5_addShifted_25 rfl rfl ?_
          refine P_iload (q := 28) dX5_addShifted_26 rfl rfl ?_
          refine P_iload_n (q := 29) dX5_addShifted_28 rfl rfl ?_
          refine P_iadd (q := 30) dX5_addShifted_29 rfl ?_
          refine P_dup2 (q := 31) dX5_addShifted_30 rfl rfl rfl ?_
          refine P_iald (q := 32) (j := i + s) dX5_addShifted_31 rfl (hq) (up_at _ _ _) (nI_add _ _) (by omega) (by omega) ?_
          refine P_aload_n (q := 33) dX5_addShifted_32 rfl rfl ?_
          refine P_iload (q := 35) dX5_addShifted_33 rfl rfl ?_
          refine P_iald (q := 36) (j := i) dX5_addShifted_35 rfl (hp) (hf' _) (rfl) (by omega) (by omega) ?_
          refine P_iadd (q := 37) dX5_addShifted_36 rfl ?_
          refine P_iast (q := 38) (j := i + s) (f' := adI s f g (i + 1)) (σ' := va_up σ q (pI .int nq (adI s f g (i + 1)))) dX5_addShifted_37 rfl (hq) (up_at _ _ _) (nI_add _ _) (by omega) (by omega) (adI_succ) (up_up _ _ _ _) ?_
          refine P_iinc (q := 41) (L' := [_, _, _, _, _]) (v := nI (i + 1)) dX5_addShifted_38 rfl (by first | decide | exact lt_c (by decide)) rfl (nI_1 i) rfl ?_
          refine P_goto (tgt := 3) dX5_addShifted_41 (by first | decide | exact lt_c (by decide)) ?_
          exact ih (i + 1) (by omega) (fun a ha => (Nat.lt_or_ge a i).elim (fun h => hI a h) (fun h => by omega))
set_option maxRecDepth 100000 in
set_option maxHeartbeats 4000000 in
theorem t_addShifted {σ : Sto} {p q np nq ρ s : Nat} {f g : Nat → Int32} (hp : p < eN + 114) (hq : q < eN + 114) (hpq : p ≠ q) (hf : σ p = pI .int np f) (b1 : np < 2 ^ 30) (b2 : nq < 2 ^ 30) (b3 : ρ < 2 ^ 30) (b4 : s < 2 ^ 30) (hg : σ q = pI .int nq g) : CD mX5_addShifted [.ref p, .int (nI ρ), .int (nI s), .ref q] (eN + 114) σ none (va_up σ q (pI .int nq (adV np nq ρ s f g))) := by
  refine CP_of (by decide +kernel) (Nat.le_of_ble_eq_true rfl) ?_
  change PW _ _ _ _ 0 [_, _, _, _, _] [] _ _ _ _
  refine P_iconst (q := 1) (v := nI 0) dX5_addShifted_0 rfl (by decide +kernel) ?_
  refine P_istore (q := 3) (L' := [_, _, _, _, _]) dX5_addShifted_1 rfl (by first | decide | exact lt_c (by decide)) rfl ?_
  have h := w_add (eN := eN) (g := g) (nq := nq) hp hq hpq hf b1 b2 b3 b4 np 0 (by omega) (fun a ha => by omega)
  rw [show va_up σ q (pI .int nq (adI s f g 0)) = σ from up_self (by rw [hg, show adI s f g 0 = g from funext fun y => if_neg (by omega)])] at h
  exact h
/-! a model of costs: columns, rows, closed, what a column costs, what two columns cost, reaches -/
abbrev Md : Type := Nat × Nat × Bool × (Nat → Nat → Nat) × (Nat → Nat → Nat) × (Nat → Nat) × Nat
def Md.C (m : Md) : Nat := m.1
def Md.R (m : Md) : Nat := m.2.1
def Md.K (m : Md) : Nat := 2 ^ m.R
def Md.cl (m : Md) : Bool := m.2.2.1
def Md.ci (m : Md) : Nat → Nat → Nat := m.2.2.2.1
def Md.cb (m : Md) : Nat → Nat → Nat := m.2.2.2.2.1
def Md.rc (m : Md) : Nat → Nat := m.2.2.2.2.2.1
def Md.wr (m : Md) : Nat := m.2.2.2.2.2.2
def Md.ok (m : Md) : Prop := (1 ≤ m.C ∧ m.C ≤ 10) ∧ (1 ≤ m.R ∧ m.R ≤ 3) ∧ (∀ k, k < m.K → m.ci 0 k ≤ m.rc 0) ∧ (∀ c s t, c + 1 < m.C → s < m.K → t < m.K → m.rc c + (m.cb s t + m.ci (c + 1) t) ≤ m.rc (c + 1)) ∧ (∀ c, c < m.C → m.rc c ≤ 190) ∧ (∀ s t, s < m.K → t < m.K → m.cb s t ≤ 190) ∧ (∀ c k, c < m.C → k < m.K → m.ci c k ≤ 190)
theorem Md.K_le {m : Md} (h : m.ok) : 1 ≤ m.K ∧ m.K ≤ 8 := ⟨Nat.two_pow_pos _, pow8 h.2.1.2⟩
/-- how many strips so far end in t and cost x, if the first column keeps to P -/
def Md.W (m : Md) (P : Nat → Bool) : Nat → Nat → Nat → Nat
  | 0, t, x => if P t = true ∧ x = m.ci 0 t then 1 else 0
  | c + 1, t, x => sumN m.K (fun s => if m.cb s t + m.ci (c + 1) t ≤ x then m.W P c s (x - (m.cb s t + m.ci (c + 1) t)) else 0)
theorem sumN_zero (n : Nat) : sumN n (fun _ => 0) = 0 := by
  induction n with
  | zero => rfl
  | succ n ih => rw [sumN, ih]
theorem Md.W_far {m : Md} (h : m.ok) (P : Nat → Bool) : ∀ c t x, c < m.C → t < m.K → m.rc c < x → m.W P c t x = 0
  | 0, t, x, hc, ht, hx => by
    have := h.2.2.1 t ht
    rw [Md.W, if_neg (by omega)]
  | c + 1, t, x, hc, ht, hx => by
    rw [Md.W]
    have e : ∀ s, s < m.K → (if m.cb s t + m.ci (c + 1) t ≤ x then m.W P c s (x - (m.cb s t + m.ci (c + 1) t)) else 0) = 0 := fun s hs => by
      split
      · have h1 := h.2.2.2.1 c s t hc hs ht
        exact Md.W_far h P c s _ (by omega) hs (by omega)
      · rfl
    rw [sumN_congr e, sumN_zero]
/-- the object of prices at b, with its rows -/
def prO (m : Md) (b : Nat) : PC := pO 3 [.int (nI m.C), .int (nI m.R), .int (nI m.K), .int (bI m.cl), .int (nI m.wr), .ref (b + 1), .ref (b + 2), .ref (b + 13)]
def PrW (σ : Sto) (b : Nat) (m : Md) : Prop := σ b = prO m b ∧ (∃ g : Nat → Int32, σ (b + 1) = pI .int 10 g ∧ ∀ c, c < m.C → g c = nI (m.rc c)) ∧ GW σ (b + 2) 10 8 m.C m.K m.ci ∧ GW σ (b + 13) 8 8 m.K m.K m.cb
theorem PrW.congr {σ τ : Sto} {b : Nat} {m : Md} (h : PrW σ b m) (he : ∀ k, b ≤ k → k ≤ b + 21 → τ k = σ k) : PrW τ b m := by
  obtain ⟨h1, ⟨g, h2, h3⟩, h4, h5⟩ := h
  exact ⟨(he b (by omega) (by omega)).trans h1, ⟨g, (he _ (by omega) (by omega)).trans h2, h3⟩, h4.congr (fun k a b => he k (by omega) (by omega)), h5.congr (fun k a b => he k (by omega) (by omega))⟩
set_option maxRecDepth 100000 in
set_option maxHeartbeats 4000000 in
theorem t_seam {σ : Sto} {b : Nat} {m : Md} (hm : m.ok) (hb : b + 21 < eN + 114) (hP : PrW σ b m) {s t : Nat} (hs : s < m.K) (ht : t < m.K) : CD mX3_seam [.ref b, .int (nI s), .int (nI t)] (eN + 114) σ (some (.int (nI (if m.cl then m.cb s t else 0)))) σ := by
  obtain ⟨h1, -, -, h5⟩ := hP
  have hK := Md.K_le hm
  obtain ⟨g, g1, g2⟩ := h5.2 s (by omega)
  have g3 := g2 hs t ht
  have h50 := h5.1
  refine CP_of (by decide +kernel) (Nat.le_of_ble_eq_true rfl) ?_
  change PW _ _ _ _ 0 [_, _, _] [] _ _ _ _
  refine P_aload_n (q := 1) dX3_seam_0 rfl rfl ?_
  refine P_get (q := 4) dX3_seam_1 rfl fX3_21 (by omega) (by assumption) rfl ?_
  refine P_if_eq (q := 7) (tgt := 18) dX3_seam_4 rfl (by first | decide | exact lt_c (by decide)) (fun c_4 => ?_) (fun c_4 => ?_)
  · rw [bI_0] at c_4
    refine P_iconst (q := 19) (v := nI 0) dX3_seam_18 rfl (by decide +kernel) ?_
    refine P_iret dX3_seam_19 rfl (rfl) ?_
    exact ⟨rv_i (by rw [c_4]; first | rfl | (rw [g3]; rfl)), rfl⟩
  · rw [bI_n] at c_4
    refine P_aload_n (q := 8) dX3_seam_7 rfl rfl ?_
    refine P_get (q := 11) dX3_seam_8 rfl fX3_37 (by omega) (by assumption) rfl ?_
    refine P_iload_n (q := 12) dX3_seam_11 rfl rfl ?_
    refine P_qald (q := 13) (j := s) (b := b + 13 + 1 + s) 2 (fun _ => rfl) rfl dX3_seam_12 rfl (by omega) (h50) (rfl) (by omega) (by first | decide | exact lt_c (by decide)) (grR_at (by omega)) ?_
    refine P_iload_n (q := 14) dX3_seam_13 rfl rfl ?_
    refine P_iald (q := 15) (j := t) dX3_seam_14 rfl (by omega) (g1) (rfl) (by omega) (by first | decide | exact lt_c (by decide)) ?_
    refine P_goto (tgt := 19) dX3_seam_15 (by first | decide | exact lt_c (by decide)) ?_
    refine P_iret dX3_seam_19 rfl (rfl) ?_
    exact ⟨rv_i (by rw [c_4]; first | rfl | (rw [g3]; rfl)), rfl⟩
