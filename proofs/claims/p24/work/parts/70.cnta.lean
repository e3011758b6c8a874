/-! COUNTS: of all strips -/
def St.sf (A : St) (w : Bool) (s f : Nat) : Int := if A.lp = true then A.lnk w s f else 0
def St.FE (A : St) (w : Bool) (P : Nat → Bool) (f n : Nat) (e : Int) : Nat := sumN n (fun s => A.WE w P (A.C - 1) s (e - A.sf w s f))
def St.CE (A : St) (w : Bool) (e : Int) : Nat := if A.lp = true then sumN (2 ^ A.R) (fun f => A.FE w (rng f (f + 1)) f (2 ^ A.R) e) else A.FE w (rng 0 (2 ^ A.R)) 0 (2 ^ A.R) e
def St.rhoW (A : St) (w : Bool) : Int := if w then 0 else ((A.md false).wr : Int)
theorem rhoW_E {A : St} (hA : A.ok) (w : Bool) : A.rhoW w = A.rho w (A.C - 1) + (if A.lp = true then (if w then 0 else (A.R : Int) * (A.al.natAbs : Int)) else 0) := by
  have hC := hA.1
  have e : A.C - 1 + 1 = A.C := by omega
  cases w with
  | true => show (0 : Int) = 0 + _; split <;> rfl
  | false =>
    show ((if A.lp then A.reach false A.C + A.R * A.al.natAbs else A.reach false A.C : Nat) : Int) = (A.reach false (A.C - 1 + 1) : Int) + (if A.lp = true then (A.R : Int) * (A.al.natAbs : Int) else 0)
    rw [e]
    cases A.lp
    · show ((A.reach false A.C : Nat) : Int) = _ + 0; omega
    · show ((A.reach false A.C + A.R * A.al.natAbs : Nat) : Int) = _ + (A.R : Int) * _
      rw [Int.natCast_add, Int.natCast_mul]
theorem sf_E {A : St} (hA : A.ok) (w : Bool) {s f : Nat} (hs : s < 2 ^ A.R) (hf : f < 2 ^ A.R) : A.sf w s f = kap w * ((A.md w).sm f s : Int) - (A.rhoW w - A.rho w (A.C - 1)) := by
  rw [rhoW_E hA w]
  unfold St.sf Md.sm
  rw [show (A.md w).cl = A.lp from rfl]
  cases A.lp
  · show (0 : Int) = kap w * ((0 : Nat) : Int) - (_ + 0 - _)
    rw [Int.natCast_zero, Int.mul_zero]; omega
  · show A.lnk w s f = kap w * ((A.md w).cb s f : Int) - (_ + _ - _)
    rw [lnk_E hA w hs hf, if_pos rfl]; omega
theorem FE_fn {A : St} (hA : A.ok) (w : Bool) (P : Nat → Bool) {f : Nat} (hf : f < 2 ^ A.R) {n : Nat} (hn : n ≤ 2 ^ A.R) : (∀ x : Nat, A.FE w P f n (kap w * (x : Int) - A.rhoW w) = (A.md w).fn P f n x) ∧ ∀ e, (∀ x : Nat, e ≠ kap w * (x : Int) - A.rhoW w) → A.FE w P f n e = 0 := by
  refine ⟨fun x => sumN_congr fun s hs => ?_, fun e he => ?_⟩
  · obtain ⟨h1, h2⟩ := WE_W hA w P (A.C - 1) s (by omega)
    rw [sf_E hA w (by omega) hf, show (A.md w).C - 1 = A.C - 1 from rfl]
    generalize (A.md w).sm f s = d
    by_cases hx : d ≤ x
    · rw [if_pos hx, ← h1 (x - d)]
      congr 1
      rw [Int.natCast_sub hx, Int.mul_sub]
      omega
    · rw [if_neg hx]
      refine h2 _ (fun y hy => ?_)
      cases w
      · have hy : 2 * (x : Int) - A.rhoW false - (2 * (d : Int) - (A.rhoW false - A.rho false (A.C - 1))) = 2 * (y : Int) - A.rho false (A.C - 1) := hy
        omega
      · have hy : 1 * (x : Int) - A.rhoW true - (1 * (d : Int) - (A.rhoW true - A.rho true (A.C - 1))) = 1 * (y : Int) - A.rho true (A.C - 1) := hy
        omega
  · show sumN n _ = 0
    rw [← sumN_zero n]
    refine sumN_congr fun s hs => ?_
    obtain ⟨h1, h2⟩ := WE_W hA w P (A.C - 1) s (by omega)
    refine h2 _ (fun y hy => he (y + (A.md w).sm f s) ?_)
    rw [sf_E hA w (by omega) hf] at hy
    rw [Int.natCast_add, Int.mul_add]
    omega
theorem CE_cnt {A : St} (hA : A.ok) (w : Bool) : (∀ x : Nat, A.CE w (kap w * (x : Int) - A.rhoW w) = (A.md w).cnt x) ∧ ∀ e, (∀ x : Nat, e ≠ kap w * (x : Int) - A.rhoW w) → A.CE w e = 0 := by
  have h0 := Nat.two_pow_pos A.R
  unfold St.CE Md.cnt
  rw [show (A.md w).cl = A.lp from rfl]
  cases A.lp
  · exact FE_fn hA w _ h0 (Nat.le_refl _)
  · refine ⟨fun x => sumN_congr fun f hf => (FE_fn hA w _ hf (Nat.le_refl _)).1 x, fun e he => ?_⟩
    show sumN (2 ^ A.R) _ = 0
    rw [← sumN_zero (2 ^ A.R)]
    exact sumN_congr fun f hf => (FE_fn hA w _ hf (Nat.le_refl _)).2 e he
theorem fn_far {A : St} (hA : A.ok) (w : Bool) (P : Nat → Bool) {f : Nat} (hf : f < 2 ^ A.R) {x : Nat} (hx : (A.md w).wr < x) {n : Nat} (hn : n ≤ 2 ^ A.R) : (A.md w).fn P f n x = 0 := by
  refine (sumN_congr (g := fun _ => 0) fun s hs => ?_).trans (sumN_zero n)
  have hC := hA.1
  have hR := hA.2.1
  have hrc : (A.md w).rc (A.C - 1) = A.reach w A.C := by
    show A.reach w (A.C - 1 + 1) = _
    rw [show A.C - 1 + 1 = A.C by omega]
  by_cases h : (A.md w).sm f s ≤ x
  · rw [if_pos h]
    refine Md.W_far (St.md_ok hA w) P _ s _ (show A.C - 1 < A.C by omega) (show s < 2 ^ A.R by omega) ?_
    show (A.md w).rc (A.C - 1) < _
    rw [hrc]
    have hsm : (A.md w).sm f s + A.reach w A.C ≤ (A.md w).wr := by
      unfold Md.sm
      rw [show (A.md w).cl = A.lp from rfl, show (A.md w).wr = if A.lp then A.reach w A.C + A.R * (A.wl w).natAbs else A.reach w A.C from rfl]
      cases A.lp
      · show 0 + _ ≤ A.reach w A.C; omega
      · show cbF (A.wl w) A.R s f + _ ≤ A.reach w A.C + A.R * (A.wl w).natAbs
        have := prc_le (p := A.wl w) (kd_dec hR.1 hR.2 (show s < 2 ^ A.R by omega) hf).1
        rw [Nat.mul_comm] at this
        show prc _ _ _ + _ ≤ _
        omega
    omega
  · rw [if_neg h]
theorem cnt_far {A : St} (hA : A.ok) (w : Bool) {x : Nat} (hx : (A.md w).wr < x) : (A.md w).cnt x = 0 := by
  have h0 := Nat.two_pow_pos A.R
  unfold Md.cnt
  rw [show (A.md w).cl = A.lp from rfl]
  cases A.lp
  · exact fn_far hA w _ h0 hx (Nat.le_refl _)
  · show sumN (2 ^ A.R) _ = 0
    rw [← sumN_zero (2 ^ A.R)]
    exact sumN_congr fun f hf => fn_far hA w _ hf hx (Nat.le_refl _)
theorem CE_me {A : St} (hA : A.ok) (z : Int) : A.CE false z = (A.md false).me z := by
  obtain ⟨h1, h2⟩ := CE_cnt hA false
  have hw := wr_190 hA false
  unfold Md.me
  by_cases h : ∃ x : Nat, z = kap false * (x : Int) - A.rhoW false
  · obtain ⟨x, rfl⟩ := h
    rw [h1]
    have e : kap false * (x : Int) - A.rhoW false = 2 * (x : Int) - ((A.md false).wr : Int) := rfl
    rw [e]
    have e2 : (2 * (x : Int) - ((A.md false).wr : Int) + ((A.md false).wr : Int)).toNat / 2 = x := by omega
    by_cases hx : x ≤ (A.md false).wr
    · rw [if_pos ⟨by omega, by omega, by omega, by omega⟩, e2]
    · rw [if_neg (fun q => hx (by omega))]
      exact cnt_far hA false (by omega)
  · rw [h2 z (fun x hx => h ⟨x, hx⟩), if_neg]
    rintro ⟨q1, q2, q3, q4⟩
    refine h ⟨((z + ((A.md false).wr : Int)).toNat / 2), ?_⟩
    show z = 2 * (((z + ((A.md false).wr : Int)).toNat / 2 : Nat) : Int) - ((A.md false).wr : Int)
    omega
theorem CE_ww {A : St} (hA : A.ok) (z : Int) : A.CE true z = if 0 ≤ z ∧ z < 191 then (A.md true).cnt z.toNat else 0 := by
  obtain ⟨h1, h2⟩ := CE_cnt hA true
  have hw := wr_190 hA true
  by_cases h : 0 ≤ z
  · obtain ⟨x, rfl⟩ : ∃ x : Nat, z = x := ⟨z.toNat, by omega⟩
    have h3 := h1 x
    rw [show kap true * (x : Int) - A.rhoW true = 1 * (x : Int) - 0 from rfl, show 1 * (x : Int) - 0 = x by omega] at h3
    rw [h3, Int.toNat_natCast]
    by_cases hx : x < 191
    · rw [if_pos ⟨by omega, by omega⟩]
    · rw [if_neg (fun q => hx (by omega))]
      exact cnt_far hA true (by omega)
  · rw [if_neg (fun q => h q.1)]
    refine h2 z (fun x hx => h ?_)
    have hx : z = 1 * (x : Int) - 0 := hx
    omega
theorem CE_le {A : St} (hA : A.ok) (w : Bool) (e : Int) : A.CE w e ≤ 2 ^ 30 := by
  obtain ⟨h1, h2⟩ := CE_cnt hA w
  by_cases h : ∃ x : Nat, e = kap w * (x : Int) - A.rhoW w
  · obtain ⟨x, rfl⟩ := h
    rw [h1]
    exact cnt_le (St.md_ok hA w) x
  · rw [h2 e (fun x hx => h ⟨x, hx⟩)]
    exact Nat.zero_le _
theorem sumN_term {f : Nat → Nat} {i : Nat} : ∀ {n : Nat}, i < n → f i ≤ sumN n f
  | 0, h => by omega
  | n + 1, h => by
    show f i ≤ sumN n f + f n
    by_cases e : i = n
    · subst e; omega
    · have := sumN_term (f := f) (n := n) (show i < n by omega); omega
theorem W_ex {m : Md} {P : Nat → Bool} (hP : P 0 = true) : ∀ c, ∃ x, m.W P c 0 x ≠ 0
  | 0 => ⟨m.ci 0 0, by show (if P 0 = true ∧ m.ci 0 0 = m.ci 0 0 then 1 else 0) ≠ 0; rw [if_pos ⟨hP, rfl⟩]; decide⟩
  | c + 1 => by
    obtain ⟨x, hx⟩ := W_ex hP c
    refine ⟨x + (m.cb 0 0 + m.ci (c + 1) 0), ?_⟩
    have h := sumN_term (f := fun s => if m.cb s 0 + m.ci (c + 1) 0 ≤ x + (m.cb 0 0 + m.ci (c + 1) 0) then m.W P c s (x + (m.cb 0 0 + m.ci (c + 1) 0) - (m.cb s 0 + m.ci (c + 1) 0)) else 0) (n := m.K) (i := 0) (Nat.two_pow_pos _)
    simp only [if_pos (Nat.le_add_left _ x), Nat.add_sub_cancel] at h
    exact Nat.ne_of_gt (Nat.lt_of_lt_of_le (Nat.pos_of_ne_zero hx) h)
theorem cnt_ex (m : Md) : ∃ x, m.cnt x ≠ 0 := by
  have hK : 0 < m.K := Nat.two_pow_pos _
  have hf : ∀ P : Nat → Bool, P 0 = true → ∃ x, m.fn P 0 m.K x ≠ 0 := fun P hP => by
    obtain ⟨x, hx⟩ := W_ex (m := m) hP (m.C - 1)
    refine ⟨x + m.sm 0 0, ?_⟩
    have h := sumN_term (f := fun k => if m.sm 0 k ≤ x + m.sm 0 0 then m.W P (m.C - 1) k (x + m.sm 0 0 - m.sm 0 k) else 0) (n := m.K) (i := 0) hK
    simp only [if_pos (Nat.le_add_left _ x), Nat.add_sub_cancel] at h
    exact Nat.ne_of_gt (Nat.lt_of_lt_of_le (Nat.pos_of_ne_zero hx) h)
  unfold Md.cnt
  by_cases hc : m.cl = true
  · rw [hc]
    obtain ⟨x, hx⟩ := hf (rng 0 1) (by decide)
    refine ⟨x, ?_⟩
    have h := sumN_term (f := fun f => m.fn (rng f (f + 1)) f m.K x) (n := m.K) (i := 0) hK
    simp only [if_true]
    have h : m.fn (rng 0 1) 0 m.K x ≤ _ := h
    omega
  · obtain ⟨x, hx⟩ := hf (rng 0 m.K) (decide_eq_true ⟨Nat.le_refl _, hK⟩)
    refine ⟨x, ?_⟩
    rw [if_neg hc]
    exact hx
theorem fsA_no {P : Nat → Bool} : ∀ n i, (∀ q, i ≤ q → q < i + n → P q = false) → fsA P n i = i + n
  | 0, i, _ => rfl
  | n + 1, i, h => by
    rw [fsA, if_neg (by rw [h i (Nat.le_refl _) (by omega)]; decide), fsA_no n (i + 1) (fun q a b => h q (by omega) (by omega))]
    omega
theorem fsA_to {P : Nat → Bool} (n : Nat) (h : ∃ q, q ≤ n ∧ P q = true) : P (fsA P n 0) = true ∧ fsA P n 0 ≤ n ∧ ∀ q, q < fsA P n 0 → P q = false := by
  obtain ⟨q, h1, h2⟩ := h
  by_cases e : ∃ q, 0 ≤ q ∧ q < 0 + n ∧ P q = true
  · obtain ⟨a, b, c, d⟩ := fsA_at e
    exact ⟨a, by omega, fun q hq => d q (Nat.zero_le _) hq⟩
  · have hno : ∀ q, 0 ≤ q → q < 0 + n → P q = false := fun q a b => Classical.byContradiction fun c => e ⟨q, a, b, Bool.not_eq_false _ ▸ c⟩
    rw [fsA_no n 0 hno, Nat.zero_add]
    have hq : q = n := Classical.byContradiction fun c => by
      rw [hno q (Nat.zero_le _) (by omega)] at h2; cases h2
    rw [hq] at h2
    exact ⟨h2, Nat.le_refl _, fun q hq => hno q (Nat.zero_le _) (by omega)⟩
theorem hiA_at {P : Nat → Bool} : ∀ n, (∃ q, q ≤ n ∧ P q = true) → P (hiA P n) = true ∧ ∀ q, hiA P n < q → q ≤ n → P q = false
  | 0, ⟨q, h1, h2⟩ => ⟨by rw [show q = 0 by omega] at h2; exact h2, fun q a b => by omega⟩
  | n + 1, ⟨q, h1, h2⟩ => by
    unfold hiA
    by_cases h : P (n + 1) = true
    · rw [if_pos h]
      exact ⟨h, fun q a b => by omega⟩
    · rw [if_neg h]
      have hq : q ≠ n + 1 := fun e => h (e ▸ h2)
      obtain ⟨a, b⟩ := hiA_at n ⟨q, by omega, h2⟩
      refine ⟨a, fun q' c d => ?_⟩
      by_cases e : q' = n + 1
      · rw [e]; exact Bool.not_eq_true _ ▸ h
      · exact b q' c (by omega)
/-- the least and the greatest energy, as places from 0 to 400 -/
theorem lo_hi {A : St} (hA : A.ok) : (∃ l : Nat, l ≤ 400 ∧ (l : Int) - 200 = 2 * ((A.md false).lo : Int) - ((A.md false).wr : Int) ∧ A.CE false ((l : Int) - 200) ≠ 0 ∧ ∀ y : Nat, y < l → A.CE false ((y : Int) - 200) = 0) ∧ ∃ h : Nat, h ≤ 400 ∧ (h : Int) - 200 = 2 * ((A.md false).hi : Int) - ((A.md false).wr : Int) ∧ A.CE false ((h : Int) - 200) ≠ 0 ∧ ∀ y : Nat, h < y → y ≤ 400 → A.CE false ((y : Int) - 200) = 0 := by
  obtain ⟨h1, h2⟩ := CE_cnt hA false
  have hw := wr_190 hA false
  obtain ⟨x0, hx0⟩ := cnt_ex (A.md false)
  have hx1 : x0 ≤ (A.md false).wr := Nat.le_of_not_lt fun q => hx0 (cnt_far hA false q)
  have ek : ∀ x : Nat, kap false * (x : Int) - A.rhoW false = 2 * (x : Int) - ((A.md false).wr : Int) := fun x => rfl
  have hnz : ∀ x, (A.md false).nz x = true ↔ (A.md false).cnt x ≠ 0 := fun x => decide_eq_true_iff
  have hnf : ∀ x, (A.md false).nz x = false → (A.md false).cnt x = 0 := fun x h => Classical.byContradiction fun q => by
    rw [(hnz x).mpr q] at h; cases h
  have cz : ∀ y : Int, (∀ x : Nat, y = 2 * (x : Int) - ((A.md false).wr : Int) → (A.md false).cnt x = 0) → A.CE false y = 0 := fun y hy => by
    by_cases h : ∃ x : Nat, y = kap false * (x : Int) - A.rhoW false
    · obtain ⟨x, rfl⟩ := h
      rw [h1]; exact hy x rfl
    · exact h2 y (fun x hx => h ⟨x, hx⟩)
  constructor
  · obtain ⟨a, hle, b⟩ := fsA_to (P := (A.md false).nz) 190 ⟨x0, by omega, (hnz x0).mpr hx0⟩
    have elo : fsA (A.md false).nz 190 0 = (A.md false).lo := rfl
    rw [elo] at a b hle
    have hc := (hnz _).mp a
    have hw2 : (A.md false).lo ≤ (A.md false).wr := Nat.le_of_not_lt fun q => hc (cnt_far hA false q)
    refine ⟨(200 + 2 * ((A.md false).lo : Int) - ((A.md false).wr : Int)).toNat, by omega, by omega, ?_, fun y hy => cz _ fun x hx => hnf x (b x (by omega))⟩
    rw [show (((200 + 2 * ((A.md false).lo : Int) - ((A.md false).wr : Int)).toNat : Nat) : Int) - 200 = 2 * ((A.md false).lo : Int) - ((A.md false).wr : Int) by omega, ← ek, h1]
    exact hc
  · obtain ⟨a, b⟩ := hiA_at (P := (A.md false).nz) 190 ⟨x0, by omega, (hnz x0).mpr hx0⟩
    have hle := hiA_le (A.md false).nz 190
    have ehi : hiA (A.md false).nz 190 = (A.md false).hi := rfl
    rw [ehi] at a b hle
    have hc := (hnz _).mp a
    have hw2 : (A.md false).hi ≤ (A.md false).wr := Nat.le_of_not_lt fun q => hc (cnt_far hA false q)
    refine ⟨(200 + 2 * ((A.md false).hi : Int) - ((A.md false).wr : Int)).toNat, by omega, by omega, ?_, fun y hy hy2 => cz _ fun x hx => ?_⟩
    · rw [show (((200 + 2 * ((A.md false).hi : Int) - ((A.md false).wr : Int)).toNat : Nat) : Int) - 200 = 2 * ((A.md false).hi : Int) - ((A.md false).wr : Int) by omega, ← ek, h1]
      exact hc
    · by_cases q : x ≤ 190
      · exact hnf x (b x (by omega) q)
      · exact cnt_far hA false (by omega)
