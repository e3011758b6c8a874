/-! THE LEAST, BY SPINS UP: by energy, as the reference counts, and by cost -/
def St.WU (A : St) (P : Nat → Bool) : Nat → Nat → Nat → Int → Nat
  | 0, t, u, e => if P t = true ∧ u = pcN 3 t ∧ e = A.col false 0 t then 1 else 0
  | c + 1, t, u, e => sumN (2 ^ A.R) (fun s => if pcN 3 t ≤ u then A.WU P c s (u - pcN 3 t) (e - A.mo false c s t) else 0)
def Md.V (m : Md) (P : Nat → Bool) : Nat → Nat → Nat → Nat → Nat
  | 0, t, u, x => if P t = true ∧ u = pcN 3 t ∧ x = m.ci 0 t then 1 else 0
  | c + 1, t, u, x => sumN m.K (fun s => if pcN 3 t ≤ u ∧ m.cb s t + m.ci (c + 1) t ≤ x then m.V P c s (u - pcN 3 t) (x - (m.cb s t + m.ci (c + 1) t)) else 0)
theorem sumN_none {n : Nat} {f : Nat → Nat} (h : ∀ i, i < n → f i = 0) : sumN n f = 0 := (sumN_congr (g := fun _ => 0) h).trans (sumN_zero n)
theorem WU_V {A : St} (hA : A.ok) (P : Nat → Bool) : ∀ c t u, t < 2 ^ A.R → (∀ x : Nat, A.WU P c t u (2 * (x : Int) - A.rho false c) = (A.md false).V P c t u x) ∧ ∀ e, (∀ x : Nat, e ≠ 2 * (x : Int) - A.rho false c) → A.WU P c t u e = 0
  | 0, t, u, ht => by
    have hc := col_E hA false 0 ht
    rw [← rho_0] at hc
    have hc : A.col false 0 t = 2 * ((A.md false).ci 0 t : Int) - A.rho false 0 := hc
    refine ⟨fun x => ?_, fun e he => ?_⟩
    · show (if P t = true ∧ u = pcN 3 t ∧ 2 * (x : Int) - A.rho false 0 = A.col false 0 t then 1 else 0) = if P t = true ∧ u = pcN 3 t ∧ x = (A.md false).ci 0 t then 1 else 0
      have e : (2 * (x : Int) - A.rho false 0 = A.col false 0 t) ↔ x = (A.md false).ci 0 t := by rw [hc]; omega
      simp only [e]
    · exact if_neg (fun q => he _ (q.2.2.trans hc))
  | c + 1, t, u, ht => by
    refine ⟨fun x => sumN_congr fun s hs => ?_, fun e he => sumN_none fun s hs => ?_⟩
    · by_cases hu : pcN 3 t ≤ u
      · obtain ⟨h1, h2⟩ := WU_V hA P c s (u - pcN 3 t) hs
        have hm := more_E hA false c hs ht
        have hm : A.mo false c s t = 2 * (((A.md false).cb s t + (A.md false).ci (c + 1) t : Nat) : Int) - (A.rho false (c + 1) - A.rho false c) := hm
        rw [if_pos hu, hm]
        generalize hd : (A.md false).cb s t + (A.md false).ci (c + 1) t = d
        by_cases hx : d ≤ x
        · rw [if_pos ⟨hu, hx⟩, ← h1 (x - d)]
          congr 1
          omega
        · rw [if_neg (fun q => hx q.2)]
          exact h2 _ (fun y hy => by omega)
      · rw [if_neg hu, if_neg (fun q => hu q.1)]
    · by_cases hu : pcN 3 t ≤ u
      · obtain ⟨h1, h2⟩ := WU_V hA P c s (u - pcN 3 t) hs
        have hm := more_E hA false c hs ht
        have hm : A.mo false c s t = 2 * (((A.md false).cb s t + (A.md false).ci (c + 1) t : Nat) : Int) - (A.rho false (c + 1) - A.rho false c) := hm
        show (if _ then _ else _) = 0
        rw [if_pos hu]
        exact h2 _ (fun y hy => he (y + ((A.md false).cb s t + (A.md false).ci (c + 1) t)) (by omega))
      · exact if_neg hu
theorem pc_R : ∀ R, R < 4 → ∀ t, t < 2 ^ R → pcN 3 t ≤ R := by decide +kernel
theorem sumN_pos {f : Nat → Nat} : ∀ {n : Nat}, sumN n f ≠ 0 → ∃ i, i < n ∧ f i ≠ 0
  | 0, h => absurd rfl h
  | n + 1, h => by
    by_cases e : f n = 0
    · obtain ⟨i, h1, h2⟩ := sumN_pos (f := f) (n := n) (fun q => h (by show sumN n f + f n = 0; omega))
      exact ⟨i, by omega, h2⟩
    · exact ⟨n, by omega, e⟩
theorem WU_u {A : St} (hA : A.ok) (P : Nat → Bool) : ∀ c t u e, t < 2 ^ A.R → A.WU P c t u e ≠ 0 → u ≤ A.R * (c + 1)
  | 0, t, u, e, ht, h => by
    have h : (if P t = true ∧ u = pcN 3 t ∧ e = A.col false 0 t then 1 else 0) ≠ 0 := h
    by_cases q : P t = true ∧ u = pcN 3 t ∧ e = A.col false 0 t
    · rw [q.2.1, Nat.zero_add, Nat.mul_one]
      exact pc_R A.R (by have := hA.2.1.2; omega) t ht
    · rw [if_neg q] at h; exact absurd rfl h
  | c + 1, t, u, e, ht, h => by
    obtain ⟨s, hs, h2⟩ := sumN_pos h
    by_cases q : pcN 3 t ≤ u
    · have h2 : (if pcN 3 t ≤ u then A.WU P c s (u - pcN 3 t) (e - A.mo false c s t) else 0) ≠ 0 := h2
      rw [if_pos q] at h2
      have h3 := WU_u hA P c s _ _ hs h2
      have h4 := pc_R A.R (by have := hA.2.1.2; omega) t ht
      rw [Nat.mul_add A.R (c + 1) 1, Nat.mul_one]
      omega
    · exact absurd (if_neg q) h2
theorem V_0 (m : Md) : ∀ c t u x, m.V (rng 0 0) c t u x = 0
  | 0, t, u, x => if_neg (fun q => by have := of_decide_eq_true q.1; omega)
  | c + 1, t, u, x => sumN_none fun s _ => by
    split
    · exact V_0 m c s _ _
    · rfl
theorem V_s (m : Md) (n : Nat) : ∀ c t u x, m.V (rng 0 (n + 1)) c t u x = m.V (rng 0 n) c t u x + m.V (rng n (n + 1)) c t u x
  | 0, t, u, x => by
    show (if _ then 1 else 0) = (if _ then 1 else 0) + (if _ then 1 else 0)
    unfold rng
    simp only [decide_eq_true_iff]
    by_cases h : u = pcN 3 t ∧ x = m.ci 0 t
    · rcases Nat.lt_trichotomy t n with h1 | h1 | h1
      · rw [if_pos ⟨by omega, h⟩, if_pos ⟨by omega, h⟩, if_neg (fun q => by omega)]
      · rw [if_pos ⟨by omega, h⟩, if_neg (fun q => by omega), if_pos ⟨by omega, h⟩]
      · rw [if_neg (fun q => by omega), if_neg (fun q => by omega), if_neg (fun q => by omega)]
    · rw [if_neg (fun q => h q.2), if_neg (fun q => h q.2), if_neg (fun q => h q.2)]
  | c + 1, t, u, x => by
    show sumN m.K _ = sumN m.K _ + sumN m.K _
    rw [← sumN_add]
    refine sumN_congr fun s _ => ?_
    split
    · exact V_s m n c s _ _
    · rfl
theorem V_sum (m : Md) (c t u x : Nat) : ∀ n, m.V (rng 0 n) c t u x = sumN n (fun f => m.V (rng f (f + 1)) c t u x)
  | 0 => V_0 m c t u x
  | n + 1 => by
    rw [V_s, V_sum m c t u x n]; rfl
theorem B_le_cn {m : Md} {f c s t : Nat} (hc : c + 1 < m.C) (ht : t < m.K) : m.B f c s ≤ m.cn f c s t := by
  rw [Md.B_step hc]
  exact mnN_le (by omega)
theorem V_min {m : Md} {f : Nat} : ∀ c t u x, c < m.C → t < m.K → m.V (rng f (f + 1)) c t u x ≠ 0 → m.L f ≤ x + m.B f c t
  | 0, t, u, x, hc, ht, h => by
    have h : (if rng f (f + 1) t = true ∧ u = pcN 3 t ∧ x = m.ci 0 t then 1 else 0) ≠ 0 := h
    by_cases q : rng f (f + 1) t = true ∧ u = pcN 3 t ∧ x = m.ci 0 t
    · have h1 := of_decide_eq_true q.1
      have e : t = f := by omega
      rw [q.2.2, e]
      exact Nat.le_refl _
    · exact absurd (if_neg q) h
  | c + 1, t, u, x, hc, ht, h => by
    obtain ⟨s, hs, h2⟩ := sumN_pos h
    have h2 : (if pcN 3 t ≤ u ∧ m.cb s t + m.ci (c + 1) t ≤ x then m.V (rng f (f + 1)) c s (u - pcN 3 t) (x - (m.cb s t + m.ci (c + 1) t)) else 0) ≠ 0 := h2
    by_cases q : pcN 3 t ≤ u ∧ m.cb s t + m.ci (c + 1) t ≤ x
    · rw [if_pos q] at h2
      have h3 := V_min c s _ _ (by omega) hs h2
      have h4 : m.B f c s ≤ m.cb s t + m.ci (c + 1) t + m.B f (c + 1) t := B_le_cn hc ht
      omega
    · exact absurd (if_neg q) h2
theorem D_V {m : Md} {f : Nat} : ∀ c t u, c < m.C → t < m.K → m.D f c t u = if m.B f c t ≤ m.L f then m.V (rng f (f + 1)) c t u (m.L f - m.B f c t) else 0
  | 0, t, u, hc, ht => by
    have eL : m.L f = m.ci 0 f + m.B f 0 f := rfl
    show (if t = f ∧ u = pcN 3 t then 1 else 0) = if m.B f 0 t ≤ m.L f then (if rng f (f + 1) t = true ∧ u = pcN 3 t ∧ m.L f - m.B f 0 t = m.ci 0 t then 1 else 0) else 0
    by_cases h : t = f
    · subst h
      rw [if_pos (show m.B t 0 t ≤ m.L t by omega)]
      by_cases h2 : u = pcN 3 t
      · rw [if_pos ⟨rfl, h2⟩, if_pos ⟨decide_eq_true ⟨Nat.le_refl _, Nat.lt_succ_self _⟩, h2, by omega⟩]
      · rw [if_neg (fun q => h2 q.2), if_neg (fun q => h2 q.2.1)]
    · rw [if_neg (fun q => h q.1)]
      split
      · rw [if_neg (fun q => h (by have := of_decide_eq_true q.1; omega))]
      · rfl
  | c + 1, t, u, hc, ht => by
    have ecn : ∀ s, m.cn f c s t = m.cb s t + m.ci (c + 1) t + m.B f (c + 1) t := fun s => rfl
    by_cases hB : m.B f (c + 1) t ≤ m.L f
    · rw [if_pos hB]
      refine sumN_congr fun s hs => ?_
      have hd := D_V (f := f) c s (u - pcN 3 t) (by omega) hs
      have hle := B_le_cn (m := m) (f := f) (s := s) hc ht
      by_cases hu : pcN 3 t ≤ u
      · by_cases he : m.cn f c s t = m.B f c s
        · rw [if_pos ⟨he, hu⟩, hd]
          by_cases hl : m.B f c s ≤ m.L f
          · rw [if_pos hl, if_pos ⟨hu, by have := ecn s; omega⟩]
            congr 1
            have := ecn s; omega
          · rw [if_neg hl, if_neg (fun q => hl (by have := ecn s; omega))]
        · rw [if_neg (fun q => he q.1)]
          by_cases q : pcN 3 t ≤ u ∧ m.cb s t + m.ci (c + 1) t ≤ m.L f - m.B f (c + 1) t
          · rw [if_pos q]
            refine (Classical.byContradiction fun hne => ?_ : m.V _ c s _ _ = 0).symm
            have h3 := V_min c s _ _ (by omega) hs hne
            have := ecn s
            omega
          · rw [if_neg q]
      · rw [if_neg (fun q => hu q.2), if_neg (fun q => hu q.1)]
    · rw [if_neg hB]
      refine sumN_none fun s hs => ?_
      by_cases q : m.cn f c s t = m.B f c s ∧ pcN 3 t ≤ u
      · rw [if_pos q, D_V (f := f) c s _ (by omega) hs, if_neg]
        have := ecn s
        omega
      · exact if_neg q
def Md.fnV (m : Md) (P : Nat → Bool) (f n u x : Nat) : Nat := sumN n (fun k => if m.sm f k ≤ x then m.V P (m.C - 1) k u (x - m.sm f k) else 0)
def Md.cntU (m : Md) (u x : Nat) : Nat := if m.cl = true then sumN m.K (fun f => m.fnV (rng f (f + 1)) f m.K u x) else m.fnV (rng 0 m.K) 0 m.K u x
def Md.xs (m : Md) : Nat := mnN m.L (m.K - 1)
theorem ue_V {m : Md} (hm : m.ok) (f u : Nat) : m.ue f m.K u = m.fnV (rng f (f + 1)) f m.K u (m.L f) := by
  have hC := hm.1.1
  refine sumN_congr fun k hk => ?_
  rw [D_V (m.C - 1) k u (by omega) hk, Md.B_last]
theorem fnV_min {m : Md} (hm : m.ok) {f u x : Nat} (h : m.fnV (rng f (f + 1)) f m.K u x ≠ 0) : m.L f ≤ x := by
  have hC := hm.1.1
  obtain ⟨k, hk, h2⟩ := sumN_pos h
  have h2 : (if m.sm f k ≤ x then m.V (rng f (f + 1)) (m.C - 1) k u (x - m.sm f k) else 0) ≠ 0 := h2
  by_cases q : m.sm f k ≤ x
  · rw [if_pos q] at h2
    have h3 := V_min (m.C - 1) k _ _ (by omega) hk h2
    rw [Md.B_last] at h3
    omega
  · exact absurd (if_neg q) h2
theorem cntU_sum (m : Md) (u x : Nat) : m.cntU u x = sumN m.K (fun f => m.fnV (rng f (f + 1)) f m.K u x) := by
  unfold Md.cntU
  by_cases h : m.cl = true
  · rw [if_pos h]
  · rw [if_neg h]
    have e : ∀ f k, m.sm f k = 0 := fun f k => if_neg h
    have e1 : ∀ P f, m.fnV P f m.K u x = sumN m.K (fun k => m.V P (m.C - 1) k u x) := fun P f => sumN_congr fun k _ => by rw [e, if_pos (Nat.zero_le _), Nat.sub_zero]
    rw [e1]
    have e2 : sumN m.K (fun f => m.fnV (rng f (f + 1)) f m.K u x) = sumN m.K (fun f => sumN m.K (fun k => m.V (rng f (f + 1)) (m.C - 1) k u x)) := sumN_congr fun f _ => e1 _ f
    have sw : ∀ (n k : Nat) (g : Nat → Nat → Nat), sumN n (fun i => sumN k (fun j => g i j)) = sumN k (fun j => sumN n (fun i => g i j)) := fun n k g => by
      induction n with
      | zero => exact (sumN_zero k).symm
      | succ n ih => rw [sumN, ih, ← sumN_add]; rfl
    rw [e2, sw]
    exact sumN_congr fun k _ => V_sum m (m.C - 1) k u x m.K
theorem xs_le {m : Md} {f : Nat} (hf : f < m.K) : m.xs ≤ m.L f := mnN_le (by omega)
theorem mu_cntU {m : Md} (hm : m.ok) (u : Nat) : m.mu u = m.cntU u m.xs := by
  rw [cntU_sum]
  refine sumN_congr fun f hf => ?_
  show (if m.L f = m.xs then m.ue f m.K u else 0) = _
  by_cases h : m.L f = m.xs
  · rw [if_pos h, ue_V hm, h]
  · rw [if_neg h]
    refine (Classical.byContradiction fun hne => ?_ : m.fnV _ f m.K u m.xs = 0).symm
    have h1 := fnV_min hm hne
    have h2 := xs_le hf
    omega
theorem cntU_low {m : Md} (hm : m.ok) {u x : Nat} (h : m.cntU u x ≠ 0) : m.xs ≤ x := by
  rw [cntU_sum] at h
  obtain ⟨f, hf, h2⟩ := sumN_pos h
  exact Nat.le_trans (xs_le hf) (fnV_min hm h2)
theorem D_ex {m : Md} (hm : m.ok) {f : Nat} (hf : f < m.K) : ∀ c, c < m.C → ∃ t u, t < m.K ∧ u ≤ 3 * (c + 1) ∧ m.D f c t u ≠ 0
  | 0, _ => ⟨f, pcN 3 f, hf, Nat.le_trans (pc_R m.R (by have := hm.2.1.2; omega) f hf) (by have := hm.2.1.2; omega), by show (if f = f ∧ pcN 3 f = pcN 3 f then 1 else 0) ≠ 0; rw [if_pos ⟨rfl, rfl⟩]; decide⟩
  | c + 1, hc => by
    obtain ⟨s, u, hs, hu, hD⟩ := D_ex hm hf c (by omega)
    have hK := Md.K_le hm
    obtain ⟨t, ht, e⟩ := mnN_at (m.cn f c s) (m.K - 1)
    rw [← Md.B_step hc] at e
    have hp := pc_R m.R (by have := hm.2.1.2; omega) t (show t < m.K by omega)
    refine ⟨t, u + pcN 3 t, by omega, by have := hm.2.1.2; omega, ?_⟩
    have h : (if m.cn f c s t = m.B f c s ∧ pcN 3 t ≤ u + pcN 3 t then m.D f c s (u + pcN 3 t - pcN 3 t) else 0) ≤ m.D f (c + 1) t (u + pcN 3 t) := sumN_term (f := fun s => if m.cn f c s t = m.B f c s ∧ pcN 3 t ≤ u + pcN 3 t then m.D f c s (u + pcN 3 t - pcN 3 t) else 0) hs
    rw [if_pos ⟨e.symm, Nat.le_add_left _ _⟩, Nat.add_sub_cancel] at h
    exact Nat.ne_of_gt (Nat.lt_of_lt_of_le (Nat.pos_of_ne_zero hD) h)
theorem mu_ex {m : Md} (hm : m.ok) : ∃ u, u < 31 ∧ m.mu u ≠ 0 := by
  have hK := Md.K_le hm
  have hC := hm.1
  obtain ⟨f, hf, e⟩ := mnN_at m.L (m.K - 1)
  have hf : f < m.K := by omega
  obtain ⟨t, u, ht, hu, hD⟩ := D_ex hm hf (m.C - 1) (by omega)
  refine ⟨u, by omega, ?_⟩
  have h1 := sumN_term (f := fun k => m.D f (m.C - 1) k u) ht
  have h2 := sumN_term (f := fun f => if m.L f = mnN m.L (m.K - 1) then m.ue f m.K u else 0) hf
  simp only [if_pos e.symm] at h2
  exact Nat.ne_of_gt (Nat.lt_of_lt_of_le (Nat.pos_of_ne_zero hD) (Nat.le_trans h1 h2))
/-! by energy -/
def St.FU (A : St) (P : Nat → Bool) (f n u : Nat) (e : Int) : Nat := sumN n (fun s => A.WU P (A.C - 1) s u (e - A.sf false s f))
def St.CU (A : St) (u : Nat) (e : Int) : Nat := if A.lp = true then sumN (2 ^ A.R) (fun f => A.FU (rng f (f + 1)) f (2 ^ A.R) u e) else A.FU (rng 0 (2 ^ A.R)) 0 (2 ^ A.R) u e
theorem FU_fnV {A : St} (hA : A.ok) (P : Nat → Bool) {f : Nat} (hf : f < 2 ^ A.R) (u : Nat) : (∀ x : Nat, A.FU P f (2 ^ A.R) u (2 * (x : Int) - ((A.md false).wr : Int)) = (A.md false).fnV P f (2 ^ A.R) u x) ∧ ∀ e, (∀ x : Nat, e ≠ 2 * (x : Int) - ((A.md false).wr : Int)) → A.FU P f (2 ^ A.R) u e = 0 := by
  have er : A.rhoW false = ((A.md false).wr : Int) := rfl
  refine ⟨fun x => sumN_congr fun s hs => ?_, fun e he => sumN_none fun s hs => ?_⟩
  · obtain ⟨h1, h2⟩ := WU_V hA P (A.C - 1) s u hs
    have hsf : A.sf false s f = 2 * ((A.md false).sm f s : Int) - (A.rhoW false - A.rho false (A.C - 1)) := sf_E hA false hs hf
    rw [hsf, show (A.md false).C - 1 = A.C - 1 from rfl]
    generalize (A.md false).sm f s = d
    by_cases hx : d ≤ x
    · rw [if_pos hx, ← h1 (x - d)]
      congr 1
      omega
    · rw [if_neg hx]
      exact h2 _ (fun y hy => by omega)
  · obtain ⟨h1, h2⟩ := WU_V hA P (A.C - 1) s u hs
    have hsf : A.sf false s f = 2 * ((A.md false).sm f s : Int) - (A.rhoW false - A.rho false (A.C - 1)) := sf_E hA false hs hf
    show A.WU P (A.C - 1) s u (e - A.sf false s f) = 0
    rw [hsf]
    exact h2 _ (fun y hy => he (y + (A.md false).sm f s) (by omega))
theorem CU_cntU {A : St} (hA : A.ok) (u : Nat) : (∀ x : Nat, A.CU u (2 * (x : Int) - ((A.md false).wr : Int)) = (A.md false).cntU u x) ∧ ∀ e, (∀ x : Nat, e ≠ 2 * (x : Int) - ((A.md false).wr : Int)) → A.CU u e = 0 := by
  have h0 := Nat.two_pow_pos A.R
  unfold St.CU Md.cntU
  rw [show (A.md false).cl = A.lp from rfl, show (A.md false).K = 2 ^ A.R from rfl]
  cases A.lp
  · exact FU_fnV hA _ h0 u
  · exact ⟨fun x => sumN_congr fun f hf => (FU_fnV hA _ hf u).1 x, fun e he => sumN_none fun f hf => (FU_fnV hA _ hf u).2 e he⟩
/-- the least energy -/
def St.Es (A : St) : Int := 2 * ((A.md false).xs : Int) - ((A.md false).wr : Int)
theorem CU_mu {A : St} (hA : A.ok) (u : Nat) : A.CU u A.Es = (A.md false).mu u := by
  rw [mu_cntU (St.md_ok hA false)]
  exact (CU_cntU hA u).1 _
theorem CU_low {A : St} (hA : A.ok) {u : Nat} {e : Int} (h : e < A.Es) : A.CU u e = 0 := by
  obtain ⟨h1, h2⟩ := CU_cntU hA u
  by_cases q : ∃ x : Nat, e = 2 * (x : Int) - ((A.md false).wr : Int)
  · obtain ⟨x, rfl⟩ := q
    rw [h1]
    refine Classical.byContradiction fun hne => ?_
    have := cntU_low (St.md_ok hA false) hne
    unfold St.Es at h
    omega
  · exact h2 e (fun x hx => q ⟨x, hx⟩)
theorem CU_ex {A : St} (hA : A.ok) : ∃ u, u < 31 ∧ A.CU u A.Es ≠ 0 := by
  obtain ⟨u, h1, h2⟩ := mu_ex (St.md_ok hA false)
  exact ⟨u, h1, by rw [CU_mu hA]; exact h2⟩
theorem CU_u {A : St} (hA : A.ok) {u : Nat} {e : Int} (h : A.C * A.R < u) : A.CU u e = 0 := by
  have hC := hA.1
  have hz : ∀ P f, A.FU P f (2 ^ A.R) u e = 0 := fun P f => sumN_none fun s hs => Classical.byContradiction fun q => by
    have := WU_u hA P (A.C - 1) s u _ hs q
    rw [show A.C - 1 + 1 = A.C by omega, Nat.mul_comm] at this
    omega
  unfold St.CU
  split
  · exact sumN_none fun f _ => hz _ f
  · exact hz _ _
