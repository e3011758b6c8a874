/-! COUNTS: by energy, as the reference counts them, and by cost -/
def St.WE (A : St) (w : Bool) (P : Nat → Bool) : Nat → Nat → Int → Nat
  | 0, t, e => if P t = true ∧ e = A.col w 0 t then 1 else 0
  | c + 1, t, e => sumN (2 ^ A.R) (fun s => A.WE w P c s (e - (A.lnk w s t + A.col w (c + 1) t)))
def kap (w : Bool) : Int := if w then 1 else 2
def St.rho (A : St) (w : Bool) (c : Nat) : Int := if w then 0 else (A.reach false (c + 1) : Int)
def nxZ (R k r : Nat) : Int := if r + 1 < R then spZ k (r + 1) else 0
theorem lk_dec : ∀ R, R < 4 → ∀ s, s < 2 ^ R → ∀ t, t < 2 ^ R → sumZ R (fun r => if spZ s r * spZ t r < 0 then 1 else 0) = (pcN 3 (s ^^^ t) : Int) ∧ sumZ R (fun r => spZ s r * spZ t r) = (R : Int) - 2 * (pcN 3 (s ^^^ t) : Int) := by decide +kernel
theorem cl_dec : ∀ R, R < 4 → 0 < R → ∀ k, k < 2 ^ R → sumZ R (fun r => if spZ k r * nxZ R k r < 0 then 1 else 0) = (pcN 3 ((k ^^^ (k / 2)) &&& (2 ^ (R - 1) - 1)) : Int) ∧ sumZ R (fun r => spZ k r * nxZ R k r) = (R : Int) - 1 - 2 * (pcN 3 ((k ^^^ (k / 2)) &&& (2 ^ (R - 1) - 1)) : Int) := by decide +kernel
theorem prc_1 (u n : Nat) : prc 1 u n = u := by
  unfold prc
  rw [if_neg (by decide)]
  exact Nat.one_mul u
theorem prc_2 {p : Int} {u n : Nat} (h : u ≤ n) : -p * ((n : Int) - 2 * (u : Int)) = 2 * (prc p u n : Int) - (n : Int) * (p.natAbs : Int) := by
  unfold prc
  by_cases hp : p < 0
  · rw [if_pos hp, Int.natCast_mul, Int.natCast_sub h]
    have e : (p.natAbs : Int) = -p := by omega
    rw [e, Int.mul_sub, Int.mul_sub, Int.mul_sub, Int.mul_comm (n : Int)]
    have e1 : -p * (2 * (u : Int)) = 2 * (-p * (u : Int)) := by rw [Int.mul_left_comm]
    rw [e1]
    omega
  · rw [if_neg hp, Int.natCast_mul]
    have e : (p.natAbs : Int) = p := by omega
    rw [e, Int.mul_sub, Int.neg_mul, Int.neg_mul, Int.mul_comm (n : Int)]
    have e1 : p * (2 * (u : Int)) = 2 * (p * (u : Int)) := by rw [Int.mul_left_comm]
    rw [e1]
    omega
theorem lnk_E {A : St} (hA : A.ok) (w : Bool) {s t : Nat} (hs : s < 2 ^ A.R) (ht : t < 2 ^ A.R) : A.lnk w s t = kap w * ((A.md w).cb s t : Int) - (if w then 0 else (A.R : Int) * (A.al.natAbs : Int)) := by
  have hR := hA.2.1
  obtain ⟨h1, h2⟩ := lk_dec A.R (by omega) s hs t ht
  have h3 := (kd_dec hR.1 hR.2 hs ht).1
  cases w with
  | true =>
    show sumZ A.R (fun r => if spZ s r * spZ t r < 0 then 1 else 0) = 1 * ((prc 1 (pcN 3 (s ^^^ t)) A.R : Nat) : Int) - 0
    rw [h1, prc_1]; omega
  | false =>
    show sumZ A.R (fun r => -A.al * (spZ s r * spZ t r)) = 2 * ((prc A.al (pcN 3 (s ^^^ t)) A.R : Nat) : Int) - (A.R : Int) * (A.al.natAbs : Int)
    rw [sumZ_mul, h2, prc_2 h3]
theorem ag_E (A : St) (c k r : Nat) : -(A.fd c r * spZ k r) = 2 * (A.ag c k r : Int) - ((A.fd c r).natAbs : Int) := by
  unfold St.ag spZ
  by_cases hb : k.testBit r = true
  · rw [if_pos hb, if_pos hb]
    by_cases h : A.fd c r < 0
    · rw [if_pos (decide_eq_true h)]; omega
    · rw [if_neg (by rw [decide_eq_false h]; decide)]; omega
  · rw [if_neg hb, if_neg hb]
    by_cases h : 0 < A.fd c r
    · rw [if_pos (decide_eq_true h)]; omega
    · rw [if_neg (by rw [decide_eq_false h]; decide)]; omega
theorem sumZ_sub (n : Nat) (f g : Nat → Int) : sumZ n (fun i => f i - g i) = sumZ n f - sumZ n g := by
  induction n with
  | zero => rfl
  | succ n ih => rw [sumZ, sumZ, sumZ, ih]; omega
def St.rhoC (A : St) (c : Nat) : Nat := (A.R - 1) * A.ac.natAbs + A.fdr c A.R
theorem col_E {A : St} (hA : A.ok) (w : Bool) (c : Nat) {k : Nat} (hk : k < 2 ^ A.R) : A.col w c k = kap w * ((A.md w).ci c k : Int) - (if w then 0 else (A.rhoC c : Int)) := by
  have hR := hA.2.1
  obtain ⟨h1, h2⟩ := cl_dec A.R (by omega) (by omega) k hk
  have h3 := (kd_dec hR.1 hR.2 hk hk).2.2.1
  cases w with
  | true =>
    show sumZ A.R (fun r => if spZ k r * nxZ A.R k r < 0 then 1 else 0) = 1 * ((prc 1 (pcN 3 ((k ^^^ (k / 2)) &&& (2 ^ (A.R - 1) - 1))) (A.R - 1) + 0 : Nat) : Int) - 0
    rw [h1, prc_1]; omega
  | false =>
    show sumZ A.R (fun r => -A.ac * spZ k r * nxZ A.R k r - A.fd c r * spZ k r) = 2 * ((caF A.ac A.R k + A.fdp c k A.R : Nat) : Int) - (((A.R - 1) * A.ac.natAbs + A.fdr c A.R : Nat) : Int)
    rw [sumZ_sub]
    have e1 : sumZ A.R (fun r => -A.ac * spZ k r * nxZ A.R k r) = 2 * (caF A.ac A.R k : Int) - (((A.R - 1) * A.ac.natAbs : Nat) : Int) := by
      rw [sumZ_congr (fun i _ => Int.mul_assoc (-A.ac) (spZ k i) (nxZ A.R k i)), sumZ_mul, h2]
      have h4 := prc_2 (p := A.ac) h3
      rw [Int.natCast_sub hR.1] at h4
      show _ = 2 * ((prc A.ac (pcN 3 ((k ^^^ (k / 2)) &&& (2 ^ (A.R - 1) - 1))) (A.R - 1) : Nat) : Int) - _
      rw [Int.natCast_mul, Int.natCast_sub hR.1]
      exact h4
    have e2 : sumZ A.R (fun r => A.fd c r * spZ k r) = (A.fdr c A.R : Int) - 2 * (A.fdp c k A.R : Int) := by
      unfold St.fdr St.fdp
      rw [sumN_cast, sumN_cast, ← sumZ_mul, ← sumZ_sub]
      refine sumZ_congr fun i _ => ?_
      have := ag_E A c k i
      omega
    rw [e1, e2, Int.natCast_add, Int.natCast_add]
    omega
theorem rho_0 (A : St) (w : Bool) : A.rho w 0 = if w then 0 else (A.rhoC 0 : Int) := by
  cases w with
  | true => rfl
  | false =>
    show ((A.reach false 1 : Nat) : Int) = ((A.rhoC 0 : Nat) : Int)
    congr 1
    show 0 + ((if (0 : Nat) = 0 then (A.R - 1) * A.ac.natAbs else _) + A.fdr 0 A.R) = (A.R - 1) * A.ac.natAbs + A.fdr 0 A.R
    rw [if_pos rfl, Nat.zero_add]
theorem rho_s (A : St) (w : Bool) (c : Nat) : A.rho w (c + 1) = A.rho w c + ((if w then 0 else (A.R : Int) * (A.al.natAbs : Int)) + (if w then 0 else (A.rhoC (c + 1) : Int))) := by
  cases w with
  | true => rfl
  | false =>
    show ((A.reach false (c + 1 + 1) : Nat) : Int) = ((A.reach false (c + 1) : Nat) : Int) + ((A.R : Int) * (A.al.natAbs : Int) + (((A.R - 1) * A.ac.natAbs + A.fdr (c + 1) A.R : Nat) : Int))
    rw [reach_s, if_neg (Nat.succ_ne_zero c)]
    show ((A.reach false (c + 1) + ((A.R - 1) * A.ac.natAbs + A.R * A.al.natAbs + A.fdr (c + 1) A.R) : Nat) : Int) = _
    rw [← Int.natCast_mul]
    omega
theorem more_E {A : St} (hA : A.ok) (w : Bool) (c : Nat) {s t : Nat} (hs : s < 2 ^ A.R) (ht : t < 2 ^ A.R) : A.lnk w s t + A.col w (c + 1) t = kap w * (((A.md w).cb s t + (A.md w).ci (c + 1) t : Nat) : Int) - (A.rho w (c + 1) - A.rho w c) := by
  rw [lnk_E hA w hs ht, col_E hA w (c + 1) ht, rho_s, Int.natCast_add, Int.mul_add]
  omega
theorem WE_W {A : St} (hA : A.ok) (w : Bool) (P : Nat → Bool) : ∀ c t, t < 2 ^ A.R → (∀ x : Nat, A.WE w P c t (kap w * (x : Int) - A.rho w c) = (A.md w).W P c t x) ∧ ∀ e, (∀ x : Nat, e ≠ kap w * (x : Int) - A.rho w c) → A.WE w P c t e = 0
  | 0, t, ht => by
    have hc := col_E hA w 0 ht
    rw [← rho_0] at hc
    refine ⟨fun x => ?_, fun e he => ?_⟩
    · show (if P t = true ∧ kap w * (x : Int) - A.rho w 0 = A.col w 0 t then 1 else 0) = if P t = true ∧ x = (A.md w).ci 0 t then 1 else 0
      have e : (kap w * (x : Int) - A.rho w 0 = A.col w 0 t) ↔ x = (A.md w).ci 0 t := by
        rw [hc]
        cases w
        · show 2 * (x : Int) - _ = 2 * _ - _ ↔ _; omega
        · show 1 * (x : Int) - _ = 1 * _ - _ ↔ _; omega
      simp only [e]
    · exact if_neg (fun q => he _ (q.2.trans hc))
  | c + 1, t, ht => by
    refine ⟨fun x => sumN_congr fun s hs => ?_, fun e he => ?_⟩
    · obtain ⟨h1, h2⟩ := WE_W hA w P c s hs
      rw [more_E hA w c hs ht]
      generalize hd : (A.md w).cb s t + (A.md w).ci (c + 1) t = d
      by_cases hx : d ≤ x
      · rw [if_pos hx, ← h1 (x - d)]
        congr 1
        rw [Int.natCast_sub hx, Int.mul_sub]
        omega
      · rw [if_neg hx]
        refine h2 _ (fun y hy => ?_)
        cases w
        · have hy : 2 * (x : Int) - A.rho false (c + 1) - (2 * (d : Int) - (A.rho false (c + 1) - A.rho false c)) = 2 * (y : Int) - A.rho false c := hy
          omega
        · have hy : 1 * (x : Int) - A.rho true (c + 1) - (1 * (d : Int) - (A.rho true (c + 1) - A.rho true c)) = 1 * (y : Int) - A.rho true c := hy
          omega
    · show sumN (2 ^ A.R) _ = 0
      rw [← sumN_zero (2 ^ A.R)]
      refine sumN_congr fun s hs => ?_
      obtain ⟨h1, h2⟩ := WE_W hA w P c s hs
      refine h2 _ (fun y hy => he (y + ((A.md w).cb s t + (A.md w).ci (c + 1) t)) ?_)
      rw [more_E hA w c hs ht] at hy
      rw [Int.natCast_add, Int.mul_add]
      omega
theorem reach_b {A : St} (hA : A.ok) (w : Bool) : ∀ n, A.reach w (n + 1) + 6 ≤ 19 * (n + 1)
  | 0 => by
    rw [reach_s, if_pos rfl]
    have h1 := St.wr_le hA w 0
    have h2 := hA.2.1
    have h3 := St.wc_in hA w
    have h4 : (A.R - 1) * (A.wc w).natAbs ≤ 2 * 2 := Nat.mul_le_mul (by omega) (by omega)
    show 0 + _ + 6 ≤ _
    omega
  | n + 1 => by
    have ih := reach_b hA w n
    rw [reach_s, if_neg (Nat.succ_ne_zero n)]
    have h1 := St.wr_le hA w (n + 1)
    have h2 := hA.2.1
    have h3 := St.wc_in hA w
    have h5 := St.wl_in hA w
    have h4 : (A.R - 1) * (A.wc w).natAbs ≤ 2 * 2 := Nat.mul_le_mul (by omega) (by omega)
    have h6 : A.R * (A.wl w).natAbs ≤ 3 * 2 := Nat.mul_le_mul (by omega) (by omega)
    omega
theorem wr_190 {A : St} (hA : A.ok) (w : Bool) : (A.md w).wr ≤ 190 := by
  have hC := hA.1
  have h := reach_b hA w (A.C - 1)
  rw [show A.C - 1 + 1 = A.C by omega] at h
  have h5 := St.wl_in hA w
  have h6 : A.R * (A.wl w).natAbs ≤ 3 * 2 := Nat.mul_le_mul (by have := hA.2.1; omega) (by omega)
  show (if A.lp then A.reach w A.C + A.R * (A.wl w).natAbs else A.reach w A.C) ≤ 190
  split <;> omega
