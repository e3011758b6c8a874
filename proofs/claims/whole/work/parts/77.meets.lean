/-! THE REFERENCE: meets; rows of the least -/
def MN (F : Int → Nat) (L : Int) (M : Nat) : Prop := (M = 0 ∧ L = 1000000 ∧ ∀ e, F e = 0) ∨ (M = F L ∧ M ≠ 0 ∧ (-500 ≤ L ∧ L ≤ 500) ∧ ∀ e, e < L → F e = 0)
theorem MN_0 {F : Int → Nat} (h : ∀ e, F e = 0) : MN F 1000000 0 := Or.inl ⟨rfl, rfl, h⟩
theorem MN_cg {F F' : Int → Nat} {L : Int} {M : Nat} (h : MN F L M) (e : ∀ x, F' x = F x) : MN F' L M := by
  rw [show F' = F from funext e]; exact h
theorem MN_in {F : Int → Nat} {L : Int} {M : Nat} (h : MN F L M) : -500 ≤ L ∧ L ≤ 1000000 := by
  rcases h with ⟨-, h, -⟩ | ⟨-, -, h, -⟩ <;> omega
theorem MN_meets {F G : Int → Nat} {L E : Int} {M N : Nat} (h : MN F L M) (hN : N ≠ 0) (hG : G E = N) (hE : -500 ≤ E ∧ E ≤ 500) (hm : ∀ e, e < E → G e = 0) : MN (fun e => F e + G e) (if E < L then E else L) ((if E < L then 0 else M) + (if E = (if E < L then E else L) then N else 0)) := by
  right
  rcases h with ⟨rfl, rfl, h3⟩ | ⟨h1, h2, h3, h4⟩
  · rw [if_pos (show E < 1000000 by omega), if_pos (show E < 1000000 by omega), if_pos rfl]
    exact ⟨by show 0 + N = F E + G E; rw [h3, hG], by omega, hE, fun e he => by show F e + G e = 0; rw [h3, hm e he]⟩
  · by_cases c : E < L
    · rw [if_pos c, if_pos c, if_pos rfl]
      exact ⟨by show 0 + N = F E + G E; rw [h4 E c, hG], by omega, hE, fun e he => by show F e + G e = 0; rw [h4 e (by omega), hm e he]⟩
    · rw [if_neg c, if_neg c]
      by_cases c2 : E = L
      · rw [if_pos c2]
        exact ⟨by show M + N = F L + G L; rw [← c2, hG, c2, h1], by omega, h3, fun e he => by show F e + G e = 0; rw [h4 e he, hm e (by omega)]⟩
      · rw [if_neg c2]
        exact ⟨by show M + 0 = F L + G L; rw [hm L (by omega), h1], by omega, h3, fun e he => by show F e + G e = 0; rw [h4 e he, hm e (by omega)]⟩
set_option maxRecDepth 100000 in
set_option maxHeartbeats 4000000 in
theorem m_meets {σ : Sto} {a b n j M N : Nat} {L E : Int} {g h : Nat → Int32} (ha : a < 132) (hb : b < 132) (hab : a ≠ b) (hn : n < 1000) (hj : j < n) (hga : σ a = pI .int n g) (hhb : σ b = pI .int n h) (hg : g j = iI L) (hh : h j = nI M) (l1 : -2000 ≤ L) (l2 : L ≤ 1000000) (e1 : -2000 ≤ E) (e2 : E ≤ 2000) : CP mX8_meets 0 0 [.ref a, .ref b, .int (nI j), .int (iI E), .int (nI N)] 132 σ (fun v σ' => v = none ∧ same σ σ' (fun i => i = a ∨ i = b) ∧ ∃ g' h' : Nat → Int32, σ' a = pI .int n g' ∧ σ' b = pI .int n h' ∧ g' j = iI (if E < L then E else L) ∧ h' j = nI ((if E < L then 0 else M) + (if E = (if E < L then E else L) then N else 0)) ∧ ∀ i, i ≠ j → g' i = g i ∧ h' i = h i) := by
  have tl : ∀ (τ : Sto) (g1 h1 : Nat → Int32) (L1 : Int) (M1 : Nat), same σ τ (fun i => i = a ∨ i = b) → τ a = pI .int n g1 → τ b = pI .int n h1 → g1 j = iI L1 → h1 j = nI M1 → (∀ i, i ≠ j → g1 i = g i ∧ h1 i = h i) → L1 = (if E < L then E else L) → M1 = (if E < L then 0 else M) → PW mX8_meets 0 0 (fun v σ' => v = none ∧ same σ σ' (fun i => i = a ∨ i = b) ∧ ∃ g' h' : Nat → Int32, σ' a = pI .int n g' ∧ σ' b = pI .int n h' ∧ g' j = iI (if E < L then E else L) ∧ h' j = nI ((if E < L then 0 else M) + (if E = (if E < L then E else L) then N else 0)) ∧ ∀ i, i ≠ j → g' i = g i ∧ h' i = h i) 15 [some (.ref a), some (.ref b), some (.int (nI j)), some (.int (iI E)), some (.int (nI N))] [] 132 τ 0 0 := by
    intro τ g1 h1 L1 M1 hs t1 t2 t3 t4 t5 eL eM
    have b1 : -2000 ≤ L1 := by rw [eL]; split <;> omega
    have b2 : L1 ≤ 1000000 := by rw [eL]; split <;> omega
    rw [← eL, ← eM]
    have go : ∀ x, x = (if E = L1 then N else 0) → PW mX8_meets 0 0 (fun v σ' => v = none ∧ same σ σ' (fun i => i = a ∨ i = b) ∧ ∃ g' h' : Nat → Int32, σ' a = pI .int n g' ∧ σ' b = pI .int n h' ∧ g' j = iI L1 ∧ h' j = nI (M1 + (if E = L1 then N else 0)) ∧ ∀ i, i ≠ j → g' i = g i ∧ h' i = h i) 32 [some (.ref a), some (.ref b), some (.int (nI j)), some (.int (iI E)), some (.int (nI N))] [.int (nI x), .int (nI M1), .int (nI j), .ref b] 132 τ 0 0 := by
      intro x hx
      subst hx
      refine P_iadd (q := 33) dX8_meets_32 rfl ?_
      rw [nI_add]
      refine P_iast (q := 34) (j := j) (f' := upd h1 j (nI (M1 + if E = L1 then N else 0))) dX8_meets_33 rfl (hb) (t2) (rfl) (by omega) (by omega) (rfl) (rfl) ?_
      refine P_vret dX8_meets_34 rfl ?_
      exact ⟨rfl, hs.up (Or.inr rfl), g1, _, (up_ne _ _ hab).trans t1, up_at _ _ _, t3, if_pos rfl, fun i hi => ⟨(t5 i hi).1, (if_neg hi).trans (t5 i hi).2⟩⟩
    refine P_aload_n (q := 16) dX8_meets_15 rfl rfl ?_
    refine P_iload_n (q := 17) dX8_meets_16 rfl rfl ?_
    refine P_dup2 (q := 18) dX8_meets_17 rfl rfl rfl ?_
    refine P_iald (q := 19) (j := j) dX8_meets_18 rfl (hb) (t2) (rfl) (by omega) (by omega) ?_
    rw [t4]
    refine P_iload_n (q := 20) dX8_meets_19 rfl rfl ?_
    refine P_aload_n (q := 21) dX8_meets_20 rfl rfl ?_
    refine P_iload_n (q := 22) dX8_meets_21 rfl rfl ?_
    refine P_iald (q := 23) (j := j) dX8_meets_22 rfl (ha) (t1) (rfl) (by omega) (by omega) ?_
    rw [t3]
    refine P_icmp_ne (q := 26) (tgt := 31) dX8_meets_23 rfl (by decide) (fun c_23 => ?_) (fun c_23 => ?_)
    · rw [iI_inj (by omega) (by omega) (by omega) (by omega)] at c_23
      refine P_iconst (q := 32) (v := nI 0) dX8_meets_31 rfl (by decide +kernel) ?_
      first
        | exact go N (if_pos c_23).symm
        | exact go 0 (if_neg c_23).symm
    · rw [iI_inj (by omega) (by omega) (by omega) (by omega)] at c_23
      refine P_iload (q := 28) dX8_meets_26 rfl rfl ?_
      refine P_goto (tgt := 32) dX8_meets_28 (by decide) ?_
      first
        | exact go N (if_pos c_23).symm
        | exact go 0 (if_neg c_23).symm
  refine CP_of (by decide +kernel) (Nat.le_of_ble_eq_true rfl) ?_
  change PW _ _ _ _ 0 [_, _, _, _, _] [] _ _ _ _
  refine P_iload_n (q := 1) dX8_meets_0 rfl rfl ?_
  refine P_aload_n (q := 2) dX8_meets_1 rfl rfl ?_
  refine P_iload_n (q := 3) dX8_meets_2 rfl rfl ?_
  refine P_iald (q := 4) (j := j) dX8_meets_3 rfl (ha) (hga) (rfl) (by omega) (by omega) ?_
  rw [hg]
  refine P_icmp_ge (q := 7) (tgt := 15) dX8_meets_4 rfl (by decide) (fun c_4 => ?_) (fun c_4 => ?_)
  · rw [iI_le (by omega) (by omega) (by omega) (by omega)] at c_4
    first
      | exact tl σ g h L M same.rf hga hhb hg hh (fun i _ => ⟨rfl, rfl⟩) (if_neg (by omega)).symm (if_neg (by omega)).symm
      | exact tl _ _ _ E 0 ((same.rf.up (Or.inl rfl)).up (Or.inr rfl)) ((up_ne _ _ hab).trans (up_at _ _ _)) (up_at _ _ _) (if_pos rfl) (if_pos rfl) (fun i hi => ⟨if_neg hi, if_neg hi⟩) (if_pos (by omega)).symm (if_pos (by omega)).symm
  · rw [iI_le (by omega) (by omega) (by omega) (by omega)] at c_4
    refine P_aload_n (q := 8) dX8_meets_7 rfl rfl ?_
    refine P_iload_n (q := 9) dX8_meets_8 rfl rfl ?_
    refine P_iload_n (q := 10) dX8_meets_9 rfl rfl ?_
    refine P_iast (q := 11) (j := j) (f' := upd g j (iI E)) dX8_meets_10 rfl (ha) (hga) (rfl) (by omega) (by omega) (rfl) (rfl) ?_
    refine P_aload_n (q := 12) dX8_meets_11 rfl rfl ?_
    refine P_iload_n (q := 13) dX8_meets_12 rfl rfl ?_
    refine P_iconst (q := 14) (v := nI 0) dX8_meets_13 rfl (by decide +kernel) ?_
    refine P_iast (q := 15) (j := j) (f' := upd h j (nI 0)) dX8_meets_14 rfl (hb) ((up_ne _ _ (Ne.symm hab)).trans hhb) (rfl) (by omega) (by omega) (rfl) (rfl) ?_
    first
      | exact tl σ g h L M same.rf hga hhb hg hh (fun i _ => ⟨rfl, rfl⟩) (if_neg (by omega)).symm (if_neg (by omega)).symm
      | exact tl _ _ _ E 0 ((same.rf.up (Or.inl rfl)).up (Or.inr rfl)) ((up_ne _ _ hab).trans (up_at _ _ _)) (up_at _ _ _) (if_pos rfl) (if_pos rfl) (fun i hi => ⟨if_neg hi, if_neg hi⟩) (if_pos (by omega)).symm (if_pos (by omega)).symm
/-- rows of 31 pairs, the least and how many, in two rows of n numbers -/
def UR (σ : Sto) (a b n K : Nat) (F : Nat → Nat → Int → Nat) : Prop := ∃ g h : Nat → Int32, σ a = pI .int n g ∧ σ b = pI .int n h ∧ ∀ t u, t < K → u < 31 → ∃ L M, g (31 * t + u) = iI L ∧ h (31 * t + u) = nI M ∧ MN (F t u) L M
theorem UR.cg {σ : Sto} {a b n K : Nat} {F F' : Nat → Nat → Int → Nat} (h : UR σ a b n K F) (e : ∀ t u x, t < K → u < 31 → F' t u x = F t u x) : UR σ a b n K F' := by
  obtain ⟨g, h, h1, h2, h3⟩ := h
  refine ⟨g, h, h1, h2, fun t u ht hu => ?_⟩
  obtain ⟨L, M, a1, a2, a3⟩ := h3 t u ht hu
  exact ⟨L, M, a1, a2, MN_cg a3 (fun x => e t u x ht hu)⟩
theorem UR.to {σ τ : Sto} {a b n K : Nat} {F : Nat → Nat → Int → Nat} (h : UR σ a b n K F) (e1 : τ a = σ a) (e2 : τ b = σ b) : UR τ a b n K F := by
  obtain ⟨g, h, h1, h2, h3⟩ := h
  exact ⟨g, h, e1.trans h1, e2.trans h2, h3⟩
theorem UR.ex {σ : Sto} {a b n K : Nat} {F : Nat → Nat → Int → Nat} (h : UR σ a b n K F) : (∃ g : Nat → Int32, σ a = pI .int n g) ∧ ∃ g : Nat → Int32, σ b = pI .int n g := by
  obtain ⟨g, h, h1, h2, h3⟩ := h
  exact ⟨⟨g, h1⟩, ⟨h, h2⟩⟩
theorem UR_meets {σ : Sto} {a b n K t0 u0 : Nat} {F F' : Nat → Nat → Int → Nat} {G : Int → Nat} {L E : Int} {M N : Nat} {g h g' h' : Nat → Int32} (hF : ∀ t u, t < K → u < 31 → ∃ L M, g (31 * t + u) = iI L ∧ h (31 * t + u) = nI M ∧ MN (F t u) L M) (hMN : MN (F t0 u0) L M) (hu0 : u0 < 31) (hN : N ≠ 0) (hG : G E = N) (hE : -500 ≤ E ∧ E ≤ 500) (hm : ∀ e, e < E → G e = 0) (h1 : σ a = pI .int n g') (h2 : σ b = pI .int n h') (h3 : g' (31 * t0 + u0) = iI (if E < L then E else L)) (h4 : h' (31 * t0 + u0) = nI ((if E < L then 0 else M) + (if E = (if E < L then E else L) then N else 0))) (h5 : ∀ i, i ≠ 31 * t0 + u0 → g' i = g i ∧ h' i = h i) (hF' : ∀ t u x, F' t u x = F t u x + (if t = t0 ∧ u = u0 then G x else 0)) : UR σ a b n K F' := by
  refine ⟨g', h', h1, h2, fun t u ht hu => ?_⟩
  by_cases e : t = t0 ∧ u = u0
  · obtain ⟨rfl, rfl⟩ := e
    exact ⟨_, _, h3, h4, MN_cg (MN_meets hMN hN hG hE hm) (fun x => by rw [hF', if_pos ⟨rfl, rfl⟩])⟩
  · obtain ⟨L, M, a1, a2, a3⟩ := hF t u ht hu
    have e2 := h5 (31 * t + u) (by omega)
    exact ⟨L, M, e2.1.trans a1, e2.2.trans a2, MN_cg a3 (fun x => by rw [hF', if_neg e, Nat.add_zero])⟩
def St.TU (A : St) (P : Nat → Bool) (c s t u : Nat) (e : Int) : Nat := sumN s (fun s' => if pcN 3 t ≤ u then A.WU P c s' (u - pcN 3 t) (e - A.mo false c s' t) else 0)
def St.HU (A : St) (P : Nat → Bool) (c s t v t' u : Nat) (e : Int) : Nat := if t' < t then A.TU P c (s + 1) t' u e else A.TU P c s t' u e + (if t' = t ∧ pcN 3 t ≤ u ∧ u - pcN 3 t < v then A.WU P c s (u - pcN 3 t) (e - A.mo false c s t) else 0)
theorem HU_0 (A : St) (P : Nat → Bool) (c t' u : Nat) (e : Int) : A.HU P c 0 0 0 t' u e = 0 := by
  unfold St.HU
  rw [if_neg (by omega), if_neg (fun q => by omega)]; rfl
theorem HU_s (A : St) (P : Nat → Bool) (c s t v t' u : Nat) (e : Int) : A.HU P c s t (v + 1) t' u e = A.HU P c s t v t' u e + (if t' = t ∧ u = v + pcN 3 t then A.WU P c s v (e - A.mo false c s t) else 0) := by
  unfold St.HU
  by_cases h : t' < t
  · rw [if_pos h, if_pos h, if_neg (fun q => by omega)]; rfl
  · rw [if_neg h, if_neg h, Nat.add_assoc]
    congr 1
    by_cases h2 : t' = t ∧ u = v + pcN 3 t
    · rw [if_pos h2, if_pos ⟨h2.1, by omega, by omega⟩, if_neg (fun q => by omega), show u - pcN 3 t = v by omega, Nat.zero_add]
    · rw [if_neg h2]
      by_cases h3 : t' = t ∧ pcN 3 t ≤ u ∧ u - pcN 3 t < v
      · rw [if_pos h3, if_pos ⟨h3.1, h3.2.1, by omega⟩]; rfl
      · rw [if_neg h3, if_neg (fun q => by omega)]
theorem HU_t (A : St) (P : Nat → Bool) (c s t v t' u : Nat) (e : Int) (hv : 31 ≤ v + pcN 3 t) (hu : u < 31) : A.HU P c s (t + 1) 0 t' u e = A.HU P c s t v t' u e := by
  unfold St.HU
  by_cases h : t' < t
  · rw [if_pos h, if_pos (by omega)]
  · rw [if_neg h]
    by_cases h2 : t' = t
    · subst h2
      rw [if_pos (by omega)]
      show A.TU P c s t' u e + (if _ then _ else 0) = _
      congr 1
      by_cases h3 : pcN 3 t' ≤ u
      · rw [if_pos h3, if_pos ⟨rfl, h3, by omega⟩]
      · rw [if_neg h3, if_neg (fun q => h3 q.2.1)]
    · rw [if_neg (by omega), if_neg (fun q => by omega), if_neg (fun q => h2 q.1)]
theorem HU_n (A : St) (P : Nat → Bool) (c s t u : Nat) (e : Int) {K : Nat} (h : t < K) : A.HU P c (s + 1) 0 0 t u e = A.HU P c s K 0 t u e := by
  unfold St.HU
  rw [if_pos h, if_neg (by omega), if_neg (fun q => by omega)]; rfl
theorem HU_e (A : St) (P : Nat → Bool) (c t u : Nat) (e : Int) : A.WU P (c + 1) t u e = A.HU P c (2 ^ A.R) 0 0 t u e := by
  unfold St.HU
  rw [if_neg (by omega), if_neg (fun q => by omega)]; rfl
