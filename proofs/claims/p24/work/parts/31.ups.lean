variable {eN : Nat}
/-! HOW MANY OF THE LEAST have so many ups -/
def Md.D (m : Md) (f : Nat) : Nat → Nat → Nat → Nat
  | 0, t, u => if t = f ∧ u = pcN 3 t then 1 else 0
  | c + 1, t, u => sumN m.K (fun s => if m.cn f c s t = m.B f c s ∧ pcN 3 t ≤ u then m.D f c s (u - pcN 3 t) else 0)
def Md.Dj (m : Md) (f c j t u : Nat) : Nat := sumN j (fun s => if m.cn f c s t = m.B f c s ∧ pcN 3 t ≤ u then m.D f c s (u - pcN 3 t) else 0)
theorem Dj_add {m : Md} {f c j t : Nat} (hl : m.cn f c j t = m.B f c j) {h g : Nat → Int32} (hf : ∀ x, x < 31 → h x = nI (m.D f c j x)) (hg : ∀ x, x < 31 → g x = nI (m.Dj f c j t x)) : ∀ x, x < 31 → adV 31 31 30 (pcN 3 t) h g x = nI (m.Dj f c (j + 1) t x) := by
  intro x hx
  unfold adV Md.Dj
  rw [sumN]
  have hg' := hg x hx
  unfold Md.Dj at hg'
  by_cases e : pcN 3 t ≤ x
  · rw [if_pos ⟨e, by omega, by omega, hx⟩, if_pos ⟨hl, e⟩, hg', hf _ (by omega), nI_add]
  · rw [if_neg (fun q => e q.1), if_neg (fun q => e q.2), hg']; rfl
theorem Dj_no {m : Md} {f c j t : Nat} (hl : ¬ m.cn f c j t = m.B f c j) (u : Nat) : m.Dj f c (j + 1) t u = m.Dj f c j t u := by
  unfold Md.Dj
  rw [sumN, if_neg (fun q => hl q.1)]; rfl
def Md.ue (m : Md) (f n u : Nat) : Nat := sumN n (fun k => m.D f (m.C - 1) k u)
def Md.mi (m : Md) (n u : Nat) : Nat := sumN n (fun f => if m.L f = mnN m.L (m.K - 1) then m.ue f m.K u else 0)
def Md.mu (m : Md) (u : Nat) : Nat := m.mi m.K u
theorem GW.one {σ : Sto} {q N n I J : Nat} {F F' : Nat → Nat → Nat} (h : GW σ q N n I J F) {i : Nat} {g : Nat → Int32} (hi : i < I) (hg : ∀ j, j < J → g j = nI (F' i j)) (hF : ∀ a, a ≠ i → ∀ j, j < J → F' a j = F a j) : GW (va_up σ (q + 1 + i) (pI .int n g)) q N n I J F' := h.put (fun _ => hg) (fun a _ e h => ⟨h, fun j hj => hF a e j hj⟩)
theorem GW.eq {σ : Sto} {q N n I J : Nat} {F F' : Nat → Nat → Nat} (h : GW σ q N n I J F) (hF : ∀ a j, a < I → j < J → F' a j = F a j) : GW σ q N n I J F' := h.less (Nat.le_refl _) (Nat.le_refl _) hF
theorem GW.z {σ : Sto} {q N n J : Nat} {F F' : Nat → Nat → Nat} (h : GW σ q N n 0 0 F) : GW σ q N n 0 J F' := ⟨h.1, fun i hi => by obtain ⟨g, h1, -⟩ := h.2 i hi; exact ⟨g, h1, fun h => by omega⟩⟩
set_option maxRecDepth 100000 in
set_option maxHeartbeats 4000000 in
theorem w_lac3 {σ0 : Sto} {a b f c s : Nat} {m : Md} (hS : LsS σ0 a b) (hP : PrW σ0 4 m) (hm : m.ok) (hf : f < m.K) (hB : GP σ0 68 10 8 (fun i j => i < m.C ∧ j < m.K) (m.B f)) (hc : c + 1 < m.C) (hN : GW σ0 a 8 31 m.K 31 (m.D f c)) (hs' : s < m.K) {QQ : Option Value → Sto → Prop}
    (K : ∀ σ, same σ0 σ (fun i => b + 1 ≤ i ∧ i ≤ b + 8) → GW σ b 8 31 m.K 31 (m.Dj f c (s + 1)) → ∀ x4 : Option Value, PW mX2_addColumn 0 0 QQ 89 [some (.ref 67), some (.ref 4), some (.int (nI c)), some (.int (nI s)), x4] [] (eN + 114) σ 0 0) : ∀ n t, t + n = m.K → ∀ σ, same σ0 σ (fun i => b + 1 ≤ i ∧ i ≤ b + 8) → GW σ b 8 31 m.K 31 (fun t' u => if t' < t then m.Dj f c (s + 1) t' u else m.Dj f c s t' u) → PW mX2_addColumn 0 0 QQ 39 [some (.ref 67), some (.ref 4), some (.int (nI c)), some (.int (nI s)), some (.int (nI t))] [] (eN + 114) σ 0 0 := by
  have hK := Md.K_le hm
  have hC := hm.1
  obtain ⟨h67, hab⟩ := id hS
  intro n
  induction n with
  | zero =>
    intro t ht σ hs hG
    have h4 := (hs 4 (by omega)).trans hP.1
    refine P_iload (q := 41) dX2_addColumn_39 rfl rfl ?_
    refine P_aload_n (q := 42) dX2_addColumn_41 rfl rfl ?_
    refine P_get (q := 45) dX2_addColumn_42 rfl fX2_26 (by first | decide | exact lt_c (by decide)) (h4) rfl ?_
    refine P_icmp_ge (q := 48) (tgt := 89) dX2_addColumn_45 rfl (by first | decide | exact lt_c (by decide)) (fun c_45 => ?_) (fun c_45 => ?_)
    · rw [nI_leI (by omega) (by omega)] at c_45
      exact K σ hs (hG.eq (fun t' u h1 h2 => (if_pos (by omega)).symm)) _
    · exfalso; rw [nI_leI (by omega) (by omega)] at c_45; omega
  | succ n ih =>
    intro t ht σ hs hG
    have ht' : t < m.K := by omega
    have h4 := (hs 4 (by omega)).trans hP.1
    have hPσ := hP.congr (τ := σ) (fun i h1 h2 => hs i (by omega))
    have h67' := (hs 67 (by omega)).trans h67
    have hSσ : LsO σ := ⟨a, b, h67', hab⟩
    have hBσ := hB.congr (τ := σ) (fun i h1 h2 => hs i (by omega))
    have hNσ := hN.congr (τ := σ) (fun i h1 h2 => hs i (by omega))
    obtain ⟨h, f1, f2⟩ := hNσ.2 s (by omega)
    have f3 := f2 hs'
    obtain ⟨g, g1, g2⟩ := hG.2 t (by omega)
    have g3 : ∀ x, x < 31 → g x = nI (m.Dj f c s t x) := fun x hx => (g2 ht' x hx).trans (congrArg nI (if_neg (by omega)))
    have hpc := pcN_le 3 t
    have hT : ∀ t2 u, t2 ≠ t → (if t2 < t + 1 then m.Dj f c (s + 1) t2 u else m.Dj f c s t2 u) = if t2 < t then m.Dj f c (s + 1) t2 u else m.Dj f c s t2 u := fun t2 u e2 => by
      by_cases e3 : t2 < t
      · rw [if_pos e3, if_pos (by omega)]
      · rw [if_neg e3, if_neg (by omega)]
    have hy : ∀ g' : Nat → Int32, (∀ x, x < 31 → g' x = nI (m.Dj f c (s + 1) t x)) → GW (va_up σ (b + 1 + t) (pI .int 31 g')) b 8 31 m.K 31 (fun t' u => if t' < t + 1 then m.Dj f c (s + 1) t' u else m.Dj f c s t' u) := fun g' hg' => hG.one ht' (fun x hx => by rw [if_pos (by omega)]; exact hg' x hx) (fun t2 e2 u hu => hT t2 u e2)
    have hn : ¬ m.cn f c s t = m.B f c s → GW σ b 8 31 m.K 31 (fun t' u => if t' < t + 1 then m.Dj f c (s + 1) t' u else m.Dj f c s t' u) := fun hl => hG.eq (fun t2 u h1 h2 => by
      by_cases e : t2 = t
      · rw [e, if_pos (by omega), if_neg (by omega)]; exact Dj_no hl u
      · exact hT t2 u e)
    refine P_iload (q := 41) dX2_addColumn_39 rfl rfl ?_
    refine P_aload_n (q := 42) dX2_addColumn_41 rfl rfl ?_
    refine P_get (q := 45) dX2_addColumn_42 rfl fX2_26 (by first | decide | exact lt_c (by decide)) (h4) rfl ?_
    refine P_icmp_ge (q := 48) (tgt := 89) dX2_addColumn_45 rfl (by first | decide | exact lt_c (by decide)) (fun c_45 => ?_) (fun c_45 => ?_)
    · exfalso; rw [nI_leI (by omega) (by omega)] at c_45; omega
    · rw [nI_leI (by omega) (by omega)] at c_45
      refine P_aload_n (q := 49) dX2_addColumn_48 rfl rfl ?_
      refine P_aload_n (q := 50) dX2_addColumn_49 rfl rfl ?_
      refine P_iload_n (q := 51) dX2_addColumn_50 rfl rfl ?_
      refine P_iload_n (q := 52) dX2_addColumn_51 rfl rfl ?_
      refine P_iload (q := 54) dX2_addColumn_52 rfl rfl ?_
      refine P_cv1 (q := 57) dX2_addColumn_54 rfl kX2_85 (t_isl hSσ hPσ hm hf hBσ hc hs' ht' ⟨hc, ht'⟩ ⟨by omega, hs'⟩) rfl rfl (by first | decide | exact lt_c (by decide)) (h67') rfl ⟨by decide, by decide⟩ (Nat.le_of_ble_eq_true rfl) ⟨Nat.le_refl _, Nat.le_refl _⟩ ?_
      refine P_if_eq (q := 60) (tgt := 83) dX2_addColumn_57 rfl (by first | decide | exact lt_c (by decide)) (fun c_57 => ?_) (fun c_57 => ?_)
      · rw [bI_0] at c_57
        refine P_iinc (q := 86) (L' := [_, _, _, _, _]) (v := nI (t + 1)) dX2_addColumn_83 rfl (by first | decide | exact lt_c (by decide)) rfl (nI_1 t) rfl ?_
        refine P_goto (tgt := 39) dX2_addColumn_86 (by first | decide | exact lt_c (by decide)) ?_
        first
          | exact ih (t + 1) (by omega) _ (hs.up (by omega)) (hy _ (Dj_add (of_decide_eq_true c_57) f3 g3))
          | exact ih (t + 1) (by omega) _ hs (hn (of_decide_eq_false c_57))
      · rw [bI_n] at c_57
        refine P_aload_n (q := 61) dX2_addColumn_60 rfl rfl ?_
        refine P_get (q := 64) dX2_addColumn_61 rfl fX2_16 (by first | decide | exact lt_c (by decide)) (h67') rfl ?_
        refine P_iload_n (q := 65) dX2_addColumn_64 rfl rfl ?_
        refine P_qald (q := 66) (j := s) (b := a + 1 + s) 2 (fun _ => rfl) rfl dX2_addColumn_65 rfl (by omega) (hNσ.1) (rfl) (by omega) (by first | decide | exact lt_c (by decide)) (grR_at (by omega)) ?_
        refine P_bipush (q := 68) (v := nI 30) dX2_addColumn_66 rfl (by decide +kernel) ?_
        refine P_iload (q := 70) dX2_addColumn_68 rfl rfl ?_
        refine P_cs1 (q := 73) dX2_addColumn_70 rfl kX2_89 (t_bc32 t (by omega)) rfl rfl ⟨by decide, by decide⟩ (Nat.le_of_ble_eq_true rfl) ⟨Nat.le_refl _, Nat.le_refl _⟩ ?_
        refine P_aload_n (q := 74) dX2_addColumn_73 rfl rfl ?_
        refine P_get (q := 77) dX2_addColumn_74 rfl fX2_19 (by first | decide | exact lt_c (by decide)) (h67') rfl ?_
        refine P_iload (q := 79) dX2_addColumn_77 rfl rfl ?_
        refine P_qald (q := 80) (j := t) (b := b + 1 + t) 2 (fun _ => rfl) rfl dX2_addColumn_79 rfl (by omega) (hG.1) (rfl) (by omega) (by first | decide | exact lt_c (by decide)) (grR_at (by omega)) ?_
        refine P_cs0 (q := 83) dX2_addColumn_80 rfl kX2_98 (t_addShifted (ρ := 30) (s := pcN 3 t) (by omega) (by omega) (by omega) f1 (by first | decide | exact lt_c (by decide)) (by first | decide | exact lt_c (by decide)) (by first | decide | exact lt_c (by decide)) (by omega) g1) rfl rfl ⟨by decide, by decide⟩ (Nat.le_of_ble_eq_true rfl) ⟨Nat.le_refl _, Nat.le_refl _⟩ ?_
        refine P_iinc (q := 86) (L' := [_, _, _, _, _]) (v := nI (t + 1)) dX2_addColumn_83 rfl (by first | decide | exact lt_c (by decide)) rfl (nI_1 t) rfl ?_
        refine P_goto (tgt := 39) dX2_addColumn_86 (by first | decide | exact lt_c (by decide)) ?_
        first
          | exact ih (t + 1) (by omega) _ (hs.up (by omega)) (hy _ (Dj_add (of_decide_eq_true c_57) f3 g3))
          | exact ih (t + 1) (by omega) _ hs (hn (of_decide_eq_false c_57))
set_option maxRecDepth 100000 in
set_option maxHeartbeats 4000000 in
theorem w_lac2 {σ0 : Sto} {a b f c : Nat} {m : Md} (hS : LsS σ0 a b) (hP : PrW σ0 4 m) (hm : m.ok) (hf : f < m.K) (hB : GP σ0 68 10 8 (fun i j => i < m.C ∧ j < m.K) (m.B f)) (hc : c + 1 < m.C) (hN : GW σ0 a 8 31 m.K 31 (m.D f c)) : ∀ n s, s + n = m.K → ∀ σ, same σ0 σ (fun i => b + 1 ≤ i ∧ i ≤ b + 8) → GW σ b 8 31 m.K 31 (m.Dj f c s) → ∀ x4 : Option Value, PW mX2_addColumn 0 0 (fun v σ' => v = none ∧ same σ0 σ' (fun i => i = 67 ∨ (79 ≤ i ∧ i ≤ 96)) ∧ LsS σ' b a ∧ GW σ' b 8 31 m.K 31 (m.D f (c + 1)) ∧ GW σ' a 8 31 0 0 zz2) 28 [some (.ref 67), some (.ref 4), some (.int (nI c)), some (.int (nI s)), x4] [] (eN + 114) σ 0 0 := by
  have hK := Md.K_le hm
  have hC := hm.1
  obtain ⟨h67, hab⟩ := id hS
  intro n
  induction n with
  | zero =>
    intro s hs' σ hs hG x4
    have e : s = m.K := by omega
    subst e
    have h4 := (hs 4 (by omega)).trans hP.1
    have h67' := (hs 67 (by omega)).trans h67
    refine P_iload_n (q := 29) dX2_addColumn_28 rfl rfl ?_
    refine P_aload_n (q := 30) dX2_addColumn_29 rfl rfl ?_
    refine P_get (q := 33) dX2_addColumn_30 rfl fX2_26 (by first | decide | exact lt_c (by decide)) (h4) rfl ?_
    refine P_icmp_ge (q := 36) (tgt := 95) dX2_addColumn_33 rfl (by first | decide | exact lt_c (by decide)) (fun c_33 => ?_) (fun c_33 => ?_)
    · rw [nI_leI (by omega) (by omega)] at c_33
      refine P_aload_n (q := 96) dX2_addColumn_95 rfl rfl ?_
      refine P_get (q := 99) dX2_addColumn_96 rfl fX2_16 (by first | decide | exact lt_c (by decide)) (h67') rfl ?_
      refine P_astore_n (q := 100) (L' := [_, _, _, _, _]) dX2_addColumn_99 rfl (by first | decide | exact lt_c (by decide)) rfl ?_
      refine P_aload_n (q := 101) dX2_addColumn_100 rfl rfl ?_
      refine P_aload_n (q := 102) dX2_addColumn_101 rfl rfl ?_
      refine P_get (q := 105) dX2_addColumn_102 rfl fX2_19 (by first | decide | exact lt_c (by decide)) (h67') rfl ?_
      refine P_put (q := 108) (fs' := [_, _, _]) dX2_addColumn_105 rfl gX2_16 (by first | decide | exact lt_c (by decide)) (h67') (fun _ => rfl) (fun _ => rfl) (Nat.le_of_ble_eq_true rfl) rfl (rfl) ?_
      refine P_aload_n (q := 109) dX2_addColumn_108 rfl rfl ?_
      refine P_aload_n (q := 110) dX2_addColumn_109 rfl rfl ?_
      refine P_put (q := 113) (fs' := [_, _, _]) dX2_addColumn_110 rfl gX2_19 (by first | decide | exact lt_c (by decide)) (up_at _ _ _) (fun _ => rfl) (fun _ => rfl) (Nat.le_of_ble_eq_true rfl) rfl (up_up _ _ _ _) ?_
      refine P_vret dX2_addColumn_113 rfl ?_
      refine ⟨rfl, fun i hi => (up_ne _ _ (by omega)).trans (hs i (by omega)), ⟨up_at _ _ _, by omega⟩, hG.congr (fun i h1 h2 => up_ne _ _ (by omega)), ?_⟩
      exact (hN.congr (fun i h1 h2 => (up_ne _ _ (by omega)).trans (hs i (by omega)))).none
    · exfalso; rw [nI_leI (by omega) (by omega)] at c_33; omega
  | succ n ih =>
    intro s hs' σ hs hG x4
    have h4 := (hs 4 (by omega)).trans hP.1
    refine P_iload_n (q := 29) dX2_addColumn_28 rfl rfl ?_
    refine P_aload_n (q := 30) dX2_addColumn_29 rfl rfl ?_
    refine P_get (q := 33) dX2_addColumn_30 rfl fX2_26 (by first | decide | exact lt_c (by decide)) (h4) rfl ?_
    refine P_icmp_ge (q := 36) (tgt := 95) dX2_addColumn_33 rfl (by first | decide | exact lt_c (by decide)) (fun c_33 => ?_) (fun c_33 => ?_)
    · exfalso; rw [nI_leI (by omega) (by omega)] at c_33; omega
    · rw [nI_leI (by omega) (by omega)] at c_33
      refine P_iconst (q := 37) (v := nI 0) dX2_addColumn_36 rfl (by decide +kernel) ?_
      refine P_istore (q := 39) (L' := [_, _, _, _, _]) dX2_addColumn_37 rfl (by first | decide | exact lt_c (by decide)) rfl ?_
      refine w_lac3 hS hP hm hf hB hc hN (s := s) (by omega) (fun σ2 hs2 hG2 x4 => ?_) m.K 0 (by omega) σ hs (hG.eq (fun t u h1 h2 => if_neg (by omega)))
      refine P_iinc (q := 92) (L' := [_, _, _, _, _]) (v := nI (s + 1)) dX2_addColumn_89 rfl (by first | decide | exact lt_c (by decide)) rfl (nI_1 s) rfl ?_
      refine P_goto (tgt := 28) dX2_addColumn_92 (by first | decide | exact lt_c (by decide)) ?_
      exact ih (s + 1) (by omega) σ2 hs2 hG2 _
set_option maxRecDepth 100000 in
set_option maxHeartbeats 4000000 in
theorem w_lac1 {σ0 : Sto} {a b f c : Nat} {m : Md} (hS : LsS σ0 a b) (hP : PrW σ0 4 m) (hm : m.ok) (hf : f < m.K) (hB : GP σ0 68 10 8 (fun i j => i < m.C ∧ j < m.K) (m.B f)) (hc : c + 1 < m.C) (hN : GW σ0 a 8 31 m.K 31 (m.D f c)) : ∀ n t, t + n = m.K → ∀ σ, same σ0 σ (fun i => b + 1 ≤ i ∧ i ≤ b + 8) → GW σ b 8 31 t 31 zz2 → ∀ x4 : Option Value, PW mX2_addColumn 0 0 (fun v σ' => v = none ∧ same σ0 σ' (fun i => i = 67 ∨ (79 ≤ i ∧ i ≤ 96)) ∧ LsS σ' b a ∧ GW σ' b 8 31 m.K 31 (m.D f (c + 1)) ∧ GW σ' a 8 31 0 0 zz2) 2 [some (.ref 67), some (.ref 4), some (.int (nI c)), some (.int (nI t)), x4] [] (eN + 114) σ 0 0 := by
  have hK := Md.K_le hm
  have hC := hm.1
  obtain ⟨h67, hab⟩ := id hS
  intro n
  induction n with
  | zero =>
    intro t ht σ hs hG x4
    have e : t = m.K := by omega
    subst e
    have h4 := (hs 4 (by omega)).trans hP.1
    refine P_iload_n (q := 3) dX2_addColumn_2 rfl rfl ?_
    refine P_aload_n (q := 4) dX2_addColumn_3 rfl rfl ?_
    refine P_get (q := 7) dX2_addColumn_4 rfl fX2_26 (by first | decide | exact lt_c (by decide)) (h4) rfl ?_
    refine P_icmp_ge (q := 10) (tgt := 26) dX2_addColumn_7 rfl (by first | decide | exact lt_c (by decide)) (fun c_7 => ?_) (fun c_7 => ?_)
    · rw [nI_leI (by omega) (by omega)] at c_7
      refine P_iconst (q := 27) (v := nI 0) dX2_addColumn_26 rfl (by decide +kernel) ?_
      refine P_istore_n (q := 28) (L' := [_, _, _, _, _]) dX2_addColumn_27 rfl (by first | decide | exact lt_c (by decide)) rfl ?_
      exact w_lac2 hS hP hm hf hB hc hN m.K 0 (by omega) σ hs hG _
    · exfalso; rw [nI_leI (by omega) (by omega)] at c_7; omega
  | succ n ih =>
    intro t ht σ hs hG x4
    have h4 := (hs 4 (by omega)).trans hP.1
    have h67' := (hs 67 (by omega)).trans h67
    obtain ⟨g, g1, -⟩ := hG.2 t (by omega)
    refine P_iload_n (q := 3) dX2_addColumn_2 rfl rfl ?_
    refine P_aload_n (q := 4) dX2_addColumn_3 rfl rfl ?_
    refine P_get (q := 7) dX2_addColumn_4 rfl fX2_26 (by first | decide | exact lt_c (by decide)) (h4) rfl ?_
    refine P_icmp_ge (q := 10) (tgt := 26) dX2_addColumn_7 rfl (by first | decide | exact lt_c (by decide)) (fun c_7 => ?_) (fun c_7 => ?_)
    · exfalso; rw [nI_leI (by omega) (by omega)] at c_7; omega
    · rw [nI_leI (by omega) (by omega)] at c_7
      refine P_aload_n (q := 11) dX2_addColumn_10 rfl rfl ?_
      refine P_get (q := 14) dX2_addColumn_11 rfl fX2_19 (by first | decide | exact lt_c (by decide)) (h67') rfl ?_
      refine P_iload_n (q := 15) dX2_addColumn_14 rfl rfl ?_
      refine P_qald (q := 16) (j := t) (b := b + 1 + t) 2 (fun _ => rfl) rfl dX2_addColumn_15 rfl (by omega) (hG.1) (rfl) (by omega) (by first | decide | exact lt_c (by decide)) (grR_at (by omega)) ?_
      refine P_iconst (q := 17) (v := nI 0) dX2_addColumn_16 rfl (by decide +kernel) ?_
      refine P_cs0 (q := 20) dX2_addColumn_17 rfl kX2_44 (t_fill (f := g) (nI 0) (by omega) (by first | decide | exact lt_c (by decide)) g1) rfl rfl ⟨by decide, by decide⟩ (Nat.le_of_ble_eq_true rfl) ⟨Nat.le_refl _, Nat.le_refl _⟩ ?_
      refine P_iinc (q := 23) (L' := [_, _, _, _, _]) (v := nI (t + 1)) dX2_addColumn_20 rfl (by first | decide | exact lt_c (by decide)) rfl (nI_1 t) rfl ?_
      refine P_goto (tgt := 2) dX2_addColumn_23 (by first | decide | exact lt_c (by decide)) ?_
      exact ih (t + 1) (by omega) _ (hs.up (by omega)) (hG.put (fun _ j hj => flV_all hj) (fun a _ e h => ⟨by omega, fun j hj => rfl⟩)) _
set_option maxRecDepth 100000 in
set_option maxHeartbeats 4000000 in
theorem t_lac {σ0 : Sto} {a b f c : Nat} {m : Md} (hS : LsS σ0 a b) (hP : PrW σ0 4 m) (hm : m.ok) (hf : f < m.K) (hB : GP σ0 68 10 8 (fun i j => i < m.C ∧ j < m.K) (m.B f)) (hc : c + 1 < m.C) (hN : GW σ0 a 8 31 m.K 31 (m.D f c)) (hG : GW σ0 b 8 31 0 0 zz2) : CP mX2_addColumn 0 0 [.ref 67, .ref 4, .int (nI c)] (eN + 114) σ0 (fun v σ' => v = none ∧ same σ0 σ' (fun i => i = 67 ∨ (79 ≤ i ∧ i ≤ 96)) ∧ LsS σ' b a ∧ GW σ' b 8 31 m.K 31 (m.D f (c + 1)) ∧ GW σ' a 8 31 0 0 zz2) := by
  refine CP_of (by decide +kernel) (Nat.le_of_ble_eq_true rfl) ?_
  change PW _ _ _ _ 0 [_, _, _, _, _] [] _ _ _ _
  refine P_iconst (q := 1) (v := nI 0) dX2_addColumn_0 rfl (by decide +kernel) ?_
  refine P_istore_n (q := 2) (L' := [_, _, _, _, _]) dX2_addColumn_1 rfl (by first | decide | exact lt_c (by decide)) rfl ?_
  exact w_lac1 hS hP hm hf hB hc hN m.K 0 (by omega) σ0 same.rf hG.z _
def LsW (σ : Sto) : Prop := ∃ a b, LsS σ a b ∧ GW σ a 8 31 0 0 zz2 ∧ GW σ b 8 31 0 0 zz2
theorem LsW.o {σ : Sto} (h : LsW σ) : LsO σ := by obtain ⟨a, b, h, -⟩ := h; exact ⟨a, b, h⟩
theorem LsW.congr {σ τ : Sto} (h : LsW σ) (he : ∀ k, k = 67 ∨ (79 ≤ k ∧ k ≤ 96) → τ k = σ k) : LsW τ := by
  obtain ⟨a, b, ⟨h1, h2⟩, h3, h4⟩ := h
  exact ⟨a, b, ⟨(he 67 (by omega)).trans h1, h2⟩, h3.congr (fun k c d => he k (by omega)), h4.congr (fun k c d => he k (by omega))⟩
theorem ue_add {m : Md} {f k : Nat} {h g : Nat → Int32} {G : Nat → Nat} (hf : ∀ x, x < 31 → h x = nI (m.D f (m.C - 1) k x)) (hg : ∀ x, x < 31 → g x = nI (G x + m.ue f k x)) : ∀ x, x < 31 → adV 31 31 30 0 h g x = nI (G x + m.ue f (k + 1) x) := by
  intro x hx
  have hg' := hg x hx
  unfold adV Md.ue
  unfold Md.ue at hg'
  rw [sumN, ← Nat.add_assoc, if_pos ⟨Nat.zero_le _, by omega, by omega, hx⟩, hg', hf _ (by omega), nI_add]
  rfl
set_option maxRecDepth 100000 in
set_option maxHeartbeats 4000000 in
theorem w_au3 {σ0 : Sto} {f : Nat} {m : Md} {g0 : Nat → Int32} {G : Nat → Nat} (hP : PrW σ0 4 m) (hm : m.ok) (hf : f < m.K) (hB : GP σ0 68 10 8 (fun i j => i < m.C ∧ j < m.K) (m.B f)) (hg0 : ∀ x, x < 31 → g0 x = nI (G x)) {a b : Nat} : ∀ n k, k + n = m.K → ∀ σ, same σ0 σ (fun i => i = 67 ∨ (79 ≤ i ∧ i ≤ 96) ∨ i = 99) → LsS σ a b → GW σ a 8 31 m.K 31 (m.D f (m.C - 1)) → GW σ b 8 31 0 0 zz2 → (∃ g : Nat → Int32, σ 99 = pI .int 31 g ∧ ∀ x, x < 31 → g x = nI (G x + m.ue f k x)) → PW mX2_addUps 0 0 (fun v σ' => v = none ∧ same σ0 σ' (fun i => i = 67 ∨ (79 ≤ i ∧ i ≤ 96) ∨ i = 99) ∧ LsW σ' ∧ ∃ g' : Nat → Int32, σ' 99 = pI .int 31 g' ∧ ∀ x, x < 31 → g' x = nI (G x + m.ue f m.K x)) 71 [some (.ref 67), some (.ref 99), some (.ref 4), some (.int (nI f)), some (.int (nI k))] [] (eN + 114) σ 0 0 := by
  have hK := Md.K_le hm
  have hC := hm.1
  intro n
  induction n with
  | zero =>
    intro k hk σ hs hS hG hG2 hR
    have e : k = m.K := by omega
    subst e
    have h4 := (hs 4 (by omega)).trans hP.1
    refine P_iload (q := 73) dX2_addUps_71 rfl rfl ?_
    refine P_aload_n (q := 74) dX2_addUps_73 rfl rfl ?_
    refine P_get (q := 77) dX2_addUps_74 rfl fX2_26 (by first | decide | exact lt_c (by decide)) (h4) rfl ?_
    refine P_icmp_ge (q := 80) (tgt := 100) dX2_addUps_77 rfl (by first | decide | exact lt_c (by decide)) (fun c_77 => ?_) (fun c_77 => ?_)
    · rw [nI_leI (by omega) (by omega)] at c_77
      refine P_vret dX2_addUps_100 rfl ?_
      exact ⟨rfl, hs, ⟨a, b, hS, hG.none, hG2⟩, hR⟩
    · exfalso; rw [nI_leI (by omega) (by omega)] at c_77; omega
  | succ n ih =>
    intro k hk σ hs hS hG hG2 hR
    have hk' : k < m.K := by omega
    have h4 := (hs 4 (by omega)).trans hP.1
    obtain ⟨h67, hab⟩ := id hS
    obtain ⟨h, f1, f2⟩ := hG.2 k (by omega)
    have f3 := f2 hk'
    obtain ⟨g, g1, g2⟩ := hR
    refine P_iload (q := 73) dX2_addUps_71 rfl rfl ?_
    refine P_aload_n (q := 74) dX2_addUps_73 rfl rfl ?_
    refine P_get (q := 77) dX2_addUps_74 rfl fX2_26 (by first | decide | exact lt_c (by decide)) (h4) rfl ?_
    refine P_icmp_ge (q := 80) (tgt := 100) dX2_addUps_77 rfl (by first | decide | exact lt_c (by decide)) (fun c_77 => ?_) (fun c_77 => ?_)
    · exfalso; rw [nI_leI (by omega) (by omega)] at c_77; omega
    · rw [nI_leI (by omega) (by omega)] at c_77
      refine P_aload_n (q := 81) dX2_addUps_80 rfl rfl ?_
      refine P_get (q := 84) dX2_addUps_81 rfl fX2_16 (by first | decide | exact lt_c (by decide)) (h67) rfl ?_
      refine P_iload (q := 86) dX2_addUps_84 rfl rfl ?_
      refine P_qald (q := 87) (j := k) (b := a + 1 + k) 2 (fun _ => rfl) rfl dX2_addUps_86 rfl (by omega) (hG.1) (rfl) (by omega) (by first | decide | exact lt_c (by decide)) (grR_at (by omega)) ?_
      refine P_bipush (q := 89) (v := nI 30) dX2_addUps_87 rfl (by decide +kernel) ?_
      refine P_iconst (q := 90) (v := nI 0) dX2_addUps_89 rfl (by decide +kernel) ?_
      refine P_aload_n (q := 91) dX2_addUps_90 rfl rfl ?_
      refine P_cs0 (q := 94) dX2_addUps_91 rfl kX2_98 (t_addShifted (ρ := 30) (s := 0) (by omega) (by omega) (by omega) f1 (by first | decide | exact lt_c (by decide)) (by first | decide | exact lt_c (by decide)) (by first | decide | exact lt_c (by decide)) (by first | decide | exact lt_c (by decide)) g1) rfl rfl ⟨by decide, by decide⟩ (Nat.le_of_ble_eq_true rfl) ⟨Nat.le_refl _, Nat.le_refl _⟩ ?_
      refine P_iinc (q := 97) (L' := [_, _, _, _, _]) (v := nI (k + 1)) dX2_addUps_94 rfl (by first | decide | exact lt_c (by decide)) rfl (nI_1 k) rfl ?_
      refine P_goto (tgt := 71) dX2_addUps_97 (by first | decide | exact lt_c (by decide)) ?_
      exact ih (k + 1) (by omega) _ (hs.up (by omega)) ⟨(up_ne _ _ (by omega)).trans h67, hab⟩ (hG.congr (fun i h1 h2 => up_ne _ _ (by omega))) (hG2.congr (fun i h1 h2 => up_ne _ _ (by omega))) ⟨_, up_at _ _ _, ue_add f3 g2⟩
set_option maxRecDepth 100000 in
set_option maxHeartbeats 4000000 in
theorem w_au2 {σ0 : Sto} {f : Nat} {m : Md} {g0 : Nat → Int32} {G : Nat → Nat} (hP : PrW σ0 4 m) (hm : m.ok) (hf : f < m.K) (hB : GP σ0 68 10 8 (fun i j => i < m.C ∧ j < m.K) (m.B f)) (hg0 : ∀ x, x < 31 → g0 x = nI (G x)) : ∀ n c, c + 1 + n = m.C → ∀ σ a b, same σ0 σ (fun i => i = 67 ∨ (79 ≤ i ∧ i ≤ 96) ∨ i = 99) → LsS σ a b → GW σ a 8 31 m.K 31 (m.D f c) → GW σ b 8 31 0 0 zz2 → σ 99 = pI .int 31 g0 → PW mX2_addUps 0 0 (fun v σ' => v = none ∧ same σ0 σ' (fun i => i = 67 ∨ (79 ≤ i ∧ i ≤ 96) ∨ i = 99) ∧ LsW σ' ∧ ∃ g' : Nat → Int32, σ' 99 = pI .int 31 g' ∧ ∀ x, x < 31 → g' x = nI (G x + m.ue f m.K x)) 44 [some (.ref 67), some (.ref 99), some (.ref 4), some (.int (nI f)), some (.int (nI c))] [] (eN + 114) σ 0 0 := by
  have hK := Md.K_le hm
  have hC := hm.1
  intro n
  induction n with
  | zero =>
    intro c hc σ a b hs hS hG hG2 hq
    have e : c = m.C - 1 := by omega
    subst e
    have h4 := (hs 4 (by omega)).trans hP.1
    refine P_iload (q := 46) dX2_addUps_44 rfl rfl ?_
    refine P_aload_n (q := 47) dX2_addUps_46 rfl rfl ?_
    refine P_get (q := 50) dX2_addUps_47 rfl fX2_60 (by first | decide | exact lt_c (by decide)) (h4) rfl ?_
    refine P_iconst (q := 51) (v := nI 1) dX2_addUps_50 rfl (by decide +kernel) ?_
    refine P_isub (q := 52) dX2_addUps_51 rfl ?_
    rw [pk_sub hC.1]
    refine P_icmp_ge (q := 55) (tgt := 68) dX2_addUps_52 rfl (by first | decide | exact lt_c (by decide)) (fun c_52 => ?_) (fun c_52 => ?_)
    · rw [nI_leI (by omega) (by omega)] at c_52
      refine P_iconst (q := 69) (v := nI 0) dX2_addUps_68 rfl (by decide +kernel) ?_
      refine P_istore (q := 71) (L' := [_, _, _, _, _]) dX2_addUps_69 rfl (by first | decide | exact lt_c (by decide)) rfl ?_
      exact w_au3 hP hm hf hB hg0 m.K 0 (by omega) σ hs hS hG hG2 ⟨g0, hq, fun x hx => hg0 x hx⟩
    · exfalso; rw [nI_leI (by omega) (by omega)] at c_52; omega
  | succ n ih =>
    intro c hc σ a b hs hS hG hG2 hq
    have h4 := (hs 4 (by omega)).trans hP.1
    have hPσ := hP.congr (τ := σ) (fun i h1 h2 => hs i (by omega))
    have hBσ := hB.congr (τ := σ) (fun i h1 h2 => hs i (by omega))
    obtain ⟨h67, hab⟩ := id hS
    refine P_iload (q := 46) dX2_addUps_44 rfl rfl ?_
    refine P_aload_n (q := 47) dX2_addUps_46 rfl rfl ?_
    refine P_get (q := 50) dX2_addUps_47 rfl fX2_60 (by first | decide | exact lt_c (by decide)) (h4) rfl ?_
    refine P_iconst (q := 51) (v := nI 1) dX2_addUps_50 rfl (by decide +kernel) ?_
    refine P_isub (q := 52) dX2_addUps_51 rfl ?_
    rw [pk_sub hC.1]
    refine P_icmp_ge (q := 55) (tgt := 68) dX2_addUps_52 rfl (by first | decide | exact lt_c (by decide)) (fun c_52 => ?_) (fun c_52 => ?_)
    · exfalso; rw [nI_leI (by omega) (by omega)] at c_52; omega
    · rw [nI_leI (by omega) (by omega)] at c_52
      refine P_aload_n (q := 56) dX2_addUps_55 rfl rfl ?_
      refine P_aload_n (q := 57) dX2_addUps_56 rfl rfl ?_
      refine P_iload (q := 59) dX2_addUps_57 rfl rfl ?_
      refine P_callv (q := 62) dX2_addUps_59 rfl (t_lac hS hPσ hm hf hBσ (show c + 1 < m.C by omega) hG hG2) kX2_94 rfl rfl (by first | decide | exact lt_c (by decide)) h67 rfl ⟨by decide, by decide⟩ (Nat.le_of_ble_eq_true rfl) ⟨Nat.le_refl _, Nat.le_refl _⟩ ?_
      rintro v σ1 ⟨rfl, s1, s2, s3, s4⟩
      refine P_iinc (q := 65) (L' := [_, _, _, _, _]) (v := nI (c + 1)) dX2_addUps_62 rfl (by first | decide | exact lt_c (by decide)) rfl (nI_1 c) rfl ?_
      refine P_goto (tgt := 44) dX2_addUps_65 (by first | decide | exact lt_c (by decide)) ?_
      exact ih (c + 1) (by omega) σ1 b a (hs.trans (s1.mono (fun i h => by omega))) s2 s3 s4 ((s1 99 (by omega)).trans hq)
set_option maxRecDepth 100000 in
set_option maxHeartbeats 4000000 in
theorem w_au1 {σ0 : Sto} {f : Nat} {m : Md} {g0 : Nat → Int32} {G : Nat → Nat} (hP : PrW σ0 4 m) (hm : m.ok) (hf : f < m.K) (hB : GP σ0 68 10 8 (fun i j => i < m.C ∧ j < m.K) (m.B f)) (hg0 : ∀ x, x < 31 → g0 x = nI (G x)) {a b : Nat} (hS : LsS σ0 a b) (hG2 : GW σ0 b 8 31 0 0 zz2) (hq : σ0 99 = pI .int 31 g0) : ∀ n t, t + n = m.K → ∀ σ, same σ0 σ (fun i => a + 1 ≤ i ∧ i ≤ a + 8) → GW σ a 8 31 t 31 zz2 → PW mX2_addUps 0 0 (fun v σ' => v = none ∧ same σ0 σ' (fun i => i = 67 ∨ (79 ≤ i ∧ i ≤ 96) ∨ i = 99) ∧ LsW σ' ∧ ∃ g' : Nat → Int32, σ' 99 = pI .int 31 g' ∧ ∀ x, x < 31 → g' x = nI (G x + m.ue f m.K x)) 3 [some (.ref 67), some (.ref 99), some (.ref 4), some (.int (nI f)), some (.int (nI t))] [] (eN + 114) σ 0 0 := by
  have hK := Md.K_le hm
  have hC := hm.1
  obtain ⟨h67, hab⟩ := id hS
  intro n
  induction n with
  | zero =>
    intro t ht σ hs hG
    have e : t = m.K := by omega
    subst e
    have h4 := (hs 4 (by omega)).trans hP.1
    have h67' := (hs 67 (by omega)).trans h67
    obtain ⟨g, g1, g2⟩ := hG.2 f (by omega)
    have g3 := g2 hf
    have hpc := pcN_le 3 f
    refine P_iload (q := 5) dX2_addUps_3 rfl rfl ?_
    refine P_aload_n (q := 6) dX2_addUps_5 rfl rfl ?_
    refine P_get (q := 9) dX2_addUps_6 rfl fX2_26 (by first | decide | exact lt_c (by decide)) (h4) rfl ?_
    refine P_icmp_ge (q := 12) (tgt := 29) dX2_addUps_9 rfl (by first | decide | exact lt_c (by decide)) (fun c_9 => ?_) (fun c_9 => ?_)
    · rw [nI_leI (by omega) (by omega)] at c_9
      refine P_aload_n (q := 30) dX2_addUps_29 rfl rfl ?_
      refine P_get (q := 33) dX2_addUps_30 rfl fX2_16 (by first | decide | exact lt_c (by decide)) (h67') rfl ?_
      refine P_iload_n (q := 34) dX2_addUps_33 rfl rfl ?_
      refine P_qald (q := 35) (j := f) (b := a + 1 + f) 2 (fun _ => rfl) rfl dX2_addUps_34 rfl (by omega) (hG.1) (rfl) (by omega) (by first | decide | exact lt_c (by decide)) (grR_at (by omega)) ?_
      refine P_iload_n (q := 36) dX2_addUps_35 rfl rfl ?_
      refine P_cs1 (q := 39) dX2_addUps_36 rfl kX2_89 (t_bc32 f (by omega)) rfl rfl ⟨by decide, by decide⟩ (Nat.le_of_ble_eq_true rfl) ⟨Nat.le_refl _, Nat.le_refl _⟩ ?_
      refine P_iconst (q := 40) (v := nI 1) dX2_addUps_39 rfl (by decide +kernel) ?_
      refine P_iast (q := 41) (j := pcN 3 f) dX2_addUps_40 rfl (by omega) (g1) (rfl) (by omega) (by first | decide | exact lt_c (by decide)) (rfl) (rfl) ?_
      refine P_iconst (q := 42) (v := nI 0) dX2_addUps_41 rfl (by decide +kernel) ?_
      refine P_istore (q := 44) (L' := [_, _, _, _, _]) dX2_addUps_42 rfl (by first | decide | exact lt_c (by decide)) rfl ?_
      refine w_au2 hP hm hf hB hg0 (m.C - 1) 0 (by omega) _ a b ((hs.mono (fun i h => by omega)).up (by omega)) ⟨(up_ne _ _ (by omega)).trans h67', hab⟩ (hG.one hf (fun x hx => ?_) (fun t e u hu => ?_)) (hG2.congr (fun i h1 h2 => (up_ne _ _ (by omega)).trans (hs i (by omega)))) ((up_ne _ _ (by omega)).trans ((hs 99 (by omega)).trans hq))
      · unfold upd
        rw [Md.D]
        by_cases e : x = pcN 3 f
        · rw [if_pos e, if_pos ⟨rfl, e⟩]
        · rw [if_neg e, if_neg (fun q => e q.2), g3 x hx]; rfl
      · rw [Md.D, if_neg (fun q => e q.1)]; rfl
    · exfalso; rw [nI_leI (by omega) (by omega)] at c_9; omega
  | succ n ih =>
    intro t ht σ hs hG
    have h4 := (hs 4 (by omega)).trans hP.1
    have h67' := (hs 67 (by omega)).trans h67
    obtain ⟨g, g1, -⟩ := hG.2 t (by omega)
    refine P_iload (q := 5) dX2_addUps_3 rfl rfl ?_
    refine P_aload_n (q := 6) dX2_addUps_5 rfl rfl ?_
    refine P_get (q := 9) dX2_addUps_6 rfl fX2_26 (by first | decide | exact lt_c (by decide)) (h4) rfl ?_
    refine P_icmp_ge (q := 12) (tgt := 29) dX2_addUps_9 rfl (by first | decide | exact lt_c (by decide)) (fun c_9 => ?_) (fun c_9 => ?_)
    · exfalso; rw [nI_leI (by omega) (by omega)] at c_9; omega
    · rw [nI_leI (by omega) (by omega)] at c_9
      refine P_aload_n (q := 13) dX2_addUps_12 rfl rfl ?_
      refine P_get (q := 16) dX2_addUps_13 rfl fX2_16 (by first | decide | exact lt_c (by decide)) (h67') rfl ?_
      refine P_iload (q := 18) dX2_addUps_16 rfl rfl ?_
      refine P_qald (q := 19) (j := t) (b := a + 1 + t) 2 (fun _ => rfl) rfl dX2_addUps_18 rfl (by omega) (hG.1) (rfl) (by omega) (by first | decide | exact lt_c (by decide)) (grR_at (by omega)) ?_
      refine P_iconst (q := 20) (v := nI 0) dX2_addUps_19 rfl (by decide +kernel) ?_
      refine P_cs0 (q := 23) dX2_addUps_20 rfl kX2_44 (t_fill (f := g) (nI 0) (by omega) (by first | decide | exact lt_c (by decide)) g1) rfl rfl ⟨by decide, by decide⟩ (Nat.le_of_ble_eq_true rfl) ⟨Nat.le_refl _, Nat.le_refl _⟩ ?_
      refine P_iinc (q := 26) (L' := [_, _, _, _, _]) (v := nI (t + 1)) dX2_addUps_23 rfl (by first | decide | exact lt_c (by decide)) rfl (nI_1 t) rfl ?_
      refine P_goto (tgt := 3) dX2_addUps_26 (by first | decide | exact lt_c (by decide)) ?_
      exact ih (t + 1) (by omega) _ (hs.up (by omega)) (hG.put (fun _ j hj => flV_all hj) (fun a _ e h => ⟨by omega, fun j hj => rfl⟩))
set_option maxRecDepth 100000 in
set_option maxHeartbeats 4000000 in
theorem t_au {σ0 : Sto} {f : Nat} {m : Md} {g0 : Nat → Int32} {G : Nat → Nat} (hP : PrW σ0 4 m) (hm : m.ok) (hf : f < m.K) (hB : GP σ0 68 10 8 (fun i j => i < m.C ∧ j < m.K) (m.B f)) (hg0 : ∀ x, x < 31 → g0 x = nI (G x)) (hS : LsW σ0) (hq : σ0 99 = pI .int 31 g0) : CP mX2_addUps 0 0 [.ref 67, .ref 99, .ref 4, .int (nI f)] (eN + 114) σ0 (fun v σ' => v = none ∧ same σ0 σ' (fun i => i = 67 ∨ (79 ≤ i ∧ i ≤ 96) ∨ i = 99) ∧ LsW σ' ∧ ∃ g' : Nat → Int32, σ' 99 = pI .int 31 g' ∧ ∀ x, x < 31 → g' x = nI (G x + m.ue f m.K x)) := by
  obtain ⟨a, b, hS, hG, hG2⟩ := hS
  refine CP_of (by decide +kernel) (Nat.le_of_ble_eq_true rfl) ?_
  change PW _ _ _ _ 0 [_, _, _, _, _] [] _ _ _ _
  refine P_iconst (q := 1) (v := nI 0) dX2_addUps_0 rfl (by decide +kernel) ?_
  refine P_istore (q := 3) (L' := [_, _, _, _, _]) dX2_addUps_1 rfl (by first | decide | exact lt_c (by decide)) rfl ?_
  exact w_au1 hP hm hf hB hg0 hS hG2 hq m.K 0 (by omega) σ0 same.rf hG.z
set_option maxRecDepth 100000 in
set_option maxHeartbeats 4000000 in
theorem w_fu {σ0 : Sto} {m : Md} (hP : PrW σ0 4 m) (hm : m.ok) : ∀ n f, f + n = m.K → ∀ σ, same σ0 σ (fun i => i = 67 ∨ (69 ≤ i ∧ i ≤ 78) ∨ (79 ≤ i ∧ i ≤ 96) ∨ i = 99) → LsW σ → GP σ 68 10 8 (fun _ _ => False) zz2 → (∃ g : Nat → Int32, σ 99 = pI .int 31 g ∧ ∀ x, x < 31 → g x = nI (m.mi f x)) → PW mX2_fillUps 0 0 (fun v σ' => v = none ∧ same σ0 σ' (fun i => i = 67 ∨ (69 ≤ i ∧ i ≤ 78) ∨ (79 ≤ i ∧ i ≤ 96) ∨ i = 99) ∧ LsW σ' ∧ GP σ' 68 10 8 (fun _ _ => False) zz2 ∧ ∃ g' : Nat → Int32, σ' 99 = pI .int 31 g' ∧ ∀ x, x < 31 → g' x = nI (m.mu x)) 14 [some (.ref 67), some (.ref 99), some (.ref 4), some (.int (nI (mnN m.L (m.K - 1)))), some (.int (nI f))] [] (eN + 114) σ 0 0 := by
  have hK := Md.K_le hm
  have hC := hm.1
  intro n
  induction n with
  | zero =>
    intro f hf σ hs hS hB hR
    have e : f = m.K := by omega
    subst e
    have h4 := (hs 4 (by omega)).trans hP.1
    refine P_iload (q := 16) dX2_fillUps_14 rfl rfl ?_
    refine P_aload_n (q := 17) dX2_fillUps_16 rfl rfl ?_
    refine P_get (q := 20) dX2_fillUps_17 rfl fX2_26 (by first | decide | exact lt_c (by decide)) (h4) rfl ?_
    refine P_icmp_ge (q := 23) (tgt := 48) dX2_fillUps_20 rfl (by first | decide | exact lt_c (by decide)) (fun c_20 => ?_) (fun c_20 => ?_)
    · rw [nI_leI (by omega) (by omega)] at c_20
      refine P_vret dX2_fillUps_48 rfl ?_
      exact ⟨rfl, hs, hS, hB, hR⟩
    · exfalso; rw [nI_leI (by omega) (by omega)] at c_20; omega
  | succ n ih =>
    intro f hf σ hs hS hB hR
    have hf' : f < m.K := by omega
    have h4 := (hs 4 (by omega)).trans hP.1
    have hPσ := hP.congr (τ := σ) (fun i h1 h2 => hs i (by omega))
    have q1 := Md.L_le hm hf'
    have q2 := Md.mnL_le hm (j := m.K - 1)
    obtain ⟨a, b, ⟨h67, hab⟩, -⟩ := id hS
    obtain ⟨g, g1, g2⟩ := hR
    refine P_iload (q := 16) dX2_fillUps_14 rfl rfl ?_
    refine P_aload_n (q := 17) dX2_fillUps_16 rfl rfl ?_
    refine P_get (q := 20) dX2_fillUps_17 rfl fX2_26 (by first | decide | exact lt_c (by decide)) (h4) rfl ?_
    refine P_icmp_ge (q := 23) (tgt := 48) dX2_fillUps_20 rfl (by first | decide | exact lt_c (by decide)) (fun c_20 => ?_) (fun c_20 => ?_)
    · exfalso; rw [nI_leI (by omega) (by omega)] at c_20; omega
    · rw [nI_leI (by omega) (by omega)] at c_20
      refine P_aload_n (q := 24) dX2_fillUps_23 rfl rfl ?_
      refine P_aload_n (q := 25) dX2_fillUps_24 rfl rfl ?_
      refine P_iload (q := 27) dX2_fillUps_25 rfl rfl ?_
      refine P_callv (q := 30) dX2_fillUps_27 rfl (t_look hS.o hPσ hm hf' hB) kX2_36 rfl rfl (by first | decide | exact lt_c (by decide)) h67 rfl ⟨by decide, by decide⟩ (Nat.le_of_ble_eq_true rfl) ⟨Nat.le_refl _, Nat.le_refl _⟩ ?_
      rintro v σ1 ⟨rfl, t1, t2⟩
      have hS1 : LsW σ1 := hS.congr (fun k h => t1 k (by omega))
      have hs1 := hs.trans (t1.mono (fun i h => Or.inr (Or.inl h)))
      have g1' := (t1 99 (by omega)).trans g1
      refine P_iload_n (q := 31) dX2_fillUps_30 rfl rfl ?_
      refine P_icmp_ne (q := 34) (tgt := 42) dX2_fillUps_31 rfl (by first | decide | exact lt_c (by decide)) (fun c_31 => ?_) (fun c_31 => ?_)
      · rw [nI_eq (by omega) (by omega)] at c_31
        refine P_iinc (q := 45) (L' := [_, _, _, _, _]) (v := nI (f + 1)) dX2_fillUps_42 rfl (by first | decide | exact lt_c (by decide)) rfl (nI_1 f) rfl ?_
        refine P_goto (tgt := 14) dX2_fillUps_45 (by first | decide | exact lt_c (by decide)) ?_
        exact ih (f + 1) (by omega) σ1 hs1 hS1 (t2.imp (fun i j h => h.elim)) ⟨g, g1', fun x hx => by rw [g2 x hx]; unfold Md.mi; rw [sumN, if_neg c_31]; rfl⟩
      · rw [nI_eq (by omega) (by omega)] at c_31
        refine P_aload_n (q := 35) dX2_fillUps_34 rfl rfl ?_
        refine P_aload_n (q := 36) dX2_fillUps_35 rfl rfl ?_
        refine P_aload_n (q := 37) dX2_fillUps_36 rfl rfl ?_
        refine P_iload (q := 39) dX2_fillUps_37 rfl rfl ?_
        refine P_callv (q := 42) dX2_fillUps_39 rfl (t_au (hPσ.congr (fun i h1 h2 => t1 i (by omega))) hm hf' t2 g2 hS1 g1') kX2_50 rfl rfl (by first | decide | exact lt_c (by decide)) ((t1 67 (by omega)).trans h67) rfl ⟨by decide, by decide⟩ (Nat.le_of_ble_eq_true rfl) ⟨Nat.le_refl _, Nat.le_refl _⟩ ?_
        rintro v σ2 ⟨rfl, u1, u2, g3, u3, u4⟩
        refine P_iinc (q := 45) (L' := [_, _, _, _, _]) (v := nI (f + 1)) dX2_fillUps_42 rfl (by first | decide | exact lt_c (by decide)) rfl (nI_1 f) rfl ?_
        refine P_goto (tgt := 14) dX2_fillUps_45 (by first | decide | exact lt_c (by decide)) ?_
        exact ih (f + 1) (by omega) σ2 (hs1.trans (u1.mono (fun i h => by omega))) u2 ((t2.imp (fun i j h => h.elim)).congr (fun k h1 h2 => u1 k (by omega))) ⟨g3, u3, fun x hx => by rw [u4 x hx]; unfold Md.mi; rw [sumN, if_pos c_31]⟩
set_option maxRecDepth 100000 in
set_option maxHeartbeats 4000000 in
theorem t_fu {σ0 : Sto} {m : Md} (hP : PrW σ0 4 m) (hm : m.ok) (hS : LsW σ0) (hB : GP σ0 68 10 8 (fun _ _ => False) zz2) {g0 : Nat → Int32} (hq : σ0 99 = pI .int 31 g0) : CP mX2_fillUps 0 0 [.ref 67, .ref 99, .ref 4] (eN + 114) σ0 (fun v σ' => v = none ∧ same σ0 σ' (fun i => i = 67 ∨ (69 ≤ i ∧ i ≤ 78) ∨ (79 ≤ i ∧ i ≤ 96) ∨ i = 99) ∧ LsW σ' ∧ GP σ' 68 10 8 (fun _ _ => False) zz2 ∧ ∃ g' : Nat → Int32, σ' 99 = pI .int 31 g' ∧ ∀ x, x < 31 → g' x = nI (m.mu x)) := by
  have hS1 : LsW (va_up σ0 99 (pI .int 31 (flV 31 (nI 0) g0 31))) := hS.congr (fun k h => up_ne _ _ (by omega))
  have hB1 := hB.congr (τ := va_up σ0 99 (pI .int 31 (flV 31 (nI 0) g0 31))) (fun k h1 h2 => up_ne _ _ (by omega))
  have hP1 := hP.congr (τ := va_up σ0 99 (pI .int 31 (flV 31 (nI 0) g0 31))) (fun k h1 h2 => up_ne _ _ (by omega))
  obtain ⟨a, b, ⟨h67, hab⟩, -⟩ := id hS1
  refine CP_of (by decide +kernel) (Nat.le_of_ble_eq_true rfl) ?_
  change PW _ _ _ _ 0 [_, _, _, _, _] [] _ _ _ _
  refine P_aload_n (q := 1) dX2_fillUps_0 rfl rfl ?_
  refine P_iconst (q := 2) (v := nI 0) dX2_fillUps_1 rfl (by decide +kernel) ?_
  refine P_cs0 (q := 5) dX2_fillUps_2 rfl kX2_44 (t_fill (f := g0) (nI 0) (by omega) (by first | decide | exact lt_c (by decide)) hq) rfl rfl ⟨by decide, by decide⟩ (Nat.le_of_ble_eq_true rfl) ⟨Nat.le_refl _, Nat.le_refl _⟩ ?_
  refine P_aload_n (q := 6) dX2_fillUps_5 rfl rfl ?_
  refine P_aload_n (q := 7) dX2_fillUps_6 rfl rfl ?_
  refine P_callv (q := 10) dX2_fillUps_7 rfl (t_lcost hS1.o hP1 hm hB1) kX2_22 rfl rfl (by first | decide | exact lt_c (by decide)) h67 rfl ⟨by decide, by decide⟩ (Nat.le_of_ble_eq_true rfl) ⟨Nat.le_refl _, Nat.le_refl _⟩ ?_
  rintro v σ1 ⟨rfl, t1, t2⟩
  refine P_istore_n (q := 11) (L' := [_, _, _, _, _]) dX2_fillUps_10 rfl (by first | decide | exact lt_c (by decide)) rfl ?_
  refine P_iconst (q := 12) (v := nI 0) dX2_fillUps_11 rfl (by decide +kernel) ?_
  refine P_istore (q := 14) (L' := [_, _, _, _, _]) dX2_fillUps_12 rfl (by first | decide | exact lt_c (by decide)) rfl ?_
  exact w_fu hP hm m.K 0 (by omega) σ1 (fun i hi => (t1 i (by omega)).trans (up_ne _ _ (by omega))) (hS1.congr (fun k h => t1 k (by omega))) t2 ⟨_, (t1 99 (by omega)).trans (up_at _ _ _), fun x hx => flV_all hx⟩
