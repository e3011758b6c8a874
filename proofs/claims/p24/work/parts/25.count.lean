variable {eN : Nat}
/-! ALL STRIPS COUNTED by their cost -/
def zz2 : Nat → Nat → Nat := fun _ _ => 0
def SmW (σ : Sto) : Prop := ∃ a b, SmS σ a b ∧ GW σ a 8 191 0 0 zz2 ∧ GW σ b 8 191 0 0 zz2
theorem GW.none {σ : Sto} {q N n I J : Nat} {F : Nat → Nat → Nat} (h : GW σ q N n I J F) : GW σ q N n 0 0 zz2 := h.less (Nat.zero_le _) (Nat.zero_le _) (fun a j h1 h2 => by omega)
def Md.sm (m : Md) (f k : Nat) : Nat := if m.cl then m.cb k f else 0
def Md.fn (m : Md) (P : Nat → Bool) (f n x : Nat) : Nat := sumN n (fun k => if m.sm f k ≤ x then m.W P (m.C - 1) k (x - m.sm f k) else 0)
theorem fn_add {m : Md} (hm : m.ok) {P : Nat → Bool} {fr k : Nat} (hk : k < m.K) {f g : Nat → Int32} {G : Nat → Nat} (hf : ∀ x, x < 191 → f x = nI (m.W P (m.C - 1) k x)) (hg : ∀ x, x < 191 → g x = nI (G x + m.fn P fr k x)) : ∀ x, x < 191 → adV 191 191 (m.rc (m.C - 1)) (m.sm fr k) f g x = nI (G x + m.fn P fr (k + 1) x) := by
  intro x hx
  have hC := hm.1.1
  have hg' := hg x hx
  unfold adV Md.fn
  unfold Md.fn at hg'
  rw [sumN, ← Nat.add_assoc]
  generalize m.sm fr k = s
  by_cases h : s ≤ x
  · rw [if_pos h]
    by_cases h2 : x - s ≤ m.rc (m.C - 1)
    · rw [if_pos ⟨h, h2, by omega, hx⟩, hg', hf _ (by omega), nI_add]
    · rw [if_neg (fun q => h2 q.2.1), hg', Md.W_far hm P (m.C - 1) k (x - s) (by omega) hk (by omega)]; rfl
  · rw [if_neg (fun q => h q.1), if_neg h, hg']; rfl
theorem sm_le {m : Md} (hm : m.ok) {f k : Nat} (hf : f < m.K) (hk : k < m.K) : m.sm f k ≤ 190 := by
  unfold Md.sm
  split
  · exact hm.2.2.2.2.2.1 k f hk hf
  · omega
set_option maxRecDepth 100000 in
set_option maxHeartbeats 4000000 in
theorem w_as2 {σ0 : Sto} {pb first fin q : Nat} {m : Md} {g0 : Nat → Int32} {G : Nat → Nat} (hP : PrW σ0 pb m) (hm : m.ok) (hpb : pb = 4 ∨ pb = 26) (hf1 : first < m.K) (hf2 : fin < 100) (hq : q = 97 ∨ q = 98) (hq0 : σ0 q = pI .int 191 g0) (hg0 : ∀ x, x < 191 → g0 x = nI (G x)) {a b : Nat} : ∀ n k, k + n = m.K → ∀ σ, same σ0 σ (fun i => (48 ≤ i ∧ i ≤ 66) ∨ i = q) → SmS σ a b → GW σ a 8 191 m.K 191 (fun t x => m.W (rng first fin) (m.C - 1) t x) → GW σ b 8 191 0 0 zz2 → (∃ g : Nat → Int32, σ q = pI .int 191 g ∧ ∀ x, x < 191 → g x = nI (G x + m.fn (rng first fin) first k x)) → PW mX5_addStrips 0 0 (fun v σ' => v = none ∧ same σ0 σ' (fun i => (48 ≤ i ∧ i ≤ 66) ∨ i = q) ∧ SmW σ' ∧ ∃ g' : Nat → Int32, σ' q = pI .int 191 g' ∧ ∀ x, x < 191 → g' x = nI (G x + m.fn (rng first fin) first m.K x)) 36 [some (.ref 48), some (.ref q), some (.ref pb), some (.int (nI first)), some (.int (nI fin)), some (.int (nI k))] [] (eN + 114) σ 0 0 := by
  have hK := Md.K_le hm
  have hC := hm.1
  intro n
  induction n with
  | zero =>
    intro k hk σ hs hS hG hG2 hR
    have e : k = m.K := by omega
    subst e
    have hPb := (hs pb (by omega)).trans hP.1
    refine P_iload (q := 38) dX5_addStrips_36 rfl rfl ?_
    refine P_aload_n (q := 39) dX5_addStrips_38 rfl rfl ?_
    refine P_get (q := 42) dX5_addStrips_39 rfl fX5_31 (by omega) (hPb) rfl ?_
    refine P_icmp_ge (q := 45) (tgt := 80) dX5_addStrips_42 rfl (by first | decide | exact lt_c (by decide)) (fun c_42 => ?_) (fun c_42 => ?_)
    · rw [nI_leI (by omega) (by omega)] at c_42
      refine P_vret dX5_addStrips_80 rfl ?_
      exact ⟨rfl, hs, ⟨a, b, hS, hG.none, hG2⟩, hR⟩
    · exfalso; rw [nI_leI (by omega) (by omega)] at c_42; omega
  | succ n ih =>
    intro k hk σ hs hS hG hG2 hR
    have hk' : k < m.K := by omega
    obtain ⟨h48, hab⟩ := id hS
    have hPσ := hP.congr (τ := σ) (fun i h1 h2 => hs i (by omega))
    have hPb := hPσ.1
    obtain ⟨f, f1, f2⟩ := hG.2 k (by omega)
    have f3 := f2 hk'
    obtain ⟨g, g1, g2⟩ := hR
    obtain ⟨gr, r1, r2⟩ := hPσ.2.1
    have r3 := r2 (m.C - 1) (by omega)
    have hrc := hm.2.2.2.2.1 (m.C - 1) (by omega)
    have hsm := sm_le hm hf1 hk'
    have hadd := fn_add hm hk' (fr := first) f3 g2
    refine P_iload (q := 38) dX5_addStrips_36 rfl rfl ?_
    refine P_aload_n (q := 39) dX5_addStrips_38 rfl rfl ?_
    refine P_get (q := 42) dX5_addStrips_39 rfl fX5_31 (by omega) (hPb) rfl ?_
    refine P_icmp_ge (q := 45) (tgt := 80) dX5_addStrips_42 rfl (by first | decide | exact lt_c (by decide)) (fun c_42 => ?_) (fun c_42 => ?_)
    · exfalso; rw [nI_leI (by omega) (by omega)] at c_42; omega
    · rw [nI_leI (by omega) (by omega)] at c_42
      refine P_aload_n (q := 46) dX5_addStrips_45 rfl rfl ?_
      refine P_get (q := 49) dX5_addStrips_46 rfl fX5_11 (by first | decide | exact lt_c (by decide)) (h48) rfl ?_
      refine P_iload (q := 51) dX5_addStrips_49 rfl rfl ?_
      refine P_qald (q := 52) (j := k) (b := a + 1 + k) 2 (fun _ => rfl) rfl dX5_addStrips_51 rfl (by omega) (hG.1) (rfl) (by omega) (by first | decide | exact lt_c (by decide)) (grR_at (by omega)) ?_
      refine P_aload_n (q := 53) dX5_addStrips_52 rfl rfl ?_
      refine P_get (q := 56) dX5_addStrips_53 rfl fX5_50 (by omega) (hPb) rfl ?_
      refine P_aload_n (q := 57) dX5_addStrips_56 rfl rfl ?_
      refine P_get (q := 60) dX5_addStrips_57 rfl fX5_43 (by omega) (hPb) rfl ?_
      refine P_iconst (q := 61) (v := nI 1) dX5_addStrips_60 rfl (by decide +kernel) ?_
      refine P_isub (q := 62) dX5_addStrips_61 rfl ?_
      refine P_iald (q := 63) (j := m.C - 1) dX5_addStrips_62 rfl (by omega) (r1) (pk_sub (by omega)) (by omega) (by first | decide | exact lt_c (by decide)) ?_
      rw [r3]
      refine P_aload_n (q := 64) dX5_addStrips_63 rfl rfl ?_
      refine P_iload (q := 66) dX5_addStrips_64 rfl rfl ?_
      refine P_iload_n (q := 67) dX5_addStrips_66 rfl rfl ?_
      refine P_cv1 (q := 70) dX5_addStrips_67 rfl kX5_54 (t_seam hm (by omega) hPσ hk' hf1) rfl rfl (by omega) (hPb) rfl ⟨by decide, by decide⟩ (Nat.le_of_ble_eq_true rfl) ⟨Nat.le_refl _, Nat.le_refl _⟩ ?_
      refine P_aload_n (q := 71) dX5_addStrips_70 rfl rfl ?_
      refine P_cs0 (q := 74) dX5_addStrips_71 rfl kX5_58 (t_addShifted (ρ := m.rc (m.C - 1)) (s := m.sm first k) (by omega) (by omega) (by omega) f1 (by first | decide | exact lt_c (by decide)) (by first | decide | exact lt_c (by decide)) (by omega) (by omega) g1) rfl rfl ⟨by decide, by decide⟩ (Nat.le_of_ble_eq_true rfl) ⟨Nat.le_refl _, Nat.le_refl _⟩ ?_
      refine P_iinc (q := 77) (L' := [_, _, _, _, _, _]) (v := nI (k + 1)) dX5_addStrips_74 rfl (by first | decide | exact lt_c (by decide)) rfl (nI_1 k) rfl ?_
      refine P_goto (tgt := 36) dX5_addStrips_77 (by first | decide | exact lt_c (by decide)) ?_
      exact ih (k + 1) (by omega) _ (hs.up (Or.inr rfl)) ⟨(up_ne _ _ (by omega)).trans h48, hab⟩ (hG.congr (fun i h1 h2 => up_ne _ _ (by omega))) (hG2.congr (fun i h1 h2 => up_ne _ _ (by omega))) ⟨_, up_at _ _ _, hadd⟩
set_option maxRecDepth 100000 in
set_option maxHeartbeats 4000000 in
theorem w_as1 {σ0 : Sto} {pb first fin q : Nat} {m : Md} {g0 : Nat → Int32} {G : Nat → Nat} (hP : PrW σ0 pb m) (hm : m.ok) (hpb : pb = 4 ∨ pb = 26) (hf1 : first < m.K) (hf2 : fin < 100) (hq : q = 97 ∨ q = 98) (hq0 : σ0 q = pI .int 191 g0) (hg0 : ∀ x, x < 191 → g0 x = nI (G x)) : ∀ n c, c + 1 + n = m.C → ∀ σ a b, same σ0 σ (fun i => (48 ≤ i ∧ i ≤ 66) ∨ i = q) → SmS σ a b → GW σ a 8 191 m.K 191 (fun t x => m.W (rng first fin) c t x) → GW σ b 8 191 0 0 zz2 → σ q = pI .int 191 g0 → PW mX5_addStrips 0 0 (fun v σ' => v = none ∧ same σ0 σ' (fun i => (48 ≤ i ∧ i ≤ 66) ∨ i = q) ∧ SmW σ' ∧ ∃ g' : Nat → Int32, σ' q = pI .int 191 g' ∧ ∀ x, x < 191 → g' x = nI (G x + m.fn (rng first fin) first m.K x)) 11 [some (.ref 48), some (.ref q), some (.ref pb), some (.int (nI first)), some (.int (nI fin)), some (.int (nI (c + 1)))] [] (eN + 114) σ 0 0 := by
  have hK := Md.K_le hm
  have hC := hm.1
  intro n
  induction n with
  | zero =>
    intro c hc σ a b hs hS hG hG2 hq1
    have hPb := (hs pb (by omega)).trans hP.1
    have e : c = m.C - 1 := by omega
    subst e
    refine P_iload (q := 13) dX5_addStrips_11 rfl rfl ?_
    refine P_aload_n (q := 14) dX5_addStrips_13 rfl rfl ?_
    refine P_get (q := 17) dX5_addStrips_14 rfl fX5_43 (by omega) (hPb) rfl ?_
    refine P_icmp_ge (q := 20) (tgt := 33) dX5_addStrips_17 rfl (by first | decide | exact lt_c (by decide)) (fun c_17 => ?_) (fun c_17 => ?_)
    · rw [nI_leI (by omega) (by omega)] at c_17
      refine P_iconst (q := 34) (v := nI 0) dX5_addStrips_33 rfl (by decide +kernel) ?_
      refine P_istore (q := 36) (L' := [_, _, _, _, _, _]) dX5_addStrips_34 rfl (by first | decide | exact lt_c (by decide)) rfl ?_
      exact w_as2 hP hm hpb hf1 hf2 hq hq0 hg0 m.K 0 (by omega) σ hs hS hG hG2 ⟨g0, hq1, fun x hx => hg0 x hx⟩
    · exfalso; rw [nI_leI (by omega) (by omega)] at c_17; omega
  | succ n ih =>
    intro c hc σ a b hs hS hG hG2 hq1
    obtain ⟨h48, hab⟩ := id hS
    have hPσ := hP.congr (τ := σ) (fun i h1 h2 => hs i (by omega))
    have hPb := hPσ.1
    refine P_iload (q := 13) dX5_addStrips_11 rfl rfl ?_
    refine P_aload_n (q := 14) dX5_addStrips_13 rfl rfl ?_
    refine P_get (q := 17) dX5_addStrips_14 rfl fX5_43 (by omega) (hPb) rfl ?_
    refine P_icmp_ge (q := 20) (tgt := 33) dX5_addStrips_17 rfl (by first | decide | exact lt_c (by decide)) (fun c_17 => ?_) (fun c_17 => ?_)
    · exfalso; rw [nI_leI (by omega) (by omega)] at c_17; omega
    · rw [nI_leI (by omega) (by omega)] at c_17
      refine P_aload_n (q := 21) dX5_addStrips_20 rfl rfl ?_
      refine P_aload_n (q := 22) dX5_addStrips_21 rfl rfl ?_
      refine P_iload (q := 24) dX5_addStrips_22 rfl rfl ?_
      refine P_callv (q := 27) dX5_addStrips_24 rfl (t_addColumn hS hPσ hm hpb (show c + 1 < m.C by omega) hG hG2) kX5_46 rfl rfl (by first | decide | exact lt_c (by decide)) h48 rfl ⟨by decide, by decide⟩ (Nat.le_of_ble_eq_true rfl) ⟨Nat.le_refl _, Nat.le_refl _⟩ ?_
      rintro v σ1 ⟨rfl, s1, s2, s3, s4⟩
      refine P_iinc (q := 30) (L' := [_, _, _, _, _, _]) (v := nI (c + 1 + 1)) dX5_addStrips_27 rfl (by first | decide | exact lt_c (by decide)) rfl (nI_1 (c + 1)) rfl ?_
      refine P_goto (tgt := 11) dX5_addStrips_30 (by first | decide | exact lt_c (by decide)) ?_
      exact ih (c + 1) (by omega) σ1 b a (hs.trans (s1.mono (fun i h => Or.inl h))) s2 s3 s4.none ((s1 q (by omega)).trans hq1)
set_option maxRecDepth 100000 in
set_option maxHeartbeats 4000000 in
theorem t_addStrips {σ0 : Sto} {pb first fin q : Nat} {m : Md} {g0 : Nat → Int32} {G : Nat → Nat} (hP : PrW σ0 pb m) (hm : m.ok) (hpb : pb = 4 ∨ pb = 26) (hf1 : first < m.K) (hf2 : fin < 100) (hq : q = 97 ∨ q = 98) (hq0 : σ0 q = pI .int 191 g0) (hg0 : ∀ x, x < 191 → g0 x = nI (G x)) (hS : SmW σ0) : CP mX5_addStrips 0 0 [.ref 48, .ref q, .ref pb, .int (nI first), .int (nI fin)] (eN + 114) σ0 (fun v σ' => v = none ∧ same σ0 σ' (fun i => (48 ≤ i ∧ i ≤ 66) ∨ i = q) ∧ SmW σ' ∧ ∃ g' : Nat → Int32, σ' q = pI .int 191 g' ∧ ∀ x, x < 191 → g' x = nI (G x + m.fn (rng first fin) first m.K x)) := by
  have hK := Md.K_le hm
  obtain ⟨a, b, hS, hG, hG2⟩ := hS
  obtain ⟨h48, hab⟩ := id hS
  refine CP_of (by decide +kernel) (Nat.le_of_ble_eq_true rfl) ?_
  change PW _ _ _ _ 0 [_, _, _, _, _, _] [] _ _ _ _
  refine P_aload_n (q := 1) dX5_addStrips_0 rfl rfl ?_
  refine P_aload_n (q := 2) dX5_addStrips_1 rfl rfl ?_
  refine P_iload_n (q := 3) dX5_addStrips_2 rfl rfl ?_
  refine P_iload (q := 5) dX5_addStrips_3 rfl rfl ?_
  refine P_callv (q := 8) dX5_addStrips_5 rfl (t_begin hS hP hm hpb (show first < 100 by omega) hf2 hG) kX5_39 rfl rfl (by first | decide | exact lt_c (by decide)) h48 rfl ⟨by decide, by decide⟩ (Nat.le_of_ble_eq_true rfl) ⟨Nat.le_refl _, Nat.le_refl _⟩ ?_
  rintro v σ1 ⟨rfl, s1, s2⟩
  refine P_iconst (q := 9) (v := nI 1) dX5_addStrips_8 rfl (by decide +kernel) ?_
  refine P_istore (q := 11) (L' := [_, _, _, _, _, _]) dX5_addStrips_9 rfl (by first | decide | exact lt_c (by decide)) rfl ?_
  exact w_as1 hP hm hpb hf1 hf2 hq hq0 hg0 (m.C - 1) 0 (by have := hm.1.1; omega) σ1 a b (s1.mono (fun i h => by omega)) ⟨(s1 48 (by omega)).trans h48, hab⟩ s2 (hG2.congr (fun i h1 h2 => s1 i (by omega))) ((s1 q (by omega)).trans hq0)
/-- how many strips cost x -/
def Md.cnt (m : Md) (x : Nat) : Nat := if m.cl then sumN m.K (fun f => m.fn (rng f (f + 1)) f m.K x) else m.fn (rng 0 m.K) 0 m.K x
set_option maxRecDepth 100000 in
set_option maxHeartbeats 4000000 in
theorem w_sf {σ0 : Sto} {pb q : Nat} {m : Md} (hP : PrW σ0 pb m) (hm : m.ok) (hpb : pb = 4 ∨ pb = 26) (hq : q = 97 ∨ q = 98) (hcl : m.cl = true) : ∀ n f, f + n = m.K → ∀ σ, same σ0 σ (fun i => (48 ≤ i ∧ i ≤ 66) ∨ i = q) → SmW σ → (∃ g : Nat → Int32, σ q = pI .int 191 g ∧ ∀ x, x < 191 → g x = nI (sumN f (fun f => m.fn (rng f (f + 1)) f m.K x))) → PW mX5_fill 0 0 (fun v σ' => v = none ∧ same σ0 σ' (fun i => (48 ≤ i ∧ i ≤ 66) ∨ i = q) ∧ SmW σ' ∧ ∃ g' : Nat → Int32, σ' q = pI .int 191 g' ∧ ∀ x, x < 191 → g' x = nI (m.cnt x)) 26 [some (.ref 48), some (.ref q), some (.ref pb), some (.int (nI f))] [] (eN + 114) σ 0 0 := by
  have hK := Md.K_le hm
  intro n
  induction n with
  | zero =>
    intro f hf σ hs hS hR
    have e : f = m.K := by omega
    subst e
    have hPb := (hs pb (by omega)).trans hP.1
    obtain ⟨g, g1, g2⟩ := hR
    refine P_iload_n (q := 27) dX5_fill_26 rfl rfl ?_
    refine P_aload_n (q := 28) dX5_fill_27 rfl rfl ?_
    refine P_get (q := 31) dX5_fill_28 rfl fX5_31 (by omega) (hPb) rfl ?_
    refine P_icmp_ge (q := 34) (tgt := 50) dX5_fill_31 rfl (by first | decide | exact lt_c (by decide)) (fun c_31 => ?_) (fun c_31 => ?_)
    · rw [nI_leI (by omega) (by omega)] at c_31
      refine P_vret dX5_fill_50 rfl ?_
      exact ⟨rfl, hs, hS, g, g1, fun x hx => by rw [g2 x hx]; unfold Md.cnt; rw [if_pos hcl]⟩
    · exfalso; rw [nI_leI (by omega) (by omega)] at c_31; omega
  | succ n ih =>
    intro f hf σ hs hS hR
    have hPσ := hP.congr (τ := σ) (fun i h1 h2 => hs i (by omega))
    have hPb := hPσ.1
    obtain ⟨g, g1, g2⟩ := hR
    obtain ⟨a, b, ⟨h48, -⟩, -, -⟩ := id hS
    refine P_iload_n (q := 27) dX5_fill_26 rfl rfl ?_
    refine P_aload_n (q := 28) dX5_fill_27 rfl rfl ?_
    refine P_get (q := 31) dX5_fill_28 rfl fX5_31 (by omega) (hPb) rfl ?_
    refine P_icmp_ge (q := 34) (tgt := 50) dX5_fill_31 rfl (by first | decide | exact lt_c (by decide)) (fun c_31 => ?_) (fun c_31 => ?_)
    · exfalso; rw [nI_leI (by omega) (by omega)] at c_31; omega
    · rw [nI_leI (by omega) (by omega)] at c_31
      refine P_aload_n (q := 35) dX5_fill_34 rfl rfl ?_
      refine P_aload_n (q := 36) dX5_fill_35 rfl rfl ?_
      refine P_aload_n (q := 37) dX5_fill_36 rfl rfl ?_
      refine P_iload_n (q := 38) dX5_fill_37 rfl rfl ?_
      refine P_iload_n (q := 39) dX5_fill_38 rfl rfl ?_
      refine P_iconst (q := 40) (v := nI 1) dX5_fill_39 rfl (by decide +kernel) ?_
      refine P_iadd (q := 41) dX5_fill_40 rfl ?_
      rw [nI_add]
      refine P_callv (q := 44) dX5_fill_41 rfl (t_addStrips hPσ hm hpb (show f < m.K by omega) (show f + 1 < 100 by omega) hq g1 g2 hS) kX5_35 rfl rfl (by first | decide | exact lt_c (by decide)) h48 rfl ⟨by decide, by decide⟩ (Nat.le_of_ble_eq_true rfl) ⟨Nat.le_refl _, Nat.le_refl _⟩ ?_
      rintro v σ1 ⟨rfl, s1, s2, s3⟩
      refine P_iinc (q := 47) (L' := [_, _, _, _]) (v := nI (f + 1)) dX5_fill_44 rfl (by first | decide | exact lt_c (by decide)) rfl (nI_1 f) rfl ?_
      refine P_goto (tgt := 26) dX5_fill_47 (by first | decide | exact lt_c (by decide)) ?_
      exact ih (f + 1) (by omega) σ1 (hs.trans s1) s2 s3
set_option maxRecDepth 100000 in
set_option maxHeartbeats 4000000 in
theorem t_sumsFill {σ0 : Sto} {pb q : Nat} {m : Md} (hP : PrW σ0 pb m) (hm : m.ok) (hpb : pb = 4 ∨ pb = 26) (hq : q = 97 ∨ q = 98) (hS : SmW σ0) {g0 : Nat → Int32} (hq0 : σ0 q = pI .int 191 g0) : CP mX5_fill 0 0 [.ref 48, .ref q, .ref pb] (eN + 114) σ0 (fun v σ' => v = none ∧ same σ0 σ' (fun i => (48 ≤ i ∧ i ≤ 66) ∨ i = q) ∧ SmW σ' ∧ ∃ g' : Nat → Int32, σ' q = pI .int 191 g' ∧ ∀ x, x < 191 → g' x = nI (m.cnt x)) := by
  have hK := Md.K_le hm
  have hPb := hP.1
  have hs : same σ0 (va_up σ0 q (pI .int 191 (flV 191 (nI 0) g0 191))) (fun i => (48 ≤ i ∧ i ≤ 66) ∨ i = q) := same.rf.up (Or.inr rfl)
  have hS1 : SmW (va_up σ0 q (pI .int 191 (flV 191 (nI 0) g0 191))) := by
    obtain ⟨a, b, ⟨h48, hab⟩, hG, hG2⟩ := hS
    exact ⟨a, b, ⟨(up_ne _ _ (by omega)).trans h48, hab⟩, hG.congr (fun i h1 h2 => up_ne _ _ (by omega)), hG2.congr (fun i h1 h2 => up_ne _ _ (by omega))⟩
  have hz : ∀ x, x < 191 → flV 191 (nI 0) g0 191 x = nI 0 := fun x hx => flV_all hx
  have hPs := hP.congr (τ := va_up σ0 q (pI .int 191 (flV 191 (nI 0) g0 191))) (fun i h1 h2 => hs i (by omega))
  obtain ⟨a, b, ⟨h48, -⟩, -, -⟩ := id hS1
  refine CP_of (by decide +kernel) (Nat.le_of_ble_eq_true rfl) ?_
  change PW _ _ _ _ 0 [_, _, _, _] [] _ _ _ _
  refine P_aload_n (q := 1) dX5_fill_0 rfl rfl ?_
  refine P_iconst (q := 2) (v := nI 0) dX5_fill_1 rfl (by decide +kernel) ?_
  refine P_cs0 (q := 5) dX5_fill_2 rfl kX5_19 (t_fill (f := g0) (nI 0) (by omega) (by first | decide | exact lt_c (by decide)) hq0) rfl rfl ⟨by decide, by decide⟩ (Nat.le_of_ble_eq_true rfl) ⟨Nat.le_refl _, Nat.le_refl _⟩ ?_
  refine P_aload_n (q := 6) dX5_fill_5 rfl rfl ?_
  refine P_get (q := 9) dX5_fill_6 rfl fX5_25 (by omega) (hPs.1) rfl ?_
  refine P_if_ne (q := 12) (tgt := 24) dX5_fill_9 rfl (by first | decide | exact lt_c (by decide)) (fun c_9 => ?_) (fun c_9 => ?_)
  · rw [bI_n] at c_9
    refine P_iconst (q := 25) (v := nI 0) dX5_fill_24 rfl (by decide +kernel) ?_
    refine P_istore_n (q := 26) (L' := [_, _, _, _]) dX5_fill_25 rfl (by first | decide | exact lt_c (by decide)) rfl ?_
    exact w_sf hP hm hpb hq c_9 m.K 0 (by omega) _ hs hS1 ⟨_, up_at _ _ _, fun x hx => hz x hx⟩
  · rw [bI_0] at c_9
    refine P_aload_n (q := 13) dX5_fill_12 rfl rfl ?_
    refine P_aload_n (q := 14) dX5_fill_13 rfl rfl ?_
    refine P_aload_n (q := 15) dX5_fill_14 rfl rfl ?_
    refine P_iconst (q := 16) (v := nI 0) dX5_fill_15 rfl (by decide +kernel) ?_
    refine P_aload_n (q := 17) dX5_fill_16 rfl rfl ?_
    refine P_get (q := 20) dX5_fill_17 rfl fX5_31 (by omega) (hPs.1) rfl ?_
    refine P_callv (q := 23) dX5_fill_20 rfl (t_addStrips (G := fun _ => 0) hPs hm hpb (show 0 < m.K by omega) (show m.K < 100 by omega) hq (up_at _ _ _) hz hS1) kX5_35 rfl rfl (by first | decide | exact lt_c (by decide)) h48 rfl ⟨by decide, by decide⟩ (Nat.le_of_ble_eq_true rfl) ⟨Nat.le_refl _, Nat.le_refl _⟩ ?_
    rintro v σ1 ⟨rfl, s1, s2, g, g1, g2⟩
    refine P_vret dX5_fill_23 rfl ?_
    exact ⟨rfl, hs.trans s1, s2, g, g1, fun x hx => by rw [g2 x hx, Nat.zero_add]; unfold Md.cnt; rw [if_neg (by rw [c_9]; decide)]⟩
