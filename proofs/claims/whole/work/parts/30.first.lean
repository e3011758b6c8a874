/-! THE FIRST STRIP WITH THE LEAST -/
/-- the first place at which P holds -/
def fsA (P : Nat → Bool) : Nat → Nat → Nat
  | 0, i => i
  | n + 1, i => if P i = true then i else fsA P n (i + 1)
theorem fsA_at {P : Nat → Bool} : ∀ {n i : Nat}, (∃ q, i ≤ q ∧ q < i + n ∧ P q = true) → P (fsA P n i) = true ∧ i ≤ fsA P n i ∧ fsA P n i < i + n ∧ ∀ q, i ≤ q → q < fsA P n i → P q = false
  | 0, i, ⟨q, h1, h2, _⟩ => by omega
  | n + 1, i, ⟨q, h1, h2, h3⟩ => by
    rw [fsA]
    by_cases e : P i = true
    · rw [if_pos e]
      exact ⟨e, Nat.le_refl _, by omega, fun _ _ _ => by omega⟩
    · rw [if_neg e]
      have hq : q ≠ i := fun h => e (by rw [← h]; exact h3)
      obtain ⟨a, b, c, d⟩ := fsA_at (P := P) (n := n) (i := i + 1) ⟨q, by omega, by omega, h3⟩
      refine ⟨a, by omega, by omega, fun x hx1 hx2 => ?_⟩
      by_cases ex : x = i
      · subst ex; simpa using e
      · exact d x (by omega) hx2
theorem fsA_eq {P : Nat → Bool} {n x : Nat} (hx : x < n) (hP : P x = true) (hlt : ∀ q, q < x → P q = false) : fsA P n 0 = x := by
  obtain ⟨a, -, -, d⟩ := fsA_at (P := P) (n := n) (i := 0) ⟨x, Nat.zero_le _, by omega, hP⟩
  rcases Nat.lt_trichotomy (fsA P n 0) x with h | h | h
  · rw [hlt _ h] at a; exact absurd a (by decide)
  · exact h
  · rw [d x (Nat.zero_le _) h] at hP; exact absurd hP (by decide)
def Md.tg (m : Md) (f c k p : Nat) : Bool := decide (m.cn f c k (kioN m.R p) = m.B f c k)
def Md.nx (m : Md) (f c k : Nat) : Nat := kioN m.R (fsA (m.tg f c k) m.K 0)
def Md.tl (m : Md) (p : Nat) : Bool := decide (m.L (kioN m.R p) = mnN m.L (m.K - 1))
def Md.f1 (m : Md) : Nat := kioN m.R (fsA m.tl m.K 0)
def Md.fo (m : Md) (f : Nat) : Nat → Nat
  | 0 => f
  | c + 1 => m.nx f c (m.fo f c)
theorem Md.kio_lt {m : Md} (p : Nat) : kioN m.R p < m.K := kioN_lt p m.R
theorem Md.tg_ex {m : Md} (hm : m.ok) {f c k : Nat} (hc : c + 1 < m.C) : ∃ q, 0 ≤ q ∧ q < 0 + m.K ∧ m.tg f c k q = true := by
  have hK := Md.K_le hm
  obtain ⟨i, h1, h2⟩ := mnN_at (m.cn f c k) (m.K - 1)
  refine ⟨kioN m.R i, Nat.zero_le _, by have := Md.kio_lt (m := m) i; omega, ?_⟩
  unfold Md.tg
  rw [kio_inv hm.2.1.1 hm.2.1.2 (show i < m.K by omega), Md.B_step hc, h2]
  exact decide_eq_true rfl
theorem Md.tl_ex {m : Md} (hm : m.ok) : ∃ q, 0 ≤ q ∧ q < 0 + m.K ∧ m.tl q = true := by
  have hK := Md.K_le hm
  obtain ⟨i, h1, h2⟩ := mnN_at m.L (m.K - 1)
  refine ⟨kioN m.R i, Nat.zero_le _, by have := Md.kio_lt (m := m) i; omega, ?_⟩
  unfold Md.tl
  rw [kio_inv hm.2.1.1 hm.2.1.2 (show i < m.K by omega), h2]
  exact decide_eq_true rfl
theorem Md.fo_lt {m : Md} {f : Nat} (hf : f < m.K) : ∀ c, m.fo f c < m.K
  | 0 => hf
  | _ + 1 => Md.kio_lt _
theorem upsN_or {sp : Nat → Nat} (h : ∀ c, sp c < 16) (n : Nat) : upsN sp n ||| sp n * 2 ^ (4 * n) = upsN sp (n + 1) := by
  rw [upsN_succ, Nat.two_pow_add_eq_or_of_lt (upsN_lt h n), Nat.or_comm, Nat.mul_comm]
theorem i2l_n : ∀ k, k < 8 → (nI k).toInt64 = lN k := by decide +kernel
set_option maxRecDepth 100000 in
set_option maxHeartbeats 4000000 in
theorem w_fln {σ : Sto} {f c k : Nat} {m : Md} (hS : LsO σ) (hP : PrW σ 4 m) (hm : m.ok) (hf : f < m.K) (hB : GP σ 68 10 8 (fun i j => i < m.C ∧ j < m.K) (m.B f)) (hc : c + 1 < m.C) (hk : k < m.K) : ∀ n p, p + n = m.K → (∃ q, p ≤ q ∧ q < p + n ∧ m.tg f c k q = true) → ∀ x5 : Option Value, PW mX2_firstLeastNext 0 0 (fun v σ' => v = some (.int (nI (kioN m.R (fsA (m.tg f c k) n p)))) ∧ σ' = σ) 3 [some (.ref 67), some (.ref 4), some (.int (nI c)), some (.int (nI k)), some (.int (nI p)), x5] [] 132 σ 0 0 := by
  have hK := Md.K_le hm
  obtain ⟨a, b, h67, hab⟩ := id hS
  intro n
  induction n with
  | zero =>
    intro p hp ⟨q, h1, h2, h3⟩
    omega
  | succ n ih =>
    intro p hp hex x5
    have hp' : p < m.K := by omega
    have hlt := Md.kio_lt (m := m) p
    rw [fsA]
    refine P_iload (q := 5) dX2_firstLeastNext_3 rfl rfl ?_
    refine P_aload_n (q := 6) dX2_firstLeastNext_5 rfl rfl ?_
    refine P_get (q := 9) dX2_firstLeastNext_6 rfl fX2_26 (by decide) (hP.1) rfl ?_
    refine P_icmp_ge (q := 12) (tgt := 41) dX2_firstLeastNext_9 rfl (by decide) (fun c_9 => ?_) (fun c_9 => ?_)
    · exfalso; rw [nI_leI (by omega) (by omega)] at c_9; omega
    · rw [nI_leI (by omega) (by omega)] at c_9
      refine P_aload_n (q := 13) dX2_firstLeastNext_12 rfl rfl ?_
      refine P_iload (q := 15) dX2_firstLeastNext_13 rfl rfl ?_
      refine P_cv1 (q := 18) dX2_firstLeastNext_15 rfl kX2_32 (t_kio hm (by omega) hP.1 hp') rfl rfl (by decide) (hP.1) rfl ⟨by decide, by decide⟩ (Nat.le_of_ble_eq_true rfl) ⟨Nat.le_refl _, Nat.le_refl _⟩ ?_
      refine P_istore (q := 20) (L' := [_, _, _, _, _, _]) dX2_firstLeastNext_18 rfl (by decide) rfl ?_
      refine P_aload_n (q := 21) dX2_firstLeastNext_20 rfl rfl ?_
      refine P_aload_n (q := 22) dX2_firstLeastNext_21 rfl rfl ?_
      refine P_iload_n (q := 23) dX2_firstLeastNext_22 rfl rfl ?_
      refine P_iload_n (q := 24) dX2_firstLeastNext_23 rfl rfl ?_
      refine P_iload (q := 26) dX2_firstLeastNext_24 rfl rfl ?_
      refine P_cv1 (q := 29) dX2_firstLeastNext_26 rfl kX2_85 (t_isl hS hP hm hf hB hc hk hlt ⟨hc, hlt⟩ ⟨by omega, hk⟩) rfl rfl (by decide) (h67) rfl ⟨by decide, by decide⟩ (Nat.le_of_ble_eq_true rfl) ⟨Nat.le_refl _, Nat.le_refl _⟩ ?_
      refine P_if_eq (q := 32) (tgt := 35) dX2_firstLeastNext_29 rfl (by decide) (fun c_29 => ?_) (fun c_29 => ?_)
      · rw [bI_0] at c_29
        rw [if_neg (by unfold Md.tg; rw [c_29]; decide)]
        refine P_iinc (q := 38) (L' := [_, _, _, _, _, _]) (v := nI (p + 1)) dX2_firstLeastNext_35 rfl (by decide) rfl (nI_1 p) rfl ?_
        refine P_goto (tgt := 3) dX2_firstLeastNext_38 (by decide) ?_
        obtain ⟨q, h1, h2, h3⟩ := hex
        exact ih (p + 1) (by omega) ⟨q, Nat.lt_of_le_of_ne h1 (fun e => by rw [← e] at h3; exact absurd (h3.symm.trans (show m.tg f c k p = false from c_29)) (by decide)), by omega, h3⟩ _
      · rw [bI_n] at c_29
        rw [if_pos (show m.tg f c k p = true from c_29)]
        refine P_iload (q := 34) dX2_firstLeastNext_32 rfl rfl ?_
        refine P_iret dX2_firstLeastNext_34 rfl (rfl) ?_
        exact ⟨rfl, rfl⟩
set_option maxRecDepth 100000 in
set_option maxHeartbeats 4000000 in
theorem t_fln {σ : Sto} {f c k : Nat} {m : Md} (hS : LsO σ) (hP : PrW σ 4 m) (hm : m.ok) (hf : f < m.K) (hB : GP σ 68 10 8 (fun i j => i < m.C ∧ j < m.K) (m.B f)) (hc : c + 1 < m.C) (hk : k < m.K) : CD mX2_firstLeastNext [.ref 67, .ref 4, .int (nI c), .int (nI k)] 132 σ (some (.int (nI (m.nx f c k)))) σ := by
  refine CP_of (by decide +kernel) (Nat.le_of_ble_eq_true rfl) ?_
  change PW _ _ _ _ 0 [_, _, _, _, _, _] [] _ _ _ _
  refine P_iconst (q := 1) (v := nI 0) dX2_firstLeastNext_0 rfl (by decide +kernel) ?_
  refine P_istore (q := 3) (L' := [_, _, _, _, _, _]) dX2_firstLeastNext_1 rfl (by decide) rfl ?_
  exact w_fln hS hP hm hf hB hc hk m.K 0 (by omega) (Md.tg_ex hm hc) _
set_option maxRecDepth 100000 in
set_option maxHeartbeats 4000000 in
theorem w_fol {σ : Sto} {f : Nat} {m : Md} (hS : LsO σ) (hP : PrW σ 4 m) (hm : m.ok) (hf : f < m.K) (hB : GP σ 68 10 8 (fun i j => i < m.C ∧ j < m.K) (m.B f)) : ∀ n c, c + 1 + n = m.C → PW mX2_follow 0 0 (fun v σ' => v = some (.long (lN (upsN (m.fo f) m.C))) ∧ σ' = σ) 9 [some (.ref 67), some (.ref 4), some (.int (nI f)), some (.long (lN (upsN (m.fo f) (c + 1)))), none, some (.int (nI (m.fo f c))), some (.int (nI c))] [] 132 σ 0 0 := by
  have hK := Md.K_le hm
  have hC := hm.1
  obtain ⟨a, b, h67, hab⟩ := id hS
  have s16 : ∀ c, m.fo f c < 16 := fun c => by have := Md.fo_lt (m := m) hf c; omega
  intro n
  induction n with
  | zero =>
    intro c hc
    have e : m.C = c + 1 := by omega
    refine P_iload (q := 11) dX2_follow_9 rfl rfl ?_
    refine P_aload_n (q := 12) dX2_follow_11 rfl rfl ?_
    refine P_get (q := 15) dX2_follow_12 rfl fX2_60 (by decide) (hP.1) rfl ?_
    refine P_iconst (q := 16) (v := nI 1) dX2_follow_15 rfl (by decide +kernel) ?_
    refine P_isub (q := 17) dX2_follow_16 rfl ?_
    rw [pk_sub hC.1]
    refine P_icmp_ge (q := 20) (tgt := 52) dX2_follow_17 rfl (by decide) (fun c_17 => ?_) (fun c_17 => ?_)
    · rw [nI_leI (by omega) (by omega)] at c_17
      refine P_lload_n (q := 53) dX2_follow_52 rfl rfl ?_
      refine P_lret dX2_follow_53 rfl ?_
      rw [e]; exact ⟨rfl, rfl⟩
    · exfalso; rw [nI_leI (by omega) (by omega)] at c_17; omega
  | succ n ih =>
    intro c hc
    have hk := Md.fo_lt (m := m) hf c
    have hk2 := Md.fo_lt (m := m) hf (c + 1)
    have u1 : upsN (m.fo f) (c + 1) < 2 ^ 64 := Nat.lt_of_lt_of_le (upsN_lt s16 (c + 1)) (Nat.pow_le_pow_right (by decide) (by omega))
    have u2 : m.fo f (c + 1) * 2 ^ (4 * (c + 1)) < 2 ^ 64 := Nat.lt_of_le_of_lt (show _ ≤ 2 ^ 4 * 2 ^ (4 * (c + 1)) from Nat.mul_le_mul_right _ (by omega)) (by rw [← Nat.pow_add]; exact Nat.pow_lt_pow_right (by decide) (by omega))
    refine P_iload (q := 11) dX2_follow_9 rfl rfl ?_
    refine P_aload_n (q := 12) dX2_follow_11 rfl rfl ?_
    refine P_get (q := 15) dX2_follow_12 rfl fX2_60 (by decide) (hP.1) rfl ?_
    refine P_iconst (q := 16) (v := nI 1) dX2_follow_15 rfl (by decide +kernel) ?_
    refine P_isub (q := 17) dX2_follow_16 rfl ?_
    rw [pk_sub hC.1]
    refine P_icmp_ge (q := 20) (tgt := 52) dX2_follow_17 rfl (by decide) (fun c_17 => ?_) (fun c_17 => ?_)
    · exfalso; rw [nI_leI (by omega) (by omega)] at c_17; omega
    · rw [nI_leI (by omega) (by omega)] at c_17
      refine P_aload_n (q := 21) dX2_follow_20 rfl rfl ?_
      refine P_aload_n (q := 22) dX2_follow_21 rfl rfl ?_
      refine P_iload (q := 24) dX2_follow_22 rfl rfl ?_
      refine P_iload (q := 26) dX2_follow_24 rfl rfl ?_
      refine P_cv1 (q := 29) dX2_follow_26 rfl kX2_76 (t_fln hS hP hm hf hB (show c + 1 < m.C by omega) hk) rfl rfl (by decide) (h67) rfl ⟨by decide, by decide⟩ (Nat.le_of_ble_eq_true rfl) ⟨Nat.le_refl _, Nat.le_refl _⟩ ?_
      refine P_istore (q := 31) (L' := [_, _, _, _, _, _, _]) dX2_follow_29 rfl (by decide) rfl ?_
      refine P_lload_n (q := 32) dX2_follow_31 rfl rfl ?_
      refine P_iload (q := 34) dX2_follow_32 rfl rfl ?_
      refine P_i2l (q := 35) dX2_follow_34 rfl ?_
      refine P_iconst (q := 36) (v := nI 0) dX2_follow_35 rfl (by decide +kernel) ?_
      refine P_iload (q := 38) dX2_follow_36 rfl rfl ?_
      refine P_iconst (q := 39) (v := nI 1) dX2_follow_38 rfl (by decide +kernel) ?_
      rw [i2l_n _ (show m.nx f c (m.fo f c) < 8 from Nat.lt_of_lt_of_le hk2 hK.2)]
      refine P_iadd (q := 40) dX2_follow_39 rfl ?_
      rw [show nI c + nI 1 = nI (c + 1) from nI_1 c]
      refine P_cs1 (q := 43) dX2_follow_40 rfl kX2_80 (t_place 0 (c + 1)) rfl rfl ⟨by decide, by decide⟩ (Nat.le_of_ble_eq_true rfl) ⟨Nat.le_refl _, Nat.le_refl _⟩ ?_
      refine P_lshl (q := 44) dX2_follow_43 rfl ?_
      rw [lN_shl _ (show 4 * (c + 1) + 0 < 64 by omega)]
      refine P_lor (q := 45) dX2_follow_44 rfl ?_
      rw [show lN (upsN (m.fo f) (c + 1)) ||| lN (m.nx f c (m.fo f c) * 2 ^ (4 * (c + 1) + 0)) = lN (upsN (m.fo f) (c + 2)) from (wb_or u1 u2).trans (congrArg lN (upsN_or s16 (c + 1)))]
      refine P_lstore_n (q := 46) (L' := [_, _, _, _, _, _, _]) dX2_follow_45 rfl (by decide) rfl ?_
      refine P_iinc (q := 49) (L' := [_, _, _, _, _, _, _]) (v := nI (c + 1)) dX2_follow_46 rfl (by decide) rfl (nI_1 c) rfl ?_
      refine P_goto (tgt := 9) dX2_follow_49 (by decide) ?_
      exact ih (c + 1) (by omega)
set_option maxRecDepth 100000 in
set_option maxHeartbeats 4000000 in
theorem t_fol {σ : Sto} {f : Nat} {m : Md} (hS : LsO σ) (hP : PrW σ 4 m) (hm : m.ok) (hf : f < m.K) (hB : GP σ 68 10 8 (fun i j => i < m.C ∧ j < m.K) (m.B f)) : CD mX2_follow [.ref 67, .ref 4, .int (nI f)] 132 σ (some (.long (lN (upsN (m.fo f) m.C)))) σ := by
  refine CP_of (by decide +kernel) (Nat.le_of_ble_eq_true rfl) ?_
  change PW _ _ _ _ 0 [_, _, _, _, _, _, _] [] _ _ _ _
  refine P_iload_n (q := 1) dX2_follow_0 rfl rfl ?_
  refine P_i2l (q := 2) dX2_follow_1 rfl ?_
  rw [i2l_n _ (Nat.lt_of_lt_of_le hf (Md.K_le hm).2), show lN f = lN (upsN (m.fo f) (0 + 1)) from congrArg lN (show f = 0 + f * 16 ^ 0 by omega)]
  refine P_lstore_n (q := 3) (L' := [_, _, _, _, _, _, _]) dX2_follow_2 rfl (by decide) rfl ?_
  refine P_iload_n (q := 4) dX2_follow_3 rfl rfl ?_
  refine P_istore (q := 6) (L' := [_, _, _, _, _, _, _]) dX2_follow_4 rfl (by decide) rfl ?_
  refine P_iconst (q := 7) (v := nI 0) dX2_follow_6 rfl (by decide +kernel) ?_
  refine P_istore (q := 9) (L' := [_, _, _, _, _, _, _]) dX2_follow_7 rfl (by decide) rfl ?_
  exact w_fol hS hP hm hf hB (m.C - 1) 0 (by have := hm.1.1; omega)
set_option maxRecDepth 100000 in
set_option maxHeartbeats 4000000 in
theorem w_lc {σ0 : Sto} {m : Md} (hS : LsO σ0) (hP : PrW σ0 4 m) (hm : m.ok) : ∀ n j, j + 1 + n = m.K → ∀ σ, same σ0 σ (fun i => 69 ≤ i ∧ i ≤ 78) → GP σ 68 10 8 (fun _ _ => False) zz2 → PW mX2_leastCost 0 0 (fun v σ' => v = some (.int (nI (mnN m.L (m.K - 1)))) ∧ same σ0 σ' (fun i => 69 ≤ i ∧ i ≤ 78) ∧ GP σ' 68 10 8 (fun _ _ => False) zz2) 9 [some (.ref 67), some (.ref 4), some (.int (nI (mnN m.L j))), some (.int (nI (j + 1)))] [] 132 σ 0 0 := by
  have hK := Md.K_le hm
  have hC := hm.1
  obtain ⟨a, b, h67, hab⟩ := id hS
  intro n
  induction n with
  | zero =>
    intro j hj σ hs hB
    have h4 := (hs 4 (by omega)).trans hP.1
    have e : m.K - 1 = j := by omega
    refine P_iload_n (q := 10) dX2_leastCost_9 rfl rfl ?_
    refine P_aload_n (q := 11) dX2_leastCost_10 rfl rfl ?_
    refine P_get (q := 14) dX2_leastCost_11 rfl fX2_26 (by decide) (h4) rfl ?_
    refine P_icmp_ge (q := 17) (tgt := 34) dX2_leastCost_14 rfl (by decide) (fun c_14 => ?_) (fun c_14 => ?_)
    · rw [nI_leI (by omega) (by omega)] at c_14
      refine P_iload_n (q := 35) dX2_leastCost_34 rfl rfl ?_
      refine P_iret dX2_leastCost_35 rfl (rfl) ?_
      rw [e]; exact ⟨rfl, hs, hB⟩
    · exfalso; rw [nI_leI (by omega) (by omega)] at c_14; omega
  | succ n ih =>
    intro j hj σ hs hB
    have h4 := (hs 4 (by omega)).trans hP.1
    have hPσ := hP.congr (τ := σ) (fun i h1 h2 => hs i (by omega))
    have h67' := (hs 67 (by omega)).trans h67
    have hSσ : LsO σ := ⟨a, b, h67', hab⟩
    have q1 := Md.L_le hm (f := j + 1) (by omega)
    have q2 := Md.mnL_le hm (j := j)
    refine P_iload_n (q := 10) dX2_leastCost_9 rfl rfl ?_
    refine P_aload_n (q := 11) dX2_leastCost_10 rfl rfl ?_
    refine P_get (q := 14) dX2_leastCost_11 rfl fX2_26 (by decide) (h4) rfl ?_
    refine P_icmp_ge (q := 17) (tgt := 34) dX2_leastCost_14 rfl (by decide) (fun c_14 => ?_) (fun c_14 => ?_)
    · exfalso; rw [nI_leI (by omega) (by omega)] at c_14; omega
    · rw [nI_leI (by omega) (by omega)] at c_14
      refine P_iload_n (q := 18) dX2_leastCost_17 rfl rfl ?_
      refine P_aload_n (q := 19) dX2_leastCost_18 rfl rfl ?_
      refine P_aload_n (q := 20) dX2_leastCost_19 rfl rfl ?_
      refine P_iload_n (q := 21) dX2_leastCost_20 rfl rfl ?_
      refine P_callv (q := 24) dX2_leastCost_21 rfl (t_look hSσ hPσ hm (show j + 1 < m.K by omega) hB) kX2_36 rfl rfl (by decide) h67' rfl ⟨by decide, by decide⟩ (Nat.le_of_ble_eq_true rfl) ⟨Nat.le_refl _, Nat.le_refl _⟩ ?_
      rintro v σ1 ⟨rfl, t1, t2⟩
      refine P_mmin (q := 27) dX2_leastCost_24 rfl kX2_54 (by decide) (Nat.le_of_ble_eq_true rfl) ⟨Nat.le_refl _, Nat.le_refl _⟩ ?_
      rw [min_n (by omega) (by omega)]
      refine P_istore_n (q := 28) (L' := [_, _, _, _]) dX2_leastCost_27 rfl (by decide) rfl ?_
      refine P_iinc (q := 31) (L' := [_, _, _, _]) (v := nI (j + 1 + 1)) dX2_leastCost_28 rfl (by decide) rfl (nI_1 (j + 1)) rfl ?_
      refine P_goto (tgt := 9) dX2_leastCost_31 (by decide) ?_
      exact ih (j + 1) (by omega) σ1 (hs.trans t1) (t2.imp (fun i j h => h.elim))
set_option maxRecDepth 100000 in
set_option maxHeartbeats 4000000 in
theorem t_lcost {σ0 : Sto} {m : Md} (hS : LsO σ0) (hP : PrW σ0 4 m) (hm : m.ok) (hB : GP σ0 68 10 8 (fun _ _ => False) zz2) : CP mX2_leastCost 0 0 [.ref 67, .ref 4] 132 σ0 (fun v σ' => v = some (.int (nI (mnN m.L (m.K - 1)))) ∧ same σ0 σ' (fun i => 69 ≤ i ∧ i ≤ 78) ∧ GP σ' 68 10 8 (fun _ _ => False) zz2) := by
  have hK := Md.K_le hm
  have hC := hm.1
  obtain ⟨a, b, h67, hab⟩ := id hS
  refine CP_of (by decide +kernel) (Nat.le_of_ble_eq_true rfl) ?_
  change PW _ _ _ _ 0 [_, _, _, _] [] _ _ _ _
  refine P_aload_n (q := 1) dX2_leastCost_0 rfl rfl ?_
  refine P_aload_n (q := 2) dX2_leastCost_1 rfl rfl ?_
  refine P_iconst (q := 3) (v := nI 0) dX2_leastCost_2 rfl (by decide +kernel) ?_
  refine P_callv (q := 6) dX2_leastCost_3 rfl (t_look hS hP hm (show 0 < m.K by omega) hB) kX2_36 rfl rfl (by decide) h67 rfl ⟨by decide, by decide⟩ (Nat.le_of_ble_eq_true rfl) ⟨Nat.le_refl _, Nat.le_refl _⟩ ?_
  rintro v σ1 ⟨rfl, t1, t2⟩
  refine P_istore_n (q := 7) (L' := [_, _, _, _]) dX2_leastCost_6 rfl (by decide) rfl ?_
  refine P_iconst (q := 8) (v := nI 1) dX2_leastCost_7 rfl (by decide +kernel) ?_
  refine P_istore_n (q := 9) (L' := [_, _, _, _]) dX2_leastCost_8 rfl (by decide) rfl ?_
  exact w_lc hS hP hm (m.K - 1) 0 (by omega) σ1 t1 (t2.imp (fun i j h => h.elim))
set_option maxRecDepth 100000 in
set_option maxHeartbeats 4000000 in
theorem w_fst {σ0 : Sto} {m : Md} (hS : LsO σ0) (hP : PrW σ0 4 m) (hm : m.ok) : ∀ n p, p + n = m.K → (∃ q, p ≤ q ∧ q < p + n ∧ m.tl q = true) → fsA m.tl n p = fsA m.tl m.K 0 → ∀ σ, same σ0 σ (fun i => 69 ≤ i ∧ i ≤ 78) → GP σ 68 10 8 (fun _ _ => False) zz2 → ∀ x4 : Option Value, PW mX2_firstStrip 0 0 (fun v σ' => v = some (.long (lN (upsN (m.fo m.f1) m.C))) ∧ same σ0 σ' (fun i => 69 ≤ i ∧ i ≤ 78) ∧ GP σ' 68 10 8 (fun _ _ => False) zz2) 8 [some (.ref 67), some (.ref 4), some (.int (nI (mnN m.L (m.K - 1)))), some (.int (nI p)), x4] [] 132 σ 0 0 := by
  have hK := Md.K_le hm
  have hC := hm.1
  obtain ⟨a, b, h67, hab⟩ := id hS
  intro n
  induction n with
  | zero =>
    intro p hp ⟨q, h1, h2, h3⟩
    omega
  | succ n ih =>
    intro p hp hex hfs σ hs hB x4
    have h4 := (hs 4 (by omega)).trans hP.1
    have hPσ := hP.congr (τ := σ) (fun i h1 h2 => hs i (by omega))
    have h67' := (hs 67 (by omega)).trans h67
    have hSσ : LsO σ := ⟨a, b, h67', hab⟩
    have hp' : p < m.K := by omega
    have hlt := Md.kio_lt (m := m) p
    have q1 := Md.L_le hm hlt
    have q2 := Md.mnL_le hm (j := m.K - 1)
    rw [fsA] at hfs
    refine P_iload_n (q := 9) dX2_firstStrip_8 rfl rfl ?_
    refine P_aload_n (q := 10) dX2_firstStrip_9 rfl rfl ?_
    refine P_get (q := 13) dX2_firstStrip_10 rfl fX2_26 (by decide) (h4) rfl ?_
    refine P_icmp_ge (q := 16) (tgt := 48) dX2_firstStrip_13 rfl (by decide) (fun c_13 => ?_) (fun c_13 => ?_)
    · exfalso; rw [nI_leI (by omega) (by omega)] at c_13; omega
    · rw [nI_leI (by omega) (by omega)] at c_13
      refine P_aload_n (q := 17) dX2_firstStrip_16 rfl rfl ?_
      refine P_iload_n (q := 18) dX2_firstStrip_17 rfl rfl ?_
      refine P_cv1 (q := 21) dX2_firstStrip_18 rfl kX2_32 (t_kio hm (by omega) h4 hp') rfl rfl (by decide) (h4) rfl ⟨by decide, by decide⟩ (Nat.le_of_ble_eq_true rfl) ⟨Nat.le_refl _, Nat.le_refl _⟩ ?_
      refine P_istore (q := 23) (L' := [_, _, _, _, _]) dX2_firstStrip_21 rfl (by decide) rfl ?_
      refine P_aload_n (q := 24) dX2_firstStrip_23 rfl rfl ?_
      refine P_aload_n (q := 25) dX2_firstStrip_24 rfl rfl ?_
      refine P_iload (q := 27) dX2_firstStrip_25 rfl rfl ?_
      refine P_callv (q := 30) dX2_firstStrip_27 rfl (t_look hSσ hPσ hm hlt hB) kX2_36 rfl rfl (by decide) h67' rfl ⟨by decide, by decide⟩ (Nat.le_of_ble_eq_true rfl) ⟨Nat.le_refl _, Nat.le_refl _⟩ ?_
      rintro v σ1 ⟨rfl, t1, t2⟩
      have hSσ1 : LsO σ1 := ⟨a, b, (t1 67 (by omega)).trans h67', hab⟩
      refine P_iload_n (q := 31) dX2_firstStrip_30 rfl rfl ?_
      refine P_icmp_ne (q := 34) (tgt := 42) dX2_firstStrip_31 rfl (by decide) (fun c_31 => ?_) (fun c_31 => ?_)
      · rw [nI_eq (by omega) (by omega)] at c_31
        rw [if_neg (by unfold Md.tl; rw [decide_eq_false c_31]; decide)] at hfs
        refine P_iinc (q := 45) (L' := [_, _, _, _, _]) (v := nI (p + 1)) dX2_firstStrip_42 rfl (by decide) rfl (nI_1 p) rfl ?_
        refine P_goto (tgt := 8) dX2_firstStrip_45 (by decide) ?_
        obtain ⟨q, h1, h2, h3⟩ := hex
        exact ih (p + 1) (by omega) ⟨q, Nat.lt_of_le_of_ne h1 (fun e => by rw [← e] at h3; exact c_31 (of_decide_eq_true h3)), by omega, h3⟩ hfs σ1 (hs.trans t1) (t2.imp (fun i j h => h.elim)) _
      · rw [nI_eq (by omega) (by omega)] at c_31
        rw [if_pos (show m.tl p = true from decide_eq_true c_31)] at hfs
        refine P_aload_n (q := 35) dX2_firstStrip_34 rfl rfl ?_
        refine P_aload_n (q := 36) dX2_firstStrip_35 rfl rfl ?_
        refine P_iload (q := 38) dX2_firstStrip_36 rfl rfl ?_
        refine P_cv1 (q := 41) dX2_firstStrip_38 rfl kX2_40 (t_fol hSσ1 (hPσ.congr (fun i h1 h2 => t1 i (by omega))) hm hlt t2) rfl rfl (by decide) ((t1 67 (by omega)).trans h67') rfl ⟨by decide, by decide⟩ (Nat.le_of_ble_eq_true rfl) ⟨Nat.le_refl _, Nat.le_refl _⟩ ?_
        refine P_lret dX2_firstStrip_41 rfl ?_
        rw [show m.f1 = kioN m.R p from by unfold Md.f1; rw [← hfs]]
        exact ⟨rfl, hs.trans t1, t2.imp (fun i j h => h.elim)⟩
set_option maxRecDepth 100000 in
set_option maxHeartbeats 4000000 in
theorem t_fst {σ0 : Sto} {m : Md} (hS : LsO σ0) (hP : PrW σ0 4 m) (hm : m.ok) (hB : GP σ0 68 10 8 (fun _ _ => False) zz2) : CP mX2_firstStrip 0 0 [.ref 67, .ref 4] 132 σ0 (fun v σ' => v = some (.long (lN (upsN (m.fo m.f1) m.C))) ∧ same σ0 σ' (fun i => 69 ≤ i ∧ i ≤ 78) ∧ GP σ' 68 10 8 (fun _ _ => False) zz2) := by
  have hK := Md.K_le hm
  have hC := hm.1
  obtain ⟨a, b, h67, hab⟩ := id hS
  refine CP_of (by decide +kernel) (Nat.le_of_ble_eq_true rfl) ?_
  change PW _ _ _ _ 0 [_, _, _, _, _] [] _ _ _ _
  refine P_aload_n (q := 1) dX2_firstStrip_0 rfl rfl ?_
  refine P_aload_n (q := 2) dX2_firstStrip_1 rfl rfl ?_
  refine P_callv (q := 5) dX2_firstStrip_2 rfl (t_lcost hS hP hm hB) kX2_22 rfl rfl (by decide) h67 rfl ⟨by decide, by decide⟩ (Nat.le_of_ble_eq_true rfl) ⟨Nat.le_refl _, Nat.le_refl _⟩ ?_
  rintro v σ1 ⟨rfl, t1, t2⟩
  refine P_istore_n (q := 6) (L' := [_, _, _, _, _]) dX2_firstStrip_5 rfl (by decide) rfl ?_
  refine P_iconst (q := 7) (v := nI 0) dX2_firstStrip_6 rfl (by decide +kernel) ?_
  refine P_istore_n (q := 8) (L' := [_, _, _, _, _]) dX2_firstStrip_7 rfl (by decide) rfl ?_
  exact w_fst hS hP hm m.K 0 (by omega) (Md.tl_ex hm) rfl σ1 t1 t2 _
