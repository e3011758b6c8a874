variable {eN : Nat}
/-! THE LEAST: kinds in order, what lies behind -/
def kioN : Nat → Nat → Nat
  | 0, _ => 0
  | r + 1, p => 2 * kioN r p + p / 2 ^ r % 2
/-- the least of f at 0 .. n -/
def mnN (f : Nat → Nat) : Nat → Nat
  | 0 => f 0
  | n + 1 => min (mnN f n) (f (n + 1))
theorem mnN_le {f : Nat → Nat} : ∀ {n i : Nat}, i ≤ n → mnN f n ≤ f i
  | 0, i, h => by
    have : i = 0 := by omega
    subst this; exact Nat.le_refl _
  | n + 1, i, h => by
    rw [mnN]
    by_cases e : i = n + 1
    · subst e; exact Nat.min_le_right _ _
    · exact Nat.le_trans (Nat.min_le_left _ _) (mnN_le (by omega))
theorem mnN_at (f : Nat → Nat) : ∀ n, ∃ i, i ≤ n ∧ mnN f n = f i
  | 0 => ⟨0, Nat.le_refl _, rfl⟩
  | n + 1 => by
    rw [mnN]
    by_cases h : mnN f n ≤ f (n + 1)
    · obtain ⟨i, h1, h2⟩ := mnN_at f n
      exact ⟨i, by omega, by rw [Nat.min_eq_left h, h2]⟩
    · exact ⟨n + 1, Nat.le_refl _, Nat.min_eq_right (by omega)⟩
def Md.Bd (m : Md) (f : Nat) : Nat → Nat → Nat
  | 0, k => m.sm f k
  | d + 1, k => mnN (fun t => m.cb k t + m.ci (m.C - 1 - d) t + m.Bd f d t) (m.K - 1)
def Md.B (m : Md) (f c k : Nat) : Nat := m.Bd f (m.C - 1 - c) k
def Md.cn (m : Md) (f c k t : Nat) : Nat := m.cb k t + m.ci (c + 1) t + m.B f (c + 1) t
def Md.L (m : Md) (f : Nat) : Nat := m.ci 0 f + m.B f 0 f
theorem Md.B_last {m : Md} (f k : Nat) : m.B f (m.C - 1) k = m.sm f k := by
  unfold Md.B; rw [Nat.sub_self]; rfl
theorem Md.B_step {m : Md} {f c k : Nat} (h : c + 1 < m.C) : m.B f c k = mnN (m.cn f c k) (m.K - 1) := by
  unfold Md.cn Md.B
  rw [show m.C - 1 - c = (m.C - 1 - (c + 1)) + 1 by omega, Md.Bd, show m.C - 1 - (m.C - 1 - (c + 1)) = c + 1 by omega]
theorem Md.Bd_le {m : Md} (hm : m.ok) {f : Nat} (hf : f < m.K) : ∀ d k, d < m.C → k < m.K → m.Bd f d k ≤ 190 + 380 * d
  | 0, k, _, hk => by
    rw [Md.Bd]
    have := sm_le hm hf hk
    omega
  | d + 1, k, hd, hk => by
    have hK := Md.K_le hm
    rw [Md.Bd]
    refine Nat.le_trans (mnN_le (i := 0) (Nat.zero_le _)) ?_
    have h1 := hm.2.2.2.2.2.1 k 0 hk (by omega)
    have h2 := hm.2.2.2.2.2.2 (m.C - 1 - d) 0 (by omega) (by omega)
    have h3 := Md.Bd_le hm hf d 0 (by omega) (by omega)
    show m.cb k 0 + m.ci (m.C - 1 - d) 0 + m.Bd f d 0 ≤ _
    omega
theorem Md.B_le {m : Md} (hm : m.ok) {f c k : Nat} (hf : f < m.K) (hk : k < m.K) : m.B f c k ≤ 4000 := by
  have h := Md.Bd_le hm hf (m.C - 1 - c) k (by have := hm.1.1; omega) hk
  have := hm.1.2
  unfold Md.B
  omega
theorem Md.cn_le {m : Md} (hm : m.ok) {f c k t : Nat} (hf : f < m.K) (hc : c + 1 < m.C) (hk : k < m.K) (ht : t < m.K) : m.cn f c k t ≤ 4400 := by
  have h1 := hm.2.2.2.2.2.1 k t hk ht
  have h2 := hm.2.2.2.2.2.2 (c + 1) t hc ht
  have h3 := Md.B_le hm hf (c := c + 1) ht
  unfold Md.cn
  omega
theorem Md.L_le {m : Md} (hm : m.ok) {f : Nat} (hf : f < m.K) : m.L f ≤ 4400 := by
  have h2 := hm.2.2.2.2.2.2 0 f (by have := hm.1.1; omega) hf
  have h3 := Md.B_le hm hf (c := 0) hf
  unfold Md.L
  omega
theorem Md.mn_le {m : Md} (hm : m.ok) {f c k j : Nat} (hf : f < m.K) (hc : c + 1 < m.C) (hk : k < m.K) : mnN (m.cn f c k) j ≤ 4400 := Nat.le_trans (mnN_le (i := 0) (Nat.zero_le _)) (Md.cn_le hm hf hc hk (by have := Md.K_le hm; omega))
theorem Md.mnL_le {m : Md} (hm : m.ok) {j : Nat} : mnN m.L j ≤ 4400 := Nat.le_trans (mnN_le (i := 0) (Nat.zero_le _)) (Md.L_le hm (by have := Md.K_le hm; omega))
def LsS (σ : Sto) (a b : Nat) : Prop := σ 67 = pO 2 [.ref 68, .ref a, .ref b] ∧ ((a = 79 ∧ b = 88) ∨ (a = 88 ∧ b = 79))
def LsO (σ : Sto) : Prop := ∃ a b, LsS σ a b
set_option maxRecDepth 100000 in
set_option maxHeartbeats 4000000 in
theorem t_con {σ : Sto} {f c k t : Nat} {m : Md} (hS : LsO σ) (hP : PrW σ 4 m) (hm : m.ok) (hf : f < m.K) {P : Nat → Nat → Prop} (hB : GP σ 68 10 8 P (m.B f)) (hc : c + 1 < m.C) (hk : k < m.K) (ht : t < m.K) (hp : P (c + 1) t) : CD mX2_costOfNext [.ref 67, .ref 4, .int (nI c), .int (nI k), .int (nI t)] (eN + 114) σ (some (.int (nI (m.cn f c k t)))) σ := by
  have hK := Md.K_le hm
  have hC := hm.1
  obtain ⟨a, b, h67, hab⟩ := hS
  obtain ⟨gB, b1, b2⟩ := hB.2 (c + 1) (by omega)
  have b3 := b2 t hp
  obtain ⟨gi, i1, i2⟩ := hP.2.2.1.2 (c + 1) (by omega)
  have i3 := i2 (by omega) t ht
  obtain ⟨gb, k1, k2⟩ := hP.2.2.2.2 k (by omega)
  have k3 := k2 hk t ht
  have hP1 := hP.1
  refine CP_of (by decide +kernel) (Nat.le_of_ble_eq_true rfl) ?_
  change PW _ _ _ _ 0 [_, _, _, _, _] [] _ _ _ _
  refine P_iload_n (q := 1) dX2_costOfNext_0 rfl rfl ?_
  refine P_if_lt (q := 4) (tgt := 14) dX2_costOfNext_1 rfl (by first | decide | exact lt_c (by decide)) (fun c_1 => ?_) (fun c_1 => ?_)
  · exact absurd c_1 (by rw [show ((0 : Int32)) = nI 0 from rfl, nI_ltI (by omega) (by omega)]; omega)
  · refine P_iload_n (q := 5) dX2_costOfNext_4 rfl rfl ?_
    refine P_iconst (q := 6) (v := nI 1) dX2_costOfNext_5 rfl (by decide +kernel) ?_
    refine P_iadd (q := 7) dX2_costOfNext_6 rfl ?_
    refine P_aload_n (q := 8) dX2_costOfNext_7 rfl rfl ?_
    refine P_get (q := 11) dX2_costOfNext_8 rfl fX2_60 (by first | decide | exact lt_c (by decide)) (hP1) rfl ?_
    refine P_icmp_lt (q := 14) (tgt := 16) dX2_costOfNext_11 rfl (by first | decide | exact lt_c (by decide)) (fun c_11 => ?_) (fun c_11 => ?_)
    · refine P_aload_n (q := 17) dX2_costOfNext_16 rfl rfl ?_
      refine P_get (q := 20) dX2_costOfNext_17 rfl fX2_73 (by first | decide | exact lt_c (by decide)) (hP1) rfl ?_
      refine P_iload_n (q := 21) dX2_costOfNext_20 rfl rfl ?_
      refine P_qald (q := 22) (j := k) (b := 4 + 13 + 1 + k) 2 (fun _ => rfl) rfl dX2_costOfNext_21 rfl (by first | decide | exact lt_c (by decide)) (hP.2.2.2.1) (rfl) (by omega) (by first | decide | exact lt_c (by decide)) (grR_at (by omega)) ?_
      refine P_iload (q := 24) dX2_costOfNext_22 rfl rfl ?_
      refine P_iald (q := 25) (j := t) dX2_costOfNext_24 rfl (by omega) (k1) (rfl) (by omega) (by first | decide | exact lt_c (by decide)) ?_
      rw [k3]
      refine P_aload_n (q := 26) dX2_costOfNext_25 rfl rfl ?_
      refine P_get (q := 29) dX2_costOfNext_26 rfl fX2_70 (by first | decide | exact lt_c (by decide)) (hP1) rfl ?_
      refine P_iload_n (q := 30) dX2_costOfNext_29 rfl rfl ?_
      refine P_iconst (q := 31) (v := nI 1) dX2_costOfNext_30 rfl (by decide +kernel) ?_
      refine P_iadd (q := 32) dX2_costOfNext_31 rfl ?_
      refine P_qald (q := 33) (j := c + 1) (b := 4 + 2 + 1 + (c + 1)) 2 (fun _ => rfl) rfl dX2_costOfNext_32 rfl (by first | decide | exact lt_c (by decide)) (hP.2.2.1.1) (nI_1 c) (by omega) (by first | decide | exact lt_c (by decide)) (grR_at (by omega)) ?_
      refine P_iload (q := 35) dX2_costOfNext_33 rfl rfl ?_
      refine P_iald (q := 36) (j := t) dX2_costOfNext_35 rfl (by omega) (i1) (rfl) (by omega) (by first | decide | exact lt_c (by decide)) ?_
      rw [i3]
      refine P_iadd (q := 37) dX2_costOfNext_36 rfl ?_
      refine P_aload_n (q := 38) dX2_costOfNext_37 rfl rfl ?_
      refine P_get (q := 41) dX2_costOfNext_38 rfl fX2_11 (by first | decide | exact lt_c (by decide)) (h67) rfl ?_
      refine P_iload_n (q := 42) dX2_costOfNext_41 rfl rfl ?_
      refine P_iconst (q := 43) (v := nI 1) dX2_costOfNext_42 rfl (by decide +kernel) ?_
      refine P_iadd (q := 44) dX2_costOfNext_43 rfl ?_
      refine P_qald (q := 45) (j := c + 1) (b := 68 + 1 + (c + 1)) 2 (fun _ => rfl) rfl dX2_costOfNext_44 rfl (by first | decide | exact lt_c (by decide)) (hB.1) (nI_1 c) (by omega) (by first | decide | exact lt_c (by decide)) (grR_at (by omega)) ?_
      refine P_iload (q := 47) dX2_costOfNext_45 rfl rfl ?_
      refine P_iald (q := 48) (j := t) dX2_costOfNext_47 rfl (by omega) (b1) (rfl) (by omega) (by first | decide | exact lt_c (by decide)) ?_
      rw [b3]
      refine P_iadd (q := 49) dX2_costOfNext_48 rfl ?_
      refine P_iret dX2_costOfNext_49 rfl (rfl) ?_
      exact ⟨rv_i (by rw [nI_add, nI_add]; rfl), rfl⟩
    · exfalso; rw [show nI c + nI 1 = nI (c + 1) from nI_1 c, nI_ltI (by omega) (by omega)] at c_11; omega
set_option maxRecDepth 100000 in
set_option maxHeartbeats 4000000 in
theorem t_isl {σ : Sto} {f c k t : Nat} {m : Md} (hS : LsO σ) (hP : PrW σ 4 m) (hm : m.ok) (hf : f < m.K) {P : Nat → Nat → Prop} (hB : GP σ 68 10 8 P (m.B f)) (hc : c + 1 < m.C) (hk : k < m.K) (ht : t < m.K) (hp : P (c + 1) t) (hp2 : P c k) : CD mX2_isLeast [.ref 67, .ref 4, .int (nI c), .int (nI k), .int (nI t)] (eN + 114) σ (some (.int (bI (decide (m.cn f c k t = m.B f c k))))) σ := by
  have hK := Md.K_le hm
  have hC := hm.1
  have hcon := t_con (eN := eN) hS hP hm hf hB hc hk ht hp
  obtain ⟨a, b, h67, hab⟩ := hS
  obtain ⟨gB, b1, b2⟩ := hB.2 c (by omega)
  have b3 := b2 k hp2
  have q1 := Md.cn_le hm hf hc hk ht
  have q2 := Md.B_le hm hf (c := c) hk
  refine CP_of (by decide +kernel) (Nat.le_of_ble_eq_true rfl) ?_
  change PW _ _ _ _ 0 [_, _, _, _, _] [] _ _ _ _
  refine P_aload_n (q := 1) dX2_isLeast_0 rfl rfl ?_
  refine P_aload_n (q := 2) dX2_isLeast_1 rfl rfl ?_
  refine P_iload_n (q := 3) dX2_isLeast_2 rfl rfl ?_
  refine P_iload_n (q := 4) dX2_isLeast_3 rfl rfl ?_
  refine P_iload (q := 6) dX2_isLeast_4 rfl rfl ?_
  refine P_cv1 (q := 9) dX2_isLeast_6 rfl kX2_66 (hcon) rfl rfl (by first | decide | exact lt_c (by decide)) (h67) rfl ⟨by decide, by decide⟩ (Nat.le_of_ble_eq_true rfl) ⟨Nat.le_refl _, Nat.le_refl _⟩ ?_
  refine P_aload_n (q := 10) dX2_isLeast_9 rfl rfl ?_
  refine P_get (q := 13) dX2_isLeast_10 rfl fX2_11 (by first | decide | exact lt_c (by decide)) (h67) rfl ?_
  refine P_iload_n (q := 14) dX2_isLeast_13 rfl rfl ?_
  refine P_qald (q := 15) (j := c) (b := 68 + 1 + c) 2 (fun _ => rfl) rfl dX2_isLeast_14 rfl (by first | decide | exact lt_c (by decide)) (hB.1) (rfl) (by omega) (by first | decide | exact lt_c (by decide)) (grR_at (by omega)) ?_
  refine P_iload_n (q := 16) dX2_isLeast_15 rfl rfl ?_
  refine P_iald (q := 17) (j := k) dX2_isLeast_16 rfl (by omega) (b1) (rfl) (by omega) (by first | decide | exact lt_c (by decide)) ?_
  rw [b3]
  refine P_icmp_ne (q := 20) (tgt := 24) dX2_isLeast_17 rfl (by first | decide | exact lt_c (by decide)) (fun c_17 => ?_) (fun c_17 => ?_)
  · rw [nI_eq (by omega) (by omega)] at c_17
    rw [decide_eq_false c_17]
    refine P_iconst (q := 25) (v := nI 0) dX2_isLeast_24 rfl (by decide +kernel) ?_
    refine P_iret dX2_isLeast_25 rfl (rfl) ?_
    exact ⟨rfl, rfl⟩
  · rw [nI_eq (by omega) (by omega)] at c_17
    rw [decide_eq_true c_17]
    refine P_iconst (q := 21) (v := nI 1) dX2_isLeast_20 rfl (by decide +kernel) ?_
    refine P_goto (tgt := 25) dX2_isLeast_21 (by first | decide | exact lt_c (by decide)) ?_
    refine P_iret dX2_isLeast_25 rfl (rfl) ?_
    exact ⟨rfl, rfl⟩
set_option maxRecDepth 100000 in
set_option maxHeartbeats 4000000 in
theorem w_lb4 {σ0 σ : Sto} {f c k : Nat} {m : Md} (hS : LsO σ0) (hP : PrW σ0 4 m) (hm : m.ok) (hf : f < m.K) (hs : same σ0 σ (fun i => 69 ≤ i ∧ i ≤ 78)) (hc : c + 1 < m.C) (hk : k < m.K) {P : Nat → Nat → Prop} (hB : GP σ 68 10 8 P (m.B f)) (hp : ∀ t, t < m.K → P (c + 1) t) {QQ : Option Value → Sto → Prop}
    (K : ∀ x7 : Option Value, PW mX2_lookBehind 0 0 QQ 111 [some (.ref 67), some (.ref 4), some (.int (nI f)), some (.int (nI (m.C - 1))), some (.int (nI c)), some (.int (nI k)), some (.int (nI (m.B f c k))), x7] [] (eN + 114) σ 0 0) : ∀ n j, j + 1 + n = m.K → PW mX2_lookBehind 0 0 QQ 78 [some (.ref 67), some (.ref 4), some (.int (nI f)), some (.int (nI (m.C - 1))), some (.int (nI c)), some (.int (nI k)), some (.int (nI (mnN (m.cn f c k) j))), some (.int (nI (j + 1)))] [] (eN + 114) σ 0 0 := by
  have hK := Md.K_le hm
  have hC := hm.1
  obtain ⟨a, b, h67, hab⟩ := id hS
  have h4 := (hs 4 (by omega)).trans hP.1
  have hPσ := hP.congr (τ := σ) (fun i h1 h2 => hs i (by omega))
  have h67' := (hs 67 (by omega)).trans h67
  have hSσ : LsO σ := ⟨a, b, h67', hab⟩
  intro n
  induction n with
  | zero =>
    intro j hj
    have e : j = m.K - 1 := by omega
    refine P_iload (q := 80) dX2_lookBehind_78 rfl rfl ?_
    refine P_aload_n (q := 81) dX2_lookBehind_80 rfl rfl ?_
    refine P_get (q := 84) dX2_lookBehind_81 rfl fX2_26 (by first | decide | exact lt_c (by decide)) (h4) rfl ?_
    refine P_icmp_ge (q := 87) (tgt := 111) dX2_lookBehind_84 rfl (by first | decide | exact lt_c (by decide)) (fun c_84 => ?_) (fun c_84 => ?_)
    · rw [nI_leI (by omega) (by omega)] at c_84
      rw [e, ← Md.B_step hc]
      exact K _
    · exfalso; rw [nI_leI (by omega) (by omega)] at c_84; omega
  | succ n ih =>
    intro j hj
    have q1 := Md.cn_le hm hf hc hk (t := j + 1) (by omega)
    have q2 := Md.mn_le hm hf hc hk (j := j)
    refine P_iload (q := 80) dX2_lookBehind_78 rfl rfl ?_
    refine P_aload_n (q := 81) dX2_lookBehind_80 rfl rfl ?_
    refine P_get (q := 84) dX2_lookBehind_81 rfl fX2_26 (by first | decide | exact lt_c (by decide)) (h4) rfl ?_
    refine P_icmp_ge (q := 87) (tgt := 111) dX2_lookBehind_84 rfl (by first | decide | exact lt_c (by decide)) (fun c_84 => ?_) (fun c_84 => ?_)
    · exfalso; rw [nI_leI (by omega) (by omega)] at c_84; omega
    · rw [nI_leI (by omega) (by omega)] at c_84
      refine P_iload (q := 89) dX2_lookBehind_87 rfl rfl ?_
      refine P_aload_n (q := 90) dX2_lookBehind_89 rfl rfl ?_
      refine P_aload_n (q := 91) dX2_lookBehind_90 rfl rfl ?_
      refine P_iload (q := 93) dX2_lookBehind_91 rfl rfl ?_
      refine P_iload (q := 95) dX2_lookBehind_93 rfl rfl ?_
      refine P_iload (q := 97) dX2_lookBehind_95 rfl rfl ?_
      refine P_cv1 (q := 100) dX2_lookBehind_97 rfl kX2_66 (t_con hSσ hPσ hm hf hB hc hk (show j + 1 < m.K by omega) (hp _ (by omega))) rfl rfl (by first | decide | exact lt_c (by decide)) (h67') rfl ⟨by decide, by decide⟩ (Nat.le_of_ble_eq_true rfl) ⟨Nat.le_refl _, Nat.le_refl _⟩ ?_
      refine P_mmin (q := 103) dX2_lookBehind_100 rfl kX2_54 (by first | decide | exact lt_c (by decide)) (Nat.le_of_ble_eq_true rfl) ⟨Nat.le_refl _, Nat.le_refl _⟩ ?_
      rw [min_n (by omega) (by omega)]
      refine P_istore (q := 105) (L' := [_, _, _, _, _, _, _, _]) dX2_lookBehind_103 rfl (by first | decide | exact lt_c (by decide)) rfl ?_
      refine P_iinc (q := 108) (L' := [_, _, _, _, _, _, _, _]) (v := nI (j + 1 + 1)) dX2_lookBehind_105 rfl (by first | decide | exact lt_c (by decide)) rfl (nI_1 (j + 1)) rfl ?_
      refine P_goto (tgt := 78) dX2_lookBehind_108 (by first | decide | exact lt_c (by decide)) ?_
      exact ih (j + 1) (by omega)
set_option maxRecDepth 100000 in
set_option maxHeartbeats 4000000 in
theorem w_lb3 {σ0 : Sto} {f c : Nat} {m : Md} (hS : LsO σ0) (hP : PrW σ0 4 m) (hm : m.ok) (hf : f < m.K) (hc : c + 1 < m.C) {QQ : Option Value → Sto → Prop}
    (K : ∀ σ, same σ0 σ (fun i => 69 ≤ i ∧ i ≤ 78) → GP σ 68 10 8 (fun i j => c ≤ i ∧ i < m.C ∧ j < m.K) (m.B f) → ∀ x5 x6 x7 : Option Value, PW mX2_lookBehind 0 0 QQ 129 [some (.ref 67), some (.ref 4), some (.int (nI f)), some (.int (nI (m.C - 1))), some (.int (nI c)), x5, x6, x7] [] (eN + 114) σ 0 0) : ∀ n k, k + n = m.K → ∀ σ, same σ0 σ (fun i => 69 ≤ i ∧ i ≤ 78) → GP σ 68 10 8 (fun i j => (c < i ∧ i < m.C ∧ j < m.K) ∨ (i = c ∧ j < k)) (m.B f) → ∀ x6 x7 : Option Value, PW mX2_lookBehind 0 0 QQ 54 [some (.ref 67), some (.ref 4), some (.int (nI f)), some (.int (nI (m.C - 1))), some (.int (nI c)), some (.int (nI k)), x6, x7] [] (eN + 114) σ 0 0 := by
  have hK := Md.K_le hm
  have hC := hm.1
  obtain ⟨a, b, h67, hab⟩ := id hS
  intro n
  induction n with
  | zero =>
    intro k hk σ hs hB x6 x7
    have h4 := (hs 4 (by omega)).trans hP.1
    refine P_iload (q := 56) dX2_lookBehind_54 rfl rfl ?_
    refine P_aload_n (q := 57) dX2_lookBehind_56 rfl rfl ?_
    refine P_get (q := 60) dX2_lookBehind_57 rfl fX2_26 (by first | decide | exact lt_c (by decide)) (h4) rfl ?_
    refine P_icmp_ge (q := 63) (tgt := 129) dX2_lookBehind_60 rfl (by first | decide | exact lt_c (by decide)) (fun c_60 => ?_) (fun c_60 => ?_)
    · rw [nI_leI (by omega) (by omega)] at c_60
      exact K σ hs (hB.imp (fun i j h => ⟨by omega, rfl⟩)) _ _ _
    · exfalso; rw [nI_leI (by omega) (by omega)] at c_60; omega
  | succ n ih =>
    intro k hk σ hs hB x6 x7
    have h4 := (hs 4 (by omega)).trans hP.1
    have hPσ := hP.congr (τ := σ) (fun i h1 h2 => hs i (by omega))
    have h67' := (hs 67 (by omega)).trans h67
    have hSσ : LsO σ := ⟨a, b, h67', hab⟩
    have hk' : k < m.K := by omega
    obtain ⟨g, g1, -⟩ := hB.2 c (by omega)
    refine P_iload (q := 56) dX2_lookBehind_54 rfl rfl ?_
    refine P_aload_n (q := 57) dX2_lookBehind_56 rfl rfl ?_
    refine P_get (q := 60) dX2_lookBehind_57 rfl fX2_26 (by first | decide | exact lt_c (by decide)) (h4) rfl ?_
    refine P_icmp_ge (q := 63) (tgt := 129) dX2_lookBehind_60 rfl (by first | decide | exact lt_c (by decide)) (fun c_60 => ?_) (fun c_60 => ?_)
    · exfalso; rw [nI_leI (by omega) (by omega)] at c_60; omega
    · rw [nI_leI (by omega) (by omega)] at c_60
      refine P_aload_n (q := 64) dX2_lookBehind_63 rfl rfl ?_
      refine P_aload_n (q := 65) dX2_lookBehind_64 rfl rfl ?_
      refine P_iload (q := 67) dX2_lookBehind_65 rfl rfl ?_
      refine P_iload (q := 69) dX2_lookBehind_67 rfl rfl ?_
      refine P_iconst (q := 70) (v := nI 0) dX2_lookBehind_69 rfl (by decide +kernel) ?_
      refine P_cv1 (q := 73) dX2_lookBehind_70 rfl kX2_66 (t_con hSσ hPσ hm hf hB hc hk' (show 0 < m.K by omega) (by omega)) rfl rfl (by first | decide | exact lt_c (by decide)) (h67') rfl ⟨by decide, by decide⟩ (Nat.le_of_ble_eq_true rfl) ⟨Nat.le_refl _, Nat.le_refl _⟩ ?_
      refine P_istore (q := 75) (L' := [_, _, _, _, _, _, _, _]) dX2_lookBehind_73 rfl (by first | decide | exact lt_c (by decide)) rfl ?_
      refine P_iconst (q := 76) (v := nI 1) dX2_lookBehind_75 rfl (by decide +kernel) ?_
      refine P_istore (q := 78) (L' := [_, _, _, _, _, _, _, _]) dX2_lookBehind_76 rfl (by first | decide | exact lt_c (by decide)) rfl ?_
      refine w_lb4 hS hP hm hf hs hc hk' hB (fun t ht => by omega) (fun x7 => ?_) (m.K - 1) 0 (by omega)
      refine P_aload_n (q := 112) dX2_lookBehind_111 rfl rfl ?_
      refine P_get (q := 115) dX2_lookBehind_112 rfl fX2_11 (by first | decide | exact lt_c (by decide)) (h67') rfl ?_
      refine P_iload (q := 117) dX2_lookBehind_115 rfl rfl ?_
      refine P_qald (q := 118) (j := c) (b := 68 + 1 + c) 2 (fun _ => rfl) rfl dX2_lookBehind_117 rfl (by first | decide | exact lt_c (by decide)) (hB.1) (rfl) (by omega) (by first | decide | exact lt_c (by decide)) (grR_at (by omega)) ?_
      refine P_iload (q := 120) dX2_lookBehind_118 rfl rfl ?_
      refine P_iload (q := 122) dX2_lookBehind_120 rfl rfl ?_
      refine P_iast (q := 123) (j := k) (f' := upd g k (nI (m.B f c k))) (σ' := va_up σ (68 + 1 + c) (pI .int 8 (upd g k (nI (m.B f c k))))) dX2_lookBehind_122 rfl (by omega) (g1) (rfl) (by omega) (by first | decide | exact lt_c (by decide)) (rfl) (rfl) ?_
      refine P_iinc (q := 126) (L' := [_, _, _, _, _, _, _, _]) (v := nI (k + 1)) dX2_lookBehind_123 rfl (by first | decide | exact lt_c (by decide)) rfl (nI_1 k) rfl ?_
      refine P_goto (tgt := 54) dX2_lookBehind_126 (by first | decide | exact lt_c (by decide)) ?_
      exact ih (k + 1) (by omega) _ (hs.up (by omega)) (hB.set g1 (by omega) (fun i j h => (Decidable.em (i = c ∧ j = k)).elim (fun e => Or.inl ⟨e.1, e.2, by rw [e.1, e.2]⟩) (fun e => Or.inr ⟨e, by omega, rfl⟩))) _ _
set_option maxRecDepth 100000 in
set_option maxHeartbeats 4000000 in
theorem w_lb2 {σ0 : Sto} {f : Nat} {m : Md} (hS : LsO σ0) (hP : PrW σ0 4 m) (hm : m.ok) (hf : f < m.K) : ∀ n, n < m.C → ∀ σ, same σ0 σ (fun i => 69 ≤ i ∧ i ≤ 78) → GP σ 68 10 8 (fun i j => n ≤ i ∧ i < m.C ∧ j < m.K) (m.B f) → ∀ x5 x6 x7 : Option Value, PW mX2_lookBehind 0 0 (fun v σ' => v = some (.int (nI (m.L f))) ∧ same σ0 σ' (fun i => 69 ≤ i ∧ i ≤ 78) ∧ GP σ' 68 10 8 (fun i j => i < m.C ∧ j < m.K) (m.B f)) 46 [some (.ref 67), some (.ref 4), some (.int (nI f)), some (.int (nI (m.C - 1))), some (.int (nI n - nI 1)), x5, x6, x7] [] (eN + 114) σ 0 0 := by
  have hK := Md.K_le hm
  have hC := hm.1
  obtain ⟨a, b, h67, hab⟩ := id hS
  intro n
  induction n with
  | zero =>
    intro hn σ hs hB x5 x6 x7
    have h4 := (hs 4 (by omega)).trans hP.1
    have hPσ := hP.congr (τ := σ) (fun i h1 h2 => hs i (by omega))
    have h67' := (hs 67 (by omega)).trans h67
    have hSσ : LsO σ := ⟨a, b, h67', hab⟩
    obtain ⟨gi, i1, i2⟩ := hPσ.2.2.1.2 0 (by omega)
    have i3 := i2 (by omega) f hf
    obtain ⟨gB, b1, b2⟩ := hB.2 0 (by omega)
    have b3 := b2 f (by omega)
    refine P_iload (q := 48) dX2_lookBehind_46 rfl rfl ?_
    refine P_if_lt (q := 51) (tgt := 135) dX2_lookBehind_48 rfl (by first | decide | exact lt_c (by decide)) (fun c_48 => ?_) (fun c_48 => ?_)
    · refine P_aload_n (q := 136) dX2_lookBehind_135 rfl rfl ?_
      refine P_get (q := 139) dX2_lookBehind_136 rfl fX2_70 (by first | decide | exact lt_c (by decide)) (h4) rfl ?_
      refine P_iconst (q := 140) (v := nI 0) dX2_lookBehind_139 rfl (by decide +kernel) ?_
      refine P_qald (q := 141) (j := 0) (b := 4 + 2 + 1 + 0) 2 (fun _ => rfl) rfl dX2_lookBehind_140 rfl (by first | decide | exact lt_c (by decide)) (hPσ.2.2.1.1) (rfl) (by omega) (by first | decide | exact lt_c (by decide)) (grR_at (by omega)) ?_
      refine P_iload_n (q := 142) dX2_lookBehind_141 rfl rfl ?_
      refine P_iald (q := 143) (j := f) dX2_lookBehind_142 rfl (by omega) (i1) (rfl) (by omega) (by first | decide | exact lt_c (by decide)) ?_
      rw [i3]
      refine P_aload_n (q := 144) dX2_lookBehind_143 rfl rfl ?_
      refine P_get (q := 147) dX2_lookBehind_144 rfl fX2_11 (by first | decide | exact lt_c (by decide)) (h67') rfl ?_
      refine P_iconst (q := 148) (v := nI 0) dX2_lookBehind_147 rfl (by decide +kernel) ?_
      refine P_qald (q := 149) (j := 0) (b := 68 + 1 + 0) 2 (fun _ => rfl) rfl dX2_lookBehind_148 rfl (by first | decide | exact lt_c (by decide)) (hB.1) (rfl) (by omega) (by first | decide | exact lt_c (by decide)) (grR_at (by omega)) ?_
      refine P_iload_n (q := 150) dX2_lookBehind_149 rfl rfl ?_
      refine P_iald (q := 151) (j := f) dX2_lookBehind_150 rfl (by omega) (b1) (rfl) (by omega) (by first | decide | exact lt_c (by decide)) ?_
      rw [b3]
      refine P_iadd (q := 152) dX2_lookBehind_151 rfl ?_
      refine P_iret dX2_lookBehind_152 rfl (rfl) ?_
      exact ⟨rv_i (by rw [nI_add]; rfl), hs, hB.imp (fun i j h => ⟨by omega, rfl⟩)⟩
    · exact absurd (show nI 0 - nI 1 < (0 : Int32) by decide) c_48
  | succ n ih =>
    intro hn σ hs hB x5 x6 x7
    rw [pk_sub (show 1 ≤ n + 1 by omega), show n + 1 - 1 = n by omega]
    refine P_iload (q := 48) dX2_lookBehind_46 rfl rfl ?_
    refine P_if_lt (q := 51) (tgt := 135) dX2_lookBehind_48 rfl (by first | decide | exact lt_c (by decide)) (fun c_48 => ?_) (fun c_48 => ?_)
    · exact absurd c_48 (by rw [show ((0 : Int32)) = nI 0 from rfl, nI_ltI (by omega) (by omega)]; omega)
    · refine P_iconst (q := 52) (v := nI 0) dX2_lookBehind_51 rfl (by decide +kernel) ?_
      refine P_istore (q := 54) (L' := [_, _, _, _, _, _, _, _]) dX2_lookBehind_52 rfl (by first | decide | exact lt_c (by decide)) rfl ?_
      refine w_lb3 hS hP hm hf (c := n) (by omega) (fun σ2 hs2 hB2 y5 y6 y7 => ?_) m.K 0 (by omega) σ hs (hB.imp (fun i j h => ⟨by omega, rfl⟩)) _ _
      refine P_iinc (q := 132) (L' := [_, _, _, _, _, _, _, _]) (v := nI n - nI 1) dX2_lookBehind_129 rfl (by first | decide | exact lt_c (by decide)) rfl (by rw [Int32.sub_eq_add_neg]; rfl) rfl ?_
      refine P_goto (tgt := 46) dX2_lookBehind_132 (by first | decide | exact lt_c (by decide)) ?_
      exact ih (by omega) σ2 hs2 hB2 _ _ _
set_option maxRecDepth 100000 in
set_option maxHeartbeats 4000000 in
theorem w_lb1 {σ0 : Sto} {f : Nat} {m : Md} (hS : LsO σ0) (hP : PrW σ0 4 m) (hm : m.ok) (hf : f < m.K) : ∀ n k, k + n = m.K → ∀ σ, same σ0 σ (fun i => 69 ≤ i ∧ i ≤ 78) → GP σ 68 10 8 (fun i j => i = m.C - 1 ∧ j < k) (m.B f) → ∀ x5 x6 x7 : Option Value, PW mX2_lookBehind 0 0 (fun v σ' => v = some (.int (nI (m.L f))) ∧ same σ0 σ' (fun i => 69 ≤ i ∧ i ≤ 78) ∧ GP σ' 68 10 8 (fun i j => i < m.C ∧ j < m.K) (m.B f)) 10 [some (.ref 67), some (.ref 4), some (.int (nI f)), some (.int (nI (m.C - 1))), some (.int (nI k)), x5, x6, x7] [] (eN + 114) σ 0 0 := by
  have hK := Md.K_le hm
  have hC := hm.1
  obtain ⟨a, b, h67, hab⟩ := id hS
  intro n
  induction n with
  | zero =>
    intro k hk σ hs hB x5 x6 x7
    have h4 := (hs 4 (by omega)).trans hP.1
    refine P_iload (q := 12) dX2_lookBehind_10 rfl rfl ?_
    refine P_aload_n (q := 13) dX2_lookBehind_12 rfl rfl ?_
    refine P_get (q := 16) dX2_lookBehind_13 rfl fX2_26 (by first | decide | exact lt_c (by decide)) (h4) rfl ?_
    refine P_icmp_ge (q := 19) (tgt := 41) dX2_lookBehind_16 rfl (by first | decide | exact lt_c (by decide)) (fun c_16 => ?_) (fun c_16 => ?_)
    · rw [nI_leI (by omega) (by omega)] at c_16
      refine P_iload_n (q := 42) dX2_lookBehind_41 rfl rfl ?_
      refine P_iconst (q := 43) (v := nI 1) dX2_lookBehind_42 rfl (by decide +kernel) ?_
      refine P_isub (q := 44) dX2_lookBehind_43 rfl ?_
      refine P_istore (q := 46) (L' := [_, _, _, _, _, _, _, _]) dX2_lookBehind_44 rfl (by first | decide | exact lt_c (by decide)) rfl ?_
      exact w_lb2 hS hP hm hf (m.C - 1) (by omega) σ hs (hB.imp (fun i j h => ⟨by omega, rfl⟩)) _ _ _
    · exfalso; rw [nI_leI (by omega) (by omega)] at c_16; omega
  | succ n ih =>
    intro k hk σ hs hB x5 x6 x7
    have h4 := (hs 4 (by omega)).trans hP.1
    have hPσ := hP.congr (τ := σ) (fun i h1 h2 => hs i (by omega))
    have h67' := (hs 67 (by omega)).trans h67
    have hSσ : LsO σ := ⟨a, b, h67', hab⟩
    have hk' : k < m.K := by omega
    obtain ⟨g, g1, -⟩ := hB.2 (m.C - 1) (by omega)
    refine P_iload (q := 12) dX2_lookBehind_10 rfl rfl ?_
    refine P_aload_n (q := 13) dX2_lookBehind_12 rfl rfl ?_
    refine P_get (q := 16) dX2_lookBehind_13 rfl fX2_26 (by first | decide | exact lt_c (by decide)) (h4) rfl ?_
    refine P_icmp_ge (q := 19) (tgt := 41) dX2_lookBehind_16 rfl (by first | decide | exact lt_c (by decide)) (fun c_16 => ?_) (fun c_16 => ?_)
    · exfalso; rw [nI_leI (by omega) (by omega)] at c_16; omega
    · rw [nI_leI (by omega) (by omega)] at c_16
      refine P_aload_n (q := 20) dX2_lookBehind_19 rfl rfl ?_
      refine P_get (q := 23) dX2_lookBehind_20 rfl fX2_11 (by first | decide | exact lt_c (by decide)) (h67') rfl ?_
      refine P_iload_n (q := 24) dX2_lookBehind_23 rfl rfl ?_
      refine P_qald (q := 25) (j := (m.C - 1)) (b := 68 + 1 + (m.C - 1)) 2 (fun _ => rfl) rfl dX2_lookBehind_24 rfl (by first | decide | exact lt_c (by decide)) (hB.1) (rfl) (by omega) (by first | decide | exact lt_c (by decide)) (grR_at (by omega)) ?_
      refine P_iload (q := 27) dX2_lookBehind_25 rfl rfl ?_
      refine P_aload_n (q := 28) dX2_lookBehind_27 rfl rfl ?_
      refine P_iload (q := 30) dX2_lookBehind_28 rfl rfl ?_
      refine P_iload_n (q := 31) dX2_lookBehind_30 rfl rfl ?_
      refine P_cv1 (q := 34) dX2_lookBehind_31 rfl kX2_63 (t_seam hm (by omega) hPσ hk' hf) rfl rfl (by first | decide | exact lt_c (by decide)) (h4) rfl ⟨by decide, by decide⟩ (Nat.le_of_ble_eq_true rfl) ⟨Nat.le_refl _, Nat.le_refl _⟩ ?_
      refine P_iast (q := 35) (j := k) (f' := upd g k (nI (m.B f (m.C - 1) k))) (σ' := va_up σ (68 + 1 + (m.C - 1)) (pI .int 8 (upd g k (nI (m.B f (m.C - 1) k))))) dX2_lookBehind_34 rfl (by omega) (g1) (rfl) (by omega) (by first | decide | exact lt_c (by decide)) (by rw [Md.B_last]; rfl) (rfl) ?_
      refine P_iinc (q := 38) (L' := [_, _, _, _, _, _, _, _]) (v := nI (k + 1)) dX2_lookBehind_35 rfl (by first | decide | exact lt_c (by decide)) rfl (nI_1 k) rfl ?_
      refine P_goto (tgt := 10) dX2_lookBehind_38 (by first | decide | exact lt_c (by decide)) ?_
      exact ih (k + 1) (by omega) _ (hs.up (by omega)) (hB.set g1 (by omega) (fun i j h => (Decidable.em (i = m.C - 1 ∧ j = k)).elim (fun e => Or.inl ⟨e.1, e.2, by rw [e.1, e.2]⟩) (fun e => Or.inr ⟨e, by omega, rfl⟩))) _ _ _
set_option maxRecDepth 100000 in
set_option maxHeartbeats 4000000 in
theorem t_look {σ0 : Sto} {f : Nat} {m : Md} (hS : LsO σ0) (hP : PrW σ0 4 m) (hm : m.ok) (hf : f < m.K) {F : Nat → Nat → Nat} (hB : GP σ0 68 10 8 (fun _ _ => False) F) : CP mX2_lookBehind 0 0 [.ref 67, .ref 4, .int (nI f)] (eN + 114) σ0 (fun v σ' => v = some (.int (nI (m.L f))) ∧ same σ0 σ' (fun i => 69 ≤ i ∧ i ≤ 78) ∧ GP σ' 68 10 8 (fun i j => i < m.C ∧ j < m.K) (m.B f)) := by
  refine CP_of (by decide +kernel) (Nat.le_of_ble_eq_true rfl) ?_
  change PW _ _ _ _ 0 [_, _, _, _, _, _, _, _] [] _ _ _ _
  refine P_aload_n (q := 1) dX2_lookBehind_0 rfl rfl ?_
  refine P_get (q := 4) dX2_lookBehind_1 rfl fX2_60 (by first | decide | exact lt_c (by decide)) (hP.1) rfl ?_
  refine P_iconst (q := 5) (v := nI 1) dX2_lookBehind_4 rfl (by decide +kernel) ?_
  refine P_isub (q := 6) dX2_lookBehind_5 rfl ?_
  rw [pk_sub hm.1.1]
  refine P_istore_n (q := 7) (L' := [_, _, _, _, _, _, _, _]) dX2_lookBehind_6 rfl (by first | decide | exact lt_c (by decide)) rfl ?_
  refine P_iconst (q := 8) (v := nI 0) dX2_lookBehind_7 rfl (by decide +kernel) ?_
  refine P_istore (q := 10) (L' := [_, _, _, _, _, _, _, _]) dX2_lookBehind_8 rfl (by first | decide | exact lt_c (by decide)) rfl ?_
  exact w_lb1 hS hP hm hf m.K 0 (by omega) σ0 same.rf (hB.imp (fun i j h => by omega)) _ _ _
