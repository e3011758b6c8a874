variable {eN : Nat}
/-! THE ROWS OF SUMS, column by column -/
def SmS (σ : Sto) (a b : Nat) : Prop := σ 48 = pO 5 [.ref a, .ref b] ∧ ((a = 49 ∧ b = 58) ∨ (a = 58 ∧ b = 49))
theorem GW.keep {σ : Sto} {q N n I J i : Nat} {F : Nat → Nat → Nat} {g : Nat → Int32} (h : GW σ q N n I J F) (hi : I ≤ i) : GW (va_up σ (q + 1 + i) (pI .int n g)) q N n I J F := h.put (fun h => by omega) (fun a _ _ h => ⟨h, fun _ _ => rfl⟩)
def rng (first fin : Nat) : Nat → Bool := fun k => decide (first ≤ k ∧ k < fin)
theorem flV_all {N : Nat} {v : Int32} {f : Nat → Int32} {j : Nat} (h : j < N) : flV N v f N j = v := if_pos h
theorem same.trans {σ τ υ : Sto} {P : Nat → Prop} (h1 : same σ τ P) (h2 : same τ υ P) : same σ υ P := fun k hk => (h2 k hk).trans (h1 k hk)
theorem same.mono {σ τ : Sto} {P P' : Nat → Prop} (h : same σ τ P) (hp : ∀ k, P k → P' k) : same σ τ P' := fun k hk => h k (fun q => hk (hp k q))
theorem same.rf {σ : Sto} {P : Nat → Prop} : same σ σ P := fun _ _ => rfl
theorem same.up {σ τ : Sto} {P : Nat → Prop} {a : Nat} {c : PC} (h : same σ τ P) (ha : P a) : same σ (va_up τ a c) P := fun k hk => (up_ne _ _ (fun q => hk (by rw [q]; exact ha))).trans (h k hk)
set_option maxRecDepth 100000 in
set_option maxHeartbeats 4000000 in
theorem w_begin {σ0 : Sto} {a b pb first fin : Nat} {m : Md} (hS : SmS σ0 a b) (hP : PrW σ0 pb m) (hm : m.ok) (hpb : pb = 4 ∨ pb = 26) (hf1 : first < 100) (hf2 : fin < 100) : ∀ j k, k + j = m.K → ∀ σ, same σ0 σ (fun i => a + 1 ≤ i ∧ i ≤ a + 8) → GW σ a 8 191 k 191 (fun t x => m.W (rng first fin) 0 t x) → ∀ x5 : Option Value, PW mX5_begin 0 0 (fun v σ' => v = none ∧ same σ0 σ' (fun i => a + 1 ≤ i ∧ i ≤ a + 8) ∧ GW σ' a 8 191 m.K 191 (fun t x => m.W (rng first fin) 0 t x)) 3 [some (.ref 48), some (.ref pb), some (.int (nI first)), some (.int (nI fin)), some (.int (nI k)), x5] [] (eN + 114) σ 0 0 := by
  have hK := Md.K_le hm
  obtain ⟨hS1, hab⟩ := hS
  intro j
  induction j with
  | zero =>
    intro k hk σ hs hG x5
    have e : k = m.K := by omega
    subst e
    have hPb := (hs pb (by omega)).trans hP.1
    refine P_iload (q := 5) dX5_begin_3 rfl rfl ?_
    refine P_aload_n (q := 6) dX5_begin_5 rfl rfl ?_
    refine P_get (q := 9) dX5_begin_6 rfl fX5_31 (by omega) (hPb) rfl ?_
    refine P_icmp_ge (q := 12) (tgt := 76) dX5_begin_9 rfl (by first | decide | exact lt_c (by decide)) (fun c_9 => ?_) (fun c_9 => ?_)
    · rw [nI_leI (by omega) (by omega)] at c_9
      refine P_vret dX5_begin_76 rfl ?_
      exact ⟨rfl, hs, hG⟩
    · exfalso; rw [nI_leI (by omega) (by omega)] at c_9; omega
  | succ j ih =>
    intro k hk σ hs hG x5
    have h48 := (hs 48 (by omega)).trans hS1
    have hPσ := hP.congr (τ := σ) (fun i h1 h2 => hs i (by omega))
    have hPb := hPσ.1
    obtain ⟨g, g1, -⟩ := hG.2 k (by omega)
    have hIn := hPσ.2.2.1
    obtain ⟨g0, k1, k2⟩ := hIn.2 0 (by omega)
    have k3 := k2 (by have := hm.1.1; omega) k (by omega)
    have hci : m.ci 0 k ≤ 190 := hm.2.2.2.2.2.2 0 k (by have := hm.1.1; omega) (by omega)
    have fin0 : ∀ g' : Nat → Int32, (∀ x, x < 191 → g' x = nI (m.W (rng first fin) 0 k x)) → ∀ x5 : Option Value, PW mX5_begin 0 0 (fun v σ' => v = none ∧ same σ0 σ' (fun i => a + 1 ≤ i ∧ i ≤ a + 8) ∧ GW σ' a 8 191 m.K 191 (fun t x => m.W (rng first fin) 0 t x)) 3 [some (.ref 48), some (.ref pb), some (.int (nI first)), some (.int (nI fin)), some (.int (nI (k + 1))), x5] [] (eN + 114) (va_up σ (a + 1 + k) (pI .int 191 g')) 0 0 := fun g' hg' x5 =>
      ih (k + 1) (by omega) _ (hs.up (by omega)) (hG.put (fun _ => hg') (fun c _ hc h => ⟨by omega, fun _ _ => rfl⟩)) x5
    refine P_iload (q := 5) dX5_begin_3 rfl rfl ?_
    refine P_aload_n (q := 6) dX5_begin_5 rfl rfl ?_
    refine P_get (q := 9) dX5_begin_6 rfl fX5_31 (by omega) (hPb) rfl ?_
    refine P_icmp_ge (q := 12) (tgt := 76) dX5_begin_9 rfl (by first | decide | exact lt_c (by decide)) (fun c_9 => ?_) (fun c_9 => ?_)
    · exfalso; rw [nI_leI (by omega) (by omega)] at c_9; omega
    · rw [nI_leI (by omega) (by omega)] at c_9
      refine P_aload_n (q := 13) dX5_begin_12 rfl rfl ?_
      refine P_get (q := 16) dX5_begin_13 rfl fX5_11 (by first | decide | exact lt_c (by decide)) (h48) rfl ?_
      refine P_iload (q := 18) dX5_begin_16 rfl rfl ?_
      refine P_qald (q := 19) (j := k) (b := a + 1 + k) 2 (fun _ => rfl) rfl dX5_begin_18 rfl (by omega) (hG.1) (rfl) (by omega) (by first | decide | exact lt_c (by decide)) (grR_at (by omega)) ?_
      refine P_iconst (q := 20) (v := nI 0) dX5_begin_19 rfl (by decide +kernel) ?_
      refine P_cs0 (q := 23) dX5_begin_20 rfl kX5_19 (t_fill (f := g) (nI 0) (by omega) (by first | decide | exact lt_c (by decide)) g1) rfl rfl ⟨by decide, by decide⟩ (Nat.le_of_ble_eq_true rfl) ⟨Nat.le_refl _, Nat.le_refl _⟩ ?_
      refine P_aload_n (q := 24) dX5_begin_23 rfl rfl ?_
      refine P_get (q := 27) dX5_begin_24 rfl fX5_62 (by omega) ((up_ne _ _ (by omega)).trans hPb) rfl ?_
      refine P_iconst (q := 28) (v := nI 0) dX5_begin_27 rfl (by decide +kernel) ?_
      refine P_qald (q := 29) (j := 0) (b := pb + 2 + 1 + 0) 2 (fun _ => rfl) rfl dX5_begin_28 rfl (by omega) ((up_ne _ _ (by omega)).trans hIn.1) (rfl) (by omega) (by first | decide | exact lt_c (by decide)) (grR_at (by omega)) ?_
      refine P_iload (q := 31) dX5_begin_29 rfl rfl ?_
      refine P_iald (q := 32) (j := k) dX5_begin_31 rfl (by omega) ((up_ne _ _ (by omega)).trans k1) (rfl) (by omega) (by first | decide | exact lt_c (by decide)) ?_
      rw [k3]
      refine P_istore (q := 34) (L' := [_, _, _, _, _, _]) dX5_begin_32 rfl (by first | decide | exact lt_c (by decide)) rfl ?_
      refine P_iload (q := 36) dX5_begin_34 rfl rfl ?_
      refine P_iload_n (q := 37) dX5_begin_36 rfl rfl ?_
      refine P_icmp_lt (q := 40) (tgt := 70) dX5_begin_37 rfl (by first | decide | exact lt_c (by decide)) (fun c_37 => ?_) (fun c_37 => ?_)
      · rw [nI_ltI (by omega) (by omega)] at c_37
        refine P_iinc (q := 73) (L' := [_, _, _, _, _, _]) (v := nI (k + 1)) dX5_begin_70 rfl (by first | decide | exact lt_c (by decide)) rfl (nI_1 k) rfl ?_
        refine P_goto (tgt := 3) dX5_begin_73 (by first | decide | exact lt_c (by decide)) ?_
        refine fin0 _ (fun x hx => ?_) _
        first
          | (rw [flV_all hx, Md.W, if_neg]; rintro ⟨q1, -⟩; have := of_decide_eq_true q1; omega)
          | (unfold upd; rw [Md.W]; by_cases hx2 : x = m.ci 0 k
             · rw [if_pos hx2, if_pos ⟨decide_eq_true ⟨by omega, by omega⟩, hx2⟩]
             · rw [if_neg hx2, if_neg (fun q => hx2 q.2), flV_all hx])
      · rw [nI_ltI (by omega) (by omega)] at c_37
        refine P_iload (q := 42) dX5_begin_40 rfl rfl ?_
        refine P_iload_n (q := 43) dX5_begin_42 rfl rfl ?_
        refine P_icmp_ge (q := 46) (tgt := 70) dX5_begin_43 rfl (by first | decide | exact lt_c (by decide)) (fun c_43 => ?_) (fun c_43 => ?_)
        · rw [nI_leI (by omega) (by omega)] at c_43
          refine P_iinc (q := 73) (L' := [_, _, _, _, _, _]) (v := nI (k + 1)) dX5_begin_70 rfl (by first | decide | exact lt_c (by decide)) rfl (nI_1 k) rfl ?_
          refine P_goto (tgt := 3) dX5_begin_73 (by first | decide | exact lt_c (by decide)) ?_
          refine fin0 _ (fun x hx => ?_) _
          first
            | (rw [flV_all hx, Md.W, if_neg]; rintro ⟨q1, -⟩; have := of_decide_eq_true q1; omega)
            | (unfold upd; rw [Md.W]; by_cases hx2 : x = m.ci 0 k
               · rw [if_pos hx2, if_pos ⟨decide_eq_true ⟨by omega, by omega⟩, hx2⟩]
               · rw [if_neg hx2, if_neg (fun q => hx2 q.2), flV_all hx])
        · rw [nI_leI (by omega) (by omega)] at c_43
          refine P_iload (q := 48) dX5_begin_46 rfl rfl ?_
          refine P_aload_n (q := 49) dX5_begin_48 rfl rfl ?_
          refine P_get (q := 52) dX5_begin_49 rfl fX5_11 (by first | decide | exact lt_c (by decide)) ((up_ne _ _ (by omega)).trans h48) rfl ?_
          refine P_iload (q := 54) dX5_begin_52 rfl rfl ?_
          refine P_qald (q := 55) (j := k) (b := a + 1 + k) 2 (fun _ => rfl) rfl dX5_begin_54 rfl (by omega) ((up_ne _ _ (by omega)).trans hG.1) (rfl) (by omega) (by first | decide | exact lt_c (by decide)) (grR_at (by omega)) ?_
          refine P_ilen (q := 56) 0 (fun _ => rfl) dX5_begin_55 rfl (by omega) (up_at _ _ _) ?_
          refine P_icmp_ge (q := 59) (tgt := 70) dX5_begin_56 rfl (by first | decide | exact lt_c (by decide)) (fun c_56 => ?_) (fun c_56 => ?_)
          · exfalso; rw [nI_leI (by omega) (by omega)] at c_56; omega
          · rw [nI_leI (by omega) (by omega)] at c_56
            refine P_aload_n (q := 60) dX5_begin_59 rfl rfl ?_
            refine P_get (q := 63) dX5_begin_60 rfl fX5_11 (by first | decide | exact lt_c (by decide)) ((up_ne _ _ (by omega)).trans h48) rfl ?_
            refine P_iload (q := 65) dX5_begin_63 rfl rfl ?_
            refine P_qald (q := 66) (j := k) (b := a + 1 + k) 2 (fun _ => rfl) rfl dX5_begin_65 rfl (by omega) ((up_ne _ _ (by omega)).trans hG.1) (rfl) (by omega) (by first | decide | exact lt_c (by decide)) (grR_at (by omega)) ?_
            refine P_iload (q := 68) dX5_begin_66 rfl rfl ?_
            refine P_iconst (q := 69) (v := nI 1) dX5_begin_68 rfl (by decide +kernel) ?_
            refine P_iast (q := 70) (j := m.ci 0 k) (σ' := va_up σ (a + 1 + k) (pI .int 191 (upd (flV 191 (nI 0) g 191) (m.ci 0 k) (nI 1)))) dX5_begin_69 rfl (by omega) (up_at _ _ _) (rfl) (by omega) (by first | decide | exact lt_c (by decide)) (rfl) (up_up _ _ _ _) ?_
            refine P_iinc (q := 73) (L' := [_, _, _, _, _, _]) (v := nI (k + 1)) dX5_begin_70 rfl (by first | decide | exact lt_c (by decide)) rfl (nI_1 k) rfl ?_
            refine P_goto (tgt := 3) dX5_begin_73 (by first | decide | exact lt_c (by decide)) ?_
            refine fin0 _ (fun x hx => ?_) _
            first
              | (rw [flV_all hx, Md.W, if_neg]; rintro ⟨q1, -⟩; have := of_decide_eq_true q1; omega)
              | (unfold upd; rw [Md.W]; by_cases hx2 : x = m.ci 0 k
                 · rw [if_pos hx2, if_pos ⟨decide_eq_true ⟨by omega, by omega⟩, hx2⟩]
                 · rw [if_neg hx2, if_neg (fun q => hx2 q.2), flV_all hx])
set_option maxRecDepth 100000 in
set_option maxHeartbeats 4000000 in
theorem t_begin {σ0 : Sto} {a b pb first fin : Nat} {m : Md} (hS : SmS σ0 a b) (hP : PrW σ0 pb m) (hm : m.ok) (hpb : pb = 4 ∨ pb = 26) (hf1 : first < 100) (hf2 : fin < 100) {F : Nat → Nat → Nat} (hG : GW σ0 a 8 191 0 0 F) : CP mX5_begin 0 0 [.ref 48, .ref pb, .int (nI first), .int (nI fin)] (eN + 114) σ0 (fun v σ' => v = none ∧ same σ0 σ' (fun i => a + 1 ≤ i ∧ i ≤ a + 8) ∧ GW σ' a 8 191 m.K 191 (fun t x => m.W (rng first fin) 0 t x)) := by
  refine CP_of (by decide +kernel) (Nat.le_of_ble_eq_true rfl) ?_
  change PW _ _ _ _ 0 [_, _, _, _, _, _] [] _ _ _ _
  refine P_iconst (q := 1) (v := nI 0) dX5_begin_0 rfl (by decide +kernel) ?_
  refine P_istore (q := 3) (L' := [_, _, _, _, _, _]) dX5_begin_1 rfl (by first | decide | exact lt_c (by decide)) rfl ?_
  exact w_begin hS hP hm hpb hf1 hf2 m.K 0 (by omega) σ0 same.rf ⟨hG.1, fun i hi => by obtain ⟨g, h1, -⟩ := hG.2 i hi; exact ⟨g, h1, fun h => by omega⟩⟩ _
/-- the next row so far: the kinds before j of the column ahead -/
def Md.Wj (m : Md) (P : Nat → Bool) (c t j x : Nat) : Nat := sumN j (fun s => if m.cb s t + m.ci (c + 1) t ≤ x then m.W P c s (x - (m.cb s t + m.ci (c + 1) t)) else 0)
theorem Wj_add {m : Md} (hm : m.ok) {P : Nat → Bool} {c t j : Nat} (hc : c + 1 < m.C) (ht : t < m.K) (hj : j < m.K) {f g : Nat → Int32} (hf : ∀ x, x < 191 → f x = nI (m.W P c j x)) (hg : ∀ x, x < 191 → g x = nI (m.Wj P c t j x)) : ∀ x, x < 191 → adV 191 191 (m.rc c) (m.cb j t + m.ci (c + 1) t) f g x = nI (m.Wj P c t (j + 1) x) := by
  intro x hx
  unfold adV Md.Wj
  rw [sumN]
  generalize hs : m.cb j t + m.ci (c + 1) t = s
  have hg' := hg x hx
  unfold Md.Wj at hg'
  by_cases h : s ≤ x
  · rw [if_pos h]
    by_cases h2 : x - s ≤ m.rc c
    · rw [if_pos ⟨h, h2, by omega, hx⟩, hg', hf _ (by omega), nI_add]
    · rw [if_neg (fun q => h2 q.2.1), hg', Md.W_far hm P c j (x - s) (by omega) hj (by omega)]; rfl
  · rw [if_neg (fun q => h q.1), if_neg h, hg']; rfl
set_option maxRecDepth 100000 in
set_option maxHeartbeats 4000000 in
theorem w_col1 {σ0 : Sto} {a b pb c t : Nat} {m : Md} {P : Nat → Bool} (hS : SmS σ0 a b) (hP : PrW σ0 pb m) (hm : m.ok) (hpb : pb = 4 ∨ pb = 26) (hc : c + 1 < m.C) (hN : GW σ0 a 8 191 m.K 191 (fun t x => m.W P c t x)) (ht : t < m.K) {x5 : Option Value} {QQ : Option Value → Sto → Prop}
    (K : ∀ σ, same σ0 σ (fun i => b + 1 ≤ i ∧ i ≤ b + 8) → GW σ b 8 191 (t + 1) 191 (fun t x => m.W P (c + 1) t x) → ∀ x4 x5 : Option Value, PW mX5_addColumn 0 0 QQ 2 [some (.ref 48), some (.ref pb), some (.int (nI (c + 1))), some (.int (nI (t + 1))), x4, x5] [] (eN + 114) σ 0 0) : ∀ n j, j + n = m.K → ∀ σ, same σ0 σ (fun i => b + 1 ≤ i ∧ i ≤ b + 8) → GW σ b 8 191 t 191 (fun t x => m.W P (c + 1) t x) → (∃ g : Nat → Int32, σ (b + 1 + t) = pI .int 191 g ∧ ∀ x, x < 191 → g x = nI (m.Wj P c t j x)) → ∀ x5 : Option Value, PW mX5_addColumn 0 0 QQ 23 [some (.ref 48), some (.ref pb), some (.int (nI (c + 1))), some (.int (nI t)), some (.int (nI j)), x5] [] (eN + 114) σ 0 0 := by
  have hK := Md.K_le hm
  obtain ⟨hS1, hab⟩ := hS
  intro n
  induction n with
  | zero =>
    intro j hj σ hs hG hR x5
    have e : j = m.K := by omega
    subst e
    obtain ⟨g, g1, g2⟩ := hR
    have hPb := (hs pb (by omega)).trans hP.1
    have hG2 : GW σ b 8 191 (t + 1) 191 (fun t x => m.W P (c + 1) t x) := ⟨hG.1, fun i hi => by
      by_cases e : i = t
      · subst e; exact ⟨g, g1, fun _ x hx => g2 x hx⟩
      · obtain ⟨g', h1, h2⟩ := hG.2 i hi
        exact ⟨g', h1, fun h => h2 (by omega)⟩⟩
    refine P_iload (q := 25) dX5_addColumn_23 rfl rfl ?_
    refine P_aload_n (q := 26) dX5_addColumn_25 rfl rfl ?_
    refine P_get (q := 29) dX5_addColumn_26 rfl fX5_31 (by omega) (hPb) rfl ?_
    refine P_icmp_ge (q := 32) (tgt := 84) dX5_addColumn_29 rfl (by first | decide | exact lt_c (by decide)) (fun c_29 => ?_) (fun c_29 => ?_)
    · rw [nI_leI (by omega) (by omega)] at c_29
      refine P_iinc (q := 87) (L' := [_, _, _, _, _, _]) (v := nI (t + 1)) dX5_addColumn_84 rfl (by first | decide | exact lt_c (by decide)) rfl (nI_1 t) rfl ?_
      refine P_goto (tgt := 2) dX5_addColumn_87 (by first | decide | exact lt_c (by decide)) ?_
      exact K σ hs hG2 _ _
    · exfalso; rw [nI_leI (by omega) (by omega)] at c_29; omega
  | succ n ih =>
    intro j hj σ hs hG hR x5
    have hj' : j < m.K := by omega
    obtain ⟨g, g1, g2⟩ := hR
    have h48 := (hs 48 (by omega)).trans hS1
    have hPσ := hP.congr (τ := σ) (fun i h1 h2 => hs i (by omega))
    have hPb := hPσ.1
    have hNσ := hN.congr (τ := σ) (fun i h1 h2 => hs i (by omega))
    obtain ⟨f, f1, f2⟩ := hNσ.2 j (by omega)
    have f3 := f2 hj'
    have hIn := hPσ.2.2.1
    obtain ⟨gi, i1, i2⟩ := hIn.2 (c + 1) (by have := hm.1.2; omega)
    have i3 := i2 hc t ht
    have hBt := hPσ.2.2.2
    obtain ⟨gb, e1, e2⟩ := hBt.2 j (by omega)
    have e3 := e2 hj' t ht
    obtain ⟨gr, r1, r2⟩ := hPσ.2.1
    have r3 := r2 c (by omega)
    have hrc := hm.2.2.2.2.1 c (by omega)
    have hci := hm.2.2.2.2.2.2 (c + 1) t hc ht
    have hcb := hm.2.2.2.2.2.1 j t hj' ht
    have hC := hm.1.2
    have hadd := Wj_add hm hc ht hj' f3 g2
    refine P_iload (q := 25) dX5_addColumn_23 rfl rfl ?_
    refine P_aload_n (q := 26) dX5_addColumn_25 rfl rfl ?_
    refine P_get (q := 29) dX5_addColumn_26 rfl fX5_31 (by omega) (hPb) rfl ?_
    refine P_icmp_ge (q := 32) (tgt := 84) dX5_addColumn_29 rfl (by first | decide | exact lt_c (by decide)) (fun c_29 => ?_) (fun c_29 => ?_)
    · exfalso; rw [nI_leI (by omega) (by omega)] at c_29; omega
    · rw [nI_leI (by omega) (by omega)] at c_29
      refine P_aload_n (q := 33) dX5_addColumn_32 rfl rfl ?_
      refine P_get (q := 36) dX5_addColumn_33 rfl fX5_65 (by omega) (hPb) rfl ?_
      refine P_iload (q := 38) dX5_addColumn_36 rfl rfl ?_
      refine P_qald (q := 39) (j := j) (b := pb + 13 + 1 + j) 2 (fun _ => rfl) rfl dX5_addColumn_38 rfl (by omega) (hBt.1) (rfl) (by omega) (by first | decide | exact lt_c (by decide)) (grR_at (by omega)) ?_
      refine P_iload_n (q := 40) dX5_addColumn_39 rfl rfl ?_
      refine P_iald (q := 41) (j := t) dX5_addColumn_40 rfl (by omega) (e1) (rfl) (by omega) (by first | decide | exact lt_c (by decide)) ?_
      rw [e3]
      refine P_aload_n (q := 42) dX5_addColumn_41 rfl rfl ?_
      refine P_get (q := 45) dX5_addColumn_42 rfl fX5_62 (by omega) (hPb) rfl ?_
      refine P_iload_n (q := 46) dX5_addColumn_45 rfl rfl ?_
      refine P_qald (q := 47) (j := c + 1) (b := pb + 2 + 1 + (c + 1)) 2 (fun _ => rfl) rfl dX5_addColumn_46 rfl (by omega) (hIn.1) (rfl) (by omega) (by first | decide | exact lt_c (by decide)) (grR_at (by omega)) ?_
      refine P_iload_n (q := 48) dX5_addColumn_47 rfl rfl ?_
      refine P_iald (q := 49) (j := t) dX5_addColumn_48 rfl (by omega) (i1) (rfl) (by omega) (by first | decide | exact lt_c (by decide)) ?_
      rw [i3]
      refine P_iadd (q := 50) dX5_addColumn_49 rfl ?_
      rw [nI_add]
      refine P_istore (q := 52) (L' := [_, _, _, _, _, _]) dX5_addColumn_50 rfl (by first | decide | exact lt_c (by decide)) rfl ?_
      refine P_aload_n (q := 53) dX5_addColumn_52 rfl rfl ?_
      refine P_get (q := 56) dX5_addColumn_53 rfl fX5_11 (by first | decide | exact lt_c (by decide)) (h48) rfl ?_
      refine P_iload (q := 58) dX5_addColumn_56 rfl rfl ?_
      refine P_qald (q := 59) (j := j) (b := a + 1 + j) 2 (fun _ => rfl) rfl dX5_addColumn_58 rfl (by omega) (hNσ.1) (rfl) (by omega) (by first | decide | exact lt_c (by decide)) (grR_at (by omega)) ?_
      refine P_aload_n (q := 60) dX5_addColumn_59 rfl rfl ?_
      refine P_get (q := 63) dX5_addColumn_60 rfl fX5_50 (by omega) (hPb) rfl ?_
      refine P_iload_n (q := 64) dX5_addColumn_63 rfl rfl ?_
      refine P_iconst (q := 65) (v := nI 1) dX5_addColumn_64 rfl (by decide +kernel) ?_
      refine P_isub (q := 66) dX5_addColumn_65 rfl ?_
      refine P_iald (q := 67) (j := c) dX5_addColumn_66 rfl (by omega) (r1) (by rw [pk_sub (by omega)]; rfl) (by omega) (by first | decide | exact lt_c (by decide)) ?_
      rw [r3]
      refine P_iload (q := 69) dX5_addColumn_67 rfl rfl ?_
      refine P_aload_n (q := 70) dX5_addColumn_69 rfl rfl ?_
      refine P_get (q := 73) dX5_addColumn_70 rfl fX5_16 (by first | decide | exact lt_c (by decide)) (h48) rfl ?_
      refine P_iload_n (q := 74) dX5_addColumn_73 rfl rfl ?_
      refine P_qald (q := 75) (j := t) (b := b + 1 + t) 2 (fun _ => rfl) rfl dX5_addColumn_74 rfl (by omega) (hG.1) (rfl) (by omega) (by first | decide | exact lt_c (by decide)) (grR_at (by omega)) ?_
      refine P_cs0 (q := 78) dX5_addColumn_75 rfl kX5_58 (t_addShifted (ρ := m.rc c) (s := m.cb j t + m.ci (c + 1) t) (by omega) (by omega) (by omega) f1 (by first | decide | exact lt_c (by decide)) (by first | decide | exact lt_c (by decide)) (by omega) (by omega) g1) rfl rfl ⟨by decide, by decide⟩ (Nat.le_of_ble_eq_true rfl) ⟨Nat.le_refl _, Nat.le_refl _⟩ ?_
      refine P_iinc (q := 81) (L' := [_, _, _, _, _, _]) (v := nI (j + 1)) dX5_addColumn_78 rfl (by first | decide | exact lt_c (by decide)) rfl (nI_1 j) rfl ?_
      refine P_goto (tgt := 23) dX5_addColumn_81 (by first | decide | exact lt_c (by decide)) ?_
      exact ih (j + 1) (by omega) _ (hs.up (by omega)) (hG.keep (Nat.le_refl t)) ⟨_, up_at _ _ _, hadd⟩ _
set_option maxRecDepth 100000 in
set_option maxHeartbeats 4000000 in
theorem w_col0 {σ0 : Sto} {a b pb c : Nat} {m : Md} {P : Nat → Bool} (hS : SmS σ0 a b) (hP : PrW σ0 pb m) (hm : m.ok) (hpb : pb = 4 ∨ pb = 26) (hc : c + 1 < m.C) (hN : GW σ0 a 8 191 m.K 191 (fun t x => m.W P c t x)) : ∀ n t, t + n = m.K → ∀ σ, same σ0 σ (fun i => b + 1 ≤ i ∧ i ≤ b + 8) → GW σ b 8 191 t 191 (fun t x => m.W P (c + 1) t x) → ∀ x4 x5 : Option Value, PW mX5_addColumn 0 0 (fun v σ' => v = none ∧ same σ0 σ' (fun i => 48 ≤ i ∧ i ≤ 66) ∧ SmS σ' b a ∧ GW σ' b 8 191 m.K 191 (fun t x => m.W P (c + 1) t x) ∧ GW σ' a 8 191 0 0 (fun _ _ => 0)) 2 [some (.ref 48), some (.ref pb), some (.int (nI (c + 1))), some (.int (nI t)), x4, x5] [] (eN + 114) σ 0 0 := by
  have hK := Md.K_le hm
  obtain ⟨hS1, hab⟩ := id hS
  intro n
  induction n with
  | zero =>
    intro t ht σ hs hG x4 x5
    have e : t = m.K := by omega
    subst e
    have h48 := (hs 48 (by omega)).trans hS1
    have hPb := (hs pb (by omega)).trans hP.1
    refine P_iload_n (q := 3) dX5_addColumn_2 rfl rfl ?_
    refine P_aload_n (q := 4) dX5_addColumn_3 rfl rfl ?_
    refine P_get (q := 7) dX5_addColumn_4 rfl fX5_31 (by omega) (hPb) rfl ?_
    refine P_icmp_ge (q := 10) (tgt := 90) dX5_addColumn_7 rfl (by first | decide | exact lt_c (by decide)) (fun c_7 => ?_) (fun c_7 => ?_)
    · rw [nI_leI (by omega) (by omega)] at c_7
      refine P_aload_n (q := 91) dX5_addColumn_90 rfl rfl ?_
      refine P_get (q := 94) dX5_addColumn_91 rfl fX5_11 (by first | decide | exact lt_c (by decide)) (h48) rfl ?_
      refine P_astore_n (q := 95) (L' := [_, _, _, _, _, _]) dX5_addColumn_94 rfl (by first | decide | exact lt_c (by decide)) rfl ?_
      refine P_aload_n (q := 96) dX5_addColumn_95 rfl rfl ?_
      refine P_aload_n (q := 97) dX5_addColumn_96 rfl rfl ?_
      refine P_get (q := 100) dX5_addColumn_97 rfl fX5_16 (by first | decide | exact lt_c (by decide)) (h48) rfl ?_
      refine P_put (q := 103) (fs' := [_, _]) dX5_addColumn_100 rfl gX5_11 (by first | decide | exact lt_c (by decide)) (h48) (fun _ => rfl) (fun _ => rfl) (Nat.le_of_ble_eq_true rfl) rfl (rfl) ?_
      refine P_aload_n (q := 104) dX5_addColumn_103 rfl rfl ?_
      refine P_aload_n (q := 105) dX5_addColumn_104 rfl rfl ?_
      refine P_put (q := 108) (fs' := [_, _]) dX5_addColumn_105 rfl gX5_16 (by first | decide | exact lt_c (by decide)) (up_at _ _ _) (fun _ => rfl) (fun _ => rfl) (Nat.le_of_ble_eq_true rfl) rfl (up_up _ _ _ _) ?_
      refine P_vret dX5_addColumn_108 rfl ?_
      refine ⟨rfl, fun i hi => (up_ne _ _ (by omega)).trans (hs i (by omega)), ⟨up_at _ _ _, by omega⟩, hG.congr (fun i h1 h2 => up_ne _ _ (by omega)), ?_⟩
      exact (hN.congr (fun i h1 h2 => (up_ne _ _ (by omega)).trans (hs i (by omega)))).less (Nat.zero_le _) (Nat.zero_le _) (fun i j h1 h2 => by omega)
    · exfalso; rw [nI_leI (by omega) (by omega)] at c_7; omega
  | succ n ih =>
    intro t ht σ hs hG x4 x5
    have h48 := (hs 48 (by omega)).trans hS1
    have hPb := (hs pb (by omega)).trans hP.1
    obtain ⟨g, g1, -⟩ := hG.2 t (by omega)
    refine P_iload_n (q := 3) dX5_addColumn_2 rfl rfl ?_
    refine P_aload_n (q := 4) dX5_addColumn_3 rfl rfl ?_
    refine P_get (q := 7) dX5_addColumn_4 rfl fX5_31 (by omega) (hPb) rfl ?_
    refine P_icmp_ge (q := 10) (tgt := 90) dX5_addColumn_7 rfl (by first | decide | exact lt_c (by decide)) (fun c_7 => ?_) (fun c_7 => ?_)
    · exfalso; rw [nI_leI (by omega) (by omega)] at c_7; omega
    · rw [nI_leI (by omega) (by omega)] at c_7
      refine P_aload_n (q := 11) dX5_addColumn_10 rfl rfl ?_
      refine P_get (q := 14) dX5_addColumn_11 rfl fX5_16 (by first | decide | exact lt_c (by decide)) (h48) rfl ?_
      refine P_iload_n (q := 15) dX5_addColumn_14 rfl rfl ?_
      refine P_qald (q := 16) (j := t) (b := b + 1 + t) 2 (fun _ => rfl) rfl dX5_addColumn_15 rfl (by omega) (hG.1) (rfl) (by omega) (by first | decide | exact lt_c (by decide)) (grR_at (by omega)) ?_
      refine P_iconst (q := 17) (v := nI 0) dX5_addColumn_16 rfl (by decide +kernel) ?_
      refine P_cs0 (q := 20) dX5_addColumn_17 rfl kX5_19 (t_fill (f := g) (nI 0) (by omega) (by first | decide | exact lt_c (by decide)) g1) rfl rfl ⟨by decide, by decide⟩ (Nat.le_of_ble_eq_true rfl) ⟨Nat.le_refl _, Nat.le_refl _⟩ ?_
      refine P_iconst (q := 21) (v := nI 0) dX5_addColumn_20 rfl (by decide +kernel) ?_
      refine P_istore (q := 23) (L' := [_, _, _, _, _, _]) dX5_addColumn_21 rfl (by first | decide | exact lt_c (by decide)) rfl ?_
      exact w_col1 hS hP hm hpb hc hN (by omega) (x5 := none) (fun σ h1 h2 x4 x5 => ih (t + 1) (by omega) σ h1 h2 x4 x5) m.K 0 (by omega) _ (hs.up (by omega)) (hG.keep (Nat.le_refl t)) ⟨_, up_at _ _ _, fun x hx => by rw [flV_all hx]; rfl⟩ _
set_option maxRecDepth 100000 in
set_option maxHeartbeats 4000000 in
theorem t_addColumn {σ0 : Sto} {a b pb c : Nat} {m : Md} {P : Nat → Bool} (hS : SmS σ0 a b) (hP : PrW σ0 pb m) (hm : m.ok) (hpb : pb = 4 ∨ pb = 26) (hc : c + 1 < m.C) (hN : GW σ0 a 8 191 m.K 191 (fun t x => m.W P c t x)) {F : Nat → Nat → Nat} (hB : GW σ0 b 8 191 0 0 F) : CP mX5_addColumn 0 0 [.ref 48, .ref pb, .int (nI (c + 1))] (eN + 114) σ0 (fun v σ' => v = none ∧ same σ0 σ' (fun i => 48 ≤ i ∧ i ≤ 66) ∧ SmS σ' b a ∧ GW σ' b 8 191 m.K 191 (fun t x => m.W P (c + 1) t x) ∧ GW σ' a 8 191 0 0 (fun _ _ => 0)) := by
  refine CP_of (by decide +kernel) (Nat.le_of_ble_eq_true rfl) ?_
  change PW _ _ _ _ 0 [_, _, _, _, _, _] [] _ _ _ _
  refine P_iconst (q := 1) (v := nI 0) dX5_addColumn_0 rfl (by decide +kernel) ?_
  refine P_istore_n (q := 2) (L' := [_, _, _, _, _, _]) dX5_addColumn_1 rfl (by first | decide | exact lt_c (by decide)) rfl ?_
  exact w_col0 hS hP hm hpb hc hN m.K 0 (by omega) σ0 same.rf ⟨hB.1, fun i hi => by obtain ⟨g, h1, -⟩ := hB.2 i hi; exact ⟨g, h1, fun h => by omega⟩⟩ _ _
