variable {eN : Nat}
/-! ALL STRIPS: what is kept, the least and the greatest cost -/
theorem sumN_one (f : Nat) : ∀ n, sumN n (fun t => if rng f (f + 1) t = true then 1 else 0) ≤ (if f < n then 1 else 0)
  | 0 => Nat.zero_le _
  | n + 1 => by
    have h := sumN_one f n
    rw [sumN]
    by_cases e : f = n
    · subst e
      rw [if_neg (Nat.lt_irrefl f)] at h
      rw [if_pos (show rng f (f + 1) f = true from decide_eq_true ⟨Nat.le_refl _, Nat.lt_succ_self _⟩), if_pos (Nat.lt_succ_self f)]
      omega
    · rw [if_neg (fun q => e (by have := of_decide_eq_true q; omega))]
      by_cases h2 : f < n
      · rw [if_pos h2] at h; rw [if_pos (by omega)]; omega
      · rw [if_neg h2] at h; rw [if_neg (by omega)]; omega
theorem W_sum (m : Md) (P : Nat → Bool) : ∀ c, ∃ b : Nat → Nat, (∀ t x, m.W P c t x ≤ b t) ∧ sumN m.K b ≤ m.K ^ c * sumN m.K (fun t => if P t = true then 1 else 0)
  | 0 => ⟨fun t => if P t = true then 1 else 0, fun t x => by
      rw [Md.W]
      by_cases h : P t = true
      · rw [show (fun t => if P t = true then 1 else 0) t = 1 from if_pos h]; split <;> omega
      · rw [if_neg (fun q => h q.1)]; exact Nat.zero_le _, by rw [Nat.pow_zero, Nat.one_mul]; exact Nat.le_refl _⟩
  | c + 1 => by
    obtain ⟨b, h1, h2⟩ := W_sum m P c
    refine ⟨fun _ => sumN m.K b, fun t x => ?_, ?_⟩
    · rw [Md.W]
      refine sumN_le fun s _ => ?_
      split
      · exact h1 _ _
      · exact Nat.zero_le _
    · rw [sumN_const, Nat.pow_succ, Nat.mul_comm _ m.K, Nat.mul_assoc]
      exact Nat.mul_le_mul_left _ h2
theorem fn_le (m : Md) (P : Nat → Bool) (f x : Nat) : m.fn P f m.K x ≤ m.K ^ (m.C - 1) * sumN m.K (fun t => if P t = true then 1 else 0) := by
  obtain ⟨b, h1, h2⟩ := W_sum m P (m.C - 1)
  refine Nat.le_trans (sumN_le (g := b) fun k _ => ?_) h2
  split
  · exact h1 _ _
  · exact Nat.zero_le _
theorem cnt_le {m : Md} (hm : m.ok) (x : Nat) : m.cnt x ≤ 2 ^ 30 := by
  have hK := Md.K_le hm
  have hC := hm.1
  have e : m.K ^ (m.C - 1) * m.K ≤ 2 ^ 30 := by
    rw [← Nat.pow_succ, show (m.C - 1).succ = m.C by omega]
    refine Nat.le_trans (Nat.pow_le_pow_left hK.2 _) (Nat.le_trans (Nat.pow_le_pow_right (by first | decide | exact lt_c (by decide)) hC.2) (by first | decide | exact lt_c (by decide)))
  refine Nat.le_trans ?_ e
  unfold Md.cnt
  split
  · refine Nat.le_trans (sumN_le (g := fun _ => m.K ^ (m.C - 1)) fun f hf => ?_) (by rw [sumN_const, Nat.mul_comm]; exact Nat.le_refl _)
    refine Nat.le_trans (fn_le m _ f x) ?_
    have h := sumN_one f m.K
    rw [if_pos hf] at h
    exact Nat.le_trans (Nat.mul_le_mul_left _ h) (by rw [Nat.mul_one]; exact Nat.le_refl _)
  · refine Nat.le_trans (fn_le m _ 0 x) (Nat.mul_le_mul_left _ ?_)
    refine Nat.le_trans (sumN_le (g := fun _ => 1) fun t _ => ?_) (by rw [sumN_const, Nat.mul_one]; exact Nat.le_refl _)
    split <;> omega
/-- the last place at which P holds -/
def hiA (P : Nat → Bool) : Nat → Nat
  | 0 => 0
  | n + 1 => if P (n + 1) = true then n + 1 else hiA P n
def Md.nz (m : Md) (x : Nat) : Bool := decide (m.cnt x ≠ 0)
def Md.lo (m : Md) : Nat := fsA m.nz 190 0
def Md.hi (m : Md) : Nat := hiA m.nz 190
theorem fsA_le (P : Nat → Bool) : ∀ n i, fsA P n i ≤ i + n
  | 0, i => Nat.le_refl _
  | n + 1, i => by
    rw [fsA]
    split
    · omega
    · have := fsA_le P n (i + 1); omega
theorem hiA_le (P : Nat → Bool) : ∀ n, hiA P n ≤ n
  | 0 => Nat.le_refl _
  | n + 1 => by
    rw [hiA]
    split
    · exact Nat.le_refl _
    · have := hiA_le P n; omega
def asO (lc gc : Nat) (k1 k2 k3 : Bool) : PC := pO 0 [.ref 4, .ref 26, .ref 48, .ref 67, .ref 97, .ref 98, .ref 99, .int (nI lc), .int (nI gc), .int (bI k1), .int (bI k2), .int (bI k3)]
/-- what AllStrips keeps is right for A -/
def AK (σ : Sto) (A : St) (lc gc : Nat) (k1 k2 k3 : Bool) : Prop := σ 3 = asO lc gc k1 k2 k3 ∧ PrS σ 4 ∧ PrS σ 26 ∧ SmW σ ∧ LsW σ ∧ GP σ 68 10 8 (fun _ _ => False) zz2
  ∧ (∃ g : Nat → Int32, σ 97 = pI .int 191 g ∧ (k1 = true → PrW σ 4 (A.md false) ∧ lc = (A.md false).lo ∧ gc = (A.md false).hi ∧ ∀ x, x < 191 → g x = nI ((A.md false).cnt x)))
  ∧ (∃ g : Nat → Int32, σ 98 = pI .int 191 g ∧ (k2 = true → ∀ x, x < 191 → g x = nI ((A.md true).cnt x)))
  ∧ ∃ g : Nat → Int32, σ 99 = pI .int 31 g ∧ (k3 = true → ∀ x, x < 31 → g x = nI ((A.md false).mu x))
def AW (σ : Sto) (A : St) : Prop := ∃ lc gc k1 k2 k3, AK σ A lc gc k1 k2 k3
theorem SmW.congr {σ τ : Sto} (h : SmW σ) (he : ∀ k, 48 ≤ k → k ≤ 66 → τ k = σ k) : SmW τ := by
  obtain ⟨a, b, ⟨h1, h2⟩, h3, h4⟩ := h
  exact ⟨a, b, ⟨(he 48 (by omega) (by omega)).trans h1, h2⟩, h3.congr (fun k c d => he k (by omega) (by omega)), h4.congr (fun k c d => he k (by omega) (by omega))⟩
theorem AK.congr {σ τ : Sto} {A : St} {lc gc : Nat} {k1 k2 k3 : Bool} (h : AK σ A lc gc k1 k2 k3) (he : ∀ k, 3 ≤ k → k ≤ 99 → τ k = σ k) : AK τ A lc gc k1 k2 k3 := by
  obtain ⟨h1, h2, h3, h4, h5, h6, ⟨g7, h7, h7'⟩, ⟨g8, h8, h8'⟩, ⟨g9, h9, h9'⟩⟩ := h
  exact ⟨(he 3 (by omega) (by omega)).trans h1, h2.congr (fun k a b => he k (by omega) (by omega)), h3.congr (fun k a b => he k (by omega) (by omega)), h4.congr (fun k a b => he k (by omega) (by omega)), h5.congr (fun k a => he k (by omega) (by omega)), h6.congr (fun k a b => he k (by omega) (by omega)), ⟨g7, (he _ (by omega) (by omega)).trans h7, fun q => ⟨(h7' q).1.congr (fun k a b => he k (by omega) (by omega)), (h7' q).2⟩⟩, ⟨g8, (he _ (by omega) (by omega)).trans h8, h8'⟩, ⟨g9, (he _ (by omega) (by omega)).trans h9, h9'⟩⟩
theorem AW.congr {σ τ : Sto} {A : St} (h : AW σ A) (he : ∀ k, 3 ≤ k → k ≤ 99 → τ k = σ k) : AW τ A := by
  obtain ⟨a, b, c, d, e, h⟩ := h
  exact ⟨a, b, c, d, e, h.congr he⟩
/-- only the model of costs is of interest -/
theorem AW.md {σ : Sto} {A B : St} (h : AW σ A) (e : ∀ w, B.md w = A.md w) : AW σ B := by
  obtain ⟨a, b, c, d, f, h⟩ := h
  refine ⟨a, b, c, d, f, ?_⟩
  unfold AK at h ⊢
  rw [e, e]
  exact h
theorem St.wr_b {A : St} (hA : A.ok) (w : Bool) : (A.md w).wr ≤ 196 := by
  show (if A.lp then A.reach w A.C + A.R * (A.wl w).natAbs else A.reach w A.C) ≤ 196
  have h1 := A.reach_le hA w A.C
  have h2 := hA.1.2
  have h3 := hA.2.1.2
  have h4 := A.wl_in hA w
  have h5 := mul_le6 h3 (show (A.wl w).natAbs ≤ 2 by omega)
  split <;> omega
set_option maxRecDepth 100000 in
set_option maxHeartbeats 4000000 in
theorem t_forget {σ : Sto} {A B : St} (h : AW σ A) : CP mX0_forget 0 0 [.ref 3] (eN + 114) σ (fun v σ' => v = none ∧ same σ σ' (fun i => i = 3) ∧ AW σ' B) := by
  obtain ⟨lc, gc, k1, k2, k3, h1, h2, h3, h4, h5, h6, ⟨g7, h7, -⟩, ⟨g8, h8, -⟩, ⟨g9, h9, -⟩⟩ := h
  refine CP_of (by decide +kernel) (Nat.le_of_ble_eq_true rfl) ?_
  change PW _ _ _ _ 0 [_] [] _ _ _ _
  refine P_aload_n (q := 1) dX0_forget_0 rfl rfl ?_
  refine P_iconst (q := 2) (v := nI 0) dX0_forget_1 rfl (by decide +kernel) ?_
  refine P_put (q := 5) (fs' := [_, _, _, _, _, _, _, _, _, .int (bI false), _, _]) dX0_forget_2 rfl gX0_52 (by first | decide | exact lt_c (by decide)) (h1) (fun _ => rfl) (fun _ => rfl) (Nat.le_of_ble_eq_true rfl) rfl (rfl) ?_
  refine P_aload_n (q := 6) dX0_forget_5 rfl rfl ?_
  refine P_iconst (q := 7) (v := nI 0) dX0_forget_6 rfl (by decide +kernel) ?_
  refine P_put (q := 10) (fs' := [_, _, _, _, _, _, _, _, _, _, .int (bI false), _]) dX0_forget_7 rfl gX0_56 (by first | decide | exact lt_c (by decide)) (up_at _ _ _) (fun _ => rfl) (fun _ => rfl) (Nat.le_of_ble_eq_true rfl) rfl (up_up _ _ _ _) ?_
  refine P_aload_n (q := 11) dX0_forget_10 rfl rfl ?_
  refine P_iconst (q := 12) (v := nI 0) dX0_forget_11 rfl (by decide +kernel) ?_
  refine P_put (q := 15) (fs' := [_, _, _, _, _, _, _, _, _, _, _, .int (bI false)]) dX0_forget_12 rfl gX0_59 (by first | decide | exact lt_c (by decide)) (up_at _ _ _) (fun _ => rfl) (fun _ => rfl) (Nat.le_of_ble_eq_true rfl) rfl (up_up _ _ _ _) ?_
  refine P_vret dX0_forget_15 rfl ?_
  refine ⟨rfl, same.rf.up rfl, lc, gc, false, false, false, up_at _ _ _, h2.congr (fun k a b => up_ne _ _ (by omega)), h3.congr (fun k a b => up_ne _ _ (by omega)), h4.congr (fun k a b => up_ne _ _ (by omega)), h5.congr (fun k a => up_ne _ _ (by omega)), h6.congr (fun k a b => up_ne _ _ (by omega)), ⟨g7, (up_ne _ _ (by omega)).trans h7, ?_⟩, ⟨g8, (up_ne _ _ (by omega)).trans h8, ?_⟩, ⟨g9, (up_ne _ _ (by omega)).trans h9, ?_⟩⟩ <;> (intro q; exact absurd q (by first | decide | exact lt_c (by decide)))
theorem iI_mod (w : Int) : iI w = nI (w % 4294967296).toNat := by
  rw [iI_nI, Int.toNat_of_nonneg (Int.emod_nonneg _ (by first | decide | exact lt_c (by decide)))]
  apply Int32.toBitVec_inj.mp
  apply BitVec.eq_of_toInt_eq
  show (BitVec.ofInt 32 w).toInt = (BitVec.ofInt 32 _).toInt
  rw [BitVec.toInt_ofInt, BitVec.toInt_ofInt]
  exact (Int.emod_bmod (x := w) (n := 2 ^ 32)).symm
theorem iI_odd (w : Int) : iI w &&& nI 1 = nI (w % 2).toNat := by
  rw [iI_mod, nI_and, Nat.and_one_is_mod]
  congr 1
  omega
theorem div2 : ∀ a, a < 400 → nI a / nI 2 = nI (a / 2) := by decide +kernel
def atV (N : Nat) (g : Nat → Int32) (z : Int) : Int32 := if 0 ≤ z ∧ z < N then g z.toNat else 0
/-- how many have an energy, by how many have a cost -/
def Md.me (m : Md) (z : Int) : Nat := if (z + m.wr) % 2 = 0 ∧ -(m.wr : Int) ≤ z ∧ z ≤ m.wr ∧ (z + m.wr).toNat / 2 < 191 then m.cnt ((z + m.wr).toNat / 2) else 0
set_option maxRecDepth 100000 in
set_option maxHeartbeats 4000000 in
theorem t_at {σ : Sto} {a N : Nat} {g : Nat → Int32} (ha : a < eN + 114) (hN : N < 1000) (h : σ a = pI .int N g) {z : Int} (h1 : -2147483648 ≤ z) (h2 : z < 2147483648) : CD mX0_at [.ref a, .int (iI z)] (eN + 114) σ (some (.int (atV N g z))) σ := by
  refine CP_of (by decide +kernel) (Nat.le_of_ble_eq_true rfl) ?_
  change PW _ _ _ _ 0 [_, _] [] _ _ _ _
  refine P_iload_n (q := 1) dX0_at_0 rfl rfl ?_
  refine P_if_lt (q := 4) (tgt := 16) dX0_at_1 rfl (by first | decide | exact lt_c (by decide)) (fun c_1 => ?_) (fun c_1 => ?_)
  · change iI z < iI 0 at c_1; rw [iI_lt (by omega) (by omega) (by omega) (by omega)] at c_1
    refine P_iconst (q := 17) (v := nI 0) dX0_at_16 rfl (by decide +kernel) ?_
    refine P_iret dX0_at_17 rfl (rfl) ?_
    exact ⟨rv_i (by unfold atV; first | (rw [if_pos ⟨by omega, by omega⟩]; done) | (rw [if_neg (by omega)]; rfl)), rfl⟩
  · change ¬ iI z < iI 0 at c_1; rw [iI_lt (by omega) (by omega) (by omega) (by omega)] at c_1
    refine P_iload_n (q := 5) dX0_at_4 rfl rfl ?_
    refine P_aload_n (q := 6) dX0_at_5 rfl rfl ?_
    refine P_ilen (q := 7) 0 (fun _ => rfl) dX0_at_6 rfl (by omega) (h) ?_
    refine P_icmp_ge (q := 10) (tgt := 16) dX0_at_7 rfl (by first | decide | exact lt_c (by decide)) (fun c_7 => ?_) (fun c_7 => ?_)
    · rw [iI_nI N, iI_le (by omega) (by omega) (by omega) (by omega)] at c_7
      refine P_iconst (q := 17) (v := nI 0) dX0_at_16 rfl (by decide +kernel) ?_
      refine P_iret dX0_at_17 rfl (rfl) ?_
      exact ⟨rv_i (by unfold atV; first | (rw [if_pos ⟨by omega, by omega⟩]; done) | (rw [if_neg (by omega)]; rfl)), rfl⟩
    · rw [iI_nI N, iI_le (by omega) (by omega) (by omega) (by omega)] at c_7
      refine P_aload_n (q := 11) dX0_at_10 rfl rfl ?_
      refine P_iload_n (q := 12) dX0_at_11 rfl rfl ?_
      refine P_iald (q := 13) (j := z.toNat) dX0_at_12 rfl (by omega) (h) (by rw [iI_nI]; congr 1; omega) (by omega) (by omega) ?_
      refine P_goto (tgt := 17) dX0_at_13 (by first | decide | exact lt_c (by decide)) ?_
      refine P_iret dX0_at_17 rfl (rfl) ?_
      exact ⟨rv_i (by unfold atV; first | (rw [if_pos ⟨by omega, by omega⟩]; done) | (rw [if_neg (by omega)]; rfl)), rfl⟩
set_option maxRecDepth 100000 in
set_option maxHeartbeats 4000000 in
theorem t_eo {σ : Sto} {lc gc j : Nat} {k1 k2 k3 : Bool} {m : Md} (h3 : σ 3 = asO lc gc k1 k2 k3) (h4 : σ 4 = prO m 4) : CD mX0_energyOf [.ref 3, .int (nI j)] (eN + 114) σ (some (.int (iI (2 * j - m.wr)))) σ := by
  refine CP_of (by decide +kernel) (Nat.le_of_ble_eq_true rfl) ?_
  change PW _ _ _ _ 0 [_, _] [] _ _ _ _
  refine P_iconst (q := 1) (v := nI 2) dX0_energyOf_0 rfl (by decide +kernel) ?_
  refine P_iload_n (q := 2) dX0_energyOf_1 rfl rfl ?_
  refine P_imul (q := 3) dX0_energyOf_2 rfl ?_
  refine P_aload_n (q := 4) dX0_energyOf_3 rfl rfl ?_
  refine P_get (q := 7) dX0_energyOf_4 rfl fX0_12 (by first | decide | exact lt_c (by decide)) (h3) rfl ?_
  refine P_get (q := 10) dX0_energyOf_7 rfl fX0_100 (by first | decide | exact lt_c (by decide)) (h4) rfl ?_
  refine P_isub (q := 11) dX0_energyOf_10 rfl ?_
  refine P_iret dX0_energyOf_11 rfl (rfl) ?_
  exact ⟨rv_i (by rw [iI_nI, iI_nI, iI_nI, iI_mul, iI_sub]; rfl), rfl⟩
theorem me_at {m : Md} {g : Nat → Int32} {z : Int} (hg : ∀ x, x < 191 → g x = nI (m.cnt x)) (h1 : (z + m.wr) % 2 = 0) (h2 : -(m.wr : Int) ≤ z) (h3 : z ≤ m.wr) : atV 191 g (((z + m.wr).toNat / 2 : Nat) : Int) = nI (if (z + m.wr) % 2 = 0 ∧ -(m.wr : Int) ≤ z ∧ z ≤ m.wr ∧ (z + m.wr).toNat / 2 < 191 then m.cnt ((z + m.wr).toNat / 2) else 0) := by
  unfold atV
  by_cases e : (z + m.wr).toNat / 2 < 191
  · rw [if_pos ⟨by omega, by omega⟩, if_pos ⟨h1, h2, h3, e⟩]
    exact hg _ e
  · rw [if_neg (fun q => e (by omega)), if_neg (fun q => e q.2.2.2)]; rfl
set_option maxRecDepth 100000 in
set_option maxHeartbeats 4000000 in
theorem t_mae {σ : Sto} {lc gc : Nat} {k1 k2 k3 : Bool} {m : Md} {g : Nat → Int32} (hw : m.wr ≤ 196) (h3 : σ 3 = asO lc gc k1 k2 k3) (h4 : σ 4 = prO m 4) (h97 : σ 97 = pI .int 191 g) (hg : ∀ x, x < 191 → g x = nI (m.cnt x)) {z : Int} (h1 : -2147483648 ≤ z) (h2 : z < 2147483648) : CD mX0_manyAtEnergy [.ref 3, .int (iI z)] (eN + 114) σ (some (.int (nI (m.me z)))) σ := by
  have hz2 := Int.emod_nonneg (z + m.wr) (show (2 : Int) ≠ 0 by decide)
  have hz3 := Int.emod_lt_of_pos (z + m.wr) (show (0 : Int) < 2 by decide)
  refine CP_of (by decide +kernel) (Nat.le_of_ble_eq_true rfl) ?_
  change PW _ _ _ _ 0 [_, _, _, _] [] _ _ _ _
  refine P_aload_n (q := 1) dX0_manyAtEnergy_0 rfl rfl ?_
  refine P_get (q := 4) dX0_manyAtEnergy_1 rfl fX0_12 (by first | decide | exact lt_c (by decide)) (h3) rfl ?_
  refine P_get (q := 7) dX0_manyAtEnergy_4 rfl fX0_100 (by first | decide | exact lt_c (by decide)) (h4) rfl ?_
  refine P_istore_n (q := 8) (L' := [_, _, _, _]) dX0_manyAtEnergy_7 rfl (by first | decide | exact lt_c (by decide)) rfl ?_
  refine P_iload_n (q := 9) dX0_manyAtEnergy_8 rfl rfl ?_
  refine P_iload_n (q := 10) dX0_manyAtEnergy_9 rfl rfl ?_
  refine P_iadd (q := 11) dX0_manyAtEnergy_10 rfl ?_
  refine P_iconst (q := 12) (v := nI 1) dX0_manyAtEnergy_11 rfl (by decide +kernel) ?_
  refine P_iand (q := 13) dX0_manyAtEnergy_12 rfl ?_
  refine P_iconst (q := 14) (v := nI 1) dX0_manyAtEnergy_13 rfl (by decide +kernel) ?_
  rw [show iI z + nI m.wr = iI (z + m.wr) from by rw [iI_nI, iI_add], iI_odd]
  refine P_icmp_ne (q := 17) (tgt := 21) dX0_manyAtEnergy_14 rfl (by first | decide | exact lt_c (by decide)) (fun c_14 => ?_) (fun c_14 => ?_)
  · rw [nI_eq (by omega) (by omega)] at c_14
    refine P_iconst (q := 22) (v := nI 0) dX0_manyAtEnergy_21 rfl (by decide +kernel) ?_
    refine P_istore_n (q := 23) (L' := [_, _, _, _]) dX0_manyAtEnergy_22 rfl (by first | decide | exact lt_c (by decide)) rfl ?_
    refine P_iload_n (q := 24) dX0_manyAtEnergy_23 rfl rfl ?_
    refine P_if_ne (q := 27) (tgt := 38) dX0_manyAtEnergy_24 rfl (by first | decide | exact lt_c (by decide)) (fun c_24 => ?_) (fun c_24 => ?_)
    · exact absurd rfl c_24
    · refine P_iload_n (q := 28) dX0_manyAtEnergy_27 rfl rfl ?_
      refine P_iload_n (q := 29) dX0_manyAtEnergy_28 rfl rfl ?_
      refine P_ineg (q := 30) dX0_manyAtEnergy_29 rfl ?_
      refine P_icmp_lt (q := 33) (tgt := 38) dX0_manyAtEnergy_30 rfl (by first | decide | exact lt_c (by decide)) (fun c_30 => ?_) (fun c_30 => ?_)
      · rw [iI_nI, iI_neg, iI_lt (by omega) (by omega) (by omega) (by omega)] at c_30
        refine P_iconst (q := 39) (v := nI 0) dX0_manyAtEnergy_38 rfl (by decide +kernel) ?_
        refine P_iret dX0_manyAtEnergy_39 rfl (rfl) ?_
        exact ⟨rv_i (by unfold Md.me; first | (rw [if_neg (by omega)]; done) | exact me_at (z := z) hg (by omega) (by omega) (by omega)), rfl⟩
      · rw [iI_nI, iI_neg, iI_lt (by omega) (by omega) (by omega) (by omega)] at c_30
        refine P_iload_n (q := 34) dX0_manyAtEnergy_33 rfl rfl ?_
        refine P_iload_n (q := 35) dX0_manyAtEnergy_34 rfl rfl ?_
        refine P_icmp_le (q := 38) (tgt := 40) dX0_manyAtEnergy_35 rfl (by first | decide | exact lt_c (by decide)) (fun c_35 => ?_) (fun c_35 => ?_)
        · rw [iI_nI, iI_le (by omega) (by omega) (by omega) (by omega)] at c_35
          refine P_aload_n (q := 41) dX0_manyAtEnergy_40 rfl rfl ?_
          refine P_get (q := 44) dX0_manyAtEnergy_41 rfl fX0_35 (by first | decide | exact lt_c (by decide)) (h3) rfl ?_
          refine P_iload_n (q := 45) dX0_manyAtEnergy_44 rfl rfl ?_
          refine P_iload_n (q := 46) dX0_manyAtEnergy_45 rfl rfl ?_
          refine P_iadd (q := 47) dX0_manyAtEnergy_46 rfl ?_
          refine P_iconst (q := 48) (v := nI 2) dX0_manyAtEnergy_47 rfl (by decide +kernel) ?_
          have hq : (z + m.wr).toNat < 400 := by omega
          rw [show iI z + nI m.wr = nI (z + m.wr).toNat from by rw [iI_nI, iI_nI, iI_add]; congr 1; omega]
          refine P_idiv (q := 49) dX0_manyAtEnergy_48 rfl (by first | decide | exact lt_c (by decide)) ?_
          rw [div2 _ hq, iI_nI ((z + m.wr).toNat / 2)]
          refine P_cs1 (q := 52) dX0_manyAtEnergy_49 rfl kX0_78 (t_at (by first | decide | exact lt_c (by decide)) (by first | decide | exact lt_c (by decide)) h97 (by omega) (by omega)) rfl rfl ⟨by decide, by decide⟩ (Nat.le_of_ble_eq_true rfl) ⟨Nat.le_refl _, Nat.le_refl _⟩ ?_
          refine P_iret dX0_manyAtEnergy_52 rfl (rfl) ?_
          exact ⟨rv_i (by unfold Md.me; first | (rw [if_neg (by omega)]; done) | exact me_at (z := z) hg (by omega) (by omega) (by omega)), rfl⟩
        · rw [iI_nI, iI_le (by omega) (by omega) (by omega) (by omega)] at c_35
          refine P_iconst (q := 39) (v := nI 0) dX0_manyAtEnergy_38 rfl (by decide +kernel) ?_
          refine P_iret dX0_manyAtEnergy_39 rfl (rfl) ?_
          exact ⟨rv_i (by unfold Md.me; first | (rw [if_neg (by omega)]; done) | exact me_at (z := z) hg (by omega) (by omega) (by omega)), rfl⟩
  · rw [nI_eq (by omega) (by omega)] at c_14
    refine P_iconst (q := 18) (v := nI 1) dX0_manyAtEnergy_17 rfl (by decide +kernel) ?_
    refine P_goto (tgt := 22) dX0_manyAtEnergy_18 (by first | decide | exact lt_c (by decide)) ?_
    refine P_istore_n (q := 23) (L' := [_, _, _, _]) dX0_manyAtEnergy_22 rfl (by first | decide | exact lt_c (by decide)) rfl ?_
    refine P_iload_n (q := 24) dX0_manyAtEnergy_23 rfl rfl ?_
    refine P_if_ne (q := 27) (tgt := 38) dX0_manyAtEnergy_24 rfl (by first | decide | exact lt_c (by decide)) (fun c_24 => ?_) (fun c_24 => ?_)
    · refine P_iconst (q := 39) (v := nI 0) dX0_manyAtEnergy_38 rfl (by decide +kernel) ?_
      refine P_iret dX0_manyAtEnergy_39 rfl (rfl) ?_
      exact ⟨rv_i (by unfold Md.me; first | (rw [if_neg (by omega)]; done) | exact me_at (z := z) hg (by omega) (by omega) (by omega)), rfl⟩
    · exact absurd c_24 (by first | decide | exact lt_c (by decide))
