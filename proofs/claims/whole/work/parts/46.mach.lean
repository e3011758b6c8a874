/-! THE REFERENCE AS A MACHINE -/
def szR (k : Nat) : Nat := if k ≤ 116 then 46 else if k = 117 then 184 else if k = 118 then 46 else if k = 119 then 401 else if k ≤ 121 then 3208 else if k ≤ 125 then 248 else if k ≤ 127 then 31 else if k = 128 then 80 else if k ≤ 130 then 30 else 60
def AR (σ : Sto) : Prop := ∀ k, 115 ≤ k → k ≤ 131 → ∃ g : Nat → Int32, σ k = pI .int (szR k) g
theorem AR.up {σ : Sto} (h : AR σ) {a : Nat} {g : Nat → Int32} : AR (va_up σ a (pI .int (szR a) g)) := fun k h1 h2 => by
  by_cases e : k = a
  · subst e; exact ⟨g, up_at _ _ _⟩
  · obtain ⟨g', h'⟩ := h k h1 h2
    exact ⟨g', (up_ne _ _ e).trans h'⟩
theorem AR.upO {σ : Sto} (h : AR σ) {c : PC} : AR (va_up σ 114 c) := fun k h1 h2 => by
  obtain ⟨g', h'⟩ := h k h1 h2
  exact ⟨g', (up_ne _ _ (by omega)).trans h'⟩
/-- strip, history, snapshot, text, as the reference keeps them -/
def MW (σ : Sto) (w : Cs) : Prop := (∃ pl sp rc rr, σ 114 = moO w.H.length w.Sn.isSome.toNat pl w.n sp rc rr) ∧ XA σ w.A ∧ AR σ ∧ w.H.length ≤ 4 ∧ (∃ g : Nat → Int32, σ 117 = pI .int 184 g ∧ XH g w.H) ∧ (∀ B, w.Sn = some B → B.ok ∧ ∃ g : Nat → Int32, σ 118 = pI .int 46 g ∧ RA g B) ∧ w.n ≤ 60 ∧ ∃ g : Nat → Int32, σ 131 = pI .int 60 g ∧ ∀ i, i < w.n → g i = nI (w.ch i)
theorem MW.mo {σ : Sto} {w : Cs} (h : MW σ w) : MO σ := by
  obtain ⟨⟨pl, sp, rc, rr, h⟩, -⟩ := h
  exact ⟨_, _, pl, _, sp, rc, rr, h⟩
/-- an answer and a state -/
def MK (σ : Sto) (o : Int32 × Cs) : Option Value → Sto → Prop := fun v σ' => v = some (.int o.1) ∧ MW σ' o.2 ∧ same σ σ' (fun i => 114 ≤ i)
theorem MK.stay {σ : Sto} {w : Cs} {x : Int32} (hW : MW σ w) : MK σ (x, w) (some (.int x)) σ := ⟨rfl, hW, same.rf⟩
def ly1 (g : Nat → Int32) (c r i : Nat) : Nat → Int32 := fun k => if k = 0 then nI c else if k = 1 then nI r else if 6 ≤ k ∧ k < 6 + i then (if k - 6 < c then nI (2 ^ r - 1) else nI 0) else g k
def ly2 (g : Nat → Int32) (c r i : Nat) : Nat → Int32 := fun k => if 16 ≤ k ∧ k < 16 + i then nI 0 else ly1 g c r 10 k
theorem ly1_succ (g : Nat → Int32) (c r i : Nat) (v : Int32) (hv : v = if i < c then nI (2 ^ r - 1) else nI 0) : upd (ly1 g c r i) (6 + i) v = ly1 g c r (i + 1) := by
  funext k
  unfold upd ly1
  by_cases e : k = 6 + i
  · subst e; rw [if_pos rfl, if_neg (by omega), if_neg (by omega), if_pos (show 6 ≤ 6 + i ∧ 6 + i < 6 + (i + 1) by omega), Nat.add_sub_cancel_left]; exact hv
  · rw [if_neg e]
    by_cases h0 : k = 0
    · rw [if_pos h0, if_pos h0]
    · rw [if_neg h0, if_neg h0]
      by_cases h1 : k = 1
      · rw [if_pos h1, if_pos h1]
      · rw [if_neg h1, if_neg h1]
        by_cases h2 : 6 ≤ k ∧ k < 6 + i
        · rw [if_pos h2, if_pos (show 6 ≤ k ∧ k < 6 + (i + 1) by omega)]
        · rw [if_neg h2, if_neg (show ¬ (6 ≤ k ∧ k < 6 + (i + 1)) by omega)]
theorem ly1_0 (g : Nat → Int32) (c r : Nat) : upd (upd g 0 (nI c)) 1 (nI r) = ly1 g c r 0 := by
  funext k
  unfold upd ly1
  by_cases h1 : k = 1
  · subst h1; rw [if_pos rfl, if_neg (by omega), if_pos rfl]
  · rw [if_neg h1]
    by_cases h0 : k = 0
    · rw [if_pos h0, if_pos h0]
    · rw [if_neg h0, if_neg h0, if_neg h1, if_neg (by omega)]
theorem ly2_succ (g : Nat → Int32) (c r i : Nat) : upd (ly2 g c r i) (16 + i) (nI 0) = ly2 g c r (i + 1) := by
  funext k
  unfold upd ly2
  by_cases e : k = 16 + i
  · subst e; rw [if_pos rfl, if_pos (by omega)]
  · rw [if_neg e]
    by_cases h2 : 16 ≤ k ∧ k < 16 + i
    · rw [if_pos h2, if_pos (by omega)]
    · rw [if_neg h2, if_neg (by omega)]
theorem RA_ly {g : Nat → Int32} {A : St} {c r q : Nat} (h : RA g A) (hc : c ≤ 10) (hr : r ≤ 3) (hq : g 2 = nI q) : RA (ly2 g c r 30) (A.lay c r q) := by
  obtain ⟨h0, h1, h2, h3, h4, h5, h6, h7⟩ := h
  have low : ∀ k, 2 ≤ k → k < 6 → ly2 g c r 30 k = g k := fun k a b => by
    unfold ly2 ly1
    rw [if_neg (by omega), if_neg (by omega), if_neg (by omega), if_neg (by omega)]
  refine ⟨rfl, rfl, (low 2 (by omega) (by omega)).trans hq, (low 3 (by omega) (by omega)).trans h3, (low 4 (by omega) (by omega)).trans h4, (low 5 (by omega) (by omega)).trans h5, fun k hk => ?_, fun i j hi hj => ?_⟩
  · unfold ly2 ly1
    rw [if_neg (by omega), if_neg (by omega), if_neg (by omega), if_pos (by omega), Nat.add_sub_cancel_left]
    show _ = nI (if k < c then 2 ^ r - 1 else 0)
    split <;> rfl
  · have hi : i < c := hi
    have hj : j < r := hj
    unfold ly2
    rw [if_pos (by omega)]; rfl
set_option maxRecDepth 100000 in
set_option maxHeartbeats 4000000 in
theorem m_lays {σ : Sto} {g : Nat → Int32} (hM : MO σ) (h1 : σ 115 = pI .int 46 g) {c r : Nat} (hc : c ≤ 10) (hr : r ≤ 3) : CD mX8_lays [.ref 114, .int (nI c), .int (nI r)] 132 σ none (va_up σ 115 (pI .int 46 (ly2 g c r 30))) := by
  obtain ⟨L, k0, pl, n0, sp0, rc, rr, h0⟩ := hM
  have u0 : ∀ c, va_up σ 115 c 114 = moO L k0 pl n0 sp0 rc rr := fun c => (up_ne _ _ (by omega)).trans h0
  have hp := Nat.two_pow_pos r
  have lp2 : ∀ n i, i + n = 30 → PW mX8_lays 0 0 (fun v σ' => v = none ∧ σ' = va_up σ 115 (pI .int 46 (ly2 g c r 30))) 53 [some (.ref 114), some (.int (nI c)), some (.int (nI r)), some (.int (nI i))] [] 132 (va_up σ 115 (pI .int 46 (ly2 g c r i))) 0 0 := by
   intro n
   induction n with
   | zero =>
    intro i hi
    have e : i = 30 := by omega
    subst e
    refine P_iload_n (q := 54) dX8_lays_53 rfl rfl ?_
    refine P_bipush (q := 56) (v := nI 30) dX8_lays_54 rfl (by decide +kernel) ?_
    refine P_icmp_ge (q := 59) (tgt := 75) dX8_lays_56 rfl (by decide) (fun c_56 => ?_) (fun c_56 => ?_)
    · rw [nI_leI (by omega) (by omega)] at c_56
      refine P_vret dX8_lays_75 rfl ?_
      exact ⟨rfl, rfl⟩
    · exfalso; rw [nI_leI (by omega) (by omega)] at c_56; omega
   | succ n ih =>
    intro i hi
    refine P_iload_n (q := 54) dX8_lays_53 rfl rfl ?_
    refine P_bipush (q := 56) (v := nI 30) dX8_lays_54 rfl (by decide +kernel) ?_
    refine P_icmp_ge (q := 59) (tgt := 75) dX8_lays_56 rfl (by decide) (fun c_56 => ?_) (fun c_56 => ?_)
    · exfalso; rw [nI_leI (by omega) (by omega)] at c_56; omega
    · rw [nI_leI (by omega) (by omega)] at c_56
      refine P_aload_n (q := 60) dX8_lays_59 rfl rfl ?_
      refine P_get (q := 63) dX8_lays_60 rfl fX8_7 (by decide) (u0 _) rfl ?_
      refine P_bipush (q := 65) (v := nI 16) dX8_lays_63 rfl (by decide +kernel) ?_
      refine P_iload_n (q := 66) dX8_lays_65 rfl rfl ?_
      refine P_iadd (q := 67) dX8_lays_66 rfl ?_
      refine P_iconst (q := 68) (v := nI 0) dX8_lays_67 rfl (by decide +kernel) ?_
      refine P_iast (q := 69) (j := 16 + i) (f' := ly2 g c r (i + 1)) (σ' := va_up σ 115 (pI .int 46 (ly2 g c r (i + 1)))) dX8_lays_68 rfl (by decide) (up_at _ _ _) (nI_add _ _) (by omega) (by decide) (ly2_succ _ _ _ _) (up_up _ _ _ _) ?_
      refine P_iinc (q := 72) (L' := [_, _, _, _]) (v := nI (i + 1)) dX8_lays_69 rfl (by decide) rfl (nI_1 i) rfl ?_
      refine P_goto (tgt := 53) dX8_lays_72 (by decide) ?_
      exact ih (i + 1) (by omega)
  have lp1 : ∀ n i, i + n = 10 → PW mX8_lays 0 0 (fun v σ' => v = none ∧ σ' = va_up σ 115 (pI .int 46 (ly2 g c r 30))) 16 [some (.ref 114), some (.int (nI c)), some (.int (nI r)), some (.int (nI i))] [] 132 (va_up σ 115 (pI .int 46 (ly1 g c r i))) 0 0 := by
   intro n
   induction n with
   | zero =>
    intro i hi
    have e : i = 10 := by omega
    subst e
    refine P_iload_n (q := 17) dX8_lays_16 rfl rfl ?_
    refine P_bipush (q := 19) (v := nI 10) dX8_lays_17 rfl (by decide +kernel) ?_
    refine P_icmp_ge (q := 22) (tgt := 51) dX8_lays_19 rfl (by decide) (fun c_19 => ?_) (fun c_19 => ?_)
    · rw [nI_leI (by omega) (by omega)] at c_19
      refine P_iconst (q := 52) (v := nI 0) dX8_lays_51 rfl (by decide +kernel) ?_
      refine P_istore_n (q := 53) (L' := [_, _, _, _]) dX8_lays_52 rfl (by decide) rfl ?_
      have h := lp2 30 0 (by omega)
      rw [show ly2 g c r 0 = ly1 g c r 10 from funext fun k => if_neg (by omega)] at h
      exact h
    · exfalso; rw [nI_leI (by omega) (by omega)] at c_19; omega
   | succ n ih =>
    intro i hi
    have nx : ∀ v, v = (if i < c then nI (2 ^ r - 1) else nI 0) → PW mX8_lays 0 0 (fun v σ' => v = none ∧ σ' = va_up σ 115 (pI .int 46 (ly2 g c r 30))) 44 [some (.ref 114), some (.int (nI c)), some (.int (nI r)), some (.int (nI i))] [.int v, .int (nI 6 + nI i), .ref 115] 132 (va_up σ 115 (pI .int 46 (ly1 g c r i))) 0 0 := by
      intro v hv
      refine P_iast (q := 45) (j := 6 + i) (f' := ly1 g c r (i + 1)) (σ' := va_up σ 115 (pI .int 46 (ly1 g c r (i + 1)))) dX8_lays_44 rfl (by decide) (up_at _ _ _) (nI_add _ _) (by omega) (by decide) (ly1_succ _ _ _ _ _ hv) (up_up _ _ _ _) ?_
      refine P_iinc (q := 48) (L' := [_, _, _, _]) (v := nI (i + 1)) dX8_lays_45 rfl (by decide) rfl (nI_1 i) rfl ?_
      refine P_goto (tgt := 16) dX8_lays_48 (by decide) ?_
      exact ih (i + 1) (by omega)
    refine P_iload_n (q := 17) dX8_lays_16 rfl rfl ?_
    refine P_bipush (q := 19) (v := nI 10) dX8_lays_17 rfl (by decide +kernel) ?_
    refine P_icmp_ge (q := 22) (tgt := 51) dX8_lays_19 rfl (by decide) (fun c_19 => ?_) (fun c_19 => ?_)
    · exfalso; rw [nI_leI (by omega) (by omega)] at c_19; omega
    · rw [nI_leI (by omega) (by omega)] at c_19
      refine P_aload_n (q := 23) dX8_lays_22 rfl rfl ?_
      refine P_get (q := 26) dX8_lays_23 rfl fX8_7 (by decide) (u0 _) rfl ?_
      refine P_bipush (q := 28) (v := nI 6) dX8_lays_26 rfl (by decide +kernel) ?_
      refine P_iload_n (q := 29) dX8_lays_28 rfl rfl ?_
      refine P_iadd (q := 30) dX8_lays_29 rfl ?_
      refine P_iload_n (q := 31) dX8_lays_30 rfl rfl ?_
      refine P_iload_n (q := 32) dX8_lays_31 rfl rfl ?_
      refine P_icmp_ge (q := 35) (tgt := 43) dX8_lays_32 rfl (by decide) (fun c_32 => ?_) (fun c_32 => ?_)
      · rw [nI_leI (by omega) (by omega)] at c_32
        refine P_iconst (q := 44) (v := nI 0) dX8_lays_43 rfl (by decide +kernel) ?_
        first
          | exact nx _ (if_pos (by omega)).symm
          | exact nx _ (if_neg (by omega)).symm
      · rw [nI_leI (by omega) (by omega)] at c_32
        refine P_iconst (q := 36) (v := nI 1) dX8_lays_35 rfl (by decide +kernel) ?_
        refine P_iload_n (q := 37) dX8_lays_36 rfl rfl ?_
        refine P_ishl (q := 38) dX8_lays_37 rfl ?_
        rw [sh1 hr]
        refine P_iconst (q := 39) (v := nI 1) dX8_lays_38 rfl (by decide +kernel) ?_
        refine P_isub (q := 40) dX8_lays_39 rfl ?_
        rw [pk_sub hp]
        refine P_goto (tgt := 44) dX8_lays_40 (by decide) ?_
        first
          | exact nx _ (if_pos (by omega)).symm
          | exact nx _ (if_neg (by omega)).symm
  refine CP_of (by decide +kernel) (Nat.le_of_ble_eq_true rfl) ?_
  change PW _ _ _ _ 0 [_, _, _, _] [] _ _ _ _
  refine P_aload_n (q := 1) dX8_lays_0 rfl rfl ?_
  refine P_get (q := 4) dX8_lays_1 rfl fX8_7 (by decide) (h0) rfl ?_
  refine P_iconst (q := 5) (v := nI 0) dX8_lays_4 rfl (by decide +kernel) ?_
  refine P_iload_n (q := 6) dX8_lays_5 rfl rfl ?_
  refine P_iast (q := 7) (j := 0) dX8_lays_6 rfl (by decide) (h1) (rfl) (by omega) (by decide) (rfl) (rfl) ?_
  refine P_aload_n (q := 8) dX8_lays_7 rfl rfl ?_
  refine P_get (q := 11) dX8_lays_8 rfl fX8_7 (by decide) (u0 _) rfl ?_
  refine P_iconst (q := 12) (v := nI 1) dX8_lays_11 rfl (by decide +kernel) ?_
  refine P_iload_n (q := 13) dX8_lays_12 rfl rfl ?_
  refine P_iast (q := 14) (j := 1) (f' := ly1 g c r 0) (σ' := va_up σ 115 (pI .int 46 (ly1 g c r 0))) dX8_lays_13 rfl (by decide) (up_at _ _ _) (rfl) (by omega) (by decide) (ly1_0 _ _ _) (up_up _ _ _ _) ?_
  refine P_iconst (q := 15) (v := nI 0) dX8_lays_14 rfl (by decide +kernel) ?_
  refine P_istore_n (q := 16) (L' := [_, _, _, _]) dX8_lays_15 rfl (by decide) rfl ?_
  exact lp1 10 0 (by omega)
set_option maxRecDepth 100000 in
set_option maxHeartbeats 4000000 in
theorem m_rem {σ : Sto} {g h : Nat → Int32} (hM : MO σ) (h1 : σ 115 = pI .int 46 g) (h2 : σ 116 = pI .int 46 h) : CD mX8_remember [.ref 114] 132 σ none (va_up σ 116 (pI .int 46 (flC g h 46))) := by
  obtain ⟨L, k0, pl, n0, sp0, rc, rr, h0⟩ := hM
  refine CP_of (by decide +kernel) (Nat.le_of_ble_eq_true rfl) ?_
  change PW _ _ _ _ 0 [_] [] _ _ _ _
  refine P_aload_n (q := 1) dX8_remember_0 rfl rfl ?_
  refine P_get (q := 4) dX8_remember_1 rfl fX8_7 (by decide) (h0) rfl ?_
  refine P_aload_n (q := 5) dX8_remember_4 rfl rfl ?_
  refine P_get (q := 8) dX8_remember_5 rfl fX8_13 (by decide) (h0) rfl ?_
  refine P_cs0 (q := 11) dX8_remember_8 rfl kX8_65 (m_copy (by decide) (by decide) (by decide) h1 h2) rfl rfl ⟨by decide, by decide⟩ (Nat.le_of_ble_eq_true rfl) ⟨Nat.le_refl _, Nat.le_refl _⟩ ?_
  refine P_vret dX8_remember_11 rfl ?_
  exact ⟨rfl, rfl⟩
