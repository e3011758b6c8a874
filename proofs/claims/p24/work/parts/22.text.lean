variable {eN : Nat}
/-! THE TEXT -/
/-- how far a text is read: columns begun, rows (of a whole column), rows of this column, the spins so far -/
abbrev Ps : Type := Nat × Nat × Nat × Nat
def Ps.k (s : Ps) : Nat := s.1
def Ps.rw (s : Ps) : Nat := s.2.1
def Ps.r (s : Ps) : Nat := s.2.2.1
def Ps.u (s : Ps) : Nat := s.2.2.2
def Ps.whole (s : Ps) : Bool := if s.k = 1 then decide (0 < s.r) else decide (s.r = s.rw)
def Ps.most (s : Ps) : Nat := if s.k = 1 then 3 else s.rw
def Ps.step (s : Ps) (x : Nat) : Option Ps :=
  if x = 44 ∧ s.whole = true ∧ s.k < 10 then some (s.k + 1, s.r, 0, s.u)
  else if (x = 43 ∨ x = 45) ∧ s.r < s.most then some (s.k, s.rw, s.r + 1, if x = 43 then s.u ||| 2 ^ (4 * (s.k - 1) + s.r) else s.u)
  else none
/-- reads m characters from the index i on: a fault, or the end -/
def prs (ch : Nat → Nat) : Nat → Nat → Ps → Nat ⊕ Ps
  | 0, i, s => if s.whole then .inr s else .inl i
  | m + 1, i, s => match s.step (ch i) with
    | none => .inl i
    | some s' => prs ch m (i + 1) s'
def Ps.ok (s : Ps) : Prop := 1 ≤ s.k ∧ s.k ≤ 10 ∧ s.rw ≤ 3 ∧ s.r ≤ 3 ∧ s.u < 2 ^ 40
theorem Ps.step_ok {s s' : Ps} {x : Nat} (h : s.ok) (hs : s.step x = some s') : s'.ok := by
  obtain ⟨h1, h2, h3, h4, h5⟩ := h
  unfold Ps.step at hs
  split at hs
  · cases hs; exact ⟨by show 1 ≤ s.k + 1; omega, by show s.k + 1 ≤ 10; omega, h4, by show 0 ≤ 3; omega, h5⟩
  · split at hs
    · rename_i _ hq
      have hm : s.r < 3 := by
        have := hq.2
        unfold Ps.most at this
        split at this <;> omega
      cases hs
      refine ⟨h1, h2, h3, by show s.r + 1 ≤ 3; omega, ?_⟩
      show (if x = 43 then s.u ||| 2 ^ (4 * (s.k - 1) + s.r) else s.u) < 2 ^ 40
      split
      · exact or_lt h5 (Nat.pow_lt_pow_right (by first | decide | exact lt_c (by decide)) (by omega))
      · exact h5
    · cases hs
/-- the text's object and its characters -/
def txO (n c r : Nat) (u : Nat) : PC := pO 6 [.ref 113, .int (nI n), .int (nI c), .int (nI r), .long (lN u)]
def TW (σ : Sto) (n : Nat) (ch : Nat → Nat) : Prop := n ≤ 60 ∧ (∀ i, ch i < 65536) ∧ ∃ (c r u : Nat) (g : Nat → Int32), σ 112 = txO n c r u ∧ σ 113 = pI .char 60 g ∧ ∀ i, i < n → g i = nI (ch i)
theorem TW.congr {σ τ : Sto} {n : Nat} {ch : Nat → Nat} (h : TW σ n ch) (h1 : τ 112 = σ 112) (h2 : τ 113 = σ 113) : TW τ n ch := by
  obtain ⟨a, b, c, r, u, g, e1, e2, e3⟩ := h
  exact ⟨a, b, c, r, u, g, h1.trans e1, h2.trans e2, e3⟩
def chPut (ch : Nat → Nat) (n x : Nat) : Nat → Nat := fun i => if i = n then x else ch i
set_option maxRecDepth 100000 in
set_option maxHeartbeats 4000000 in
theorem t_append {σ : Sto} {n x : Nat} {ch : Nat → Nat} (hT : TW σ n ch) (hx : x < 65536) (hn : n < 60) : CP mX6_append 0 0 [.ref 112, .int (nI x)] (eN + 114) σ (fun v σ' => v = some (.int (nI 1)) ∧ TW σ' (n + 1) (chPut ch n x) ∧ same σ σ' (fun k => k = 112 ∨ k = 113)) := by
  obtain ⟨hl, hc, c, r, u, g, e1, e2, e3⟩ := hT
  refine CP_of (by decide +kernel) (Nat.le_of_ble_eq_true rfl) ?_
  change PW _ _ _ _ 0 [_, _] [] _ _ _ _
  refine P_aload_n (q := 1) dX6_append_0 rfl rfl ?_
  refine P_get (q := 4) dX6_append_1 rfl fX6_15 (by first | decide | exact lt_c (by decide)) (by assumption) rfl ?_
  refine P_bipush (q := 6) (v := nI 60) dX6_append_4 rfl (by decide +kernel) ?_
  refine P_icmp_lt (q := 9) (tgt := 11) dX6_append_6 rfl (by first | decide | exact lt_c (by decide)) (fun c_6 => ?_) (fun c_6 => ?_)
  · rw [nI_ltI (by omega) (by omega)] at c_6
    refine P_aload_n (q := 12) dX6_append_11 rfl rfl ?_
    refine P_get (q := 15) dX6_append_12 rfl fX6_9 (by first | decide | exact lt_c (by decide)) (by assumption) rfl ?_
    refine P_aload_n (q := 16) dX6_append_15 rfl rfl ?_
    refine P_get (q := 19) dX6_append_16 rfl fX6_15 (by first | decide | exact lt_c (by decide)) (by assumption) rfl ?_
    refine P_iload_n (q := 20) dX6_append_19 rfl rfl ?_
    refine P_cast (q := 21) (j := n) dX6_append_20 rfl (by first | decide | exact lt_c (by decide)) (by assumption) (rfl) (by omega) (by first | decide | exact lt_c (by decide)) (rfl) (rfl) ?_
    refine P_aload_n (q := 22) dX6_append_21 rfl rfl ?_
    refine P_dup (q := 23) dX6_append_22 rfl rfl ?_
    refine P_get (q := 26) dX6_append_23 rfl fX6_15 (by first | decide | exact lt_c (by decide)) ((up_ne _ _ (by first | decide | exact lt_c (by decide))).trans e1) rfl ?_
    refine P_iconst (q := 27) (v := nI 1) dX6_append_26 rfl (by decide +kernel) ?_
    refine P_iadd (q := 28) dX6_append_27 rfl ?_
    rw [nI_add]
    refine P_put (q := 31) (fs' := [_, _, _, _, _]) dX6_append_28 rfl gX6_15 (by first | decide | exact lt_c (by decide)) ((up_ne _ _ (by first | decide | exact lt_c (by decide))).trans e1) (fun _ => rfl) (fun _ => rfl) (Nat.le_of_ble_eq_true rfl) rfl (rfl) ?_
    refine P_iconst (q := 32) (v := nI 1) dX6_append_31 rfl (by decide +kernel) ?_
    refine P_iret dX6_append_32 rfl (rfl) ?_
    refine ⟨rfl, ⟨by omega, fun i => ?_, c, r, u, _, up_at _ _ _, (up_ne _ _ (by first | decide | exact lt_c (by decide))).trans (up_at _ _ _), fun i hi => ?_⟩, fun k hk => ?_⟩
    · unfold chPut; split
      · exact hx
      · exact hc i
    · unfold upd chPut; split
      · have hq := (pk_charN hx).1
        unfold vp_nar; rw [hq]
      · exact e3 i (by omega)
    · rw [up_ne _ _ (by omega), up_ne _ _ (by omega)]
  · exfalso; rw [nI_ltI (by omega) (by omega)] at c_6; omega
set_option maxRecDepth 100000 in
set_option maxHeartbeats 4000000 in
theorem t_appendF {σ : Sto} {ch : Nat → Nat} {x : Int32} (hT : TW σ 60 ch) : CD mX6_append [.ref 112, .int x] (eN + 114) σ (some (.int (nI 0))) σ := by
  obtain ⟨hl, hc, c, r, u, g, e1, e2, e3⟩ := hT
  refine CP_of (by decide +kernel) (Nat.le_of_ble_eq_true rfl) ?_
  change PW _ _ _ _ 0 [_, _] [] _ _ _ _
  refine P_aload_n (q := 1) dX6_append_0 rfl rfl ?_
  refine P_get (q := 4) dX6_append_1 rfl fX6_15 (by first | decide | exact lt_c (by decide)) (by assumption) rfl ?_
  refine P_bipush (q := 6) (v := nI 60) dX6_append_4 rfl (by decide +kernel) ?_
  refine P_icmp_lt (q := 9) (tgt := 11) dX6_append_6 rfl (by first | decide | exact lt_c (by decide)) (fun c_6 => ?_) (fun c_6 => ?_)
  · exfalso; rw [nI_ltI (by omega) (by omega)] at c_6; omega
  · rw [nI_ltI (by omega) (by omega)] at c_6
    refine P_iconst (q := 10) (v := nI 0) dX6_append_9 rfl (by decide +kernel) ?_
    refine P_iret dX6_append_10 rfl (rfl) ?_
    exact ⟨rfl, rfl⟩
theorem ps_w1 {s : Ps} (h : s.k = 1) : s.whole = decide (0 < s.r) := if_pos h
theorem ps_w2 {s : Ps} (h : ¬ s.k = 1) : s.whole = decide (s.r = s.rw) := if_neg h
set_option maxRecDepth 100000 in
set_option maxHeartbeats 4000000 in
theorem t_isWhole {σ : Sto} {n : Nat} {s : Ps} (hs : s.ok) (e1 : σ 112 = txO n s.k s.rw s.u) : CD mX6_isWhole [.ref 112, .int (nI s.r)] (eN + 114) σ (some (.int (bI s.whole))) σ := by
  obtain ⟨h1, h2, h3, h4, h5⟩ := hs
  refine CP_of (by decide +kernel) (Nat.le_of_ble_eq_true rfl) ?_
  change PW _ _ _ _ 0 [_, _] [] _ _ _ _
  refine P_aload_n (q := 1) dX6_isWhole_0 rfl rfl ?_
  refine P_get (q := 4) dX6_isWhole_1 rfl fX6_19 (by first | decide | exact lt_c (by decide)) (by assumption) rfl ?_
  refine P_iconst (q := 5) (v := nI 1) dX6_isWhole_4 rfl (by decide +kernel) ?_
  refine P_icmp_ne (q := 8) (tgt := 20) dX6_isWhole_5 rfl (by first | decide | exact lt_c (by decide)) (fun c_5 => ?_) (fun c_5 => ?_)
  · rw [nI_eq (by omega) (by omega)] at c_5
    refine P_iload_n (q := 21) dX6_isWhole_20 rfl rfl ?_
    refine P_aload_n (q := 22) dX6_isWhole_21 rfl rfl ?_
    refine P_get (q := 25) dX6_isWhole_22 rfl fX6_22 (by first | decide | exact lt_c (by decide)) (by assumption) rfl ?_
    refine P_icmp_ne (q := 28) (tgt := 32) dX6_isWhole_25 rfl (by first | decide | exact lt_c (by decide)) (fun c_25 => ?_) (fun c_25 => ?_)
    · rw [nI_eq (by omega) (by omega)] at c_25
      refine P_iconst (q := 33) (v := nI 0) dX6_isWhole_32 rfl (by decide +kernel) ?_
      refine P_iret dX6_isWhole_33 rfl (rfl) ?_
      exact ⟨rv_i (by first | (rw [ps_w1 c_5]; first | (rw [decide_eq_true (by omega)]; rfl) | (rw [decide_eq_false (by omega)]; rfl)) | (rw [ps_w2 c_5]; first | (rw [decide_eq_true (by omega)]; rfl) | (rw [decide_eq_false (by omega)]; rfl))), rfl⟩
    · rw [nI_eq (by omega) (by omega)] at c_25
      refine P_iconst (q := 29) (v := nI 1) dX6_isWhole_28 rfl (by decide +kernel) ?_
      refine P_goto (tgt := 33) dX6_isWhole_29 (by first | decide | exact lt_c (by decide)) ?_
      refine P_iret dX6_isWhole_33 rfl (rfl) ?_
      exact ⟨rv_i (by first | (rw [ps_w1 c_5]; first | (rw [decide_eq_true (by omega)]; rfl) | (rw [decide_eq_false (by omega)]; rfl)) | (rw [ps_w2 c_5]; first | (rw [decide_eq_true (by omega)]; rfl) | (rw [decide_eq_false (by omega)]; rfl))), rfl⟩
  · rw [nI_eq (by omega) (by omega)] at c_5
    refine P_iload_n (q := 9) dX6_isWhole_8 rfl rfl ?_
    refine P_if_le (q := 12) (tgt := 16) dX6_isWhole_9 rfl (by first | decide | exact lt_c (by decide)) (fun c_9 => ?_) (fun c_9 => ?_)
    · change nI s.r ≤ nI 0 at c_9
      rw [nI_leI (by omega) (by omega)] at c_9
      refine P_iconst (q := 17) (v := nI 0) dX6_isWhole_16 rfl (by decide +kernel) ?_
      refine P_goto (tgt := 33) dX6_isWhole_17 (by first | decide | exact lt_c (by decide)) ?_
      refine P_iret dX6_isWhole_33 rfl (rfl) ?_
      exact ⟨rv_i (by first | (rw [ps_w1 c_5]; first | (rw [decide_eq_true (by omega)]; rfl) | (rw [decide_eq_false (by omega)]; rfl)) | (rw [ps_w2 c_5]; first | (rw [decide_eq_true (by omega)]; rfl) | (rw [decide_eq_false (by omega)]; rfl))), rfl⟩
    · change ¬ nI s.r ≤ nI 0 at c_9
      rw [nI_leI (by omega) (by omega)] at c_9
      refine P_iconst (q := 13) (v := nI 1) dX6_isWhole_12 rfl (by decide +kernel) ?_
      refine P_goto (tgt := 33) dX6_isWhole_13 (by first | decide | exact lt_c (by decide)) ?_
      refine P_iret dX6_isWhole_33 rfl (rfl) ?_
      exact ⟨rv_i (by first | (rw [ps_w1 c_5]; first | (rw [decide_eq_true (by omega)]; rfl) | (rw [decide_eq_false (by omega)]; rfl)) | (rw [ps_w2 c_5]; first | (rw [decide_eq_true (by omega)]; rfl) | (rw [decide_eq_false (by omega)]; rfl))), rfl⟩
set_option maxRecDepth 100000 in
set_option maxHeartbeats 4000000 in
theorem t_rowsAllowed {σ : Sto} {n : Nat} {s : Ps} (hs : s.ok) (e1 : σ 112 = txO n s.k s.rw s.u) : CD mX6_rowsAllowed [.ref 112] (eN + 114) σ (some (.int (nI s.most))) σ := by
  obtain ⟨h1, h2, h3, h4, h5⟩ := hs
  refine CP_of (by decide +kernel) (Nat.le_of_ble_eq_true rfl) ?_
  change PW _ _ _ _ 0 [_] [] _ _ _ _
  refine P_aload_n (q := 1) dX6_rowsAllowed_0 rfl rfl ?_
  refine P_get (q := 4) dX6_rowsAllowed_1 rfl fX6_19 (by first | decide | exact lt_c (by decide)) (by assumption) rfl ?_
  refine P_iconst (q := 5) (v := nI 1) dX6_rowsAllowed_4 rfl (by decide +kernel) ?_
  refine P_icmp_ne (q := 8) (tgt := 12) dX6_rowsAllowed_5 rfl (by first | decide | exact lt_c (by decide)) (fun c_5 => ?_) (fun c_5 => ?_)
  · rw [nI_eq (by omega) (by omega)] at c_5
    refine P_aload_n (q := 13) dX6_rowsAllowed_12 rfl rfl ?_
    refine P_get (q := 16) dX6_rowsAllowed_13 rfl fX6_22 (by first | decide | exact lt_c (by decide)) (by assumption) rfl ?_
    refine P_iret dX6_rowsAllowed_16 rfl (rfl) ?_
    exact ⟨rv_i (by unfold Ps.most; first | rw [if_pos c_5] | rw [if_neg c_5]), rfl⟩
  · rw [nI_eq (by omega) (by omega)] at c_5
    refine P_iconst (q := 9) (v := nI 3) dX6_rowsAllowed_8 rfl (by decide +kernel) ?_
    refine P_goto (tgt := 16) dX6_rowsAllowed_9 (by first | decide | exact lt_c (by decide)) ?_
    refine P_iret dX6_rowsAllowed_16 rfl (rfl) ?_
    exact ⟨rv_i (by unfold Ps.most; first | rw [if_pos c_5] | rw [if_neg c_5]), rfl⟩
/-- what firstFault answers, and the text's object then -/
def ffV : Nat ⊕ Ps → Int32
  | .inl i => nI i
  | .inr _ => -1
theorem ps_br {s : Ps} {x : Nat} : s.step x = (if x = 44 ∧ s.whole = true ∧ s.k < 10 then some (s.k + 1, s.r, 0, s.u)
  else if (x = 43 ∨ x = 45) ∧ s.r < s.most then some (s.k, s.rw, s.r + 1, if x = 43 then s.u ||| 2 ^ (4 * (s.k - 1) + s.r) else s.u)
  else none) := rfl
set_option maxRecDepth 100000 in
set_option maxHeartbeats 4000000 in
theorem w_ff {τ : Sto} {N : Nat} {ch : Nat → Nat} {g : Nat → Int32} (hN : N ≤ 60) (hch : ∀ i, ch i < 65536) (e2 : τ 113 = pI .char 60 g) (e3 : ∀ i, i < N → g i = nI (ch i)) : ∀ m i, i + m = N → ∀ (s : Ps), s.ok → prs ch m i s = prs ch N 0 (1, 0, 0, 0) → ∀ x3 : Option Value, PW mX6_firstFault 0 0 (fun v σ' => v = some (.int (ffV (prs ch N 0 (1, 0, 0, 0)))) ∧ same τ σ' (fun k => k = 112) ∧ TW σ' N ch ∧ ∀ s, prs ch N 0 (1, 0, 0, 0) = .inr s → σ' 112 = txO N s.k s.r s.u) 19 [some (.ref 112), some (.int (nI s.r)), some (.int (nI i)), x3] [] (eN + 114) (va_up τ 112 (txO N s.k s.rw s.u)) 0 0 := by
  intro m
  induction m with
  | zero =>
    intro i hi s hs hP x3
    have e1 : va_up τ 112 (txO N s.k s.rw s.u) 112 = txO N s.k s.rw s.u := up_at _ _ _
    obtain ⟨h1, h2, h3, h4, h5⟩ := id hs
    have e : i = N := by omega
    subst e
    rw [prs] at hP
    refine P_iload_n (q := 20) dX6_firstFault_19 rfl rfl ?_
    refine P_aload_n (q := 21) dX6_firstFault_20 rfl rfl ?_
    refine P_get (q := 24) dX6_firstFault_21 rfl fX6_15 (by first | decide | exact lt_c (by decide)) (by assumption) rfl ?_
    refine P_icmp_ge (q := 27) (tgt := 136) dX6_firstFault_24 rfl (by first | decide | exact lt_c (by decide)) (fun c_24 => ?_) (fun c_24 => ?_)
    · rw [nI_leI (by omega) (by omega)] at c_24
      refine P_aload_n (q := 137) dX6_firstFault_136 rfl rfl ?_
      refine P_iload_n (q := 138) dX6_firstFault_137 rfl rfl ?_
      refine P_cv1 (q := 141) dX6_firstFault_138 rfl kX6_29 (t_isWhole hs e1) rfl rfl (by first | decide | exact lt_c (by decide)) (by assumption) rfl ⟨by decide, by decide⟩ (Nat.le_of_ble_eq_true rfl) ⟨Nat.le_refl _, Nat.le_refl _⟩ ?_
      refine P_if_ne (q := 144) (tgt := 149) dX6_firstFault_141 rfl (by first | decide | exact lt_c (by decide)) (fun c_141 => ?_) (fun c_141 => ?_)
      · rw [bI_n] at c_141
        refine P_aload_n (q := 150) dX6_firstFault_149 rfl rfl ?_
        refine P_iload_n (q := 151) dX6_firstFault_150 rfl rfl ?_
        refine P_put (q := 154) (fs' := [_, _, _, _, _]) dX6_firstFault_151 rfl gX6_22 (by first | decide | exact lt_c (by decide)) (by assumption) (fun _ => rfl) (fun _ => rfl) (Nat.le_of_ble_eq_true rfl) rfl (rfl) ?_
        refine P_iconst (q := 155) (v := (-1)) dX6_firstFault_154 rfl (by decide +kernel) ?_
        refine P_iret dX6_firstFault_155 rfl (rfl) ?_
        rw [c_141] at hP
        refine ⟨by rw [← hP]; rfl, fun k hk => by rw [up_up]; exact up_ne _ _ hk, ⟨hN, hch, _, _, _, g, by rw [up_up]; exact up_at _ _ _, by rw [up_up]; exact (up_ne _ _ (by first | decide | exact lt_c (by decide))).trans e2, e3⟩, fun s0 h0 => ?_⟩
        rw [← hP] at h0
        cases h0
        rw [up_up]
        exact up_at _ _ _
      · rw [bI_0] at c_141
        refine P_aload_n (q := 145) dX6_firstFault_144 rfl rfl ?_
        refine P_get (q := 148) dX6_firstFault_145 rfl fX6_15 (by first | decide | exact lt_c (by decide)) (by assumption) rfl ?_
        refine P_iret dX6_firstFault_148 rfl (rfl) ?_
        rw [c_141] at hP
        refine ⟨by rw [← hP]; rfl, fun k hk => (up_ne _ _ hk), ⟨hN, hch, _, _, _, g, up_at _ _ _, (up_ne _ _ (by first | decide | exact lt_c (by decide))).trans e2, e3⟩, fun s0 h0 => by rw [← hP] at h0; cases h0⟩
    · exfalso; rw [nI_leI (by omega) (by omega)] at c_24; omega
  | succ m ih =>
    intro i hi s hs hP x3
    have e1 : va_up τ 112 (txO N s.k s.rw s.u) 112 = txO N s.k s.rw s.u := up_at _ _ _
    have e2' : va_up τ 112 (txO N s.k s.rw s.u) 113 = pI .char 60 g := (up_ne _ _ (by first | decide | exact lt_c (by decide))).trans e2
    obtain ⟨h1, h2, h3, h4, h5⟩ := id hs
    have hx := hch i
    have hm : s.most ≤ 3 := by unfold Ps.most; split <;> omega
    rw [prs] at hP
    have key : ∀ s', s.step (ch i) = some s' → ∀ x3 : Option Value, PW mX6_firstFault 0 0 (fun v σ' => v = some (.int (ffV (prs ch N 0 (1, 0, 0, 0)))) ∧ same τ σ' (fun k => k = 112) ∧ TW σ' N ch ∧ ∀ s, prs ch N 0 (1, 0, 0, 0) = .inr s → σ' 112 = txO N s.k s.r s.u) 19 [some (.ref 112), some (.int (nI s'.r)), some (.int (nI (i + 1))), x3] [] (eN + 114) (va_up τ 112 (txO N s'.k s'.rw s'.u)) 0 0 := by
      intro s' hs' x3
      rw [hs'] at hP
      exact ih (i + 1) (by omega) s' (Ps.step_ok hs hs') hP x3
    have keyN : s.step (ch i) = none → prs ch N 0 (1, 0, 0, 0) = .inl i := fun h => by rw [h] at hP; exact hP.symm
    rw [ps_br] at key keyN
    have hgi := e3 i (by omega)
    generalize ch i = x at hx key keyN hgi
    refine P_iload_n (q := 20) dX6_firstFault_19 rfl rfl ?_
    refine P_aload_n (q := 21) dX6_firstFault_20 rfl rfl ?_
    refine P_get (q := 24) dX6_firstFault_21 rfl fX6_15 (by first | decide | exact lt_c (by decide)) (by assumption) rfl ?_
    refine P_icmp_ge (q := 27) (tgt := 136) dX6_firstFault_24 rfl (by first | decide | exact lt_c (by decide)) (fun c_24 => ?_) (fun c_24 => ?_)
    · exfalso; rw [nI_leI (by omega) (by omega)] at c_24; omega
    · rw [nI_leI (by omega) (by omega)] at c_24
      refine P_aload_n (q := 28) dX6_firstFault_27 rfl rfl ?_
      refine P_get (q := 31) dX6_firstFault_28 rfl fX6_9 (by first | decide | exact lt_c (by decide)) (by assumption) rfl ?_
      refine P_iload_n (q := 32) dX6_firstFault_31 rfl rfl ?_
      refine P_cald (q := 33) (j := i) dX6_firstFault_32 rfl (by first | decide | exact lt_c (by decide)) (by assumption) (rfl) (by omega) (by first | decide | exact lt_c (by decide)) ?_
      rw [hgi]
      refine P_istore_n (q := 34) (L' := [_, _, _, _]) dX6_firstFault_33 rfl (by first | decide | exact lt_c (by decide)) rfl ?_
      refine P_iload_n (q := 35) dX6_firstFault_34 rfl rfl ?_
      refine P_bipush (q := 37) (v := nI 44) dX6_firstFault_35 rfl (by decide +kernel) ?_
      refine P_icmp_ne (q := 40) (tgt := 77) dX6_firstFault_37 rfl (by first | decide | exact lt_c (by decide)) (fun c_37 => ?_) (fun c_37 => ?_)
      · rw [nI_eq (by omega) (by first | decide | exact lt_c (by decide))] at c_37
        refine P_iload_n (q := 78) dX6_firstFault_77 rfl rfl ?_
        refine P_bipush (q := 80) (v := nI 43) dX6_firstFault_78 rfl (by decide +kernel) ?_
        refine P_icmp_eq (q := 83) (tgt := 89) dX6_firstFault_80 rfl (by first | decide | exact lt_c (by decide)) (fun c_80 => ?_) (fun c_80 => ?_)
        · rw [nI_eq (by omega) (by first | decide | exact lt_c (by decide))] at c_80
          refine P_iload_n (q := 90) dX6_firstFault_89 rfl rfl ?_
          refine P_aload_n (q := 91) dX6_firstFault_90 rfl rfl ?_
          refine P_cv1 (q := 94) dX6_firstFault_91 rfl kX6_33 (t_rowsAllowed hs e1) rfl rfl (by first | decide | exact lt_c (by decide)) (by assumption) rfl ⟨by decide, by decide⟩ (Nat.le_of_ble_eq_true rfl) ⟨Nat.le_refl _, Nat.le_refl _⟩ ?_
          refine P_icmp_ge (q := 97) (tgt := 128) dX6_firstFault_94 rfl (by first | decide | exact lt_c (by decide)) (fun c_94 => ?_) (fun c_94 => ?_)
          · rw [nI_leI (by omega) (by omega)] at c_94
            refine P_iload_n (q := 129) dX6_firstFault_128 rfl rfl ?_
            refine P_iret dX6_firstFault_129 rfl (rfl) ?_
            have hpr := keyN (by first | (rw [if_neg (by rintro ⟨q1, q2, q3⟩; first | omega | (rw [c_45] at q2; cases q2)), if_neg (by omega)]))
            rw [hpr]
            exact ⟨rfl, fun k hk => (up_ne _ _ hk), ⟨hN, hch, _, _, _, g, up_at _ _ _, (up_ne _ _ (by first | decide | exact lt_c (by decide))).trans e2, e3⟩, fun s0 h0 => by cases h0⟩
          · rw [nI_leI (by omega) (by omega)] at c_94
            refine P_iload_n (q := 98) dX6_firstFault_97 rfl rfl ?_
            refine P_bipush (q := 100) (v := nI 43) dX6_firstFault_98 rfl (by decide +kernel) ?_
            refine P_icmp_ne (q := 103) (tgt := 122) dX6_firstFault_100 rfl (by first | decide | exact lt_c (by decide)) (fun c_100 => ?_) (fun c_100 => ?_)
            · rw [nI_eq (by omega) (by first | decide | exact lt_c (by decide))] at c_100
              refine P_iinc (q := 125) (L' := [_, _, _, _]) (v := nI (s.r + 1)) dX6_firstFault_122 rfl (by first | decide | exact lt_c (by decide)) rfl (nI_1 s.r) rfl ?_
              refine P_goto (tgt := 130) dX6_firstFault_125 (by first | decide | exact lt_c (by decide)) ?_
              refine P_iinc (q := 133) (L' := [_, _, _, _]) (v := nI (i + 1)) dX6_firstFault_130 rfl (by first | decide | exact lt_c (by decide)) rfl (nI_1 i) rfl ?_
              refine P_goto (tgt := 19) dX6_firstFault_133 (by first | decide | exact lt_c (by decide)) ?_
              (try rw [up_up]); first | exact key _ (if_pos ⟨c_37, c_45, by omega⟩) _ | exact key _ (by rw [if_neg (by omega), if_pos ⟨by omega, by omega⟩, if_pos (by omega)]) _ | exact key _ (by rw [if_neg (by omega), if_pos ⟨by omega, by omega⟩, if_neg (by omega)]) _
            · rw [nI_eq (by omega) (by first | decide | exact lt_c (by decide))] at c_100
              refine P_aload_n (q := 104) dX6_firstFault_103 rfl rfl ?_
              refine P_dup (q := 105) dX6_firstFault_104 rfl rfl ?_
              refine P_get (q := 108) dX6_firstFault_105 rfl fX6_25 (by first | decide | exact lt_c (by decide)) (by assumption) rfl ?_
              refine P_iload_n (q := 109) dX6_firstFault_108 rfl rfl ?_
              refine P_aload_n (q := 110) dX6_firstFault_109 rfl rfl ?_
              refine P_get (q := 113) dX6_firstFault_110 rfl fX6_19 (by first | decide | exact lt_c (by decide)) (by assumption) rfl ?_
              refine P_iconst (q := 114) (v := nI 1) dX6_firstFault_113 rfl (by decide +kernel) ?_
              refine P_isub (q := 115) dX6_firstFault_114 rfl ?_
              rw [pk_sub (by omega)]
              refine P_cs1 (q := 118) dX6_firstFault_115 rfl kX6_37 (t_bit s.r (s.k - 1) (by omega)) rfl rfl ⟨by decide, by decide⟩ (Nat.le_of_ble_eq_true rfl) ⟨Nat.le_refl _, Nat.le_refl _⟩ ?_
              refine P_lor (q := 119) dX6_firstFault_118 rfl ?_
              rw [lN_or (by omega) (Nat.lt_of_lt_of_le (Nat.pow_lt_pow_right (by first | decide | exact lt_c (by decide)) (show 4 * (s.k - 1) + s.r < 64 by unfold Ps.most at c_94; split at c_94 <;> omega)) (Nat.le_refl _))]
              refine P_put (q := 122) (fs' := [_, _, _, _, _]) dX6_firstFault_119 rfl gX6_25 (by first | decide | exact lt_c (by decide)) (by assumption) (fun _ => rfl) (fun _ => rfl) (Nat.le_of_ble_eq_true rfl) rfl (up_up _ _ _ _) ?_
              refine P_iinc (q := 125) (L' := [_, _, _, _]) (v := nI (s.r + 1)) dX6_firstFault_122 rfl (by first | decide | exact lt_c (by decide)) rfl (nI_1 s.r) rfl ?_
              refine P_goto (tgt := 130) dX6_firstFault_125 (by first | decide | exact lt_c (by decide)) ?_
              refine P_iinc (q := 133) (L' := [_, _, _, _]) (v := nI (i + 1)) dX6_firstFault_130 rfl (by first | decide | exact lt_c (by decide)) rfl (nI_1 i) rfl ?_
              refine P_goto (tgt := 19) dX6_firstFault_133 (by first | decide | exact lt_c (by decide)) ?_
              (try rw [up_up]); first | exact key _ (if_pos ⟨c_37, c_45, by omega⟩) _ | exact key _ (by rw [if_neg (by omega), if_pos ⟨by omega, by omega⟩, if_pos (by omega)]) _ | exact key _ (by rw [if_neg (by omega), if_pos ⟨by omega, by omega⟩, if_neg (by omega)]) _
        · rw [nI_eq (by omega) (by first | decide | exact lt_c (by decide))] at c_80
          refine P_iload_n (q := 84) dX6_firstFault_83 rfl rfl ?_
          refine P_bipush (q := 86) (v := nI 45) dX6_firstFault_84 rfl (by decide +kernel) ?_
          refine P_icmp_ne (q := 89) (tgt := 128) dX6_firstFault_86 rfl (by first | decide | exact lt_c (by decide)) (fun c_86 => ?_) (fun c_86 => ?_)
          · rw [nI_eq (by omega) (by first | decide | exact lt_c (by decide))] at c_86
            refine P_iload_n (q := 129) dX6_firstFault_128 rfl rfl ?_
            refine P_iret dX6_firstFault_129 rfl (rfl) ?_
            have hpr := keyN (by first | (rw [if_neg (by rintro ⟨q1, q2, q3⟩; first | omega | (rw [c_45] at q2; cases q2)), if_neg (by omega)]))
            rw [hpr]
            exact ⟨rfl, fun k hk => (up_ne _ _ hk), ⟨hN, hch, _, _, _, g, up_at _ _ _, (up_ne _ _ (by first | decide | exact lt_c (by decide))).trans e2, e3⟩, fun s0 h0 => by cases h0⟩
          · rw [nI_eq (by omega) (by first | decide | exact lt_c (by decide))] at c_86
            refine P_iload_n (q := 90) dX6_firstFault_89 rfl rfl ?_
            refine P_aload_n (q := 91) dX6_firstFault_90 rfl rfl ?_
            refine P_cv1 (q := 94) dX6_firstFault_91 rfl kX6_33 (t_rowsAllowed hs e1) rfl rfl (by first | decide | exact lt_c (by decide)) (by assumption) rfl ⟨by decide, by decide⟩ (Nat.le_of_ble_eq_true rfl) ⟨Nat.le_refl _, Nat.le_refl _⟩ ?_
            refine P_icmp_ge (q := 97) (tgt := 128) dX6_firstFault_94 rfl (by first | decide | exact lt_c (by decide)) (fun c_94 => ?_) (fun c_94 => ?_)
            · rw [nI_leI (by omega) (by omega)] at c_94
              refine P_iload_n (q := 129) dX6_firstFault_128 rfl rfl ?_
              refine P_iret dX6_firstFault_129 rfl (rfl) ?_
              have hpr := keyN (by first | (rw [if_neg (by rintro ⟨q1, q2, q3⟩; first | omega | (rw [c_45] at q2; cases q2)), if_neg (by omega)]))
              rw [hpr]
              exact ⟨rfl, fun k hk => (up_ne _ _ hk), ⟨hN, hch, _, _, _, g, up_at _ _ _, (up_ne _ _ (by first | decide | exact lt_c (by decide))).trans e2, e3⟩, fun s0 h0 => by cases h0⟩
            · rw [nI_leI (by omega) (by omega)] at c_94
              refine P_iload_n (q := 98) dX6_firstFault_97 rfl rfl ?_
              refine P_bipush (q := 100) (v := nI 43) dX6_firstFault_98 rfl (by decide +kernel) ?_
              refine P_icmp_ne (q := 103) (tgt := 122) dX6_firstFault_100 rfl (by first | decide | exact lt_c (by decide)) (fun c_100 => ?_) (fun c_100 => ?_)
              · rw [nI_eq (by omega) (by first | decide | exact lt_c (by decide))] at c_100
                refine P_iinc (q := 125) (L' := [_, _, _, _]) (v := nI (s.r + 1)) dX6_firstFault_122 rfl (by first | decide | exact lt_c (by decide)) rfl (nI_1 s.r) rfl ?_
                refine P_goto (tgt := 130) dX6_firstFault_125 (by first | decide | exact lt_c (by decide)) ?_
                refine P_iinc (q := 133) (L' := [_, _, _, _]) (v := nI (i + 1)) dX6_firstFault_130 rfl (by first | decide | exact lt_c (by decide)) rfl (nI_1 i) rfl ?_
                refine P_goto (tgt := 19) dX6_firstFault_133 (by first | decide | exact lt_c (by decide)) ?_
                (try rw [up_up]); first | exact key _ (if_pos ⟨c_37, c_45, by omega⟩) _ | exact key _ (by rw [if_neg (by omega), if_pos ⟨by omega, by omega⟩, if_pos (by omega)]) _ | exact key _ (by rw [if_neg (by omega), if_pos ⟨by omega, by omega⟩, if_neg (by omega)]) _
              · rw [nI_eq (by omega) (by first | decide | exact lt_c (by decide))] at c_100
                refine P_aload_n (q := 104) dX6_firstFault_103 rfl rfl ?_
                refine P_dup (q := 105) dX6_firstFault_104 rfl rfl ?_
                refine P_get (q := 108) dX6_firstFault_105 rfl fX6_25 (by first | decide | exact lt_c (by decide)) (by assumption) rfl ?_
                refine P_iload_n (q := 109) dX6_firstFault_108 rfl rfl ?_
                refine P_aload_n (q := 110) dX6_firstFault_109 rfl rfl ?_
                refine P_get (q := 113) dX6_firstFault_110 rfl fX6_19 (by first | decide | exact lt_c (by decide)) (by assumption) rfl ?_
                refine P_iconst (q := 114) (v := nI 1) dX6_firstFault_113 rfl (by decide +kernel) ?_
                refine P_isub (q := 115) dX6_firstFault_114 rfl ?_
                rw [pk_sub (by omega)]
                refine P_cs1 (q := 118) dX6_firstFault_115 rfl kX6_37 (t_bit s.r (s.k - 1) (by omega)) rfl rfl ⟨by decide, by decide⟩ (Nat.le_of_ble_eq_true rfl) ⟨Nat.le_refl _, Nat.le_refl _⟩ ?_
                refine P_lor (q := 119) dX6_firstFault_118 rfl ?_
                rw [lN_or (by omega) (Nat.lt_of_lt_of_le (Nat.pow_lt_pow_right (by first | decide | exact lt_c (by decide)) (show 4 * (s.k - 1) + s.r < 64 by unfold Ps.most at c_94; split at c_94 <;> omega)) (Nat.le_refl _))]
                refine P_put (q := 122) (fs' := [_, _, _, _, _]) dX6_firstFault_119 rfl gX6_25 (by first | decide | exact lt_c (by decide)) (by assumption) (fun _ => rfl) (fun _ => rfl) (Nat.le_of_ble_eq_true rfl) rfl (up_up _ _ _ _) ?_
                refine P_iinc (q := 125) (L' := [_, _, _, _]) (v := nI (s.r + 1)) dX6_firstFault_122 rfl (by first | decide | exact lt_c (by decide)) rfl (nI_1 s.r) rfl ?_
                refine P_goto (tgt := 130) dX6_firstFault_125 (by first | decide | exact lt_c (by decide)) ?_
                refine P_iinc (q := 133) (L' := [_, _, _, _]) (v := nI (i + 1)) dX6_firstFault_130 rfl (by first | decide | exact lt_c (by decide)) rfl (nI_1 i) rfl ?_
                refine P_goto (tgt := 19) dX6_firstFault_133 (by first | decide | exact lt_c (by decide)) ?_
                (try rw [up_up]); first | exact key _ (if_pos ⟨c_37, c_45, by omega⟩) _ | exact key _ (by rw [if_neg (by omega), if_pos ⟨by omega, by omega⟩, if_pos (by omega)]) _ | exact key _ (by rw [if_neg (by omega), if_pos ⟨by omega, by omega⟩, if_neg (by omega)]) _
      · rw [nI_eq (by omega) (by first | decide | exact lt_c (by decide))] at c_37
        refine P_aload_n (q := 41) dX6_firstFault_40 rfl rfl ?_
        refine P_iload_n (q := 42) dX6_firstFault_41 rfl rfl ?_
        refine P_cv1 (q := 45) dX6_firstFault_42 rfl kX6_29 (t_isWhole hs e1) rfl rfl (by first | decide | exact lt_c (by decide)) (by assumption) rfl ⟨by decide, by decide⟩ (Nat.le_of_ble_eq_true rfl) ⟨Nat.le_refl _, Nat.le_refl _⟩ ?_
        refine P_if_eq (q := 48) (tgt := 77) dX6_firstFault_45 rfl (by first | decide | exact lt_c (by decide)) (fun c_45 => ?_) (fun c_45 => ?_)
        · rw [bI_0] at c_45
          refine P_iload_n (q := 78) dX6_firstFault_77 rfl rfl ?_
          refine P_bipush (q := 80) (v := nI 43) dX6_firstFault_78 rfl (by decide +kernel) ?_
          refine P_icmp_eq (q := 83) (tgt := 89) dX6_firstFault_80 rfl (by first | decide | exact lt_c (by decide)) (fun c_80 => ?_) (fun c_80 => ?_)
          · rw [nI_eq (by omega) (by first | decide | exact lt_c (by decide))] at c_80
            refine P_iload_n (q := 90) dX6_firstFault_89 rfl rfl ?_
            refine P_aload_n (q := 91) dX6_firstFault_90 rfl rfl ?_
            refine P_cv1 (q := 94) dX6_firstFault_91 rfl kX6_33 (t_rowsAllowed hs e1) rfl rfl (by first | decide | exact lt_c (by decide)) (by assumption) rfl ⟨by decide, by decide⟩ (Nat.le_of_ble_eq_true rfl) ⟨Nat.le_refl _, Nat.le_refl _⟩ ?_
            refine P_icmp_ge (q := 97) (tgt := 128) dX6_firstFault_94 rfl (by first | decide | exact lt_c (by decide)) (fun c_94 => ?_) (fun c_94 => ?_)
            · rw [nI_leI (by omega) (by omega)] at c_94
              refine P_iload_n (q := 129) dX6_firstFault_128 rfl rfl ?_
              refine P_iret dX6_firstFault_129 rfl (rfl) ?_
              have hpr := keyN (by first | (rw [if_neg (by rintro ⟨q1, q2, q3⟩; first | omega | (rw [c_45] at q2; cases q2)), if_neg (by omega)]))
              rw [hpr]
              exact ⟨rfl, fun k hk => (up_ne _ _ hk), ⟨hN, hch, _, _, _, g, up_at _ _ _, (up_ne _ _ (by first | decide | exact lt_c (by decide))).trans e2, e3⟩, fun s0 h0 => by cases h0⟩
            · rw [nI_leI (by omega) (by omega)] at c_94
              refine P_iload_n (q := 98) dX6_firstFault_97 rfl rfl ?_
              refine P_bipush (q := 100) (v := nI 43) dX6_firstFault_98 rfl (by decide +kernel) ?_
              refine P_icmp_ne (q := 103) (tgt := 122) dX6_firstFault_100 rfl (by first | decide | exact lt_c (by decide)) (fun c_100 => ?_) (fun c_100 => ?_)
              · rw [nI_eq (by omega) (by first | decide | exact lt_c (by decide))] at c_100
                refine P_iinc (q := 125) (L' := [_, _, _, _]) (v := nI (s.r + 1)) dX6_firstFault_122 rfl (by first | decide | exact lt_c (by decide)) rfl (nI_1 s.r) rfl ?_
                refine P_goto (tgt := 130) dX6_firstFault_125 (by first | decide | exact lt_c (by decide)) ?_
                refine P_iinc (q := 133) (L' := [_, _, _, _]) (v := nI (i + 1)) dX6_firstFault_130 rfl (by first | decide | exact lt_c (by decide)) rfl (nI_1 i) rfl ?_
                refine P_goto (tgt := 19) dX6_firstFault_133 (by first | decide | exact lt_c (by decide)) ?_
                (try rw [up_up]); first | exact key _ (if_pos ⟨c_37, c_45, by omega⟩) _ | exact key _ (by rw [if_neg (by omega), if_pos ⟨by omega, by omega⟩, if_pos (by omega)]) _ | exact key _ (by rw [if_neg (by omega), if_pos ⟨by omega, by omega⟩, if_neg (by omega)]) _
              · rw [nI_eq (by omega) (by first | decide | exact lt_c (by decide))] at c_100
                refine P_aload_n (q := 104) dX6_firstFault_103 rfl rfl ?_
                refine P_dup (q := 105) dX6_firstFault_104 rfl rfl ?_
                refine P_get (q := 108) dX6_firstFault_105 rfl fX6_25 (by first | decide | exact lt_c (by decide)) (by assumption) rfl ?_
                refine P_iload_n (q := 109) dX6_firstFault_108 rfl rfl ?_
                refine P_aload_n (q := 110) dX6_firstFault_109 rfl rfl ?_
                refine P_get (q := 113) dX6_firstFault_110 rfl fX6_19 (by first | decide | exact lt_c (by decide)) (by assumption) rfl ?_
                refine P_iconst (q := 114) (v := nI 1) dX6_firstFault_113 rfl (by decide +kernel) ?_
                refine P_isub (q := 115) dX6_firstFault_114 rfl ?_
                rw [pk_sub (by omega)]
                refine P_cs1 (q := 118) dX6_firstFault_115 rfl kX6_37 (t_bit s.r (s.k - 1) (by omega)) rfl rfl ⟨by decide, by decide⟩ (Nat.le_of_ble_eq_true rfl) ⟨Nat.le_refl _, Nat.le_refl _⟩ ?_
                refine P_lor (q := 119) dX6_firstFault_118 rfl ?_
                rw [lN_or (by omega) (Nat.lt_of_lt_of_le (Nat.pow_lt_pow_right (by first | decide | exact lt_c (by decide)) (show 4 * (s.k - 1) + s.r < 64 by unfold Ps.most at c_94; split at c_94 <;> omega)) (Nat.le_refl _))]
                refine P_put (q := 122) (fs' := [_, _, _, _, _]) dX6_firstFault_119 rfl gX6_25 (by first | decide | exact lt_c (by decide)) (by assumption) (fun _ => rfl) (fun _ => rfl) (Nat.le_of_ble_eq_true rfl) rfl (up_up _ _ _ _) ?_
                refine P_iinc (q := 125) (L' := [_, _, _, _]) (v := nI (s.r + 1)) dX6_firstFault_122 rfl (by first | decide | exact lt_c (by decide)) rfl (nI_1 s.r) rfl ?_
                refine P_goto (tgt := 130) dX6_firstFault_125 (by first | decide | exact lt_c (by decide)) ?_
                refine P_iinc (q := 133) (L' := [_, _, _, _]) (v := nI (i + 1)) dX6_firstFault_130 rfl (by first | decide | exact lt_c (by decide)) rfl (nI_1 i) rfl ?_
                refine P_goto (tgt := 19) dX6_firstFault_133 (by first | decide | exact lt_c (by decide)) ?_
                (try rw [up_up]); first | exact key _ (if_pos ⟨c_37, c_45, by omega⟩) _ | exact key _ (by rw [if_neg (by omega), if_pos ⟨by omega, by omega⟩, if_pos (by omega)]) _ | exact key _ (by rw [if_neg (by omega), if_pos ⟨by omega, by omega⟩, if_neg (by omega)]) _
          · rw [nI_eq (by omega) (by first | decide | exact lt_c (by decide))] at c_80
            refine P_iload_n (q := 84) dX6_firstFault_83 rfl rfl ?_
            refine P_bipush (q := 86) (v := nI 45) dX6_firstFault_84 rfl (by decide +kernel) ?_
            refine P_icmp_ne (q := 89) (tgt := 128) dX6_firstFault_86 rfl (by first | decide | exact lt_c (by decide)) (fun c_86 => ?_) (fun c_86 => ?_)
            · rw [nI_eq (by omega) (by first | decide | exact lt_c (by decide))] at c_86
              refine P_iload_n (q := 129) dX6_firstFault_128 rfl rfl ?_
              refine P_iret dX6_firstFault_129 rfl (rfl) ?_
              have hpr := keyN (by first | (rw [if_neg (by rintro ⟨q1, q2, q3⟩; first | omega | (rw [c_45] at q2; cases q2)), if_neg (by omega)]))
              rw [hpr]
              exact ⟨rfl, fun k hk => (up_ne _ _ hk), ⟨hN, hch, _, _, _, g, up_at _ _ _, (up_ne _ _ (by first | decide | exact lt_c (by decide))).trans e2, e3⟩, fun s0 h0 => by cases h0⟩
            · rw [nI_eq (by omega) (by first | decide | exact lt_c (by decide))] at c_86
              refine P_iload_n (q := 90) dX6_firstFault_89 rfl rfl ?_
              refine P_aload_n (q := 91) dX6_firstFault_90 rfl rfl ?_
              refine P_cv1 (q := 94) dX6_firstFault_91 rfl kX6_33 (t_rowsAllowed hs e1) rfl rfl (by first | decide | exact lt_c (by decide)) (by assumption) rfl ⟨by decide, by decide⟩ (Nat.le_of_ble_eq_true rfl) ⟨Nat.le_refl _, Nat.le_refl _⟩ ?_
              refine P_icmp_ge (q := 97) (tgt := 128) dX6_firstFault_94 rfl (by first | decide | exact lt_c (by decide)) (fun c_94 => ?_) (fun c_94 => ?_)
              · rw [nI_leI (by omega) (by omega)] at c_94
                refine P_iload_n (q := 129) dX6_firstFault_128 rfl rfl ?_
                refine P_iret dX6_firstFault_129 rfl (rfl) ?_
                have hpr := keyN (by first | (rw [if_neg (by rintro ⟨q1, q2, q3⟩; first | omega | (rw [c_45] at q2; cases q2)), if_neg (by omega)]))
                rw [hpr]
                exact ⟨rfl, fun k hk => (up_ne _ _ hk), ⟨hN, hch, _, _, _, g, up_at _ _ _, (up_ne _ _ (by first | decide | exact lt_c (by decide))).trans e2, e3⟩, fun s0 h0 => by cases h0⟩
              · rw [nI_leI (by omega) (by omega)] at c_94
                refine P_iload_n (q := 98) dX6_firstFault_97 rfl rfl ?_
                refine P_bipush (q := 100) (v := nI 43) dX6_firstFault_98 rfl (by decide +kernel) ?_
                refine P_icmp_ne (q := 103) (tgt := 122) dX6_firstFault_100 rfl (by first | decide | exact lt_c (by decide)) (fun c_100 => ?_) (fun c_100 => ?_)
                · rw [nI_eq (by omega) (by first | decide | exact lt_c (by decide))] at c_100
                  refine P_iinc (q := 125) (L' := [_, _, _, _]) (v := nI (s.r + 1)) dX6_firstFault_122 rfl (by first | decide | exact lt_c (by decide)) rfl (nI_1 s.r) rfl ?_
                  refine P_goto (tgt := 130) dX6_firstFault_125 (by first | decide | exact lt_c (by decide)) ?_
                  refine P_iinc (q := 133) (L' := [_, _, _, _]) (v := nI (i + 1)) dX6_firstFault_130 rfl (by first | decide | exact lt_c (by decide)) rfl (nI_1 i) rfl ?_
                  refine P_goto (tgt := 19) dX6_firstFault_133 (by first | decide | exact lt_c (by decide)) ?_
                  (try rw [up_up]); first | exact key _ (if_pos ⟨c_37, c_45, by omega⟩) _ | exact key _ (by rw [if_neg (by omega), if_pos ⟨by omega, by omega⟩, if_pos (by omega)]) _ | exact key _ (by rw [if_neg (by omega), if_pos ⟨by omega, by omega⟩, if_neg (by omega)]) _
                · rw [nI_eq (by omega) (by first | decide | exact lt_c (by decide))] at c_100
                  refine P_aload_n (q := 104) dX6_firstFault_103 rfl rfl ?_
                  refine P_dup (q := 105) dX6_firstFault_104 rfl rfl ?_
                  refine P_get (q := 108) dX6_firstFault_105 rfl fX6_25 (by first | decide | exact lt_c (by decide)) (by assumption) rfl ?_
                  refine P_iload_n (q := 109) dX6_firstFault_108 rfl rfl ?_
                  refine P_aload_n (q := 110) dX6_firstFault_109 rfl rfl ?_
                  refine P_get (q := 113) dX6_firstFault_110 rfl fX6_19 (by first | decide | exact lt_c (by decide)) (by assumption) rfl ?_
                  refine P_iconst (q := 114) (v := nI 1) dX6_firstFault_113 rfl (by decide +kernel) ?_
                  refine P_isub (q := 115) dX6_firstFault_114 rfl ?_
                  rw [pk_sub (by omega)]
                  refine P_cs1 (q := 118) dX6_firstFault_115 rfl kX6_37 (t_bit s.r (s.k - 1) (by omega)) rfl rfl ⟨by decide, by decide⟩ (Nat.le_of_ble_eq_true rfl) ⟨Nat.le_refl _, Nat.le_refl _⟩ ?_
                  refine P_lor (q := 119) dX6_firstFault_118 rfl ?_
                  rw [lN_or (by omega) (Nat.lt_of_lt_of_le (Nat.pow_lt_pow_right (by first | decide | exact lt_c (by decide)) (show 4 * (s.k - 1) + s.r < 64 by unfold Ps.most at c_94; split at c_94 <;> omega)) (Nat.le_refl _))]
                  refine P_put (q := 122) (fs' := [_, _, _, _, _]) dX6_firstFault_119 rfl gX6_25 (by first | decide | exact lt_c (by decide)) (by assumption) (fun _ => rfl) (fun _ => rfl) (Nat.le_of_ble_eq_true rfl) rfl (up_up _ _ _ _) ?_
                  refine P_iinc (q := 125) (L' := [_, _, _, _]) (v := nI (s.r + 1)) dX6_firstFault_122 rfl (by first | decide | exact lt_c (by decide)) rfl (nI_1 s.r) rfl ?_
                  refine P_goto (tgt := 130) dX6_firstFault_125 (by first | decide | exact lt_c (by decide)) ?_
                  refine P_iinc (q := 133) (L' := [_, _, _, _]) (v := nI (i + 1)) dX6_firstFault_130 rfl (by first | decide | exact lt_c (by decide)) rfl (nI_1 i) rfl ?_
                  refine P_goto (tgt := 19) dX6_firstFault_133 (by first | decide | exact lt_c (by decide)) ?_
                  (try rw [up_up]); first | exact key _ (if_pos ⟨c_37, c_45, by omega⟩) _ | exact key _ (by rw [if_neg (by omega), if_pos ⟨by omega, by omega⟩, if_pos (by omega)]) _ | exact key _ (by rw [if_neg (by omega), if_pos ⟨by omega, by omega⟩, if_neg (by omega)]) _
        · rw [bI_n] at c_45
          refine P_aload_n (q := 49) dX6_firstFault_48 rfl rfl ?_
          refine P_get (q := 52) dX6_firstFault_49 rfl fX6_19 (by first | decide | exact lt_c (by decide)) (by assumption) rfl ?_
          refine P_bipush (q := 54) (v := nI 10) dX6_firstFault_52 rfl (by decide +kernel) ?_
          refine P_icmp_ge (q := 57) (tgt := 77) dX6_firstFault_54 rfl (by first | decide | exact lt_c (by decide)) (fun c_54 => ?_) (fun c_54 => ?_)
          · rw [nI_leI (by omega) (by omega)] at c_54
            refine P_iload_n (q := 78) dX6_firstFault_77 rfl rfl ?_
            refine P_bipush (q := 80) (v := nI 43) dX6_firstFault_78 rfl (by decide +kernel) ?_
            refine P_icmp_eq (q := 83) (tgt := 89) dX6_firstFault_80 rfl (by first | decide | exact lt_c (by decide)) (fun c_80 => ?_) (fun c_80 => ?_)
            · rw [nI_eq (by omega) (by first | decide | exact lt_c (by decide))] at c_80
              refine P_iload_n (q := 90) dX6_firstFault_89 rfl rfl ?_
              refine P_aload_n (q := 91) dX6_firstFault_90 rfl rfl ?_
              refine P_cv1 (q := 94) dX6_firstFault_91 rfl kX6_33 (t_rowsAllowed hs e1) rfl rfl (by first | decide | exact lt_c (by decide)) (by assumption) rfl ⟨by decide, by decide⟩ (Nat.le_of_ble_eq_true rfl) ⟨Nat.le_refl _, Nat.le_refl _⟩ ?_
              refine P_icmp_ge (q := 97) (tgt := 128) dX6_firstFault_94 rfl (by first | decide | exact lt_c (by decide)) (fun c_94 => ?_) (fun c_94 => ?_)
              · rw [nI_leI (by omega) (by omega)] at c_94
                refine P_iload_n (q := 129) dX6_firstFault_128 rfl rfl ?_
                refine P_iret dX6_firstFault_129 rfl (rfl) ?_
                have hpr := keyN (by first | (rw [if_neg (by rintro ⟨q1, q2, q3⟩; first | omega | (rw [c_45] at q2; cases q2)), if_neg (by omega)]))
                rw [hpr]
                exact ⟨rfl, fun k hk => (up_ne _ _ hk), ⟨hN, hch, _, _, _, g, up_at _ _ _, (up_ne _ _ (by first | decide | exact lt_c (by decide))).trans e2, e3⟩, fun s0 h0 => by cases h0⟩
              · rw [nI_leI (by omega) (by omega)] at c_94
                refine P_iload_n (q := 98) dX6_firstFault_97 rfl rfl ?_
                refine P_bipush (q := 100) (v := nI 43) dX6_firstFault_98 rfl (by decide +kernel) ?_
                refine P_icmp_ne (q := 103) (tgt := 122) dX6_firstFault_100 rfl (by first | decide | exact lt_c (by decide)) (fun c_100 => ?_) (fun c_100 => ?_)
                · rw [nI_eq (by omega) (by first | decide | exact lt_c (by decide))] at c_100
                  refine P_iinc (q := 125) (L' := [_, _, _, _]) (v := nI (s.r + 1)) dX6_firstFault_122 rfl (by first | decide | exact lt_c (by decide)) rfl (nI_1 s.r) rfl ?_
                  refine P_goto (tgt := 130) dX6_firstFault_125 (by first | decide | exact lt_c (by decide)) ?_
                  refine P_iinc (q := 133) (L' := [_, _, _, _]) (v := nI (i + 1)) dX6_firstFault_130 rfl (by first | decide | exact lt_c (by decide)) rfl (nI_1 i) rfl ?_
                  refine P_goto (tgt := 19) dX6_firstFault_133 (by first | decide | exact lt_c (by decide)) ?_
                  (try rw [up_up]); first | exact key _ (if_pos ⟨c_37, c_45, by omega⟩) _ | exact key _ (by rw [if_neg (by omega), if_pos ⟨by omega, by omega⟩, if_pos (by omega)]) _ | exact key _ (by rw [if_neg (by omega), if_pos ⟨by omega, by omega⟩, if_neg (by omega)]) _
                · rw [nI_eq (by omega) (by first | decide | exact lt_c (by decide))] at c_100
                  refine P_aload_n (q := 104) dX6_firstFault_103 rfl rfl ?_
                  refine P_dup (q := 105) dX6_firstFault_104 rfl rfl ?_
                  refine P_get (q := 108) dX6_firstFault_105 rfl fX6_25 (by first | decide | exact lt_c (by decide)) (by assumption) rfl ?_
                  refine P_iload_n (q := 109) dX6_firstFault_108 rfl rfl ?_
                  refine P_aload_n (q := 110) dX6_firstFault_109 rfl rfl ?_
                  refine P_get (q := 113) dX6_firstFault_110 rfl fX6_19 (by first | decide | exact lt_c (by decide)) (by assumption) rfl ?_
                  refine P_iconst (q := 114) (v := nI 1) dX6_firstFault_113 rfl (by decide +kernel) ?_
                  refine P_isub (q := 115) dX6_firstFault_114 rfl ?_
                  rw [pk_sub (by omega)]
                  refine P_cs1 (q := 118) dX6_firstFault_115 rfl kX6_37 (t_bit s.r (s.k - 1) (by omega)) rfl rfl ⟨by decide, by decide⟩ (Nat.le_of_ble_eq_true rfl) ⟨Nat.le_refl _, Nat.le_refl _⟩ ?_
                  refine P_lor (q := 119) dX6_firstFault_118 rfl ?_
                  rw [lN_or (by omega) (Nat.lt_of_lt_of_le (Nat.pow_lt_pow_right (by first | decide | exact lt_c (by decide)) (show 4 * (s.k - 1) + s.r < 64 by unfold Ps.most at c_94; split at c_94 <;> omega)) (Nat.le_refl _))]
                  refine P_put (q := 122) (fs' := [_, _, _, _, _]) dX6_firstFault_119 rfl gX6_25 (by first | decide | exact lt_c (by decide)) (by assumption) (fun _ => rfl) (fun _ => rfl) (Nat.le_of_ble_eq_true rfl) rfl (up_up _ _ _ _) ?_
                  refine P_iinc (q := 125) (L' := [_, _, _, _]) (v := nI (s.r + 1)) dX6_firstFault_122 rfl (by first | decide | exact lt_c (by decide)) rfl (nI_1 s.r) rfl ?_
                  refine P_goto (tgt := 130) dX6_firstFault_125 (by first | decide | exact lt_c (by decide)) ?_
                  refine P_iinc (q := 133) (L' := [_, _, _, _]) (v := nI (i + 1)) dX6_firstFault_130 rfl (by first | decide | exact lt_c (by decide)) rfl (nI_1 i) rfl ?_
                  refine P_goto (tgt := 19) dX6_firstFault_133 (by first | decide | exact lt_c (by decide)) ?_
                  (try rw [up_up]); first | exact key _ (if_pos ⟨c_37, c_45, by omega⟩) _ | exact key _ (by rw [if_neg (by omega), if_pos ⟨by omega, by omega⟩, if_pos (by omega)]) _ | exact key _ (by rw [if_neg (by omega), if_pos ⟨by omega, by omega⟩, if_neg (by omega)]) _
            · rw [nI_eq (by omega) (by first | decide | exact lt_c (by decide))] at c_80
              refine P_iload_n (q := 84) dX6_firstFault_83 rfl rfl ?_
              refine P_bipush (q := 86) (v := nI 45) dX6_firstFault_84 rfl (by decide +kernel) ?_
              refine P_icmp_ne (q := 89) (tgt := 128) dX6_firstFault_86 rfl (by first | decide | exact lt_c (by decide)) (fun c_86 => ?_) (fun c_86 => ?_)
              · rw [nI_eq (by omega) (by first | decide | exact lt_c (by decide))] at c_86
                refine P_iload_n (q := 129) dX6_firstFault_128 rfl rfl ?_
                refine P_iret dX6_firstFault_129 rfl (rfl) ?_
                have hpr := keyN (by first | (rw [if_neg (by rintro ⟨q1, q2, q3⟩; first | omega | (rw [c_45] at q2; cases q2)), if_neg (by omega)]))
                rw [hpr]
                exact ⟨rfl, fun k hk => (up_ne _ _ hk), ⟨hN, hch, _, _, _, g, up_at _ _ _, (up_ne _ _ (by first | decide | exact lt_c (by decide))).trans e2, e3⟩, fun s0 h0 => by cases h0⟩
              · rw [nI_eq (by omega) (by first | decide | exact lt_c (by decide))] at c_86
                refine P_iload_n (q := 90) dX6_firstFault_89 rfl rfl ?_
                refine P_aload_n (q := 91) dX6_firstFault_90 rfl rfl ?_
                refine P_cv1 (q := 94) dX6_firstFault_91 rfl kX6_33 (t_rowsAllowed hs e1) rfl rfl (by first | decide | exact lt_c (by decide)) (by assumption) rfl ⟨by decide, by decide⟩ (Nat.le_of_ble_eq_true rfl) ⟨Nat.le_refl _, Nat.le_refl _⟩ ?_
                refine P_icmp_ge (q := 97) (tgt := 128) dX6_firstFault_94 rfl (by first | decide | exact lt_c (by decide)) (fun c_94 => ?_) (fun c_94 => ?_)
                · rw [nI_leI (by omega) (by omega)] at c_94
                  refine P_iload_n (q := 129) dX6_firstFault_128 rfl rfl ?_
                  refine P_iret dX6_firstFault_129 rfl (rfl) ?_
                  have hpr := keyN (by first | (rw [if_neg (by rintro ⟨q1, q2, q3⟩; first | omega | (rw [c_45] at q2; cases q2)), if_neg (by omega)]))
                  rw [hpr]
                  exact ⟨rfl, fun k hk => (up_ne _ _ hk), ⟨hN, hch, _, _, _, g, up_at _ _ _, (up_ne _ _ (by first | decide | exact lt_c (by decide))).trans e2, e3⟩, fun s0 h0 => by cases h0⟩
                · rw [nI_leI (by omega) (by omega)] at c_94
                  refine P_iload_n (q := 98) dX6_firstFault_97 rfl rfl ?_
                  refine P_bipush (q := 100) (v := nI 43) dX6_firstFault_98 rfl (by decide +kernel) ?_
                  refine P_icmp_ne (q := 103) (tgt := 122) dX6_firstFault_100 rfl (by first | decide | exact lt_c (by decide)) (fun c_100 => ?_) (fun c_100 => ?_)
                  · rw [nI_eq (by omega) (by first | decide | exact lt_c (by decide))] at c_100
                    refine P_iinc (q := 125) (L' := [_, _, _, _]) (v := nI (s.r + 1)) dX6_firstFault_122 rfl (by first | decide | exact lt_c (by decide)) rfl (nI_1 s.r) rfl ?_
                    refine P_goto (tgt := 130) dX6_firstFault_125 (by first | decide | exact lt_c (by decide)) ?_
                    refine P_iinc (q := 133) (L' := [_, _, _, _]) (v := nI (i + 1)) dX6_firstFault_130 rfl (by first | decide | exact lt_c (by decide)) rfl (nI_1 i) rfl ?_
                    refine P_goto (tgt := 19) dX6_firstFault_133 (by first | decide | exact lt_c (by decide)) ?_
                    (try rw [up_up]); first | exact key _ (if_pos ⟨c_37, c_45, by omega⟩) _ | exact key _ (by rw [if_neg (by omega), if_pos ⟨by omega, by omega⟩, if_pos (by omega)]) _ | exact key _ (by rw [if_neg (by omega), if_pos ⟨by omega, by omega⟩, if_neg (by omega)]) _
                  · rw [nI_eq (by omega) (by first | decide | exact lt_c (by decide))] at c_100
                    refine P_aload_n (q := 104) dX6_firstFault_103 rfl rfl ?_
                    refine P_dup (q := 105) dX6_firstFault_104 rfl rfl ?_
                    refine P_get (q := 108) dX6_firstFault_105 rfl fX6_25 (by first | decide | exact lt_c (by decide)) (by assumption) rfl ?_
                    refine P_iload_n (q := 109) dX6_firstFault_108 rfl rfl ?_
                    refine P_aload_n (q := 110) dX6_firstFault_109 rfl rfl ?_
                    refine P_get (q := 113) dX6_firstFault_110 rfl fX6_19 (by first | decide | exact lt_c (by decide)) (by assumption) rfl ?_
                    refine P_iconst (q := 114) (v := nI 1) dX6_firstFault_113 rfl (by decide +kernel) ?_
                    refine P_isub (q := 115) dX6_firstFault_114 rfl ?_
                    rw [pk_sub (by omega)]
                    refine P_cs1 (q := 118) dX6_firstFault_115 rfl kX6_37 (t_bit s.r (s.k - 1) (by omega)) rfl rfl ⟨by decide, by decide⟩ (Nat.le_of_ble_eq_true rfl) ⟨Nat.le_refl _, Nat.le_refl _⟩ ?_
                    refine P_lor (q := 119) dX6_firstFault_118 rfl ?_
                    rw [lN_or (by omega) (Nat.lt_of_lt_of_le (Nat.pow_lt_pow_right (by first | decide | exact lt_c (by decide)) (show 4 * (s.k - 1) + s.r < 64 by unfold Ps.most at c_94; split at c_94 <;> omega)) (Nat.le_refl _))]
                    refine P_put (q := 122) (fs' := [_, _, _, _, _]) dX6_firstFault_119 rfl gX6_25 (by first | decide | exact lt_c (by decide)) (by assumption) (fun _ => rfl) (fun _ => rfl) (Nat.le_of_ble_eq_true rfl) rfl (up_up _ _ _ _) ?_
                    refine P_iinc (q := 125) (L' := [_, _, _, _]) (v := nI (s.r + 1)) dX6_firstFault_122 rfl (by first | decide | exact lt_c (by decide)) rfl (nI_1 s.r) rfl ?_
                    refine P_goto (tgt := 130) dX6_firstFault_125 (by first | decide | exact lt_c (by decide)) ?_
                    refine P_iinc (q := 133) (L' := [_, _, _, _]) (v := nI (i + 1)) dX6_firstFault_130 rfl (by first | decide | exact lt_c (by decide)) rfl (nI_1 i) rfl ?_
                    refine P_goto (tgt := 19) dX6_firstFault_133 (by first | decide | exact lt_c (by decide)) ?_
                    (try rw [up_up]); first | exact key _ (if_pos ⟨c_37, c_45, by omega⟩) _ | exact key _ (by rw [if_neg (by omega), if_pos ⟨by omega, by omega⟩, if_pos (by omega)]) _ | exact key _ (by rw [if_neg (by omega), if_pos ⟨by omega, by omega⟩, if_neg (by omega)]) _
          · rw [nI_leI (by omega) (by omega)] at c_54
            refine P_aload_n (q := 58) dX6_firstFault_57 rfl rfl ?_
            refine P_iload_n (q := 59) dX6_firstFault_58 rfl rfl ?_
            refine P_put (q := 62) (fs' := [_, _, _, _, _]) dX6_firstFault_59 rfl gX6_22 (by first | decide | exact lt_c (by decide)) (by assumption) (fun _ => rfl) (fun _ => rfl) (Nat.le_of_ble_eq_true rfl) rfl (rfl) ?_
            refine P_aload_n (q := 63) dX6_firstFault_62 rfl rfl ?_
            refine P_dup (q := 64) dX6_firstFault_63 rfl rfl ?_
            refine P_get (q := 67) dX6_firstFault_64 rfl fX6_19 (by first | decide | exact lt_c (by decide)) (up_at _ _ _) rfl ?_
            refine P_iconst (q := 68) (v := nI 1) dX6_firstFault_67 rfl (by decide +kernel) ?_
            refine P_iadd (q := 69) dX6_firstFault_68 rfl ?_
            rw [nI_add]
            refine P_put (q := 72) (fs' := [_, _, _, _, _]) dX6_firstFault_69 rfl gX6_19 (by first | decide | exact lt_c (by decide)) (up_at _ _ _) (fun _ => rfl) (fun _ => rfl) (Nat.le_of_ble_eq_true rfl) rfl (up_up _ _ _ _) ?_
            refine P_iconst (q := 73) (v := nI 0) dX6_firstFault_72 rfl (by decide +kernel) ?_
            refine P_istore_n (q := 74) (L' := [_, _, _, _]) dX6_firstFault_73 rfl (by first | decide | exact lt_c (by decide)) rfl ?_
            refine P_goto (tgt := 130) dX6_firstFault_74 (by first | decide | exact lt_c (by decide)) ?_
            refine P_iinc (q := 133) (L' := [_, _, _, _]) (v := nI (i + 1)) dX6_firstFault_130 rfl (by first | decide | exact lt_c (by decide)) rfl (nI_1 i) rfl ?_
            refine P_goto (tgt := 19) dX6_firstFault_133 (by first | decide | exact lt_c (by decide)) ?_
            (try rw [up_up]); first | exact key _ (if_pos ⟨c_37, c_45, by omega⟩) _ | exact key _ (by rw [if_neg (by omega), if_pos ⟨by omega, by omega⟩, if_pos (by omega)]) _ | exact key _ (by rw [if_neg (by omega), if_pos ⟨by omega, by omega⟩, if_neg (by omega)]) _
set_option maxRecDepth 100000 in
set_option maxHeartbeats 4000000 in
theorem t_firstFault {σ : Sto} {N : Nat} {ch : Nat → Nat} (hT : TW σ N ch) : CP mX6_firstFault 0 0 [.ref 112] (eN + 114) σ (fun v σ' => v = some (.int (ffV (prs ch N 0 (1, 0, 0, 0)))) ∧ same σ σ' (fun k => k = 112) ∧ TW σ' N ch ∧ ∀ s, prs ch N 0 (1, 0, 0, 0) = .inr s → σ' 112 = txO N s.k s.r s.u) := by
  obtain ⟨hN, hch, c, r, u, g, e1, e2, e3⟩ := hT
  refine CP_of (by decide +kernel) (Nat.le_of_ble_eq_true rfl) ?_
  change PW _ _ _ _ 0 [_, _, _, _] [] _ _ _ _
  refine P_aload_n (q := 1) dX6_firstFault_0 rfl rfl ?_
  refine P_iconst (q := 2) (v := nI 1) dX6_firstFault_1 rfl (by decide +kernel) ?_
  refine P_put (q := 5) (fs' := [_, _, _, _, _]) dX6_firstFault_2 rfl gX6_19 (by first | decide | exact lt_c (by decide)) (by assumption) (fun _ => rfl) (fun _ => rfl) (Nat.le_of_ble_eq_true rfl) rfl (rfl) ?_
  refine P_aload_n (q := 6) dX6_firstFault_5 rfl rfl ?_
  refine P_iconst (q := 7) (v := nI 0) dX6_firstFault_6 rfl (by decide +kernel) ?_
  refine P_put (q := 10) (fs' := [_, _, _, _, _]) dX6_firstFault_7 rfl gX6_22 (by first | decide | exact lt_c (by decide)) (up_at _ _ _) (fun _ => rfl) (fun _ => rfl) (Nat.le_of_ble_eq_true rfl) rfl (up_up _ _ _ _) ?_
  refine P_aload_n (q := 11) dX6_firstFault_10 rfl rfl ?_
  refine P_lconst (q := 12) (v := lN 0) dX6_firstFault_11 rfl (by decide +kernel) ?_
  refine P_put (q := 15) (fs' := [_, _, _, _, _]) dX6_firstFault_12 rfl gX6_25 (by first | decide | exact lt_c (by decide)) (up_at _ _ _) (fun _ => rfl) (fun _ => rfl) (Nat.le_of_ble_eq_true rfl) rfl (up_up _ _ _ _) ?_
  refine P_iconst (q := 16) (v := nI 0) dX6_firstFault_15 rfl (by decide +kernel) ?_
  refine P_istore_n (q := 17) (L' := [_, _, _, _]) dX6_firstFault_16 rfl (by first | decide | exact lt_c (by decide)) rfl ?_
  refine P_iconst (q := 18) (v := nI 0) dX6_firstFault_17 rfl (by decide +kernel) ?_
  refine P_istore_n (q := 19) (L' := [_, _, _, _]) dX6_firstFault_18 rfl (by first | decide | exact lt_c (by decide)) rfl ?_
  exact w_ff hN hch e2 e3 N 0 (by omega) (1, 0, 0, 0) (by unfold Ps.ok Ps.k Ps.rw Ps.r Ps.u; decide) rfl _
