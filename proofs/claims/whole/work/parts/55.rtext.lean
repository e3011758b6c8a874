/-! THE REFERENCE: faults of a text -/
def isS (x : Nat) : Bool := decide (x = 43 ∨ x = 45)
/-- how many signs stand from p on, at most m -/
def rsN (ch : Nat → Nat) (n : Nat) : Nat → Nat → Nat
  | 0, _ => 0
  | m + 1, p => if p < n ∧ isS (ch p) = true then rsN ch n m (p + 1) + 1 else 0
def flt (ch : Nat → Nat) (n rows : Nat) : Nat → Nat → Nat → Nat ⊕ Nat
  | 0, k, p => if p = n then .inr k else .inl p
  | f + 1, k, p => if p < n ∧ ch p = 44 then (if rsN ch n rows (p + 1) < rows then .inl (p + 1 + rsN ch n rows (p + 1)) else flt ch n rows f (k + 1) (p + 1 + rows)) else if p = n then .inr k else .inl p
theorem rsN_le (ch : Nat → Nat) (n : Nat) : ∀ m p, rsN ch n m p ≤ m ∧ (p ≤ n → p + rsN ch n m p ≤ n)
  | 0, p => ⟨Nat.le_refl _, fun h => h⟩
  | m + 1, p => by
    rw [rsN]
    have := rsN_le ch n m (p + 1)
    split
    · rename_i h
      exact ⟨by omega, fun _ => by have := this.2 (by omega); omega⟩
    · exact ⟨by omega, fun h => h⟩
set_option maxRecDepth 100000 in
set_option maxHeartbeats 4000000 in
theorem m_here {σ : Sto} {L k0 n p : Nat} {pl rc rr : Int32} {g : Nat → Int32} {ch : Nat → Nat} (hn : n ≤ 60) (hch : ∀ i, ch i < 65536) (h0 : σ 114 = moO L k0 pl n (nI p) rc rr) (h1 : σ 131 = pI .int 60 g) (hg : ∀ i, i < n → g i = nI (ch i)) (hp : p ≤ n) {x : Nat} (hx : x < 65536) : CD mX8_isHere [.ref 114, .int (nI x)] 132 σ (some (.int (bI (decide (p < n ∧ ch p = x))))) σ := by
  refine CP_of (by decide +kernel) (Nat.le_of_ble_eq_true rfl) ?_
  change PW _ _ _ _ 0 [_, _] [] _ _ _ _
  refine P_aload_n (q := 1) dX8_isHere_0 rfl rfl ?_
  refine P_get (q := 4) dX8_isHere_1 rfl fX8_207 (by decide) (h0) rfl ?_
  refine P_aload_n (q := 5) dX8_isHere_4 rfl rfl ?_
  refine P_get (q := 8) dX8_isHere_5 rfl fX8_204 (by decide) (h0) rfl ?_
  refine P_icmp_ge (q := 11) (tgt := 28) dX8_isHere_8 rfl (by decide) (fun c_8 => ?_) (fun c_8 => ?_)
  · rw [nI_leI (by omega) (by omega)] at c_8
    refine P_iconst (q := 29) (v := nI 0) dX8_isHere_28 rfl (by decide +kernel) ?_
    refine P_iret dX8_isHere_29 rfl (rfl) ?_
    exact ⟨rv_i (by first | (rw [decide_eq_true (by omega)]; rfl) | (rw [decide_eq_false (by omega)]; rfl)), rfl⟩
  · rw [nI_leI (by omega) (by omega)] at c_8
    refine P_aload_n (q := 12) dX8_isHere_11 rfl rfl ?_
    refine P_get (q := 15) dX8_isHere_12 rfl fX8_58 (by decide) (h0) rfl ?_
    refine P_aload_n (q := 16) dX8_isHere_15 rfl rfl ?_
    refine P_get (q := 19) dX8_isHere_16 rfl fX8_207 (by decide) (h0) rfl ?_
    refine P_iald (q := 20) (j := p) dX8_isHere_19 rfl (by decide) (h1) (rfl) (by omega) (by decide) ?_
    rw [hg p (by omega)]
    refine P_iload_n (q := 21) dX8_isHere_20 rfl rfl ?_
    have hcp := hch p
    refine P_icmp_ne (q := 24) (tgt := 28) dX8_isHere_21 rfl (by decide) (fun c_21 => ?_) (fun c_21 => ?_)
    · rw [nI_eq (by omega) (by omega)] at c_21
      refine P_iconst (q := 29) (v := nI 0) dX8_isHere_28 rfl (by decide +kernel) ?_
      refine P_iret dX8_isHere_29 rfl (rfl) ?_
      exact ⟨rv_i (by first | (rw [decide_eq_true (by omega)]; rfl) | (rw [decide_eq_false (by omega)]; rfl)), rfl⟩
    · rw [nI_eq (by omega) (by omega)] at c_21
      refine P_iconst (q := 25) (v := nI 1) dX8_isHere_24 rfl (by decide +kernel) ?_
      refine P_goto (tgt := 29) dX8_isHere_25 (by decide) ?_
      refine P_iret dX8_isHere_29 rfl (rfl) ?_
      exact ⟨rv_i (by first | (rw [decide_eq_true (by omega)]; rfl) | (rw [decide_eq_false (by omega)]; rfl)), rfl⟩
set_option maxRecDepth 100000 in
set_option maxHeartbeats 4000000 in
theorem m_signs {σ : Sto} {L k0 n p : Nat} {pl rc rr : Int32} {g : Nat → Int32} {ch : Nat → Nat} (hn : n ≤ 60) (hch : ∀ i, ch i < 65536) (h0 : σ 114 = moO L k0 pl n (nI p) rc rr) (h1 : σ 131 = pI .int 60 g) (hg : ∀ i, i < n → g i = nI (ch i)) (hp : p ≤ n) {m : Nat} (hm : m ≤ 3) : CD mX8_readsSigns [.ref 114, .int (nI m)] 132 σ (some (.int (nI (rsN ch n m p)))) (va_up σ 114 (moO L k0 pl n (nI (p + rsN ch n m p)) rc rr)) := by
  have lp : ∀ f i p', i + f = m → p' ≤ n → PW mX8_readsSigns 0 0 (fun v σ' => v = some (.int (nI (i + rsN ch n f p'))) ∧ σ' = va_up σ 114 (moO L k0 pl n (nI (p' + rsN ch n f p')) rc rr)) 2 [some (.ref 114), some (.int (nI m)), some (.int (nI i))] [] 132 (va_up σ 114 (moO L k0 pl n (nI p') rc rr)) 0 0 := by
   intro f
   induction f with
   | zero =>
    intro i p' hi hp'
    have e : i = m := by omega
    subst e
    refine P_iload_n (q := 3) dX8_readsSigns_2 rfl rfl ?_
    refine P_iload_n (q := 4) dX8_readsSigns_3 rfl rfl ?_
    refine P_icmp_ge (q := 7) (tgt := 41) dX8_readsSigns_4 rfl (by decide) (fun c_4 => ?_) (fun c_4 => ?_)
    · rw [nI_leI (by omega) (by omega)] at c_4
      refine P_iload_n (q := 42) dX8_readsSigns_41 rfl rfl ?_
      refine P_iret dX8_readsSigns_42 rfl (rfl) ?_
      exact ⟨rfl, rfl⟩
    · exfalso; rw [nI_leI (by omega) (by omega)] at c_4; omega
   | succ f ih =>
    intro i p' hi hp'
    have u1 : ∀ c, va_up σ 114 c 131 = pI .int 60 g := fun c => (up_ne _ _ (by omega)).trans h1
    have go : p' < n ∧ isS (ch p') = true → PW mX8_readsSigns 0 0 (fun v σ' => v = some (.int (nI (i + rsN ch n (f + 1) p'))) ∧ σ' = va_up σ 114 (moO L k0 pl n (nI (p' + rsN ch n (f + 1) p')) rc rr)) 25 [some (.ref 114), some (.int (nI m)), some (.int (nI i))] [] 132 (va_up σ 114 (moO L k0 pl n (nI p') rc rr)) 0 0 := fun h => by
      have hh := ih (i + 1) (p' + 1) (by omega) (by omega)
      rw [rsN, if_pos h]
      rw [show i + (rsN ch n f (p' + 1) + 1) = i + 1 + rsN ch n f (p' + 1) by omega, show p' + (rsN ch n f (p' + 1) + 1) = p' + 1 + rsN ch n f (p' + 1) by omega]
      refine P_aload_n (q := 26) dX8_readsSigns_25 rfl rfl ?_
      refine P_dup (q := 27) dX8_readsSigns_26 rfl rfl ?_
      refine P_get (q := 30) dX8_readsSigns_27 rfl fX8_207 (by decide) (up_at _ _ _) rfl ?_
      refine P_iconst (q := 31) (v := nI 1) dX8_readsSigns_30 rfl (by decide +kernel) ?_
      refine P_iadd (q := 32) dX8_readsSigns_31 rfl ?_
      rw [show nI p' + nI 1 = nI (p' + 1) from nI_1 p']
      refine P_put (q := 35) (fs' := [_, _, _, _, _, _, _, _, _, _, _, _, _, _, _, _, _, _, _, _, _, _, _, _]) (σ' := va_up σ 114 (moO L k0 pl n (nI (p' + 1)) rc rr)) dX8_readsSigns_32 rfl gX8_207 (by decide) (up_at _ _ _) (fun _ => rfl) (fun _ => rfl) (Nat.le_of_ble_eq_true rfl) rfl (up_up _ _ _ _) ?_
      refine P_iinc (q := 38) (L' := [_, _, _]) (v := nI (i + 1)) dX8_readsSigns_35 rfl (by decide) rfl (nI_1 i) rfl ?_
      refine P_goto (tgt := 2) dX8_readsSigns_38 (by decide) ?_
      exact hh
    refine P_iload_n (q := 3) dX8_readsSigns_2 rfl rfl ?_
    refine P_iload_n (q := 4) dX8_readsSigns_3 rfl rfl ?_
    refine P_icmp_ge (q := 7) (tgt := 41) dX8_readsSigns_4 rfl (by decide) (fun c_4 => ?_) (fun c_4 => ?_)
    · exfalso; rw [nI_leI (by omega) (by omega)] at c_4; omega
    · rw [nI_leI (by omega) (by omega)] at c_4
      refine P_aload_n (q := 8) dX8_readsSigns_7 rfl rfl ?_
      refine P_bipush (q := 10) (v := nI 43) dX8_readsSigns_8 rfl (by decide +kernel) ?_
      refine P_cv1 (q := 13) dX8_readsSigns_10 rfl kX8_210 (m_here (p := p') hn hch (up_at _ _ _) (u1 _) hg hp' (x := 43) (by decide)) rfl rfl (by decide) (up_at _ _ _) rfl ⟨by decide, by decide⟩ (Nat.le_of_ble_eq_true rfl) ⟨Nat.le_refl _, Nat.le_refl _⟩ ?_
      refine P_if_ne (q := 16) (tgt := 25) dX8_readsSigns_13 rfl (by decide) (fun c_13 => ?_) (fun c_13 => ?_)
      · rw [bI_n] at c_13
        have c_13 := of_decide_eq_true c_13
        first | exact go ⟨c_13.1, decide_eq_true (Or.inl c_13.2)⟩ | exact go ⟨c_22.1, decide_eq_true (Or.inr c_22.2)⟩
      · rw [bI_0] at c_13
        have c_13 := of_decide_eq_false c_13
        refine P_aload_n (q := 17) dX8_readsSigns_16 rfl rfl ?_
        refine P_bipush (q := 19) (v := nI 45) dX8_readsSigns_17 rfl (by decide +kernel) ?_
        refine P_cv1 (q := 22) dX8_readsSigns_19 rfl kX8_210 (m_here (p := p') hn hch (up_at _ _ _) (u1 _) hg hp' (x := 45) (by decide)) rfl rfl (by decide) (up_at _ _ _) rfl ⟨by decide, by decide⟩ (Nat.le_of_ble_eq_true rfl) ⟨Nat.le_refl _, Nat.le_refl _⟩ ?_
        refine P_if_eq (q := 25) (tgt := 41) dX8_readsSigns_22 rfl (by decide) (fun c_22 => ?_) (fun c_22 => ?_)
        · rw [bI_0] at c_22
          have c_22 := of_decide_eq_false c_22
          refine P_iload_n (q := 42) dX8_readsSigns_41 rfl rfl ?_
          refine P_iret dX8_readsSigns_42 rfl (rfl) ?_
          rw [rsN, if_neg (fun q => (of_decide_eq_true q.2).elim (fun e => c_13 ⟨q.1, e⟩) (fun e => c_22 ⟨q.1, e⟩))]
          exact ⟨rfl, rfl⟩
        · rw [bI_n] at c_22
          have c_22 := of_decide_eq_true c_22
          first | exact go ⟨c_13.1, decide_eq_true (Or.inl c_13.2)⟩ | exact go ⟨c_22.1, decide_eq_true (Or.inr c_22.2)⟩
  refine CP_of (by decide +kernel) (Nat.le_of_ble_eq_true rfl) ?_
  change PW _ _ _ _ 0 [_, _, _] [] _ _ _ _
  refine P_iconst (q := 1) (v := nI 0) dX8_readsSigns_0 rfl (by decide +kernel) ?_
  refine P_istore_n (q := 2) (L' := [_, _, _]) dX8_readsSigns_1 rfl (by decide) rfl ?_
  have h := lp m 0 p (by omega) hp
  rw [up_self h0, Nat.zero_add] at h
  exact h
