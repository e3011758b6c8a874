/-! THE REFERENCE: the fault of a text -/
def ftV : Nat ⊕ Nat → Int32
  | .inl p => nI p
  | .inr _ => iI (-1005)
def ftA (ch : Nat → Nat) (n : Nat) : Nat ⊕ Nat := if rsN ch n 3 0 = 0 then .inl 0 else flt ch n (rsN ch n 3 0) 9 1 (rsN ch n 3 0)
set_option maxRecDepth 100000 in
set_option maxHeartbeats 4000000 in
theorem m_fault {σ : Sto} {L k0 n : Nat} {pl sp rc rr : Int32} {g : Nat → Int32} {ch : Nat → Nat} (hn : n ≤ 60) (hch : ∀ i, ch i < 65536) (h0 : σ 114 = moO L k0 pl n sp rc rr) (h1 : σ 131 = pI .int 60 g) (hg : ∀ i, i < n → g i = nI (ch i)) : CP mX8_fault 0 0 [.ref 114] 132 σ (fun v σ' => v = some (.int (ftV (ftA ch n))) ∧ ∃ s' k', σ' = va_up σ 114 (moO L k0 pl n s' (nI k') (nI (rsN ch n 3 0))) ∧ ∀ q, ftA ch n = .inr q → k' = q) := by
  have u1 : ∀ c, va_up σ 114 c 131 = pI .int 60 g := fun c => (up_ne _ _ (by omega)).trans h1
  have lp : ∀ rows, rows ≤ 3 → ∀ f k p, k + f = 10 → p ≤ n → PW mX8_fault 0 0 (fun v σ' => v = some (.int (ftV (flt ch n rows f k p))) ∧ ∃ s' k', σ' = va_up σ 114 (moO L k0 pl n s' (nI k') (nI rows)) ∧ ∀ q, flt ch n rows f k p = .inr q → k' = q) 31 [some (.ref 114)] [] 132 (va_up σ 114 (moO L k0 pl n (nI p) (nI k) (nI rows))) 0 0 := by
   intro rows hrows f
   have last : ∀ (E : Nat ⊕ Nat) k p, p ≤ n → E = (if p = n then .inr k else .inl p) → PW mX8_fault 0 0 (fun v σ' => v = some (.int (ftV (E))) ∧ ∃ s' k', σ' = va_up σ 114 (moO L k0 pl n s' (nI k') (nI rows)) ∧ ∀ q, E = .inr q → k' = q) 92 [some (.ref 114)] [] 132 (va_up σ 114 (moO L k0 pl n (nI p) (nI k) (nI rows))) 0 0 := fun E k p hp hE => by
    refine P_aload_n (q := 93) dX8_fault_92 rfl rfl ?_
    refine P_get (q := 96) dX8_fault_93 rfl fX8_207 (by decide) (up_at _ _ _) rfl ?_
    refine P_aload_n (q := 97) dX8_fault_96 rfl rfl ?_
    refine P_get (q := 100) dX8_fault_97 rfl fX8_204 (by decide) (up_at _ _ _) rfl ?_
    refine P_icmp_ne (q := 103) (tgt := 109) dX8_fault_100 rfl (by decide) (fun c_100 => ?_) (fun c_100 => ?_)
    · rw [nI_eq (by omega) (by omega)] at c_100
      refine P_aload_n (q := 110) dX8_fault_109 rfl rfl ?_
      refine P_get (q := 113) dX8_fault_110 rfl fX8_207 (by decide) (up_at _ _ _) rfl ?_
      refine P_iret dX8_fault_113 rfl (rfl) ?_
      first
        | (rw [if_pos c_100] at hE; subst hE; exact ⟨rfl, _, _, rfl, fun q hq => Sum.inr.inj hq⟩)
        | (rw [if_neg c_100] at hE; subst hE; exact ⟨rfl, _, _, rfl, fun q hq => by cases hq⟩)
    · rw [nI_eq (by omega) (by omega)] at c_100
      refine P_sipush (q := 106) (v := iI (-1005)) dX8_fault_103 rfl (by decide +kernel) ?_
      refine P_goto (tgt := 113) dX8_fault_106 (by decide) ?_
      refine P_iret dX8_fault_113 rfl (rfl) ?_
      first
        | (rw [if_pos c_100] at hE; subst hE; exact ⟨rfl, _, _, rfl, fun q hq => Sum.inr.inj hq⟩)
        | (rw [if_neg c_100] at hE; subst hE; exact ⟨rfl, _, _, rfl, fun q hq => by cases hq⟩)
   induction f with
   | zero =>
    intro k p hk hp
    refine P_aload_n (q := 32) dX8_fault_31 rfl rfl ?_
    refine P_get (q := 35) dX8_fault_32 rfl fX8_219 (by decide) (up_at _ _ _) rfl ?_
    refine P_bipush (q := 37) (v := nI 10) dX8_fault_35 rfl (by decide +kernel) ?_
    refine P_icmp_ge (q := 40) (tgt := 92) dX8_fault_37 rfl (by decide) (fun c_37 => ?_) (fun c_37 => ?_)
    · rw [nI_leI (by omega) (by omega)] at c_37
      exact last _ k p hp rfl
    · exfalso; rw [nI_leI (by omega) (by omega)] at c_37; omega
   | succ f ih =>
    intro k p hk hp
    have hs := rsN_le ch n rows (p + 1)
    rw [flt]
    refine P_aload_n (q := 32) dX8_fault_31 rfl rfl ?_
    refine P_get (q := 35) dX8_fault_32 rfl fX8_219 (by decide) (up_at _ _ _) rfl ?_
    refine P_bipush (q := 37) (v := nI 10) dX8_fault_35 rfl (by decide +kernel) ?_
    refine P_icmp_ge (q := 40) (tgt := 92) dX8_fault_37 rfl (by decide) (fun c_37 => ?_) (fun c_37 => ?_)
    · exfalso; rw [nI_leI (by omega) (by omega)] at c_37; omega
    · rw [nI_leI (by omega) (by omega)] at c_37
      refine P_aload_n (q := 41) dX8_fault_40 rfl rfl ?_
      refine P_bipush (q := 43) (v := nI 44) dX8_fault_41 rfl (by decide +kernel) ?_
      refine P_cv1 (q := 46) dX8_fault_43 rfl kX8_210 (m_here (p := p) hn hch (up_at _ _ _) (u1 _) hg hp (x := 44) (by decide)) rfl rfl (by decide) (up_at _ _ _) rfl ⟨by decide, by decide⟩ (Nat.le_of_ble_eq_true rfl) ⟨Nat.le_refl _, Nat.le_refl _⟩ ?_
      refine P_if_eq (q := 49) (tgt := 92) dX8_fault_46 rfl (by decide) (fun c_46 => ?_) (fun c_46 => ?_)
      · rw [bI_0] at c_46
        have c_46 := of_decide_eq_false c_46
        rw [if_neg c_46]
        exact last _ k p hp rfl
      · rw [bI_n] at c_46
        have c_46 := of_decide_eq_true c_46
        rw [if_pos c_46]
        have hs2 := hs.2 (by omega)
        refine P_aload_n (q := 50) dX8_fault_49 rfl rfl ?_
        refine P_dup (q := 51) dX8_fault_50 rfl rfl ?_
        refine P_get (q := 54) dX8_fault_51 rfl fX8_207 (by decide) (up_at _ _ _) rfl ?_
        refine P_iconst (q := 55) (v := nI 1) dX8_fault_54 rfl (by decide +kernel) ?_
        refine P_iadd (q := 56) dX8_fault_55 rfl ?_
        rw [show nI p + nI 1 = nI (p + 1) from nI_1 p]
        refine P_put (q := 59) (fs' := [_, _, _, _, _, _, _, _, _, _, _, _, _, _, _, _, _, _, _, _, _, _, _, _]) (σ' := va_up σ 114 (moO L k0 pl n (nI (p + 1)) (nI k) (nI rows))) dX8_fault_56 rfl gX8_207 (by decide) (up_at _ _ _) (fun _ => rfl) (fun _ => rfl) (Nat.le_of_ble_eq_true rfl) rfl (up_up _ _ _ _) ?_
        refine P_aload_n (q := 60) dX8_fault_59 rfl rfl ?_
        refine P_aload_n (q := 61) dX8_fault_60 rfl rfl ?_
        refine P_get (q := 64) dX8_fault_61 rfl fX8_216 (by decide) (up_at _ _ _) rfl ?_
        refine P_cv1 (q := 67) dX8_fault_64 rfl kX8_213 (m_signs (p := p + 1) hn hch (up_at _ _ _) (u1 _) hg (by omega) hrows) rfl rfl (by decide) (up_at _ _ _) rfl ⟨by decide, by decide⟩ (Nat.le_of_ble_eq_true rfl) ⟨Nat.le_refl _, Nat.le_refl _⟩ ?_
        rw [up_up]
        refine P_aload_n (q := 68) dX8_fault_67 rfl rfl ?_
        refine P_get (q := 71) dX8_fault_68 rfl fX8_216 (by decide) (up_at _ _ _) rfl ?_
        refine P_icmp_ge (q := 74) (tgt := 79) dX8_fault_71 rfl (by decide) (fun c_71 => ?_) (fun c_71 => ?_)
        · rw [nI_leI (by omega) (by omega)] at c_71
          refine P_aload_n (q := 80) dX8_fault_79 rfl rfl ?_
          refine P_dup (q := 81) dX8_fault_80 rfl rfl ?_
          refine P_get (q := 84) dX8_fault_81 rfl fX8_219 (by decide) (up_at _ _ _) rfl ?_
          refine P_iconst (q := 85) (v := nI 1) dX8_fault_84 rfl (by decide +kernel) ?_
          refine P_iadd (q := 86) dX8_fault_85 rfl ?_
          rw [show nI k + nI 1 = nI (k + 1) from nI_1 k]
          refine P_put (q := 89) (fs' := [_, _, _, _, _, _, _, _, _, _, _, _, _, _, _, _, _, _, _, _, _, _, _, _]) (σ' := va_up σ 114 (moO L k0 pl n (nI (p + 1 + rsN ch n rows (p + 1))) (nI (k + 1)) (nI rows))) dX8_fault_86 rfl gX8_219 (by decide) (up_at _ _ _) (fun _ => rfl) (fun _ => rfl) (Nat.le_of_ble_eq_true rfl) rfl (up_up _ _ _ _) ?_
          refine P_goto (tgt := 31) dX8_fault_89 (by decide) ?_
          rw [if_neg (by omega), show p + 1 + rsN ch n rows (p + 1) = p + 1 + rows by omega]
          exact ih (k + 1) (p + 1 + rows) (by omega) (by omega)
        · rw [nI_leI (by omega) (by omega)] at c_71
          refine P_aload_n (q := 75) dX8_fault_74 rfl rfl ?_
          refine P_get (q := 78) dX8_fault_75 rfl fX8_207 (by decide) (up_at _ _ _) rfl ?_
          refine P_iret dX8_fault_78 rfl (rfl) ?_
          rw [if_pos (by omega)]
          exact ⟨rfl, _, _, rfl, fun q hq => by cases hq⟩
  have hs := rsN_le ch n 3 0
  refine CP_of (by decide +kernel) (Nat.le_of_ble_eq_true rfl) ?_
  change PW _ _ _ _ 0 [_] [] _ _ _ _
  refine P_aload_n (q := 1) dX8_fault_0 rfl rfl ?_
  refine P_iconst (q := 2) (v := nI 0) dX8_fault_1 rfl (by decide +kernel) ?_
  refine P_put (q := 5) (fs' := [_, _, _, _, _, _, _, _, _, _, _, _, _, _, _, _, _, _, _, _, _, _, _, _]) (σ' := va_up σ 114 (moO L k0 pl n (nI 0) rc rr)) dX8_fault_2 rfl gX8_207 (by decide) (h0) (fun _ => rfl) (fun _ => rfl) (Nat.le_of_ble_eq_true rfl) rfl (rfl) ?_
  refine P_aload_n (q := 6) dX8_fault_5 rfl rfl ?_
  refine P_aload_n (q := 7) dX8_fault_6 rfl rfl ?_
  refine P_iconst (q := 8) (v := nI 3) dX8_fault_7 rfl (by decide +kernel) ?_
  refine P_cv1 (q := 11) dX8_fault_8 rfl kX8_213 (m_signs (p := 0) hn hch (up_at _ _ _) (u1 _) hg (Nat.zero_le _) (by decide)) rfl rfl (by decide) (up_at _ _ _) rfl ⟨by decide, by decide⟩ (Nat.le_of_ble_eq_true rfl) ⟨Nat.le_refl _, Nat.le_refl _⟩ ?_
  rw [up_up]
  refine P_put (q := 14) (fs' := [_, _, _, _, _, _, _, _, _, _, _, _, _, _, _, _, _, _, _, _, _, _, _, _]) (σ' := va_up σ 114 (moO L k0 pl n (nI (0 + rsN ch n 3 0)) rc (nI (rsN ch n 3 0)))) dX8_fault_11 rfl gX8_216 (by decide) (up_at _ _ _) (fun _ => rfl) (fun _ => rfl) (Nat.le_of_ble_eq_true rfl) rfl (up_up _ _ _ _) ?_
  refine P_aload_n (q := 15) dX8_fault_14 rfl rfl ?_
  refine P_iconst (q := 16) (v := nI 1) dX8_fault_15 rfl (by decide +kernel) ?_
  refine P_put (q := 19) (fs' := [_, _, _, _, _, _, _, _, _, _, _, _, _, _, _, _, _, _, _, _, _, _, _, _]) (σ' := va_up σ 114 (moO L k0 pl n (nI (0 + rsN ch n 3 0)) (nI 1) (nI (rsN ch n 3 0)))) dX8_fault_16 rfl gX8_219 (by decide) (up_at _ _ _) (fun _ => rfl) (fun _ => rfl) (Nat.le_of_ble_eq_true rfl) rfl (up_up _ _ _ _) ?_
  refine P_aload_n (q := 20) dX8_fault_19 rfl rfl ?_
  refine P_get (q := 23) dX8_fault_20 rfl fX8_216 (by decide) (up_at _ _ _) rfl ?_
  refine P_if_ne (q := 26) (tgt := 31) dX8_fault_23 rfl (by decide) (fun c_23 => ?_) (fun c_23 => ?_)
  · rw [show ((0 : Int32)) = nI 0 from rfl, nI_eq (by omega) (by omega)] at c_23
    have e : ftA ch n = flt ch n (rsN ch n 3 0) 9 1 (rsN ch n 3 0) := if_neg c_23
    rw [e, Nat.zero_add]
    exact lp (rsN ch n 3 0) hs.1 9 1 (rsN ch n 3 0) (by decide) (by have := hs.2 (Nat.zero_le _); omega)
  · rw [show ((0 : Int32)) = nI 0 from rfl, nI_eq (by omega) (by omega)] at c_23
    refine P_aload_n (q := 27) dX8_fault_26 rfl rfl ?_
    refine P_get (q := 30) dX8_fault_27 rfl fX8_207 (by decide) (up_at _ _ _) rfl ?_
    refine P_iret dX8_fault_30 rfl (rfl) ?_
    have e : ftA ch n = .inl 0 := if_pos c_23
    rw [e, c_23]
    exact ⟨rfl, _, _, rfl, fun q hq => by cases hq⟩
