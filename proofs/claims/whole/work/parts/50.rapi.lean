/-! THE REFERENCE: undo, texts, columns, choices -/
set_option maxRecDepth 100000 in
set_option maxHeartbeats 4000000 in
theorem r_undo {σ : Sto} {w : Cs} (hW : MW σ w) : CP mX8_undo 0 0 [.ref 114] 132 σ (MK σ (oUndo w)) := by
  obtain ⟨⟨pl, sp0, rc, rr, h0⟩, hX, hAR, hl, ⟨gh, h117, hH⟩, hSn, hn, gt, t131, tch⟩ := id hW
  have hM := hW.mo
  obtain ⟨hA, g, h1, hR⟩ := id hX
  have hC := hA.1
  have hRr := hA.2.1
  cases hs : w.H with
  | nil =>
    rw [hs] at h0
    refine CP_of (by decide +kernel) (Nat.le_of_ble_eq_true rfl) ?_
    change PW _ _ _ _ 0 [_, _] [] _ _ _ _
    refine P_aload_n (q := 1) dX8_undo_0 rfl rfl ?_
    refine P_get (q := 4) dX8_undo_1 rfl fX8_69 (by decide) (h0) rfl ?_
    refine P_if_ne (q := 7) (tgt := 11) dX8_undo_4 rfl (by decide) (fun c_4 => ?_) (fun c_4 => ?_)
    · exact absurd (show nI 0 = 0 from rfl) c_4
    · refine P_sipush (q := 10) (v := iI (-1005)) dX8_undo_7 rfl (by decide +kernel) ?_
      refine P_iret dX8_undo_10 rfl (rfl) ?_
      rw [show oUndo w = (iI (-1005), w) from by unfold oUndo; rw [hs]]; exact MK.stay hW
  | cons B T =>
    rw [hs] at h0 hl
    have hl3 : T.length ≤ 3 := by simpa using hl
    obtain ⟨B', b1, hB, hRB⟩ := hH 0 (by rw [hs]; exact Nat.zero_lt_succ _)
    rw [hs] at b1 hRB
    have b1 : B = B' := Option.some.inj b1
    subst b1
    have hRB : RA (fun k => gh (46 * T.length + k)) B := hRB
    have lp : ∀ n i, i + n = 46 → PW mX8_undo 0 0 (MK σ (oUndo w)) 23 [some (.ref 114), some (.int (nI i))] [] 132 (va_up (va_up σ 114 (moO T.length w.Sn.isSome.toNat pl w.n sp0 rc rr)) 115 (pI .int 46 (flC (fun k => gh (46 * T.length + k)) g i))) 0 0 := by
     intro n
     induction n with
     | zero =>
      intro i hi
      have e : i = 46 := by omega
      subst e
      refine P_iload_n (q := 24) dX8_undo_23 rfl rfl ?_
      refine P_bipush (q := 26) (v := nI 46) dX8_undo_24 rfl (by decide +kernel) ?_
      refine P_icmp_ge (q := 29) (tgt := 55) dX8_undo_26 rfl (by decide) (fun c_26 => ?_) (fun c_26 => ?_)
      · rw [nI_leI (by omega) (by omega)] at c_26
        refine P_aload_n (q := 56) dX8_undo_55 rfl rfl ?_
        refine P_get (q := 59) dX8_undo_56 rfl fX8_69 (by decide) ((up_ne _ _ (by omega)).trans (up_at _ _ _)) rfl ?_
        refine P_iret dX8_undo_59 rfl (rfl) ?_
        rw [show oUndo w = (nI T.length, (B, T, w.Sn, w.n, w.ch)) from by unfold oUndo; rw [hs]]
        have ne : ∀ (c1 c2 : PC) k, k ≠ 114 → k ≠ 115 → va_up (va_up σ 114 c1) 115 c2 k = σ k := fun c1 c2 k a b => (up_ne _ _ b).trans (up_ne _ _ a)
        refine ⟨rfl, ⟨⟨pl, sp0, rc, rr, (up_ne _ _ (by omega)).trans (up_at _ _ _)⟩, XA.of (up_at _ _ _) hB (RA_flC hB hRB), hAR.upO.up (a := 115), by show T.length ≤ 4; omega, ⟨gh, (ne _ _ 117 (by omega) (by omega)).trans h117, fun i hi => ?_⟩, fun C hC => ?_, hn, gt, (ne _ _ 131 (by omega) (by omega)).trans t131, tch⟩, fun k hk => ne _ _ k (by omega) (by omega)⟩
        · obtain ⟨D, d1, d2, d3⟩ := hH (i + 1) (by rw [hs]; exact Nat.succ_lt_succ hi)
          rw [hs] at d1 d3
          refine ⟨D, d1, d2, ?_⟩
          have e : (B :: T).length - 1 - (i + 1) = T.length - 1 - i := by simp only [List.length_cons]; omega
          rw [e] at d3
          exact d3
        · obtain ⟨hC1, q, hq, hq2⟩ := hSn C hC
          exact ⟨hC1, q, (ne _ _ 118 (by omega) (by omega)).trans hq, hq2⟩
      · exfalso; rw [nI_leI (by omega) (by omega)] at c_26; omega
     | succ n ih =>
      intro i hi
      refine P_iload_n (q := 24) dX8_undo_23 rfl rfl ?_
      refine P_bipush (q := 26) (v := nI 46) dX8_undo_24 rfl (by decide +kernel) ?_
      refine P_icmp_ge (q := 29) (tgt := 55) dX8_undo_26 rfl (by decide) (fun c_26 => ?_) (fun c_26 => ?_)
      · exfalso; rw [nI_leI (by omega) (by omega)] at c_26; omega
      · rw [nI_leI (by omega) (by omega)] at c_26
        refine P_aload_n (q := 30) dX8_undo_29 rfl rfl ?_
        refine P_get (q := 33) dX8_undo_30 rfl fX8_7 (by decide) ((up_ne _ _ (by omega)).trans (up_at _ _ _)) rfl ?_
        refine P_iload_n (q := 34) dX8_undo_33 rfl rfl ?_
        refine P_aload_n (q := 35) dX8_undo_34 rfl rfl ?_
        refine P_get (q := 38) dX8_undo_35 rfl fX8_16 (by decide) ((up_ne _ _ (by omega)).trans (up_at _ _ _)) rfl ?_
        refine P_bipush (q := 40) (v := nI 46) dX8_undo_38 rfl (by decide +kernel) ?_
        refine P_aload_n (q := 41) dX8_undo_40 rfl rfl ?_
        refine P_get (q := 44) dX8_undo_41 rfl fX8_69 (by decide) ((up_ne _ _ (by omega)).trans (up_at _ _ _)) rfl ?_
        refine P_imul (q := 45) dX8_undo_44 rfl ?_
        rw [pk_mul]
        refine P_iload_n (q := 46) dX8_undo_45 rfl rfl ?_
        refine P_iadd (q := 47) dX8_undo_46 rfl ?_
        refine P_iald (q := 48) (j := 46 * T.length + i) dX8_undo_47 rfl (by decide) ((up_ne _ _ (by omega)).trans ((up_ne _ _ (by omega)).trans h117)) (nI_add _ _) (by omega) (by decide) ?_
        refine P_iast (q := 49) (j := i) (f' := flC (fun k => gh (46 * T.length + k)) g (i + 1)) (σ' := (va_up (va_up σ 114 (moO T.length w.Sn.isSome.toNat pl w.n sp0 rc rr)) 115 (pI .int 46 (flC (fun k => gh (46 * T.length + k)) g (i + 1))))) dX8_undo_48 rfl (by decide) (up_at _ _ _) (rfl) (by omega) (by decide) (flC_succ _ _ _) (up_up _ _ _ _) ?_
        refine P_iinc (q := 52) (L' := [_, _]) (v := nI (i + 1)) dX8_undo_49 rfl (by decide) rfl (nI_1 i) rfl ?_
        refine P_goto (tgt := 23) dX8_undo_52 (by decide) ?_
        exact ih (i + 1) (by omega)
    refine CP_of (by decide +kernel) (Nat.le_of_ble_eq_true rfl) ?_
    change PW _ _ _ _ 0 [_, _] [] _ _ _ _
    refine P_aload_n (q := 1) dX8_undo_0 rfl rfl ?_
    refine P_get (q := 4) dX8_undo_1 rfl fX8_69 (by decide) (h0) rfl ?_
    refine P_if_ne (q := 7) (tgt := 11) dX8_undo_4 rfl (by decide) (fun c_4 => ?_) (fun c_4 => ?_)
    · refine P_aload_n (q := 12) dX8_undo_11 rfl rfl ?_
      refine P_dup (q := 13) dX8_undo_12 rfl rfl ?_
      refine P_get (q := 16) dX8_undo_13 rfl fX8_69 (by decide) (h0) rfl ?_
      refine P_iconst (q := 17) (v := nI 1) dX8_undo_16 rfl (by decide +kernel) ?_
      refine P_isub (q := 18) dX8_undo_17 rfl ?_
      rw [show nI (B :: T).length - nI 1 = nI T.length from nI_m1 T.length]
      refine P_put (q := 21) (fs' := [_, _, _, _, _, _, _, _, _, _, _, _, _, _, _, _, _, _, _, _, _, _, _, _]) (σ' := va_up σ 114 (moO T.length w.Sn.isSome.toNat pl w.n sp0 rc rr)) dX8_undo_18 rfl gX8_69 (by decide) (h0) (fun _ => rfl) (fun _ => rfl) (Nat.le_of_ble_eq_true rfl) rfl (rfl) ?_
      refine P_iconst (q := 22) (v := nI 0) dX8_undo_21 rfl (by decide +kernel) ?_
      refine P_istore_n (q := 23) (L' := [_, _]) dX8_undo_22 rfl (by decide) rfl ?_
      have h := lp 46 0 (by omega)
      rw [flC_0, up_self (show va_up σ 114 _ 115 = _ from (up_ne _ _ (by omega)).trans h1)] at h
      exact h
    · have c_4 : nI (T.length + 1) = nI 0 := c_4
      rw [nI_eq (by omega) (by omega)] at c_4
      omega
set_option maxRecDepth 100000 in
set_option maxHeartbeats 4000000 in
theorem r_type {σ : Sto} {w : Cs} (hW : MW σ w) {x : Nat} (hx : x < 65536) : CP mX8_type 0 0 [.ref 114, .int (nI x)] 132 σ (MK σ (oType w x)) := by
  obtain ⟨⟨pl, sp0, rc, rr, h0⟩, hX, hAR, hl, ⟨gh, h117, hH⟩, hSn, hn, gt, t131, tch⟩ := id hW
  have hM := hW.mo
  obtain ⟨hA, g, h1, hR⟩ := id hX
  have hC := hA.1
  have hRr := hA.2.1
  refine CP_of (by decide +kernel) (Nat.le_of_ble_eq_true rfl) ?_
  change PW _ _ _ _ 0 [_, _] [] _ _ _ _
  refine P_aload_n (q := 1) dX8_type_0 rfl rfl ?_
  refine P_get (q := 4) dX8_type_1 rfl fX8_204 (by decide) (h0) rfl ?_
  refine P_bipush (q := 6) (v := nI 60) dX8_type_4 rfl (by decide +kernel) ?_
  refine P_icmp_ne (q := 9) (tgt := 13) dX8_type_6 rfl (by decide) (fun c_6 => ?_) (fun c_6 => ?_)
  · rw [nI_eq (by omega) (by omega)] at c_6
    refine P_aload_n (q := 14) dX8_type_13 rfl rfl ?_
    refine P_get (q := 17) dX8_type_14 rfl fX8_58 (by decide) (h0) rfl ?_
    refine P_aload_n (q := 18) dX8_type_17 rfl rfl ?_
    refine P_get (q := 21) dX8_type_18 rfl fX8_204 (by decide) (h0) rfl ?_
    refine P_iload_n (q := 22) dX8_type_21 rfl rfl ?_
    refine P_iast (q := 23) (j := w.n) dX8_type_22 rfl (by decide) (t131) (rfl) (by omega) (by decide) (rfl) (rfl) ?_
    refine P_aload_n (q := 24) dX8_type_23 rfl rfl ?_
    refine P_dup (q := 25) dX8_type_24 rfl rfl ?_
    refine P_get (q := 28) dX8_type_25 rfl fX8_204 (by decide) ((up_ne _ _ (by omega)).trans h0) rfl ?_
    refine P_iconst (q := 29) (v := nI 1) dX8_type_28 rfl (by decide +kernel) ?_
    refine P_iadd (q := 30) dX8_type_29 rfl ?_
    rw [show nI w.n + nI 1 = nI (w.n + 1) from nI_1 _]
    refine P_put (q := 33) (fs' := [_, _, _, _, _, _, _, _, _, _, _, _, _, _, _, _, _, _, _, _, _, _, _, _]) (σ' := va_up (va_up σ 131 (pI .int 60 (upd gt w.n (nI x)))) 114 (moO w.H.length w.Sn.isSome.toNat pl (w.n + 1) sp0 rc rr)) dX8_type_30 rfl gX8_204 (by decide) ((up_ne _ _ (by omega)).trans h0) (fun _ => rfl) (fun _ => rfl) (Nat.le_of_ble_eq_true rfl) rfl (rfl) ?_
    refine P_aload_n (q := 34) dX8_type_33 rfl rfl ?_
    refine P_get (q := 37) dX8_type_34 rfl fX8_204 (by decide) (up_at _ _ _) rfl ?_
    refine P_iret dX8_type_37 rfl (rfl) ?_
    first
      | (unfold oType; rw [if_neg (by omega)]; exact MK.stay hW)
      | (have ne : ∀ (c1 c2 : PC) k, k ≠ 114 → k ≠ 131 → va_up (va_up σ 131 c1) 114 c2 k = σ k := fun c1 c2 k a b => (up_ne _ _ a).trans (up_ne _ _ b)
         unfold oType
         rw [if_pos (show w.n < 60 by omega)]
         refine ⟨rfl, ⟨⟨pl, sp0, rc, rr, up_at _ _ _⟩, XA.of ((ne _ _ 115 (by omega) (by omega)).trans h1) hA hR, (hAR.up (a := 131)).upO, hl, ⟨gh, (ne _ _ 117 (by omega) (by omega)).trans h117, hH⟩, fun C hC => ?_, (show w.n + 1 ≤ 60 by omega), _, (up_ne _ _ (by omega)).trans (up_at _ _ _), fun i hi => ?_⟩, fun k hk => ne _ _ k (by omega) (by omega)⟩
         · obtain ⟨hC1, q, hq, hq2⟩ := hSn C hC
           exact ⟨hC1, q, (ne _ _ 118 (by omega) (by omega)).trans hq, hq2⟩
         · have hi : i < w.n + 1 := hi
           show upd gt w.n (nI x) i = nI (if i = w.n then x else w.ch i)
           unfold upd
           by_cases e : i = w.n
           · rw [if_pos e, if_pos e]
           · rw [if_neg e, if_neg e]; exact tch i (by omega))
  · rw [nI_eq (by omega) (by omega)] at c_6
    refine P_sipush (q := 12) (v := iI (-1003)) dX8_type_9 rfl (by decide +kernel) ?_
    refine P_iret dX8_type_12 rfl (rfl) ?_
    first
      | (unfold oType; rw [if_neg (by omega)]; exact MK.stay hW)
      | (have ne : ∀ (c1 c2 : PC) k, k ≠ 114 → k ≠ 131 → va_up (va_up σ 131 c1) 114 c2 k = σ k := fun c1 c2 k a b => (up_ne _ _ a).trans (up_ne _ _ b)
         unfold oType
         rw [if_pos (show w.n < 60 by omega)]
         refine ⟨rfl, ⟨⟨pl, sp0, rc, rr, up_at _ _ _⟩, XA.of ((ne _ _ 115 (by omega) (by omega)).trans h1) hA hR, (hAR.up (a := 131)).upO, hl, ⟨gh, (ne _ _ 117 (by omega) (by omega)).trans h117, hH⟩, fun C hC => ?_, (show w.n + 1 ≤ 60 by omega), _, (up_ne _ _ (by omega)).trans (up_at _ _ _), fun i hi => ?_⟩, fun k hk => ne _ _ k (by omega) (by omega)⟩
         · obtain ⟨hC1, q, hq, hq2⟩ := hSn C hC
           exact ⟨hC1, q, (ne _ _ 118 (by omega) (by omega)).trans hq, hq2⟩
         · have hi : i < w.n + 1 := hi
           show upd gt w.n (nI x) i = nI (if i = w.n then x else w.ch i)
           unfold upd
           by_cases e : i = w.n
           · rw [if_pos e, if_pos e]
           · rw [if_neg e, if_neg e]; exact tch i (by omega))
set_option maxRecDepth 100000 in
set_option maxHeartbeats 4000000 in
theorem r_clear {σ : Sto} {w : Cs} (hW : MW σ w) : CP mX8_clearText 0 0 [.ref 114] 132 σ (MK σ (oClear w)) := by
  obtain ⟨⟨pl, sp0, rc, rr, h0⟩, hX, hAR, hl, ⟨gh, h117, hH⟩, hSn, hn, gt, t131, tch⟩ := id hW
  have hM := hW.mo
  obtain ⟨hA, g, h1, hR⟩ := id hX
  have hC := hA.1
  have hRr := hA.2.1
  refine CP_of (by decide +kernel) (Nat.le_of_ble_eq_true rfl) ?_
  change PW _ _ _ _ 0 [_, _] [] _ _ _ _
  refine P_aload_n (q := 1) dX8_clearText_0 rfl rfl ?_
  refine P_get (q := 4) dX8_clearText_1 rfl fX8_204 (by decide) (h0) rfl ?_
  refine P_istore_n (q := 5) (L' := [_, _]) dX8_clearText_4 rfl (by decide) rfl ?_
  refine P_aload_n (q := 6) dX8_clearText_5 rfl rfl ?_
  refine P_iconst (q := 7) (v := nI 0) dX8_clearText_6 rfl (by decide +kernel) ?_
  refine P_put (q := 10) (fs' := [_, _, _, _, _, _, _, _, _, _, _, _, _, _, _, _, _, _, _, _, _, _, _, _]) (σ' := va_up σ 114 (moO w.H.length w.Sn.isSome.toNat pl 0 sp0 rc rr)) dX8_clearText_7 rfl gX8_204 (by decide) (h0) (fun _ => rfl) (fun _ => rfl) (Nat.le_of_ble_eq_true rfl) rfl (rfl) ?_
  refine P_iload_n (q := 11) dX8_clearText_10 rfl rfl ?_
  refine P_iret dX8_clearText_11 rfl (rfl) ?_
  refine ⟨rfl, ⟨⟨pl, sp0, rc, rr, up_at _ _ _⟩, XA.of ((up_ne _ _ (by omega)).trans h1) hA hR, hAR.upO, hl, ⟨gh, (up_ne _ _ (by omega)).trans h117, hH⟩, fun C hC => ?_, Nat.zero_le _, gt, (up_ne _ _ (by omega)).trans t131, fun i hi => absurd hi (Nat.not_lt_zero _)⟩, fun k hk => up_ne _ _ (by omega)⟩
  obtain ⟨hC1, q, hq, hq2⟩ := hSn C hC
  exact ⟨hC1, q, (up_ne _ _ (by omega)).trans hq, hq2⟩
set_option maxRecDepth 100000 in
set_option maxHeartbeats 4000000 in
theorem r_col {σ : Sto} {w : Cs} (hW : MW σ w) {c0 : Int} (c01 : -2147483648 ≤ c0) (c02 : c0 < 2147483648) : CP mX8_column 0 0 [.ref 114, .int (iI c0)] 132 σ (MK σ (oCol w c0)) := by
  obtain ⟨⟨pl, sp0, rc, rr, h0⟩, hX, hAR, hl, ⟨gh, h117, hH⟩, hSn, hn, gt, t131, tch⟩ := id hW
  have hM := hW.mo
  obtain ⟨hA, g, h1, hR⟩ := id hX
  have hC := hA.1
  have hRr := hA.2.1
  have ic := m_isColumn hM hX c01 c02
  refine CP_of (by decide +kernel) (Nat.le_of_ble_eq_true rfl) ?_
  change PW _ _ _ _ 0 [_, _] [] _ _ _ _
  refine P_aload_n (q := 1) dX8_column_0 rfl rfl ?_
  refine P_iload_n (q := 2) dX8_column_1 rfl rfl ?_
  refine P_cv1 (q := 5) dX8_column_2 rfl kX8_81 (ic) rfl rfl (by decide) (h0) rfl ⟨by decide, by decide⟩ (Nat.le_of_ble_eq_true rfl) ⟨Nat.le_refl _, Nat.le_refl _⟩ ?_
  refine P_if_eq (q := 8) (tgt := 20) dX8_column_5 rfl (by decide) (fun c_5 => ?_) (fun c_5 => ?_)
  · rw [bI_0] at c_5
    have c_5 := of_decide_eq_false c_5
    refine P_sipush (q := 23) (v := iI (-1001)) dX8_column_20 rfl (by decide +kernel) ?_
    refine P_iret dX8_column_23 rfl (rfl) ?_
    first | (unfold oCol; rw [if_neg c_5]; exact MK.stay hW) | (unfold oCol; rw [if_pos c_5]; exact MK.stay hW)
  · rw [bI_n] at c_5
    have c_5 := of_decide_eq_true c_5
    obtain ⟨c, rfl⟩ : ∃ c : Nat, c0 = c := ⟨c0.toNat, by omega⟩
    rw [← iI_nI]
    refine P_aload_n (q := 9) dX8_column_8 rfl rfl ?_
    refine P_get (q := 12) dX8_column_9 rfl fX8_7 (by decide) (h0) rfl ?_
    refine P_bipush (q := 14) (v := nI 6) dX8_column_12 rfl (by decide +kernel) ?_
    refine P_iload_n (q := 15) dX8_column_14 rfl rfl ?_
    refine P_iadd (q := 16) dX8_column_15 rfl ?_
    refine P_iald (q := 17) (j := 6 + c) dX8_column_16 rfl (by decide) (h1) (nI_add _ _) (by omega) (by decide) ?_
    rw [hR.2.2.2.2.2.2.1 c (by omega)]
    refine P_goto (tgt := 23) dX8_column_17 (by decide) ?_
    refine P_iret dX8_column_23 rfl (rfl) ?_
    first | (unfold oCol; rw [if_neg c_5]; exact MK.stay hW) | (unfold oCol; rw [if_pos c_5]; exact MK.stay hW)
set_option maxRecDepth 100000 in
set_option maxHeartbeats 4000000 in
theorem m_choices {n0 : Nat} {σ : Sto} {N m : Nat} (hN : N ≤ 30) (hm : m ≤ N) : CD mX8_choices [.int (nI N), .int (nI m)] n0 σ (some (.int (chs N m).toInt32)) σ := by
  have lp : ∀ n k, k + n = m → PW mX8_choices 0 0 (fun v σ' => v = some (.int (chs N m).toInt32) ∧ σ' = σ) 5 [some (.int (nI N)), some (.int (nI m)), some (.long (chs N k)), none, some (.int (nI k))] [] n0 σ 0 0 := by
   intro n
   induction n with
   | zero =>
    intro k hk
    have e : k = m := by omega
    subst e
    refine P_iload (q := 7) dX8_choices_5 rfl rfl ?_
    refine P_iload_n (q := 8) dX8_choices_7 rfl rfl ?_
    refine P_icmp_ge (q := 11) (tgt := 31) dX8_choices_8 rfl (by decide) (fun c_8 => ?_) (fun c_8 => ?_)
    · rw [nI_leI (by omega) (by omega)] at c_8
      refine P_lload_n (q := 32) dX8_choices_31 rfl rfl ?_
      refine P_l2i (q := 33) dX8_choices_32 rfl ?_
      refine P_iret dX8_choices_33 rfl (rfl) ?_
      exact ⟨rfl, rfl⟩
    · exfalso; rw [nI_leI (by omega) (by omega)] at c_8; omega
   | succ n ih =>
    intro k hk
    refine P_iload (q := 7) dX8_choices_5 rfl rfl ?_
    refine P_iload_n (q := 8) dX8_choices_7 rfl rfl ?_
    refine P_icmp_ge (q := 11) (tgt := 31) dX8_choices_8 rfl (by decide) (fun c_8 => ?_) (fun c_8 => ?_)
    · exfalso; rw [nI_leI (by omega) (by omega)] at c_8; omega
    · rw [nI_leI (by omega) (by omega)] at c_8
      refine P_lload_n (q := 12) dX8_choices_11 rfl rfl ?_
      refine P_iload_n (q := 13) dX8_choices_12 rfl rfl ?_
      refine P_iload (q := 15) dX8_choices_13 rfl rfl ?_
      refine P_isub (q := 16) dX8_choices_15 rfl ?_
      rw [pk_sub (show k ≤ N by omega)]
      refine P_i2l (q := 17) dX8_choices_16 rfl ?_
      refine P_lmul (q := 18) dX8_choices_17 rfl ?_
      refine P_iload (q := 20) dX8_choices_18 rfl rfl ?_
      refine P_iconst (q := 21) (v := nI 1) dX8_choices_20 rfl (by decide +kernel) ?_
      refine P_iadd (q := 22) dX8_choices_21 rfl ?_
      rw [show nI k + nI 1 = nI (k + 1) from nI_1 k]
      refine P_i2l (q := 23) dX8_choices_22 rfl ?_
      refine P_ldiv (q := 24) dX8_choices_23 rfl (nz64 k (by omega)) ?_
      refine P_lstore_n (q := 25) (L' := [_, _, _, _, _]) dX8_choices_24 rfl (by decide) rfl ?_
      refine P_iinc (q := 28) (L' := [_, _, _, _, _]) (v := nI (k + 1)) dX8_choices_25 rfl (by decide) rfl (nI_1 k) rfl ?_
      refine P_goto (tgt := 5) dX8_choices_28 (by decide) ?_
      exact ih (k + 1) (by omega)
  refine CP_of (by decide +kernel) (Nat.le_of_ble_eq_true rfl) ?_
  change PW _ _ _ _ 0 [_, _, _, _, _] [] _ _ _ _
  refine P_lconst (q := 1) (v := lN 1) dX8_choices_0 rfl (by decide +kernel) ?_
  refine P_lstore_n (q := 2) (L' := [_, _, _, _, _]) dX8_choices_1 rfl (by decide) rfl ?_
  refine P_iconst (q := 3) (v := nI 0) dX8_choices_2 rfl (by decide +kernel) ?_
  refine P_istore (q := 5) (L' := [_, _, _, _, _]) dX8_choices_3 rfl (by decide) rfl ?_
  exact lp m 0 (by omega)
