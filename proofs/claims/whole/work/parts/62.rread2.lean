/-! THE REFERENCE: read -/
set_option maxRecDepth 100000 in
set_option maxHeartbeats 4000000 in
theorem upd_upd (f : Nat → Int32) (k : Nat) (x y : Int32) : upd (upd f k x) k y = upd f k y := by
  funext j
  unfold upd
  by_cases h : j = k
  · rw [if_pos h, if_pos h]
  · rw [if_neg h, if_neg h, if_neg h]
theorem r_read {σ : Sto} {w : Cs} (hW : MW σ w) (hch : ∀ i, w.ch i < 65536) : CP mX8_read 0 0 [.ref 114] 132 σ (MK σ (oRead w)) := by
  obtain ⟨⟨pl, sp0, rc, rr, z0⟩, hX, hAR, hl, ⟨gh, h117, hH⟩, hSn, hn, gt, t131, tch⟩ := id hW
  have hM := hW.mo
  obtain ⟨hA, g, h1, hR⟩ := id hX
  have hC := hA.1
  have hRr := hA.2.1
  have hpq := ft_prs (ch := w.ch) (n := w.n)
  refine CP_of (by decide +kernel) (Nat.le_of_ble_eq_true rfl) ?_
  change PW _ _ _ _ 0 [_, _, _, _] [] _ _ _ _
  refine P_aload_n (q := 1) dX8_read_0 rfl rfl ?_
  refine P_callv (q := 4) dX8_read_1 rfl (m_fault hn hch z0 t131 tch) kX8_222 rfl rfl (by decide) (z0) rfl ⟨by decide, by decide⟩ (Nat.le_of_ble_eq_true rfl) ⟨Nat.le_refl _, Nat.le_refl _⟩ ?_
  rintro v σ0 ⟨rfl, s', k', hσ0, hk⟩
  have h0 : σ0 114 = moO w.H.length w.Sn.isSome.toNat pl w.n s' (nI k') (nI (rsN w.ch w.n 3 0)) := by rw [hσ0]; exact up_at _ _ _
  have hW0 : MW σ0 w := by rw [hσ0]; exact hW.ob
  have ss0 : same σ σ0 (fun i => 114 ≤ i) := by rw [hσ0]; exact same.rf.up (Nat.le_refl _)
  cases hf : ftA w.ch w.n with
  | inl p =>
    have hprs := hpq.1 p hf
    have hpn := prs_le hprs
    refine P_istore_n (q := 5) (L' := [_, _, _, _]) dX8_read_4 rfl (by decide) rfl ?_
    refine P_iload_n (q := 6) dX8_read_5 rfl rfl ?_
    refine P_sipush (q := 9) (v := iI (-1005)) dX8_read_6 rfl (by decide +kernel) ?_
    refine P_icmp_eq (q := 12) (tgt := 18) dX8_read_9 rfl (by decide) (fun c_9 => ?_) (fun c_9 => ?_)
    · have c_9 : nI p = iI (-1005) := c_9
      rw [iI_nI, iI_inj (by omega) (by omega) (by omega) (by omega)] at c_9
      omega
    · refine P_sipush (q := 15) (v := iI (-1100)) dX8_read_12 rfl (by decide +kernel) ?_
      refine P_iload_n (q := 16) dX8_read_15 rfl rfl ?_
      refine P_isub (q := 17) dX8_read_16 rfl ?_
      refine P_iret dX8_read_17 rfl (rfl) ?_
      have eR : oRead w = (iI (-1100 - p), w) := by unfold oRead; rw [hprs]
      rw [eR]
      exact ⟨rv_i (by show iI (-1100) - nI p = _; rw [iI_nI, iI_sub]), hW0, ss0⟩
  | inr q =>
    have hkq := hk q hf
    subst hkq
    obtain ⟨hr1, rw1, hprs⟩ := hpq.2 k' hf
    generalize hq : k' = q at *
    obtain ⟨hq1, hq10, -⟩ := rd_bit hf
    have hrw := (rsN_le w.ch w.n 3 0).1
    obtain ⟨hJ, hw⟩ := prs_J J_init hprs
    have hB : (rdS w.A (q, rw1, (rsN w.ch w.n 3 0), (flU w.ch w.n (rsN w.ch w.n 3 0) 9 1 (rsN w.ch w.n 3 0) (rsU w.ch w.n 0 3 0 0 0)))).ok := rd_ok hA hJ hw
    obtain ⟨-, hX, hAR, hl, ⟨gh, h117, hH⟩, hSn, hn, gt, t131, tch⟩ := id hW0
    have hM := hW0.mo
    obtain ⟨hA, g, h1, hR⟩ := id hX
    have hRB := RA_rd (rw1 := rw1) hA hR hf
    refine P_istore_n (q := 5) (L' := [_, _, _, _]) dX8_read_4 rfl (by decide) rfl ?_
    refine P_iload_n (q := 6) dX8_read_5 rfl rfl ?_
    refine P_sipush (q := 9) (v := iI (-1005)) dX8_read_6 rfl (by decide +kernel) ?_
    refine P_icmp_eq (q := 12) (tgt := 18) dX8_read_9 rfl (by decide) (fun c_9 => ?_) (fun c_9 => ?_)
    · refine P_aload_n (q := 19) dX8_read_18 rfl rfl ?_
      obtain ⟨gk, h116⟩ := hAR 116 (by decide) (by decide)
      change σ0 116 = pI .int 46 gk at h116
      refine P_cv0 (q := 22) dX8_read_19 rfl kX8_169 (m_rem hM h1 h116) rfl rfl (by decide) (h0) rfl ⟨by decide, by decide⟩ (Nat.le_of_ble_eq_true rfl) ⟨Nat.le_refl _, Nat.le_refl _⟩ ?_
      generalize hσ1 : va_up σ0 116 (pI .int 46 (flC g gk 46)) = σ1
      have q0 : σ1 114 = moO w.H.length w.Sn.isSome.toNat pl w.n s' (nI q) (nI (rsN w.ch w.n 3 0)) := by rw [← hσ1]; exact (up_ne _ _ (by omega)).trans h0
      have q1 : σ1 115 = pI .int 46 g := by rw [← hσ1]; exact (up_ne _ _ (by omega)).trans h1
      have q116 : σ1 116 = pI .int 46 (flC g gk 46) := by rw [← hσ1]; exact up_at _ _ _
      have qR := RA_flC (g := gk) hA hR
      have qs : same σ0 σ1 (fun i => i = 114 ∨ i = 115 ∨ i = 116 ∨ (119 ≤ i ∧ i ≤ 130)) := by rw [← hσ1]; exact same.rf.up (by omega)
      have qAR : AR σ1 := by rw [← hσ1]; exact hAR.up (a := 116)
      have qM : MO σ1 := ⟨_, _, _, _, _, _, _, q0⟩
      have q131 : σ1 131 = pI .int 60 gt := (qs 131 (by omega)).trans t131
      refine P_aload_n (q := 23) dX8_read_22 rfl rfl ?_
      refine P_aload_n (q := 24) dX8_read_23 rfl rfl ?_
      refine P_get (q := 27) dX8_read_24 rfl fX8_219 (by decide) (q0) rfl ?_
      refine P_aload_n (q := 28) dX8_read_27 rfl rfl ?_
      refine P_get (q := 31) dX8_read_28 rfl fX8_216 (by decide) (q0) rfl ?_
      refine P_cv0 (q := 34) dX8_read_31 rfl kX8_61 (m_lays qM q1 (c := q) (r := (rsN w.ch w.n 3 0)) hq10 hrw) rfl rfl (by decide) (q0) rfl ⟨by decide, by decide⟩ (Nat.le_of_ble_eq_true rfl) ⟨Nat.le_refl _, Nat.le_refl _⟩ ?_
      have inl : ∀ c, c < q → (∀ x3 : Option Value, PW mX8_read 0 0 (MK σ (oRead w)) 36 [some (.ref 114), some (.int (ftV (.inr q))), some (.int (nI (c + 1))), x3] [] 132 (va_up σ1 115 (pI .int 46 (rdV (ly2 g q (rsN w.ch w.n 3 0) 30) w.ch (rsN w.ch w.n 3 0) (c + 1)))) 0 0) → ∀ n r, r + n = (rsN w.ch w.n 3 0) → PW mX8_read 0 0 (MK σ (oRead w)) 56 [some (.ref 114), some (.int (ftV (.inr q))), some (.int (nI c)), some (.int (nI r))] [] 132 (va_up σ1 115 (pI .int 46 (upd (rdV (ly2 g q (rsN w.ch w.n 3 0) 30) w.ch (rsN w.ch w.n 3 0) c) (6 + c) (nI (rbN w.ch (rsN w.ch w.n 3 0) c r))))) 0 0 := by
        intro c hc K n
        induction n with
        | zero =>
          intro r hr
          have e : r = (rsN w.ch w.n 3 0) := by omega
          subst e
          refine P_iload_n (q := 57) dX8_read_56 rfl rfl ?_
          refine P_aload_n (q := 58) dX8_read_57 rfl rfl ?_
          refine P_get (q := 61) dX8_read_58 rfl fX8_216 (by decide) ((up_ne _ _ (by omega)).trans q0) rfl ?_
          refine P_icmp_ge (q := 64) (tgt := 109) dX8_read_61 rfl (by decide) (fun c_61 => ?_) (fun c_61 => ?_)
          · rw [nI_leI (by omega) (by omega)] at c_61
            refine P_iinc (q := 112) (L' := [_, _, _, _]) (v := nI (c + 1)) dX8_read_109 rfl (by decide) rfl (nI_1 c) rfl ?_
            refine P_goto (tgt := 36) dX8_read_112 (by decide) ?_
            rw [rdV_s]
            exact K _
          · exfalso; rw [nI_leI (by omega) (by omega)] at c_61; omega
        | succ n ih =>
          intro r hr
          have hlen := ft_len hf hc (show r < (rsN w.ch w.n 3 0) by omega)
          have hcc := hch (((rsN w.ch w.n 3 0) + 1) * c + r)
          have go : ∀ x, x = nI (if w.ch (((rsN w.ch w.n 3 0) + 1) * c + r) = 43 then 2 ^ r else 0) → PW mX8_read 0 0 (MK σ (oRead w)) 101 [some (.ref 114), some (.int (ftV (.inr q))), some (.int (nI c)), some (.int (nI r))] [.int x, .int (nI (rbN w.ch (rsN w.ch w.n 3 0) c r)), .int (nI (6 + c)), .ref 115] 132 (va_up σ1 115 (pI .int 46 (upd (rdV (ly2 g q (rsN w.ch w.n 3 0) 30) w.ch (rsN w.ch w.n 3 0) c) (6 + c) (nI (rbN w.ch (rsN w.ch w.n 3 0) c r))))) 0 0 := fun x hx => by
            subst hx
            refine P_ior (q := 102) dX8_read_101 rfl ?_
            rw [nI_or]
            refine P_iast (q := 103) (j := 6 + c) (f' := upd (rdV (ly2 g q (rsN w.ch w.n 3 0) 30) w.ch (rsN w.ch w.n 3 0) c) (6 + c) (nI (rbN w.ch (rsN w.ch w.n 3 0) c (r + 1)))) (σ' := (va_up σ1 115 (pI .int 46 (upd (rdV (ly2 g q (rsN w.ch w.n 3 0) 30) w.ch (rsN w.ch w.n 3 0) c) (6 + c) (nI (rbN w.ch (rsN w.ch w.n 3 0) c (r + 1))))))) dX8_read_102 rfl (by decide) (up_at _ _ _) (rfl) (by omega) (by decide) (upd_upd _ _ _ _) (up_up _ _ _ _) ?_
            refine P_iinc (q := 106) (L' := [_, _, _, _]) (v := nI (r + 1)) dX8_read_103 rfl (by decide) rfl (nI_1 r) rfl ?_
            refine P_goto (tgt := 56) dX8_read_106 (by decide) ?_
            exact ih (r + 1) (by omega)
          refine P_iload_n (q := 57) dX8_read_56 rfl rfl ?_
          refine P_aload_n (q := 58) dX8_read_57 rfl rfl ?_
          refine P_get (q := 61) dX8_read_58 rfl fX8_216 (by decide) ((up_ne _ _ (by omega)).trans q0) rfl ?_
          refine P_icmp_ge (q := 64) (tgt := 109) dX8_read_61 rfl (by decide) (fun c_61 => ?_) (fun c_61 => ?_)
          · exfalso; rw [nI_leI (by omega) (by omega)] at c_61; omega
          · rw [nI_leI (by omega) (by omega)] at c_61
            refine P_aload_n (q := 65) dX8_read_64 rfl rfl ?_
            refine P_get (q := 68) dX8_read_65 rfl fX8_7 (by decide) ((up_ne _ _ (by omega)).trans q0) rfl ?_
            refine P_bipush (q := 70) (v := nI 6) dX8_read_68 rfl (by decide +kernel) ?_
            refine P_iload_n (q := 71) dX8_read_70 rfl rfl ?_
            refine P_iadd (q := 72) dX8_read_71 rfl ?_
            rw [show nI 6 + nI c = nI (6 + c) from nI_add _ _]
            refine P_dup2 (q := 73) dX8_read_72 rfl rfl rfl ?_
            refine P_iald (q := 74) (j := 6 + c) dX8_read_73 rfl (by decide) (up_at _ _ _) (rfl) (by omega) (by decide) ?_
            rw [show upd (rdV (ly2 g q (rsN w.ch w.n 3 0) 30) w.ch (rsN w.ch w.n 3 0) c) (6 + c) (nI (rbN w.ch (rsN w.ch w.n 3 0) c r)) (6 + c) = nI (rbN w.ch (rsN w.ch w.n 3 0) c r) from if_pos rfl]
            refine P_aload_n (q := 75) dX8_read_74 rfl rfl ?_
            refine P_get (q := 78) dX8_read_75 rfl fX8_58 (by decide) ((up_ne _ _ (by omega)).trans q0) rfl ?_
            refine P_aload_n (q := 79) dX8_read_78 rfl rfl ?_
            refine P_get (q := 82) dX8_read_79 rfl fX8_216 (by decide) ((up_ne _ _ (by omega)).trans q0) rfl ?_
            refine P_iconst (q := 83) (v := nI 1) dX8_read_82 rfl (by decide +kernel) ?_
            refine P_iadd (q := 84) dX8_read_83 rfl ?_
            rw [show nI (rsN w.ch w.n 3 0) + nI 1 = nI ((rsN w.ch w.n 3 0) + 1) from nI_1 _]
            refine P_iload_n (q := 85) dX8_read_84 rfl rfl ?_
            refine P_imul (q := 86) dX8_read_85 rfl ?_
            rw [pk_mul]
            refine P_iload_n (q := 87) dX8_read_86 rfl rfl ?_
            refine P_iadd (q := 88) dX8_read_87 rfl ?_
            rw [show nI (((rsN w.ch w.n 3 0) + 1) * c) + nI r = nI (((rsN w.ch w.n 3 0) + 1) * c + r) from nI_add _ _]
            refine P_iald (q := 89) (j := (((rsN w.ch w.n 3 0) + 1) * c + r)) dX8_read_88 rfl (by decide) ((up_ne _ _ (by omega)).trans q131) (rfl) (by omega) (by decide) ?_
            rw [tch _ hlen]
            refine P_bipush (q := 91) (v := nI 43) dX8_read_89 rfl (by decide +kernel) ?_
            refine P_icmp_ne (q := 94) (tgt := 100) dX8_read_91 rfl (by decide) (fun c_91 => ?_) (fun c_91 => ?_)
            · rw [nI_eq (by omega) (by omega)] at c_91
              refine P_iconst (q := 101) (v := nI 0) dX8_read_100 rfl (by decide +kernel) ?_
              first | exact go _ (by rw [if_pos c_91]) | exact go _ (by rw [if_neg c_91])
            · rw [nI_eq (by omega) (by omega)] at c_91
              refine P_iconst (q := 95) (v := nI 1) dX8_read_94 rfl (by decide +kernel) ?_
              refine P_iload_n (q := 96) dX8_read_95 rfl rfl ?_
              refine P_ishl (q := 97) dX8_read_96 rfl ?_
              rw [sh1 (show r ≤ 3 by omega)]
              refine P_goto (tgt := 101) dX8_read_97 (by decide) ?_
              first | exact go _ (by rw [if_pos c_91]) | exact go _ (by rw [if_neg c_91])
      have out : ∀ n c, c + n = q → ∀ x3 : Option Value, PW mX8_read 0 0 (MK σ (oRead w)) 36 [some (.ref 114), some (.int (ftV (.inr q))), some (.int (nI c)), x3] [] 132 (va_up σ1 115 (pI .int 46 (rdV (ly2 g q (rsN w.ch w.n 3 0) 30) w.ch (rsN w.ch w.n 3 0) c))) 0 0 := by
        intro n
        induction n with
        | zero =>
          intro c hc x3
          have e : c = q := by omega
          subst e
          refine P_iload_n (q := 37) dX8_read_36 rfl rfl ?_
          refine P_aload_n (q := 38) dX8_read_37 rfl rfl ?_
          refine P_get (q := 41) dX8_read_38 rfl fX8_219 (by decide) ((up_ne _ _ (by omega)).trans q0) rfl ?_
          refine P_icmp_ge (q := 44) (tgt := 115) dX8_read_41 rfl (by decide) (fun c_41 => ?_) (fun c_41 => ?_)
          · rw [nI_leI (by omega) (by omega)] at c_41
            have p0 := (up_ne σ1 (k := 115) (pI .int 46 (rdV (ly2 g c (rsN w.ch w.n 3 0) 30) w.ch (rsN w.ch w.n 3 0) c)) (show 114 ≠ 115 by omega)).trans q0
            have p1 := up_at σ1 115 (pI .int 46 (rdV (ly2 g c (rsN w.ch w.n 3 0) 30) w.ch (rsN w.ch w.n 3 0) c))
            have p116 := (up_ne σ1 (k := 115) (pI .int 46 (rdV (ly2 g c (rsN w.ch w.n 3 0) 30) w.ch (rsN w.ch w.n 3 0) c)) (show 116 ≠ 115 by omega)).trans q116
            have ps := qs.up (c := pI .int 46 (rdV (ly2 g c (rsN w.ch w.n 3 0) 30) w.ch (rsN w.ch w.n 3 0) c)) (show 115 = 114 ∨ 115 = 115 ∨ 115 = 116 ∨ (119 ≤ 115 ∧ 115 ≤ 130) by omega)
            have pAR : AR (va_up σ1 115 (pI .int 46 (rdV (ly2 g c (rsN w.ch w.n 3 0) 30) w.ch (rsN w.ch w.n 3 0) c))) := qAR.up (a := 115)
            refine P_aload_n (q := 116) dX8_read_115 rfl rfl ?_
            refine P_aload_n (q := 117) dX8_read_116 rfl rfl ?_
            refine P_cv1 (q := 120) dX8_read_117 rfl kX8_159 (m_cells ⟨_, _, _, _, _, _, _, p0⟩ (XA.of p1 hB hRB)) rfl rfl (by decide) (p0) rfl ⟨by decide, by decide⟩ (Nat.le_of_ble_eq_true rfl) ⟨Nat.le_refl _, Nat.le_refl _⟩ ?_
            refine P_callv (q := 123) dX8_read_120 rfl (m_acted (x := nI (c * (rsN w.ch w.n 3 0))) hA p116 qR hl p0 ((ps 117 (by omega)).trans h117) hH) kX8_172 rfl rfl (by decide) (p0) rfl ⟨by decide, by decide⟩ (Nat.le_of_ble_eq_true rfl) ⟨Nat.le_refl _, Nat.le_refl _⟩ ?_
            rintro v σ3 ⟨rfl, s3, e3, g3, e117, hH3⟩
            have fin := hW0.act ps p1 hB hRB pAR s3 e3 e117 hH3
            refine P_iret dX8_read_123 rfl (rfl) ?_
            have eR : oRead w = (nI (c * (rsN w.ch w.n 3 0)), w.to (rdS w.A (c, rw1, (rsN w.ch w.n 3 0), (flU w.ch w.n (rsN w.ch w.n 3 0) 9 1 (rsN w.ch w.n 3 0) (rsU w.ch w.n 0 3 0 0 0))))) := by unfold oRead; rw [hprs]; rfl
            rw [eR]
            exact ⟨rfl, fin.1, ss0.trans fin.2⟩
          · exfalso; rw [nI_leI (by omega) (by omega)] at c_41; omega
        | succ n ih =>
          intro c hc x3
          refine P_iload_n (q := 37) dX8_read_36 rfl rfl ?_
          refine P_aload_n (q := 38) dX8_read_37 rfl rfl ?_
          refine P_get (q := 41) dX8_read_38 rfl fX8_219 (by decide) ((up_ne _ _ (by omega)).trans q0) rfl ?_
          refine P_icmp_ge (q := 44) (tgt := 115) dX8_read_41 rfl (by decide) (fun c_41 => ?_) (fun c_41 => ?_)
          · exfalso; rw [nI_leI (by omega) (by omega)] at c_41; omega
          · rw [nI_leI (by omega) (by omega)] at c_41
            refine P_aload_n (q := 45) dX8_read_44 rfl rfl ?_
            refine P_get (q := 48) dX8_read_45 rfl fX8_7 (by decide) ((up_ne _ _ (by omega)).trans q0) rfl ?_
            refine P_bipush (q := 50) (v := nI 6) dX8_read_48 rfl (by decide +kernel) ?_
            refine P_iload_n (q := 51) dX8_read_50 rfl rfl ?_
            refine P_iadd (q := 52) dX8_read_51 rfl ?_
            refine P_iconst (q := 53) (v := nI 0) dX8_read_52 rfl (by decide +kernel) ?_
            refine P_iast (q := 54) (j := 6 + c) dX8_read_53 rfl (by decide) (up_at _ _ _) (nI_add _ _) (by omega) (by decide) (rfl) (rfl) ?_
            refine P_iconst (q := 55) (v := nI 0) dX8_read_54 rfl (by decide +kernel) ?_
            refine P_istore_n (q := 56) (L' := [_, _, _, _]) dX8_read_55 rfl (by decide) rfl ?_
            have h := inl c (by omega) (fun x3 => ih (c + 1) (by omega) x3) (rsN w.ch w.n 3 0) 0 (Nat.zero_add _)
            rw [up_up]
            exact h
      refine P_iconst (q := 35) (v := nI 0) dX8_read_34 rfl (by decide +kernel) ?_
      refine P_istore_n (q := 36) (L' := [_, _, _, _]) dX8_read_35 rfl (by decide) rfl ?_
      have h := out q 0 (Nat.zero_add _) none
      rw [show rdV (ly2 g q (rsN w.ch w.n 3 0) 30) w.ch (rsN w.ch w.n 3 0) 0 = (ly2 g q (rsN w.ch w.n 3 0) 30) from funext fun k => if_neg (by omega)] at h
      exact h
    · exact absurd rfl c_9
