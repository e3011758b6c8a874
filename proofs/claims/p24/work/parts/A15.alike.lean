/-! THE LAW: the two objects alike -/
theorem cellv {w : Cs} {r c : Nat} (hr : r < w.A.R) (hc : c < w.A.C) (k : Nat) : (oCell w (r : Int) (c : Int) (k : Int)).1 = oCellK w.A r c (k : Int) := by
  show (if w.A.inB (r : Int) (c : Int) = true then oCellK w.A (r : Int).toNat (c : Int).toNat (k : Int) else iI (-1001)) = _
  rw [if_pos (inB_t hr hc), Int.toNat_natCast, Int.toNat_natCast]
theorem cell_lo {A B : St} (h : Mir A B) {r c k : Nat} (hr : r < A.R) (hc : c < A.C) (hk : k < 2) : oCellK B r c (k : Int) = -oCellK A r c (k : Int) := by
  have hk : k = 0 ∨ k = 1 := by omega
  rcases hk with rfl | rfl
  · show iI (B.s c r) = -iI (A.s c r); rw [h.s hc hr, iI_neg]
  · show iI (B.fd c r) = -iI (A.fd c r); rw [h.2.2 c r hc hr, iI_neg]
theorem cell_hi {A B : St} (h : Mir A B) (hA : A.ok) (hB : B.ok) {r c k : Nat} (hr : r < A.R) (hc : c < A.C) (hk : k < 7) (h2 : 2 ≤ k) : oCellK B r c (k : Int) = oCellK A r c (k : Int) := by
  have hk : k = 2 ∨ k = 3 ∨ k = 4 ∨ k = 5 ∨ k = 6 := by omega
  rcases hk with rfl | rfl | rfl | rfl | rfl
  · show iI (B.gain c r) = iI (A.gain c r); rw [h.gain hA hc hr]
  · show rsn (B.gain c r) = rsn (A.gain c r); rw [h.gain hA hc hr]
  · show nI (pcN 64 (B.bN (2 ^ (4 * c + r)))) = nI (pcN 64 (A.bN (2 ^ (4 * c + r)))); rw [h.bN]
  · show nI (pcN 64 (B.bN (2 ^ (4 * c + r)) &&& B.lk (4 * c + r))) = nI (pcN 64 (A.bN (2 ^ (4 * c + r)) &&& A.lk (4 * c + r))); rw [h.bN, h.lk hA hB hc hr]
  · show nI (pcN 64 (B.pIt (4 * c + r) 30)) = nI (pcN 64 (A.pIt (4 * c + r) 30)); rw [h.pIt hA hB hc hr]
theorem colv {w : Cs} {c : Nat} (hc : c < w.A.C) : (oCol w (c : Int)).1 = nI (w.A.sp c) := by
  show (if 0 ≤ (c : Int) ∧ (c : Int) < w.A.C then nI (w.A.sp (c : Int).toNat) else iI (-1001)) = _
  rw [if_pos ⟨by omega, by omega⟩, Int.toNat_natCast]
theorem shl_R : ∀ R, R < 4 → nI 1 <<< (nI R &&& 31) - nI 1 = nI (2 ^ R - 1) := by decide +kernel
theorem Mir.ups {A B : St} (h : Mir A B) (hA : A.ok) (hB : B.ok) : pcN 64 A.U + pcN 64 B.U = A.C * A.R := by
  rw [un_U hA, un_U hB]
  unfold St.un
  rw [h.1.1, ← sumN_add]
  have e : ∀ c, c < A.C → pcN 3 (A.sp c) + pcN 3 (B.sp c) = A.R := fun c hc => by
    have h1 := h.2.1 c hc
    have h2 := hA.2.2.2.2.2.1 c
    have h3 := pc_m A.R (by have := hA.2.1.2; omega) (A.sp c) h2
    rw [show B.sp c = mK A.R (A.sp c) by show _ = 2 ^ A.R - 1 - A.sp c; omega]
    omega
  rw [sumN_congr (g := fun _ => A.R) e, sumN_const, Nat.mul_comm]
set_option maxRecDepth 100000 in
set_option maxHeartbeats 4000000 in
theorem w_al1 {w x : Cs} (h : Mir w.A x.A) (hA : w.A.ok) (hB : x.A.ok) (K : ∀ (σ : Sto) (x4 : Option Value), W2 σ w x → PW mL_areAlike 0 0 (fun v σ' => v = some (.int (nI 1)) ∧ W2 σ' w x) 74 [some (.ref 0), some (.ref 114), some (.int (nI 1)), some (.int (nI 15)), x4, none] [] 228 σ 0 0) :
    ∀ d k, k + d = 15 → ∀ (σ : Sto) (x4 : Option Value), W2 σ w x → PW mL_areAlike 0 0 (fun v σ' => v = some (.int (nI 1)) ∧ W2 σ' w x) 4 [some (.ref 0), some (.ref 114), some (.int (nI 1)), some (.int (nI k)), x4, none] [] 228 σ 0 0 := by
  intro d
  induction d with
  | zero =>
    intro k hk σ x4 hW
    have e : k = 15 := by omega
    subst e
    refine P_iload_n (q := 5) dL_areAlike_4 rfl rfl ?_
    refine P_bipush (q := 7) (v := nI 15) dL_areAlike_5 rfl (by decide +kernel) ?_
    refine P_icmp_ge (q := 10) (tgt := 74) dL_areAlike_7 rfl (by decide) (fun c_7 => ?_) (fun c_7 => ?_)
    · rw [nI_leI (by omega) (by omega)] at c_7
      exact K σ x4 hW
    · exfalso; rw [nI_leI (by omega) (by omega)] at c_7; omega
  | succ d ih =>
    intro k hk σ x4 hW
    refine P_iload_n (q := 5) dL_areAlike_4 rfl rfl ?_
    refine P_bipush (q := 7) (v := nI 15) dL_areAlike_5 rfl (by decide +kernel) ?_
    refine P_icmp_ge (q := 10) (tgt := 74) dL_areAlike_7 rfl (by decide) (fun c_7 => ?_) (fun c_7 => ?_)
    · exfalso; rw [nI_leI (by omega) (by omega)] at c_7; omega
    · rw [nI_leI (by omega) (by omega)] at c_7
      refine P_iload_n (q := 11) dL_areAlike_10 rfl rfl ?_
      refine P_iconst (q := 12) (v := nI 5) dL_areAlike_11 rfl (by decide +kernel) ?_
      refine P_icmp_eq (q := 15) (tgt := 37) dL_areAlike_12 rfl (by decide) (fun c_12 => ?_) (fun c_12 => ?_)
      · rw [nI_eq (by omega) (by omega)] at c_12
        refine P_iconst (q := 38) (v := nI 0) dL_areAlike_37 rfl (by decide +kernel) ?_
        refine P_istore (q := 40) (L' := [_, _, _, _, _, _]) dL_areAlike_38 rfl (by decide) rfl ?_
        refine P_iload_n (q := 41) dL_areAlike_40 rfl rfl ?_
        refine P_if_eq (q := 44) (tgt := 66) dL_areAlike_41 rfl (by decide) (fun c_41 => ?_) (fun c_41 => ?_)
        · exact absurd c_41 (by decide)
        · refine P_iload (q := 46) dL_areAlike_44 rfl rfl ?_
          refine P_if_eq (q := 49) (tgt := 62) dL_areAlike_46 rfl (by decide) (fun c_46 => ?_) (fun c_46 => ?_)
          · refine P_iconst (q := 63) (v := nI 1) dL_areAlike_62 rfl (by decide +kernel) ?_
            refine P_goto (tgt := 67) dL_areAlike_63 (by decide) ?_
            refine P_istore_n (q := 68) (L' := [_, _, _, _, _, _]) dL_areAlike_67 rfl (by decide) rfl ?_
            refine P_iinc (q := 71) (L' := [_, _, _, _, _, _]) (v := nI (k + 1)) dL_areAlike_68 rfl (by decide) rfl (nI_1 k) rfl ?_
            refine P_goto (tgt := 4) dL_areAlike_71 (by decide) ?_
            exact ih (k + 1) (by omega) _ _ hW
          · exact absurd rfl c_46
      · rw [nI_eq (by omega) (by omega)] at c_12
        refine P_iload_n (q := 16) dL_areAlike_15 rfl rfl ?_
        refine P_bipush (q := 18) (v := nI 13) dL_areAlike_16 rfl (by decide +kernel) ?_
        refine P_icmp_eq (q := 21) (tgt := 37) dL_areAlike_18 rfl (by decide) (fun c_18 => ?_) (fun c_18 => ?_)
        · rw [nI_eq (by omega) (by omega)] at c_18
          refine P_iconst (q := 38) (v := nI 0) dL_areAlike_37 rfl (by decide +kernel) ?_
          refine P_istore (q := 40) (L' := [_, _, _, _, _, _]) dL_areAlike_38 rfl (by decide) rfl ?_
          refine P_iload_n (q := 41) dL_areAlike_40 rfl rfl ?_
          refine P_if_eq (q := 44) (tgt := 66) dL_areAlike_41 rfl (by decide) (fun c_41 => ?_) (fun c_41 => ?_)
          · exact absurd c_41 (by decide)
          · refine P_iload (q := 46) dL_areAlike_44 rfl rfl ?_
            refine P_if_eq (q := 49) (tgt := 62) dL_areAlike_46 rfl (by decide) (fun c_46 => ?_) (fun c_46 => ?_)
            · refine P_iconst (q := 63) (v := nI 1) dL_areAlike_62 rfl (by decide +kernel) ?_
              refine P_goto (tgt := 67) dL_areAlike_63 (by decide) ?_
              refine P_istore_n (q := 68) (L' := [_, _, _, _, _, _]) dL_areAlike_67 rfl (by decide) rfl ?_
              refine P_iinc (q := 71) (L' := [_, _, _, _, _, _]) (v := nI (k + 1)) dL_areAlike_68 rfl (by decide) rfl (nI_1 k) rfl ?_
              refine P_goto (tgt := 4) dL_areAlike_71 (by decide) ?_
              exact ih (k + 1) (by omega) _ _ hW
            · exact absurd rfl c_46
        · rw [nI_eq (by omega) (by omega)] at c_18
          refine P_iload_n (q := 22) dL_areAlike_21 rfl rfl ?_
          refine P_bipush (q := 24) (v := nI 8) dL_areAlike_22 rfl (by decide +kernel) ?_
          refine P_icmp_lt (q := 27) (tgt := 33) dL_areAlike_24 rfl (by decide) (fun c_24 => ?_) (fun c_24 => ?_)
          · rw [nI_ltI (by omega) (by omega)] at c_24
            refine P_iconst (q := 34) (v := nI 1) dL_areAlike_33 rfl (by decide +kernel) ?_
            refine P_goto (tgt := 38) dL_areAlike_34 (by decide) ?_
            refine P_istore (q := 40) (L' := [_, _, _, _, _, _]) dL_areAlike_38 rfl (by decide) rfl ?_
            refine P_iload_n (q := 41) dL_areAlike_40 rfl rfl ?_
            refine P_if_eq (q := 44) (tgt := 66) dL_areAlike_41 rfl (by decide) (fun c_41 => ?_) (fun c_41 => ?_)
            · exact absurd c_41 (by decide)
            · refine P_iload (q := 46) dL_areAlike_44 rfl rfl ?_
              refine P_if_eq (q := 49) (tgt := 62) dL_areAlike_46 rfl (by decide) (fun c_46 => ?_) (fun c_46 => ?_)
              · exact absurd c_46 (by decide)
              · refine P_aload_n (q := 50) dL_areAlike_49 rfl rfl ?_
                refine P_iload_n (q := 51) dL_areAlike_50 rfl rfl ?_
                refine P_api (q := 54) dL_areAlike_51 rfl kL_19 (o_count hW k (by omega) rfl) rfl rfl (by decide) (hW.oo) rfl ⟨by decide, by decide⟩ (Nat.le_of_ble_eq_true rfl) ?_
                intro σ1 hW1
                refine P_aload_n (q := 55) dL_areAlike_54 rfl rfl ?_
                refine P_iload_n (q := 56) dL_areAlike_55 rfl rfl ?_
                refine P_api (q := 59) dL_areAlike_56 rfl kL_19 (p_count hW1 k (by omega) (cnt_same h hA hB k (by omega) c_12 c_18)) rfl rfl (by decide) (hW1.pp) rfl ⟨by decide, by decide⟩ (Nat.le_of_ble_eq_true rfl) ?_
                intro σ2 hW2
                refine P_icmp_ne (q := 62) (tgt := 66) dL_areAlike_59 rfl (by decide) (fun c_59 => ?_) (fun c_59 => ?_)
                · exact absurd (rfl) c_59
                · refine P_iconst (q := 63) (v := nI 1) dL_areAlike_62 rfl (by decide +kernel) ?_
                  refine P_goto (tgt := 67) dL_areAlike_63 (by decide) ?_
                  refine P_istore_n (q := 68) (L' := [_, _, _, _, _, _]) dL_areAlike_67 rfl (by decide) rfl ?_
                  refine P_iinc (q := 71) (L' := [_, _, _, _, _, _]) (v := nI (k + 1)) dL_areAlike_68 rfl (by decide) rfl (nI_1 k) rfl ?_
                  refine P_goto (tgt := 4) dL_areAlike_71 (by decide) ?_
                  exact ih (k + 1) (by omega) _ _ hW2
          · rw [nI_ltI (by omega) (by omega)] at c_24
            refine P_iload_n (q := 28) dL_areAlike_27 rfl rfl ?_
            refine P_bipush (q := 30) (v := nI 10) dL_areAlike_28 rfl (by decide +kernel) ?_
            refine P_icmp_le (q := 33) (tgt := 37) dL_areAlike_30 rfl (by decide) (fun c_30 => ?_) (fun c_30 => ?_)
            · rw [nI_leI (by omega) (by omega)] at c_30
              refine P_iconst (q := 38) (v := nI 0) dL_areAlike_37 rfl (by decide +kernel) ?_
              refine P_istore (q := 40) (L' := [_, _, _, _, _, _]) dL_areAlike_38 rfl (by decide) rfl ?_
              refine P_iload_n (q := 41) dL_areAlike_40 rfl rfl ?_
              refine P_if_eq (q := 44) (tgt := 66) dL_areAlike_41 rfl (by decide) (fun c_41 => ?_) (fun c_41 => ?_)
              · exact absurd c_41 (by decide)
              · refine P_iload (q := 46) dL_areAlike_44 rfl rfl ?_
                refine P_if_eq (q := 49) (tgt := 62) dL_areAlike_46 rfl (by decide) (fun c_46 => ?_) (fun c_46 => ?_)
                · refine P_iconst (q := 63) (v := nI 1) dL_areAlike_62 rfl (by decide +kernel) ?_
                  refine P_goto (tgt := 67) dL_areAlike_63 (by decide) ?_
                  refine P_istore_n (q := 68) (L' := [_, _, _, _, _, _]) dL_areAlike_67 rfl (by decide) rfl ?_
                  refine P_iinc (q := 71) (L' := [_, _, _, _, _, _]) (v := nI (k + 1)) dL_areAlike_68 rfl (by decide) rfl (nI_1 k) rfl ?_
                  refine P_goto (tgt := 4) dL_areAlike_71 (by decide) ?_
                  exact ih (k + 1) (by omega) _ _ hW
                · exact absurd rfl c_46
            · rw [nI_leI (by omega) (by omega)] at c_30
              refine P_iconst (q := 34) (v := nI 1) dL_areAlike_33 rfl (by decide +kernel) ?_
              refine P_goto (tgt := 38) dL_areAlike_34 (by decide) ?_
              refine P_istore (q := 40) (L' := [_, _, _, _, _, _]) dL_areAlike_38 rfl (by decide) rfl ?_
              refine P_iload_n (q := 41) dL_areAlike_40 rfl rfl ?_
              refine P_if_eq (q := 44) (tgt := 66) dL_areAlike_41 rfl (by decide) (fun c_41 => ?_) (fun c_41 => ?_)
              · exact absurd c_41 (by decide)
              · refine P_iload (q := 46) dL_areAlike_44 rfl rfl ?_
                refine P_if_eq (q := 49) (tgt := 62) dL_areAlike_46 rfl (by decide) (fun c_46 => ?_) (fun c_46 => ?_)
                · exact absurd c_46 (by decide)
                · refine P_aload_n (q := 50) dL_areAlike_49 rfl rfl ?_
                  refine P_iload_n (q := 51) dL_areAlike_50 rfl rfl ?_
                  refine P_api (q := 54) dL_areAlike_51 rfl kL_19 (o_count hW k (by omega) rfl) rfl rfl (by decide) (hW.oo) rfl ⟨by decide, by decide⟩ (Nat.le_of_ble_eq_true rfl) ?_
                  intro σ1 hW1
                  refine P_aload_n (q := 55) dL_areAlike_54 rfl rfl ?_
                  refine P_iload_n (q := 56) dL_areAlike_55 rfl rfl ?_
                  refine P_api (q := 59) dL_areAlike_56 rfl kL_19 (p_count hW1 k (by omega) (cnt_same h hA hB k (by omega) c_12 c_18)) rfl rfl (by decide) (hW1.pp) rfl ⟨by decide, by decide⟩ (Nat.le_of_ble_eq_true rfl) ?_
                  intro σ2 hW2
                  refine P_icmp_ne (q := 62) (tgt := 66) dL_areAlike_59 rfl (by decide) (fun c_59 => ?_) (fun c_59 => ?_)
                  · exact absurd (rfl) c_59
                  · refine P_iconst (q := 63) (v := nI 1) dL_areAlike_62 rfl (by decide +kernel) ?_
                    refine P_goto (tgt := 67) dL_areAlike_63 (by decide) ?_
                    refine P_istore_n (q := 68) (L' := [_, _, _, _, _, _]) dL_areAlike_67 rfl (by decide) rfl ?_
                    refine P_iinc (q := 71) (L' := [_, _, _, _, _, _]) (v := nI (k + 1)) dL_areAlike_68 rfl (by decide) rfl (nI_1 k) rfl ?_
                    refine P_goto (tgt := 4) dL_areAlike_71 (by decide) ?_
                    exact ih (k + 1) (by omega) _ _ hW2
set_option maxRecDepth 100000 in
set_option maxHeartbeats 4000000 in
theorem w_al3 {w x : Cs} {c r : Nat} (h : Mir w.A x.A) (hA : w.A.ok) (hB : x.A.ok) (hc : c < w.A.C) (hr : r < w.A.R) (K : ∀ (σ : Sto) (x5 : Option Value), W2 σ w x → PW mL_areAlike 0 0 (fun v σ' => v = some (.int (nI 1)) ∧ W2 σ' w x) 121 [some (.ref 0), some (.ref 114), some (.int (nI 1)), some (.int (nI c)), some (.int (nI (r + 1))), x5] [] 228 σ 0 0) :
    ∀ d k, k + d = 7 → ∀ σ : Sto, W2 σ w x → PW mL_areAlike 0 0 (fun v σ' => v = some (.int (nI 1)) ∧ W2 σ' w x) 134 [some (.ref 0), some (.ref 114), some (.int (nI 1)), some (.int (nI c)), some (.int (nI r)), some (.int (nI k))] [] 228 σ 0 0 := by
  have hC := hA.1
  have hR := hA.2.1
  have hrB : r < x.A.R := by rw [h.1.2.1]; exact hr
  have hcB : c < x.A.C := by rw [h.1.1]; exact hc
  intro d
  induction d with
  | zero =>
    intro k hk σ hW
    have e : k = 7 := by omega
    subst e
    refine P_iload (q := 136) dL_areAlike_134 rfl rfl ?_
    refine P_bipush (q := 138) (v := nI 7) dL_areAlike_136 rfl (by decide +kernel) ?_
    refine P_icmp_ge (q := 141) (tgt := 197) dL_areAlike_138 rfl (by decide) (fun c_138 => ?_) (fun c_138 => ?_)
    · rw [nI_leI (by omega) (by omega)] at c_138
      refine P_iinc (q := 200) (L' := [_, _, _, _, _, _]) (v := nI (r + 1)) dL_areAlike_197 rfl (by decide) rfl (nI_1 r) rfl ?_
      refine P_goto (tgt := 121) dL_areAlike_200 (by decide) ?_
      exact K σ _ hW
    · exfalso; rw [nI_leI (by omega) (by omega)] at c_138; omega
  | succ d ih =>
    intro k hk σ hW
    refine P_iload (q := 136) dL_areAlike_134 rfl rfl ?_
    refine P_bipush (q := 138) (v := nI 7) dL_areAlike_136 rfl (by decide +kernel) ?_
    refine P_icmp_ge (q := 141) (tgt := 197) dL_areAlike_138 rfl (by decide) (fun c_138 => ?_) (fun c_138 => ?_)
    · exfalso; rw [nI_leI (by omega) (by omega)] at c_138; omega
    · rw [nI_leI (by omega) (by omega)] at c_138
      refine P_iload_n (q := 142) dL_areAlike_141 rfl rfl ?_
      refine P_if_eq (q := 145) (tgt := 189) dL_areAlike_142 rfl (by decide) (fun c_142 => ?_) (fun c_142 => ?_)
      · exact absurd c_142 (by decide)
      · refine P_aload_n (q := 146) dL_areAlike_145 rfl rfl ?_
        refine P_iload (q := 148) dL_areAlike_146 rfl rfl ?_
        refine P_iload_n (q := 149) dL_areAlike_148 rfl rfl ?_
        refine P_iload (q := 151) dL_areAlike_149 rfl rfl ?_
        refine P_api (q := 154) dL_areAlike_151 rfl kL_40 (p_cell hW hrB hcB (by omega) (by omega) k (by omega) (cellv hrB hcB k)) rfl rfl (by decide) (hW.pp) rfl ⟨by decide, by decide⟩ (Nat.le_of_ble_eq_true rfl) ?_
        intro σ1 hW1
        refine P_iload (q := 156) dL_areAlike_154 rfl rfl ?_
        refine P_iconst (q := 157) (v := nI 2) dL_areAlike_156 rfl (by decide +kernel) ?_
        refine P_icmp_ge (q := 160) (tgt := 173) dL_areAlike_157 rfl (by decide) (fun c_157 => ?_) (fun c_157 => ?_)
        · rw [nI_leI (by omega) (by omega)] at c_157
          refine P_aload_n (q := 174) dL_areAlike_173 rfl rfl ?_
          refine P_iload (q := 176) dL_areAlike_174 rfl rfl ?_
          refine P_iload_n (q := 177) dL_areAlike_176 rfl rfl ?_
          refine P_iload (q := 179) dL_areAlike_177 rfl rfl ?_
          refine P_api (q := 182) dL_areAlike_179 rfl kL_40 (o_cell hW1 hr hc (by omega) (by omega) k (by omega) (cellv hr hc k)) rfl rfl (by decide) (hW1.oo) rfl ⟨by decide, by decide⟩ (Nat.le_of_ble_eq_true rfl) ?_
          intro σ2 hW2
          refine P_icmp_ne (q := 185) (tgt := 189) dL_areAlike_182 rfl (by decide) (fun c_182 => ?_) (fun c_182 => ?_)
          · first | exact absurd (cell_lo h hr hc (by omega)) c_182 | exact absurd (cell_hi h hA hB hr hc (by omega) (by omega)) c_182
          · refine P_iconst (q := 186) (v := nI 1) dL_areAlike_185 rfl (by decide +kernel) ?_
            refine P_goto (tgt := 190) dL_areAlike_186 (by decide) ?_
            refine P_istore_n (q := 191) (L' := [_, _, _, _, _, _]) dL_areAlike_190 rfl (by decide) rfl ?_
            refine P_iinc (q := 194) (L' := [_, _, _, _, _, _]) (v := nI (k + 1)) dL_areAlike_191 rfl (by decide) rfl (nI_1 k) rfl ?_
            refine P_goto (tgt := 134) dL_areAlike_194 (by decide) ?_
            exact ih (k + 1) (by omega) _ hW2
        · rw [nI_leI (by omega) (by omega)] at c_157
          refine P_aload_n (q := 161) dL_areAlike_160 rfl rfl ?_
          refine P_iload (q := 163) dL_areAlike_161 rfl rfl ?_
          refine P_iload_n (q := 164) dL_areAlike_163 rfl rfl ?_
          refine P_iload (q := 166) dL_areAlike_164 rfl rfl ?_
          refine P_api (q := 169) dL_areAlike_166 rfl kL_40 (o_cell hW1 hr hc (by omega) (by omega) k (by omega) (cellv hr hc k)) rfl rfl (by decide) (hW1.oo) rfl ⟨by decide, by decide⟩ (Nat.le_of_ble_eq_true rfl) ?_
          intro σ2 hW2
          refine P_ineg (q := 170) dL_areAlike_169 rfl ?_
          refine P_goto (tgt := 182) dL_areAlike_170 (by decide) ?_
          refine P_icmp_ne (q := 185) (tgt := 189) dL_areAlike_182 rfl (by decide) (fun c_182 => ?_) (fun c_182 => ?_)
          · first | exact absurd (cell_lo h hr hc (by omega)) c_182 | exact absurd (cell_hi h hA hB hr hc (by omega) (by omega)) c_182
          · refine P_iconst (q := 186) (v := nI 1) dL_areAlike_185 rfl (by decide +kernel) ?_
            refine P_goto (tgt := 190) dL_areAlike_186 (by decide) ?_
            refine P_istore_n (q := 191) (L' := [_, _, _, _, _, _]) dL_areAlike_190 rfl (by decide) rfl ?_
            refine P_iinc (q := 194) (L' := [_, _, _, _, _, _]) (v := nI (k + 1)) dL_areAlike_191 rfl (by decide) rfl (nI_1 k) rfl ?_
            refine P_goto (tgt := 134) dL_areAlike_194 (by decide) ?_
            exact ih (k + 1) (by omega) _ hW2
set_option maxRecDepth 100000 in
set_option maxHeartbeats 4000000 in
theorem w_al2 {w x : Cs} {c : Nat} (h : Mir w.A x.A) (hA : w.A.ok) (hB : x.A.ok) (hc : c < w.A.C) (K : ∀ (σ : Sto) (x4 x5 : Option Value), W2 σ w x → PW mL_areAlike 0 0 (fun v σ' => v = some (.int (nI 1)) ∧ W2 σ' w x) 76 [some (.ref 0), some (.ref 114), some (.int (nI 1)), some (.int (nI (c + 1))), x4, x5] [] 228 σ 0 0) :
    ∀ d r, r + d = w.A.R → ∀ (σ : Sto) (x5 : Option Value), W2 σ w x → PW mL_areAlike 0 0 (fun v σ' => v = some (.int (nI 1)) ∧ W2 σ' w x) 121 [some (.ref 0), some (.ref 114), some (.int (nI 1)), some (.int (nI c)), some (.int (nI r)), x5] [] 228 σ 0 0 := by
  have hC := hA.1
  have hR := hA.2.1
  intro d
  induction d with
  | zero =>
    intro r hr σ x5 hW
    refine P_iload (q := 123) dL_areAlike_121 rfl rfl ?_
    refine P_aload_n (q := 124) dL_areAlike_123 rfl rfl ?_
    refine P_iconst (q := 125) (v := nI 1) dL_areAlike_124 rfl (by decide +kernel) ?_
    refine P_api (q := 128) dL_areAlike_125 rfl kL_19 (o_count hW 1 (by decide) (v := nI w.A.R) rfl) rfl rfl (by decide) (hW.oo) rfl ⟨by decide, by decide⟩ (Nat.le_of_ble_eq_true rfl) ?_
    intro σ1 hW1
    refine P_icmp_ge (q := 131) (tgt := 203) dL_areAlike_128 rfl (by decide) (fun c_128 => ?_) (fun c_128 => ?_)
    · rw [nI_leI (by omega) (by omega)] at c_128
      refine P_iinc (q := 206) (L' := [_, _, _, _, _, _]) (v := nI (c + 1)) dL_areAlike_203 rfl (by decide) rfl (nI_1 c) rfl ?_
      refine P_goto (tgt := 76) dL_areAlike_206 (by decide) ?_
      exact K _ _ _ hW1
    · exfalso; rw [nI_leI (by omega) (by omega)] at c_128; omega
  | succ d ih =>
    intro r hr σ x5 hW
    refine P_iload (q := 123) dL_areAlike_121 rfl rfl ?_
    refine P_aload_n (q := 124) dL_areAlike_123 rfl rfl ?_
    refine P_iconst (q := 125) (v := nI 1) dL_areAlike_124 rfl (by decide +kernel) ?_
    refine P_api (q := 128) dL_areAlike_125 rfl kL_19 (o_count hW 1 (by decide) (v := nI w.A.R) rfl) rfl rfl (by decide) (hW.oo) rfl ⟨by decide, by decide⟩ (Nat.le_of_ble_eq_true rfl) ?_
    intro σ1 hW1
    refine P_icmp_ge (q := 131) (tgt := 203) dL_areAlike_128 rfl (by decide) (fun c_128 => ?_) (fun c_128 => ?_)
    · exfalso; rw [nI_leI (by omega) (by omega)] at c_128; omega
    · rw [nI_leI (by omega) (by omega)] at c_128
      refine P_iconst (q := 132) (v := nI 0) dL_areAlike_131 rfl (by decide +kernel) ?_
      refine P_istore (q := 134) (L' := [_, _, _, _, _, _]) dL_areAlike_132 rfl (by decide) rfl ?_
      exact w_al3 h hA hB hc (by omega) (fun σ2 x5 hW2 => ih (r + 1) (by omega) σ2 x5 hW2) 7 0 (by decide) _ hW1
set_option maxRecDepth 100000 in
set_option maxHeartbeats 4000000 in
theorem w_al4 {w x : Cs} (h : Mir w.A x.A) (hA : w.A.ok) (hB : x.A.ok) : ∀ d c, c + d = w.A.C → ∀ (σ : Sto) (x4 x5 : Option Value), W2 σ w x → PW mL_areAlike 0 0 (fun v σ' => v = some (.int (nI 1)) ∧ W2 σ' w x) 76 [some (.ref 0), some (.ref 114), some (.int (nI 1)), some (.int (nI c)), x4, x5] [] 228 σ 0 0 := by
  have hC := hA.1
  have hR := hA.2.1
  have hu := h.ups hA hB
  intro d
  induction d with
  | zero =>
    intro c hc σ x4 x5 hW
    refine P_iload_n (q := 77) dL_areAlike_76 rfl rfl ?_
    refine P_aload_n (q := 78) dL_areAlike_77 rfl rfl ?_
    refine P_iconst (q := 79) (v := nI 0) dL_areAlike_78 rfl (by decide +kernel) ?_
    refine P_api (q := 82) dL_areAlike_79 rfl kL_19 (o_count hW 0 (by decide) (v := nI w.A.C) rfl) rfl rfl (by decide) (hW.oo) rfl ⟨by decide, by decide⟩ (Nat.le_of_ble_eq_true rfl) ?_
    intro σ1 hW1
    refine P_icmp_ge (q := 85) (tgt := 209) dL_areAlike_82 rfl (by decide) (fun c_82 => ?_) (fun c_82 => ?_)
    · rw [nI_leI (by omega) (by omega)] at c_82
      refine P_iload_n (q := 210) dL_areAlike_209 rfl rfl ?_
      refine P_if_eq (q := 213) (tgt := 242) dL_areAlike_210 rfl (by decide) (fun c_210 => ?_) (fun c_210 => ?_)
      · exact absurd c_210 (by decide)
      · refine P_aload_n (q := 214) dL_areAlike_213 rfl rfl ?_
        refine P_iconst (q := 215) (v := nI 5) dL_areAlike_214 rfl (by decide +kernel) ?_
        refine P_api (q := 218) dL_areAlike_215 rfl kL_19 (o_count hW1 5 (by decide) (v := nI (pcN 64 w.A.U)) rfl) rfl rfl (by decide) (hW1.oo) rfl ⟨by decide, by decide⟩ (Nat.le_of_ble_eq_true rfl) ?_
        intro σ2 hW2
        refine P_aload_n (q := 219) dL_areAlike_218 rfl rfl ?_
        refine P_iconst (q := 220) (v := nI 5) dL_areAlike_219 rfl (by decide +kernel) ?_
        refine P_api (q := 223) dL_areAlike_220 rfl kL_19 (p_count hW2 5 (by decide) (v := nI (pcN 64 x.A.U)) rfl) rfl rfl (by decide) (hW2.pp) rfl ⟨by decide, by decide⟩ (Nat.le_of_ble_eq_true rfl) ?_
        intro σ3 hW3
        refine P_iadd (q := 224) dL_areAlike_223 rfl ?_
        rw [nI_add, hu]
        refine P_aload_n (q := 225) dL_areAlike_224 rfl rfl ?_
        refine P_iconst (q := 226) (v := nI 0) dL_areAlike_225 rfl (by decide +kernel) ?_
        refine P_api (q := 229) dL_areAlike_226 rfl kL_19 (o_count hW3 0 (by decide) (v := nI w.A.C) rfl) rfl rfl (by decide) (hW3.oo) rfl ⟨by decide, by decide⟩ (Nat.le_of_ble_eq_true rfl) ?_
        intro σ4 hW4
        refine P_aload_n (q := 230) dL_areAlike_229 rfl rfl ?_
        refine P_iconst (q := 231) (v := nI 1) dL_areAlike_230 rfl (by decide +kernel) ?_
        refine P_api (q := 234) dL_areAlike_231 rfl kL_19 (o_count hW4 1 (by decide) (v := nI w.A.R) rfl) rfl rfl (by decide) (hW4.oo) rfl ⟨by decide, by decide⟩ (Nat.le_of_ble_eq_true rfl) ?_
        intro σ5 hW5
        refine P_imul (q := 235) dL_areAlike_234 rfl ?_
        rw [pk_mul]
        refine P_icmp_ne (q := 238) (tgt := 242) dL_areAlike_235 rfl (by decide) (fun c_235 => ?_) (fun c_235 => ?_)
        · exact absurd (rfl) c_235
        · refine P_iconst (q := 239) (v := nI 1) dL_areAlike_238 rfl (by decide +kernel) ?_
          refine P_goto (tgt := 243) dL_areAlike_239 (by decide) ?_
          refine P_iret dL_areAlike_243 rfl (rfl) ?_
          exact ⟨rfl, hW5⟩
    · exfalso; rw [nI_leI (by omega) (by omega)] at c_82; omega
  | succ d ih =>
    intro c hc σ x4 x5 hW
    have hcc : c < w.A.C := by omega
    have hcB : c < x.A.C := by rw [h.1.1]; exact hcc
    have es := h.2.1 c hcc
    refine P_iload_n (q := 77) dL_areAlike_76 rfl rfl ?_
    refine P_aload_n (q := 78) dL_areAlike_77 rfl rfl ?_
    refine P_iconst (q := 79) (v := nI 0) dL_areAlike_78 rfl (by decide +kernel) ?_
    refine P_api (q := 82) dL_areAlike_79 rfl kL_19 (o_count hW 0 (by decide) (v := nI w.A.C) rfl) rfl rfl (by decide) (hW.oo) rfl ⟨by decide, by decide⟩ (Nat.le_of_ble_eq_true rfl) ?_
    intro σ1 hW1
    refine P_icmp_ge (q := 85) (tgt := 209) dL_areAlike_82 rfl (by decide) (fun c_82 => ?_) (fun c_82 => ?_)
    · exfalso; rw [nI_leI (by omega) (by omega)] at c_82; omega
    · rw [nI_leI (by omega) (by omega)] at c_82
      refine P_iload_n (q := 86) dL_areAlike_85 rfl rfl ?_
      refine P_if_eq (q := 89) (tgt := 209) dL_areAlike_86 rfl (by decide) (fun c_86 => ?_) (fun c_86 => ?_)
      · exact absurd c_86 (by decide)
      · refine P_aload_n (q := 90) dL_areAlike_89 rfl rfl ?_
        refine P_iload_n (q := 91) dL_areAlike_90 rfl rfl ?_
        refine P_api (q := 94) dL_areAlike_91 rfl kL_91 (o_col hW1 (by omega) (colv hcc)) rfl rfl (by decide) (hW1.oo) rfl ⟨by decide, by decide⟩ (Nat.le_of_ble_eq_true rfl) ?_
        intro σ2 hW2
        refine P_aload_n (q := 95) dL_areAlike_94 rfl rfl ?_
        refine P_iload_n (q := 96) dL_areAlike_95 rfl rfl ?_
        refine P_api (q := 99) dL_areAlike_96 rfl kL_91 (p_col hW2 (by omega) (colv hcB)) rfl rfl (by decide) (hW2.pp) rfl ⟨by decide, by decide⟩ (Nat.le_of_ble_eq_true rfl) ?_
        intro σ3 hW3
        refine P_iadd (q := 100) dL_areAlike_99 rfl ?_
        rw [nI_add, Nat.add_comm (w.A.sp c), es]
        refine P_iconst (q := 101) (v := nI 1) dL_areAlike_100 rfl (by decide +kernel) ?_
        refine P_aload_n (q := 102) dL_areAlike_101 rfl rfl ?_
        refine P_iconst (q := 103) (v := nI 1) dL_areAlike_102 rfl (by decide +kernel) ?_
        refine P_api (q := 106) dL_areAlike_103 rfl kL_19 (o_count hW3 1 (by decide) (v := nI w.A.R) rfl) rfl rfl (by decide) (hW3.oo) rfl ⟨by decide, by decide⟩ (Nat.le_of_ble_eq_true rfl) ?_
        intro σ4 hW4
        refine P_ishl (q := 107) dL_areAlike_106 rfl ?_
        refine P_iconst (q := 108) (v := nI 1) dL_areAlike_107 rfl (by decide +kernel) ?_
        refine P_isub (q := 109) dL_areAlike_108 rfl ?_
        rw [shl_R w.A.R (by omega)]
        refine P_icmp_ne (q := 112) (tgt := 116) dL_areAlike_109 rfl (by decide) (fun c_109 => ?_) (fun c_109 => ?_)
        · exact absurd (rfl) c_109
        · refine P_iconst (q := 113) (v := nI 1) dL_areAlike_112 rfl (by decide +kernel) ?_
          refine P_goto (tgt := 117) dL_areAlike_113 (by decide) ?_
          refine P_istore_n (q := 118) (L' := [_, _, _, _, _, _]) dL_areAlike_117 rfl (by decide) rfl ?_
          refine P_iconst (q := 119) (v := nI 0) dL_areAlike_118 rfl (by decide +kernel) ?_
          refine P_istore (q := 121) (L' := [_, _, _, _, _, _]) dL_areAlike_119 rfl (by decide) rfl ?_
          exact w_al2 h hA hB hcc (fun σ5 x4 x5 hW5 => ih (c + 1) (by omega) σ5 x4 x5 hW5) w.A.R 0 (by omega) _ _ hW4
set_option maxRecDepth 100000 in
set_option maxHeartbeats 4000000 in
theorem t_areAlike {σ : Sto} {w x : Cs} (hW : W2 σ w x) (h : Rel w x) : CP mL_areAlike 0 0 [.ref 0, .ref 114] 228 σ (fun v σ' => v = some (.int (nI 1)) ∧ W2 σ' w x) := by
  have hA := hW.okA
  have hB := hW.okB
  refine CP_of (by decide +kernel) (Nat.le_of_ble_eq_true rfl) ?_
  change PW _ _ _ _ 0 [_, _, _, _, _, _] [] _ _ _ _
  refine P_iconst (q := 1) (v := nI 1) dL_areAlike_0 rfl (by decide +kernel) ?_
  refine P_istore_n (q := 2) (L' := [_, _, _, _, _, _]) dL_areAlike_1 rfl (by decide) rfl ?_
  refine P_iconst (q := 3) (v := nI 0) dL_areAlike_2 rfl (by decide +kernel) ?_
  refine P_istore_n (q := 4) (L' := [_, _, _, _, _, _]) dL_areAlike_3 rfl (by decide) rfl ?_
  refine w_al1 h.1 hA hB (fun σ1 x4 hW1 => ?_) 15 0 (by decide) σ _ hW
  refine P_iconst (q := 75) (v := nI 0) dL_areAlike_74 rfl (by decide +kernel) ?_
  refine P_istore_n (q := 76) (L' := [_, _, _, _, _, _]) dL_areAlike_75 rfl (by decide) rfl ?_
  exact w_al4 h.1 hA hB w.A.C 0 (by omega) _ _ _ hW1
