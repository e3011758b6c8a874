/-! THE REFERENCE: joins -/
def bm : List Nat → Nat
  | [] => 0
  | p :: l => 2 ^ p ||| bm l
theorem bm_app (p : Nat) : ∀ l, bm (l ++ [p]) = bm l ||| 2 ^ p
  | [] => by show 2 ^ p ||| 0 = 0 ||| 2 ^ p; rw [Nat.or_zero, Nat.zero_or]
  | q :: l => by
    show 2 ^ q ||| bm (l ++ [p]) = (2 ^ q ||| bm l) ||| 2 ^ p
    rw [bm_app p l, Nat.or_assoc]
theorem bm_lt : ∀ l : List Nat, (∀ p, p ∈ l → p < 40) → bm l < 2 ^ 40
  | [], _ => by decide
  | q :: l, h => Nat.or_lt_two_pow (Nat.pow_lt_pow_right (by decide) (h q List.mem_cons_self)) (bm_lt l (fun p hp => h p (List.mem_cons_of_mem _ hp)))
theorem bm_mem (q : Nat) : ∀ l, (bm l).testBit q = true ↔ q ∈ l
  | [] => by show (0 : Nat).testBit q = true ↔ _; rw [Nat.zero_testBit]; exact ⟨fun h => by (cases h), fun h => absurd h List.not_mem_nil⟩
  | p :: l => by
    show (2 ^ p ||| bm l).testBit q = true ↔ _
    rw [Nat.testBit_or, Bool.or_eq_true_iff, bm_mem q l, Nat.testBit_two_pow, decide_eq_true_iff, List.mem_cons]
    exact ⟨fun h => h.imp Eq.symm id, fun h => h.imp Eq.symm id⟩
/-- a cell joins those that are piled -/
def St.jn (A : St) (M : Nat) (s : Int) (l : List Nat) (o : Option (Nat × Nat)) : List Nat := match o with
  | none => l
  | some (c, r) => if A.s c r = s ∧ (M ||| bm l).testBit (4 * c + r) = false then l ++ [4 * c + r] else l
def St.oc (A : St) (z : Int) (o : Option Nat) : Option (Nat × Nat) := match o with
  | none => none
  | some d => if 0 ≤ z ∧ z < A.R then some (d, z.toNat) else none
def XP (σ : Sto) (M : Nat) (l : List Nat) : Prop := (∃ g : Nat → Int32, σ 129 = pI .int 30 g ∧ ∀ c r, c < 10 → r < 3 → g (3 * c + r) = bI ((M ||| bm l).testBit (4 * c + r))) ∧ ∃ h : Nat → Int32, σ 130 = pI .int 30 h ∧ ∀ i p, l[i]? = some p → h i = nI (3 * (p / 4) + p % 4)
theorem bI_le0 (b : Bool) : bI b ≤ 0 ↔ b = false := by cases b <;> decide
theorem XP_push {σ : Sto} {M : Nat} {l : List Nat} {d r : Nat} {c : PC} {g h : Nat → Int32} (h1 : ∀ c r, c < 10 → r < 3 → g (3 * c + r) = bI ((M ||| bm l).testBit (4 * c + r))) (h2 : ∀ i p, l[i]? = some p → h i = nI (3 * (p / 4) + p % 4)) (hr : r < 3) : XP (va_up (va_up (va_up σ 129 (pI .int 30 (upd g (3 * d + r) (nI 1)))) 130 (pI .int 30 (upd h l.length (nI (3 * d + r))))) 114 c) M (l ++ [4 * d + r]) := by
  refine ⟨⟨_, ((up_ne _ _ (by omega)).trans (up_ne _ _ (by omega))).trans (up_at _ _ _), fun c' r' hc' hr' => ?_⟩, _, (up_ne _ _ (by omega)).trans (up_at _ _ _), fun i p hi => ?_⟩
  · unfold upd
    rw [bm_app, ← Nat.or_assoc, Nat.testBit_or, Nat.testBit_two_pow]
    by_cases e : c' = d ∧ r' = r
    · rw [if_pos (by omega), decide_eq_true (by omega), Bool.or_true]; rfl
    · rw [if_neg (by omega), decide_eq_false (by omega), Bool.or_false]
      exact h1 c' r' hc' hr'
  · unfold upd
    by_cases e : i = l.length
    · subst e
      rw [List.getElem?_append_right (Nat.le_refl _), Nat.sub_self] at hi
      have hp : 4 * d + r = p := Option.some.inj hi
      rw [if_pos rfl]
      congr 1
      omega
    · rw [if_neg e]
      refine h2 i p ?_
      by_cases e2 : i < l.length
      · rw [List.getElem?_append_left e2] at hi; exact hi
      · rw [List.getElem?_append_right (by omega)] at hi
        obtain ⟨k, hk⟩ : ∃ k, i - l.length = k + 1 := ⟨i - l.length - 1, by omega⟩
        rw [hk] at hi
        cases hi
set_option maxRecDepth 100000 in
set_option maxHeartbeats 4000000 in
theorem m_joins {σ : Sto} {A : St} {M L k0 n : Nat} {l : List Nat} {sp rc rr : Int32} (hX : XA σ A) (h0 : σ 114 = moO L k0 (nI l.length) n sp rc rr) (hP : XP σ M l) {z : Int} (z1 : -10 ≤ z) (z2 : z ≤ 10) {o : Option Nat} (ho : ∀ d, o = some d → d < A.C) {s : Int} (s1 : -1 ≤ s) (s2 : s ≤ 1) (hl : (A.jn M s l (A.oc z o)).length ≤ 30) : CP mX8_joins 0 0 [.ref 114, .int (iI z), .int (nbI o), .int (iI s)] 132 σ (fun v σ' => v = none ∧ σ' 114 = moO L k0 (nI (A.jn M s l (A.oc z o)).length) n sp rc rr ∧ XP σ' M (A.jn M s l (A.oc z o)) ∧ same σ σ' (fun i => i = 114 ∨ i = 129 ∨ i = 130)) := by
  have hM : MO σ := ⟨_, _, _, _, _, _, _, h0⟩
  have hA := hX.1
  have hC := hA.1
  have hR := hA.2.1
  have hir := m_isRow hM hX (z := z) (by omega) (by omega)
  by_cases hz : 0 ≤ z ∧ z < A.R
  · rw [decide_eq_true hz] at hir
    obtain ⟨r, rfl⟩ : ∃ r : Nat, z = r := ⟨z.toNat, by omega⟩
    have hr : r < A.R := by omega
    rw [← iI_nI] at hir
    rw [← iI_nI]
    cases o with
    | none =>
      refine CP_of (by decide +kernel) (Nat.le_of_ble_eq_true rfl) ?_
      change PW _ _ _ _ 0 [_, _, _, _] [] _ _ _ _
      refine P_aload_n (q := 1) dX8_joins_0 rfl rfl ?_
      refine P_iload_n (q := 2) dX8_joins_1 rfl rfl ?_
      refine P_cv1 (q := 5) dX8_joins_2 rfl kX8_109 (hir) rfl rfl (by decide) (h0) rfl ⟨by decide, by decide⟩ (Nat.le_of_ble_eq_true rfl) ⟨Nat.le_refl _, Nat.le_refl _⟩ ?_
      refine P_if_eq (q := 8) (tgt := 38) dX8_joins_5 rfl (by decide) (fun c_5 => ?_) (fun c_5 => ?_)
      · exact absurd c_5 (by decide)
      · refine P_iload_n (q := 9) dX8_joins_8 rfl rfl ?_
        refine P_sipush (q := 12) (v := iI (-1005)) dX8_joins_9 rfl (by decide +kernel) ?_
        refine P_icmp_eq (q := 15) (tgt := 38) dX8_joins_12 rfl (by decide) (fun c_12 => ?_) (fun c_12 => ?_)
        · refine P_vret dX8_joins_38 rfl ?_
          exact ⟨rfl, h0, hP, same.rf⟩
        · exact absurd rfl c_12
    | some d =>
      have hd := ho d rfl
      have eo : A.oc (r : Int) (some d) = some (d, r) := if_pos hz
      rw [eo] at hl ⊢
      rw [show nbI (some d) = nI d from rfl]
      obtain ⟨⟨g, h129, hg⟩, h, h130, hh⟩ := id hP
      have no : ¬ (A.s d r = s ∧ (M ||| bm l).testBit (4 * d + r) = false) → A.jn M s l (some (d, r)) = l := fun q => if_neg q
      have hsp := m_spin hM hX (r := r) (c := d) (by omega) (by omega)
      have hpm := A.s_pm d r
      refine CP_of (by decide +kernel) (Nat.le_of_ble_eq_true rfl) ?_
      change PW _ _ _ _ 0 [_, _, _, _] [] _ _ _ _
      refine P_aload_n (q := 1) dX8_joins_0 rfl rfl ?_
      refine P_iload_n (q := 2) dX8_joins_1 rfl rfl ?_
      refine P_cv1 (q := 5) dX8_joins_2 rfl kX8_109 (hir) rfl rfl (by decide) (h0) rfl ⟨by decide, by decide⟩ (Nat.le_of_ble_eq_true rfl) ⟨Nat.le_refl _, Nat.le_refl _⟩ ?_
      refine P_if_eq (q := 8) (tgt := 38) dX8_joins_5 rfl (by decide) (fun c_5 => ?_) (fun c_5 => ?_)
      · exact absurd c_5 (by decide)
      · refine P_iload_n (q := 9) dX8_joins_8 rfl rfl ?_
        refine P_sipush (q := 12) (v := iI (-1005)) dX8_joins_9 rfl (by decide +kernel) ?_
        refine P_icmp_eq (q := 15) (tgt := 38) dX8_joins_12 rfl (by decide) (fun c_12 => ?_) (fun c_12 => ?_)
        · rw [iI_nI, iI_inj (by omega) (by omega) (by omega) (by omega)] at c_12
          omega
        · refine P_aload_n (q := 16) dX8_joins_15 rfl rfl ?_
          refine P_iload_n (q := 17) dX8_joins_16 rfl rfl ?_
          refine P_iload_n (q := 18) dX8_joins_17 rfl rfl ?_
          refine P_cv1 (q := 21) dX8_joins_18 rfl kX8_106 (hsp) rfl rfl (by decide) (h0) rfl ⟨by decide, by decide⟩ (Nat.le_of_ble_eq_true rfl) ⟨Nat.le_refl _, Nat.le_refl _⟩ ?_
          refine P_iload_n (q := 22) dX8_joins_21 rfl rfl ?_
          refine P_icmp_ne (q := 25) (tgt := 38) dX8_joins_22 rfl (by decide) (fun c_22 => ?_) (fun c_22 => ?_)
          · rw [iI_inj (by omega) (by omega) (by omega) (by omega)] at c_22
            refine P_vret dX8_joins_38 rfl ?_
            first
              | (rw [no (fun q => c_22 q.1)]; exact ⟨rfl, h0, hP, same.rf⟩)
              | (rw [no (fun q => c_35 q.2)]; exact ⟨rfl, h0, hP, same.rf⟩)
          · rw [iI_inj (by omega) (by omega) (by omega) (by omega)] at c_22
            refine P_aload_n (q := 26) dX8_joins_25 rfl rfl ?_
            refine P_get (q := 29) dX8_joins_26 rfl fX8_52 (by decide) (h0) rfl ?_
            refine P_iconst (q := 30) (v := nI 3) dX8_joins_29 rfl (by decide +kernel) ?_
            refine P_iload_n (q := 31) dX8_joins_30 rfl rfl ?_
            refine P_imul (q := 32) dX8_joins_31 rfl ?_
            refine P_iload_n (q := 33) dX8_joins_32 rfl rfl ?_
            refine P_iadd (q := 34) dX8_joins_33 rfl ?_
            refine P_iald (q := 35) (j := 3 * d + r) dX8_joins_34 rfl (by decide) (h129) (by rw [pk_mul, nI_add]) (by omega) (by decide) ?_
            rw [hg d r (by omega) (by omega)]
            refine P_if_le (q := 38) (tgt := 39) dX8_joins_35 rfl (by decide) (fun c_35 => ?_) (fun c_35 => ?_)
            · rw [bI_le0] at c_35
              have yes : A.jn M s l (some (d, r)) = l ++ [4 * d + r] := if_pos ⟨c_22, c_35⟩
              have len : (l ++ [4 * d + r]).length = l.length + 1 := by rw [List.length_append]; rfl
              rw [yes, len] at hl
              rw [yes, len]
              refine P_aload_n (q := 40) dX8_joins_39 rfl rfl ?_
              refine P_get (q := 43) dX8_joins_40 rfl fX8_52 (by decide) (h0) rfl ?_
              refine P_iconst (q := 44) (v := nI 3) dX8_joins_43 rfl (by decide +kernel) ?_
              refine P_iload_n (q := 45) dX8_joins_44 rfl rfl ?_
              refine P_imul (q := 46) dX8_joins_45 rfl ?_
              refine P_iload_n (q := 47) dX8_joins_46 rfl rfl ?_
              refine P_iadd (q := 48) dX8_joins_47 rfl ?_
              refine P_iconst (q := 49) (v := nI 1) dX8_joins_48 rfl (by decide +kernel) ?_
              refine P_iast (q := 50) (j := 3 * d + r) (f' := (upd g (3 * d + r) (nI 1))) (σ' := va_up σ 129 (pI .int 30 (upd g (3 * d + r) (nI 1)))) dX8_joins_49 rfl (by decide) (h129) (by rw [pk_mul, nI_add]) (by omega) (by decide) (rfl) (rfl) ?_
              refine P_aload_n (q := 51) dX8_joins_50 rfl rfl ?_
              refine P_get (q := 54) dX8_joins_51 rfl fX8_55 (by decide) ((up_ne _ _ (by omega)).trans h0) rfl ?_
              refine P_aload_n (q := 55) dX8_joins_54 rfl rfl ?_
              refine P_get (q := 58) dX8_joins_55 rfl fX8_149 (by decide) ((up_ne _ _ (by omega)).trans h0) rfl ?_
              refine P_iconst (q := 59) (v := nI 3) dX8_joins_58 rfl (by decide +kernel) ?_
              refine P_iload_n (q := 60) dX8_joins_59 rfl rfl ?_
              refine P_imul (q := 61) dX8_joins_60 rfl ?_
              rw [pk_mul]
              refine P_iload_n (q := 62) dX8_joins_61 rfl rfl ?_
              refine P_iadd (q := 63) dX8_joins_62 rfl ?_
              rw [show nI (3 * d) + nI r = nI (3 * d + r) from nI_add _ _]
              refine P_iast (q := 64) (j := l.length) (f' := (upd h l.length (nI (3 * d + r)))) (σ' := va_up (va_up σ 129 (pI .int 30 (upd g (3 * d + r) (nI 1)))) 130 (pI .int 30 (upd h l.length (nI (3 * d + r))))) dX8_joins_63 rfl (by decide) ((up_ne _ _ (by omega)).trans h130) (rfl) (by omega) (by decide) (rfl) (rfl) ?_
              refine P_aload_n (q := 65) dX8_joins_64 rfl rfl ?_
              refine P_dup (q := 66) dX8_joins_65 rfl rfl ?_
              refine P_get (q := 69) dX8_joins_66 rfl fX8_149 (by decide) (((up_ne _ _ (by omega)).trans (up_ne _ _ (by omega))).trans h0) rfl ?_
              refine P_iconst (q := 70) (v := nI 1) dX8_joins_69 rfl (by decide +kernel) ?_
              refine P_iadd (q := 71) dX8_joins_70 rfl ?_
              rw [show nI l.length + nI 1 = nI (l.length + 1) from nI_1 _]
              refine P_put (q := 74) (fs' := [_, _, _, _, _, _, _, _, _, _, _, _, _, _, _, _, _, _, _, _, _, _, _, _]) (σ' := va_up (va_up (va_up σ 129 (pI .int 30 (upd g (3 * d + r) (nI 1)))) 130 (pI .int 30 (upd h l.length (nI (3 * d + r))))) 114 (moO L k0 (nI (l.length + 1)) n sp rc rr)) dX8_joins_71 rfl gX8_149 (by decide) (((up_ne _ _ (by omega)).trans (up_ne _ _ (by omega))).trans h0) (fun _ => rfl) (fun _ => rfl) (Nat.le_of_ble_eq_true rfl) rfl (rfl) ?_
              refine P_vret dX8_joins_74 rfl ?_
              exact ⟨rfl, up_at _ _ _, XP_push hg hh (by omega), ((same.rf.up (by omega)).up (by omega)).up (by omega)⟩
            · rw [bI_le0] at c_35
              refine P_vret dX8_joins_38 rfl ?_
              first
                | (rw [no (fun q => c_22 q.1)]; exact ⟨rfl, h0, hP, same.rf⟩)
                | (rw [no (fun q => c_35 q.2)]; exact ⟨rfl, h0, hP, same.rf⟩)
  · rw [decide_eq_false hz] at hir
    have eo : A.oc z o = none := by
      cases o with
      | none => rfl
      | some d => exact if_neg hz
    rw [eo]
    refine CP_of (by decide +kernel) (Nat.le_of_ble_eq_true rfl) ?_
    change PW _ _ _ _ 0 [_, _, _, _] [] _ _ _ _
    refine P_aload_n (q := 1) dX8_joins_0 rfl rfl ?_
    refine P_iload_n (q := 2) dX8_joins_1 rfl rfl ?_
    refine P_cv1 (q := 5) dX8_joins_2 rfl kX8_109 (hir) rfl rfl (by decide) (h0) rfl ⟨by decide, by decide⟩ (Nat.le_of_ble_eq_true rfl) ⟨Nat.le_refl _, Nat.le_refl _⟩ ?_
    refine P_if_eq (q := 8) (tgt := 38) dX8_joins_5 rfl (by decide) (fun c_5 => ?_) (fun c_5 => ?_)
    · refine P_vret dX8_joins_38 rfl ?_
      exact ⟨rfl, h0, hP, same.rf⟩
    · exact absurd rfl c_5
