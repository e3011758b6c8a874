/-! THE REFERENCE: copies, the history -/
def flC (f g : Nat → Int32) (i : Nat) : Nat → Int32 := fun k => if k < i then f k else g k
theorem flC_succ (f g : Nat → Int32) (i : Nat) : upd (flC f g i) i (f i) = flC f g (i + 1) := by
  funext k
  unfold upd flC
  by_cases h : k = i
  · subst h; rw [if_pos rfl, if_pos (by omega)]
  · rw [if_neg h]
    by_cases h2 : k < i
    · rw [if_pos h2, if_pos (by omega)]
    · rw [if_neg h2, if_neg (by omega)]
theorem flC_0 (f g : Nat → Int32) : flC f g 0 = g := funext fun k => if_neg (by omega)
theorem RA.congr {f g : Nat → Int32} {A : St} (hA : A.ok) (h : RA f A) (e : ∀ k, k < 46 → g k = f k) : RA g A := by
  obtain ⟨h0, h1, h2, h3, h4, h5, h6, h7⟩ := h
  have hC := hA.1.2
  have hR := hA.2.1.2
  exact ⟨(e 0 (by omega)).trans h0, (e 1 (by omega)).trans h1, (e 2 (by omega)).trans h2, (e 3 (by omega)).trans h3, (e 4 (by omega)).trans h4, (e 5 (by omega)).trans h5, fun c hc => (e _ (by omega)).trans (h6 c hc), fun c r hc hr => (e _ (by omega)).trans (h7 c r hc hr)⟩
theorem RA_flC {f g : Nat → Int32} {A : St} (hA : A.ok) (h : RA f A) : RA (flC f g 46) A := h.congr hA (fun k hk => if_pos hk)
set_option maxRecDepth 100000 in
set_option maxHeartbeats 4000000 in
theorem m_copy {σ : Sto} {a b : Nat} {f g : Nat → Int32} (ha : a < 132) (hb : b < 132) (hab : a ≠ b) (hf : σ a = pI .int 46 f) (hg : σ b = pI .int 46 g) : CD mX8_copy [.ref a, .ref b] 132 σ none (va_up σ b (pI .int 46 (flC f g 46))) := by
  have lp : ∀ n i, i + n = 46 → PW mX8_copy 0 0 (fun v σ' => v = none ∧ σ' = va_up σ b (pI .int 46 (flC f g 46))) 2 [some (.ref a), some (.ref b), some (.int (nI i))] [] 132 (va_up σ b (pI .int 46 (flC f g i))) 0 0 := by
   intro n
   induction n with
   | zero =>
    intro i hi
    have e : i = 46 := by omega
    subst e
    refine P_iload_n (q := 3) dX8_copy_2 rfl rfl ?_
    refine P_bipush (q := 5) (v := nI 46) dX8_copy_3 rfl (by decide +kernel) ?_
    refine P_icmp_ge (q := 8) (tgt := 20) dX8_copy_5 rfl (by decide) (fun c_5 => ?_) (fun c_5 => ?_)
    · rw [nI_leI (by omega) (by omega)] at c_5
      refine P_vret dX8_copy_20 rfl ?_
      exact ⟨rfl, rfl⟩
    · exfalso; rw [nI_leI (by omega) (by omega)] at c_5; omega
   | succ n ih =>
    intro i hi
    refine P_iload_n (q := 3) dX8_copy_2 rfl rfl ?_
    refine P_bipush (q := 5) (v := nI 46) dX8_copy_3 rfl (by decide +kernel) ?_
    refine P_icmp_ge (q := 8) (tgt := 20) dX8_copy_5 rfl (by decide) (fun c_5 => ?_) (fun c_5 => ?_)
    · exfalso; rw [nI_leI (by omega) (by omega)] at c_5; omega
    · rw [nI_leI (by omega) (by omega)] at c_5
      refine P_aload_n (q := 9) dX8_copy_8 rfl rfl ?_
      refine P_iload_n (q := 10) dX8_copy_9 rfl rfl ?_
      refine P_aload_n (q := 11) dX8_copy_10 rfl rfl ?_
      refine P_iload_n (q := 12) dX8_copy_11 rfl rfl ?_
      refine P_iald (q := 13) (j := i) dX8_copy_12 rfl (by omega) ((up_ne _ _ hab).trans hf) (rfl) (by omega) (by decide) ?_
      refine P_iast (q := 14) (j := i) (f' := flC f g (i + 1)) (σ' := va_up σ b (pI .int 46 (flC f g (i + 1)))) dX8_copy_13 rfl (by omega) (up_at _ _ _) (rfl) (by omega) (by decide) (flC_succ _ _ _) (up_up _ _ _ _) ?_
      refine P_iinc (q := 17) (L' := [_, _, _]) (v := nI (i + 1)) dX8_copy_14 rfl (by decide) rfl (nI_1 i) rfl ?_
      refine P_goto (tgt := 2) dX8_copy_17 (by decide) ?_
      exact ih (i + 1) (by omega)
  refine CP_of (by decide +kernel) (Nat.le_of_ble_eq_true rfl) ?_
  change PW _ _ _ _ 0 [_, _, _] [] _ _ _ _
  refine P_iconst (q := 1) (v := nI 0) dX8_copy_0 rfl (by decide +kernel) ?_
  refine P_istore_n (q := 2) (L' := [_, _, _]) dX8_copy_1 rfl (by decide) rfl ?_
  have h := lp 46 0 (by omega)
  rw [flC_0, up_self hg] at h
  exact h
def XH (g : Nat → Int32) (H : List St) : Prop := ∀ i, i < H.length → ∃ B, H[i]? = some B ∧ B.ok ∧ RA (fun k => g (46 * (H.length - 1 - i) + k)) B
def shV (g : Nat → Int32) (i : Nat) : Nat → Int32 := fun k => if k < i then g (k + 46) else g k
theorem shV_succ (g : Nat → Int32) (i : Nat) : upd (shV g i) i (shV g i (i + 46)) = shV g (i + 1) := by
  funext k
  unfold upd shV
  by_cases h : k = i
  · subst h; rw [if_pos rfl, if_neg (by omega), if_pos (by omega)]
  · rw [if_neg h]
    by_cases h2 : k < i
    · rw [if_pos h2, if_pos (by omega)]
    · rw [if_neg h2, if_neg (by omega)]
def apV (g h : Nat → Int32) (b i : Nat) : Nat → Int32 := fun k => if b ≤ k ∧ k - b < i then h (k - b) else g k
theorem apV_succ (g h : Nat → Int32) (b i : Nat) : upd (apV g h b i) (b + i) (h i) = apV g h b (i + 1) := by
  funext k
  unfold upd apV
  by_cases e : k = b + i
  · subst e; rw [if_pos rfl, if_pos (by omega), Nat.add_sub_cancel_left]
  · rw [if_neg e]
    by_cases h2 : b ≤ k ∧ k - b < i
    · rw [if_pos h2, if_pos (by omega)]
    · rw [if_neg h2, if_neg (by omega)]
theorem XH_push {g h : Nat → Int32} {H : List St} {A : St} (hH : XH g H) (hA : A.ok) (hR : RA h A) : XH (apV g h (46 * H.length) 46) (A :: H) := by
  intro i hi
  cases i with
  | zero =>
    refine ⟨A, rfl, hA, hR.congr hA (fun k hk => ?_)⟩
    show apV g h (46 * H.length) 46 (46 * (H.length + 1 - 1 - 0) + k) = h k
    unfold apV
    rw [if_pos (by omega)]
    congr 1; omega
  | succ i =>
    have hi' : i < H.length := by simpa using hi
    obtain ⟨B, h1, h2, h3⟩ := hH i hi'
    refine ⟨B, h1, h2, h3.congr h2 (fun k hk => ?_)⟩
    show apV g h (46 * H.length) 46 (46 * (H.length + 1 - 1 - (i + 1)) + k) = g (46 * (H.length - 1 - i) + k)
    unfold apV
    rw [if_neg (by omega)]
    congr 1; omega
theorem XH_shift {g : Nat → Int32} {H : List St} (hH : XH g H) (hl : H.length = 4) : XH (shV g 138) (H.take 3) := by
  intro i hi
  have hl3 : (H.take 3).length = 3 := by rw [List.length_take]; omega
  rw [hl3] at hi
  obtain ⟨B, h1, h2, h3⟩ := hH i (by omega)
  refine ⟨B, by rw [List.getElem?_take, if_pos hi]; exact h1, h2, h3.congr h2 (fun k hk => ?_)⟩
  show shV g 138 (46 * ((H.take 3).length - 1 - i) + k) = g (46 * (H.length - 1 - i) + k)
  rw [hl3, hl]
  unfold shV
  rw [if_pos (by omega)]
  congr 1; omega
set_option maxRecDepth 100000 in
set_option maxHeartbeats 4000000 in
theorem w_act2 {σ0 : Sto} {x : Int32} {A : St} {H H0 : List St} {k0 n0 : Nat} {pl sp0 rc rr : Int32} {h : Nat → Int32} (hA : A.ok) (h116 : σ0 116 = pI .int 46 h) (hR : RA h A) (hl : H0.length < 4) (hr : rec4 A H = A :: H0) {σ : Sto} {g : Nat → Int32} (hs : same σ0 σ (fun i => i = 114 ∨ i = 117)) (h114 : σ 114 = (moO H0.length k0 pl n0 sp0 rc rr)) (h117 : σ 117 = pI .int 184 g) (hH : XH g H0) {x2 : Option Value} : PW mX8_acted 0 0 (fun v σ' => v = some (.int x) ∧ same σ0 σ' (fun i => i = 114 ∨ i = 117) ∧ σ' 114 = moO (rec4 A H).length k0 pl n0 sp0 rc rr ∧ ∃ g', σ' 117 = pI .int 184 g' ∧ XH g' (rec4 A H)) 48 [some (.ref 114), some (.int x), x2] [] 132 σ 0 0 := by
  have e116 := (hs 116 (by omega)).trans h116
  have lp : ∀ n i, i + n = 46 → PW mX8_acted 0 0 (fun v σ' => v = some (.int x) ∧ same σ0 σ' (fun i => i = 114 ∨ i = 117) ∧ σ' 114 = moO (rec4 A H).length k0 pl n0 sp0 rc rr ∧ ∃ g', σ' 117 = pI .int 184 g' ∧ XH g' (rec4 A H)) 50 [some (.ref 114), some (.int x), some (.int (nI i))] [] 132 (va_up σ 117 (pI .int 184 (apV g h (46 * H0.length) i))) 0 0 := by
   intro n
   induction n with
   | zero =>
    intro i hi
    have e : i = 46 := by omega
    subst e
    refine P_iload_n (q := 51) dX8_acted_50 rfl rfl ?_
    refine P_bipush (q := 53) (v := nI 46) dX8_acted_51 rfl (by decide +kernel) ?_
    refine P_icmp_ge (q := 56) (tgt := 82) dX8_acted_53 rfl (by decide) (fun c_53 => ?_) (fun c_53 => ?_)
    · rw [nI_leI (by omega) (by omega)] at c_53
      refine P_aload_n (q := 83) dX8_acted_82 rfl rfl ?_
      refine P_dup (q := 84) dX8_acted_83 rfl rfl ?_
      refine P_get (q := 87) dX8_acted_84 rfl fX8_69 (by decide) ((up_ne _ _ (by omega)).trans h114) rfl ?_
      refine P_iconst (q := 88) (v := nI 1) dX8_acted_87 rfl (by decide +kernel) ?_
      refine P_iadd (q := 89) dX8_acted_88 rfl ?_
      rw [show nI H0.length + nI 1 = nI (H0.length + 1) from nI_1 _]
      refine P_put (q := 92) (fs' := [_, _, _, _, _, _, _, _, _, _, _, _, _, _, _, _, _, _, _, _, _, _, _, _]) (σ' := va_up (va_up σ 117 (pI .int 184 (apV g h (46 * H0.length) 46))) 114 (moO (H0.length + 1) k0 pl n0 sp0 rc rr)) dX8_acted_89 rfl gX8_69 (by decide) ((up_ne _ _ (by omega)).trans h114) (fun _ => rfl) (fun _ => rfl) (Nat.le_of_ble_eq_true rfl) rfl (rfl) ?_
      refine P_iload_n (q := 93) dX8_acted_92 rfl rfl ?_
      refine P_iret dX8_acted_93 rfl (rfl) ?_
      rw [hr]
      exact ⟨rfl, (hs.up (Or.inr rfl)).up (Or.inl rfl), up_at _ _ _, _, (up_ne _ _ (by omega)).trans (up_at _ _ _), XH_push hH hA hR⟩
    · exfalso; rw [nI_leI (by omega) (by omega)] at c_53; omega
   | succ n ih =>
    intro i hi
    refine P_iload_n (q := 51) dX8_acted_50 rfl rfl ?_
    refine P_bipush (q := 53) (v := nI 46) dX8_acted_51 rfl (by decide +kernel) ?_
    refine P_icmp_ge (q := 56) (tgt := 82) dX8_acted_53 rfl (by decide) (fun c_53 => ?_) (fun c_53 => ?_)
    · exfalso; rw [nI_leI (by omega) (by omega)] at c_53; omega
    · rw [nI_leI (by omega) (by omega)] at c_53
      refine P_aload_n (q := 57) dX8_acted_56 rfl rfl ?_
      refine P_get (q := 60) dX8_acted_57 rfl fX8_16 (by decide) ((up_ne _ _ (by omega)).trans h114) rfl ?_
      refine P_bipush (q := 62) (v := nI 46) dX8_acted_60 rfl (by decide +kernel) ?_
      refine P_aload_n (q := 63) dX8_acted_62 rfl rfl ?_
      refine P_get (q := 66) dX8_acted_63 rfl fX8_69 (by decide) ((up_ne _ _ (by omega)).trans h114) rfl ?_
      refine P_imul (q := 67) dX8_acted_66 rfl ?_
      rw [pk_mul]
      refine P_iload_n (q := 68) dX8_acted_67 rfl rfl ?_
      refine P_iadd (q := 69) dX8_acted_68 rfl ?_
      rw [show nI (46 * H0.length) + nI i = nI (46 * H0.length + i) from nI_add _ _]
      refine P_aload_n (q := 70) dX8_acted_69 rfl rfl ?_
      refine P_get (q := 73) dX8_acted_70 rfl fX8_13 (by decide) ((up_ne _ _ (by omega)).trans h114) rfl ?_
      refine P_iload_n (q := 74) dX8_acted_73 rfl rfl ?_
      refine P_iald (q := 75) (j := i) dX8_acted_74 rfl (by decide) ((up_ne _ _ (by omega)).trans e116) (rfl) (by omega) (by decide) ?_
      refine P_iast (q := 76) (j := 46 * H0.length + i) (f' := apV g h (46 * H0.length) (i + 1)) (σ' := va_up σ 117 (pI .int 184 (apV g h (46 * H0.length) (i + 1)))) dX8_acted_75 rfl (by decide) (up_at _ _ _) (rfl) (by omega) (by decide) (apV_succ _ _ _ _) (up_up _ _ _ _) ?_
      refine P_iinc (q := 79) (L' := [_, _, _]) (v := nI (i + 1)) dX8_acted_76 rfl (by decide) rfl (nI_1 i) rfl ?_
      refine P_goto (tgt := 50) dX8_acted_79 (by decide) ?_
      exact ih (i + 1) (by omega)
  refine P_iconst (q := 49) (v := nI 0) dX8_acted_48 rfl (by decide +kernel) ?_
  refine P_istore_n (q := 50) (L' := [_, _, _]) dX8_acted_49 rfl (by decide) rfl ?_
  have hh := lp 46 0 (by omega)
  rw [show apV g h (46 * H0.length) 0 = g from funext fun k => if_neg (by omega), up_self h117] at hh
  exact hh
set_option maxRecDepth 100000 in
set_option maxHeartbeats 4000000 in
theorem m_acted {σ0 : Sto} {x : Int32} {A : St} {H : List St} {k0 n0 : Nat} {pl sp0 rc rr : Int32} {h : Nat → Int32} (hA : A.ok) (h116 : σ0 116 = pI .int 46 h) (hR : RA h A) {g : Nat → Int32} (hl : H.length ≤ 4) (h114 : σ0 114 = (moO H.length k0 pl n0 sp0 rc rr)) (h117 : σ0 117 = pI .int 184 g) (hH : XH g H) : CP mX8_acted 0 0 [.ref 114, .int x] 132 σ0 (fun v σ' => v = some (.int x) ∧ same σ0 σ' (fun i => i = 114 ∨ i = 117) ∧ σ' 114 = moO (rec4 A H).length k0 pl n0 sp0 rc rr ∧ ∃ g', σ' 117 = pI .int 184 g' ∧ XH g' (rec4 A H)) := by
  have lp : H.length = 4 → ∀ n i, i + n = 138 → PW mX8_acted 0 0 (fun v σ' => v = some (.int x) ∧ same σ0 σ' (fun i => i = 114 ∨ i = 117) ∧ σ' 114 = moO (rec4 A H).length k0 pl n0 sp0 rc rr ∧ ∃ g', σ' 117 = pI .int 184 g' ∧ XH g' (rec4 A H)) 10 [some (.ref 114), some (.int x), some (.int (nI i))] [] 132 (va_up σ0 117 (pI .int 184 (shV g i))) 0 0 := by
   intro h4 n
   have l3 : (H.take 3).length = 3 := by rw [List.length_take]; omega
   induction n with
   | zero =>
    intro i hi
    have e : i = 138 := by omega
    subst e
    refine P_iload_n (q := 11) dX8_acted_10 rfl rfl ?_
    refine P_sipush (q := 14) (v := nI 138) dX8_acted_11 rfl (by decide +kernel) ?_
    refine P_icmp_ge (q := 17) (tgt := 38) dX8_acted_14 rfl (by decide) (fun c_14 => ?_) (fun c_14 => ?_)
    · rw [nI_leI (by omega) (by omega)] at c_14
      refine P_aload_n (q := 39) dX8_acted_38 rfl rfl ?_
      refine P_dup (q := 40) dX8_acted_39 rfl rfl ?_
      refine P_get (q := 43) dX8_acted_40 rfl fX8_69 (by decide) ((up_ne _ _ (by omega)).trans h114) rfl ?_
      refine P_iconst (q := 44) (v := nI 1) dX8_acted_43 rfl (by decide +kernel) ?_
      refine P_isub (q := 45) dX8_acted_44 rfl ?_
      rw [h4, show nI 4 - nI 1 = nI 3 from by decide]
      refine P_put (q := 48) (fs' := [_, _, _, _, _, _, _, _, _, _, _, _, _, _, _, _, _, _, _, _, _, _, _, _]) (σ' := va_up (va_up σ0 117 (pI .int 184 (shV g 138))) 114 (moO (H.take 3).length k0 pl n0 sp0 rc rr)) dX8_acted_45 rfl gX8_69 (by decide) ((up_ne _ _ (by omega)).trans h114) (fun _ => rfl) (fun _ => rfl) (Nat.le_of_ble_eq_true rfl) rfl (by rw [l3]; rfl) ?_
      exact w_act2 hA h116 hR (by omega) (rec4_4 h4) ((same.rf.up (Or.inr rfl)).up (Or.inl rfl)) (up_at _ _ _) ((up_ne _ _ (by omega)).trans (up_at _ _ _)) (XH_shift hH h4)
    · exfalso; rw [nI_leI (by omega) (by omega)] at c_14; omega
   | succ n ih =>
    intro i hi
    refine P_iload_n (q := 11) dX8_acted_10 rfl rfl ?_
    refine P_sipush (q := 14) (v := nI 138) dX8_acted_11 rfl (by decide +kernel) ?_
    refine P_icmp_ge (q := 17) (tgt := 38) dX8_acted_14 rfl (by decide) (fun c_14 => ?_) (fun c_14 => ?_)
    · exfalso; rw [nI_leI (by omega) (by omega)] at c_14; omega
    · rw [nI_leI (by omega) (by omega)] at c_14
      refine P_aload_n (q := 18) dX8_acted_17 rfl rfl ?_
      refine P_get (q := 21) dX8_acted_18 rfl fX8_16 (by decide) ((up_ne _ _ (by omega)).trans h114) rfl ?_
      refine P_iload_n (q := 22) dX8_acted_21 rfl rfl ?_
      refine P_aload_n (q := 23) dX8_acted_22 rfl rfl ?_
      refine P_get (q := 26) dX8_acted_23 rfl fX8_16 (by decide) ((up_ne _ _ (by omega)).trans h114) rfl ?_
      refine P_iload_n (q := 27) dX8_acted_26 rfl rfl ?_
      refine P_bipush (q := 29) (v := nI 46) dX8_acted_27 rfl (by decide +kernel) ?_
      refine P_iadd (q := 30) dX8_acted_29 rfl ?_
      refine P_iald (q := 31) (j := i + 46) dX8_acted_30 rfl (by decide) (up_at _ _ _) (nI_add _ _) (by omega) (by decide) ?_
      refine P_iast (q := 32) (j := i) (f' := shV g (i + 1)) (σ' := va_up σ0 117 (pI .int 184 (shV g (i + 1)))) dX8_acted_31 rfl (by decide) (up_at _ _ _) (rfl) (by omega) (by decide) (shV_succ _ _) (up_up _ _ _ _) ?_
      refine P_iinc (q := 35) (L' := [_, _, _]) (v := nI (i + 1)) dX8_acted_32 rfl (by decide) rfl (nI_1 i) rfl ?_
      refine P_goto (tgt := 10) dX8_acted_35 (by decide) ?_
      exact ih (i + 1) (by omega)
  refine CP_of (by decide +kernel) (Nat.le_of_ble_eq_true rfl) ?_
  change PW _ _ _ _ 0 [_, _, _] [] _ _ _ _
  refine P_aload_n (q := 1) dX8_acted_0 rfl rfl ?_
  refine P_get (q := 4) dX8_acted_1 rfl fX8_69 (by decide) (h114) rfl ?_
  refine P_iconst (q := 5) (v := nI 4) dX8_acted_4 rfl (by decide +kernel) ?_
  refine P_icmp_ne (q := 8) (tgt := 48) dX8_acted_5 rfl (by decide) (fun c_5 => ?_) (fun c_5 => ?_)
  · rw [nI_eq (by omega) (by omega)] at c_5
    exact w_act2 hA h116 hR (by omega) (rec4_lt (by omega)) same.rf h114 h117 hH
  · rw [nI_eq (by omega) (by omega)] at c_5
    refine P_iconst (q := 9) (v := nI 0) dX8_acted_8 rfl (by decide +kernel) ?_
    refine P_istore_n (q := 10) (L' := [_, _, _]) dX8_acted_9 rfl (by decide) rfl ?_
    have hh := lp c_5 138 0 (by omega)
    rw [show shV g 0 = g from funext fun k => if_neg (by omega), up_self h117] at hh
    exact hh
