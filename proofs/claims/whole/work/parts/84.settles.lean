/-! THE REFERENCE: settles -/
theorem RR.get {σ : Sto} {A : St} {f : Nat} (h : RR σ A f (fun _ _ => True)) : ∃ g : Nat → Int32, σ 128 = pI .int 80 g ∧ ∀ c s, c < A.C → s < 2 ^ A.R → g (8 * c + s) = iI (A.rs f c s) := by
  obtain ⟨g, h1, h2⟩ := h
  exact ⟨g, h1, fun c s hc hs => h2 c s hc hs trivial⟩
theorem RR.ex {σ : Sto} {A : St} {f : Nat} {P : Nat → Nat → Prop} (h : RR σ A f P) : ∃ g : Nat → Int32, σ 128 = pI .int 80 g := by
  obtain ⟨g, h1, h2⟩ := h
  exact ⟨g, h1⟩
def St.sc (A : St) (c : Nat) : St := (A.C, A.R, A.g, A.al, A.ac, fun k => if k < c then (A.md false).fo (A.md false).f1 k else A.sp k, A.fd, A.tu)
theorem sc_ok {A : St} (hA : A.ok) {c : Nat} (hc : c ≤ A.C) : (A.sc c).ok := by
  obtain ⟨h1, h2, h3, h4, h5, h6, h7, h8⟩ := id hA
  refine ⟨h1, h2, h3, h4, h5, fun k => ?_, fun k hk => ?_, h8⟩
  · show (if k < c then _ else _) < 2 ^ A.R
    split
    · exact Md.fo_lt (f1_ok hA).1 k
    · exact h6 k
  · have hk : A.C ≤ k := hk
    exact (if_neg (by omega)).trans (h7 k hk)
theorem sc_0 (A : St) : A.sc 0 = A := by
  refine Prod.ext rfl (Prod.ext rfl (Prod.ext rfl (Prod.ext rfl (Prod.ext rfl (Prod.ext ?_ rfl)))))
  funext k
  show (if k < 0 then (A.md false).fo (A.md false).f1 k else A.sp k) = A.sp k
  exact if_neg (Nat.not_lt_zero k)
theorem sc_e {A : St} (hA : A.ok) : A.sc A.C = A.su := by
  refine Prod.ext rfl (Prod.ext rfl (Prod.ext rfl (Prod.ext rfl (Prod.ext rfl (Prod.ext ?_ rfl)))))
  funext k
  show (if k < A.C then _ else A.sp k) = if k < A.C then _ else 0
  by_cases h : k < A.C
  · rw [if_pos h, if_pos h]
  · rw [if_neg h, if_neg h]
    exact hA.2.2.2.2.2.2.1 k (by omega)
theorem RA_sc {g : Nat → Int32} {A : St} {c : Nat} (hc : c < 10) (h : RA g (A.sc c)) : RA (upd g (6 + c) (nI ((A.md false).fo (A.md false).f1 c))) (A.sc (c + 1)) := by
  obtain ⟨h0, h1, h2, h3, h4, h5, h6, h7⟩ := h
  have e : ∀ k, k ≠ 6 + c → upd g (6 + c) (nI ((A.md false).fo (A.md false).f1 c)) k = g k := fun k hk => if_neg hk
  refine ⟨(e 0 (by omega)).trans h0, (e 1 (by omega)).trans h1, (e 2 (by omega)).trans h2, (e 3 (by omega)).trans h3, (e 4 (by omega)).trans h4, (e 5 (by omega)).trans h5, fun k hk => ?_, fun i j hi hj => (e _ (by omega)).trans (h7 i j hi hj)⟩
  show _ = nI (if k < c + 1 then _ else _)
  by_cases ek : k = c
  · subst ek; rw [if_pos (by omega)]; exact if_pos rfl
  · rw [e _ (by omega), h6 k hk]
    show nI (if k < c then _ else _) = _
    by_cases h : k < c
    · rw [if_pos h, if_pos (by omega)]
    · rw [if_neg h, if_neg (by omega)]
set_option maxRecDepth 100000 in
set_option maxHeartbeats 4000000 in
theorem w_st1 {σ0 : Sto} {A : St} (hM : MO σ0) (hX : XA σ0 A) {x4 x5 x6 : Option Value} {QQ : Option Value → Sto → Prop} (K : ∀ σ p, same σ0 σ (fun i => i = 128) → p < 2 ^ A.R → kioN A.R p = (A.md false).f1 → RR σ A (A.md false).f1 (fun _ _ => True) → ∀ x3 : Option Value, PW mX8_settles 0 0 QQ 44 [some (.ref 114), some (.int (iI A.Es)), some (.int (nI p)), x3, x4, x5, x6] [] 132 σ 0 0) : ∀ n p, p + n = 2 ^ A.R → (∀ q, q < p → (A.md false).tl q = false) → ∀ σ, same σ0 σ (fun i => i = 128) → RR σ A (kioN A.R p) (fun _ _ => True) → PW mX8_settles 0 0 QQ 13 [some (.ref 114), some (.int (iI A.Es)), some (.int (nI p)), some (.int (nI (p + 1))), x4, x5, x6] [] 132 σ 0 0 := by
  have hA := hX.1
  have hC := hA.1
  have hR := hA.2.1
  have h8 := pow8 hR.2
  have hK := Nat.two_pow_pos A.R
  have hm := St.md_ok hA false
  have hMs : ∀ σ, same σ0 σ (fun i => i = 128) → MO σ := fun σ s => by
    obtain ⟨a1, a2, a3, a4, a5, a6, a7, h⟩ := hM
    exact ⟨a1, a2, a3, a4, a5, a6, a7, (s 114 (by omega)).trans h⟩
  have hXs : ∀ σ, same σ0 σ (fun i => i = 128) → XA σ A := fun σ s => by
    obtain ⟨-, g, h, hR⟩ := hX
    exact ⟨hA, g, (s 115 (by omega)).trans h, hR⟩
  obtain ⟨q0, -, hq0, ht0⟩ := Md.tl_ex hm
  have hq0 : q0 < 2 ^ A.R := by have : (A.md false).K = 2 ^ A.R := rfl; omega
  have hxb : A.Es = 2 * ((A.md false).xs : Int) - ((A.md false).wr : Int) := rfl
  have hx2 : (A.md false).xs ≤ 4400 := Md.mnL_le hm
  have hwr := wr_190 hA false
  intro n
  induction n with
  | zero =>
    intro p hp hno σ hs hG
    exfalso
    rw [hno q0 (by omega)] at ht0
    cases ht0
  | succ n ih =>
    intro p hp hno σ hs hG
    have hpK : p < 2 ^ A.R := by omega
    have hk : kioN A.R p < 2 ^ A.R := kioN_lt p A.R
    have hrk := m_ranked (hMs σ hs) (hXs σ hs) hpK
    obtain ⟨a1, a2, a3, a4, a5, a6, a7, h0⟩ := hMs σ hs
    obtain ⟨g, h128, hg⟩ := hG.get
    have hv := hg 0 (kioN A.R p) (by omega) hk
    rw [Nat.mul_zero, Nat.zero_add, rs_0 hA] at hv
    have hLb : (A.md false).L (kioN A.R p) ≤ 4400 := Md.L_le hm hk
    have hLx : (A.md false).xs ≤ (A.md false).L (kioN A.R p) := xs_le hk
    have etl : (A.md false).tl p = decide ((A.md false).L (kioN A.R p) = (A.md false).xs) := rfl
    refine P_aload_n (q := 14) dX8_settles_13 rfl rfl ?_
    refine P_get (q := 17) dX8_settles_14 rfl fX8_49 (by decide) (h0) rfl ?_
    refine P_aload_n (q := 18) dX8_settles_17 rfl rfl ?_
    refine P_iload_n (q := 19) dX8_settles_18 rfl rfl ?_
    refine P_cv1 (q := 22) dX8_settles_19 rfl kX8_143 (hrk) rfl rfl (by decide) (h0) rfl ⟨by decide, by decide⟩ (Nat.le_of_ble_eq_true rfl) ⟨Nat.le_refl _, Nat.le_refl _⟩ ?_
    refine P_iald (q := 23) (j := kioN A.R p) dX8_settles_22 rfl (by decide) (h128) (rfl) (by omega) (by decide) ?_
    rw [hv]
    refine P_iload_n (q := 24) dX8_settles_23 rfl rfl ?_
    refine P_icmp_le (q := 27) (tgt := 44) dX8_settles_24 rfl (by decide) (fun c_24 => ?_) (fun c_24 => ?_)
    · rw [iI_le (by omega) (by omega) (by omega) (by omega)] at c_24
      have et : (A.md false).tl p = true := by rw [etl]; exact decide_eq_true (by omega)
      have ef : (A.md false).f1 = kioN A.R p := by
        show kioN A.R (fsA (A.md false).tl (A.md false).K 0) = _
        rw [fsA_eq (show p < (A.md false).K from hpK) et hno]
      rw [← ef] at hG
      exact K σ p hs hpK ef.symm hG _
    · rw [iI_le (by omega) (by omega) (by omega) (by omega)] at c_24
      have et : (A.md false).tl p = false := by rw [etl]; exact decide_eq_false (by omega)
      have hp1 : p + 1 < 2 ^ A.R := by
        have h1 : ¬ q0 < p := fun q => by rw [hno q0 q] at ht0; cases ht0
        have h2 : q0 ≠ p := fun q => by rw [q, et] at ht0; cases ht0
        omega
      have hrk1 := m_ranked (hMs σ hs) (hXs σ hs) hp1
      have hrs := m_rests (hMs σ hs) (hXs σ hs) (kioN_lt (p + 1) A.R) hG.ex
      refine P_iload_n (q := 28) dX8_settles_27 rfl rfl ?_
      refine P_istore_n (q := 29) (L' := [_, _, _, _, _, _, _]) dX8_settles_28 rfl (by decide) rfl ?_
      refine P_aload_n (q := 30) dX8_settles_29 rfl rfl ?_
      refine P_aload_n (q := 31) dX8_settles_30 rfl rfl ?_
      refine P_iload_n (q := 32) dX8_settles_31 rfl rfl ?_
      refine P_cv1 (q := 35) dX8_settles_32 rfl kX8_143 (hrk1) rfl rfl (by decide) (h0) rfl ⟨by decide, by decide⟩ (Nat.le_of_ble_eq_true rfl) ⟨Nat.le_refl _, Nat.le_refl _⟩ ?_
      refine P_callv (q := 38) dX8_settles_35 rfl (hrs) kX8_146 rfl rfl (by decide) (h0) rfl ⟨by decide, by decide⟩ (Nat.le_of_ble_eq_true rfl) ⟨Nat.le_refl _, Nat.le_refl _⟩ ?_
      rintro v σ1 ⟨rfl, t1, hG1⟩
      refine P_iinc (q := 41) (L' := [_, _, _, _, _, _, _]) (v := nI (p + 1 + 1)) dX8_settles_38 rfl (by decide) rfl (nI_1 _) rfl ?_
      refine P_goto (tgt := 13) dX8_settles_41 (by decide) ?_
      exact ih (p + 1) (by omega) (fun q hq => by
        by_cases e : q = p
        · rw [e]; exact et
        · exact hno q (by omega)) σ1 (hs.trans t1) hG1
set_option maxRecDepth 100000 in
set_option maxHeartbeats 4000000 in
theorem w_st3 {σ : Sto} {A : St} {d : Nat} (hA : A.ok) (hd : d + 1 < A.C) (hM : MO σ) {g : Nat → Int32} (h115 : σ 115 = pI .int 46 g) (hRA : RA g (A.sc (d + 1))) (hG : RR σ A (A.md false).f1 (fun _ _ => True)) {p2 : Nat} {QQ : Option Value → Sto → Prop} (K : ∀ x4 x5 x6 : Option Value, PW mX8_settles 0 0 QQ 58 [some (.ref 114), some (.int (iI A.Es)), some (.int (nI p2)), some (.int (nI (d + 2))), x4, x5, x6] [] 132 (va_up σ 115 (pI .int 46 (upd g (6 + (d + 1)) (nI ((A.md false).fo (A.md false).f1 (d + 1)))))) 0 0) : ∀ n q, q + n = 2 ^ A.R → (∀ q', q' < q → (A.md false).tg (A.md false).f1 d ((A.md false).fo (A.md false).f1 d) q' = false) → PW mX8_settles 0 0 QQ 111 [some (.ref 114), some (.int (iI A.Es)), some (.int (nI p2)), some (.int (nI (d + 1))), some (.int (nI ((A.md false).fo (A.md false).f1 d))), some (.int (iI (2 * ((A.md false).B (A.md false).f1 d ((A.md false).fo (A.md false).f1 d) : Int) - (A.eta d - (A.rhoC d : Int))))), some (.int (nI q))] [] 132 σ 0 0 := by
  have hC := hA.1
  have hR := hA.2.1
  have h8 := pow8 hR.2
  have hm := St.md_ok hA false
  have hf := (f1_ok hA).1
  have hX : XA σ (A.sc (d + 1)) := XA.of h115 (sc_ok hA (by omega)) hRA
  have hfo : ((A.md false).fo (A.md false).f1 d) < 2 ^ A.R := Md.fo_lt hf d
  obtain ⟨a1, a2, a3, a4, a5, a6, a7, h0⟩ := id hM
  obtain ⟨gr, h128, hg⟩ := hG.get
  obtain ⟨q0, -, hq0, ht0⟩ := Md.tg_ex hm (f := (A.md false).f1) (k := ((A.md false).fo (A.md false).f1 d)) (show d + 1 < (A.md false).C from hd)
  have hq0 : q0 < 2 ^ A.R := by have : (A.md false).K = 2 ^ A.R := rfl; omega
  have heb := eta_b hA d (by omega)
  have hrb := rhoC_b hA d
  have hBb : (A.md false).B (A.md false).f1 d ((A.md false).fo (A.md false).f1 d) ≤ 4000 := Md.B_le hm hf hfo
  have hnx : (A.md false).fo (A.md false).f1 (d + 1) = kioN A.R (fsA ((A.md false).tg (A.md false).f1 d ((A.md false).fo (A.md false).f1 d)) (A.md false).K 0) := rfl
  generalize hFv : ((A.md false).fo (A.md false).f1 d) = F at hfo ht0 hBb hnx ⊢
  intro n
  induction n with
  | zero =>
    intro q hq hno
    exfalso
    rw [hno q0 (by omega)] at ht0
    cases ht0
  | succ n ih =>
    intro q hq hno
    have hqK : q < 2 ^ A.R := by omega
    have hk : kioN A.R q < 2 ^ A.R := kioN_lt q A.R
    have hrk : CD mX8_ranked [.ref 114, .int (nI q)] 132 σ (some (.int (nI (kioN A.R q)))) σ := m_ranked hM hX hqK
    have hlk : CD mX8_ofLink [.ref 114, .int (bI false), .int (nI F), .int (nI (kioN A.R q))] 132 σ (some (.int (iI (A.lnk false F (kioN A.R q))))) σ := m_lnkw hM hX false (by omega) (by omega)
    have hv := hg (d + 1) (kioN A.R q) hd hk
    have hcn := rs_cn hA (f := (A.md false).f1) (c := d) hfo hk
    have hcb : (A.md false).cn (A.md false).f1 d F (kioN A.R q) ≤ 4400 := Md.cn_le hm hf hd hfo hk
    have hle : (A.md false).B (A.md false).f1 d F ≤ (A.md false).cn (A.md false).f1 d F (kioN A.R q) := B_le_cn hd hk
    have etg : (A.md false).tg (A.md false).f1 d F q = decide ((A.md false).cn (A.md false).f1 d F (kioN A.R q) = (A.md false).B (A.md false).f1 d F) := rfl
    refine P_aload_n (q := 112) dX8_settles_111 rfl rfl ?_
    refine P_iconst (q := 113) (v := (bI false)) dX8_settles_112 rfl (by decide +kernel) ?_
    refine P_iload (q := 115) dX8_settles_113 rfl rfl ?_
    refine P_aload_n (q := 116) dX8_settles_115 rfl rfl ?_
    refine P_iload (q := 118) dX8_settles_116 rfl rfl ?_
    refine P_cv1 (q := 121) dX8_settles_118 rfl kX8_143 (hrk) rfl rfl (by decide) (h0) rfl ⟨by decide, by decide⟩ (Nat.le_of_ble_eq_true rfl) ⟨Nat.le_refl _, Nat.le_refl _⟩ ?_
    refine P_cv1 (q := 124) dX8_settles_121 rfl kX8_99 (hlk) rfl rfl (by decide) (h0) rfl ⟨by decide, by decide⟩ (Nat.le_of_ble_eq_true rfl) ⟨Nat.le_refl _, Nat.le_refl _⟩ ?_
    refine P_aload_n (q := 125) dX8_settles_124 rfl rfl ?_
    refine P_get (q := 128) dX8_settles_125 rfl fX8_49 (by decide) (h0) rfl ?_
    refine P_bipush (q := 130) (v := nI 8) dX8_settles_128 rfl (by decide +kernel) ?_
    refine P_iload_n (q := 131) dX8_settles_130 rfl rfl ?_
    refine P_imul (q := 132) dX8_settles_131 rfl ?_
    rw [pk_mul]
    refine P_aload_n (q := 133) dX8_settles_132 rfl rfl ?_
    refine P_iload (q := 135) dX8_settles_133 rfl rfl ?_
    refine P_cv1 (q := 138) dX8_settles_135 rfl kX8_143 (hrk) rfl rfl (by decide) (h0) rfl ⟨by decide, by decide⟩ (Nat.le_of_ble_eq_true rfl) ⟨Nat.le_refl _, Nat.le_refl _⟩ ?_
    refine P_iadd (q := 139) dX8_settles_138 rfl ?_
    rw [nI_add]
    refine P_iald (q := 140) (j := 8 * (d + 1) + kioN A.R q) dX8_settles_139 rfl (by decide) (h128) (rfl) (by omega) (by decide) ?_
    rw [hv]
    refine P_iadd (q := 141) dX8_settles_140 rfl ?_
    rw [iI_add, hcn]
    refine P_iload (q := 143) dX8_settles_141 rfl rfl ?_
    refine P_icmp_le (q := 146) (tgt := 152) dX8_settles_143 rfl (by decide) (fun c_143 => ?_) (fun c_143 => ?_)
    · rw [iI_le (by omega) (by omega) (by omega) (by omega)] at c_143
      have et : (A.md false).tg (A.md false).f1 d F q = true := by rw [etg]; exact decide_eq_true (by omega)
      have ef : (A.md false).fo (A.md false).f1 (d + 1) = kioN A.R q := by
        rw [hnx, fsA_eq (show q < (A.md false).K from hqK) et hno]
      refine P_aload_n (q := 153) dX8_settles_152 rfl rfl ?_
      refine P_get (q := 156) dX8_settles_153 rfl fX8_7 (by decide) (h0) rfl ?_
      refine P_bipush (q := 158) (v := nI 6) dX8_settles_156 rfl (by decide +kernel) ?_
      refine P_iload_n (q := 159) dX8_settles_158 rfl rfl ?_
      refine P_iadd (q := 160) dX8_settles_159 rfl ?_
      rw [show nI 6 + nI (d + 1) = nI (6 + (d + 1)) from nI_add _ _]
      refine P_aload_n (q := 161) dX8_settles_160 rfl rfl ?_
      refine P_iload (q := 163) dX8_settles_161 rfl rfl ?_
      refine P_cv1 (q := 166) dX8_settles_163 rfl kX8_143 (hrk) rfl rfl (by decide) (h0) rfl ⟨by decide, by decide⟩ (Nat.le_of_ble_eq_true rfl) ⟨Nat.le_refl _, Nat.le_refl _⟩ ?_
      rw [← ef]
      refine P_iast (q := 167) (j := 6 + (d + 1)) (f' := upd g (6 + (d + 1)) (nI ((A.md false).fo (A.md false).f1 (d + 1)))) dX8_settles_166 rfl (by decide) (h115) (rfl) (by omega) (by decide) (rfl) (rfl) ?_
      refine P_iinc (q := 170) (L' := [_, _, _, _, _, _, _]) (v := nI (d + 2)) dX8_settles_167 rfl (by decide) rfl (nI_1 _) rfl ?_
      refine P_goto (tgt := 58) dX8_settles_170 (by decide) ?_
      exact K _ _ _
    · rw [iI_le (by omega) (by omega) (by omega) (by omega)] at c_143
      refine P_iinc (q := 149) (L' := [_, _, _, _, _, _, _]) (v := nI (q + 1)) dX8_settles_146 rfl (by decide) rfl (nI_1 q) rfl ?_
      refine P_goto (tgt := 111) dX8_settles_149 (by decide) ?_
      have et : (A.md false).tg (A.md false).f1 d F q = false := by rw [etg]; exact decide_eq_false (by omega)
      exact ih (q + 1) (by omega) (fun q1 hq1 => by
        by_cases e : q1 = q
        · rw [e]; exact et
        · exact hno q1 (by omega))
set_option maxRecDepth 100000 in
set_option maxHeartbeats 4000000 in
theorem m_settles {σ0 : Sto} {A : St} (hM : MO σ0) (hX : XA σ0 A) (h128 : ∃ g : Nat → Int32, σ0 128 = pI .int 80 g) : CP mX8_settles 0 0 [.ref 114, .int (iI A.Es)] 132 σ0 (fun v σ' => v = none ∧ same σ0 σ' (fun i => i = 115 ∨ i = 128) ∧ (∃ g : Nat → Int32, σ' 128 = pI .int 80 g) ∧ ∃ g : Nat → Int32, σ' 115 = pI .int 46 g ∧ RA g A.su) := by
  have hA := hX.1
  have hC := hA.1
  have hR := hA.2.1
  have h8 := pow8 hR.2
  have hK := Nat.two_pow_pos A.R
  have hm := St.md_ok hA false
  have hMs : ∀ σ, same σ0 σ (fun i => i = 115 ∨ i = 128) → MO σ := fun σ s => by
    obtain ⟨a1, a2, a3, a4, a5, a6, a7, h⟩ := hM
    exact ⟨a1, a2, a3, a4, a5, a6, a7, (s 114 (by omega)).trans h⟩
  have hf := (f1_ok hA).1
  have lp : ∀ n d, d + 1 + n = A.C → ∀ σ g, same σ0 σ (fun i => i = 115 ∨ i = 128) → σ 115 = pI .int 46 g → RA g (A.sc (d + 1)) → RR σ A (A.md false).f1 (fun _ _ => True) → ∀ (p2 : Nat) (x4 x5 x6 : Option Value), PW mX8_settles 0 0 (fun v σ' => v = none ∧ same σ0 σ' (fun i => i = 115 ∨ i = 128) ∧ (∃ g : Nat → Int32, σ' 128 = pI .int 80 g) ∧ ∃ g : Nat → Int32, σ' 115 = pI .int 46 g ∧ RA g A.su) 58 [some (.ref 114), some (.int (iI A.Es)), some (.int (nI p2)), some (.int (nI (d + 1))), x4, x5, x6] [] 132 σ 0 0 := by
    intro n
    induction n with
    | zero =>
      intro d hd σ g hs h115 hRA hG p2 x4 x5 x6
      obtain ⟨a1, a2, a3, a4, a5, a6, a7, h0⟩ := hMs σ hs
      have e0 : g 0 = nI A.C := hRA.1
      refine P_iload_n (q := 59) dX8_settles_58 rfl rfl ?_
      refine P_aload_n (q := 60) dX8_settles_59 rfl rfl ?_
      refine P_get (q := 63) dX8_settles_60 rfl fX8_7 (by decide) (h0) rfl ?_
      refine P_iconst (q := 64) (v := nI 0) dX8_settles_63 rfl (by decide +kernel) ?_
      refine P_iald (q := 65) (j := 0) dX8_settles_64 rfl (by decide) (h115) (rfl) (by omega) (by decide) ?_
      rw [e0]
      refine P_icmp_ge (q := 68) (tgt := 173) dX8_settles_65 rfl (by decide) (fun c_65 => ?_) (fun c_65 => ?_)
      · rw [nI_leI (by omega) (by omega)] at c_65
        refine P_vret dX8_settles_173 rfl ?_
        rw [show d + 1 = A.C by omega, sc_e hA] at hRA
        exact ⟨rfl, hs, hG.ex, g, h115, hRA⟩
      · exfalso; rw [nI_leI (by omega) (by omega)] at c_65; omega
    | succ n ih =>
      intro d hd σ g hs h115 hRA hG p2 x4 x5 x6
      have hM' := hMs σ hs
      obtain ⟨a1, a2, a3, a4, a5, a6, a7, h0⟩ := id hM'
      have e0 : g 0 = nI A.C := hRA.1
      have e6 : g (6 + d) = nI ((A.md false).fo (A.md false).f1 d) := (hRA.2.2.2.2.2.2.1 d (by omega)).trans (congrArg nI (if_pos (Nat.lt_succ_self d)))
      have hX1 : XA σ (A.sc (d + 1)) := XA.of h115 (sc_ok hA (by omega)) hRA
      have hfo : ((A.md false).fo (A.md false).f1 d) < 2 ^ A.R := Md.fo_lt hf d
      have hcl : CD mX8_ofColumn [.ref 114, .int (bI false), .int (nI d), .int (nI ((A.md false).fo (A.md false).f1 d))] 132 σ (some (.int (iI (A.col false d ((A.md false).fo (A.md false).f1 d))))) σ := m_colw hM' hX1 false (show d < (A.sc (d + 1)).C by show d < A.C; omega) (by omega)
      obtain ⟨gr, q128, hg⟩ := hG.get
      have hv := hg d ((A.md false).fo (A.md false).f1 d) (by omega) hfo
      have hrc := rs_col hA (f := (A.md false).f1) (c := d) hfo
      refine P_iload_n (q := 59) dX8_settles_58 rfl rfl ?_
      refine P_aload_n (q := 60) dX8_settles_59 rfl rfl ?_
      refine P_get (q := 63) dX8_settles_60 rfl fX8_7 (by decide) (h0) rfl ?_
      refine P_iconst (q := 64) (v := nI 0) dX8_settles_63 rfl (by decide +kernel) ?_
      refine P_iald (q := 65) (j := 0) dX8_settles_64 rfl (by decide) (h115) (rfl) (by omega) (by decide) ?_
      rw [e0]
      refine P_icmp_ge (q := 68) (tgt := 173) dX8_settles_65 rfl (by decide) (fun c_65 => ?_) (fun c_65 => ?_)
      · exfalso; rw [nI_leI (by omega) (by omega)] at c_65; omega
      · rw [nI_leI (by omega) (by omega)] at c_65
        refine P_aload_n (q := 69) dX8_settles_68 rfl rfl ?_
        refine P_get (q := 72) dX8_settles_69 rfl fX8_7 (by decide) (h0) rfl ?_
        refine P_bipush (q := 74) (v := nI 6) dX8_settles_72 rfl (by decide +kernel) ?_
        refine P_iload_n (q := 75) dX8_settles_74 rfl rfl ?_
        refine P_iadd (q := 76) dX8_settles_75 rfl ?_
        rw [show nI 6 + nI (d + 1) = nI (6 + d + 1) from nI_add _ _]
        refine P_iconst (q := 77) (v := nI 1) dX8_settles_76 rfl (by decide +kernel) ?_
        refine P_isub (q := 78) dX8_settles_77 rfl ?_
        rw [show nI (6 + d + 1) - nI 1 = nI (6 + d) from nI_m1 _]
        refine P_iald (q := 79) (j := 6 + d) dX8_settles_78 rfl (by decide) (h115) (rfl) (by omega) (by decide) ?_
        rw [e6]
        refine P_istore (q := 81) (L' := [_, _, _, _, _, _, _]) dX8_settles_79 rfl (by decide) rfl ?_
        refine P_aload_n (q := 82) dX8_settles_81 rfl rfl ?_
        refine P_get (q := 85) dX8_settles_82 rfl fX8_49 (by decide) (h0) rfl ?_
        refine P_bipush (q := 87) (v := nI 8) dX8_settles_85 rfl (by decide +kernel) ?_
        refine P_iload_n (q := 88) dX8_settles_87 rfl rfl ?_
        refine P_iconst (q := 89) (v := nI 1) dX8_settles_88 rfl (by decide +kernel) ?_
        refine P_isub (q := 90) dX8_settles_89 rfl ?_
        rw [show nI (d + 1) - nI 1 = nI d from nI_m1 _]
        refine P_imul (q := 91) dX8_settles_90 rfl ?_
        rw [pk_mul]
        refine P_iload (q := 93) dX8_settles_91 rfl rfl ?_
        refine P_iadd (q := 94) dX8_settles_93 rfl ?_
        rw [nI_add]
        refine P_iald (q := 95) (j := 8 * d + ((A.md false).fo (A.md false).f1 d)) dX8_settles_94 rfl (by decide) (q128) (rfl) (by omega) (by decide) ?_
        rw [hv]
        refine P_aload_n (q := 96) dX8_settles_95 rfl rfl ?_
        refine P_iconst (q := 97) (v := (bI false)) dX8_settles_96 rfl (by decide +kernel) ?_
        refine P_iload_n (q := 98) dX8_settles_97 rfl rfl ?_
        refine P_iconst (q := 99) (v := nI 1) dX8_settles_98 rfl (by decide +kernel) ?_
        refine P_isub (q := 100) dX8_settles_99 rfl ?_
        rw [show nI (d + 1) - nI 1 = nI d from nI_m1 _]
        refine P_iload (q := 102) dX8_settles_100 rfl rfl ?_
        refine P_cv1 (q := 105) dX8_settles_102 rfl kX8_95 (hcl) rfl rfl (by decide) (h0) rfl ⟨by decide, by decide⟩ (Nat.le_of_ble_eq_true rfl) ⟨Nat.le_refl _, Nat.le_refl _⟩ ?_
        refine P_isub (q := 106) dX8_settles_105 rfl ?_
        rw [iI_sub, show A.rs (A.md false).f1 d ((A.md false).fo (A.md false).f1 d) - A.col false d ((A.md false).fo (A.md false).f1 d) = (2 * ((A.md false).B (A.md false).f1 d ((A.md false).fo (A.md false).f1 d) : Int) - (A.eta d - (A.rhoC d : Int))) by omega]
        refine P_istore (q := 108) (L' := [_, _, _, _, _, _, _]) dX8_settles_106 rfl (by decide) rfl ?_
        refine P_iconst (q := 109) (v := nI 0) dX8_settles_108 rfl (by decide +kernel) ?_
        refine P_istore (q := 111) (L' := [_, _, _, _, _, _, _]) dX8_settles_109 rfl (by decide) rfl ?_
        exact w_st3 hA (by omega) hM' h115 hRA hG (fun y4 y5 y6 => ih (d + 1) (by omega) _ _ (hs.up (Or.inl rfl)) (up_at _ _ _) (RA_sc (by omega) hRA) (by
          obtain ⟨g5, b1, b2⟩ := hG
          exact ⟨g5, (up_ne _ _ (by omega)).trans b1, b2⟩) _ y4 y5 y6) (2 ^ A.R) 0 (by omega) (fun q hq => by omega)
  have hrk0 := m_ranked hM hX hK
  have hrs := m_rests hM hX (kioN_lt 0 A.R) h128
  obtain ⟨a1, a2, a3, a4, a5, a6, a7, h0⟩ := id hM
  refine CP_of (by decide +kernel) (Nat.le_of_ble_eq_true rfl) ?_
  change PW _ _ _ _ 0 [_, _, _, _, _, _, _] [] _ _ _ _
  refine P_iconst (q := 1) (v := nI 0) dX8_settles_0 rfl (by decide +kernel) ?_
  refine P_istore_n (q := 2) (L' := [_, _, _, _, _, _, _]) dX8_settles_1 rfl (by decide) rfl ?_
  refine P_aload_n (q := 3) dX8_settles_2 rfl rfl ?_
  refine P_aload_n (q := 4) dX8_settles_3 rfl rfl ?_
  refine P_iconst (q := 5) (v := nI 0) dX8_settles_4 rfl (by decide +kernel) ?_
  refine P_cv1 (q := 8) dX8_settles_5 rfl kX8_143 (hrk0) rfl rfl (by decide) (h0) rfl ⟨by decide, by decide⟩ (Nat.le_of_ble_eq_true rfl) ⟨Nat.le_refl _, Nat.le_refl _⟩ ?_
  refine P_callv (q := 11) dX8_settles_8 rfl (hrs) kX8_146 rfl rfl (by decide) (h0) rfl ⟨by decide, by decide⟩ (Nat.le_of_ble_eq_true rfl) ⟨Nat.le_refl _, Nat.le_refl _⟩ ?_
  rintro v σ1 ⟨rfl, t1, hG1⟩
  refine P_iconst (q := 12) (v := nI 1) dX8_settles_11 rfl (by decide +kernel) ?_
  refine P_istore_n (q := 13) (L' := [_, _, _, _, _, _, _]) dX8_settles_12 rfl (by decide) rfl ?_
  refine w_st1 hM hX (fun σ2 p s2 hp hkp hG2 x3 => ?_) (2 ^ A.R) 0 (by omega) (fun q hq => by omega) σ1 t1 hG1
  have s29 : same σ0 σ2 (fun i => i = 115 ∨ i = 128) := s2.mono (fun i h => Or.inr h)
  obtain ⟨b1, b2, b3, b4, b5, b6, b7, e0⟩ := id (hMs σ2 s29)
  obtain ⟨-, g, g1, hRA⟩ := id hX
  have g1 := (s2 115 (by omega)).trans g1
  have hrk := m_ranked (hMs σ2 s29) (XA.of g1 hA hRA) hp
  rw [hkp] at hrk
  have hRA1 := RA_sc (A := A) (c := 0) (by decide) (by rw [sc_0]; exact hRA)
  refine P_aload_n (q := 45) dX8_settles_44 rfl rfl ?_
  refine P_get (q := 48) dX8_settles_45 rfl fX8_7 (by decide) (e0) rfl ?_
  refine P_bipush (q := 50) (v := nI 6) dX8_settles_48 rfl (by decide +kernel) ?_
  refine P_aload_n (q := 51) dX8_settles_50 rfl rfl ?_
  refine P_iload_n (q := 52) dX8_settles_51 rfl rfl ?_
  refine P_cv1 (q := 55) dX8_settles_52 rfl kX8_143 (hrk) rfl rfl (by decide) (e0) rfl ⟨by decide, by decide⟩ (Nat.le_of_ble_eq_true rfl) ⟨Nat.le_refl _, Nat.le_refl _⟩ ?_
  refine P_iast (q := 56) (j := 6) (f' := upd g (6 + 0) (nI ((A.md false).fo (A.md false).f1 0))) dX8_settles_55 rfl (by decide) (g1) (rfl) (by omega) (by decide) (rfl) (rfl) ?_
  refine P_iconst (q := 57) (v := nI 1) dX8_settles_56 rfl (by decide +kernel) ?_
  refine P_istore_n (q := 58) (L' := [_, _, _, _, _, _, _]) dX8_settles_57 rfl (by decide) rfl ?_
  exact lp (A.C - 1) 0 (by omega) _ _ (s29.up (Or.inl rfl)) (up_at _ _ _) hRA1 (by
    obtain ⟨g5, c1, c2⟩ := hG2
    exact ⟨g5, (up_ne _ _ (by omega)).trans c1, c2⟩) _ _ _ _
