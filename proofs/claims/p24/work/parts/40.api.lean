variable {eN : Nat}
/-! THE CLASS: reading -/
theorem prs_le {ch : Nat → Nat} : ∀ {m i j : Nat} {s : Ps}, prs ch m i s = .inl j → j ≤ i + m
  | 0, i, j, s, h => by
    rw [prs] at h
    split at h
    · cases h
    · cases h; exact Nat.le_refl _
  | m + 1, i, j, s, h => by
    rw [prs] at h
    cases e : s.step (ch i) with
    | none => rw [e] at h; cases h; omega
    | some s' =>
      rw [e] at h
      have := prs_le h
      omega
/-- the spins read lie in the columns and rows read -/
def Ps.J (s : Ps) : Prop := s.ok ∧ (s.k ≠ 1 → 1 ≤ s.rw ∧ s.r ≤ s.rw) ∧ ∀ p, s.u.testBit p = true → (p / 4 + 1 < s.k ∧ p % 4 < s.rw) ∨ (p / 4 + 1 = s.k ∧ p % 4 < s.r)
theorem Ps.step_J {s s' : Ps} {x : Nat} (h : s.J) (hs : s.step x = some s') : s'.J := by
  obtain ⟨h1, h2, h3⟩ := h
  refine ⟨Ps.step_ok h1 hs, ?_⟩
  obtain ⟨a1, a2, a3, a4, a5⟩ := h1
  rw [ps_br] at hs
  split at hs
  · rename_i hq
    cases hs
    have hw := hq.2.1
    by_cases e : s.k = 1
    · rw [ps_w1 e] at hw
      have hw := of_decide_eq_true hw
      refine ⟨fun _ => ⟨hw, Nat.zero_le _⟩, fun p hp => ?_⟩
      have := h3 p hp
      show (p / 4 + 1 < s.k + 1 ∧ p % 4 < s.r) ∨ (p / 4 + 1 = s.k + 1 ∧ p % 4 < 0)
      omega
    · rw [ps_w2 e] at hw
      have hw := of_decide_eq_true hw
      have h2 := h2 e
      refine ⟨fun _ => ⟨by show 1 ≤ s.r; omega, Nat.zero_le _⟩, fun p hp => ?_⟩
      have := h3 p hp
      show (p / 4 + 1 < s.k + 1 ∧ p % 4 < s.r) ∨ (p / 4 + 1 = s.k + 1 ∧ p % 4 < 0)
      omega
  · split at hs
    · rename_i _ hq
      cases hs
      have hm : s.r < 3 ∧ (s.k ≠ 1 → s.r < s.rw) := by
        have h := hq.2
        unfold Ps.most at h
        split at h
        · exact ⟨h, fun q => absurd ‹s.k = 1› q⟩
        · exact ⟨by omega, fun _ => h⟩
      refine ⟨fun e => ⟨(h2 e).1, by have := hm.2 e; show s.r + 1 ≤ s.rw; omega⟩, fun p hp => ?_⟩
      show (p / 4 + 1 < s.k ∧ p % 4 < s.rw) ∨ (p / 4 + 1 = s.k ∧ p % 4 < s.r + 1)
      have hp : (if x = 43 then s.u ||| 2 ^ (4 * (s.k - 1) + s.r) else s.u).testBit p = true := hp
      by_cases ex : x = 43
      · rw [if_pos ex, Nat.testBit_or, Bool.or_eq_true_iff, Nat.testBit_two_pow] at hp
        rcases hp with hp | hp
        · have := h3 p hp; omega
        · have := of_decide_eq_true hp; omega
      · rw [if_neg ex] at hp
        have := h3 p hp; omega
    · cases hs
theorem prs_J {ch : Nat → Nat} : ∀ {m i : Nat} {s t : Ps}, s.J → prs ch m i s = .inr t → t.J ∧ t.whole = true
  | 0, i, s, t, h, e => by
    rw [prs] at e
    split at e
    · rename_i hw
      cases e; exact ⟨h, hw⟩
    · cases e
  | m + 1, i, s, t, h, e => by
    rw [prs] at e
    cases es : s.step (ch i) with
    | none => rw [es] at e; cases e
    | some s' => rw [es] at e; exact prs_J (Ps.step_J h es) e
theorem J_init : Ps.J (1, 0, 0, 0) := ⟨⟨by decide, by decide, by decide, by decide, by decide⟩, fun h => absurd rfl h, fun p hp => by
  have hp : (0 : Nat).testBit p = true := hp
  rw [Nat.zero_testBit] at hp; exact absurd hp (by first | decide | exact lt_c (by decide))⟩
/-- the strip that is read -/
def rdS (A : St) (s : Ps) : St := (s.k, s.r, A.g, A.al, A.ac, fun c => s.u / 16 ^ c % 16, fun _ _ => 0, A.tu)
theorem rd_all {s : Ps} (h : s.J) (hw : s.whole = true) : 1 ≤ s.r ∧ s.r ≤ 3 ∧ ∀ p, s.u.testBit p = true → p / 4 < s.k ∧ p % 4 < s.r := by
  obtain ⟨h1, h2, h3⟩ := h
  have h4 := h1.2.2.2.1
  by_cases e : s.k = 1
  · rw [ps_w1 e] at hw
    have hw := of_decide_eq_true hw
    exact ⟨hw, h4, fun p hp => by have := h3 p hp; omega⟩
  · rw [ps_w2 e] at hw
    have hw := of_decide_eq_true hw
    have h2 := h2 e
    exact ⟨by omega, h4, fun p hp => by have := h3 p hp; omega⟩
theorem rd_ok {A : St} (hA : A.ok) {s : Ps} (h : s.J) (hw : s.whole = true) : (rdS A s).ok := by
  obtain ⟨r1, r3, hb⟩ := rd_all h hw
  refine ⟨⟨h.1.1, h.1.2.1⟩, ⟨r1, r3⟩, hA.2.2.1, hA.2.2.2.1, hA.2.2.2.2.1, fun c => ?_, fun c hc => ?_, fun _ _ => by show (-3 : Int) ≤ 0 ∧ (0 : Int) ≤ 3; omega⟩
  · show s.u / 16 ^ c % 16 < 2 ^ s.r
    refine Nat.lt_pow_two_of_testBit _ fun i hi => ?_
    rw [dig_bit]
    by_cases e4 : i < 4
    · rw [Bool.and_eq_false_iff]
      right
      cases e : s.u.testBit (4 * c + i) with
      | false => rfl
      | true => have := hb _ e; omega
    · rw [decide_eq_false e4]; rfl
  · have hc : s.k ≤ c := hc
    show s.u / 16 ^ c % 16 = 0
    refine Nat.eq_of_testBit_eq fun i => ?_
    rw [dig_bit, Nat.zero_testBit]
    by_cases e4 : i < 4
    · rw [Bool.and_eq_false_iff]
      right
      cases e : s.u.testBit (4 * c + i) with
      | false => rfl
      | true => have := hb _ e; omega
    · rw [decide_eq_false e4]; rfl
theorem rd_U {A : St} (hA : A.ok) {s : Ps} (h : s.J) (hw : s.whole = true) : (rdS A s).U = s.u := by
  refine Nat.eq_of_testBit_eq fun p => ?_
  rw [St.U_bit (rd_ok hA h hw)]
  show (s.u / 16 ^ (p / 4) % 16).testBit (p % 4) = _
  rw [dig_bit, decide_eq_true (Nat.mod_lt p (by first | decide | exact lt_c (by decide))), Bool.true_and]
  congr 1
  omega
def oRead (w : Cs) : Int32 × Cs := match prs w.ch w.n 0 (1, 0, 0, 0) with
  | .inl i => (iI (-1100 - i), w)
  | .inr s => (nI (s.k * s.r), w.to (rdS w.A s))
set_option maxRecDepth 100000 in
set_option maxHeartbeats 4000000 in
theorem a_read {σ : Sto} {w : Cs} (hW : CW σ w) : CP mX7_read 0 0 [.ref 0] (eN + 114) σ (OK σ (oRead w)) := by
  obtain ⟨h0', hS', hAW', hH', hSn', hT'⟩ := id hW
  obtain ⟨n60, hch, tc', tr', tu', tg', t112', -⟩ := id hT'
  refine CP_of (by decide +kernel) (Nat.le_of_ble_eq_true rfl) ?_
  change PW _ _ _ _ 0 [_, _] [] _ _ _ _
  refine P_aload_n (q := 1) dX7_read_0 rfl rfl ?_
  refine P_get (q := 4) dX7_read_1 rfl fX7_40 (by first | decide | exact lt_c (by decide)) (h0') rfl ?_
  refine P_callv (q := 7) dX7_read_4 rfl (t_firstFault hT') kX7_55 rfl rfl (by first | decide | exact lt_c (by decide)) (t112') rfl ⟨by decide, by decide⟩ (Nat.le_of_ble_eq_true rfl) ⟨Nat.le_refl _, Nat.le_refl _⟩ ?_
  rintro v σ0 ⟨rfl, t0, hT0, hTx⟩
  have ss0 : same σ σ0 (fun i => i ≤ 113) := t0.mono (fun i h => by omega)
  have hW0 : CW σ0 w := hW.tx (t0.mono (fun i h => Or.inl h)) hT0
  obtain ⟨h0, hS, hAW, hH, hSn, hT⟩ := id hW0
  have hA := hS.1
  obtain ⟨-, f0, e01, e02, ef0⟩ := id hS
  cases hp : prs w.ch w.n 0 (1, 0, 0, 0) with
  | inl i =>
    have hi := prs_le hp
    refine P_istore_n (q := 8) (L' := [_, _]) dX7_read_7 rfl (by first | decide | exact lt_c (by decide)) rfl ?_
    refine P_iload_n (q := 9) dX7_read_8 rfl rfl ?_
    refine P_iconst (q := 10) (v := (-1)) dX7_read_9 rfl (by decide +kernel) ?_
    refine P_icmp_eq (q := 13) (tgt := 19) dX7_read_10 rfl (by first | decide | exact lt_c (by decide)) (fun c_10 => ?_) (fun c_10 => ?_)
    · have c_10 : nI i = (-1) := c_10
      rw [show ((-1 : Int32)) = iI (-1) from rfl, iI_nI, iI_inj (by omega) (by omega) (by omega) (by omega)] at c_10
      omega
    · refine P_sipush (q := 16) (v := iI (-1100)) dX7_read_13 rfl (by decide +kernel) ?_
      refine P_iload_n (q := 17) dX7_read_16 rfl rfl ?_
      refine P_isub (q := 18) dX7_read_17 rfl ?_
      refine P_iret dX7_read_18 rfl (rfl) ?_
      unfold oRead
      rw [hp]
      exact ⟨rv_i (by show iI (-1100) - nI i = _; rw [iI_nI, iI_sub]), hW0, ss0⟩
  | inr s =>
    obtain ⟨hJ, hw⟩ := prs_J J_init hp
    have t112 := hTx s hp
    obtain ⟨r1, r3, -⟩ := rd_all hJ hw
    have hk : s.k ≤ 10 := hJ.1.2.1
    have hB := rd_ok hA hJ hw
    have hg2 := hA.2.2.1
    refine P_istore_n (q := 8) (L' := [_, _]) dX7_read_7 rfl (by first | decide | exact lt_c (by decide)) rfl ?_
    refine P_iload_n (q := 9) dX7_read_8 rfl rfl ?_
    refine P_iconst (q := 10) (v := (-1)) dX7_read_9 rfl (by decide +kernel) ?_
    refine P_icmp_eq (q := 13) (tgt := 19) dX7_read_10 rfl (by first | decide | exact lt_c (by decide)) (fun c_10 => ?_) (fun c_10 => ?_)
    · refine P_aload_n (q := 20) dX7_read_19 rfl rfl ?_
      refine P_get (q := 23) dX7_read_20 rfl fX7_26 (by first | decide | exact lt_c (by decide)) (h0) rfl ?_
      refine P_aload_n (q := 24) dX7_read_23 rfl rfl ?_
      refine P_get (q := 27) dX7_read_24 rfl fX7_12 (by first | decide | exact lt_c (by decide)) (h0) rfl ?_
      refine P_callv (q := 30) dX7_read_27 rfl (t_record hS hH) kX7_44 rfl rfl (by first | decide | exact lt_c (by decide)) (hH.choose_spec.choose_spec.2.2.1) rfl ⟨by decide, by decide⟩ (Nat.le_of_ble_eq_true rfl) ⟨Nat.le_refl _, Nat.le_refl _⟩ ?_
      rintro v σ1 ⟨rfl, hH1, t1⟩
      have h01 := (t1 0 (by omega)).trans h0
      have hS1 : SW σ1 1 w.A := hS.congr (t1 1 (by omega)) (t1 2 (by omega))
      have hAW1 : AW σ1 w.A := hAW.congr (fun k a b => t1 k (by omega))
      obtain ⟨-, f1, e11, e12, ef1⟩ := id hS1
      have v112 := (t1 112 (by omega)).trans t112
      refine P_aload_n (q := 31) dX7_read_30 rfl rfl ?_
      refine P_get (q := 34) dX7_read_31 rfl fX7_12 (by first | decide | exact lt_c (by decide)) (h01) rfl ?_
      refine P_aload_n (q := 35) dX7_read_34 rfl rfl ?_
      refine P_get (q := 38) dX7_read_35 rfl fX7_40 (by first | decide | exact lt_c (by decide)) (h01) rfl ?_
      refine P_get (q := 41) dX7_read_38 rfl fX7_59 (by first | decide | exact lt_c (by decide)) (v112) rfl ?_
      refine P_aload_n (q := 42) dX7_read_41 rfl rfl ?_
      refine P_get (q := 45) dX7_read_42 rfl fX7_40 (by first | decide | exact lt_c (by decide)) (h01) rfl ?_
      refine P_get (q := 48) dX7_read_45 rfl fX7_63 (by first | decide | exact lt_c (by decide)) (v112) rfl ?_
      refine P_aload_n (q := 49) dX7_read_48 rfl rfl ?_
      refine P_get (q := 52) dX7_read_49 rfl fX7_12 (by first | decide | exact lt_c (by decide)) (h01) rfl ?_
      refine P_get (q := 55) dX7_read_52 rfl fX7_66 (by first | decide | exact lt_c (by decide)) (e11) rfl ?_
      refine P_cv0 (q := 58) dX7_read_55 rfl kX7_48 (t_remake e11 e12 (c := s.k) (r := s.r) (g := w.A.g) (by omega) (by omega) hg2) rfl rfl (by first | decide | exact lt_c (by decide)) (e11) rfl ⟨by decide, by decide⟩ (Nat.le_of_ble_eq_true rfl) ⟨Nat.le_refl _, Nat.le_refl _⟩ ?_
      have n1 : ∀ (c1 c2 : PC) k, k ≠ 1 → k ≠ 2 → va_up (va_up σ1 1 c1) 2 c2 k = σ1 k := fun c1 c2 k a b => (up_ne _ _ (by omega)).trans (up_ne _ _ (by omega))
      refine P_aload_n (q := 59) dX7_read_58 rfl rfl ?_
      refine P_get (q := 62) dX7_read_59 rfl fX7_12 (by first | decide | exact lt_c (by decide)) ((n1 _ _ 0 (by omega) (by omega)).trans h01) rfl ?_
      refine P_aload_n (q := 63) dX7_read_62 rfl rfl ?_
      refine P_get (q := 66) dX7_read_63 rfl fX7_40 (by first | decide | exact lt_c (by decide)) ((n1 _ _ 0 (by omega) (by omega)).trans h01) rfl ?_
      refine P_get (q := 69) dX7_read_66 rfl fX7_69 (by first | decide | exact lt_c (by decide)) ((n1 _ _ 112 (by omega) (by omega)).trans v112) rfl ?_
      refine P_put (q := 72) (fs' := [_, _, _, _, _, _, _, _, _]) (σ' := va_up (va_up (va_up σ1 1 (stO (w.A.lay s.k s.r w.A.g) 2)) 2 (pI .int 40 (flV 40 (nI 0) f1 40))) 1 (stO (rdS w.A s) 2)) dX7_read_69 rfl gX7_73 (by first | decide | exact lt_c (by decide)) ((up_ne _ _ (by omega)).trans (up_at _ _ _)) (fun _ => rfl) (fun _ => rfl) (Nat.le_of_ble_eq_true rfl) rfl (by unfold stO; rw [rd_U hA hJ hw]; rfl) ?_
      refine P_aload_n (q := 73) dX7_read_72 rfl rfl ?_
      refine P_get (q := 76) dX7_read_73 rfl fX7_19 (by first | decide | exact lt_c (by decide)) ((up_ne _ _ (by omega)).trans ((n1 _ _ 0 (by omega) (by omega)).trans h01)) rfl ?_
      have n2 : ∀ (c1 c2 c3 : PC) k, k ≠ 1 → k ≠ 2 → va_up (va_up (va_up σ1 1 c1) 2 c2) 1 c3 k = σ1 k := fun c1 c2 c3 k a b => (up_ne _ _ (by omega)).trans (n1 _ _ k a b)
      have hAW2 : AW (va_up (va_up (va_up σ1 1 (stO (w.A.lay s.k s.r w.A.g) 2)) 2 (pI .int 40 (flV 40 (nI 0) f1 40))) 1 (stO (rdS w.A s) 2)) w.A := hAW1.congr (fun k a b => n2 _ _ _ k (by omega) (by omega))
      obtain ⟨lc, gc, k1, k2, k3, h3⟩ := (hAW2).at
      refine P_callv (q := 79) dX7_read_76 rfl ((t_forget (hAW2) (B := rdS w.A s))) kX7_52 rfl rfl (by first | decide | exact lt_c (by decide)) (h3) rfl ⟨by decide, by decide⟩ (Nat.le_of_ble_eq_true rfl) ⟨Nat.le_refl _, Nat.le_refl _⟩ ?_
      rintro v σ9 ⟨rfl, t9, hAW9⟩
      have hS9 : SW σ9 1 (rdS w.A s) := ⟨hB, _, (t9 1 (by omega)).trans (up_at _ _ _), (t9 2 (by omega)).trans ((up_ne _ _ (by omega)).trans (up_at _ _ _)), fun a b ha hb => by
        have h1 : a < s.k := ha
        have h2 : b < s.r := hb
        exact flV_all (by omega)⟩
      have ss : same σ0 σ9 (fun i => 1 ≤ i ∧ i ≤ 109) := fun i hi => (t9 i (by omega)).trans ((n2 _ _ _ i (by omega) (by omega)).trans (t1 i (by omega)))
      have z112 := (ss 112 (by omega)).trans t112
      refine P_aload_n (q := 80) dX7_read_79 rfl rfl ?_
      refine P_get (q := 83) dX7_read_80 rfl fX7_40 (by first | decide | exact lt_c (by decide)) ((ss 0 (by omega)).trans h0) rfl ?_
      refine P_get (q := 86) dX7_read_83 rfl fX7_59 (by first | decide | exact lt_c (by decide)) (z112) rfl ?_
      refine P_aload_n (q := 87) dX7_read_86 rfl rfl ?_
      refine P_get (q := 90) dX7_read_87 rfl fX7_40 (by first | decide | exact lt_c (by decide)) ((ss 0 (by omega)).trans h0) rfl ?_
      refine P_get (q := 93) dX7_read_90 rfl fX7_63 (by first | decide | exact lt_c (by decide)) (z112) rfl ?_
      refine P_imul (q := 94) dX7_read_93 rfl ?_
      refine P_iret dX7_read_94 rfl (rfl) ?_
      unfold oRead
      rw [hp]
      exact ⟨rv_i (pk_mul _ _), hW0.go ss hS9 hAW9 (hH1.congr (fun k a b => (t9 k (by omega)).trans (n2 _ _ _ k (by omega) (by omega)))), ss0.trans (CW.ss ss)⟩
    · exact absurd rfl c_10
