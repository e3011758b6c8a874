/-! THE REFERENCE: finds -/
def LI (P M : Nat) (l : List Nat) : Prop := pcN 64 (bm l) = l.length ∧ ∀ i p, l[i]? = some p → (bm (l.take i)).testBit p = false ∧ P.testBit p = true ∧ M.testBit p = false
theorem LI_mem {P M : Nat} {l : List Nat} (h : LI P M l) {p : Nat} (hp : (bm l).testBit p = true) : P.testBit p = true ∧ M.testBit p = false := by
  obtain ⟨i, hi⟩ := List.getElem?_of_mem ((bm_mem p l).mp hp)
  exact (h.2 i p hi).2
theorem LI_len {A : St} (hA : A.ok) {P M : Nat} {l : List Nat} (hP : ∀ p, P.testBit p = true → (mskN A.C A.R).testBit p = true) (h : LI P M l) : l.length ≤ 30 := by
  rw [← h.1]
  exact Nat.le_trans (pcN_sub (fun p hp => (LI_mem h hp).1) 64) (pcN_30 hA hP)
theorem app_at {l : List Nat} {x i p : Nat} (h : (l ++ [x])[i]? = some p) : (i < l.length ∧ l[i]? = some p) ∨ (i = l.length ∧ p = x) := by
  by_cases e : i < l.length
  · rw [List.getElem?_append_left e] at h; exact Or.inl ⟨e, h⟩
  · rw [List.getElem?_append_right (by omega)] at h
    by_cases e2 : i = l.length
    · subst e2
      rw [Nat.sub_self] at h
      exact Or.inr ⟨rfl, (Option.some.inj h).symm⟩
    · obtain ⟨k, hk⟩ : ∃ k, i - l.length = k + 1 := ⟨i - l.length - 1, by omega⟩
      rw [hk] at h
      cases h
theorem and_pow0 {a p : Nat} (h : a.testBit p = false) : a &&& 2 ^ p = 0 := by
  refine Nat.eq_of_testBit_eq fun i => ?_
  rw [Nat.testBit_and, Nat.testBit_two_pow, Nat.zero_testBit]
  by_cases e : p = i
  · subst e; rw [h, Bool.false_and]
  · rw [decide_eq_false e, Bool.and_false]
theorem jn_LI {A : St} {P M : Nat} {s : Int} {l : List Nat} (h : LI P M l) (h64 : ∀ p, P.testBit p = true → p < 64) {o : Option (Nat × Nat)} (ho : ∀ d q, o = some (d, q) → A.s d q = s → P.testBit (4 * d + q) = true) : LI P M (A.jn M s l o) := by
  cases o with
  | none => exact h
  | some x =>
    obtain ⟨d, q⟩ := x
    by_cases c : A.s d q = s ∧ (M ||| bm l).testBit (4 * d + q) = false
    · rw [show A.jn M s l (some (d, q)) = l ++ [4 * d + q] from if_pos c]
      have hp := ho d q rfl c.1
      have hb := c.2
      rw [Nat.testBit_or, Bool.or_eq_false_iff] at hb
      refine ⟨?_, fun i p hi => ?_⟩
      · rw [bm_app, pcN_or 64 (and_pow0 hb.2), pcN_pow (h64 _ hp), h.1, List.length_append]
        rfl
      · rcases app_at hi with ⟨h1, h2⟩ | ⟨h1, h2⟩
        · rw [List.take_append_of_le_length (Nat.le_of_lt h1)]
          exact h.2 i p h2
        · subst h1; subst h2
          rw [List.take_append_of_le_length (Nat.le_refl _), List.take_length]
          exact ⟨hb.2, hp, hb.1⟩
    · rw [show A.jn M s l (some (d, q)) = l from if_neg c]
      exact h
theorem jn_pre {A : St} {M : Nat} {s : Int} {l : List Nat} {o : Option (Nat × Nat)} {i p : Nat} (h : l[i]? = some p) : (A.jn M s l o)[i]? = some p := by
  cases o with
  | none => exact h
  | some x =>
    obtain ⟨d, q⟩ := x
    show (if _ then _ else _)[i]? = some p
    split
    · rw [List.getElem?_append_left (List.getElem?_eq_some_iff.mp h).1]; exact h
    · exact h
theorem jn_sub {A : St} {M : Nat} {s : Int} {l : List Nat} {o : Option (Nat × Nat)} {p : Nat} (h : (M ||| bm l).testBit p = true) : (M ||| bm (A.jn M s l o)).testBit p = true := by
  cases o with
  | none => exact h
  | some x =>
    obtain ⟨d, q⟩ := x
    show (M ||| bm (if _ then _ else _)).testBit p = true
    split
    · rw [bm_app, ← Nat.or_assoc, Nat.testBit_or, h, Bool.true_or]
    · exact h
theorem jn_sub2 {A : St} {M : Nat} {s : Int} {l : List Nat} {o : Option (Nat × Nat)} {p : Nat} (h : (bm l).testBit p = true) : (bm (A.jn M s l o)).testBit p = true := by
  cases o with
  | none => exact h
  | some x =>
    obtain ⟨d, q⟩ := x
    show (bm (if _ then _ else _)).testBit p = true
    split
    · rw [bm_app, Nat.testBit_or, h, Bool.true_or]
    · exact h
theorem jn_bit {A : St} {M : Nat} {s : Int} {l : List Nat} {o : Option (Nat × Nat)} {d q : Nat} (ho : o = some (d, q)) (hs : A.s d q = s) : (M ||| bm (A.jn M s l o)).testBit (4 * d + q) = true := by
  subst ho
  show (M ||| bm (if _ then _ else _)).testBit (4 * d + q) = true
  split
  · rw [bm_app, ← Nat.or_assoc, Nat.testBit_or, Nat.testBit_two_pow_self, Bool.or_true]
  · rename_i c
    cases e : (M ||| bm l).testBit (4 * d + q) with
    | true => rfl
    | false => exact absurd ⟨hs, e⟩ c
theorem oc_up {A : St} {c r d q : Nat} (hr : r < A.R) : A.oc ((r : Int) - 1) (some c) = some (d, q) ↔ d = c ∧ upr r = some q := by
  unfold St.oc upr
  dsimp only
  by_cases h : 0 < r
  · rw [if_pos (by omega), if_pos h]
    constructor
    · intro e; cases e; exact ⟨rfl, by congr 1; omega⟩
    · rintro ⟨rfl, e⟩; cases e; congr 2; omega
  · rw [if_neg (by omega), if_neg h]
    exact ⟨fun e => by (cases e), fun e => by cases e.2⟩
theorem oc_dn {A : St} {c r d q : Nat} : A.oc ((r : Int) + 1) (some c) = some (d, q) ↔ d = c ∧ dnr A.R r = some q := by
  unfold St.oc dnr
  dsimp only
  by_cases h : r + 1 < A.R
  · rw [if_pos (by omega), if_pos h]
    constructor
    · intro e; cases e; exact ⟨rfl, by congr 1⟩
    · rintro ⟨rfl, e⟩; cases e; congr 2
  · rw [if_neg (by omega), if_neg h]
    exact ⟨fun e => by (cases e), fun e => by cases e.2⟩
theorem oc_at {A : St} {o : Option Nat} {r d q : Nat} (hr : r < A.R) : A.oc (r : Int) o = some (d, q) ↔ q = r ∧ o = some d := by
  cases o with
  | none => exact ⟨fun e => by (cases e), fun e => by cases e.2⟩
  | some x =>
    unfold St.oc
    dsimp only
    rw [if_pos (by omega)]
    constructor
    · intro e; cases e; exact ⟨Int.toNat_natCast r, rfl⟩
    · rintro ⟨rfl, e⟩; cases e; rw [Int.toNat_natCast]
theorem nbP_oc {A : St} {c r d q : Nat} (hr : r < A.R) : A.nbP c r d q ↔ A.oc ((r : Int) - 1) (some c) = some (d, q) ∨ A.oc ((r : Int) + 1) (some c) = some (d, q) ∨ A.oc (r : Int) (A.prv c) = some (d, q) ∨ A.oc (r : Int) (A.nxt c) = some (d, q) := by
  rw [oc_up hr, oc_dn, oc_at hr, oc_at hr]
  constructor
  · rintro (⟨h1, h2 | h2⟩ | ⟨h1, h2 | h2⟩)
    · exact Or.inl ⟨h1, h2⟩
    · exact Or.inr (Or.inl ⟨h1, h2⟩)
    · exact Or.inr (Or.inr (Or.inl ⟨h1, h2⟩))
    · exact Or.inr (Or.inr (Or.inr ⟨h1, h2⟩))
  · rintro (⟨h1, h2⟩ | ⟨h1, h2⟩ | ⟨h1, h2⟩ | ⟨h1, h2⟩)
    · exact Or.inl ⟨h1, Or.inl h2⟩
    · exact Or.inl ⟨h1, Or.inr h2⟩
    · exact Or.inr ⟨h1, Or.inl h2⟩
    · exact Or.inr ⟨h1, Or.inr h2⟩
def St.NI (A : St) (M : Nat) (l : List Nat) (k : Nat) : Prop := ∀ i p, i < k → l[i]? = some p → ∀ d q, A.nbP (p / 4) (p % 4) d q → A.s (p / 4) (p % 4) = A.s d q → (M ||| bm l).testBit (4 * d + q) = true
theorem three_dec : ∀ c, c < 10 → ∀ r, r < 3 → nI (3 * c + r) / nI 3 = nI c ∧ nI (3 * c + r) - nI (3 * c + r) / nI 3 * nI 3 = nI r := by decide +kernel
set_option maxRecDepth 100000 in
set_option maxHeartbeats 4000000 in
theorem m_finds {σ0 : Sto} {A : St} {M L k0 n0 : Nat} {pl sp rc rr : Int32} (hX : XA σ0 A) (h0 : σ0 114 = moO L k0 pl n0 sp rc rr) (hP0 : XP σ0 M []) (hMc : A.cld M) {r0 c0 : Nat} (hr0 : r0 < A.R) (hc0 : c0 < A.C) (hk0 : M.testBit (4 * c0 + r0) = false) : CP mX8_finds 0 0 [.ref 114, .int (nI r0), .int (nI c0)] 132 σ0 (fun v σ' => v = none ∧ ∃ l, σ' 114 = moO L k0 (nI (l).length) n0 sp rc rr ∧ XP σ' M l ∧ same σ0 σ' (fun i => i = 114 ∨ i = 129 ∨ i = 130) ∧ LI (A.pIt (4 * c0 + r0) 30) M l ∧ bm l = A.pIt (4 * c0 + r0) 30) := by
  have hA := hX.1
  have hC := hA.1
  have hR := hA.2.1
  have hPm := pIt_sub hA hc0 hr0 30
  have h64 : ∀ p, (A.pIt (4 * c0 + r0) 30).testBit p = true → p < 64 := fun p hp => by
    have := sub_cr hA hPm hp
    omega
  have hpm := A.s_pm c0 r0
  have hs1 : -1 ≤ A.s c0 r0 := by omega
  have hs2 : A.s c0 r0 ≤ 1 := by omega
  have hXs : ∀ σ, same σ0 σ (fun i => i = 114 ∨ i = 129 ∨ i = 130) → XA σ A := fun σ s => by
    obtain ⟨-, g, h, hR⟩ := hX
    exact ⟨hA, g, (s 115 (by omega)).trans h, hR⟩
  have lp : ∀ n k, k + n = 30 → ∀ σ l, same σ0 σ (fun i => i = 114 ∨ i = 129 ∨ i = 130) → σ 114 = moO L k0 (nI (l).length) n0 sp rc rr → XP σ M l → LI (A.pIt (4 * c0 + r0) 30) M l → A.NI M l k → (bm l).testBit (4 * c0 + r0) = true → ∀ x5 x6 : Option Value, PW mX8_finds 0 0 (fun v σ' => v = none ∧ ∃ l, σ' 114 = moO L k0 (nI (l).length) n0 sp rc rr ∧ XP σ' M l ∧ same σ0 σ' (fun i => i = 114 ∨ i = 129 ∨ i = 130) ∧ LI (A.pIt (4 * c0 + r0) 30) M l ∧ bm l = A.pIt (4 * c0 + r0) 30) 22 [some (.ref 114), some (.int (nI r0)), some (.int (nI c0)), some (.int (iI (A.s c0 r0))), some (.int (nI k)), x5, x6] [] 132 σ 0 0 := by
   intro n
   induction n with
   | zero =>
    intro k hk σ_0 l S0 e0 p0 hL hN hb x5 x6
    have hll := LI_len hA hPm hL
    refine P_iload (q := 24) dX8_finds_22 rfl rfl ?_
    refine P_aload_n (q := 25) dX8_finds_24 rfl rfl ?_
    refine P_get (q := 28) dX8_finds_25 rfl fX8_149 (by decide) (e0) rfl ?_
    refine P_icmp_ge (q := 31) (tgt := 109) dX8_finds_28 rfl (by decide) (fun c_28 => ?_) (fun c_28 => ?_)
    · rw [nI_leI (by omega) (by omega)] at c_28
      refine P_vret dX8_finds_109 rfl ?_
      exact ⟨rfl, l, e0, p0, S0, hL, patch_eq hA hc0 hr0 hMc hb (fun p hp => LI_mem hL hp) (fun p hp d q hn hs => by
        obtain ⟨i, hi⟩ := List.getElem?_of_mem ((bm_mem p l).mp hp)
        have := (List.getElem?_eq_some_iff.mp hi).1
        exact hN i p (by omega) hi d q hn hs)⟩
    · exfalso; rw [nI_leI (by omega) (by omega)] at c_28; omega
   | succ n ih =>
    intro k hk σ_0 l S0 e0 p0 hL hN hb x5 x6
    have hll := LI_len hA hPm hL
    refine P_iload (q := 24) dX8_finds_22 rfl rfl ?_
    refine P_aload_n (q := 25) dX8_finds_24 rfl rfl ?_
    refine P_get (q := 28) dX8_finds_25 rfl fX8_149 (by decide) (e0) rfl ?_
    refine P_icmp_ge (q := 31) (tgt := 109) dX8_finds_28 rfl (by decide) (fun c_28 => ?_) (fun c_28 => ?_)
    · rw [nI_leI (by omega) (by omega)] at c_28
      refine P_vret dX8_finds_109 rfl ?_
      exact ⟨rfl, l, e0, p0, S0, hL, patch_eq hA hc0 hr0 hMc hb (fun p hp => LI_mem hL hp) (fun p hp d q hn hs => by
        obtain ⟨i, hi⟩ := List.getElem?_of_mem ((bm_mem p l).mp hp)
        have := (List.getElem?_eq_some_iff.mp hi).1
        exact hN i p (by omega) hi d q hn hs)⟩
    · rw [nI_leI (by omega) (by omega)] at c_28
      have hlt : k < l.length := by omega
      obtain ⟨p, hp⟩ : ∃ p, l[k]? = some p := ⟨_, List.getElem?_eq_getElem hlt⟩
      have hPp := (hL.2 k p hp).2.1
      have hg := sub_cr hA hPm hPp
      obtain ⟨-, hh, h130, hhh⟩ := id p0
      have h3 := three_dec (p / 4) (by omega) (p % 4) (by omega)
      have hlk : A.s c0 r0 = A.s (p / 4) (p % 4) := pIt_like hA hc0 hr0 30 _ _ hg.1 hg.2.1 (by rw [← hg.2.2]; exact hPp)
      have hin : ∀ d q, A.nbP (p / 4) (p % 4) d q → A.s d q = A.s c0 r0 → (A.pIt (4 * c0 + r0) 30).testBit (4 * d + q) = true := fun d q hn hs => pIt_cld hA hc0 hr0 _ _ d q hg.1 hg.2.1 hn (hlk.symm.trans hs.symm) (by rw [← hg.2.2]; exact hPp)
      have nb := fun (d q : Nat) => nbP_oc (A := A) (c := p / 4) (r := p % 4) (d := d) (q := q) hg.2.1
      have L1 := jn_LI (s := A.s c0 r0) hL h64 (o := A.oc (((p % 4 : Nat) : Int) - 1) (some (p / 4))) (fun d q e => hin d q ((nb d q).mpr (Or.inl e)))
      have L2 := jn_LI (s := A.s c0 r0) L1 h64 (o := A.oc (((p % 4 : Nat) : Int) + 1) (some (p / 4))) (fun d q e => hin d q ((nb d q).mpr (Or.inr (Or.inl e))))
      have L3 := jn_LI (s := A.s c0 r0) L2 h64 (o := A.oc ((p % 4 : Nat) : Int) (A.prv (p / 4))) (fun d q e => hin d q ((nb d q).mpr (Or.inr (Or.inr (Or.inl e)))))
      have L4 := jn_LI (s := A.s c0 r0) L3 h64 (o := A.oc ((p % 4 : Nat) : Int) (A.nxt (p / 4))) (fun d q e => hin d q ((nb d q).mpr (Or.inr (Or.inr (Or.inr e)))))
      refine P_aload_n (q := 32) dX8_finds_31 rfl rfl ?_
      refine P_get (q := 35) dX8_finds_32 rfl fX8_55 (by decide) (e0) rfl ?_
      refine P_iload (q := 37) dX8_finds_35 rfl rfl ?_
      refine P_iald (q := 38) (j := k) dX8_finds_37 rfl (by decide) (h130) (rfl) (by omega) (by decide) ?_
      rw [hhh k p hp]
      refine P_iconst (q := 39) (v := nI 3) dX8_finds_38 rfl (by decide +kernel) ?_
      refine P_irem (q := 40) dX8_finds_39 rfl (by decide) ?_
      rw [h3.2]
      refine P_istore (q := 42) (L' := [_, _, _, _, _, _, _]) dX8_finds_40 rfl (by decide) rfl ?_
      refine P_aload_n (q := 43) dX8_finds_42 rfl rfl ?_
      refine P_get (q := 46) dX8_finds_43 rfl fX8_55 (by decide) (e0) rfl ?_
      refine P_iload (q := 48) dX8_finds_46 rfl rfl ?_
      refine P_iald (q := 49) (j := k) dX8_finds_48 rfl (by decide) (h130) (rfl) (by omega) (by decide) ?_
      rw [hhh k p hp]
      refine P_iconst (q := 50) (v := nI 3) dX8_finds_49 rfl (by decide +kernel) ?_
      refine P_idiv (q := 51) dX8_finds_50 rfl (by decide) ?_
      rw [h3.1]
      refine P_istore (q := 53) (L' := [_, _, _, _, _, _, _]) dX8_finds_51 rfl (by decide) rfl ?_
      refine P_aload_n (q := 54) dX8_finds_53 rfl rfl ?_
      refine P_iload (q := 56) dX8_finds_54 rfl rfl ?_
      refine P_iconst (q := 57) (v := nI 1) dX8_finds_56 rfl (by decide +kernel) ?_
      refine P_isub (q := 58) dX8_finds_57 rfl ?_
      rw [show nI (p % 4) - nI 1 = iI (((p % 4 : Nat) : Int) - 1) from by rw [iI_nI, iI_nI, iI_sub]; rfl]
      refine P_iload (q := 60) dX8_finds_58 rfl rfl ?_
      refine P_iload_n (q := 61) dX8_finds_60 rfl rfl ?_
      have hX1 := hXs σ_0 S0
      refine P_callv (q := 64) dX8_finds_61 rfl (m_joins hX1 e0 p0 (z := ((p % 4 : Nat) : Int) - 1) (by omega) (by omega) (o := some (p / 4)) (fun d e => by cases e; exact hg.1) hs1 hs2 (LI_len hA hPm L1)) kX8_152 rfl rfl (by decide) (e0) rfl ⟨by decide, by decide⟩ (Nat.le_of_ble_eq_true rfl) ⟨Nat.le_refl _, Nat.le_refl _⟩ ?_
      rintro v σ1 ⟨rfl, e1, p1, t1⟩
      have S1 := S0.trans t1
      refine P_aload_n (q := 65) dX8_finds_64 rfl rfl ?_
      refine P_iload (q := 67) dX8_finds_65 rfl rfl ?_
      refine P_iconst (q := 68) (v := nI 1) dX8_finds_67 rfl (by decide +kernel) ?_
      refine P_iadd (q := 69) dX8_finds_68 rfl ?_
      rw [show nI (p % 4) + nI 1 = iI (((p % 4 : Nat) : Int) + 1) from by rw [iI_nI, iI_nI, iI_add]; rfl]
      refine P_iload (q := 71) dX8_finds_69 rfl rfl ?_
      refine P_iload_n (q := 72) dX8_finds_71 rfl rfl ?_
      have hX2 := hXs σ1 S1
      refine P_callv (q := 75) dX8_finds_72 rfl (m_joins hX2 e1 p1 (z := ((p % 4 : Nat) : Int) + 1) (by omega) (by omega) (o := some (p / 4)) (fun d e => by cases e; exact hg.1) hs1 hs2 (LI_len hA hPm L2)) kX8_152 rfl rfl (by decide) (e1) rfl ⟨by decide, by decide⟩ (Nat.le_of_ble_eq_true rfl) ⟨Nat.le_refl _, Nat.le_refl _⟩ ?_
      rintro v σ2 ⟨rfl, e2, p2, t2⟩
      have S2 := S1.trans t2
      have hM2 : MO σ2 := ⟨_, _, _, _, _, _, _, e2⟩
      have hXX := hXs σ2 S2
      refine P_aload_n (q := 76) dX8_finds_75 rfl rfl ?_
      refine P_iload (q := 78) dX8_finds_76 rfl rfl ?_
      refine P_aload_n (q := 79) dX8_finds_78 rfl rfl ?_
      refine P_iload (q := 81) dX8_finds_79 rfl rfl ?_
      refine P_iconst (q := 82) (v := iI (-1)) dX8_finds_81 rfl (by decide +kernel) ?_
      refine P_cv1 (q := 85) dX8_finds_82 rfl kX8_92 (m_prev hM2 hXX hg.1) rfl rfl (by decide) (e2) rfl ⟨by decide, by decide⟩ (Nat.le_of_ble_eq_true rfl) ⟨Nat.le_refl _, Nat.le_refl _⟩ ?_
      rw [show nI (p % 4) = iI ((p % 4 : Nat) : Int) from iI_nI _]
      refine P_iload_n (q := 86) dX8_finds_85 rfl rfl ?_
      have hX3 := hXs σ2 S2
      refine P_callv (q := 89) dX8_finds_86 rfl (m_joins hX3 e2 p2 (z := ((p % 4 : Nat) : Int)) (by omega) (by omega) (o := A.prv (p / 4)) (fun d e => prv_lt hA hg.1 e) hs1 hs2 (LI_len hA hPm L3)) kX8_152 rfl rfl (by decide) (e2) rfl ⟨by decide, by decide⟩ (Nat.le_of_ble_eq_true rfl) ⟨Nat.le_refl _, Nat.le_refl _⟩ ?_
      rintro v σ3 ⟨rfl, e3, p3, t3⟩
      have S3 := S2.trans t3
      have hM3 : MO σ3 := ⟨_, _, _, _, _, _, _, e3⟩
      have hXX3 := hXs σ3 S3
      refine P_aload_n (q := 90) dX8_finds_89 rfl rfl ?_
      refine P_iload (q := 92) dX8_finds_90 rfl rfl ?_
      refine P_aload_n (q := 93) dX8_finds_92 rfl rfl ?_
      refine P_iload (q := 95) dX8_finds_93 rfl rfl ?_
      refine P_iconst (q := 96) (v := nI 1) dX8_finds_95 rfl (by decide +kernel) ?_
      refine P_cv1 (q := 99) dX8_finds_96 rfl kX8_92 (m_next hM3 hXX3 hg.1) rfl rfl (by decide) (e3) rfl ⟨by decide, by decide⟩ (Nat.le_of_ble_eq_true rfl) ⟨Nat.le_refl _, Nat.le_refl _⟩ ?_
      refine P_iload_n (q := 100) dX8_finds_99 rfl rfl ?_
      have hX4 := hXs σ3 S3
      refine P_callv (q := 103) dX8_finds_100 rfl (m_joins hX4 e3 p3 (z := ((p % 4 : Nat) : Int)) (by omega) (by omega) (o := A.nxt (p / 4)) (fun d e => nxt_lt hg.1 e) hs1 hs2 (LI_len hA hPm L4)) kX8_152 rfl rfl (by decide) (e3) rfl ⟨by decide, by decide⟩ (Nat.le_of_ble_eq_true rfl) ⟨Nat.le_refl _, Nat.le_refl _⟩ ?_
      rintro v σ4 ⟨rfl, e4, p4, t4⟩
      have S4 := S3.trans t4
      refine P_iinc (q := 106) (L' := [_, _, _, _, _, _, _]) (v := nI (k + 1)) dX8_finds_103 rfl (by decide) rfl (nI_1 k) rfl ?_
      refine P_goto (tgt := 22) dX8_finds_106 (by decide) ?_
      have hS4 : A.NI M _ (k + 1) := fun i p' hi hp' d q hn hs => by
        by_cases ek : i = k
        · subst ek
          have h1 := jn_pre (A := A) (M := M) (s := A.s c0 r0) (o := A.oc ((p % 4 : Nat) : Int) (A.nxt (p / 4))) (jn_pre (A := A) (M := M) (s := A.s c0 r0) (o := A.oc ((p % 4 : Nat) : Int) (A.prv (p / 4))) (jn_pre (A := A) (M := M) (s := A.s c0 r0) (o := A.oc (((p % 4 : Nat) : Int) + 1) (some (p / 4))) (jn_pre (A := A) (M := M) (s := A.s c0 r0) (o := A.oc (((p % 4 : Nat) : Int) - 1) (some (p / 4))) hp)))
          rw [h1] at hp'
          have ep := Option.some.inj hp'
          subst ep
          have hsq : A.s d q = A.s c0 r0 := (hlk.trans hs).symm
          rcases (nb d q).mp hn with e | e | e | e
          · exact jn_sub (jn_sub (jn_sub (jn_bit e hsq)))
          · exact jn_sub (jn_sub (jn_bit e hsq))
          · exact jn_sub (jn_bit e hsq)
          · exact jn_bit e hsq
        · have hil : i < l.length := by omega
          have h1 := jn_pre (A := A) (M := M) (s := A.s c0 r0) (o := A.oc ((p % 4 : Nat) : Int) (A.nxt (p / 4))) (jn_pre (A := A) (M := M) (s := A.s c0 r0) (o := A.oc ((p % 4 : Nat) : Int) (A.prv (p / 4))) (jn_pre (A := A) (M := M) (s := A.s c0 r0) (o := A.oc (((p % 4 : Nat) : Int) + 1) (some (p / 4))) (jn_pre (A := A) (M := M) (s := A.s c0 r0) (o := A.oc (((p % 4 : Nat) : Int) - 1) (some (p / 4))) (List.getElem?_eq_getElem hil))))
          rw [h1] at hp'
          have ep := Option.some.inj hp'
          subst ep
          exact jn_sub (jn_sub (jn_sub (jn_sub (hN i _ (by omega) (List.getElem?_eq_getElem hil) d q hn hs))))
      exact ih (k + 1) (by omega) σ4 _ S4 e4 p4 L4 hS4 (jn_sub2 (jn_sub2 (jn_sub2 (jn_sub2 hb)))) _ _
  have hM0 : MO σ0 := ⟨_, _, _, _, _, _, _, h0⟩
  generalize hσ1 : va_up σ0 114 (moO L k0 (nI (([] : List Nat)).length) n0 sp rc rr) = σ1
  have e1 : σ1 114 = moO L k0 (nI (([] : List Nat)).length) n0 sp rc rr := by rw [← hσ1]; exact up_at _ _ _
  have S1 : same σ0 σ1 (fun i => i = 114 ∨ i = 129 ∨ i = 130) := by rw [← hσ1]; exact same.rf.up (Or.inl rfl)
  have hX1 := hXs σ1 S1
  have hM1 : MO σ1 := ⟨_, _, _, _, _, _, _, e1⟩
  have p1 : XP σ1 M [] := by
    obtain ⟨⟨g, a1, a2⟩, h, a3, a4⟩ := hP0
    exact ⟨⟨g, by rw [← hσ1]; exact (up_ne _ _ (by omega)).trans a1, a2⟩, h, by rw [← hσ1]; exact (up_ne _ _ (by omega)).trans a3, a4⟩
  have eo : A.oc (r0 : Int) (some c0) = some (c0, r0) := (oc_at hr0).mpr ⟨rfl, rfl⟩
  have ej : A.jn M (A.s c0 r0) [] (some (c0, r0)) = [4 * c0 + r0] := if_pos ⟨rfl, by show (M ||| 0).testBit _ = false; rw [Nat.or_zero]; exact hk0⟩
  have L0 : LI (A.pIt (4 * c0 + r0) 30) M [] := ⟨pcN_zero 64, fun i p hi => by cases hi⟩
  have L1 := jn_LI (A := A) (s := A.s c0 r0) L0 h64 (o := A.oc (r0 : Int) (some c0)) (fun d q e _ => by rw [eo] at e; cases e; exact pIt_self 30)
  have hj := m_joins hX1 e1 p1 (z := (r0 : Int)) (by omega) (by omega) (o := some c0) (fun d e => by cases e; exact hc0) hs1 hs2 (LI_len hA hPm L1)
  rw [eo, ej] at hj L1
  refine CP_of (by decide +kernel) (Nat.le_of_ble_eq_true rfl) ?_
  change PW _ _ _ _ 0 [_, _, _, _, _, _, _] [] _ _ _ _
  refine P_aload_n (q := 1) dX8_finds_0 rfl rfl ?_
  refine P_iconst (q := 2) (v := nI 0) dX8_finds_1 rfl (by decide +kernel) ?_
  refine P_put (q := 5) (fs' := [_, _, _, _, _, _, _, _, _, _, _, _, _, _, _, _, _, _, _, _, _, _, _, _]) (σ' := va_up σ0 114 (moO L k0 (nI (([] : List Nat)).length) n0 sp rc rr)) dX8_finds_2 rfl gX8_149 (by decide) (h0) (fun _ => rfl) (fun _ => rfl) (Nat.le_of_ble_eq_true rfl) rfl (rfl) ?_
  rw [hσ1]
  refine P_aload_n (q := 6) dX8_finds_5 rfl rfl ?_
  refine P_iload_n (q := 7) dX8_finds_6 rfl rfl ?_
  refine P_iload_n (q := 8) dX8_finds_7 rfl rfl ?_
  refine P_cv1 (q := 11) dX8_finds_8 rfl kX8_106 (m_spin hM1 hX1 (r := r0) (c := c0) (by omega) (by omega)) rfl rfl (by decide) (e1) rfl ⟨by decide, by decide⟩ (Nat.le_of_ble_eq_true rfl) ⟨Nat.le_refl _, Nat.le_refl _⟩ ?_
  refine P_istore_n (q := 12) (L' := [_, _, _, _, _, _, _]) dX8_finds_11 rfl (by decide) rfl ?_
  refine P_aload_n (q := 13) dX8_finds_12 rfl rfl ?_
  refine P_iload_n (q := 14) dX8_finds_13 rfl rfl ?_
  refine P_iload_n (q := 15) dX8_finds_14 rfl rfl ?_
  refine P_iload_n (q := 16) dX8_finds_15 rfl rfl ?_
  rw [← iI_nI] at hj
  refine P_callv (q := 19) dX8_finds_16 rfl (hj) kX8_152 rfl rfl (by decide) (e1) rfl ⟨by decide, by decide⟩ (Nat.le_of_ble_eq_true rfl) ⟨Nat.le_refl _, Nat.le_refl _⟩ ?_
  rintro v σ2 ⟨rfl, e2, p2, t2⟩
  refine P_iconst (q := 20) (v := nI 0) dX8_finds_19 rfl (by decide +kernel) ?_
  refine P_istore (q := 22) (L' := [_, _, _, _, _, _, _]) dX8_finds_20 rfl (by decide) rfl ?_
  refine lp 30 0 (by omega) σ2 _ (S1.trans t2) e2 p2 L1 (fun i p hi => by omega) ?_ _ _
  show (2 ^ (4 * c0 + r0) ||| 0).testBit _ = true
  rw [Nat.or_zero]
  exact Nat.testBit_two_pow_self
