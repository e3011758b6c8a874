/-! SETTLING: what the columns from one on have at least -/
def St.eta (A : St) (c : Nat) : Int := ((A.md false).wr : Int) - A.rho false c + (A.rhoC c : Int)
def St.rs (A : St) (f c s : Nat) : Int := 2 * (((A.md false).ci c s + (A.md false).B f c s : Nat) : Int) - A.eta c
theorem rho_f (A : St) (c : Nat) : A.rho false (c + 1) = A.rho false c + ((A.R : Int) * (A.al.natAbs : Int) + (A.rhoC (c + 1) : Int)) := rho_s A false c
theorem col_f {A : St} (hA : A.ok) (c : Nat) {k : Nat} (hk : k < 2 ^ A.R) : A.col false c k = 2 * ((A.md false).ci c k : Int) - (A.rhoC c : Int) := col_E hA false c hk
theorem lnk_f {A : St} (hA : A.ok) {s t : Nat} (hs : s < 2 ^ A.R) (ht : t < 2 ^ A.R) : A.lnk false s t = 2 * ((A.md false).cb s t : Int) - (A.R : Int) * (A.al.natAbs : Int) := lnk_E hA false hs ht
theorem sf_f {A : St} (hA : A.ok) {s f : Nat} (hs : s < 2 ^ A.R) (hf : f < 2 ^ A.R) : A.sf false s f = 2 * ((A.md false).sm f s : Int) - (((A.md false).wr : Int) - A.rho false (A.C - 1)) := sf_E hA false hs hf
theorem rs_last {A : St} (hA : A.ok) {f s : Nat} (hf : f < 2 ^ A.R) (hs : s < 2 ^ A.R) : A.sf false s f + A.col false (A.C - 1) s = A.rs f (A.C - 1) s := by
  have hB : (A.md false).B f (A.C - 1) s = (A.md false).sm f s := Md.B_last f s
  unfold St.rs St.eta
  rw [sf_f hA hs hf, col_f hA (A.C - 1) hs, hB]
  omega
/-- one more column -/
theorem rs_cn {A : St} (hA : A.ok) {f c s t : Nat} (hs : s < 2 ^ A.R) (ht : t < 2 ^ A.R) : A.lnk false s t + A.rs f (c + 1) t = 2 * ((A.md false).cn f c s t : Int) - (A.eta c - (A.rhoC c : Int)) := by
  have e : (A.md false).cn f c s t = (A.md false).cb s t + (A.md false).ci (c + 1) t + (A.md false).B f (c + 1) t := rfl
  unfold St.rs St.eta
  rw [lnk_f hA hs ht, rho_f, e]
  omega
theorem rs_col {A : St} (hA : A.ok) {f c s : Nat} (hs : s < 2 ^ A.R) : 2 * ((A.md false).B f c s : Int) - (A.eta c - (A.rhoC c : Int)) + A.col false c s = A.rs f c s := by
  unfold St.rs
  rw [col_f hA c hs]
  omega
theorem rho_b {A : St} (hA : A.ok) (c : Nat) (hc : c < A.C) : 0 ≤ A.rho false c ∧ A.rho false c ≤ 190 := by
  have h := reach_b hA false c
  have hC := hA.1
  show 0 ≤ ((A.reach false (c + 1) : Nat) : Int) ∧ ((A.reach false (c + 1) : Nat) : Int) ≤ 190
  omega
theorem rhoC_b {A : St} (hA : A.ok) (c : Nat) : A.rhoC c ≤ 13 := by
  have h1 := A.fdr_le hA c A.R hA.2.1.2
  obtain ⟨-, h2, -, -, h3, -⟩ := hA
  have h4 : (A.R - 1) * A.ac.natAbs ≤ 2 * 2 := Nat.mul_le_mul (by omega) (by omega)
  unfold St.rhoC
  omega
theorem eta_b {A : St} (hA : A.ok) (c : Nat) (hc : c < A.C) : -200 ≤ A.eta c ∧ A.eta c ≤ 220 := by
  have h1 := rho_b hA c hc
  have h2 := rhoC_b hA c
  have h3 := wr_190 hA false
  unfold St.eta
  omega
theorem rs_b {A : St} (hA : A.ok) {f c s : Nat} (hf : f < 2 ^ A.R) (hc : c < A.C) (hs : s < 2 ^ A.R) : -1000 ≤ A.rs f c s ∧ A.rs f c s ≤ 20000 := by
  have hm := St.md_ok hA false
  have h1 := eta_b hA c hc
  have h2 := Md.B_le hm (c := c) (show f < (A.md false).K from hf) (show s < (A.md false).K from hs)
  have h3 := hm.2.2.2.2.2.2 c s hc hs
  unfold St.rs
  omega
theorem rs_0 {A : St} (hA : A.ok) (f : Nat) : A.rs f 0 f = 2 * ((A.md false).L f : Int) - ((A.md false).wr : Int) := by
  have e : (A.md false).L f = (A.md false).ci 0 f + (A.md false).B f 0 f := rfl
  have e2 := rho_0 A false
  have e2 : A.rho false 0 = (A.rhoC 0 : Int) := e2
  unfold St.rs St.eta
  rw [e, e2]
  omega
theorem fo_tight {A : St} (hA : A.ok) {f c : Nat} (hf : f < 2 ^ A.R) (hc : c + 1 < A.C) : (A.md false).cn f c ((A.md false).fo f c) ((A.md false).fo f (c + 1)) = (A.md false).B f c ((A.md false).fo f c) := by
  have hm := St.md_ok hA false
  have h := fsA_at (Md.tg_ex hm (f := f) (k := (A.md false).fo f c) (show c + 1 < (A.md false).C from hc))
  exact of_decide_eq_true h.1
theorem rs_fo {A : St} (hA : A.ok) {f c : Nat} (hf : f < 2 ^ A.R) (hc : c + 1 < A.C) : A.rs f c ((A.md false).fo f c) = A.col false c ((A.md false).fo f c) + A.lnk false ((A.md false).fo f c) ((A.md false).fo f (c + 1)) + A.rs f (c + 1) ((A.md false).fo f (c + 1)) := by
  have hm := St.md_ok hA false
  have l1 : (A.md false).fo f c < 2 ^ A.R := Md.fo_lt hf c
  have l2 : (A.md false).fo f (c + 1) < 2 ^ A.R := Md.fo_lt hf (c + 1)
  have h1 := rs_cn hA (f := f) (c := c) l1 l2
  have h2 := rs_col hA (f := f) (c := c) l1
  rw [fo_tight hA hf hc] at h1
  omega
def St.tf (A : St) (f c : Nat) : Int := A.col false c ((A.md false).fo f c) + (if c + 1 < A.C then A.lnk false ((A.md false).fo f c) ((A.md false).fo f (c + 1)) else A.sf false ((A.md false).fo f c) f)
theorem tf_sum {A : St} (hA : A.ok) {f : Nat} (hf : f < 2 ^ A.R) : ∀ n, n < A.C → sumZ n (A.tf f) + A.rs f n ((A.md false).fo f n) = A.rs f 0 f
  | 0, _ => by
    show 0 + A.rs f 0 f = _
    omega
  | n + 1, h => by
    have ih := tf_sum hA hf n (by omega)
    have h1 := rs_fo hA hf h
    have e : A.tf f n = A.col false n ((A.md false).fo f n) + A.lnk false ((A.md false).fo f n) ((A.md false).fo f (n + 1)) := by
      unfold St.tf; rw [if_pos h]
    show sumZ n (A.tf f) + A.tf f n + _ = _
    rw [e]
    omega
theorem tf_all {A : St} (hA : A.ok) {f : Nat} (hf : f < 2 ^ A.R) : sumZ A.C (A.tf f) = 2 * ((A.md false).L f : Int) - ((A.md false).wr : Int) := by
  have hC := hA.1
  obtain ⟨n, hn⟩ : ∃ n, A.C = n + 1 := ⟨A.C - 1, by omega⟩
  have h := tf_sum hA hf n (by omega)
  have l1 : (A.md false).fo f n < 2 ^ A.R := Md.fo_lt hf n
  have h2 := rs_last hA hf l1
  rw [show A.C - 1 = n by omega] at h2
  have e : A.tf f n = A.col false n ((A.md false).fo f n) + A.sf false ((A.md false).fo f n) f := by
    unfold St.tf; rw [if_neg (by omega)]
  rw [hn, ← rs_0 hA f]
  show sumZ n (A.tf f) + A.tf f n = _
  rw [e]
  omega
theorem f1_ok {A : St} (hA : A.ok) : (A.md false).f1 < 2 ^ A.R ∧ (A.md false).L (A.md false).f1 = (A.md false).xs := by
  have h := fsA_at (Md.tl_ex (St.md_ok hA false))
  exact ⟨Md.kio_lt _, of_decide_eq_true h.1⟩
/-- the strip that is settled has the least energy -/
theorem su_E {A : St} (hA : A.ok) : A.su.E = A.Es := by
  obtain ⟨hf, hL⟩ := f1_ok hA
  rw [← tot_E]
  unfold St.Es
  rw [← hL, ← tf_all hA hf]
  show sumZ A.C (A.su.totT false) = _
  refine sumZ_congr fun c hc => ?_
  have e0 : A.su.sp c = (A.md false).fo (A.md false).f1 c := if_pos hc
  show A.su.col false c (A.su.sp c) + A.su.lnkO false (A.su.sp c) (A.su.nxt c) = A.tf _ c
  rw [e0]
  show A.col false c _ + _ = _
  unfold St.tf
  congr 1
  by_cases h : c + 1 < A.C
  · rw [if_pos h]
    have e1 : A.su.nxt c = some (c + 1) := if_pos h
    rw [e1]
    show A.lnk false _ (A.su.sp (c + 1)) = _
    rw [show A.su.sp (c + 1) = (A.md false).fo (A.md false).f1 (c + 1) from if_pos h]
  · rw [if_neg h]
    by_cases hl : A.lp = true
    · have e1 : A.su.nxt c = some 0 := by
        show (if c + 1 < A.C then some (c + 1) else if A.lp = true then some 0 else none) = _
        rw [if_neg h, if_pos hl]
      rw [e1]
      show A.lnk false _ (A.su.sp 0) = _
      rw [show A.su.sp 0 = (A.md false).fo (A.md false).f1 0 from if_pos (by omega)]
      unfold St.sf
      rw [if_pos hl]; rfl
    · have e1 : A.su.nxt c = none := by
        show (if c + 1 < A.C then some (c + 1) else if A.lp = true then some 0 else none) = _
        rw [if_neg h, if_neg hl]
      rw [e1]
      unfold St.sf
      rw [if_neg hl]; rfl
theorem U_inj {A B : St} (hA : A.ok) (hB : B.ok) : A.U = B.U ↔ ∀ c, c < 10 → A.sp c = B.sp c := by
  constructor
  · intro h c _
    refine Nat.eq_of_testBit_eq fun r => ?_
    by_cases hr : r < 4
    · rw [← St.U_cr hA c hr, ← St.U_cr hB c hr, h]
    · have h16 : ∀ x, x < 16 → x.testBit r = false := fun x hx => Nat.testBit_lt_two_pow (Nat.lt_of_lt_of_le hx (show 16 ≤ 2 ^ r from Nat.pow_le_pow_right (n := 2) (by decide) (show 4 ≤ r by omega)))
      rw [h16 _ (St.sp16 hA c), h16 _ (St.sp16 hB c)]
  · intro h
    exact sumN_congr fun c hc => by rw [h c hc]
def rkP (R p : Nat) : Nat → Nat
  | 0 => 0
  | r + 1 => rkP R p r ||| (p / 2 ^ (R - 1 - r) % 2) * 2 ^ r
theorem rk_e : ∀ R, R < 4 → 0 < R → ∀ p, p < 2 ^ R → rkP R p R = kioN R p ∧ ∀ r, r < R → nI (rkP R p r) ||| (((nI p >>> ((nI R - nI 1 - nI r) &&& 31)) &&& nI 1) <<< (nI r &&& 31)) = nI (rkP R p (r + 1)) := by decide +kernel
set_option maxRecDepth 100000 in
set_option maxHeartbeats 4000000 in
theorem m_ranked {σ : Sto} {A : St} (hM : MO σ) (hX : XA σ A) {p : Nat} (hp : p < 2 ^ A.R) : CD mX8_ranked [.ref 114, .int (nI p)] 132 σ (some (.int (nI (kioN A.R p)))) σ := by
  obtain ⟨a1, a2, a3, a4, a5, a6, a7, h0⟩ := hM
  obtain ⟨hA, g, h1, hRA⟩ := id hX
  have hR := hA.2.1
  obtain ⟨e1, e2⟩ := rk_e A.R (by omega) (by omega) p hp
  have lp : ∀ n r, r + n = A.R → PW mX8_ranked 0 0 (fun v σ' => v = some (.int (nI (kioN A.R p))) ∧ σ' = σ) 4 [some (.ref 114), some (.int (nI p)), some (.int (nI (rkP A.R p r))), some (.int (nI r))] [] 132 σ 0 0 := by
    intro n
    induction n with
    | zero =>
      intro r hr
      have e : r = A.R := by omega
      subst e
      refine P_iload_n (q := 5) dX8_ranked_4 rfl rfl ?_
      refine P_aload_n (q := 6) dX8_ranked_5 rfl rfl ?_
      refine P_get (q := 9) dX8_ranked_6 rfl fX8_7 (by decide) (h0) rfl ?_
      refine P_iconst (q := 10) (v := nI 1) dX8_ranked_9 rfl (by decide +kernel) ?_
      refine P_iald (q := 11) (j := 1) dX8_ranked_10 rfl (by decide) (h1) (rfl) (by omega) (by decide) ?_
      rw [hRA.2.1]
      refine P_icmp_ge (q := 14) (tgt := 39) dX8_ranked_11 rfl (by decide) (fun c_11 => ?_) (fun c_11 => ?_)
      · rw [nI_leI (by omega) (by omega)] at c_11
        refine P_iload_n (q := 40) dX8_ranked_39 rfl rfl ?_
        refine P_iret dX8_ranked_40 rfl (rfl) ?_
        rw [e1]
        exact ⟨rfl, rfl⟩
      · exfalso; rw [nI_leI (by omega) (by omega)] at c_11; omega
    | succ n ih =>
      intro r hr
      refine P_iload_n (q := 5) dX8_ranked_4 rfl rfl ?_
      refine P_aload_n (q := 6) dX8_ranked_5 rfl rfl ?_
      refine P_get (q := 9) dX8_ranked_6 rfl fX8_7 (by decide) (h0) rfl ?_
      refine P_iconst (q := 10) (v := nI 1) dX8_ranked_9 rfl (by decide +kernel) ?_
      refine P_iald (q := 11) (j := 1) dX8_ranked_10 rfl (by decide) (h1) (rfl) (by omega) (by decide) ?_
      rw [hRA.2.1]
      refine P_icmp_ge (q := 14) (tgt := 39) dX8_ranked_11 rfl (by decide) (fun c_11 => ?_) (fun c_11 => ?_)
      · exfalso; rw [nI_leI (by omega) (by omega)] at c_11; omega
      · rw [nI_leI (by omega) (by omega)] at c_11
        refine P_iload_n (q := 15) dX8_ranked_14 rfl rfl ?_
        refine P_iload_n (q := 16) dX8_ranked_15 rfl rfl ?_
        refine P_aload_n (q := 17) dX8_ranked_16 rfl rfl ?_
        refine P_get (q := 20) dX8_ranked_17 rfl fX8_7 (by decide) (h0) rfl ?_
        refine P_iconst (q := 21) (v := nI 1) dX8_ranked_20 rfl (by decide +kernel) ?_
        refine P_iald (q := 22) (j := 1) dX8_ranked_21 rfl (by decide) (h1) (rfl) (by omega) (by decide) ?_
        rw [hRA.2.1]
        refine P_iconst (q := 23) (v := nI 1) dX8_ranked_22 rfl (by decide +kernel) ?_
        refine P_isub (q := 24) dX8_ranked_23 rfl ?_
        refine P_iload_n (q := 25) dX8_ranked_24 rfl rfl ?_
        refine P_isub (q := 26) dX8_ranked_25 rfl ?_
        refine P_ishr (q := 27) dX8_ranked_26 rfl ?_
        refine P_iconst (q := 28) (v := nI 1) dX8_ranked_27 rfl (by decide +kernel) ?_
        refine P_iand (q := 29) dX8_ranked_28 rfl ?_
        refine P_iload_n (q := 30) dX8_ranked_29 rfl rfl ?_
        refine P_ishl (q := 31) dX8_ranked_30 rfl ?_
        refine P_ior (q := 32) dX8_ranked_31 rfl ?_
        rw [e2 r (by omega)]
        refine P_istore_n (q := 33) (L' := [_, _, _, _]) dX8_ranked_32 rfl (by decide) rfl ?_
        refine P_iinc (q := 36) (L' := [_, _, _, _]) (v := nI (r + 1)) dX8_ranked_33 rfl (by decide) rfl (nI_1 r) rfl ?_
        refine P_goto (tgt := 4) dX8_ranked_36 (by decide) ?_
        exact ih (r + 1) (by omega)
  refine CP_of (by decide +kernel) (Nat.le_of_ble_eq_true rfl) ?_
  change PW _ _ _ _ 0 [_, _, _, _] [] _ _ _ _
  refine P_iconst (q := 1) (v := nI 0) dX8_ranked_0 rfl (by decide +kernel) ?_
  refine P_istore_n (q := 2) (L' := [_, _, _, _]) dX8_ranked_1 rfl (by decide) rfl ?_
  refine P_iconst (q := 3) (v := nI 0) dX8_ranked_2 rfl (by decide +kernel) ?_
  refine P_istore_n (q := 4) (L' := [_, _, _, _]) dX8_ranked_3 rfl (by decide) rfl ?_
  exact lp A.R 0 (by omega)
