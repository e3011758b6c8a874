/-! THE CLASS AS A MACHINE: strip, history, snapshot, text -/
abbrev Cs : Type := St × List St × Option St × Nat × (Nat → Nat)
def Cs.A (w : Cs) : St := w.1
def Cs.H (w : Cs) : List St := w.2.1
def Cs.Sn (w : Cs) : Option St := w.2.2.1
def Cs.n (w : Cs) : Nat := w.2.2.2.1
def Cs.ch (w : Cs) : Nat → Nat := w.2.2.2.2
/-- the state is recorded, the strip is another one -/
def Cs.to (w : Cs) (B : St) : Cs := (B, rec4 w.A w.H, w.Sn, w.n, w.ch)
def ssO (k : Bool) : PC := pO 7 [.ref 1, .ref 3, .ref 100, .ref 110, .int (bI k), .ref 112]
def CW (σ : Sto) (w : Cs) : Prop := σ 0 = ssO w.Sn.isSome ∧ SW σ 1 w.A ∧ AW σ w.A ∧ HW σ w.H ∧ (∃ B, SW σ 110 B ∧ ∀ C, w.Sn = some C → B = C) ∧ TW σ w.n w.ch
theorem CW.go {σ τ : Sto} {w : Cs} (hW : CW σ w) (s : same σ τ (fun i => 1 ≤ i ∧ i ≤ 109)) {B : St} {H : List St} (hS : SW τ 1 B) (hA : AW τ B) (hH : HW τ H) : CW τ (B, H, w.Sn, w.n, w.ch) := by
  obtain ⟨h0, -, -, -, ⟨C, h4, h5⟩, h6⟩ := hW
  exact ⟨(s 0 (by omega)).trans h0, hS, hA, hH, ⟨C, h4.congr (s 110 (by omega)) (s 111 (by omega)), h5⟩, h6.congr (s 112 (by omega)) (s 113 (by omega))⟩
theorem CW.all {σ τ : Sto} {w : Cs} (hW : CW σ w) (s : same σ τ (fun i => 3 ≤ i ∧ i ≤ 99)) (hA : AW τ w.A) : CW τ w :=
  hW.go (s.mono (fun i h => by omega)) (hW.2.1.congr (s 1 (by omega)) (s 2 (by omega))) hA (hW.2.2.2.1.congr (fun k a b => s k (by omega)))
/-- an answer and a state -/
def OK (σ : Sto) (o : Int32 × Cs) : Option Value → Sto → Prop := fun v σ' => v = some (.int o.1) ∧ CW σ' o.2 ∧ same σ σ' (fun i => i ≤ 113)
theorem OK.stay {σ : Sto} {w : Cs} {x : Int32} (hW : CW σ w) : OK σ (x, w) (some (.int x)) σ := ⟨rfl, hW, same.rf⟩
theorem CW.ss {σ τ : Sto} (s : same σ τ (fun i => 1 ≤ i ∧ i ≤ 109)) : same σ τ (fun i => i ≤ 113) := s.mono (fun i h => by omega)
def St.inB (A : St) (r c : Int) : Bool := decide (0 ≤ r ∧ r < A.R ∧ 0 ≤ c ∧ c < A.C)
theorem hasB_i {A : St} (hA : A.ok) {r c : Int} (r1 : -2147483648 ≤ r) (r2 : r < 2147483648) (c1 : -2147483648 ≤ c) (c2 : c < 2147483648) : A.hasB (iI r) (iI c) = A.inB r c := by
  have hC := hA.1
  have hR := hA.2.1
  unfold St.hasB St.inB
  apply decide_eq_decide.mpr
  rw [show (0 : Int32) = iI 0 from rfl, iI_nI, iI_nI, iI_lt (by omega) (by omega) (by omega) (by omega), iI_lt (by omega) (by omega) (by omega) (by omega), iI_le (by omega) (by omega) (by omega) (by omega), iI_le (by omega) (by omega) (by omega) (by omega)]
  omega
theorem inB_n {A : St} {r c : Int} (h : A.inB r c = true) : ∃ a b : Nat, r = a ∧ c = b ∧ a < A.R ∧ b < A.C := by
  have h := of_decide_eq_true h
  exact ⟨r.toNat, c.toNat, by omega, by omega, by omega, by omega⟩
theorem lay_ok {A : St} (hA : A.ok) {c r g : Nat} (c1 : 1 ≤ c) (c2 : c ≤ 10) (r1 : 1 ≤ r) (r2 : r ≤ 3) (hg : g ≤ 1) : (A.lay c r g).ok := by
  refine ⟨⟨c1, c2⟩, ⟨r1, r2⟩, hg, hA.2.2.2.1, hA.2.2.2.2.1, fun k => ?_, fun k hk => if_neg (show ¬ k < c from by have : c ≤ k := hk; omega), fun _ _ => by show (-3 : Int) ≤ 0 ∧ (0 : Int) ≤ 3; omega⟩
  show (if k < c then 2 ^ r - 1 else 0) < 2 ^ r
  have := Nat.two_pow_pos r
  split <;> omega
theorem flip_md (A : St) (a : Nat) (w : Bool) : (A.flip a).md w = A.md w := rfl
theorem rec4_4' {A : St} {H : List St} : (rec4 A H).length ≤ 4 := by unfold rec4; rw [List.length_take]; omega
def oLay (w : Cs) (c r : Int) (g : Bool) : Int32 × Cs := if 1 ≤ c ∧ c ≤ 10 ∧ 1 ≤ r ∧ r ≤ 3 then (nI (c.toNat * r.toNat), w.to (w.A.lay c.toNat r.toNat g.toNat)) else (iI (-1002), w)
theorem bI_nat (g : Bool) : bI g = nI g.toNat := by cases g <;> rfl
theorem SW_lay {σ : Sto} {A : St} {f : Nat → Int32} (hA : A.ok) (h2 : σ 2 = pI .int 40 f) {c r g : Nat} (c1 : 1 ≤ c) (c2 : c ≤ 10) (r1 : 1 ≤ r) (r2 : r ≤ 3) (hg : g ≤ 1) : SW (va_up (va_up σ 1 (stO (A.lay c r g) 2)) 2 (pI .int 40 (flV 40 (nI 0) f 40))) 1 (A.lay c r g) :=
  ⟨lay_ok hA c1 c2 r1 r2 hg, _, (up_ne _ _ (by omega)).trans (up_at _ _ _), up_at _ _ _, fun a b ha hb => by
    have h1 : a < c := ha
    have h2 : b < r := hb
    exact flV_all (by omega)⟩
set_option maxRecDepth 100000 in
set_option maxHeartbeats 4000000 in
theorem a_lay {σ : Sto} {w : Cs} (hW : CW σ w) {c : Int} (c1 : -2147483648 ≤ c) (c2 : c < 2147483648) {r : Int} (r1 : -2147483648 ≤ r) (r2 : r < 2147483648) (g : Bool) : CP mX7_lay 0 0 [.ref 0, .int (iI c), .int (iI r), .int (bI g)] 132 σ (OK σ (oLay w c r g)) := by
  obtain ⟨h0, hS, hAW, hH, hSn, hT⟩ := id hW
  have hA := hS.1
  have no : ¬ (1 ≤ c ∧ c ≤ 10 ∧ 1 ≤ r ∧ r ≤ 3) → OK σ (oLay w c r g) (some (.int (iI (-1002)))) σ := fun h => by
    unfold oLay
    rw [if_neg h]
    exact OK.stay hW
  refine CP_of (by decide +kernel) (Nat.le_of_ble_eq_true rfl) ?_
  change PW _ _ _ _ 0 [_, _, _, _] [] _ _ _ _
  refine P_iload_n (q := 1) dX7_lay_0 rfl rfl ?_
  refine P_iconst (q := 2) (v := nI 1) dX7_lay_1 rfl (by decide +kernel) ?_
  refine P_icmp_lt (q := 5) (tgt := 21) dX7_lay_2 rfl (by decide) (fun c_2 => ?_) (fun c_2 => ?_)
  · rw [iI_nI, iI_lt (by omega) (by omega) (by omega) (by omega)] at c_2
    refine P_sipush (q := 24) (v := iI (-1002)) dX7_lay_21 rfl (by decide +kernel) ?_
    refine P_iret dX7_lay_24 rfl (rfl) ?_
    exact no (by omega)
  · rw [iI_nI, iI_lt (by omega) (by omega) (by omega) (by omega)] at c_2
    refine P_iload_n (q := 6) dX7_lay_5 rfl rfl ?_
    refine P_bipush (q := 8) (v := nI 10) dX7_lay_6 rfl (by decide +kernel) ?_
    refine P_icmp_gt (q := 11) (tgt := 21) dX7_lay_8 rfl (by decide) (fun c_8 => ?_) (fun c_8 => ?_)
    · rw [iI_nI, iI_lt (by omega) (by omega) (by omega) (by omega)] at c_8
      refine P_sipush (q := 24) (v := iI (-1002)) dX7_lay_21 rfl (by decide +kernel) ?_
      refine P_iret dX7_lay_24 rfl (rfl) ?_
      exact no (by omega)
    · rw [iI_nI, iI_lt (by omega) (by omega) (by omega) (by omega)] at c_8
      refine P_iload_n (q := 12) dX7_lay_11 rfl rfl ?_
      refine P_iconst (q := 13) (v := nI 1) dX7_lay_12 rfl (by decide +kernel) ?_
      refine P_icmp_lt (q := 16) (tgt := 21) dX7_lay_13 rfl (by decide) (fun c_13 => ?_) (fun c_13 => ?_)
      · rw [iI_nI, iI_lt (by omega) (by omega) (by omega) (by omega)] at c_13
        refine P_sipush (q := 24) (v := iI (-1002)) dX7_lay_21 rfl (by decide +kernel) ?_
        refine P_iret dX7_lay_24 rfl (rfl) ?_
        exact no (by omega)
      · rw [iI_nI, iI_lt (by omega) (by omega) (by omega) (by omega)] at c_13
        refine P_iload_n (q := 17) dX7_lay_16 rfl rfl ?_
        refine P_iconst (q := 18) (v := nI 3) dX7_lay_17 rfl (by decide +kernel) ?_
        refine P_icmp_le (q := 21) (tgt := 25) dX7_lay_18 rfl (by decide) (fun c_18 => ?_) (fun c_18 => ?_)
        · rw [iI_nI, iI_le (by omega) (by omega) (by omega) (by omega)] at c_18
          refine P_aload_n (q := 26) dX7_lay_25 rfl rfl ?_
          refine P_get (q := 29) dX7_lay_26 rfl fX7_28 (by decide) (h0) rfl ?_
          refine P_aload_n (q := 30) dX7_lay_29 rfl rfl ?_
          refine P_get (q := 33) dX7_lay_30 rfl fX7_12 (by decide) (h0) rfl ?_
          refine P_callv (q := 36) dX7_lay_33 rfl (t_record hS hH) kX7_46 rfl rfl (by decide) (hH.choose_spec.choose_spec.2.2.1) rfl ⟨by decide, by decide⟩ (Nat.le_of_ble_eq_true rfl) ⟨Nat.le_refl _, Nat.le_refl _⟩ ?_
          rintro v σ1 ⟨rfl, hH1, t1⟩
          have h01 := (t1 0 (by omega)).trans h0
          have hS1 : SW σ1 1 w.A := hS.congr (t1 1 (by omega)) (t1 2 (by omega))
          have hAW1 : AW σ1 w.A := hAW.congr (fun k a b => t1 k (by omega))
          obtain ⟨-, f1, e11, e12, ef1⟩ := id hS1
          obtain ⟨a, b, rfl, rfl, ha⟩ : ∃ a b : Nat, c = a ∧ r = b ∧ 1 ≤ a := ⟨c.toNat, r.toNat, by omega, by omega, by omega⟩
          rw [← iI_nI, ← iI_nI, bI_nat]
          refine P_aload_n (q := 37) dX7_lay_36 rfl rfl ?_
          refine P_get (q := 40) dX7_lay_37 rfl fX7_12 (by decide) (h01) rfl ?_
          refine P_iload_n (q := 41) dX7_lay_40 rfl rfl ?_
          refine P_iload_n (q := 42) dX7_lay_41 rfl rfl ?_
          refine P_iload_n (q := 43) dX7_lay_42 rfl rfl ?_
          refine P_cv0 (q := 46) dX7_lay_43 rfl kX7_49 (t_remake e11 e12 (c := a) (r := b) (g := g.toNat) (by omega) (by omega) (by cases g <;> decide)) rfl rfl (by decide) (e11) rfl ⟨by decide, by decide⟩ (Nat.le_of_ble_eq_true rfl) ⟨Nat.le_refl _, Nat.le_refl _⟩ ?_
          refine P_aload_n (q := 47) dX7_lay_46 rfl rfl ?_
          refine P_get (q := 50) dX7_lay_47 rfl fX7_21 (by decide) ((up_ne _ _ (by omega)).trans ((up_ne _ _ (by omega)).trans h01)) rfl ?_
          have hAW2 := hAW1.congr (τ := va_up (va_up σ1 1 (stO (w.A.lay a b g.toNat) 2)) 2 (pI .int 40 (flV 40 (nI 0) f1 40))) (fun k _ _ => (up_ne _ _ (by omega)).trans (up_ne _ _ (by omega)))
          obtain ⟨lc, gc, k1, k2, k3, h3⟩ := hAW2.at
          refine P_callv (q := 53) dX7_lay_50 rfl (t_forget hAW2 (B := w.A.lay a b g.toNat)) kX7_53 rfl rfl (by decide) (h3) rfl ⟨by decide, by decide⟩ (Nat.le_of_ble_eq_true rfl) ⟨Nat.le_refl _, Nat.le_refl _⟩ ?_
          rintro v σ2 ⟨rfl, t2, hAW3⟩
          have ss : same σ σ2 (fun i => 1 ≤ i ∧ i ≤ 109) := fun i hi => (t2 i (by omega)).trans ((up_ne _ _ (by omega)).trans ((up_ne _ _ (by omega)).trans (t1 i (by omega))))
          refine P_iload_n (q := 54) dX7_lay_53 rfl rfl ?_
          refine P_iload_n (q := 55) dX7_lay_54 rfl rfl ?_
          refine P_imul (q := 56) dX7_lay_55 rfl ?_
          refine P_iret dX7_lay_56 rfl (rfl) ?_
          refine ⟨?_, ?_, CW.ss ss⟩
          · unfold oLay; rw [if_pos (by omega), pk_mul]; rfl
          · unfold oLay; rw [if_pos (by omega)]
            exact hW.go ss ((SW_lay hA e12 ha (by omega) (by omega) (by omega) (by cases g <;> decide)).congr (t2 1 (by omega)) (t2 2 (by omega))) hAW3 (hH1.congr (fun k a b => (t2 k (by omega)).trans ((up_ne _ _ (by omega)).trans (up_ne _ _ (by omega)))))
        · rw [iI_nI, iI_le (by omega) (by omega) (by omega) (by omega)] at c_18
          refine P_sipush (q := 24) (v := iI (-1002)) dX7_lay_21 rfl (by decide +kernel) ?_
          refine P_iret dX7_lay_24 rfl (rfl) ?_
          exact no (by omega)
