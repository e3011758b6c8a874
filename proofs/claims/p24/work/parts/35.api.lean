variable {eN : Nat}
/-! THE CLASS AS A MACHINE: strip, history, snapshot, text -/
abbrev Cs : Type := St × List St × Option St × Nat × (Nat → Nat)
def Cs.A (w : Cs) : St := w.1
def Cs.H (w : Cs) : List St := w.2.1
def Cs.Sn (w : Cs) : Option St := w.2.2.1
def Cs.n (w : Cs) : Nat := w.2.2.2.1
def Cs.ch (w : Cs) : Nat → Nat := w.2.2.2.2
/-- the state is recorded, the strip is another one -/
def Cs.to (w : Cs) (B : St) : Cs := (B, rec4 w.A w.H, w.Sn, w.n, w.ch)
def ssO (k : Bool) : PC := pO 7 [.ref 1, .ref 3, .ref 100, .ref 110, .int (bI k), .ref 112]
def CW (σ : Sto) (w : Cs) : Prop := σ 0 = ssO w.Sn.isSome ∧ SW σ 1 w.A ∧ AW σ w.A ∧ HW σ w.H ∧ (∃ B, SW σ 110 B ∧ ∀ C, w.Sn = some C → B = C) ∧ TW σ w.n w.ch
theorem CW.go {σ τ : Sto} {w : Cs} (hW : CW σ w) (s : same σ τ (fun i => 1 ≤ i ∧ i ≤ 109)) {B : St} {H : List St} (hS : SW τ 1 B) (hA : AW τ B) (hH : HW τ H) : CW τ (B, H, w.Sn, w.n, w.ch) := by
  obtain ⟨h0, -, -, -, ⟨C, h4, h5⟩, h6⟩ := hW
  exact ⟨(s 0 (by omega)).trans h0, hS, hA, hH, ⟨C, h4.congr (s 110 (by omega)) (s 111 (by omega)), h5⟩, h6.congr (s 112 (by omega)) (s 113 (by omega))⟩
theorem CW.all {σ τ : Sto} {w : Cs} (hW : CW σ w) (s : same σ τ (fun i => 3 ≤ i ∧ i ≤ 99)) (hA : AW τ w.A) : CW τ w :=
  hW.go (s.mono (fun i h => by omega)) (hW.2.1.congr (s 1 (by omega)) (s 2 (by omega))) hA (hW.2.2.2.1.congr (fun k a b => s k (by omega)))
/-- an answer and a state -/
def OK (σ : Sto) (o : Int32 × Cs) : Option Value → Sto → Prop := fun v σ' => v = some (.int o.1) ∧ CW σ' o.2 ∧ same σ σ' (fun i => i ≤ 113)
theorem OK.stay {σ : Sto} {w : Cs} {x : Int32} (hW : CW σ w) : OK σ (x, w) (some (.int x)) σ := ⟨rfl, hW, same.rf⟩
theorem CW.ss {σ τ : Sto} (s : same σ τ (fun i => 1 ≤ i ∧ i ≤ 109)) : same σ τ (fun i => i ≤ 113) := s.mono (fun i h => by omega)
def St.inB (A : St) (r c : Int) : Bool := decide (0 ≤ r ∧ r < A.R ∧ 0 ≤ c ∧ c < A.C)
theorem hasB_i {A : St} (hA : A.ok) {r c : Int} (r1 : -2147483648 ≤ r) (r2 : r < 2147483648) (c1 : -2147483648 ≤ c) (c2 : c < 2147483648) : A.hasB (iI r) (iI c) = A.inB r c := by
  have hC := hA.1
  have hR := hA.2.1
  unfold St.hasB St.inB
  apply decide_eq_decide.mpr
  rw [show (0 : Int32) = iI 0 from rfl, iI_nI, iI_nI, iI_lt (by omega) (by omega) (by omega) (by omega), iI_lt (by omega) (by omega) (by omega) (by omega), iI_le (by omega) (by omega) (by omega) (by omega), iI_le (by omega) (by omega) (by omega) (by omega)]
  omega
theorem inB_n {A : St} {r c : Int} (h : A.inB r c = true) : ∃ a b : Nat, r = a ∧ c = b ∧ a < A.R ∧ b < A.C := by
  have h := of_decide_eq_true h
  exact ⟨r.toNat, c.toNat, by omega, by omega, by omega, by omega⟩
theorem lay_ok {A : St} (hA : A.ok) {c r g : Nat} (c1 : 1 ≤ c) (c2 : c ≤ 10) (r1 : 1 ≤ r) (r2 : r ≤ 3) (hg : g ≤ 1) : (A.lay c r g).ok := by
  refine ⟨⟨c1, c2⟩, ⟨r1, r2⟩, hg, hA.2.2.2.1, hA.2.2.2.2.1, fun k => ?_, fun k hk => if_neg (show ¬ k < c from by have : c ≤ k := hk; omega), fun _ _ => by show (-3 : Int) ≤ 0 ∧ (0 : Int) ≤ 3; omega⟩
  show (if k < c then 2 ^ r - 1 else 0) < 2 ^ r
  have := Nat.two_pow_pos r
  split <;> omega
def oLay (w : Cs) (c r : Int) (g : Bool) : Int32 × Cs := if 1 ≤ c ∧ c ≤ 10 ∧ 1 ≤ r ∧ r ≤ 3 then (nI (c.toNat * r.toNat), w.to (w.A.lay c.toNat r.toNat g.toNat)) else (iI (-1002), w)
theorem bI_nat (g : Bool) : bI g = nI g.toNat := by cases g <;> rfl
theorem SW_lay {σ : Sto} {A : St} {f : Nat → Int32} (hA : A.ok) (h2 : σ 2 = pI .int 40 f) {c r g : Nat} (c1 : 1 ≤ c) (c2 : c ≤ 10) (r1 : 1 ≤ r) (r2 : r ≤ 3) (hg : g ≤ 1) : SW (va_up (va_up σ 1 (stO (A.lay c r g) 2)) 2 (pI .int 40 (flV 40 (nI 0) f 40))) 1 (A.lay c r g) :=
  ⟨lay_ok hA c1 c2 r1 r2 hg, _, (up_ne _ _ (by omega)).trans (up_at _ _ _), up_at _ _ _, fun a b ha hb => by
    have h1 : a < c := ha
    have h2 : b < r := hb
    exact flV_all (by omega)⟩
set_option maxRecDepth 100000 in
set_option maxHeartbeats 4000000 in
theorem a_lay {σ : Sto} {w : Cs} (hW : CW σ w) {c : Int} (c1 : -2147483648 ≤ c) (c2 : c < 2147483648) {r : Int} (r1 : -2147483648 ≤ r) (r2 : r < 2147483648) (g : Bool) : CP mX7_lay 0 0 [.ref 0, .int (iI c), .int (iI r), .int (bI g)] (eN + 114) σ (OK σ (oLay w c r g)) := by
  obtain ⟨h0, hS, hAW, hH, hSn, hT⟩ := id hW
  have hA := hS.1
  have no : ¬ (1 ≤ c ∧ c ≤ 10 ∧ 1 ≤ r ∧ r ≤ 3) → OK σ (oLay w c r g) (some (.int (iI (-1002)))) σ := fun h => by
    unfold oLay
    rw [if_neg h]
    exact OK.stay hW
  refine CP_of (by decide +kernel) (Nat.le_of_ble_eq_true rfl) ?_
  change PW _ _ _ _ 0 [_, _, _, _] [] _ _ _ _
  refine P_iload_n (q := 1) dX7_lay_0 rfl rfl ?_
  refine P_iconst (q := 2) (v := nI 1) dX7_lay_1 rfl (by decide +kernel) ?_
  refine P_icmp_lt (q := 5) (tgt := 21) dX7_lay_2 rfl (by first | decide | exact lt_c (by decide)) (fun c_2 => ?_) (fun c_2 => ?_)
  · rw [iI_nI, iI_lt (by omega) (by omega) (by omega) (by omega)] at c_2
    refine P_sipush (q := 24) (v := iI (-1002)) dX7_lay_21 rfl (by decide +kernel) ?_
    refine P_iret dX7_lay_24 rfl (rfl) ?_
    exact no (by omega)
  · rw [iI_nI, iI_lt (by omega) (by omega) (by omega) (by omega)] at c_2
    refine P_iload_n (q := 6) dX7_lay_5 rfl rfl ?_
    refine P_bipush (q := 8) (v := nI 10) dX7_lay_6 rfl (by decide +kernel) ?_
    refine P_icmp_gt (q := 11) (tgt := 21) dX7_lay_8 rfl (by first | decide | exact lt_c (by decide)) (fun c_8 => ?_) (fun c_8 => ?_)
    · rw [iI_nI, iI_lt (by omega) (by omega) (by omega) (by omega)] at c_8
      refine P_sipush (q := 24) (v := iI (-1002)) dX7_lay_21 rfl (by decide +kernel) ?_
      refine P_iret dX7_lay_24 rfl (rfl) ?_
      exact no (by omega)
    · rw [iI_nI, iI_lt (by omega) (by omega) (by omega) (by omega)] at c_8
      refine P_iload_n (q := 12) dX7_lay_11 rfl rfl ?_
      refine P_iconst (q := 13) (v := nI 1) dX7_lay_12 rfl (by decide +kernel) ?_
      refine P_icmp_lt (q := 16) (tgt := 21) dX7_lay_13 rfl (by first | decide | exact lt_c (by decide)) (fun c_13 => ?_) (fun c_13 => ?_)
      · rw [iI_nI, iI_lt (by omega) (by omega) (by omega) (by omega)] at c_13
        refine P_sipush (q := 24) (v := iI (-1002)) dX7_lay_21 rfl (by decide +kernel) ?_
        refine P_iret dX7_lay_24 rfl (rfl) ?_
        exact no (by omega)
      · rw [iI_nI, iI_lt (by omega) (by omega) (by omega) (by omega)] at c_13
        refine P_iload_n (q := 17) dX7_lay_16 rfl rfl ?_
        refine P_iconst (q := 18) (v := nI 3) dX7_lay_17 rfl (by decide +kernel) ?_
        refine P_icmp_le (q := 21) (tgt := 25) dX7_lay_18 rfl (by first | decide | exact lt_c (by decide)) (fun c_18 => ?_) (fun c_18 => ?_)
        · rw [iI_nI, iI_le (by omega) (by omega) (by omega) (by omega)] at c_18
          refine P_aload_n (q := 26) dX7_lay_25 rfl rfl ?_
          refine P_get (q := 29) dX7_lay_26 rfl fX7_26 (by first | decide | exact lt_c (by decide)) (h0) rfl ?_
          refine P_aload_n (q := 30) dX7_lay_29 rfl rfl ?_
          refine P_get (q := 33) dX7_lay_30 rfl fX7_12 (by first | decide | exact lt_c (by decide)) (h0) rfl ?_
          refine P_callv (q := 36) dX7_lay_33 rfl (t_record hS hH) kX7_44 rfl rfl (by first | decide | exact lt_c (by decide)) (hH.choose_spec.choose_spec.2.2.1) rfl ⟨by decide, by decide⟩ (Nat.le_of_ble_eq_true rfl) ⟨Nat.le_refl _, Nat.le_refl _⟩ ?_
          rintro v σ1 ⟨rfl, hH1, t1⟩
          have h01 := (t1 0 (by omega)).trans h0
          have hS1 : SW σ1 1 w.A := hS.congr (t1 1 (by omega)) (t1 2 (by omega))
          have hAW1 : AW σ1 w.A := hAW.congr (fun k a b => t1 k (by omega))
          obtain ⟨-, f1, e11, e12, ef1⟩ := id hS1
          obtain ⟨a, b, rfl, rfl, ha⟩ : ∃ a b : Nat, c = a ∧ r = b ∧ 1 ≤ a := ⟨c.toNat, r.toNat, by omega, by omega, by omega⟩
          rw [← iI_nI, ← iI_nI, bI_nat]
          refine P_aload_n (q := 37) dX7_lay_36 rfl rfl ?_
          refine P_get (q := 40) dX7_lay_37 rfl fX7_12 (by first | decide | exact lt_c (by decide)) (h01) rfl ?_
          refine P_iload_n (q := 41) dX7_lay_40 rfl rfl ?_
          refine P_iload_n (q := 42) dX7_lay_41 rfl rfl ?_
          refine P_iload_n (q := 43) dX7_lay_42 rfl rfl ?_
          refine P_cv0 (q := 46) dX7_lay_43 rfl kX7_48 (t_remake e11 e12 (c := a) (r := b) (g := g.toNat) (by omega) (by omega) (by cases g <;> decide)) rfl rfl (by first | decide | exact lt_c (by decide)) (e11) rfl ⟨by decide, by decide⟩ (Nat.le_of_ble_eq_true rfl) ⟨Nat.le_refl _, Nat.le_refl _⟩ ?_
          refine P_aload_n (q := 47) dX7_lay_46 rfl rfl ?_
          refine P_get (q := 50) dX7_lay_47 rfl fX7_19 (by first | decide | exact lt_c (by decide)) ((up_ne _ _ (by omega)).trans ((up_ne _ _ (by omega)).trans h01)) rfl ?_
          have hAW2 := hAW1.congr (τ := va_up (va_up σ1 1 (stO (w.A.lay a b g.toNat) 2)) 2 (pI .int 40 (flV 40 (nI 0) f1 40))) (fun k _ _ => (up_ne _ _ (by omega)).trans (up_ne _ _ (by omega)))
          obtain ⟨lc, gc, k1, k2, k3, h3⟩ := hAW2.at
          refine P_callv (q := 53) dX7_lay_50 rfl (t_forget hAW2 (B := w.A.lay a b g.toNat)) kX7_52 rfl rfl (by first | decide | exact lt_c (by decide)) (h3) rfl ⟨by decide, by decide⟩ (Nat.le_of_ble_eq_true rfl) ⟨Nat.le_refl _, Nat.le_refl _⟩ ?_
          rintro v σ2 ⟨rfl, t2, hAW3⟩
          have ss : same σ σ2 (fun i => 1 ≤ i ∧ i ≤ 109) := fun i hi => (t2 i (by omega)).trans ((up_ne _ _ (by omega)).trans ((up_ne _ _ (by omega)).trans (t1 i (by omega))))
          refine P_iload_n (q := 54) dX7_lay_53 rfl rfl ?_
          refine P_iload_n (q := 55) dX7_lay_54 rfl rfl ?_
          refine P_imul (q := 56) dX7_lay_55 rfl ?_
          refine P_iret dX7_lay_56 rfl (rfl) ?_
          refine ⟨?_, ?_, CW.ss ss⟩
          · unfold oLay; rw [if_pos (by omega), pk_mul]; rfl
          · unfold oLay; rw [if_pos (by omega)]
            exact hW.go ss ((SW_lay hA e12 ha (by omega) (by omega) (by omega) (by cases g <;> decide)).congr (t2 1 (by omega)) (t2 2 (by omega))) hAW3 (hH1.congr (fun k a b => (t2 k (by omega)).trans ((up_ne _ _ (by omega)).trans (up_ne _ _ (by omega)))))
        · rw [iI_nI, iI_le (by omega) (by omega) (by omega) (by omega)] at c_18
          refine P_sipush (q := 24) (v := iI (-1002)) dX7_lay_21 rfl (by decide +kernel) ?_
          refine P_iret dX7_lay_24 rfl (rfl) ?_
          exact no (by omega)
/-! other rings, pulls, fields -/
def St.rg (A : St) (g : Nat) : St := (A.C, A.R, g, A.al, A.ac, A.sp, A.fd, A.tu)
def St.pl (A : St) (a : Bool) (z : Int) : St := (A.C, A.R, A.g, if a then A.al else z, if a then z else A.ac, A.sp, A.fd, A.tu)
def St.pv (A : St) (a : Bool) : Int := if a then A.ac else A.al
def St.pf (A : St) (c r : Nat) (z : Int) : St := (A.C, A.R, A.g, A.al, A.ac, A.sp, fun i j => if i = c ∧ j = r then z else A.fd i j, A.tu)
theorem rg_ok {A : St} (hA : A.ok) {g : Nat} (hg : g ≤ 1) : (A.rg g).ok := ⟨hA.1, hA.2.1, hg, hA.2.2.2⟩
theorem pl_ok {A : St} (hA : A.ok) {a : Bool} {z : Int} (h1 : -2 ≤ z) (h2 : z ≤ 2) : (A.pl a z).ok := by
  cases a
  · exact ⟨hA.1, hA.2.1, hA.2.2.1, ⟨h1, h2⟩, hA.2.2.2.2⟩
  · exact ⟨hA.1, hA.2.1, hA.2.2.1, hA.2.2.2.1, ⟨h1, h2⟩, hA.2.2.2.2.2⟩
theorem pf_ok {A : St} (hA : A.ok) {c r : Nat} {z : Int} (h1 : -3 ≤ z) (h2 : z ≤ 3) : (A.pf c r z).ok := by
  obtain ⟨a1, a2, a3, a4, a5, a6, a7, a8⟩ := hA
  refine ⟨a1, a2, a3, a4, a5, a6, a7, fun i j => ?_⟩
  show -3 ≤ (if i = c ∧ j = r then z else A.fd i j) ∧ (if i = c ∧ j = r then z else A.fd i j) ≤ 3
  by_cases h : i = c ∧ j = r
  · rw [if_pos h]; exact ⟨h1, h2⟩
  · rw [if_neg h]; exact a8 i j
theorem SW.re {σ : Sto} {A B : St} (hS : SW σ 1 A) (hB : B.ok) (e : B.fd = A.fd) (eC : B.C = A.C) (eR : B.R = A.R) : SW (va_up σ 1 (stO B 2)) 1 B := by
  obtain ⟨hA, f, h1, h2, hf⟩ := hS
  exact ⟨hB, f, up_at _ _ _, (up_ne _ _ (by omega)).trans h2, fun c r hc hr => by rw [e]; exact hf c r (by omega) (by omega)⟩
theorem SW_pf {σ : Sto} {A : St} {f : Nat → Int32} (hA : A.ok) (h1 : σ 1 = stO A 2) (hf : stF A f) {c r : Nat} {z : Int} (z1 : -3 ≤ z) (z2 : z ≤ 3) (hr : r < A.R) : SW (va_up σ 2 (pI .int 40 (upd f (4 * c + r) (iI z)))) 1 (A.pf c r z) := by
  refine ⟨pf_ok hA z1 z2, _, (up_ne _ _ (by omega)).trans h1, up_at _ _ _, fun i j hi hj => ?_⟩
  have hj' : j < A.R := hj
  have hR := hA.2.1.2
  show upd f (4 * c + r) (iI z) (4 * i + j) = iI (if i = c ∧ j = r then z else A.fd i j)
  unfold upd
  by_cases e : i = c ∧ j = r
  · rw [if_pos (by omega), if_pos e]
  · rw [if_neg (by omega), if_neg e]; exact hf i j hi hj
def oClose (w : Cs) (g : Bool) : Int32 × Cs := if g.toNat = w.A.g then (iI (-1005), w) else (iI (w.A.rg g.toNat).E, w.to (w.A.rg g.toNat))
def oPull (w : Cs) (a : Bool) (z : Int) : Int32 × Cs := if -2 ≤ z ∧ z ≤ 2 then (if z = w.A.pv a then (iI (-1005), w) else (iI (w.A.pv a), w.to (w.A.pl a z))) else (iI (-1002), w)
def oField (w : Cs) (r c z : Int) : Int32 × Cs := if w.A.inB r c = true then (if -3 ≤ z ∧ z ≤ 3 then (if z = w.A.fd c.toNat r.toNat then (iI (-1005), w) else (iI (w.A.fd c.toNat r.toNat), w.to (w.A.pf c.toNat r.toNat z))) else (iI (-1002), w)) else (iI (-1001), w)
theorem nar_n (g : Bool) : narrow .boolean (.int (nI g.toNat)) = .int (nI g.toNat) := by cases g <;> rfl
theorem fit_n (g : Bool) : fits .boolean (.int (nI g.toNat)) = true := by cases g <;> rfl
set_option maxRecDepth 100000 in
set_option maxHeartbeats 4000000 in
theorem a_close {σ : Sto} {w : Cs} (hW : CW σ w) (g : Bool) : CP mX7_close 0 0 [.ref 0, .int (bI g)] (eN + 114) σ (OK σ (oClose w g)) := by
  obtain ⟨h0, hS, hAW, hH, hSn, hT⟩ := id hW
  have hA := hS.1
  have hg : g.toNat ≤ 1 := by cases g <;> decide
  have hg2 := hA.2.2.1
  have hB := rg_ok hA hg
  obtain ⟨-, f0, e01, e02, -⟩ := id hS
  rw [bI_nat]
  refine CP_of (by decide +kernel) (Nat.le_of_ble_eq_true rfl) ?_
  change PW _ _ _ _ 0 [_, _] [] _ _ _ _
  refine P_iload_n (q := 1) dX7_close_0 rfl rfl ?_
  refine P_aload_n (q := 2) dX7_close_1 rfl rfl ?_
  refine P_get (q := 5) dX7_close_2 rfl fX7_12 (by first | decide | exact lt_c (by decide)) (h0) rfl ?_
  refine P_get (q := 8) dX7_close_5 rfl fX7_66 (by first | decide | exact lt_c (by decide)) (e01) rfl ?_
  refine P_icmp_ne (q := 11) (tgt := 15) dX7_close_8 rfl (by first | decide | exact lt_c (by decide)) (fun c_8 => ?_) (fun c_8 => ?_)
  · rw [nI_eq (by omega) (by omega)] at c_8
    refine P_aload_n (q := 16) dX7_close_15 rfl rfl ?_
    refine P_get (q := 19) dX7_close_16 rfl fX7_26 (by first | decide | exact lt_c (by decide)) (h0) rfl ?_
    refine P_aload_n (q := 20) dX7_close_19 rfl rfl ?_
    refine P_get (q := 23) dX7_close_20 rfl fX7_12 (by first | decide | exact lt_c (by decide)) (h0) rfl ?_
    refine P_callv (q := 26) dX7_close_23 rfl (t_record hS hH) kX7_44 rfl rfl (by first | decide | exact lt_c (by decide)) (hH.choose_spec.choose_spec.2.2.1) rfl ⟨by decide, by decide⟩ (Nat.le_of_ble_eq_true rfl) ⟨Nat.le_refl _, Nat.le_refl _⟩ ?_
    rintro v σ1 ⟨rfl, hH1, t1⟩
    have h01 := (t1 0 (by omega)).trans h0
    have hS1 : SW σ1 1 w.A := hS.congr (t1 1 (by omega)) (t1 2 (by omega))
    have hAW1 : AW σ1 w.A := hAW.congr (fun k a b => t1 k (by omega))
    obtain ⟨-, f1, e11, e12, ef1⟩ := id hS1
    refine P_aload_n (q := 27) dX7_close_26 rfl rfl ?_
    refine P_get (q := 30) dX7_close_27 rfl fX7_12 (by first | decide | exact lt_c (by decide)) (h01) rfl ?_
    refine P_iload_n (q := 31) dX7_close_30 rfl rfl ?_
    refine P_put (q := 34) (fs' := [_, _, _, _, _, _, _, _, _]) (σ' := va_up σ1 1 (stO (w.A.rg g.toNat) 2)) dX7_close_31 rfl gX7_66 (by first | decide | exact lt_c (by decide)) (e11) (fun _ => nar_n _) (fun _ => fit_n _) (Nat.le_of_ble_eq_true rfl) rfl (rfl) ?_
    refine P_aload_n (q := 35) dX7_close_34 rfl rfl ?_
    refine P_get (q := 38) dX7_close_35 rfl fX7_19 (by first | decide | exact lt_c (by decide)) ((up_ne _ _ (by omega)).trans h01) rfl ?_
    have hS2 : SW (va_up σ1 1 (stO (w.A.rg g.toNat) 2)) 1 (w.A.rg g.toNat) := hS1.re hB rfl rfl rfl
    have hAW2 : AW (va_up σ1 1 (stO (w.A.rg g.toNat) 2)) w.A := hAW1.congr (fun k a b => up_ne _ _ (by omega))
    obtain ⟨lc, gc, k1, k2, k3, h3⟩ := (hAW2).at
    refine P_callv (q := 41) dX7_close_38 rfl ((t_forget (hAW2) (B := w.A.rg g.toNat))) kX7_52 rfl rfl (by first | decide | exact lt_c (by decide)) (h3) rfl ⟨by decide, by decide⟩ (Nat.le_of_ble_eq_true rfl) ⟨Nat.le_refl _, Nat.le_refl _⟩ ?_
    rintro v σ9 ⟨rfl, t9, hAW9⟩
    have hS9 := hS2.congr (τ := σ9) (t9 1 (by omega)) (t9 2 (by omega))
    obtain ⟨-, f9, e91, e92, ef9⟩ := id hS9
    have ss : same σ σ9 (fun i => 1 ≤ i ∧ i ≤ 109) := fun i hi => (t9 i (by omega)).trans ((up_ne _ _ (by omega)).trans (t1 i (by omega)))
    refine P_aload_n (q := 42) dX7_close_41 rfl rfl ?_
    refine P_get (q := 45) dX7_close_42 rfl fX7_12 (by first | decide | exact lt_c (by decide)) ((ss 0 (by omega)).trans h0) rfl ?_
    refine P_cv1 (q := 48) dX7_close_45 rfl kX7_74 (t_energy hB e91 e92 ef9) rfl rfl (by first | decide | exact lt_c (by decide)) (e91) rfl ⟨by decide, by decide⟩ (Nat.le_of_ble_eq_true rfl) ⟨Nat.le_refl _, Nat.le_refl _⟩ ?_
    refine P_iret dX7_close_48 rfl (rfl) ?_
    unfold oClose; rw [if_neg c_8]; exact ⟨rfl, hW.go ss hS9 hAW9 (hH1.congr (fun k a b => (t9 k (by omega)).trans (up_ne _ _ (by omega)))), CW.ss ss⟩
  · rw [nI_eq (by omega) (by omega)] at c_8
    refine P_sipush (q := 14) (v := iI (-1005)) dX7_close_11 rfl (by decide +kernel) ?_
    refine P_iret dX7_close_14 rfl (rfl) ?_
    unfold oClose; rw [if_pos c_8]; exact OK.stay hW
set_option maxRecDepth 100000 in
set_option maxHeartbeats 4000000 in
theorem a_pull_true {σ : Sto} {w : Cs} (hW : CW σ w) {z : Int} (z1 : -2147483648 ≤ z) (z2 : z < 2147483648) : CP mX7_setPull 0 0 [.ref 0, .int (bI true), .int (iI z)] (eN + 114) σ (OK σ (oPull w true z)) := by
  obtain ⟨h0, hS, hAW, hH, hSn, hT⟩ := id hW
  have hA := hS.1
  have no : ¬ (-2 ≤ z ∧ z ≤ 2) → OK σ (oPull w true z) (some (.int (iI (-1002)))) σ := fun h => by
    unfold oPull
    rw [if_neg h]
    exact OK.stay hW
  have hp1 := hA.2.2.2.1
  have hp2 := hA.2.2.2.2.1
  obtain ⟨-, f0, e01, e02, -⟩ := id hS
  have pvE : w.A.pv true = w.A.ac := rfl
  refine CP_of (by decide +kernel) (Nat.le_of_ble_eq_true rfl) ?_
  change PW _ _ _ _ 0 [_, _, _, _] [] _ _ _ _
  refine P_iload_n (q := 1) dX7_setPull_0 rfl rfl ?_
  refine P_bipush (q := 3) (v := (-2)) dX7_setPull_1 rfl (by decide +kernel) ?_
  refine P_icmp_lt (q := 6) (tgt := 11) dX7_setPull_3 rfl (by first | decide | exact lt_c (by decide)) (fun c_3 => ?_) (fun c_3 => ?_)
  · rw [show (-2 : Int32) = iI (-2) from rfl, iI_lt (by omega) (by omega) (by omega) (by omega)] at c_3
    refine P_sipush (q := 14) (v := iI (-1002)) dX7_setPull_11 rfl (by decide +kernel) ?_
    refine P_iret dX7_setPull_14 rfl (rfl) ?_
    first | exact no (by omega) | (unfold oPull; rw [if_pos (by omega), if_pos (by rw [pvE]; exact c_39)]; exact OK.stay hW)
  · rw [show (-2 : Int32) = iI (-2) from rfl, iI_lt (by omega) (by omega) (by omega) (by omega)] at c_3
    refine P_iload_n (q := 7) dX7_setPull_6 rfl rfl ?_
    refine P_iconst (q := 8) (v := nI 2) dX7_setPull_7 rfl (by decide +kernel) ?_
    refine P_icmp_le (q := 11) (tgt := 15) dX7_setPull_8 rfl (by first | decide | exact lt_c (by decide)) (fun c_8 => ?_) (fun c_8 => ?_)
    · rw [iI_nI, iI_le (by omega) (by omega) (by omega) (by omega)] at c_8
      refine P_iload_n (q := 16) dX7_setPull_15 rfl rfl ?_
      refine P_if_eq (q := 19) (tgt := 29) dX7_setPull_16 rfl (by first | decide | exact lt_c (by decide)) (fun c_16 => ?_) (fun c_16 => ?_)
      · exact absurd c_16 (by first | decide | exact lt_c (by decide))
      · refine P_aload_n (q := 20) dX7_setPull_19 rfl rfl ?_
        refine P_get (q := 23) dX7_setPull_20 rfl fX7_12 (by first | decide | exact lt_c (by decide)) (h0) rfl ?_
        refine P_get (q := 26) dX7_setPull_23 rfl fX7_77 (by first | decide | exact lt_c (by decide)) (e01) rfl ?_
        refine P_goto (tgt := 36) dX7_setPull_26 (by first | decide | exact lt_c (by decide)) ?_
        refine P_istore_n (q := 37) (L' := [_, _, _, _]) dX7_setPull_36 rfl (by first | decide | exact lt_c (by decide)) rfl ?_
        refine P_iload_n (q := 38) dX7_setPull_37 rfl rfl ?_
        refine P_iload_n (q := 39) dX7_setPull_38 rfl rfl ?_
        refine P_icmp_ne (q := 42) (tgt := 46) dX7_setPull_39 rfl (by first | decide | exact lt_c (by decide)) (fun c_39 => ?_) (fun c_39 => ?_)
        · rw [iI_inj (by omega) (by omega) (by omega) (by omega)] at c_39
          refine P_aload_n (q := 47) dX7_setPull_46 rfl rfl ?_
          refine P_get (q := 50) dX7_setPull_47 rfl fX7_26 (by first | decide | exact lt_c (by decide)) (h0) rfl ?_
          refine P_aload_n (q := 51) dX7_setPull_50 rfl rfl ?_
          refine P_get (q := 54) dX7_setPull_51 rfl fX7_12 (by first | decide | exact lt_c (by decide)) (h0) rfl ?_
          have hB := pl_ok hA (a := true) (z := z) (by omega) (by omega)
          refine P_callv (q := 57) dX7_setPull_54 rfl (t_record hS hH) kX7_44 rfl rfl (by first | decide | exact lt_c (by decide)) (hH.choose_spec.choose_spec.2.2.1) rfl ⟨by decide, by decide⟩ (Nat.le_of_ble_eq_true rfl) ⟨Nat.le_refl _, Nat.le_refl _⟩ ?_
          rintro v σ1 ⟨rfl, hH1, t1⟩
          have h01 := (t1 0 (by omega)).trans h0
          have hS1 : SW σ1 1 w.A := hS.congr (t1 1 (by omega)) (t1 2 (by omega))
          have hAW1 : AW σ1 w.A := hAW.congr (fun k a b => t1 k (by omega))
          obtain ⟨-, f1, e11, e12, ef1⟩ := id hS1
          refine P_iload_n (q := 58) dX7_setPull_57 rfl rfl ?_
          refine P_if_eq (q := 61) (tgt := 72) dX7_setPull_58 rfl (by first | decide | exact lt_c (by decide)) (fun c_58 => ?_) (fun c_58 => ?_)
          · exact absurd c_58 (by first | decide | exact lt_c (by decide))
          · refine P_aload_n (q := 62) dX7_setPull_61 rfl rfl ?_
            refine P_get (q := 65) dX7_setPull_62 rfl fX7_12 (by first | decide | exact lt_c (by decide)) (h01) rfl ?_
            refine P_iload_n (q := 66) dX7_setPull_65 rfl rfl ?_
            refine P_put (q := 69) (fs' := [_, _, _, _, _, _, _, _, _]) (σ' := va_up σ1 1 (stO (w.A.pl true z) 2)) dX7_setPull_66 rfl gX7_77 (by first | decide | exact lt_c (by decide)) (e11) (fun _ => rfl) (fun _ => rfl) (Nat.le_of_ble_eq_true rfl) rfl (rfl) ?_
            refine P_goto (tgt := 80) dX7_setPull_69 (by first | decide | exact lt_c (by decide)) ?_
            refine P_aload_n (q := 81) dX7_setPull_80 rfl rfl ?_
            refine P_get (q := 84) dX7_setPull_81 rfl fX7_19 (by first | decide | exact lt_c (by decide)) ((up_ne _ _ (by omega)).trans h01) rfl ?_
            have hS2 : SW (va_up σ1 1 (stO (w.A.pl true z) 2)) 1 (w.A.pl true z) := hS1.re hB rfl rfl rfl
            have hAW2 : AW (va_up σ1 1 (stO (w.A.pl true z) 2)) w.A := hAW1.congr (fun k a b => up_ne _ _ (by omega))
            obtain ⟨lc, gc, k1, k2, k3, h3⟩ := (hAW2).at
            refine P_callv (q := 87) dX7_setPull_84 rfl ((t_forget (hAW2) (B := (w.A.pl true z)))) kX7_52 rfl rfl (by first | decide | exact lt_c (by decide)) (h3) rfl ⟨by decide, by decide⟩ (Nat.le_of_ble_eq_true rfl) ⟨Nat.le_refl _, Nat.le_refl _⟩ ?_
            rintro v σ9 ⟨rfl, t9, hAW9⟩
            have hS9 := hS2.congr (τ := σ9) (t9 1 (by omega)) (t9 2 (by omega))
            have ss : same σ σ9 (fun i => 1 ≤ i ∧ i ≤ 109) := fun i hi => (t9 i (by omega)).trans ((up_ne _ _ (by omega)).trans (t1 i (by omega)))
            refine P_iload_n (q := 88) dX7_setPull_87 rfl rfl ?_
            refine P_iret dX7_setPull_88 rfl (rfl) ?_
            unfold oPull; rw [if_pos (by omega), if_neg (by rw [pvE]; exact c_39)]; exact ⟨rfl, hW.go ss hS9 hAW9 (hH1.congr (fun k a b => (t9 k (by omega)).trans (up_ne _ _ (by omega)))), CW.ss ss⟩
        · rw [iI_inj (by omega) (by omega) (by omega) (by omega)] at c_39
          refine P_sipush (q := 45) (v := iI (-1005)) dX7_setPull_42 rfl (by decide +kernel) ?_
          refine P_iret dX7_setPull_45 rfl (rfl) ?_
          first | exact no (by omega) | (unfold oPull; rw [if_pos (by omega), if_pos (by rw [pvE]; exact c_39)]; exact OK.stay hW)
    · rw [iI_nI, iI_le (by omega) (by omega) (by omega) (by omega)] at c_8
      refine P_sipush (q := 14) (v := iI (-1002)) dX7_setPull_11 rfl (by decide +kernel) ?_
      refine P_iret dX7_setPull_14 rfl (rfl) ?_
      first | exact no (by omega) | (unfold oPull; rw [if_pos (by omega), if_pos (by rw [pvE]; exact c_39)]; exact OK.stay hW)
set_option maxRecDepth 100000 in
set_option maxHeartbeats 4000000 in
theorem a_pull_false {σ : Sto} {w : Cs} (hW : CW σ w) {z : Int} (z1 : -2147483648 ≤ z) (z2 : z < 2147483648) : CP mX7_setPull 0 0 [.ref 0, .int (bI false), .int (iI z)] (eN + 114) σ (OK σ (oPull w false z)) := by
  obtain ⟨h0, hS, hAW, hH, hSn, hT⟩ := id hW
  have hA := hS.1
  have no : ¬ (-2 ≤ z ∧ z ≤ 2) → OK σ (oPull w false z) (some (.int (iI (-1002)))) σ := fun h => by
    unfold oPull
    rw [if_neg h]
    exact OK.stay hW
  have hp1 := hA.2.2.2.1
  have hp2 := hA.2.2.2.2.1
  obtain ⟨-, f0, e01, e02, -⟩ := id hS
  have pvE : w.A.pv false = w.A.al := rfl
  refine CP_of (by decide +kernel) (Nat.le_of_ble_eq_true rfl) ?_
  change PW _ _ _ _ 0 [_, _, _, _] [] _ _ _ _
  refine P_iload_n (q := 1) dX7_setPull_0 rfl rfl ?_
  refine P_bipush (q := 3) (v := (-2)) dX7_setPull_1 rfl (by decide +kernel) ?_
  refine P_icmp_lt (q := 6) (tgt := 11) dX7_setPull_3 rfl (by first | decide | exact lt_c (by decide)) (fun c_3 => ?_) (fun c_3 => ?_)
  · rw [show (-2 : Int32) = iI (-2) from rfl, iI_lt (by omega) (by omega) (by omega) (by omega)] at c_3
    refine P_sipush (q := 14) (v := iI (-1002)) dX7_setPull_11 rfl (by decide +kernel) ?_
    refine P_iret dX7_setPull_14 rfl (rfl) ?_
    first | exact no (by omega) | (unfold oPull; rw [if_pos (by omega), if_pos (by rw [pvE]; exact c_39)]; exact OK.stay hW)
  · rw [show (-2 : Int32) = iI (-2) from rfl, iI_lt (by omega) (by omega) (by omega) (by omega)] at c_3
    refine P_iload_n (q := 7) dX7_setPull_6 rfl rfl ?_
    refine P_iconst (q := 8) (v := nI 2) dX7_setPull_7 rfl (by decide +kernel) ?_
    refine P_icmp_le (q := 11) (tgt := 15) dX7_setPull_8 rfl (by first | decide | exact lt_c (by decide)) (fun c_8 => ?_) (fun c_8 => ?_)
    · rw [iI_nI, iI_le (by omega) (by omega) (by omega) (by omega)] at c_8
      refine P_iload_n (q := 16) dX7_setPull_15 rfl rfl ?_
      refine P_if_eq (q := 19) (tgt := 29) dX7_setPull_16 rfl (by first | decide | exact lt_c (by decide)) (fun c_16 => ?_) (fun c_16 => ?_)
      · refine P_aload_n (q := 30) dX7_setPull_29 rfl rfl ?_
        refine P_get (q := 33) dX7_setPull_30 rfl fX7_12 (by first | decide | exact lt_c (by decide)) (h0) rfl ?_
        refine P_get (q := 36) dX7_setPull_33 rfl fX7_80 (by first | decide | exact lt_c (by decide)) (e01) rfl ?_
        refine P_istore_n (q := 37) (L' := [_, _, _, _]) dX7_setPull_36 rfl (by first | decide | exact lt_c (by decide)) rfl ?_
        refine P_iload_n (q := 38) dX7_setPull_37 rfl rfl ?_
        refine P_iload_n (q := 39) dX7_setPull_38 rfl rfl ?_
        refine P_icmp_ne (q := 42) (tgt := 46) dX7_setPull_39 rfl (by first | decide | exact lt_c (by decide)) (fun c_39 => ?_) (fun c_39 => ?_)
        · rw [iI_inj (by omega) (by omega) (by omega) (by omega)] at c_39
          refine P_aload_n (q := 47) dX7_setPull_46 rfl rfl ?_
          refine P_get (q := 50) dX7_setPull_47 rfl fX7_26 (by first | decide | exact lt_c (by decide)) (h0) rfl ?_
          refine P_aload_n (q := 51) dX7_setPull_50 rfl rfl ?_
          refine P_get (q := 54) dX7_setPull_51 rfl fX7_12 (by first | decide | exact lt_c (by decide)) (h0) rfl ?_
          have hB := pl_ok hA (a := false) (z := z) (by omega) (by omega)
          refine P_callv (q := 57) dX7_setPull_54 rfl (t_record hS hH) kX7_44 rfl rfl (by first | decide | exact lt_c (by decide)) (hH.choose_spec.choose_spec.2.2.1) rfl ⟨by decide, by decide⟩ (Nat.le_of_ble_eq_true rfl) ⟨Nat.le_refl _, Nat.le_refl _⟩ ?_
          rintro v σ1 ⟨rfl, hH1, t1⟩
          have h01 := (t1 0 (by omega)).trans h0
          have hS1 : SW σ1 1 w.A := hS.congr (t1 1 (by omega)) (t1 2 (by omega))
          have hAW1 : AW σ1 w.A := hAW.congr (fun k a b => t1 k (by omega))
          obtain ⟨-, f1, e11, e12, ef1⟩ := id hS1
          refine P_iload_n (q := 58) dX7_setPull_57 rfl rfl ?_
          refine P_if_eq (q := 61) (tgt := 72) dX7_setPull_58 rfl (by first | decide | exact lt_c (by decide)) (fun c_58 => ?_) (fun c_58 => ?_)
          · refine P_aload_n (q := 73) dX7_setPull_72 rfl rfl ?_
            refine P_get (q := 76) dX7_setPull_73 rfl fX7_12 (by first | decide | exact lt_c (by decide)) (h01) rfl ?_
            refine P_iload_n (q := 77) dX7_setPull_76 rfl rfl ?_
            refine P_put (q := 80) (fs' := [_, _, _, _, _, _, _, _, _]) (σ' := va_up σ1 1 (stO (w.A.pl false z) 2)) dX7_setPull_77 rfl gX7_80 (by first | decide | exact lt_c (by decide)) (e11) (fun _ => rfl) (fun _ => rfl) (Nat.le_of_ble_eq_true rfl) rfl (rfl) ?_
            refine P_aload_n (q := 81) dX7_setPull_80 rfl rfl ?_
            refine P_get (q := 84) dX7_setPull_81 rfl fX7_19 (by first | decide | exact lt_c (by decide)) ((up_ne _ _ (by omega)).trans h01) rfl ?_
            have hS2 : SW (va_up σ1 1 (stO (w.A.pl false z) 2)) 1 (w.A.pl false z) := hS1.re hB rfl rfl rfl
            have hAW2 : AW (va_up σ1 1 (stO (w.A.pl false z) 2)) w.A := hAW1.congr (fun k a b => up_ne _ _ (by omega))
            obtain ⟨lc, gc, k1, k2, k3, h3⟩ := (hAW2).at
            refine P_callv (q := 87) dX7_setPull_84 rfl ((t_forget (hAW2) (B := (w.A.pl false z)))) kX7_52 rfl rfl (by first | decide | exact lt_c (by decide)) (h3) rfl ⟨by decide, by decide⟩ (Nat.le_of_ble_eq_true rfl) ⟨Nat.le_refl _, Nat.le_refl _⟩ ?_
            rintro v σ9 ⟨rfl, t9, hAW9⟩
            have hS9 := hS2.congr (τ := σ9) (t9 1 (by omega)) (t9 2 (by omega))
            have ss : same σ σ9 (fun i => 1 ≤ i ∧ i ≤ 109) := fun i hi => (t9 i (by omega)).trans ((up_ne _ _ (by omega)).trans (t1 i (by omega)))
            refine P_iload_n (q := 88) dX7_setPull_87 rfl rfl ?_
            refine P_iret dX7_setPull_88 rfl (rfl) ?_
            unfold oPull; rw [if_pos (by omega), if_neg (by rw [pvE]; exact c_39)]; exact ⟨rfl, hW.go ss hS9 hAW9 (hH1.congr (fun k a b => (t9 k (by omega)).trans (up_ne _ _ (by omega)))), CW.ss ss⟩
          · exact absurd rfl c_58
        · rw [iI_inj (by omega) (by omega) (by omega) (by omega)] at c_39
          refine P_sipush (q := 45) (v := iI (-1005)) dX7_setPull_42 rfl (by decide +kernel) ?_
          refine P_iret dX7_setPull_45 rfl (rfl) ?_
          first | exact no (by omega) | (unfold oPull; rw [if_pos (by omega), if_pos (by rw [pvE]; exact c_39)]; exact OK.stay hW)
      · exact absurd rfl c_16
    · rw [iI_nI, iI_le (by omega) (by omega) (by omega) (by omega)] at c_8
      refine P_sipush (q := 14) (v := iI (-1002)) dX7_setPull_11 rfl (by decide +kernel) ?_
      refine P_iret dX7_setPull_14 rfl (rfl) ?_
      first | exact no (by omega) | (unfold oPull; rw [if_pos (by omega), if_pos (by rw [pvE]; exact c_39)]; exact OK.stay hW)
set_option maxRecDepth 100000 in
set_option maxHeartbeats 4000000 in
theorem a_field {σ : Sto} {w : Cs} (hW : CW σ w) {r0 : Int} (r01 : -2147483648 ≤ r0) (r02 : r0 < 2147483648) {c0 : Int} (c01 : -2147483648 ≤ c0) (c02 : c0 < 2147483648) {z : Int} (z1 : -2147483648 ≤ z) (z2 : z < 2147483648) : CP mX7_setField 0 0 [.ref 0, .int (iI r0), .int (iI c0), .int (iI z)] (eN + 114) σ (OK σ (oField w r0 c0 z)) := by
  obtain ⟨h0, hS, hAW, hH, hSn, hT⟩ := id hW
  have hA := hS.1
  obtain ⟨-, f0, e01, e02, ef0⟩ := id hS
  have hh := t_has (eN := eN) e01 (iI r0) (iI c0)
  rw [hasB_i hA r01 r02 c01 c02] at hh
  refine CP_of (by decide +kernel) (Nat.le_of_ble_eq_true rfl) ?_
  change PW _ _ _ _ 0 [_, _, _, _, _] [] _ _ _ _
  refine P_aload_n (q := 1) dX7_setField_0 rfl rfl ?_
  refine P_get (q := 4) dX7_setField_1 rfl fX7_12 (by first | decide | exact lt_c (by decide)) (h0) rfl ?_
  refine P_iload_n (q := 5) dX7_setField_4 rfl rfl ?_
  refine P_iload_n (q := 6) dX7_setField_5 rfl rfl ?_
  refine P_cv1 (q := 9) dX7_setField_6 rfl kX7_83 (hh) rfl rfl (by first | decide | exact lt_c (by decide)) (e01) rfl ⟨by decide, by decide⟩ (Nat.le_of_ble_eq_true rfl) ⟨Nat.le_refl _, Nat.le_refl _⟩ ?_
  refine P_if_ne (q := 12) (tgt := 16) dX7_setField_9 rfl (by first | decide | exact lt_c (by decide)) (fun c_9 => ?_) (fun c_9 => ?_)
  · rw [bI_n] at c_9
    obtain ⟨r, c, rfl, rfl, hr, hc⟩ := inB_n c_9
    have hfd := hA.2.2.2.2.2.2.2 c r
    have no : ¬ (-3 ≤ z ∧ z ≤ 3) → OK σ (oField w r c z) (some (.int (iI (-1002)))) σ := fun h => by
     unfold oField
     rw [if_pos c_9, if_neg h]
     exact OK.stay hW
    rw [← iI_nI, ← iI_nI]
    refine P_iload_n (q := 17) dX7_setField_16 rfl rfl ?_
    refine P_bipush (q := 19) (v := (-3)) dX7_setField_17 rfl (by decide +kernel) ?_
    refine P_icmp_lt (q := 22) (tgt := 27) dX7_setField_19 rfl (by first | decide | exact lt_c (by decide)) (fun c_19 => ?_) (fun c_19 => ?_)
    · rw [show (-3 : Int32) = iI (-3) from rfl, iI_lt (by omega) (by omega) (by omega) (by omega)] at c_19
      refine P_sipush (q := 30) (v := iI (-1002)) dX7_setField_27 rfl (by decide +kernel) ?_
      refine P_iret dX7_setField_30 rfl (rfl) ?_
      first | exact no (by omega) | (unfold oField; rw [if_pos c_9, if_pos (by omega)]; simp only [Int.toNat_natCast]; rw [if_pos c_45]; exact OK.stay hW) | (unfold oField; rw [if_neg (by rw [c_9]; decide)]; exact OK.stay hW)
    · rw [show (-3 : Int32) = iI (-3) from rfl, iI_lt (by omega) (by omega) (by omega) (by omega)] at c_19
      refine P_iload_n (q := 23) dX7_setField_22 rfl rfl ?_
      refine P_iconst (q := 24) (v := nI 3) dX7_setField_23 rfl (by decide +kernel) ?_
      refine P_icmp_le (q := 27) (tgt := 31) dX7_setField_24 rfl (by first | decide | exact lt_c (by decide)) (fun c_24 => ?_) (fun c_24 => ?_)
      · rw [iI_nI, iI_le (by omega) (by omega) (by omega) (by omega)] at c_24
        refine P_aload_n (q := 32) dX7_setField_31 rfl rfl ?_
        refine P_get (q := 35) dX7_setField_32 rfl fX7_12 (by first | decide | exact lt_c (by decide)) (h0) rfl ?_
        refine P_iload_n (q := 36) dX7_setField_35 rfl rfl ?_
        refine P_iload_n (q := 37) dX7_setField_36 rfl rfl ?_
        refine P_cv1 (q := 40) dX7_setField_37 rfl kX7_87 (t_fieldAt hA e01 e02 ef0 hr hc) rfl rfl (by first | decide | exact lt_c (by decide)) (e01) rfl ⟨by decide, by decide⟩ (Nat.le_of_ble_eq_true rfl) ⟨Nat.le_refl _, Nat.le_refl _⟩ ?_
        refine P_istore (q := 42) (L' := [_, _, _, _, _]) dX7_setField_40 rfl (by first | decide | exact lt_c (by decide)) rfl ?_
        refine P_iload_n (q := 43) dX7_setField_42 rfl rfl ?_
        refine P_iload (q := 45) dX7_setField_43 rfl rfl ?_
        refine P_icmp_ne (q := 48) (tgt := 52) dX7_setField_45 rfl (by first | decide | exact lt_c (by decide)) (fun c_45 => ?_) (fun c_45 => ?_)
        · rw [iI_inj (by omega) (by omega) (by omega) (by omega)] at c_45
          refine P_aload_n (q := 53) dX7_setField_52 rfl rfl ?_
          refine P_get (q := 56) dX7_setField_53 rfl fX7_26 (by first | decide | exact lt_c (by decide)) (h0) rfl ?_
          refine P_aload_n (q := 57) dX7_setField_56 rfl rfl ?_
          refine P_get (q := 60) dX7_setField_57 rfl fX7_12 (by first | decide | exact lt_c (by decide)) (h0) rfl ?_
          refine P_callv (q := 63) dX7_setField_60 rfl (t_record hS hH) kX7_44 rfl rfl (by first | decide | exact lt_c (by decide)) (hH.choose_spec.choose_spec.2.2.1) rfl ⟨by decide, by decide⟩ (Nat.le_of_ble_eq_true rfl) ⟨Nat.le_refl _, Nat.le_refl _⟩ ?_
          rintro v σ1 ⟨rfl, hH1, t1⟩
          have h01 := (t1 0 (by omega)).trans h0
          have hS1 : SW σ1 1 w.A := hS.congr (t1 1 (by omega)) (t1 2 (by omega))
          have hAW1 : AW σ1 w.A := hAW.congr (fun k a b => t1 k (by omega))
          obtain ⟨-, f1, e11, e12, ef1⟩ := id hS1
          refine P_aload_n (q := 64) dX7_setField_63 rfl rfl ?_
          refine P_get (q := 67) dX7_setField_64 rfl fX7_12 (by first | decide | exact lt_c (by decide)) (h01) rfl ?_
          refine P_iload_n (q := 68) dX7_setField_67 rfl rfl ?_
          refine P_iload_n (q := 69) dX7_setField_68 rfl rfl ?_
          refine P_iload_n (q := 70) dX7_setField_69 rfl rfl ?_
          refine P_cv0 (q := 73) dX7_setField_70 rfl kX7_91 (t_putField hA e11 e12 hr hc (iI z)) rfl rfl (by first | decide | exact lt_c (by decide)) (e11) rfl ⟨by decide, by decide⟩ (Nat.le_of_ble_eq_true rfl) ⟨Nat.le_refl _, Nat.le_refl _⟩ ?_
          refine P_aload_n (q := 74) dX7_setField_73 rfl rfl ?_
          refine P_get (q := 77) dX7_setField_74 rfl fX7_19 (by first | decide | exact lt_c (by decide)) ((up_ne _ _ (by omega)).trans h01) rfl ?_
          have hS2 : SW (va_up σ1 2 (pI .int 40 (upd f1 (4 * c + r) (iI z)))) 1 (w.A.pf c r z) := SW_pf hA e11 ef1 (by omega) (by omega) hr
          have hAW2 : AW (va_up σ1 2 (pI .int 40 (upd f1 (4 * c + r) (iI z)))) w.A := hAW1.congr (fun k a b => up_ne _ _ (by omega))
          obtain ⟨lc, gc, k1, k2, k3, h3⟩ := (hAW2).at
          refine P_callv (q := 80) dX7_setField_77 rfl ((t_forget (hAW2) (B := (w.A.pf c r z)))) kX7_52 rfl rfl (by first | decide | exact lt_c (by decide)) (h3) rfl ⟨by decide, by decide⟩ (Nat.le_of_ble_eq_true rfl) ⟨Nat.le_refl _, Nat.le_refl _⟩ ?_
          rintro v σ9 ⟨rfl, t9, hAW9⟩
          have hS9 := hS2.congr (τ := σ9) (t9 1 (by omega)) (t9 2 (by omega))
          have ss : same σ σ9 (fun i => 1 ≤ i ∧ i ≤ 109) := fun i hi => (t9 i (by omega)).trans ((up_ne _ _ (by omega)).trans (t1 i (by omega)))
          refine P_iload (q := 82) dX7_setField_80 rfl rfl ?_
          refine P_iret dX7_setField_82 rfl (rfl) ?_
          unfold oField; rw [if_pos c_9, if_pos (by omega)]; simp only [Int.toNat_natCast]; rw [if_neg c_45]; exact ⟨rfl, hW.go ss hS9 hAW9 (hH1.congr (fun k a b => (t9 k (by omega)).trans (up_ne _ _ (by omega)))), CW.ss ss⟩
        · rw [iI_inj (by omega) (by omega) (by omega) (by omega)] at c_45
          refine P_sipush (q := 51) (v := iI (-1005)) dX7_setField_48 rfl (by decide +kernel) ?_
          refine P_iret dX7_setField_51 rfl (rfl) ?_
          first | exact no (by omega) | (unfold oField; rw [if_pos c_9, if_pos (by omega)]; simp only [Int.toNat_natCast]; rw [if_pos c_45]; exact OK.stay hW) | (unfold oField; rw [if_neg (by rw [c_9]; decide)]; exact OK.stay hW)
      · rw [iI_nI, iI_le (by omega) (by omega) (by omega) (by omega)] at c_24
        refine P_sipush (q := 30) (v := iI (-1002)) dX7_setField_27 rfl (by decide +kernel) ?_
        refine P_iret dX7_setField_30 rfl (rfl) ?_
        first | exact no (by omega) | (unfold oField; rw [if_pos c_9, if_pos (by omega)]; simp only [Int.toNat_natCast]; rw [if_pos c_45]; exact OK.stay hW) | (unfold oField; rw [if_neg (by rw [c_9]; decide)]; exact OK.stay hW)
  · rw [bI_0] at c_9
    refine P_sipush (q := 15) (v := iI (-1001)) dX7_setField_12 rfl (by decide +kernel) ?_
    refine P_iret dX7_setField_15 rfl (rfl) ?_
    first | exact no (by omega) | (unfold oField; rw [if_pos c_9, if_pos (by omega)]; simp only [Int.toNat_natCast]; rw [if_pos c_45]; exact OK.stay hW) | (unfold oField; rw [if_neg (by rw [c_9]; decide)]; exact OK.stay hW)
