/-! SUMS OVER PAIRS OF NEIGHBOURS: told from both ends they are twice what they are told once -/
def oZ (o : Option Nat) (f : Nat → Int) : Int := match o with
  | none => 0
  | some d => f d
def St.cellP (A : St) (fa : Nat → Nat → Nat → Int) (fx : Nat → Nat → Nat → Int) (c r : Nat) : Int := (oZ (A.prv c) (fun d => fa c d r) + oZ (A.nxt c) (fun d => fa c d r)) + (oZ (upr r) (fun q => fx c r q) + oZ (dnr A.R r) (fun q => fx c r q))
def St.halfP (A : St) (fa : Nat → Nat → Nat → Int) (fx : Nat → Nat → Nat → Int) (c r : Nat) : Int := oZ (A.nxt c) (fun d => fa c d r) + oZ (dnr A.R r) (fun q => fx c r q)
theorem col_turn (R : Nat) (hR : R ≤ 3) (f : Nat → Nat → Int) (hs : ∀ a b, f a b = f b a) : sumZ R (fun r => oZ (upr r) (fun q => f r q)) = sumZ R (fun r => oZ (dnr R r) (fun q => f r q)) := by
  have : R = 0 ∨ R = 1 ∨ R = 2 ∨ R = 3 := by omega
  rcases this with rfl | rfl | rfl | rfl
  · rfl
  · simp [sumZ, oZ, upr, dnr]
  · simp [sumZ, oZ, upr, dnr, hs 1 0]
  · simp [sumZ, oZ, upr, dnr, hs 1 0, hs 2 1]
theorem St.row_turn {A : St} (hA : A.ok) (f : Nat → Nat → Int) (hs : ∀ a b, f a b = f b a) : sumZ A.C (fun c => oZ (A.prv c) (fun d => f c d)) = sumZ A.C (fun c => oZ (A.nxt c) (fun d => f c d)) := by
  have hC := hA.1.1
  obtain ⟨n, hn⟩ : ∃ n, A.C = n + 1 := ⟨A.C - 1, by omega⟩
  rw [hn, sumZ_front, sumZ]
  have e1 : sumZ n (fun i => oZ (A.prv (i + 1)) (fun d => f (i + 1) d)) = sumZ n (fun i => f (i + 1) i) := sumZ_congr fun i _ => by
    unfold St.prv; rw [if_pos (by omega)]; rfl
  have e2 : sumZ n (fun i => oZ (A.nxt i) (fun d => f i d)) = sumZ n (fun i => f i (i + 1)) := sumZ_congr fun i hi => by
    unfold St.nxt; rw [if_pos (by omega)]; rfl
  have e3 : sumZ n (fun i => f (i + 1) i) = sumZ n (fun i => f i (i + 1)) := sumZ_congr fun i _ => hs _ _
  have e4 : oZ (A.prv 0) (fun d => f 0 d) = oZ (A.nxt n) (fun d => f n d) := by
    have p0 : A.prv 0 = if A.lp then some (A.C - 1) else none := if_neg (by omega)
    have n0 : A.nxt n = if A.lp then some 0 else none := if_neg (by omega)
    rw [p0, n0]
    cases A.lp
    · rfl
    · show f 0 (A.C - 1) = f n 0
      rw [hs, show A.C - 1 = n by omega]
  rw [e1, e2, e3, e4]
  omega
theorem St.twice {A : St} (hA : A.ok) (fa : Nat → Nat → Nat → Int) (fx : Nat → Nat → Nat → Int) (ha : ∀ c d r, fa c d r = fa d c r) (hx : ∀ c r q, fx c r q = fx c q r) :
    sumZ A.C (fun c => sumZ A.R (fun r => A.cellP fa fx c r)) = 2 * sumZ A.C (fun c => sumZ A.R (fun r => A.halfP fa fx c r)) := by
  have h1 : sumZ A.C (fun c => sumZ A.R (fun r => A.cellP fa fx c r)) = (sumZ A.C (fun c => sumZ A.R (fun r => oZ (A.prv c) (fun d => fa c d r))) + sumZ A.C (fun c => sumZ A.R (fun r => oZ (A.nxt c) (fun d => fa c d r)))) + (sumZ A.C (fun c => sumZ A.R (fun r => oZ (upr r) (fun q => fx c r q))) + sumZ A.C (fun c => sumZ A.R (fun r => oZ (dnr A.R r) (fun q => fx c r q)))) := by
    rw [← sumZ_add, ← sumZ_add, ← sumZ_add]
    refine sumZ_congr fun c _ => ?_
    rw [← sumZ_add, ← sumZ_add, ← sumZ_add]
    rfl
  have h2 : sumZ A.C (fun c => sumZ A.R (fun r => A.halfP fa fx c r)) = sumZ A.C (fun c => sumZ A.R (fun r => oZ (A.nxt c) (fun d => fa c d r))) + sumZ A.C (fun c => sumZ A.R (fun r => oZ (dnr A.R r) (fun q => fx c r q))) := by
    rw [← sumZ_add]
    refine sumZ_congr fun c _ => ?_
    rw [← sumZ_add]
    rfl
  have h3 : sumZ A.C (fun c => sumZ A.R (fun r => oZ (A.prv c) (fun d => fa c d r))) = sumZ A.C (fun c => sumZ A.R (fun r => oZ (A.nxt c) (fun d => fa c d r))) := by
    rw [sumZ_swap, sumZ_swap A.C]
    exact sumZ_congr fun r _ => A.row_turn hA (fun c d => fa c d r) (fun a b => ha a b r)
  have h4 : sumZ A.C (fun c => sumZ A.R (fun r => oZ (upr r) (fun q => fx c r q))) = sumZ A.C (fun c => sumZ A.R (fun r => oZ (dnr A.R r) (fun q => fx c r q))) := sumZ_congr fun c _ => col_turn A.R hA.2.1.2 (fun a b => fx c a b) (fun a b => hx c a b)
  rw [h1, h2, h3, h4]
  omega
/-- the energy -/
def St.EP (A : St) : Int := sumZ A.C (fun c => sumZ A.R (fun r => A.halfP (fun c d r => A.al * (A.s c r * A.s d r)) (fun c r q => A.ac * (A.s c r * A.s c q)) c r))
def St.EF (A : St) : Int := sumZ A.C (fun c => sumZ A.R (fun r => A.s c r * A.fd c r))
def St.E (A : St) : Int := -(A.EP + A.EF)
theorem oZ_mul (o : Option Nat) (k : Int) (f : Nat → Int) : k * oZ o f = oZ o (fun d => k * f d) := by cases o <;> simp [oZ]
theorem St.sA_oZ (A : St) (c r : Nat) : A.sA c r = oZ (A.prv c) (fun d => A.s d r) + oZ (A.nxt c) (fun d => A.s d r) := by
  unfold St.sA
  cases A.prv c <;> cases A.nxt c <;> rfl
theorem St.sX_oZ (A : St) (c r : Nat) : A.sX c r = oZ (upr r) (fun q => A.s c q) + oZ (dnr A.R r) (fun q => A.s c q) := by
  unfold St.sX upr dnr
  split <;> split <;> rfl
theorem St.cellE (A : St) (c r : Nat) : A.s c r * (A.al * A.sA c r + A.ac * A.sX c r) = A.cellP (fun c d r => A.al * (A.s c r * A.s d r)) (fun c r q => A.ac * (A.s c r * A.s c q)) c r := by
  rw [A.sA_oZ, A.sX_oZ]
  unfold St.cellP
  simp only [← oZ_mul]
  simp only [Int.mul_add]
  congr 1 <;> congr 1 <;> rw [Int.mul_left_comm]
theorem St.EP_twice {A : St} (hA : A.ok) : sumZ A.C (fun c => sumZ A.R (fun r => A.s c r * (A.al * A.sA c r + A.ac * A.sX c r))) = 2 * A.EP := by
  have h : sumZ A.C (fun c => sumZ A.R (fun r => A.s c r * (A.al * A.sA c r + A.ac * A.sX c r))) = sumZ A.C (fun c => sumZ A.R (fun r => A.cellP (fun c d r => A.al * (A.s c r * A.s d r)) (fun c r q => A.ac * (A.s c r * A.s c q)) c r)) := sumZ_congr fun c _ => sumZ_congr fun r _ => A.cellE c r
  rw [h, A.twice hA _ _ (fun c d r => by rw [Int.mul_comm (A.s c r)]) (fun c r q => by rw [Int.mul_comm (A.s c r)])]
  rfl
theorem sumZ2_in {C R : Nat} (hC : C ≤ 10) (hR : R ≤ 3) {f : Nat → Nat → Int} {b : Int} (hb : 0 ≤ b) (h : ∀ c r, c < C → r < R → -b ≤ f c r ∧ f c r ≤ b) : -(30 * b) ≤ sumZ C (fun c => sumZ R (fun r => f c r)) ∧ sumZ C (fun c => sumZ R (fun r => f c r)) ≤ 30 * b := by
  have h1 : ∀ c, c < C → -(3 * b) ≤ sumZ R (fun r => f c r) ∧ sumZ R (fun r => f c r) ≤ 3 * b := fun c hc => by
    have a1 := sumZ_le (n := R) (f := fun r => f c r) (b := b) (fun r hr => (h c r hc hr).2)
    have a2 := sumZ_ge (n := R) (f := fun r => f c r) (b := -b) (fun r hr => (h c r hc hr).1)
    have a3 : (R : Int) * b ≤ 3 * b := Int.mul_le_mul_of_nonneg_right (by omega) hb
    rw [Int.mul_neg] at a2
    omega
  have b1 := sumZ_le (n := C) (f := fun c => sumZ R (fun r => f c r)) (b := 3 * b) (fun c hc => (h1 c hc).2)
  have b2 := sumZ_ge (n := C) (f := fun c => sumZ R (fun r => f c r)) (b := -(3 * b)) (fun c hc => (h1 c hc).1)
  have b3 : (C : Int) * (3 * b) ≤ 10 * (3 * b) := Int.mul_le_mul_of_nonneg_right (by omega) (by omega)
  rw [Int.mul_neg] at b2
  omega
theorem St.EP_in {A : St} (hA : A.ok) : -240 ≤ A.EP ∧ A.EP ≤ 240 := by
  have h := sumZ2_in (f := fun c r => A.s c r * (A.al * A.sA c r + A.ac * A.sX c r)) hA.1.2 hA.2.1.2 (b := 8) (by omega) (fun c r _ _ => by
    have h1 := mul_in (A := 2) (B := 2) hA.2.2.2.1.1 hA.2.2.2.1.2 (A.sA_in c r).1 (A.sA_in c r).2
    have h2 := mul_in (A := 2) (B := 2) hA.2.2.2.2.1.1 hA.2.2.2.2.1.2 (A.sX_in c r).1 (A.sX_in c r).2
    rcases A.s_pm c r with e | e <;> rw [e] <;> omega)
  rw [A.EP_twice hA] at h
  omega
theorem St.EF_in {A : St} (hA : A.ok) : -90 ≤ A.EF ∧ A.EF ≤ 90 := by
  have h := sumZ2_in (f := fun c r => A.s c r * A.fd c r) hA.1.2 hA.2.1.2 (b := 3) (by omega) (fun c r _ _ => by
    have h3 := hA.2.2.2.2.2.2.2 c r
    rcases A.s_pm c r with e | e <;> rw [e] <;> omega)
  exact h
theorem St.E_in {A : St} (hA : A.ok) : -330 ≤ A.E ∧ A.E ≤ 330 := by
  have h1 := A.EP_in hA
  have h2 := A.EF_in hA
  unfold St.E; omega
/-- walls and pairs -/
def bZ (b : Bool) : Int := if b then 1 else 0
def St.WL (A : St) : Int := sumZ A.C (fun c => sumZ A.R (fun r => A.halfP (fun c d r => bZ (A.s c r != A.s d r)) (fun c r q => bZ (A.s c r != A.s c q)) c r))
def St.PR (A : St) : Int := sumZ A.C (fun c => sumZ A.R (fun r => A.halfP (fun _ _ _ => 1) (fun _ _ _ => 1) c r))
theorem St.WL_twice {A : St} (hA : A.ok) : sumZ A.C (fun c => sumZ A.R (fun r => A.cellP (fun c d r => bZ (A.s c r != A.s d r)) (fun c r q => bZ (A.s c r != A.s c q)) c r)) = 2 * A.WL :=
  A.twice hA _ _ (fun c d r => by rw [bne_comm]) (fun c r q => by rw [bne_comm])
theorem St.PR_twice {A : St} (hA : A.ok) : sumZ A.C (fun c => sumZ A.R (fun r => A.cellP (fun _ _ _ => 1) (fun _ _ _ => 1) c r)) = 2 * A.PR :=
  A.twice hA _ _ (fun c d r => rfl) (fun c r q => rfl)
theorem iI_half {x : Int} (h1 : -100000 ≤ x) (h2 : x ≤ 100000) : iI (2 * x) / nI 2 = iI x := by
  apply Int32.toInt_inj.mp
  rw [Int32.toInt_div, iI_toInt (by omega) (by omega), iI_toInt (by omega) (by omega), show (nI 2).toInt = 2 from by decide, Int.mul_tdiv_cancel_left _ (by first | decide | exact lt_c (by decide))]
  exact Int.bmod_eq_of_le (by omega) (by omega)
