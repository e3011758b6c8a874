/-! what the cells come to -/
theorem pcN_xcut (a w : Nat) : ∀ n, n ≤ 64 → pcN n (a &&& w) + pcN n (a &&& (w ^^^ nt64)) = pcN n a
  | 0, _ => rfl
  | n + 1, h => by
    have ih := pcN_xcut a w n (by omega)
    unfold pcN at ih ⊢
    rw [sumN, sumN, sumN, Nat.testBit_and, Nat.testBit_and, Nat.testBit_xor, nt64_bit, decide_eq_true (show n < 64 by omega)]
    have e : (a.testBit n && w.testBit n).toNat + (a.testBit n && (w.testBit n ^^ true)).toNat = (a.testBit n).toNat := by
      cases a.testBit n <;> cases w.testBit n <;> rfl
    omega
/-- how many neighbours a cell has, how many of its own sign -/
def St.nn (A : St) (c r : Nat) : Nat := pcN 64 (A.bN (2 ^ (4 * c + r)))
def St.nl (A : St) (c r : Nat) : Nat := pcN 64 (A.bN (2 ^ (4 * c + r)) &&& A.lk (4 * c + r))
theorem nn_nl {A : St} (hA : A.ok) {c r : Nat} (hc : c < A.C) (hr : r < A.R) : (A.nn c r : Int) = A.p1 c r ∧ (A.nl c r : Int) + A.pW c r = A.p1 c r ∧ A.nn c r ≤ 4 ∧ A.nl c r ≤ A.nn c r := by
  have h1 := St.cell1 hA hc hr
  have h2 := St.cellW hA hc hr
  have h3 := pcN_xcut (A.bN (2 ^ (4 * c + r))) (A.lk (4 * c + r)) 64 (Nat.le_refl _)
  have h4 := St.cellP_in (A := A) (fun _ _ _ => 1) (fun _ _ _ => 1) (fun _ _ _ => ⟨by decide, by decide⟩) (fun _ _ _ => ⟨by decide, by decide⟩) c r
  unfold St.nn St.nl St.p1 St.pW
  rw [← h1, ← h2]
  rw [← h1] at h4
  omega
theorem sumZ_N (n : Nat) (f : Nat → Nat) : ((sumN n f : Nat) : Int) = sumZ n (fun i => (f i : Int)) := by
  induction n with
  | zero => rfl
  | succ n ih => rw [sumN, sumZ, ← ih]; omega
def St.sum2 (A : St) (f : Nat → Nat → Int) : Int := sumZ A.C (fun c => sumZ A.R (f c))
theorem sum2_nn {A : St} (hA : A.ok) : A.sum2 (fun c r => (A.nn c r : Int)) = 2 * A.PR := by
  rw [← A.PR_twice hA]
  exact sumZ_congr fun c hc => sumZ_congr fun r hr => (nn_nl hA hc hr).1
theorem sum2_nl {A : St} (hA : A.ok) : A.sum2 (fun c r => (A.nl c r : Int)) = 2 * A.PR - 2 * A.WL := by
  rw [← A.PR_twice hA, ← A.WL_twice hA]
  show sumZ A.C (fun c => sumZ A.R (fun r => (A.nl c r : Int))) = sumZ A.C (fun c => sumZ A.R (fun r => A.p1 c r)) - sumZ A.C (fun c => sumZ A.R (fun r => A.pW c r))
  rw [← sumZ_sub]
  refine sumZ_congr fun c hc => ?_
  rw [← sumZ_sub]
  refine sumZ_congr fun r hr => ?_
  have := (nn_nl hA hc hr).2.1
  omega
theorem pc3_sum : ∀ R, R < 4 → ∀ k, k < 2 ^ R → (pcN 3 k : Int) = sumZ R (fun r => if 0 < spZ k r then 1 else 0) := by decide +kernel
theorem sum2_up {A : St} (hA : A.ok) : A.sum2 (fun c r => if 0 < A.s c r then 1 else 0) = (pcN 64 A.U : Int) := by
  rw [un_U hA]
  unfold St.un
  rw [sumZ_N]
  exact sumZ_congr fun c _ => (pc3_sum A.R (by have := hA.2.1.2; omega) _ (hA.2.2.2.2.2.1 c)).symm
theorem sum2_GC (A : St) : A.sum2 (fun c r => if 0 < A.gain c r then 1 else 0) = A.GC :=
  sumZ_congr fun c _ => sumZ_congr fun r _ => by
    unfold St.pG bZ
    show (if 0 < A.gain c r then (1 : Int) else 0) = if decide (0 < A.gain c r) = true then 1 else 0
    by_cases h : 0 < A.gain c r
    · rw [if_pos h, if_pos (decide_eq_true h)]
    · rw [if_neg h, if_neg (by rw [decide_eq_false h]; decide)]
theorem oZ_1 {k : Int} (o : Option Nat) (f : Nat → Int) (g : Nat → Bool) (h : ∀ d, f d = 1 - 2 * bZ (g d)) : oZ o (fun d => k * f d) = k * oZ o (fun _ => 1) - 2 * (k * oZ o (fun d => bZ (g d))) := by
  cases o with
  | none => show (0 : Int) = k * 0 - 2 * (k * 0); rw [Int.mul_zero]; rfl
  | some d =>
    show k * f d = k * 1 - 2 * (k * bZ (g d))
    rw [h d, Int.mul_sub, Int.mul_left_comm k 2]
theorem ss_bZ (A : St) (c r d q : Nat) : A.s c r * A.s d q = 1 - 2 * bZ (A.s c r != A.s d q) := by
  rcases A.s_pm c r with e | e <;> rcases A.s_pm d q with e2 | e2 <;> rw [e, e2] <;> decide
theorem EP_alike {A : St} (h : A.al = A.ac) : A.EP = A.al * (A.PR - 2 * A.WL) := by
  unfold St.EP St.PR St.WL
  rw [← h, Int.mul_sub, Int.mul_left_comm A.al 2, ← sumZ_mul, ← sumZ_mul, ← sumZ_mul, ← sumZ_sub]
  refine sumZ_congr fun c _ => ?_
  rw [← sumZ_mul, ← sumZ_mul, ← sumZ_mul, ← sumZ_sub]
  refine sumZ_congr fun r _ => ?_
  unfold St.halfP
  rw [oZ_1 (A.nxt c) _ (fun d => A.s c r != A.s d r) (fun d => ss_bZ A c r d r), oZ_1 (dnr A.R r) _ (fun q => A.s c r != A.s c q) (fun q => ss_bZ A c r c q), Int.mul_add, Int.mul_add]
  dsimp only
  omega
theorem E_alike {A : St} (h : A.al = A.ac) : A.E = -A.al * (A.PR - 2 * A.WL) - A.sum2 (fun c r => A.fd c r * A.s c r) := by
  have e : A.EF = A.sum2 (fun c r => A.fd c r * A.s c r) := sumZ_congr fun c _ => sumZ_congr fun r _ => Int.mul_comm _ _
  unfold St.E
  rw [EP_alike h, e, Int.neg_mul]
  omega
