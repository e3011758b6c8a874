theorem sumZ_oZ {n : Nat} (o : Option Nat) (f : Nat → Nat → Int) : oZ o (fun d => sumZ n (fun r => f d r)) = sumZ n (fun r => oZ o (fun d => f d r)) := by
  cases o with
  | none => exact (sumZ_zero n).symm
  | some d => rfl
theorem s_spZ (A : St) (c r : Nat) : A.s c r = spZ (A.sp c) r := rfl
theorem dnr_nx (A : St) (r : Nat) (f : Nat → Int) : oZ (dnr A.R r) f = if r + 1 < A.R then f (r + 1) else 0 := by
  unfold dnr; split <;> rfl
theorem tot_E (A : St) : A.tot false = A.E := by
  have h : ∀ c, A.totT false c = sumZ A.R (fun r => -(A.halfP (fun c d r => A.al * (A.s c r * A.s d r)) (fun c r q => A.ac * (A.s c r * A.s c q)) c r + A.s c r * A.fd c r)) := fun c => by
    unfold St.totT St.col St.lnkO St.lnk
    rw [sumZ_oZ, ← sumZ_add]
    refine sumZ_congr fun r _ => ?_
    unfold St.halfP
    rw [dnr_nx]
    show (-A.ac * spZ (A.sp c) r * A.nx (A.sp c) r - A.fd c r * spZ (A.sp c) r) + oZ (A.nxt c) (fun d => -A.al * (spZ (A.sp c) r * spZ (A.sp d) r)) = _
    unfold St.nx
    simp only [s_spZ]
    cases A.nxt c with
    | none =>
      show _ + (0 : Int) = -((0 + _) + _)
      split <;> rcases spZ_pm (A.sp c) r with e | e <;> rw [e] <;> simp [Int.neg_mul, Int.mul_neg] <;> omega
    | some d =>
      show _ + (-A.al * (spZ (A.sp c) r * spZ (A.sp d) r)) = -((A.al * (spZ (A.sp c) r * spZ (A.sp d) r) + _) + _)
      split <;> rcases spZ_pm (A.sp c) r with e | e <;> rcases spZ_pm (A.sp d) r with e2 | e2 <;> rw [e, e2] <;> simp [Int.neg_mul, Int.mul_neg] <;> omega
  unfold St.tot St.E St.EP St.EF
  rw [sumZ_congr (fun c _ => h c), ← sumZ_add, show ∀ (n : Nat) (f : Nat → Int), -sumZ n f = sumZ n (fun i => -f i) from fun n f => by
    have := sumZ_mul n (-1) f
    rw [show (fun i => -f i) = fun i => -1 * f i from funext fun i => by omega, this]; omega]
  refine sumZ_congr fun c _ => ?_
  rw [← sumZ_add]
  have := sumZ_mul A.R (-1) (fun r => A.halfP (fun c d r => A.al * (A.s c r * A.s d r)) (fun c r q => A.ac * (A.s c r * A.s c q)) c r + A.s c r * A.fd c r)
  rw [show (fun r => -(A.halfP (fun c d r => A.al * (A.s c r * A.s d r)) (fun c r q => A.ac * (A.s c r * A.s c q)) c r + A.s c r * A.fd c r)) = fun r => -1 * (A.halfP (fun c d r => A.al * (A.s c r * A.s d r)) (fun c r q => A.ac * (A.s c r * A.s c q)) c r + A.s c r * A.fd c r) from funext fun r => by omega, this]
  omega
theorem ne_bZ (k r t q : Nat) : (if spZ k r * spZ t q < 0 then 1 else 0) = bZ (spZ k r != spZ t q) := by
  rcases spZ_pm k r with e | e <;> rcases spZ_pm t q with e2 | e2 <;> rw [e, e2] <;> decide
theorem tot_WL (A : St) : A.tot true = A.WL := by
  unfold St.tot St.WL
  refine sumZ_congr fun c _ => ?_
  unfold St.totT St.col St.lnkO St.lnk
  rw [sumZ_oZ, ← sumZ_add]
  refine sumZ_congr fun r _ => ?_
  unfold St.halfP
  rw [dnr_nx]
  simp only [s_spZ]
  have h1 : A.colT true c (A.sp c) r = if r + 1 < A.R then bZ (spZ (A.sp c) r != spZ (A.sp c) (r + 1)) else 0 := by
    show (if spZ (A.sp c) r * A.nx (A.sp c) r < 0 then 1 else 0) = _
    unfold St.nx
    split
    · exact ne_bZ _ _ _ _
    · rw [Int.mul_zero]; rfl
  have h2 : ∀ d, A.lnkT true (A.sp c) (A.sp d) r = bZ (spZ (A.sp c) r != spZ (A.sp d) r) := fun d => ne_bZ _ _ _ _
  simp only [h1, h2]
  omega
