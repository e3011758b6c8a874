/-! THE REFERENCE: energies, walls, gains -/
def St.nx (A : St) (k r : Nat) : Int := if r + 1 < A.R then spZ k (r + 1) else 0
def St.colT (A : St) (w : Bool) (c k r : Nat) : Int := if w then (if spZ k r * A.nx k r < 0 then 1 else 0) else -A.ac * spZ k r * A.nx k r - A.fd c r * spZ k r
def St.lnkT (A : St) (w : Bool) (k t r : Nat) : Int := if w then (if spZ k r * spZ t r < 0 then 1 else 0) else -A.al * (spZ k r * spZ t r)
def St.col (A : St) (w : Bool) (c k : Nat) : Int := sumZ A.R (A.colT w c k)
def St.lnk (A : St) (w : Bool) (k t : Nat) : Int := sumZ A.R (A.lnkT w k t)
def St.lnkO (A : St) (w : Bool) (k : Nat) (o : Option Nat) : Int := oZ o (fun d => A.lnk w k (A.sp d))
def St.totT (A : St) (w : Bool) (c : Nat) : Int := A.col w c (A.sp c) + A.lnkO w (A.sp c) (A.nxt c)
def St.tot (A : St) (w : Bool) : Int := sumZ A.C (A.totT w)
theorem spZ_pm (k r : Nat) : spZ k r = 1 ∨ spZ k r = -1 := by unfold spZ; split <;> simp
