/-! SETTLING: what the columns from one on have at least -/
def St.eta (A : St) (c : Nat) : Int := ((A.md false).wr : Int) - A.rho false c + (A.rhoC c : Int)
def St.rs (A : St) (f c s : Nat) : Int := 2 * (((A.md false).ci c s + (A.md false).B f c s : Nat) : Int) - A.eta c
