def St.un (A : St) (n : Nat) : Nat := sumN n (fun c => pcN 3 (A.sp c))
