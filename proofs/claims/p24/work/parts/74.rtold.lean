theorem CE_out {A : St} (hA : A.ok) (w : Bool) {z : Int} (h : z < -200 ∨ 200 < z) : A.CE w z = 0 := by
  cases w with
  | true => rw [CE_ww hA, if_neg (by omega)]
  | false =>
    rw [CE_me hA]
    have := wr_190 hA false
    exact if_neg (fun q => by omega)
theorem nI_dec (n : Nat) : nI (n + 1) + Int32.ofInt (-1) = nI n := ni_add (a := n + 1) (b := n) (m := -1) (by omega)
