theorem mu_out {A : St} (hA : A.ok) {u : Nat} (h : A.C * A.R < u) : (A.md false).mu u = 0 := by
  rw [← CU_mu hA]; exact CU_u hA h
