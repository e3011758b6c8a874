/-! THE REFERENCE: gains, rows copied, history -/
theorem prv_lt {A : St} (hA : A.ok) {c d : Nat} (hc : c < A.C) (h : A.prv c = some d) : d < A.C := by
  have hC := hA.1
  unfold St.prv at h
  split at h
  · cases h; omega
  · split at h
    · cases h; omega
    · cases h
theorem nxt_lt {A : St} {c d : Nat} (hc : c < A.C) (h : A.nxt c = some d) : d < A.C := by
  unfold St.nxt at h
  split at h
  · cases h; omega
  · split at h
    · cases h; omega
    · cases h
