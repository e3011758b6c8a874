theorem colT_in {A : St} (hA : A.ok) (w : Bool) (c k r : Nat) : -5 ≤ A.colT w c k r ∧ A.colT w c k r ≤ 5 := by
  obtain ⟨-, -, -, -, h2, -, -, h3⟩ := hA
  have h3 := h3 c r
  unfold St.colT St.nx
  cases w with
  | true => rw [if_pos rfl]; split <;> omega
  | false =>
    rw [if_neg (by decide)]
    split
    · rcases spZ_pm k r with e | e <;> rcases spZ_pm k (r + 1) with e2 | e2 <;> rw [e, e2] <;> omega
    · rcases spZ_pm k r with e | e <;> rw [e] <;> omega
theorem lnkT_in {A : St} (hA : A.ok) (w : Bool) (k t r : Nat) : -2 ≤ A.lnkT w k t r ∧ A.lnkT w k t r ≤ 2 := by
  obtain ⟨-, -, -, h1, -, -, -, -⟩ := hA
  unfold St.lnkT
  cases w with
  | true => rw [if_pos rfl]; split <;> omega
  | false =>
    rw [if_neg (by decide)]
    rcases spZ_pm k r with e | e <;> rcases spZ_pm t r with e2 | e2 <;> rw [e, e2] <;> omega
theorem col_in {A : St} (hA : A.ok) (w : Bool) (c k : Nat) : -15 ≤ A.col w c k ∧ A.col w c k ≤ 15 := by
  have hR := hA.2.1
  have h1 := sumZ_le (n := A.R) (f := A.colT w c k) (b := 5) (fun i _ => (colT_in hA w c k i).2)
  have h2 := sumZ_ge (n := A.R) (f := A.colT w c k) (b := -5) (fun i _ => (colT_in hA w c k i).1)
  unfold St.col
  omega
theorem lnk_in {A : St} (hA : A.ok) (w : Bool) (k t : Nat) : -6 ≤ A.lnk w k t ∧ A.lnk w k t ≤ 6 := by
  have hR := hA.2.1
  have h1 := sumZ_le (n := A.R) (f := A.lnkT w k t) (b := 2) (fun i _ => (lnkT_in hA w k t i).2)
  have h2 := sumZ_ge (n := A.R) (f := A.lnkT w k t) (b := -2) (fun i _ => (lnkT_in hA w k t i).1)
  unfold St.lnk
  omega
theorem ni_add {a b : Nat} {m : Int} (h : (b : Int) = a + m) : nI a + iI m = nI b := by
  rw [iI_nI, iI_nI, iI_add, h]
def St.mo (A : St) (w : Bool) (c s t : Nat) : Int := A.lnk w s t + A.col w (c + 1) t
theorem WE_step (A : St) (w : Bool) (P : Nat → Bool) {c s t : Nat} (hs : s < 2 ^ A.R) (e : Int) : A.WE w P c s e ≤ A.WE w P (c + 1) t (e + A.mo w c s t) := by
  have h := sumN_term (f := fun s' => A.WE w P c s' (e + A.mo w c s t - (A.lnk w s' t + A.col w (c + 1) t))) hs
  have h : A.WE w P c s (e + A.mo w c s t - A.mo w c s t) ≤ A.WE w P (c + 1) t (e + A.mo w c s t) := h
  rw [Int.add_sub_cancel] at h
  exact h
