theorem lt_c {k eN : Nat} (h : k < 114) : k < eN + 114 := Nat.lt_of_lt_of_le h (Nat.le_add_left _ _)
