theorem prs_step {ch : Nat → Nat} {n i : Nat} {s : Ps} (h : i < n) : prs ch (n - i) i s = match s.step (ch i) with
    | none => .inl i
    | some s' => prs ch (n - (i + 1)) (i + 1) s' := by
  rw [show n - i = (n - (i + 1)) + 1 by omega, prs]
  cases s.step (ch i) <;> rfl
