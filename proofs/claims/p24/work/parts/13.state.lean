/-! A STATE OF THE STRIP, as numbers: columns, rows, ring (0, 1), pull along, pull across, the spins of each column as bits, the fields by column and row, the count of turned cells -/
abbrev St : Type := Nat × Nat × Nat × Int × Int × (Nat → Nat) × (Nat → Nat → Int) × Int32
def St.C (A : St) : Nat := A.1
def St.R (A : St) : Nat := A.2.1
def St.g (A : St) : Nat := A.2.2.1
def St.al (A : St) : Int := A.2.2.2.1
def St.ac (A : St) : Int := A.2.2.2.2.1
def St.sp (A : St) : Nat → Nat := A.2.2.2.2.2.1
def St.fd (A : St) : Nat → Nat → Int := A.2.2.2.2.2.2.1
def St.tu (A : St) : Int32 := A.2.2.2.2.2.2.2
def St.ok (A : St) : Prop := (1 ≤ A.C ∧ A.C ≤ 10) ∧ (1 ≤ A.R ∧ A.R ≤ 3) ∧ A.g ≤ 1 ∧ (-2 ≤ A.al ∧ A.al ≤ 2) ∧ (-2 ≤ A.ac ∧ A.ac ≤ 2) ∧ (∀ c, A.sp c < 2 ^ A.R) ∧ (∀ c, A.C ≤ c → A.sp c = 0) ∧ ∀ c r, -3 ≤ A.fd c r ∧ A.fd c r ≤ 3
/-- the last column and the first one are neighbours -/
def St.lp (A : St) : Bool := decide (A.g = 1 ∧ 3 ≤ A.C)
/-- a spin -/
def St.s (A : St) (c r : Nat) : Int := if (A.sp c).testBit r then 1 else -1
def St.prv (A : St) (c : Nat) : Option Nat := if 0 < c then some (c - 1) else if A.lp then some (A.C - 1) else none
def St.nxt (A : St) (c : Nat) : Option Nat := if c + 1 < A.C then some (c + 1) else if A.lp then some 0 else none
/-- what a column's neighbours along, across add up to -/
def St.so (A : St) (o : Option Nat) (r : Nat) : Int := match o with
  | none => 0
  | some c => A.s c r
def St.sA (A : St) (c r : Nat) : Int := A.so (A.prv c) r + A.so (A.nxt c) r
def St.sX (A : St) (c r : Nat) : Int := (if 0 < r then A.s c (r - 1) else 0) + (if r + 1 < A.R then A.s c (r + 1) else 0)
def St.gain (A : St) (c r : Nat) : Int := -2 * A.s c r * (A.al * A.sA c r + A.ac * A.sX c r + A.fd c r)
theorem St.s_pm (A : St) (c r : Nat) : A.s c r = 1 ∨ A.s c r = -1 := by unfold St.s; split <;> simp
theorem St.so_in (A : St) (o : Option Nat) (r : Nat) : -1 ≤ A.so o r ∧ A.so o r ≤ 1 := by
  cases o with
  | none => simp [St.so]
  | some c => rcases A.s_pm c r with h | h <;> simp [St.so, h]
theorem St.sA_in (A : St) (c r : Nat) : -2 ≤ A.sA c r ∧ A.sA c r ≤ 2 := by
  have h1 := A.so_in (A.prv c) r
  have h2 := A.so_in (A.nxt c) r
  unfold St.sA; omega
theorem St.sX_in (A : St) (c r : Nat) : -2 ≤ A.sX c r ∧ A.sX c r ≤ 2 := by
  have h1 := A.s_pm c (r - 1)
  have h2 := A.s_pm c (r + 1)
  unfold St.sX; split <;> split <;> omega
theorem mul_in {a b A B : Int} (h1 : -A ≤ a) (h2 : a ≤ A) (h3 : -B ≤ b) (h4 : b ≤ B) : -(A * B) ≤ a * b ∧ a * b ≤ A * B := by
  have hA : 0 ≤ A := by omega
  have hB : 0 ≤ B := by omega
  have e : (a * b).natAbs ≤ (A * B).natAbs := by
    rw [Int.natAbs_mul, Int.natAbs_mul]
    exact Nat.mul_le_mul (by omega) (by omega)
  have h0 : 0 ≤ A * B := Int.mul_nonneg hA hB
  omega
theorem St.pull_in {A : St} (h : A.ok) (c r : Nat) : -11 ≤ A.al * A.sA c r + A.ac * A.sX c r + A.fd c r ∧ A.al * A.sA c r + A.ac * A.sX c r + A.fd c r ≤ 11 := by
  obtain ⟨-, -, -, h1, h2, -, -, h3⟩ := h
  have a1 := mul_in (A := 2) (B := 2) h1.1 h1.2 (A.sA_in c r).1 (A.sA_in c r).2
  have a2 := mul_in (A := 2) (B := 2) h2.1 h2.2 (A.sX_in c r).1 (A.sX_in c r).2
  have a3 := h3 c r
  omega
theorem St.gain_in {A : St} (h : A.ok) (c r : Nat) : -22 ≤ A.gain c r ∧ A.gain c r ≤ 22 := by
  have h1 := A.pull_in h c r
  rcases A.s_pm c r with e | e <;> (unfold St.gain; rw [e]; omega)
/-! the bits -/
def upsN (sp : Nat → Nat) (n : Nat) : Nat := sumN n (fun c => sp c * 16 ^ c)
def mskN (C R : Nat) : Nat := upsN (fun _ => 2 ^ R - 1) C
theorem upsN_succ (sp : Nat → Nat) (n : Nat) : upsN sp (n + 1) = 2 ^ (4 * n) * sp n + upsN sp n := by
  show sumN n _ + sp n * 16 ^ n = _
  rw [Nat.pow_mul, Nat.add_comm, Nat.mul_comm (sp n)]; rfl
theorem upsN_lt {sp : Nat → Nat} (h : ∀ c, sp c < 16) : ∀ n, upsN sp n < 2 ^ (4 * n)
  | 0 => by simp [upsN, sumN]
  | n + 1 => by
    rw [upsN_succ]
    have h1 := upsN_lt h n
    have h2 := h n
    have e : 2 ^ (4 * (n + 1)) = 2 ^ (4 * n) * 16 := by rw [Nat.mul_add, Nat.pow_add]
    rw [e]
    have h3 : 2 ^ (4 * n) * sp n + 2 ^ (4 * n) ≤ 2 ^ (4 * n) * 16 := by
      rw [← Nat.mul_succ]; exact Nat.mul_le_mul_left _ h2
    omega
theorem upsN_bit {sp : Nat → Nat} (h : ∀ c, sp c < 16) (p : Nat) : ∀ n, (upsN sp n).testBit p = (decide (p / 4 < n) && (sp (p / 4)).testBit (p % 4))
  | 0 => by simp [upsN, sumN]
  | n + 1 => by
    rw [upsN_succ, Nat.testBit_two_pow_mul_add _ (upsN_lt h n)]
    by_cases hp : p < 4 * n
    · rw [if_pos hp, upsN_bit h p n]
      have h1 : p / 4 < n := by omega
      have h2 : p / 4 < n + 1 := by omega
      simp [h1, h2]
    · rw [if_neg hp]
      by_cases h3 : p / 4 < n + 1
      · have e : p / 4 = n := by omega
        have e2 : p - 4 * n = p % 4 := by omega
        simp [h3, e, e2]
      · have h5 : sp n < 2 ^ (p - 4 * n) := Nat.lt_of_lt_of_le (h n) (show 16 ≤ 2 ^ (p - 4 * n) from Nat.pow_le_pow_right (show 2 > 0 by decide) (show 4 ≤ p - 4 * n by omega))
        simp [h3, Nat.testBit_lt_two_pow h5]
theorem pow8 {R : Nat} (h : R ≤ 3) : 2 ^ R ≤ 8 := Nat.pow_le_pow_right (show 2 > 0 by decide) h
theorem mskN_bit {C R : Nat} (hR : R ≤ 3) (p : Nat) : (mskN C R).testBit p = (decide (p / 4 < C) && decide (p % 4 < R)) := by
  have := pow8 hR
  rw [mskN, upsN_bit (fun _ => by omega), Nat.testBit_two_pow_sub_one]
theorem mskN_lt {C R : Nat} (hC : C ≤ 10) (hR : R ≤ 3) : mskN C R < 2 ^ 40 :=
  Nat.lt_of_lt_of_le (upsN_lt (fun _ => by have := pow8 hR; omega) C) (Nat.pow_le_pow_right (by first | decide | exact lt_c (by decide)) (by omega))
def St.U (A : St) : Nat := upsN A.sp 10
theorem St.sp16 {A : St} (h : A.ok) (c : Nat) : A.sp c < 16 := by
  have h1 := h.2.2.2.2.2.1 c
  have := pow8 h.2.1.2
  omega
theorem St.U_lt {A : St} (h : A.ok) : A.U < 2 ^ 40 := upsN_lt (A.sp16 h) 10
theorem St.U_bit {A : St} (h : A.ok) (p : Nat) : A.U.testBit p = (A.sp (p / 4)).testBit (p % 4) := by
  rw [St.U, upsN_bit (A.sp16 h)]
  by_cases hp : p / 4 < 10
  · simp [hp]
  · have e := h.2.2.2.2.2.2.1 (p / 4) (by have := h.1.2; omega)
    simp [hp, e]
theorem St.U_cr {A : St} (h : A.ok) (c : Nat) {r : Nat} (hr : r < 4) : A.U.testBit (4 * c + r) = (A.sp c).testBit r := by
  rw [A.U_bit h, show (4 * c + r) / 4 = c by omega, show (4 * c + r) % 4 = r by omega]
theorem St.U_sub {A : St} (h : A.ok) (p : Nat) : A.U.testBit p = true → (mskN A.C A.R).testBit p = true := by
  intro hp
  rw [A.U_bit h] at hp
  rw [mskN_bit h.2.1.2]
  have h1 : p / 4 < A.C := by
    apply Nat.lt_of_not_le
    intro q
    rw [h.2.2.2.2.2.2.1 _ q] at hp
    simp at hp
  have h2 : p % 4 < A.R := by
    apply Nat.lt_of_not_le
    intro q
    rw [Nat.testBit_lt_two_pow (Nat.lt_of_lt_of_le (h.2.2.2.2.2.1 (p / 4)) (Nat.pow_le_pow_right (by first | decide | exact lt_c (by decide)) q))] at hp
    cases hp
  simp [h1, h2]
/-- the strip's object and its row of fields -/
def stO (A : St) (fr : Nat) : PC := pO 4 [.int (nI A.C), .int (nI A.R), .int (nI A.g), .int (iI A.al), .int (iI A.ac), .long (lN (mskN A.C A.R)), .long (lN A.U), .int A.tu, .ref fr]
def stF (A : St) (f : Nat → Int32) : Prop := ∀ c r, c < A.C → r < A.R → f (4 * c + r) = iI (A.fd c r)
/-! bits of lN words -/
theorem and_lt {a b k : Nat} (h : b < 2 ^ k) : a &&& b < 2 ^ k := Nat.lt_of_le_of_lt Nat.and_le_right h
theorem bit_test {U k : Nat} (hU : U < 2 ^ 63) (hk : k < 63) : lg_cmp (lN U &&& lN (2 ^ k)) (lN 0) = 0 ↔ U.testBit k = false := by
  have h1 : 2 ^ k < 2 ^ 63 := Nat.pow_lt_pow_right (by first | decide | exact lt_c (by decide)) hk
  rw [wb_and (by omega) (by omega)]
  have h2 : U &&& 2 ^ k < 2 ^ 63 := and_lt h1
  have e : lN (U &&& 2 ^ k) = lN 0 ↔ U &&& 2 ^ k = 0 := pk_lEQ h2 (by first | decide | exact lt_c (by decide))
  have e2 : U &&& 2 ^ k = 0 ↔ U.testBit k = false := by
    constructor
    · intro q
      have := congrArg (fun z => z.testBit k) q
      simpa [Nat.testBit_and, Nat.testBit_two_pow] using this
    · intro q
      apply Nat.eq_of_testBit_eq
      intro i
      rw [Nat.testBit_and, Nat.testBit_two_pow, Nat.zero_testBit]
      by_cases h : k = i
      · subst h; simp [q]
      · simp [h]
  have e3 : lg_cmp (lN (U &&& 2 ^ k)) (lN 0) = 0 ↔ lN (U &&& 2 ^ k) = lN 0 := by
    unfold lg_cmp
    by_cases h : lN (U &&& 2 ^ k) > lN 0
    · rw [if_pos h]
      constructor
      · intro q; exact absurd q (by first | decide | exact lt_c (by decide))
      · intro q; rw [q] at h; exact absurd h (by first | decide | exact lt_c (by decide))
    · rw [if_neg h]
      by_cases h' : lN (U &&& 2 ^ k) = lN 0
      · simp [h']
      · rw [if_neg h']
        constructor
        · intro q; exact absurd q (by first | decide | exact lt_c (by decide))
        · intro q; exact absurd q h'
  rw [e3, e, e2]
theorem lN_shl (n : Nat) {k : Nat} (hk : k < 64) : lN n <<< ((nI k).toInt64 &&& 63) = lN (n * 2 ^ k) := wb_shl n hk
