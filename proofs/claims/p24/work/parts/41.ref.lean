/-! THE REFERENCE: its state -/
def moO (L k : Nat) (pl : Int32) (n : Nat) (sp rc rr : Int32) : PC := pO 8 [.ref 115, .ref 116, .ref 117, .int (nI L), .ref 118, .int (nI k), .ref 119, .ref 120, .ref 121, .ref 122, .ref 123, .ref 124, .ref 125, .ref 126, .ref 127, .ref 128, .ref 129, .ref 130, .int pl, .ref 131, .int (nI n), .int sp, .int rc, .int rr]
def MO (σ : Sto) : Prop := ∃ L k pl n sp rc rr, σ 114 = moO L k pl n sp rc rr
/-- a row of numbers that stands for a strip -/
def RA (g : Nat → Int32) (A : St) : Prop := g 0 = nI A.C ∧ g 1 = nI A.R ∧ g 2 = nI A.g ∧ g 3 = iI A.al ∧ g 4 = iI A.ac ∧ g 5 = A.tu ∧ (∀ c, c < 10 → g (6 + c) = nI (A.sp c)) ∧ ∀ c r, c < A.C → r < A.R → g (16 + (3 * c + r)) = iI (A.fd c r)
def XA (σ : Sto) (A : St) : Prop := A.ok ∧ ∃ g : Nat → Int32, σ 115 = pI .int 46 g ∧ RA g A
def spZ (k r : Nat) : Int := if k.testBit r then 1 else -1
