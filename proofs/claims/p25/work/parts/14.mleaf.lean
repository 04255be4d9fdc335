
/-! the reference: leaves -/
def pBits (v : Int32) : Nat := if v = -5 then 18 else 27
def tk (Z : MI) (k : Nat) : Bool := decide (Z k 1 = 1)
/-- the value of a part of a speaker's first message -/
def pVal (Z : MI) (k q : Nat) : Int32 := if q = 0 then 2 * Z k 7 else Z k (7 + q)
def pBit (Z : MI) (k p : Nat) : Int32 := (pVal Z k (p / 9)) >>> ((nI 7 - nI (p % 9)) &&& 31) &&& 1
section ML
variable {I : MI} {R : MR} {φ α β κ τ : Nat → Int32} {Z : MI}
end ML
