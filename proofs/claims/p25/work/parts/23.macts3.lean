
/-! the reference: hears, runs, and the public acts -/
theorem ad_add (Z : MI) (k n : Nat) : nI n + (if Z (4 + k) 0 = -5 then nI 0 else nI 1) = nI (n + if ads Z k = true then 1 else 0) := by
  unfold ads
  by_cases h : Z (4 + k) 0 = -5
  · rw [if_pos h, if_neg (by simpa using h), nI_add]
  · rw [if_neg h, if_pos (by simpa using h), nI_add]
section ML
variable {I : MI} {R : MR} {φ α β κ τ : Nat → Int32} {Z : MI}
/-- an act's end: the row that is left; what was before it into the history, if it answers no error -/
def aM (I : MI) (φ : Nat → Int32) (Z : MI) (α β κ τ : Nat → Int32) (h : Nat) (p : Int32 × MI) : MI := if p.1 < 0 then MM I φ p.2 (cpA (zf Z) α 375) β κ τ else MM I (pRecF φ h) p.2 (cpA (zf Z) α 375) (pRecB β (cpA (zf Z) α 375) h) κ τ
end ML
