
/-! the reference: the acts -/
theorem bi_t {b : Bool} (h : bi b = 0) : ¬ b = true := by rw [bi_0.mp h]; decide
theorem nI_sub1 {m : Nat} (h : 1 ≤ m) : nI m - nI 1 = nI (m - 1) := nI_sub h
section ML
variable {I : MI} {R : MR} {φ α β κ τ : Nat → Int32} {Z : MI}
end ML
