
/-! the reference: message, bit, emptyIn, ifRun, count, text, history, snapshot -/
theorem pTk_tick (Z : MI) : ∀ j, pTk (pTick Z) j = pTk Z (j + 1) := by
  intro j
  induction j with
  | zero => rfl
  | succ j ih => show pTick (pTk (pTick Z) j) = _; rw [ih]; rfl
theorem cpA_cpA {f h g : Nat → Int32} {n : Nat} : cpA (cpA f h n) g n = cpA f g n := by
  funext i
  simp only [cpA]
  by_cases h : i < n
  · simp [h]
  · simp [h]
theorem em_eq (a : Int32) (n : Nat) : (if (if a = 0 then nI 1 else nI 0) = 0 then -5 else nI n) = if a = 0 then nI n else -5 := by
  by_cases h : a = 0
  · rw [if_pos h, if_pos h, if_neg (by decide)]
  · rw [if_neg h, if_neg h, if_pos (by decide)]
/-- the row Z brought back over the row Y -/
def pBk (Z Y : MI) : MI := uz (cpA (zf Z) (zf Y) 375)
section ML
variable {I : MI} {R : MR} {φ α β κ τ : Nat → Int32} {Z : MI}
end ML
