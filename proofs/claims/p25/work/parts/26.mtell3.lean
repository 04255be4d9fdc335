
/-! the reference: count, the text's letters, history, snapshot, the latest stop -/
theorem pCnt_out {Z : MI} {h l w : Int32} (ho : w.toInt < 0 ∨ ((15 : Nat) : Int) < w.toInt) : pCnt Z h l w = -2 := by
  unfold pCnt
  have q : ∀ j, j ≤ 15 → ¬ w = nI j := fun j hj => tab_ne (n := 15) (by omega) ho hj
  rw [if_neg (q 0 (by omega)), if_neg (q 1 (by omega)), if_neg (q 2 (by omega)), if_neg (q 3 (by omega)), if_neg (q 4 (by omega)), if_neg (q 5 (by omega)), if_neg (q 6 (by omega)), if_neg (q 7 (by omega)), if_neg (q 8 (by omega)), if_neg (q 9 (by omega)), if_neg (q 10 (by omega)), if_neg (q 11 (by omega)), if_neg (q 12 (by omega)), if_neg (q 13 (by omega)), if_neg (q 14 (by omega)), if_neg (q 15 (by omega))]
section ML
variable {I : MI} {R : MR} {φ α β κ τ : Nat → Int32} {Z : MI}
/-- the row that restore brings -/
def pRs (κ : Nat → Int32) (Z : MI) : MI := uz (cpA κ (zf Z) 375)
end ML
