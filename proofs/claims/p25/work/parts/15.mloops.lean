
/-! the reference: loops over four -/
def cn (p : Nat → Bool) : Nat → Nat
  | 0 => 0
  | k + 1 => cn p k + (if p k = true then 1 else 0)
theorem cn_le (p : Nat → Bool) (k : Nat) : cn p k ≤ k := by
  induction k with
  | zero => exact Nat.le_refl 0
  | succ k ih => show cn p k + _ ≤ k + 1; split <;> omega
def sm (p : Nat → Int32) : Nat → Int32
  | 0 => nI 0
  | k + 1 => sm p k + p k
def stu (Z : MI) (k : Nat) : Bool := decide (0 < Z (4 + k) 2)
def pLi (Z : MI) (a : Int32) : Option Nat := if Z 4 0 = a then some 0 else if Z 5 0 = a then some 1 else if Z 6 0 = a then some 2 else if Z 7 0 = a then some 3 else none
def pLr (o : Option Nat) : Int32 := match o with
  | some k => nI k
  | none => -5
theorem pLi_some {Z : MI} {a : Int32} {k : Nat} (hk : k < 4) (h : ∀ j, j < k → ¬ Z (4 + j) 0 = a) (e : Z (4 + k) 0 = a) : pLi Z a = some k := by
  unfold pLi
  rcases (show k = 0 ∨ k = 1 ∨ k = 2 ∨ k = 3 by omega) with rfl | rfl | rfl | rfl
  · rw [if_pos e]
  · rw [if_neg (h 0 (by omega)), if_pos e]
  · rw [if_neg (h 0 (by omega)), if_neg (h 1 (by omega)), if_pos e]
  · rw [if_neg (h 0 (by omega)), if_neg (h 1 (by omega)), if_neg (h 2 (by omega)), if_pos e]
theorem pLi_none {Z : MI} {a : Int32} (h : ∀ j, j < 4 → ¬ Z (4 + j) 0 = a) : pLi Z a = none := by
  unfold pLi
  rw [if_neg (h 0 (by omega)), if_neg (h 1 (by omega)), if_neg (h 2 (by omega)), if_neg (h 3 (by omega))]
theorem pLi_spec {Z : MI} {a : Int32} {k : Nat} (h : pLi Z a = some k) : k < 4 ∧ Z (4 + k) 0 = a := by
  unfold pLi at h
  split at h
  · cases h; exact ⟨by omega, by assumption⟩
  split at h
  · cases h; exact ⟨by omega, by assumption⟩
  split at h
  · cases h; exact ⟨by omega, by assumption⟩
  split at h
  · cases h; exact ⟨by omega, by assumption⟩
  · cases h
def pFi (Z : MI) : Nat := if tk Z 0 = true then 0 else if tk Z 1 = true then 1 else if tk Z 2 = true then 2 else 3
theorem pFi_lt (Z : MI) : pFi Z < 4 := by unfold pFi; split; omega; split; omega; split <;> omega
theorem pFi_of {Z : MI} {k : Nat} (hk : k < 4) (h : ∀ j, j < k → tk Z j = false) (e : tk Z k = true) : pFi Z = k := by
  unfold pFi
  rcases (show k = 0 ∨ k = 1 ∨ k = 2 ∨ k = 3 by omega) with rfl | rfl | rfl | rfl
  · rw [if_pos e]
  · rw [if_neg (by simp [h 0 (by omega)]), if_pos e]
  · rw [if_neg (by simp [h 0 (by omega)]), if_neg (by simp [h 1 (by omega)]), if_pos e]
  · rw [if_neg (by simp [h 0 (by omega)]), if_neg (by simp [h 1 (by omega)]), if_neg (by simp [h 2 (by omega)])]
section ML
variable {I : MI} {R : MR} {φ α β κ τ : Nat → Int32} {Z : MI}
theorem pVal_eq {k p : Nat} (hp : p < 27) : (if nI (p / 9) = 0 then nI 2 * Z k (7 + 3 * 0 + 0) else Z k (7 + 3 * 0 + p / 9)) = pVal Z k (p / 9) := by
  unfold pVal
  by_cases h : p / 9 = 0
  · rw [if_pos h, if_pos (by rw [h]; rfl)]; rfl
  · rw [if_neg h, if_neg (nI_ne0 (by omega) (by omega))]
theorem st_add (k n : Nat) : nI n + (if Z (4 + k) 2 ≤ 0 then nI 0 else nI 1) = nI (n + if stu Z k = true then 1 else 0) := by
  unfold stu
  by_cases h : Z (4 + k) 2 ≤ 0
  · rw [if_pos h, if_neg (by simpa using h), nI_add]
  · rw [if_neg h, if_pos (by simpa using h), nI_add]
end ML
