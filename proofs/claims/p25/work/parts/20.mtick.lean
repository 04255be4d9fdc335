
/-! the reference: a tick -/
theorem cn_ex {p : Nat → Bool} {n : Nat} (h : ¬ cn p n = 0) : ∃ j, j < n ∧ p j = true := by
  induction n with
  | zero => exact absurd rfl h
  | succ n ih =>
    by_cases hp : p n = true
    · exact ⟨n, by omega, hp⟩
    · have h' : ¬ cn p n = 0 := fun q => h (by rw [cn_no (by simpa using hp), q])
      obtain ⟨j, h1, h2⟩ := ih h'
      exact ⟨j, by omega, h2⟩
theorem cn_congr {p q : Nat → Bool} {n : Nat} (h : ∀ j, j < n → p j = q j) : cn p n = cn q n := by
  induction n with
  | zero => rfl
  | succ n ih => show cn p n + _ = cn q n + _; rw [ih (fun j hj => h j (by omega)), h n (by omega)]
def ps (Z : MI) : Nat := (Z 8 7).toNatClampNeg
def lgn (Z : MI) : Nat := (Z 8 10).toNatClampNeg
def pZc (Z : MI) : MI := xuI Z 8 3 (Z 8 3 + nI 1)
def pZd (Z : MI) : MI := xuI (pZc Z) 8 6 (nI 0)
def pAns (Z : MI) : MI := match pLi (pZd Z) (Z (pFi Z) 7) with
  | none => pUa (pZd Z) (lgn Z) (ps Z)
  | some l => pAn (pZd Z) (lgn Z) (ps Z) l
def pTick (Z : MI) : MI :=
  if pNx Z (ps Z) = 4 then pSt (pZc Z) (ps Z)
  else if pNx Z (ps Z) = 3 then xuI (pZd Z) 8 4 (Z 8 4 - nI 1)
  else if pNx Z (ps Z) = 1 then pTb (pZd Z) (lgn Z) (ps Z)
  else if pNx Z (ps Z) = 0 then pTf (pZd Z)
  else pAns Z
theorem pNx_le {Z : MI} {p : Nat} : pNx Z p ≤ 4 := by unfold pNx; repeat (first | omega | split)
theorem pNx_tk {Z : MI} {p : Nat} (h : pNx Z p = 1 ∨ pNx Z p = 2) : ∃ j, j < 4 ∧ tk Z j = true := by
  refine cn_ex (fun q => ?_)
  unfold pNx at h
  rw [q] at h
  split at h
  · omega
  split at h
  · omega
  · rw [if_pos rfl] at h; omega
theorem pZd_row {Z : MI} {k : Nat} (h : k < 8) : pZd Z k = Z k := by unfold pZd pZc; rw [xuI_row (by omega), xuI_row (by omega)]
theorem pZd_8 {Z : MI} {b : Nat} (h3 : b ≠ 3) (h6 : b ≠ 6) : pZd Z 8 b = Z 8 b := by unfold pZd pZc; rw [xuI_at (by omega), xuI_at (by omega)]
theorem pFi_congr {Z Z' : MI} (h : ∀ k, k < 4 → Z' k = Z k) : pFi Z' = pFi Z := by unfold pFi; rw [tk_row (h 0 (by omega)), tk_row (h 1 (by omega)), tk_row (h 2 (by omega))]
section ML
variable {I : MI} {R : MR} {φ α β κ τ : Nat → Int32} {Z : MI}
end ML
