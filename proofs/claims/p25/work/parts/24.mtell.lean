
/-! the reference: what is told of the row of numbers -/
def pSpk (Z : MI) (s w : Int32) : Int32 := if inr s (nI 0) (nI 3) = true then if inr w (nI 0) (nI 6) = true then Z s.toNatClampNeg w.toNatClampNeg else -2 else -1
def pLsn (Z : MI) (s w : Int32) : Int32 := if inr s (nI 0) (nI 3) = true then if inr w (nI 0) (nI 4) = true then Z (4 + s.toNatClampNeg) w.toNatClampNeg else -2 else -1
def pTi (Z : MI) (k j : Nat) : Int32 := match pLi Z (Z k (7 + 3 * j + 0)) with
  | some l => nI (pBits (Z k (7 + 3 * j + 2))) + nI (pBits (Z k (7 + 3 * j + 2)) / 9) * Z (4 + l) 1
  | none => nI (pBits (Z k (7 + 3 * j + 2))) + nI 0
def pMsW (Z : MI) (k j : Nat) (w : Int32) : Int32 := if w = nI 0 then Z k (7 + 3 * j + 0) else if w = nI 1 then Z k (7 + 3 * j + 1) else if w = nI 2 then Z k (7 + 3 * j + 2) else if w = nI 3 then nI (pBits (Z k (7 + 3 * j + 2))) else if w = nI 4 then pTi Z k j else -2
def pMsg (Z : MI) (s p w : Int32) : Int32 := if inr s (nI 0) (nI 3) = true ∧ inr p (nI 0) (Z s.toNatClampNeg 0 - nI 1) = true then pMsW Z s.toNatClampNeg p.toNatClampNeg w else -1
def pBt2 (Z : MI) (b w : Int32) : Int32 := if b < 0 ∨ inr w (nI 0) (nI 3) = false then -2 else if b < Z 8 10 then Z 9 (4 * ((Z 8 10).toNatClampNeg - 1 - b.toNatClampNeg) + w.toNatClampNeg) else -5
def pMs (Z : MI) : Int32 := sm (fun j => Z j 0) 4
/-- after how many ticks no message is left; at most f -/
def emN (Z : MI) : Nat → Nat
  | 0 => 0
  | f + 1 => if pMs Z ≤ 0 then 0 else emN (pTick Z) f + 1
theorem emN_le (f : Nat) : ∀ Z : MI, emN Z f ≤ f := by
  induction f with
  | zero => intro Z; exact Nat.le_refl 0
  | succ f ih => intro Z; show (if pMs Z ≤ 0 then 0 else emN (pTick Z) f + 1) ≤ f + 1; split; omega; have := ih (pTick Z); omega
def pEmp (Z : MI) : Int32 := if pMs (pTk Z (emN Z 1000)) = 0 then nI (emN Z 1000) else -5
def pIf (Z : MI) (s t : Int32) : Int32 := if inr s (nI 0) (nI 3) = true then if inr t (nI 1) (nI 300) = true then pTk Z t.toNatClampNeg s.toNatClampNeg 2 - Z s.toNatClampNeg 2 else -2 else -1
def pCnt (Z : MI) (h : Int32) (l : Int32) (w : Int32) : Int32 :=
  if w = nI 0 then Z 8 3 else if w = nI 1 then nI (cn (tk Z) 4) else if w = nI 2 then nI (pNx Z (ps Z)) else if w = nI 3 then Z 8 4 else if w = nI 4 then Z 8 5 else if w = nI 5 then Z 8 6 else if w = nI 6 then Z 8 7 else if w = nI 7 then pMs Z else if w = nI 8 then pCame Z
  else if w = nI 9 then Z 8 8 else if w = nI 10 then Z 8 9 else if w = nI 11 then Z 8 0 else if w = nI 12 then Z 8 1 else if w = nI 13 then Z 8 2 else if w = nI 14 then h else if w = nI 15 then l else -2
def pStp (a b w : Int32) : Int32 := if inr w (nI 0) (nI 1) = true then (if a = -5 then -5 else if w = 0 then a else b) else -2
theorem tab_split (w : Int32) (n : Nat) (hn : n < 2 ^ 30) : (∃ j, j ≤ n ∧ w = nI j) ∨ (w.toInt < 0 ∨ (n : Int) < w.toInt) := by
  by_cases h1 : w.toInt < 0
  · exact Or.inr (Or.inl h1)
  · by_cases h2 : (n : Int) < w.toInt
    · exact Or.inr (Or.inr h2)
    · left
      have h0 : ¬ w < 0 := fun q => by
        have := Int32.lt_iff_toInt_lt.mp q
        have h00 : (0 : Int32).toInt = 0 := rfl
        omega
      obtain ⟨j, hj, rfl⟩ := nI_of h0
      rw [nI_toInt hj] at h2
      exact ⟨j, by omega, rfl⟩
theorem tab_ne {w : Int32} {n j : Nat} (hn : n < 2 ^ 30) (h : w.toInt < 0 ∨ (n : Int) < w.toInt) (hj : j ≤ n) : ¬ w = nI j := by
  rintro rfl
  rw [nI_toInt (by omega)] at h
  omega
section ML
variable {I : MI} {R : MR} {φ α β κ τ : Nat → Int32} {Z : MI}
theorem pBits_le (v : Int32) : pBits v ≤ 27 := by unfold pBits; split <;> omega
end ML
