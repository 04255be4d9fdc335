
/-! the reference: a bit -/
def zer (Z : MI) (p k : Nat) : Bool := tk Z k && decide (pBit Z k p = 0)
def wr (Z : MI) (p : Nat) : Nat → Int32
  | 0 => nI 1
  | k + 1 => if zer Z p k = true then nI 0 else wr Z p k
theorem wr_step {Z : MI} {p k : Nat} {w : Int32} : (if bi (tk Z k) = 0 then w else if pBit Z k p = 0 then nI 0 else w) = if zer Z p k = true then nI 0 else w := by
  unfold zer
  cases h : tk Z k with
  | true =>
    rw [if_neg (show ¬ bi true = 0 by decide), Bool.true_and]
    by_cases h2 : pBit Z k p = 0
    · rw [if_pos h2, if_pos (decide_eq_true h2)]
    · rw [if_neg h2, if_neg (by simpa using h2)]
  | false => rw [if_pos (show bi false = 0 by decide), Bool.false_and, if_neg (by decide)]
theorem wr_0 {Z : MI} {p k : Nat} (h : wr Z p k = 0) : ∃ j, j < k ∧ zer Z p j = true := by
  induction k with
  | zero => exact absurd (show nI 1 = 0 from h) (by decide)
  | succ k ih =>
    by_cases hz : zer Z p k = true
    · exact ⟨k, by omega, hz⟩
    · have h' : (if zer Z p k = true then nI 0 else wr Z p k) = 0 := h
      rw [if_neg hz] at h'
      obtain ⟨j, h1, h2⟩ := ih h'
      exact ⟨j, by omega, h2⟩
theorem zer_stays {Z : MI} {p k j : Nat} (h : zer Z p k = true) : tk (pLo Z p j) k = true := by
  unfold zer at h
  rw [Bool.and_eq_true] at h
  have h0 : pBit Z k p = 0 := by simpa using h.2
  have hl : lsr Z p k = false := by unfold lsr; rw [h0]; rw [show decide ((0 : Int32) = 1) = false by decide, Bool.and_false]
  have : pLo Z p j k = Z k := by funext b; simp only [pLo]; rw [if_neg (fun q => by rw [hl] at q; cases q.2)]
  unfold tk at h ⊢
  rw [this]; exact h.1
def pHo (Z : MI) (o : Option Nat) : Int32 := match o with
  | some l => Z (4 + l) 1
  | none => nI 0
theorem nI_ne5 {l : Nat} (h : l < 2 ^ 31) : ¬ nI l = -5 := fun q => by
  have := congrArg Int32.toInt q
  rw [nI_toInt h] at this
  have h5 : (-5 : Int32).toInt = -5 := by decide
  rw [h5] at this
  omega
theorem pLr_ne {Z : MI} {a : Int32} (h : ¬ pLr (pLi Z a) = -5) : ∃ l, l < 4 ∧ pLi Z a = some l := by
  cases e : pLi Z a with
  | none => rw [e] at h; exact absurd rfl h
  | some l => exact ⟨l, (pLi_spec e).1, rfl⟩
theorem pHo_eq {Z : MI} {a : Int32} : (if pLr (pLi Z a) = -5 then nI 0 else pHo Z (pLi Z a)) = pHo Z (pLi Z a) := by
  cases e : pLi Z a with
  | none => exact if_pos rfl
  | some l => exact if_neg (show ¬ nI l = -5 from nI_ne5 (by have := (pLi_spec e).1; omega))
theorem pLa_ne {Z : MI} {L a b : Nat} {w i c l : Int32} (h : a ≠ 9) (h2 : ¬ (a = 8 ∧ b = 10)) : pLa Z L w i c l a b = Z a b := by simp [pLa, xuI, h, h2]
theorem pLog_ne {Z : MI} {L a b : Nat} {w i l : Int32} (h : a ≠ 9) (h2 : ¬ (a = 8 ∧ b = 10)) : pLog Z L w i l a b = Z a b := by
  unfold pLog
  split
  · rw [pLa_ne h h2]; simp [xuI, pSh, h, h2]
  · exact pLa_ne h h2
theorem pLog_row {Z : MI} {L a : Nat} {w i l : Int32} (h : a < 8) : pLog Z L w i l a = Z a := by funext b; exact pLog_ne (by omega) (by omega)
theorem xuI_row {Z : MI} {a k w : Nat} {v : Int32} (h : a ≠ k) : xuI Z k w v a = Z a := xuI_ne h
theorem tk_row {Z Z' : MI} {k : Nat} (h : Z k = Z' k) : tk Z k = tk Z' k := by simp only [tk, h]
/-- a bit is logged, and the place behind it prepared -/
def pB3 (Z : MI) (L p : Nat) (w l : Int32) : MI := xuI (pLog Z L w (nI 0) l) 8 7 (nI (p + 1))
def pBt (Z : MI) (L p : Nat) (w l : Int32) : MI := if (p + 1) % 9 = 8 then xuI (pB3 Z L p w l) 8 4 (pHo (pB3 Z L p w l) (pLi (pB3 Z L p w l) (pB3 Z L p w l (pFi (pB3 Z L p w l)) 7))) else pB3 Z L p w l
def pTb (Z : MI) (L p : Nat) : MI := if wr Z p 4 = 0 then pBt (pLo Z p 4) L p (wr Z p 4) (nI (cn (lsr Z p) 4)) else pBt Z L p (wr Z p 4) (nI 0)
section ML
variable {I : MI} {R : MR} {φ α β κ τ : Nat → Int32} {Z : MI}
end ML
