
/-! the reference: acts on the row of numbers; each answers and tells the row that is left -/
def inr (v l h : Int32) : Bool := decide (l ≤ v ∧ v ≤ h)
theorem inr_of {v : Int32} {a b : Nat} (hb : b < 2 ^ 31) (h : inr v (nI a) (nI b) = true) (ha : a ≤ b) : ∃ j, a ≤ j ∧ j ≤ b ∧ v = nI j := by
  unfold inr at h
  rw [decide_eq_true_eq] at h
  obtain ⟨h1, h2⟩ := h
  have h0 : ¬ v < 0 := fun q => by
    have q1 := Int32.le_iff_toInt_le.mp h1
    have q2 := Int32.lt_iff_toInt_lt.mp q
    rw [nI_toInt (by omega)] at q1
    have : (0 : Int32).toInt = 0 := rfl
    omega
  obtain ⟨j, hj, rfl⟩ := nI_of h0
  exact ⟨j, (nI_leI (by omega) (by omega)).mp h1, (nI_leI (by omega) (by omega)).mp h2, rfl⟩
theorem inr_nat {a b j : Nat} (hj : j < 2 ^ 31) (hb : b < 2 ^ 31) (h1 : a ≤ j) (h2 : j ≤ b) : inr (nI j) (nI a) (nI b) = true := by
  unfold inr
  rw [decide_eq_true_eq]
  exact ⟨(nI_leI (by omega) (by omega)).mpr h1, (nI_leI (by omega) (by omega)).mpr h2⟩
/-- lines of at most five -/
def N5 (Z : MI) : Prop := ∀ k, k < 4 → ∃ m, m ≤ 5 ∧ Z k 0 = nI m
def pAdd (Z : MI) (k m : Nat) (a w d : Int32) : MI := xuI (xuI (xuI (xuI Z k (7 + 3 * m) a) k (7 + 3 * m + 1) w) k (7 + 3 * m + 2) d) k 0 (nI (m + 1))
def pSay (Z : MI) (s a w d : Int32) : Int32 × MI :=
  if inr s (nI 0) (nI 3) = true then
    if inr a (nI 0) (nI 127) = true ∧ inr w (nI 0) (nI 255) = true ∧ (inr d (nI 0) (nI 255) = true ∨ d = -5) then
      if Z s.toNatClampNeg 0 = nI 5 then (-3, Z)
      else (nI ((Z s.toNatClampNeg 0).toNatClampNeg + 1), pAdd Z s.toNatClampNeg (Z s.toNatClampNeg 0).toNatClampNeg a w d)
    else (-2, Z)
  else (-1, Z)
def pTake (Z : MI) (s : Int32) : Int32 × MI :=
  if inr s (nI 0) (nI 3) = true then
    if Z s.toNatClampNeg 0 = nI 1 ∧ tk Z s.toNatClampNeg = true then (-4, Z)
    else if Z s.toNatClampNeg 0 = 0 then (-5, Z)
    else (Z s.toNatClampNeg 0 - nI 1, xuI (xuI Z s.toNatClampNeg 0 (Z s.toNatClampNeg 0 - nI 1)) s.toNatClampNeg 6 (if Z s.toNatClampNeg 0 = nI 1 then nI 0 else Z s.toNatClampNeg 6))
  else (-1, Z)
def ads (Z : MI) (k : Nat) : Bool := decide (¬ Z (4 + k) 0 = -5)
def pHear (Z : MI) (s a : Int32) : Int32 × MI :=
  if inr s (nI 0) (nI 3) = true then
    if inr a (nI 0) (nI 127) = true ∨ a = -5 then
      if ¬ a = -5 ∧ ¬ pLr (pLi Z a) = -5 ∧ ¬ pLr (pLi Z a) = s then (-4, Z)
      else if Z (4 + s.toNatClampNeg) 0 = a then (-5, Z)
      else (nI (cn (ads (xuI Z (4 + s.toNatClampNeg) 0 a)) 4), xuI Z (4 + s.toNatClampNeg) 0 a)
    else (-2, Z)
  else (-1, Z)
def pHold (Z : MI) (s t : Int32) : Int32 × MI :=
  if inr s (nI 0) (nI 3) = true then
    if inr t (nI 0) (nI 9) = true then
      (if Z (4 + s.toNatClampNeg) 1 = t then -5 else Z (4 + s.toNatClampNeg) 1, xuI Z (4 + s.toNatClampNeg) 1 t)
    else (-2, Z)
  else (-1, Z)
def pStick (Z : MI) (s t : Int32) : Int32 × MI :=
  if inr s (nI 0) (nI 3) = true then
    if inr t (nI 1) (nI 99) = true then (nI (cn (stu (xuI Z (4 + s.toNatClampNeg) 2 t)) 4), xuI Z (4 + s.toNatClampNeg) 2 t)
    else (-2, Z)
  else (-1, Z)
def pMost (v : Int32) : Int32 := if v = 0 then nI 20 else if v = nI 1 then nI 9 else nI 99
def pSet (Z : MI) (w v : Int32) : Int32 × MI :=
  if inr w (nI 0) (nI 2) = true then
    if inr v (nI 1) (pMost w) = true then (if Z 8 w.toNatClampNeg = v then -5 else Z 8 w.toNatClampNeg, xuI Z 8 w.toNatClampNeg v)
    else (-2, Z)
  else (-1, Z)
def pTk (Z : MI) : Nat → MI
  | 0 => Z
  | j + 1 => pTick (pTk Z j)
def pCame (Z : MI) : Int32 := sm (fun j => Z j 2) 4
def pRun (Z : MI) (t : Int32) : Int32 × MI :=
  if inr t (nI 1) (nI 300) = true then
    if Z 8 3 + t ≤ nI 99999 then (pCame (pTk Z t.toNatClampNeg) - pCame Z, pTk Z t.toNatClampNeg)
    else (-3, Z)
  else (-2, Z)
/-- a row that is copied up to a place -/
def cpA (f h : Nat → Int32) (j : Nat) : Nat → Int32 := fun i => if i < j then f i else h i
theorem cpA_0 {f h : Nat → Int32} : cpA f h 0 = h := by funext i; simp [cpA]
theorem cpA_step {f h : Nat → Int32} {j : Nat} : upd (cpA f h j) j (f j) = cpA f h (j + 1) := by
  funext i
  by_cases hi : i = j
  · subst hi; simp [upd, cpA]
  · simp only [upd, cpA, if_neg hi]
    by_cases h2 : i < j
    · rw [if_pos h2, if_pos (by omega)]
    · rw [if_neg h2, if_neg (by omega)]
/-- the history: rows one behind the other -/
def bS (β : Nat → Int32) (j : Nat) : Nat → Int32 := fun i => if i < j then β (375 + i) else β i
theorem bS_0 {β : Nat → Int32} : bS β 0 = β := by funext i; simp [bS]
theorem bS_step {β : Nat → Int32} {j : Nat} : upd (bS β j) j (bS β j (375 + j)) = bS β (j + 1) := by
  funext i
  by_cases hi : i = j
  · subst hi; simp only [upd, if_true, bS]; rw [if_neg (by omega), if_pos (by omega)]
  · simp only [upd, bS, if_neg hi]
    by_cases h2 : i < j
    · rw [if_pos h2, if_pos (by omega)]
    · rw [if_neg h2, if_neg (by omega)]
def bP (β α : Nat → Int32) (h j : Nat) : Nat → Int32 := fun i => if 375 * h ≤ i ∧ i < 375 * h + j then α (i - 375 * h) else β i
theorem bP_0 {β α : Nat → Int32} {h : Nat} : bP β α h 0 = β := by funext i; simp only [bP]; rw [if_neg (by omega)]
theorem bP_step {β α : Nat → Int32} {h j : Nat} : upd (bP β α h j) (375 * h + j) (α j) = bP β α h (j + 1) := by
  funext i
  by_cases hi : i = 375 * h + j
  · subst hi; simp only [upd, if_true, bP]; rw [if_pos (by omega)]; congr 1; omega
  · simp only [upd, bP, if_neg hi]
    by_cases h2 : 375 * h ≤ i ∧ i < 375 * h + j
    · rw [if_pos h2, if_pos (by omega)]
    · rw [if_neg h2, if_neg (by omega)]
def pRecB (β α : Nat → Int32) (h : Nat) : Nat → Int32 := if h = 4 then bP (bS β 1125) α 3 375 else bP β α h 375
def pRecF (φ : Nat → Int32) (h : Nat) : Nat → Int32 := if h = 4 then upd (upd φ 3 (nI 3)) 3 (nI (3 + 1)) else upd φ 3 (nI (h + 1))
section ML
variable {I : MI} {R : MR} {φ α β κ τ : Nat → Int32} {Z : MI}
end ML
