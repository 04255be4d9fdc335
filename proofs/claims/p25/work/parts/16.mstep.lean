
/-! the reference: pieces of a tick -/
def rw1 (Z : MI) (k : Nat) (f : Nat → Int32) : MI := fun a => if a = k then f else Z a
theorem rw1_self {Z : MI} {k : Nat} {f : Nat → Int32} : rw1 Z k f k = f := by simp [rw1]
theorem rw1_ne {Z : MI} {k a : Nat} {f : Nat → Int32} (h : a ≠ k) : rw1 Z k f a = Z a := by simp [rw1, h]
/-- a line without its first message; m are left -/
def dRow (r : Nat → Int32) (m : Nat) : Nat → Int32 := fun b => if b = 0 then nI m else if b = 6 then 0 else if 7 ≤ b ∧ b < 7 + 3 * m then r (b + 3) else r b
def pDr (Z : MI) (k j : Nat) : MI := fun a b => if a = k ∧ 7 ≤ b ∧ b < 7 + j then Z k (b + 3) else Z a b
theorem xuI_self {Z : MI} {k w : Nat} {v : Int32} : xuI Z k w v k w = v := by simp [xuI]
theorem pDr_step {Z : MI} {k j : Nat} : xuI (pDr Z k j) k (7 + j) (pDr Z k j k (7 + j + 3)) = pDr Z k (j + 1) := by
  funext a b
  by_cases h : a = k ∧ b = 7 + j
  · obtain ⟨rfl, rfl⟩ := h
    rw [xuI_self]
    show (if a = a ∧ 7 ≤ 7 + j + 3 ∧ 7 + j + 3 < 7 + j then Z a (7 + j + 3 + 3) else Z a (7 + j + 3)) = (if a = a ∧ 7 ≤ 7 + j ∧ 7 + j < 7 + (j + 1) then Z a (7 + j + 3) else Z a (7 + j))
    rw [if_neg (by omega), if_pos ⟨rfl, by omega, by omega⟩]
  · rw [xuI_at h]
    simp only [pDr]
    by_cases h2 : a = k ∧ 7 ≤ b ∧ b < 7 + j
    · rw [if_pos h2, if_pos (by omega)]
    · rw [if_neg h2, if_neg (by omega)]
theorem pDr_0 {Z : MI} {k : Nat} : pDr Z k 0 = Z := by funext a b; simp only [pDr]; rw [if_neg (by omega)]
theorem pDr_end {Z : MI} {k m : Nat} : xuI (pDr (xuI Z k 0 (nI m)) k (3 * m)) k 6 (nI 0) = rw1 Z k (dRow (Z k) m) := by
  funext a b
  by_cases ha : a = k
  · subst ha
    rw [rw1_self]
    by_cases h6 : b = 6
    · subst h6; simp [xuI, dRow]; rfl
    · by_cases h0 : b = 0
      · subst h0; simp [xuI, dRow, pDr]
      · by_cases h7 : 7 ≤ b ∧ b < 7 + 3 * m
        · simp [xuI, dRow, pDr, h6, h0, h7]
        · have h8 : ¬ (7 ≤ b ∧ b < 7 + 3 * m) := h7
          simp only [xuI, dRow, pDr, h6, h0, and_false, if_false, true_and, if_neg h8]
  · rw [rw1_ne ha]
    simp [xuI, pDr, ha]
def lsr (Z : MI) (p k : Nat) : Bool := tk Z k && decide (pBit Z k p = 1)
def pLo (Z : MI) (p k : Nat) : MI := fun a b => if a < k ∧ lsr Z p a = true then (if b = 1 then 0 else if b = 3 then Z a 3 + 1 else Z a b) else Z a b
theorem pLo_ge {Z : MI} {p k a : Nat} (h : k ≤ a) : pLo Z p k a = Z a := by funext b; simp only [pLo]; rw [if_neg (by omega)]
theorem pLo_0 {Z : MI} {p : Nat} : pLo Z p 0 = Z := by funext a b; simp only [pLo]; rw [if_neg (by omega)]
theorem pLo_tk {Z : MI} {p k : Nat} : tk (pLo Z p k) k = tk Z k := by simp only [tk, pLo_ge (Nat.le_refl k)]
theorem pBit_row {Z Z' : MI} {k p : Nat} (h : Z k = Z' k) : pBit Z k p = pBit Z' k p := by simp only [pBit, pVal, h]
theorem pLo_yes {Z : MI} {p k : Nat} (h : lsr Z p k = true) : xuI (xuI (pLo Z p k) k 1 (nI 0)) k 3 (xuI (pLo Z p k) k 1 (nI 0) k 3 + nI 1) = pLo Z p (k + 1) := by
  funext a b
  by_cases ha : a = k
  · subst ha
    by_cases h3 : b = 3
    · subst h3; simp [xuI, pLo, h]; rfl
    · by_cases h1 : b = 1
      · subst h1; simp [xuI, pLo, h]; rfl
      · simp [xuI, pLo, h, h1, h3]
  · simp only [xuI, pLo, ha, false_and, if_false]
    by_cases h2 : a < k ∧ lsr Z p a = true
    · rw [if_pos h2, if_pos (show a < k + 1 ∧ lsr Z p a = true from ⟨by omega, h2.2⟩)]
    · rw [if_neg h2, if_neg (fun q => h2 ⟨by omega, q.2⟩)]
theorem pLo_no {Z : MI} {p k : Nat} (h : lsr Z p k = false) : pLo Z p k = pLo Z p (k + 1) := by
  funext a b
  simp only [pLo]
  by_cases h2 : a < k ∧ lsr Z p a = true
  · rw [if_pos h2, if_pos (show a < k + 1 ∧ lsr Z p a = true from ⟨by omega, h2.2⟩)]
  · rw [if_neg h2, if_neg (fun q => ?_)]
    by_cases ha : a = k
    · subst ha; rw [h] at q; cases q.2
    · exact h2 ⟨by omega, q.2⟩
theorem cn_yes {p : Nat → Bool} {k : Nat} (h : p k = true) : cn p (k + 1) = cn p k + 1 := by show cn p k + _ = _; rw [if_pos h]
theorem cn_no {p : Nat → Bool} {k : Nat} (h : p k = false) : cn p (k + 1) = cn p k := by show cn p k + _ = _; rw [if_neg (by rw [h]; decide)]; rfl
theorem lsr_t {Z : MI} {p k : Nat} (h1 : ¬ bi (tk Z k) = 0) (h2 : pBit Z k p = nI 1) : lsr Z p k = true := by
  unfold lsr
  have : tk Z k = true := by cases h : tk Z k with | true => rfl | false => rw [h] at h1; exact absurd rfl h1
  rw [this, Bool.true_and]
  exact decide_eq_true h2
theorem lsr_f1 {Z : MI} {p k : Nat} (h1 : bi (tk Z k) = 0) : lsr Z p k = false := by unfold lsr; rw [bi_0.mp h1]; rfl
theorem lsr_f2 {Z : MI} {p k : Nat} (h2 : ¬ pBit Z k p = nI 1) : lsr Z p k = false := by unfold lsr; rw [decide_eq_false (show ¬ pBit Z k p = 1 from h2), Bool.and_false]
def pEn (Z : MI) : MI := if cn (tk Z) 4 = 0 then xuI (xuI (xuI Z 8 7 (nI 0)) 8 4 (nI 0)) 8 5 (nI 0) else Z
def pSh (Z : MI) (j : Nat) : MI := fun a b => if a = 9 ∧ b < j then Z 9 (b + 4) else Z a b
theorem pSh_step {Z : MI} {j : Nat} : xuI (pSh Z j) 9 j (pSh Z j 9 (j + 4)) = pSh Z (j + 1) := by
  funext a b
  by_cases h : a = 9 ∧ b = j
  · obtain ⟨rfl, rfl⟩ := h
    rw [xuI_self]
    show (if 9 = 9 ∧ b + 4 < b then Z 9 (b + 4 + 4) else Z 9 (b + 4)) = (if 9 = 9 ∧ b < b + 1 then Z 9 (b + 4) else Z 9 b)
    rw [if_neg (by omega), if_pos ⟨rfl, by omega⟩]
  · rw [xuI_at h]
    simp only [pSh]
    by_cases h2 : a = 9 ∧ b < j
    · rw [if_pos h2, if_pos (by omega)]
    · rw [if_neg h2, if_neg (by omega)]
theorem pSh_0 {Z : MI} : pSh Z 0 = Z := by funext a b; simp only [pSh]; rw [if_neg (by omega)]
/-- one more row of the log; L rows there -/
def pLa (Z : MI) (L : Nat) (w i c l : Int32) : MI := xuI (xuI (xuI (xuI (xuI Z 9 (4 * L) w) 9 (4 * L + 1) i) 9 (4 * L + 2) c) 9 (4 * L + 3) l) 8 10 (nI (L + 1))
def pLog (Z : MI) (L : Nat) (w i l : Int32) : MI := if L = 64 then pLa (xuI (pSh Z 252) 8 10 (nI 63)) 63 w i (Z 8 3) l else pLa Z L w i (Z 8 3) l
def pNx (Z : MI) (p : Nat) : Nat := if cn (stu Z) 4 ≠ 0 then 4 else if 0 < Z 8 4 then 3 else if cn (tk Z) 4 = 0 then 0 else if p % 9 = 8 then 2 else 1
section XK
variable {g : GX} {cx : CX} {mt : MT} {F : State → Prop} {cs : Nat × Nat} {pc : Nat} {st : List Value} {n : Nat} {I : MI} {R : MR}
theorem x_keep1 {a : Option Value} {t : List (Option Value)} (k : X g cx mt F cs pc (a :: List.replicate t.length none) st n I R) : X g cx mt F cs pc (a :: t) st n I R :=
  x_weak _ (by simp) (fun i v h => by
    cases i with
    | zero => exact h
    | succ i =>
      have h' : (List.replicate t.length (none : Option Value))[i]? = some (some v) := by simpa using h
      have := List.mem_of_getElem? h'
      simp [List.mem_replicate] at this) k
theorem x_keep2 {a b : Option Value} {t : List (Option Value)} (k : X g cx mt F cs pc (a :: b :: List.replicate t.length none) st n I R) : X g cx mt F cs pc (a :: b :: t) st n I R :=
  x_weak _ (by simp) (fun i v h => by
    cases i with
    | zero => exact h
    | succ i =>
      cases i with
      | zero => exact h
      | succ i =>
        have h' : (List.replicate t.length (none : Option Value))[i]? = some (some v) := by simpa using h
        have := List.mem_of_getElem? h'
        simp [List.mem_replicate] at this) k
end XK
section ML
variable {I : MI} {R : MR} {φ α β κ τ : Nat → Int32} {Z : MI}
end ML
