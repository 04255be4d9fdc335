
/-! the reference: winners. Sets of speakers as masks -/
def mk (p : Nat → Bool) : Nat → Int32
  | 0 => nI 0
  | k + 1 => mk p k ||| (if p k = true then nI 1 <<< (nI k &&& 31) else nI 0)
def m4 (a b c d : Bool) : Int32 := (((nI 0 ||| (if a = true then nI 1 <<< (nI 0 &&& 31) else nI 0)) ||| (if b = true then nI 1 <<< (nI 1 &&& 31) else nI 0)) ||| (if c = true then nI 1 <<< (nI 2 &&& 31) else nI 0)) ||| (if d = true then nI 1 <<< (nI 3 &&& 31) else nI 0)
theorem mk_m4 (p : Nat → Bool) : mk p 4 = m4 (p 0) (p 1) (p 2) (p 3) := rfl
theorem m4_bit : ∀ a b c d : Bool, (m4 a b c d >>> (nI 0 &&& 31) &&& nI 1 = bi a) ∧ (m4 a b c d >>> (nI 1 &&& 31) &&& nI 1 = bi b) ∧ (m4 a b c d >>> (nI 2 &&& 31) &&& nI 1 = bi c) ∧ (m4 a b c d >>> (nI 3 &&& 31) &&& nI 1 = bi d) := by decide +kernel
theorem mk_bit (p : Nat → Bool) {k : Nat} (hk : k < 4) : mk p 4 >>> (nI k &&& 31) &&& nI 1 = bi (p k) := by
  rw [mk_m4]
  obtain ⟨h0, h1, h2, h3⟩ := m4_bit (p 0) (p 1) (p 2) (p 3)
  rcases (show k = 0 ∨ k = 1 ∨ k = 2 ∨ k = 3 by omega) with rfl | rfl | rfl | rfl
  · exact h0
  · exact h1
  · exact h2
  · exact h3
theorem m4_zero : ∀ a b c d : Bool, m4 a b c d = 0 ↔ (a || b || c || d) = false := by decide +kernel
def any4 (p : Nat → Bool) : Bool := p 0 || p 1 || p 2 || p 3
theorem mk_zero (p : Nat → Bool) : mk p 4 = 0 ↔ any4 p = false := m4_zero _ _ _ _
theorem m4_not : ∀ a b c d e f g h : Bool, m4 a b c d &&& (m4 e f g h ^^^ -1) = m4 (a && !e) (b && !f) (c && !g) (d && !h) := by decide +kernel
theorem mk_not (p q : Nat → Bool) : mk p 4 &&& (mk q 4 ^^^ -1) = mk (fun k => p k && !q k) 4 := by rw [mk_m4, mk_m4, mk_m4]; exact m4_not _ _ _ _ _ _ _ _
theorem m4_and1 : ∀ a b c d : Bool, m4 a b c d &&& (-1) = m4 a b c d := by decide +kernel
theorem mk_and1 (p : Nat → Bool) : mk p 4 &&& (-1) = mk p 4 := by rw [mk_m4]; exact m4_and1 _ _ _ _
theorem mk_congr {p q : Nat → Bool} {n : Nat} (h : ∀ j, j < n → p j = q j) : mk p n = mk q n := by
  induction n with
  | zero => rfl
  | succ n ih => show mk p n ||| _ = mk q n ||| _; rw [ih (fun j hj => h j (by omega)), h n (by omega)]
def hasM (Z : MI) (k : Nat) : Bool := decide (¬ Z k 0 ≤ 0)
def wIs (Z : MI) (p : Nat) (b : Nat → Bool) (k : Nat) : Bool := b k && (!decide (p % 9 = 8) && decide (p < pBits (Z k 9)))
def wLo (Z : MI) (p : Nat) (b : Nat → Bool) (k : Nat) : Bool := wIs Z p b k && decide (pBit Z k p = 0)
def wHi (Z : MI) (p : Nat) (b : Nat → Bool) (k : Nat) : Bool := wIs Z p b k && decide (pBit Z k p = 1)
def pWs (Z : MI) : Nat → Nat → Bool
  | 0 => hasM Z
  | p + 1 => if any4 (wLo Z p (pWs Z p)) = true then (fun k => pWs Z p k && !wHi Z p (pWs Z p) k) else pWs Z p
theorem wIs_eq {Z : MI} {p k : Nat} {b : Nat → Bool} (hk : k < 4) : (if mk b 4 >>> (nI k &&& 31) &&& nI 1 = nI 1 then if bi (decide (p % 9 = 8)) = 0 then if pBits (Z k 9) ≤ p then nI 0 else nI 1 else nI 0 else nI 0) = bi (wIs Z p b k) := by
  rw [mk_bit b hk]
  unfold wIs
  cases hb : b k with
  | false => rw [if_neg (by decide)]; rfl
  | true =>
    rw [if_pos (by decide), Bool.true_and]
    by_cases h9 : p % 9 = 8
    · rw [if_neg (by rw [decide_eq_true h9]; decide), decide_eq_true h9]; rfl
    · rw [if_pos (by rw [decide_eq_false h9]; rfl), decide_eq_false h9]
      by_cases h : pBits (Z k 9) ≤ p
      · rw [if_pos h, decide_eq_false (by omega)]; rfl
      · rw [if_neg h, decide_eq_true (by omega)]; rfl
theorem wLo_eq {Z : MI} {p k : Nat} {b : Nat → Bool} {v : Int32} : (if bi (wIs Z p b k) = 0 then nI 0 else if pBit Z k p = 0 then v else nI 0) = if wLo Z p b k = true then v else nI 0 := by
  unfold wLo
  cases wIs Z p b k with
  | false => rfl
  | true =>
    rw [if_neg (by decide), Bool.true_and]
    by_cases h : pBit Z k p = 0
    · rw [if_pos h, if_pos (decide_eq_true h)]
    · rw [if_neg h, if_neg (by simpa using h)]
theorem wHi_eq {Z : MI} {p k : Nat} {b : Nat → Bool} {v : Int32} : (if bi (wIs Z p b k) = 0 then nI 0 else if pBit Z k p = nI 1 then v else nI 0) = if wHi Z p b k = true then v else nI 0 := by
  unfold wHi
  cases wIs Z p b k with
  | false => rfl
  | true =>
    rw [if_neg (by decide), Bool.true_and]
    by_cases h : pBit Z k p = 1
    · rw [if_pos (show pBit Z k p = nI 1 from h), if_pos (decide_eq_true h)]
    · rw [if_neg (show ¬ pBit Z k p = nI 1 from h), if_neg (by simpa using h)]
theorem hM_eq {Z : MI} {k : Nat} {v : Int32} : (if Z k 0 ≤ 0 then nI 0 else v) = if hasM Z k = true then v else nI 0 := by
  unfold hasM
  by_cases h : Z k 0 ≤ 0
  · rw [if_pos h, if_neg (by simpa using h)]
  · rw [if_neg h, if_pos (by simpa using h)]
theorem pWs_step {Z : MI} {p : Nat} : mk (pWs Z p) 4 &&& (if mk (wLo Z p (pWs Z p)) 4 = 0 then -1 else mk (wHi Z p (pWs Z p)) 4 ^^^ -1) = mk (pWs Z (p + 1)) 4 := by
  show _ = mk (if any4 (wLo Z p (pWs Z p)) = true then (fun k => pWs Z p k && !wHi Z p (pWs Z p) k) else pWs Z p) 4
  by_cases h : mk (wLo Z p (pWs Z p)) 4 = 0
  · rw [if_pos h, mk_and1, if_neg (by rw [(mk_zero _).mp h]; decide)]
  · rw [if_neg h, mk_not, if_pos (by cases e : any4 (wLo Z p (pWs Z p)) with | true => rfl | false => exact absurd ((mk_zero _).mpr e) h)]
section ML
variable {I : MI} {R : MR} {φ α β κ τ : Nat → Int32} {Z : MI}
end ML
