
/-! the reference: what the next tick is, and the stuck tick -/
theorem nI_le0 {c : Nat} (h : c < 2 ^ 31) : nI c ≤ 0 ↔ c = 0 := by
  rw [show (0 : Int32) = nI 0 from rfl, nI_leI h (by omega)]; omega
theorem nI_eq0 {c : Nat} (h : c < 2 ^ 31) : nI c = 0 ↔ c = 0 := by
  rw [show (0 : Int32) = nI 0 from rfl, nI_eq h (by omega)]
theorem pNx_eq {Z : MI} {p : Nat} : (if nI (cn (stu Z) 4) ≤ 0 then if Z 8 4 ≤ 0 then if nI (cn (tk Z) 4) = 0 then nI 0 else if bi (decide (p % 9 = 8)) = 0 then nI 1 else nI 2 else nI 3 else nI 4) = nI (pNx Z p) := by
  have h1 := cn_le (stu Z) 4
  have h2 := cn_le (tk Z) 4
  unfold pNx
  by_cases a : cn (stu Z) 4 = 0
  · rw [if_pos ((nI_le0 (by omega)).mpr a), if_neg (show ¬ (cn (stu Z) 4 ≠ 0) from fun q => q a)]
    by_cases b : Z 8 4 ≤ 0
    · rw [if_pos b, if_neg (show ¬ 0 < Z 8 4 by simpa using b)]
      by_cases c : cn (tk Z) 4 = 0
      · rw [if_pos ((nI_eq0 (by omega)).mpr c), if_pos c]
      · rw [if_neg (fun q => c ((nI_eq0 (by omega)).mp q)), if_neg c]
        by_cases d : p % 9 = 8
        · rw [if_pos d, if_neg (by simp [bi, d])]
        · rw [if_neg d, if_pos (by simp [bi, d])]
    · rw [if_neg b, if_pos (show 0 < Z 8 4 by simpa using b)]
  · rw [if_neg (fun q => a ((nI_le0 (by omega)).mp q)), if_pos (show cn (stu Z) 4 ≠ 0 from a)]
/-- listeners behind a stuck tick -/
def pUs (Z : MI) (sh : Bool) (k : Nat) : MI := fun a b => if 4 ≤ a ∧ a < 4 + k ∧ b = 2 then (if sh = true ∨ Z a 2 = 0 then 0 else Z a 2 - 1) else Z a b
theorem pUs_0 {Z : MI} {sh : Bool} : pUs Z sh 0 = Z := by funext a b; simp only [pUs]; rw [if_neg (by omega)]
theorem pUs_ge {Z : MI} {sh : Bool} {k a : Nat} (h : 4 + k ≤ a) : pUs Z sh k a = Z a := by funext b; simp only [pUs]; rw [if_neg (by omega)]
theorem pUs_step {Z : MI} {sh : Bool} {k : Nat} {v : Int32} (h : v = if sh = true ∨ Z (4 + k) 2 = 0 then 0 else Z (4 + k) 2 - 1) : xuI (pUs Z sh k) (4 + k) 2 v = pUs Z sh (k + 1) := by
  subst h
  funext a b
  by_cases h : a = 4 + k ∧ b = 2
  · obtain ⟨rfl, rfl⟩ := h
    rw [xuI_self]
    show _ = (if 4 ≤ 4 + k ∧ 4 + k < 4 + (k + 1) ∧ 2 = 2 then _ else _)
    rw [if_pos (show 4 ≤ 4 + k ∧ 4 + k < 4 + (k + 1) ∧ 2 = 2 from ⟨by omega, by omega, rfl⟩)]
  · rw [xuI_at h]
    simp only [pUs]
    by_cases h2 : 4 ≤ a ∧ a < 4 + k ∧ b = 2
    · rw [if_pos h2, if_pos (show 4 ≤ a ∧ a < 4 + (k + 1) ∧ b = 2 by omega)]
    · rw [if_neg h2, if_neg (show ¬ (4 ≤ a ∧ a < 4 + (k + 1) ∧ b = 2) by omega)]
/-- the end of a stuck tick -/
def pStC (Z : MI) (sh : Bool) : MI := xuI (xuI (pUs Z sh 4) 8 9 (Z 8 9 + (if bi sh = 0 then nI 0 else nI 1))) 8 6 (if bi sh = 0 then Z 8 6 else nI 0)
def pStB (Z : MI) : MI := pStC (xuI Z 8 6 (Z 8 6 + nI 1)) (decide (Z 8 2 ≤ Z 8 6 + nI 1))
def pStA (Z : MI) (p : Nat) : MI := if cn (tk Z) 4 = 0 then xuI Z 8 5 (nI 0) else if Z 8 4 = 0 ∧ ¬ p % 9 = 8 then pEn (pLo Z p 4) else Z
def pSt (Z : MI) (p : Nat) : MI := pStB (pStA Z p)
theorem us_v {x : Int32} {sh : Bool} (h : sh = false) : (if x = 0 then nI 0 else x - nI 1) = if sh = true ∨ x = 0 then 0 else x - 1 := by
  subst h
  by_cases hx : x = 0
  · rw [if_pos hx, if_pos (Or.inr hx)]; rfl
  · rw [if_neg hx, if_neg (by simp [hx])]; rfl
theorem bi_nt {b : Bool} (h : ¬ bi b = 0) : b = true := by cases b with | true => rfl | false => exact absurd rfl h
section ML
variable {I : MI} {R : MR} {φ α β κ τ : Nat → Int32} {Z : MI}
theorem st_sh (x y : Int32) : (if x < y then nI 0 else nI 1) = bi (decide (y ≤ x)) := by
  unfold bi
  by_cases h : x < y
  · rw [if_pos h, if_neg (by simpa using h)]; rfl
  · rw [if_neg h, if_pos (by simpa using h)]; rfl
end ML
