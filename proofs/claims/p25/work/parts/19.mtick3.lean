
/-! the reference: answers, free ticks, a tick -/
def cRow (r : Nat → Int32) : Nat → Int32 := dRow (fun b => if b = 1 then nI 0 else if b = 2 then r 2 + nI 1 else r b) ((r 0).toNatClampNeg - 1)
def sel (Z : MI) (P k : Nat) : Bool := tk Z k && decide (nI P = nI (pBits (Z k 9)))
def pCm (Z : MI) (P k : Nat) : MI := fun a => if a < k ∧ sel Z P a = true then cRow (Z a) else Z a
theorem pCm_0 {Z : MI} {P : Nat} : pCm Z P 0 = Z := by funext a; simp only [pCm]; rw [if_neg (by omega)]
theorem pCm_ge {Z : MI} {P k a : Nat} (h : k ≤ a) : pCm Z P k a = Z a := by simp only [pCm]; rw [if_neg (by omega)]
theorem pCm_no {Z : MI} {P k : Nat} (h : sel Z P k = false) : pCm Z P k = pCm Z P (k + 1) := by
  funext a
  simp only [pCm]
  by_cases h2 : a < k ∧ sel Z P a = true
  · rw [if_pos h2, if_pos (show a < k + 1 ∧ sel Z P a = true from ⟨by omega, h2.2⟩)]
  · rw [if_neg h2, if_neg (fun q => ?_)]
    by_cases ha : a = k
    · subst ha; rw [h] at q; cases q.2
    · exact h2 ⟨by omega, q.2⟩
theorem nI_cl {m : Nat} (h : m < 2 ^ 31) : (nI m).toNatClampNeg = m := nI_clamp h
theorem pCm_yes {Z : MI} {P k m : Nat} (h : sel Z P k = true) (hm : Z k 0 = nI (m + 1)) (hm4 : m ≤ 4) : rw1 (xuI (xuI (pCm Z P k) k 1 (nI 0)) k 2 (xuI (pCm Z P k) k 1 (nI 0) k 2 + nI 1)) k (dRow (xuI (xuI (pCm Z P k) k 1 (nI 0)) k 2 (xuI (pCm Z P k) k 1 (nI 0) k 2 + nI 1) k) m) = pCm Z P (k + 1) := by
  funext a
  by_cases ha : a = k
  · subst ha
    rw [rw1_self]
    simp only [pCm]
    rw [if_pos (show a < a + 1 ∧ sel Z P a = true from ⟨by omega, h⟩)]
    unfold cRow
    rw [hm, nI_cl (by omega)]
    show dRow _ m = dRow _ m
    congr 1
    funext b
    by_cases h1 : b = 1
    · subst h1; simp [xuI]
    · by_cases h2 : b = 2
      · subst h2; simp [xuI, pCm_ge (Nat.le_refl a)]
      · simp [xuI, h1, h2, pCm_ge (Nat.le_refl a)]
  · rw [rw1_ne ha, xuI_ne ha, xuI_ne ha]
    simp only [pCm]
    by_cases h2 : a < k ∧ sel Z P a = true
    · rw [if_pos h2, if_pos (show a < k + 1 ∧ sel Z P a = true from ⟨by omega, h2.2⟩)]
    · rw [if_neg h2, if_neg (fun q => h2 ⟨by omega, q.2⟩)]
theorem sel_t {Z : MI} {P k : Nat} (h1 : ¬ bi (tk Z k) = 0) (h2 : nI P = nI (pBits (Z k 9))) : sel Z P k = true := by unfold sel; rw [bi_nt h1, Bool.true_and]; exact decide_eq_true h2
theorem sel_f1 {Z : MI} {P k : Nat} (h1 : bi (tk Z k) = 0) : sel Z P k = false := by unfold sel; rw [bi_0.mp h1]; rfl
theorem sel_f2 {Z : MI} {P k : Nat} (h2 : ¬ nI P = nI (pBits (Z k 9))) : sel Z P k = false := by unfold sel; rw [decide_eq_false h2, Bool.and_false]
/-- a word is taken -/
def pAw (Z : MI) (l q : Nat) : MI := if q = 0 then Z else xuI (xuI Z (4 + l) 3 (Z (4 + l) 3 + nI 1)) (4 + l) 4 (Z (pFi Z) (7 + q))
def pAn (Z : MI) (L p l : Nat) : MI := pEn (pCm (xuI (pLog (pAw Z l (p / 9)) L (nI 0) (nI 1) (nI 0)) 8 7 (nI (p + 1))) (p + 1) 4)
/-- a message that failed -/
def uRow (r : Nat → Int32) (s1 : Int32) : Nat → Int32 :=
  if r 6 + nI 1 < s1 then (fun b => if b = 1 then nI 0 else if b = 4 then r 4 + nI 1 else if b = 6 then r 6 + nI 1 else r b)
  else dRow (fun b => if b = 1 then nI 0 else if b = 4 then r 4 + nI 1 else if b = 5 then r 5 + nI 1 else if b = 6 then r 6 + nI 1 else r b) ((r 0).toNatClampNeg - 1)
def pUn (Z : MI) (k : Nat) : MI := fun a => if a < k ∧ tk Z a = true then uRow (Z a) (Z 8 1) else Z a
theorem pUn_0 {Z : MI} : pUn Z 0 = Z := by funext a; simp only [pUn]; rw [if_neg (by omega)]
theorem pUn_ge {Z : MI} {k a : Nat} (h : k ≤ a) : pUn Z k a = Z a := by simp only [pUn]; rw [if_neg (by omega)]
theorem pUn_no {Z : MI} {k : Nat} (h : tk Z k = false) : pUn Z k = pUn Z (k + 1) := by
  funext a
  simp only [pUn]
  by_cases h2 : a < k ∧ tk Z a = true
  · rw [if_pos h2, if_pos (show a < k + 1 ∧ tk Z a = true from ⟨by omega, h2.2⟩)]
  · rw [if_neg h2, if_neg (fun q => ?_)]
    by_cases ha : a = k
    · subst ha; rw [h] at q; cases q.2
    · exact h2 ⟨by omega, q.2⟩
theorem pUn_one {Z : MI} {k : Nat} {f : Nat → Int32} (h : tk Z k = true) (hf : f = uRow (Z k) (Z 8 1)) : rw1 (pUn Z k) k f = pUn Z (k + 1) := by
  funext a
  by_cases ha : a = k
  · subst ha
    rw [rw1_self, hf]
    simp only [pUn]
    rw [if_pos (show a < a + 1 ∧ tk Z a = true from ⟨by omega, h⟩)]
  · rw [rw1_ne ha]
    simp only [pUn]
    by_cases h2 : a < k ∧ tk Z a = true
    · rw [if_pos h2, if_pos (show a < k + 1 ∧ tk Z a = true from ⟨by omega, h2.2⟩)]
    · rw [if_neg h2, if_neg (fun q => h2 ⟨by omega, q.2⟩)]
theorem rw1_xuI {Z : MI} {k w : Nat} {v : Int32} {f : Nat → Int32} : rw1 (xuI Z k w v) k f = rw1 Z k f := by
  funext a
  by_cases ha : a = k
  · subst ha; rw [rw1_self, rw1_self]
  · rw [rw1_ne ha, rw1_ne ha, xuI_ne ha]
theorem xuI_rw1 {Z : MI} {k w : Nat} {v : Int32} : xuI Z k w v = rw1 Z k (upd (Z k) w v) := by
  funext a b
  by_cases ha : a = k
  · subst ha; rw [rw1_self]; simp [xuI, upd]
  · rw [rw1_ne ha, xuI_ne ha]
def pUa (Z : MI) (L p : Nat) : MI := pEn (pUn (pLog Z L (nI 1) (nI 1) (nI 0)) 4)
def pFr (Z : MI) (k : Nat) : MI := fun a b => if a < k ∧ b = 1 then (if Z a 0 ≤ 0 then nI 0 else nI 1) else Z a b
theorem pFr_0 {Z : MI} : pFr Z 0 = Z := by funext a b; simp only [pFr]; rw [if_neg (by omega)]
theorem pFr_ge {Z : MI} {k a : Nat} (h : k ≤ a) : pFr Z k a = Z a := by funext b; simp only [pFr]; rw [if_neg (by omega)]
theorem pFr_step {Z : MI} {k : Nat} : xuI (pFr Z k) k 1 (if Z k 0 ≤ 0 then nI 0 else nI 1) = pFr Z (k + 1) := by
  funext a b
  by_cases h : a = k ∧ b = 1
  · obtain ⟨rfl, rfl⟩ := h
    rw [xuI_self]
    simp only [pFr]
    rw [if_pos (show a < a + 1 ∧ True from ⟨by omega, trivial⟩)]
  · rw [xuI_at h]
    simp only [pFr]
    by_cases h2 : a < k ∧ b = 1
    · rw [if_pos h2, if_pos (show a < k + 1 ∧ b = 1 by omega)]
    · rw [if_neg h2, if_neg (show ¬ (a < k + 1 ∧ b = 1) by omega)]
def pTf (Z : MI) : MI := if Z 8 5 + nI 1 < Z 8 0 then xuI Z 8 5 (Z 8 5 + nI 1) else if sm (fun j => Z j 0) 4 ≤ 0 then xuI Z 8 5 (Z 8 5 + nI 1) else xuI (xuI (xuI (pFr (xuI Z 8 5 (Z 8 5 + nI 1)) 4) 8 5 (nI 0)) 8 7 (nI 0)) 8 8 (Z 8 8 + nI 1)
theorem sm_congr {p q : Nat → Int32} {n : Nat} (h : ∀ j, j < n → p j = q j) : sm p n = sm q n := by
  induction n with
  | zero => rfl
  | succ n ih => show sm p n + p n = sm q n + q n; rw [ih (fun j hj => h j (by omega)), h n (by omega)]
theorem un_a {Y : MI} {k : Nat} {v4 v6 : Int32} : xuI (xuI (xuI Y k 1 (nI 0)) k 4 v4) k 6 v6 = rw1 Y k (fun b => if b = 1 then nI 0 else if b = 4 then v4 else if b = 6 then v6 else Y k b) := by
  funext a b
  by_cases ha : a = k
  · subst ha
    rw [rw1_self]
    by_cases h6 : b = 6
    · subst h6; simp [xuI]
    · by_cases h4 : b = 4
      · subst h4; simp [xuI]
      · simp [xuI, h4, h6]
  · rw [rw1_ne ha]; simp [xuI, ha]
theorem un_b {Y : MI} {k : Nat} {v4 v5 v6 : Int32} : xuI (xuI (xuI (xuI Y k 1 (nI 0)) k 4 v4) k 6 v6) k 5 v5 k = (fun b => if b = 1 then nI 0 else if b = 4 then v4 else if b = 5 then v5 else if b = 6 then v6 else Y k b) := by
  funext b
  by_cases h5 : b = 5
  · subst h5; simp [xuI]
  · by_cases h6 : b = 6
    · subst h6; simp [xuI]
    · by_cases h4 : b = 4
      · subst h4; simp [xuI]
      · simp [xuI, h4, h5, h6]
theorem pUn_a {Z : MI} {k : Nat} (h : tk Z k = true) (hs : Z k 6 + nI 1 < Z 8 1) : xuI (xuI (xuI (pUn Z k) k 1 (nI 0)) k 4 (Z k 4 + nI 1)) k 6 (Z k 6 + nI 1) = pUn Z (k + 1) := by
  rw [un_a]
  refine pUn_one h ?_
  unfold uRow
  rw [if_pos hs, pUn_ge (Nat.le_refl k)]
theorem pUn_b {Z : MI} {k m : Nat} (h : tk Z k = true) (hm : Z k 0 = nI (m + 1)) (hm4 : m ≤ 4) (hs : ¬ Z k 6 + nI 1 < Z 8 1) : rw1 (xuI (xuI (xuI (xuI (pUn Z k) k 1 (nI 0)) k 4 (Z k 4 + nI 1)) k 6 (Z k 6 + nI 1)) k 5 (Z k 5 + nI 1)) k (dRow (xuI (xuI (xuI (xuI (pUn Z k) k 1 (nI 0)) k 4 (Z k 4 + nI 1)) k 6 (Z k 6 + nI 1)) k 5 (Z k 5 + nI 1) k) m) = pUn Z (k + 1) := by
  rw [un_b, rw1_xuI, rw1_xuI, rw1_xuI, rw1_xuI]
  refine pUn_one h ?_
  unfold uRow
  rw [if_neg hs, pUn_ge (Nat.le_refl k), hm, nI_cl (by omega)]
  rfl
section ML
variable {I : MI} {R : MR} {φ α β κ τ : Nat → Int32} {Z : MI}
end ML
