
/-! the class: a place, against the reference's -/
/-- alike in the rows that count -/
def Rw (Z Z' : MI) : Prop := ∀ a, a < 10 → Z' a = Z a
theorem Rw.sj {o : Nat} {I Z Z' : MI} (h : Rw Z Z') (hJ : SJ o I Z) : SJ o I Z' := hJ.cg (fun _ _ _ => rfl) h
theorem Rw_tk {Z Z' : MI} (h : Rw Z Z') {k : Nat} (hk : k < 4) : tk Z' k = tk Z k := tk_row (h k (by omega))
theorem Rw_u {Z Z' : MI} {a b : Nat} {v : Int32} (h : Rw Z Z') : Rw (xuI Z a b v) (xuI Z' a b v) := fun x hx => by
  funext y
  simp only [xuI]
  rw [h x hx]
theorem Rw_E {Z Z' : MI} (h : Rw Z Z') : Rw (pE0 Z) (pE0 Z') := by
  have e : cn (tk Z') 4 = cn (tk Z) 4 := cn_congr (fun j hj => Rw_tk h hj)
  unfold pE0
  rw [e]
  split
  · exact Rw_u h
  · exact h
theorem pEn_0 {Z : MI} (h4 : Z 8 4 = nI 0) (h5 : Z 8 5 = nI 0) : pEn Z = pE0 Z := by
  unfold pEn pE0
  split
  · rw [xuI_id (k := 8) (w := 5), xuI_id (k := 8) (w := 4)]
    · rw [xuI_col (by omega)]; exact h4
    · rw [xuI_col (by omega), xuI_col (by omega)]; exact h5
  · rfl
theorem pLog_cg {Z Z' : MI} {L a : Nat} {w i l : Int32} (h8 : Z' 8 = Z 8) (h9 : Z' 9 = Z 9) (ha : a = 8 ∨ a = 9) : pLog Z' L w i l a = pLog Z L w i l a := by
  funext b
  unfold pLog
  split
  · rcases ha with rfl | rfl <;> simp [pLa, xuI, pSh, h8, h9]
  · rcases ha with rfl | rfl <;> simp [pLa, xuI, h8, h9]
theorem pAw_row {Z : MI} {l q a : Nat} (ha : a ≠ 4 + l) : pAw Z l q a = Z a := by
  unfold pAw
  split
  · rfl
  · rw [xuI_row ha, xuI_row ha]
theorem pAw_cg {Z Z' : MI} {l q a : Nat} (h : ∀ a, a < 8 → Z' a = Z a) (hl : l < 4) (ha : a < 8) : pAw Z' l q a = pAw Z l q a := by
  have hf := pFi_lt Z
  unfold pAw
  split
  · exact h a ha
  · rw [pFi_congr (fun k hk => h k (by omega)), h (pFi Z) (by omega), h (4 + l) (by omega)]
    funext b
    simp only [xuI]
    rw [h a ha]
theorem pCm_cg {W W' : MI} {P k a : Nat} (h : W' a = W a) : pCm W' P k a = pCm W P k a := by
  have e : sel W' P a = sel W P a := by unfold sel; rw [tk_row h, h]
  simp only [pCm]
  rw [e, h]
theorem pUn_cg {W W' : MI} {k a : Nat} (h : W' a = W a) (h8 : W' 8 = W 8) : pUn W' k a = pUn W k a := by
  simp only [pUn]
  rw [tk_row h, h, h8]
/-- the class's order and the reference's: with an answer -/
theorem ans_rw {Z : MI} {L l q p : Nat} (hl : l < 4) : Rw (xuI (pCm (pAw (pLog Z L (nI 0) (nI 1) (nI 0)) l q) (p + 1) 4) 8 7 (nI (p + 1))) (pCm (xuI (pLog (pAw Z l q) L (nI 0) (nI 1) (nI 0)) 8 7 (nI (p + 1))) (p + 1) 4) := by
  intro a ha
  have e8 : pAw Z l q 8 = Z 8 := pAw_row (by omega)
  have e9 : pAw Z l q 9 = Z 9 := pAw_row (by omega)
  by_cases h8 : a < 8
  · rw [xuI_row (by omega)]
    refine pCm_cg ?_
    rw [xuI_row (by omega), pLog_row h8]
    exact (pAw_cg (fun a q => pLog_row q) hl h8).symm
  · rcases (show a = 8 ∨ a = 9 by omega) with rfl | rfl
    · rw [pCm_ge (by omega)]
      funext b
      simp only [xuI]
      rw [pCm_ge (by omega), pAw_row (by omega), pLog_cg e8 e9 (Or.inl rfl)]
    · rw [pCm_ge (by omega), xuI_row (by omega), xuI_row (by omega), pCm_ge (by omega), pAw_row (by omega), pLog_cg e8 e9 (Or.inr rfl)]
/-- without one -/
theorem una_rw {Z : MI} {L p : Nat} : Rw (pE0 (xuI (pUn (pLog Z L (nI 1) (nI 1) (nI 0)) 4) 8 7 (nI (p + 1)))) (pE0 (xuI (pUn (pLog Z L (nI 1) (nI 1) (nI 0)) 4) 8 7 (nI (p + 1)))) := fun _ _ => rfl
