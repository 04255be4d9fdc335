
/-! the class: the log against the reference's; bits -/
theorem pLa_at {Z : MI} {L v : Nat} {w i c l : Int32} (hv : v < 4) : pLa Z L w i c l 9 (4 * L + v) = (if v = 0 then w else if v = 1 then i else if v = 2 then c else l) := by
  unfold pLa
  rw [xuI_row (by omega)]
  rcases (show v = 0 ∨ v = 1 ∨ v = 2 ∨ v = 3 by omega) with rfl | rfl | rfl | rfl
  · rw [xuI_col (by omega), xuI_col (by omega), xuI_col (by omega)]; exact xuI_self
  · rw [xuI_col (by omega), xuI_col (by omega)]; exact xuI_self
  · rw [xuI_col (by omega)]; exact xuI_self
  · exact xuI_self
theorem pLa_lo {Z : MI} {L u : Nat} {w i c l : Int32} (hu : u < 4 * L) : pLa Z L w i c l 9 u = Z 9 u := by
  unfold pLa
  rw [xuI_row (by omega), xuI_col (by omega), xuI_col (by omega), xuI_col (by omega), xuI_col (by omega)]
theorem pLa_10 {Z : MI} {L : Nat} {w i c l : Int32} : pLa Z L w i c l 8 10 = nI (L + 1) := by unfold pLa; exact xuI_self
theorem pLog_at {Z : MI} {L v : Nat} {w i l : Int32} (hL : L ≤ 64) (hv : v < 4) : pLog Z L w i l 9 (4 * ((if L = 64 then 64 else L + 1) - 1) + v) = (if v = 0 then w else if v = 1 then i else if v = 2 then Z 8 3 else l) := by
  unfold pLog
  by_cases h : L = 64
  · rw [if_pos h, if_pos h]; exact pLa_at hv
  · rw [if_neg h, if_neg h, show L + 1 - 1 = L by omega]; exact pLa_at hv
theorem pLog_lo {Z : MI} {L b v : Nat} {w i l : Int32} (hL : L ≤ 64) (hv : v < 4) (h1 : 1 ≤ b) (hb : b < (if L = 64 then 64 else L + 1)) : pLog Z L w i l 9 (4 * ((if L = 64 then 64 else L + 1) - 1 - b) + v) = Z 9 (4 * (L - 1 - (b - 1)) + v) := by
  unfold pLog
  by_cases h : L = 64
  · rw [if_pos h] at hb
    rw [if_pos h, if_pos h, pLa_lo (by omega), xuI_row (by omega)]
    simp only [pSh]
    rw [if_pos (show True ∧ 4 * (64 - 1 - b) + v < 252 from ⟨trivial, by omega⟩)]
    congr 1
    omega
  · rw [if_neg h] at hb
    rw [if_neg h, if_neg h, pLa_lo (by omega)]
    congr 1
    omega
theorem pLog_10 {Z : MI} {L : Nat} {w i l : Int32} : pLog Z L w i l 8 10 = nI (if L = 64 then 64 else L + 1) := by
  unfold pLog
  by_cases h : L = 64
  · rw [if_pos h, if_pos h, pLa_10]
  · rw [if_neg h, if_neg h, pLa_10]
theorem lgP_at {P : Nat → Int32} {x v : Nat} {w i c l : Int32} (hv : v < 4) : lgP P x w i c l (x * 4 + v) = (if v = 0 then w else if v = 1 then i else if v = 2 then c else l) := by
  unfold lgP
  rcases (show v = 0 ∨ v = 1 ∨ v = 2 ∨ v = 3 by omega) with rfl | rfl | rfl | rfl
  · rw [upd_ne (by omega), upd_ne (by omega), upd_ne (by omega)]; exact upd_self
  · rw [upd_ne (by omega), upd_ne (by omega)]; exact upd_self
  · rw [upd_ne (by omega)]; exact upd_self
  · exact upd_self
theorem lgP_ne {P : Nat → Int32} {x y v : Nat} {w i c l : Int32} (hv : v < 4) (h : y ≠ x) : lgP P x w i c l (y * 4 + v) = P (y * 4 + v) := by
  unfold lgP
  rw [upd_ne (by omega), upd_ne (by omega), upd_ne (by omega), upd_ne (by omega)]
theorem LGJ_add {F P : Nat → Int32} {Z : MI} {x L : Nat} {w i l : Int32} (hx : x < 64) (hL : L ≤ 64) (hr : ∀ b v, b < L → v < 4 → P ((x + 63 - b) % 64 * 4 + v) = Z 9 (4 * (L - 1 - b) + v)) : LGJ (lgF F x L) (lgP P x w i (Z 8 3) l) (pLog Z L w i l 8 10) (pLog Z L w i l 9) := by
  refine ⟨(x + 1) % 64, if L = 64 then 64 else L + 1, by omega, by split <;> omega, ?_, ?_, pLog_10, fun b v hb hv => ?_⟩
  · unfold lgF; rw [upd_ne (by omega)]; exact upd_self
  · unfold lgF; exact upd_self
  · by_cases h0 : b = 0
    · subst h0
      rw [show ((x + 1) % 64 + 63 - 0) % 64 = x by omega, lgP_at hv, Nat.sub_zero, pLog_at hL hv]
    · have hbL : b - 1 < L := by split at hb <;> omega
      rw [pLog_lo hL hv (by omega) hb, ← hr (b - 1) v hbL hv, lgP_ne hv (by split at hb <;> omega)]
      rw [show ((x + 1) % 64 + 63 - b) % 64 = (x + 63 - (b - 1)) % 64 by split at hb <;> omega]
theorem pLog_rw {Z : MI} {L : Nat} {w i l : Int32} : rw1 (xuI Z 8 10 (pLog Z L w i l 8 10)) 9 (pLog Z L w i l 9) = pLog Z L w i l := by
  funext a b
  by_cases h9 : a = 9
  · subst h9; rw [rw1_self]
  · rw [rw1_ne h9]
    by_cases h8 : a = 8 ∧ b = 10
    · obtain ⟨rfl, rfl⟩ := h8; rw [xuI_self]
    · rw [xuI_at h8, pLog_ne h9 h8]
section CL
variable {I J0 : MI} {R : MR} {o : Nat} {Z : MI}
theorem sp_log (hS : St R o) (hJ : SJ o I Z) {L : Nat} (hL : L ≤ 64) (h10 : Z 8 10 = nI L) (w i l : Int32) : Sp mX0_add [.ref (o + 4), .int w, .int i, .int (Z 8 3), .int l] 131 I R (SQ o I R none (pLog Z L w i l)) := by
  obtain ⟨x, L', hx, hL', f1, f2, f3, f4⟩ := hJ.2.2.2
  have eL : L' = L := by
    have := congrArg Int32.toInt (f3.symm.trans h10)
    rw [nI_toInt (by omega), nI_toInt (by omega)] at this
    omega
  subst eL
  have h := sp_X0_add (I := I) (R := R) hS.lg w i (Z 8 3) l hx hL f1 f2 (P := I (o + 5))
  rw [SM_self] at h
  refine Sp.imp h (fun r n' I' R' q => ?_)
  obtain ⟨rfl, rfl, rfl, rfl⟩ := q
  refine ⟨rfl, rfl, rfl, Off.lg, ?_⟩
  rw [← pLog_rw]
  exact hJ.ulg (LGJ_add hx hL f4)
end CL
