
/-! the class: messages that come, that fail -/
theorem SPJ_rem {F P z G r : Nat → Int32} {m : Nat} (h : SPJ F P z) (hm : z 0 = nI m) (h1 : 1 ≤ m) (h5 : m ≤ 5) (hr1 : r 1 = bi false) (hr : ∀ b, 7 ≤ b → r b = z b) (hG : ∀ w, 1 ≤ w → w < 6 → G (w + 1) = r w) : SPJ (skRem G m) (va_cpy P P 3 0 12) (dRow r (m - 1)) := by
  obtain ⟨m0, t, a1, a2, -, -, -, a6⟩ := h
  have em : m0 = m := by
    have := congrArg Int32.toInt (a2.symm.trans hm)
    rw [nI_toInt (by omega), nI_toInt (by omega)] at this
    omega
  subst em
  have hd : ∀ j c, j < m0 - 1 → c < 3 → dRow r (m0 - 1) (7 + 3 * j + c) = z (7 + 3 * (j + 1) + c) := fun j c hj hc => by
    simp only [dRow]
    rw [if_neg (by omega), if_neg (by omega), if_pos (by omega), hr _ (by omega)]
    congr 1
    omega
  have hp : ∀ j c, j < m0 - 1 → c < 3 → va_cpy P P 3 0 12 (j * 3 + c) = P ((j + 1) * 3 + c) := fun j c hj hc => by
    simp only [va_cpy]
    rw [if_pos (by omega)]
    congr 1
    omega
  refine ⟨m0 - 1, false, by omega, ?_, ?_, (fun q => by cases q), fun w hw => ?_, fun j hj => ?_⟩
  · simp [dRow]
  · simp only [dRow]; rw [if_neg (by omega), if_neg (by omega), if_neg (by omega)]; exact hr1
  · unfold skRem
    by_cases h0 : w = 0
    · subst h0; rw [upd_ne (by omega), upd_self]; simp [dRow]
    · by_cases h6 : w = 6
      · subst h6; rw [upd_self]; exact rfl
      · rw [upd_ne (by omega), upd_ne (by omega), hG w (by omega) (by omega)]
        simp only [dRow]
        rw [if_neg h0, if_neg h6, if_neg (by omega)]
  · obtain ⟨⟨x, hx, hz, hq⟩, q1, q2⟩ := a6 (j + 1) (by omega)
    refine ⟨⟨x, hx, (hd j 0 hj (by omega)).trans hz, (hp j 0 hj (by omega)).trans hq⟩, ?_, ?_⟩
    · rw [hp j 1 hj (by omega), q1, show 8 + 3 * j = 7 + 3 * j + 1 by omega, hd j 1 hj (by omega)]
      congr 1
      omega
    · rw [hp j 2 hj (by omega), q2, show 9 + 3 * j = 7 + 3 * j + 2 by omega, hd j 2 hj (by omega)]
      congr 1
      omega
theorem SPJ.w {F P z : Nat → Int32} (h : SPJ F P z) {w : Nat} (hw : w < 7) : F (w + 1) = z w := by
  obtain ⟨m, t, -, -, -, -, a5, -⟩ := h
  exact a5 w hw
theorem SPJ_come {F P z : Nat → Int32} {m : Nat} (h : SPJ F P z) (hm : z 0 = nI m) (h1 : 1 ≤ m) (h5 : m ≤ 5) : SPJ (skRem (skCame F) m) (va_cpy P P 3 0 12) (cRow z) := by
  unfold cRow
  rw [hm, nI_cl (by omega)]
  refine SPJ_rem h hm h1 h5 (if_pos rfl) (fun b hb => ?_) (fun w w1 w6 => ?_)
  · rw [if_neg (by omega), if_neg (by omega)]
  · unfold skCame
    rcases (show w = 1 ∨ w = 2 ∨ 3 ≤ w by omega) with rfl | rfl | q
    · rw [upd_ne (by omega), upd_self, if_pos rfl]
    · rw [upd_self, if_neg (by omega), if_pos rfl, h.w (w := 2) (by omega)]
    · rw [upd_ne (by omega), upd_ne (by omega), if_neg (by omega), if_neg (by omega), h.w (by omega)]
theorem SPJ_miss {F P z : Nat → Int32} {m : Nat} {c : Int32} (h : SPJ F P z) (hm : z 0 = nI m) (h1 : 1 ≤ m) (h5 : m ≤ 5) : SPJ (skMiss F P m c).1 (skMiss F P m c).2 (uRow z c) := by
  have e6 : F 7 = z 6 := h.w (w := 6) (by omega)
  unfold skMiss uRow
  rw [e6]
  by_cases q : z 6 + nI 1 < c
  · rw [if_pos q, if_pos q]
    obtain ⟨m0, t, a1, a2, a3, a4, a5, a6⟩ := h
    obtain ⟨r, hr⟩ : ∃ r : Nat → Int32, (fun b => if b = 1 then nI 0 else if b = 4 then z 4 + nI 1 else if b = 6 then z 6 + nI 1 else z b) = r := ⟨_, rfl⟩
    have hb : ∀ b, r b = if b = 1 then nI 0 else if b = 4 then z 4 + nI 1 else if b = 6 then z 6 + nI 1 else z b := fun b => by rw [← hr]
    have h7 : ∀ b, 7 ≤ b → r b = z b := fun b q => by rw [hb, if_neg (by omega), if_neg (by omega), if_neg (by omega)]
    rw [hr]
    refine ⟨m0, false, a1, by rw [hb, if_neg (by omega), if_neg (by omega), if_neg (by omega)]; exact a2, by rw [hb]; exact if_pos rfl, (fun q => by cases q), fun w hw => ?_, fun j hj => ?_⟩
    · show skFail F (w + 1) = _
      rw [hb]
      unfold skFail
      rcases (show w = 1 ∨ w = 4 ∨ w = 6 ∨ (w ≠ 1 ∧ w ≠ 4 ∧ w ≠ 6) by omega) with rfl | rfl | rfl | q'
      · rw [upd_ne (by omega), upd_ne (by omega), upd_self, if_pos rfl]
      · rw [upd_ne (by omega), upd_self, if_neg (by omega), if_pos rfl, a5 4 (by omega)]
      · rw [upd_self, if_neg (by omega), if_neg (by omega), if_pos rfl, e6]
      · rw [upd_ne (by omega), upd_ne (by omega), upd_ne (by omega), if_neg q'.1, if_neg q'.2.1, if_neg q'.2.2, a5 w hw]
    · rw [h7 _ (by omega), h7 _ (by omega), h7 _ (by omega)]
      exact a6 j hj
  · rw [if_neg q, if_neg q, hm, nI_cl (by omega)]
    refine SPJ_rem h hm h1 h5 (if_pos rfl) (fun b hb => ?_) (fun w w1 w6 => ?_)
    · rw [if_neg (by omega), if_neg (by omega), if_neg (by omega), if_neg (by omega)]
    · unfold skFail
      rcases (show w = 1 ∨ w = 4 ∨ w = 5 ∨ (w ≠ 1 ∧ w ≠ 4 ∧ w ≠ 5) by omega) with rfl | rfl | rfl | q'
      · rw [upd_ne (by omega), upd_ne (by omega), upd_ne (by omega), upd_self, if_pos rfl]
      · rw [upd_ne (by omega), upd_ne (by omega), upd_self, if_neg (by omega), if_pos rfl, h.w (w := 4) (by omega)]
      · rw [upd_self, if_neg (by omega), if_neg (by omega), if_pos rfl, h.w (w := 5) (by omega)]
      · rw [upd_ne (by omega), upd_ne (by omega), upd_ne (by omega), upd_ne (by omega), if_neg q'.1, if_neg q'.2.1, if_neg q'.2.2, if_neg (by omega), h.w (by omega)]
