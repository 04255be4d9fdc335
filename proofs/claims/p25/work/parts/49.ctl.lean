
/-! what binds a row stays so behind a tick -/
theorem TL_cg {Z Z' : MI} (h : TL Z) (e7 : Z' 8 7 = Z 8 7) (e5 : Z' 8 5 = Z 8 5) (e4 : Z' 8 4 = Z 8 4) (ek : ∀ k, k < 4 → Z' k 1 = Z k 1 ∧ Z' k 9 = Z k 9) (el : ∀ k, k < 4 → Z' (4 + k) 1 = Z (4 + k) 1) : TL Z' := by
  obtain ⟨⟨p, hp, hz, hb, h0⟩, h5, ⟨hh, hh9, eh⟩, hl⟩ := h
  have et : ∀ k, k < 4 → tk Z' k = tk Z k := fun k hk => by unfold tk; rw [(ek k hk).1]
  have ec : cn (tk Z') 4 = cn (tk Z) 4 := cn_congr et
  refine ⟨⟨p, hp, e7.trans hz, fun k hk q => by rw [(ek k hk).2]; exact hb k hk (by rw [← et k hk]; exact q), fun q => h0 (by rw [← ec]; exact q)⟩, fun q => by rw [e5]; exact h5 (by rw [← ec]; exact q), ⟨hh, hh9, e4.trans eh⟩, fun k hk => by rw [el k hk]; exact hl k hk⟩
theorem TL_En {U : MI} {p : Nat} (hp : ¬ cn (tk U) 4 = 0 → p < 27) (hz : U 8 7 = nI p) (hb : ∀ k, k < 4 → tk U k = true → p < pBits (U k 9)) (h5 : U 8 5 = nI 0) (h4 : ∃ h, h ≤ 9 ∧ U 8 4 = nI h) (hl : ∀ k, k < 4 → ∃ h, h ≤ 9 ∧ U (4 + k) 1 = nI h) : TL (pEn U) := by
  unfold pEn
  by_cases hc : cn (tk U) 4 = 0
  · rw [if_pos hc]
    have er : ∀ a, a < 8 → xuI (xuI (xuI U 8 7 (nI 0)) 8 4 (nI 0)) 8 5 (nI 0) a = U a := fun a ha => by rw [xuI_row (by omega), xuI_row (by omega), xuI_row (by omega)]
    refine ⟨⟨0, by omega, by rw [xuI_col (by omega), xuI_col (by omega)]; exact xuI_self, fun k hk q => ?_, fun _ => rfl⟩, fun _ => xuI_self, ⟨0, by omega, by rw [xuI_col (by omega)]; exact xuI_self⟩, fun k hk => by rw [er _ (by omega)]; exact hl k hk⟩
    rw [tk_row (er k (by omega)), cn_0 hc k hk] at q
    cases q
  · rw [if_neg hc]
    exact ⟨⟨p, hp hc, hz, hb, fun q => absurd q hc⟩, fun _ => h5, h4, hl⟩
theorem TL_stB {A : MI} (h : TL A) : TL (pStB A) := by
  have er : ∀ k sh (V : MI), k < 4 → pUs V sh 4 k = V k := fun k sh V hk => by funext b; simp only [pUs]; rw [if_neg (by omega)]
  have el : ∀ k sh (V : MI), pUs V sh 4 (4 + k) 1 = V (4 + k) 1 := fun k sh V => by simp only [pUs]; rw [if_neg (by omega)]
  unfold pStB pStC
  refine TL_cg h ?_ ?_ ?_ (fun k hk => ?_) (fun k hk => ?_)
  · rw [xuI_col (by omega), xuI_col (by omega), pUs_ge (by omega), xuI_col (by omega)]
  · rw [xuI_col (by omega), xuI_col (by omega), pUs_ge (by omega), xuI_col (by omega)]
  · rw [xuI_col (by omega), xuI_col (by omega), pUs_ge (by omega), xuI_col (by omega)]
  · rw [xuI_row (by omega), xuI_row (by omega), er k _ _ hk, xuI_row (by omega)]; exact ⟨rfl, rfl⟩
  · rw [xuI_row (by omega), xuI_row (by omega), el, xuI_row (by omega)]
theorem pLs_tk {Z : MI} {b : Nat → Bool} {k : Nat} (hk : k < 4) (h : tk (pLs Z b 4) k = true) : tk Z k = true := by
  by_cases q : b k = true
  · have e : pLs Z b 4 k 1 = 0 := by simp only [pLs]; rw [if_pos (show k < 4 ∧ b k = true from ⟨hk, q⟩), if_pos trivial]
    unfold tk at h
    rw [e] at h
    exact absurd h (by decide)
  · have e : pLs Z b 4 k = Z k := by funext w; simp only [pLs]; rw [if_neg (fun z => q z.2)]
    rw [← tk_row e]; exact h
theorem pLs_c {Z : MI} {b : Nat → Bool} {a w : Nat} (h1 : w ≠ 1) (h3 : w ≠ 3) : pLs Z b 4 a w = Z a w := by
  simp only [pLs]
  split
  · first | rfl | rw [if_neg h1, if_neg h3]
  · rfl
theorem TL_stA {Y : MI} {p : Nat} (h : TL Y) (hz : Y 8 7 = nI p) (hp : p < 27) : TL (pStA Y p) := by
  have h' := h
  obtain ⟨⟨p', hp', hz', hb, h0⟩, h5, ⟨hh, hh9, eh⟩, hl⟩ := h
  have ep : p' = p := by
    have := congrArg Int32.toInt (hz'.symm.trans hz)
    rw [nI_toInt (by omega), nI_toInt (by omega)] at this
    omega
  subst ep
  unfold pStA
  by_cases hc : cn (tk Y) 4 = 0
  · rw [if_pos hc]
    refine ⟨⟨p', hp, by rw [xuI_col (by omega)]; exact hz, fun k hk q => ?_, fun _ => h0 hc⟩, fun _ => xuI_self, ⟨hh, hh9, by rw [xuI_col (by omega)]; exact eh⟩, fun k hk => by rw [xuI_row (by omega)]; exact hl k hk⟩
    rw [tk_row (xuI_row (by omega)), cn_0 hc k hk] at q
    cases q
  · rw [if_neg hc]
    split
    · show TL (pEn (pLs Y (lsr Y p') 4))
      refine TL_En (p := p') (fun _ => hp) (by rw [pLs_ge (by omega)]; exact hz) (fun k hk q => ?_) (by rw [pLs_ge (by omega)]; exact h5 hc) ⟨hh, hh9, by rw [pLs_ge (by omega)]; exact eh⟩ (fun k hk => by rw [pLs_ge (by omega)]; exact hl k hk)
      rw [pLs_c (by omega) (by omega)]
      exact hb k hk (pLs_tk hk q)
    · exact h'
