
/-! what binds a row stays so: free ticks, bits, places -/
theorem pB_or (v : Int32) : pBits v = 18 ∨ pBits v = 27 := by unfold pBits; split <;> simp
theorem cn_ex0 {p : Nat → Bool} (h : ∃ j, j < 4 ∧ p j = true) : ¬ cn p 4 = 0 := fun z => by
  obtain ⟨j, hj, q⟩ := h
  rw [cn_0 z j hj] at q
  cases q
theorem TL_f5 {Y : MI} {v : Int32} (h : TL Y) (hc : cn (tk Y) 4 = 0) : TL (xuI Y 8 5 v) := by
  obtain ⟨⟨p, hp, hz, hb, h0⟩, h5, ⟨hh, hh9, eh⟩, hl⟩ := h
  have et : ∀ k, k < 4 → tk (xuI Y 8 5 v) k = tk Y k := fun k hk => tk_row (xuI_row (by omega))
  refine ⟨⟨p, hp, by rw [xuI_col (by omega)]; exact hz, fun k hk q => ?_, fun _ => h0 hc⟩, fun q => absurd (by rw [cn_congr et]; exact hc) q, ⟨hh, hh9, by rw [xuI_col (by omega)]; exact eh⟩, fun k hk => by rw [xuI_row (by omega)]; exact hl k hk⟩
  rw [et k hk, cn_0 hc k hk] at q
  cases q
theorem TL_free {Y : MI} (h : TL Y) (hc : cn (tk Y) 4 = 0) : TL (pTf Y) := by
  unfold pTf
  split
  · exact TL_f5 h hc
  · split
    · exact TL_f5 h hc
    · obtain ⟨-, -, ⟨hh, hh9, eh⟩, hl⟩ := h
      refine ⟨⟨0, by omega, by rw [xuI_col (by omega)]; exact xuI_self, fun k hk q => ?_, fun _ => rfl⟩, fun _ => by rw [xuI_col (by omega), xuI_col (by omega)]; exact xuI_self, ⟨hh, hh9, by rw [xuI_col (by omega), xuI_col (by omega), xuI_col (by omega), pFr_ge (by omega), xuI_col (by omega)]; exact eh⟩, fun k hk => by rw [xuI_row (by omega), xuI_row (by omega), xuI_row (by omega), pFr_ge (by omega), xuI_row (by omega)]; exact hl k hk⟩
      rcases pB_or (xuI (xuI (xuI (pFr (xuI Y 8 5 (Y 8 5 + nI 1)) 4) 8 5 (nI 0)) 8 7 (nI 0)) 8 8 (Y 8 8 + nI 1) k 9) with e | e <;> omega
theorem TL_bit {Y : MI} {p L : Nat} (hb : ∀ k, k < 4 → tk Y k = true → p < pBits (Y k 9)) (h9 : ¬ p % 9 = 8) (hT : ∃ j, j < 4 ∧ tk Y j = true) (h5 : Y 8 5 = nI 0) (h4 : ∃ h, h ≤ 9 ∧ Y 8 4 = nI h) (hl : ∀ k, k < 4 → ∃ h, h ≤ 9 ∧ Y (4 + k) 1 = nI h) : TL (pTb Y L p) := by
  rw [pTb_eq]
  obtain ⟨V, hV⟩ : ∃ V, pLs Y (lsB Y p) 4 = V := ⟨_, rfl⟩
  obtain ⟨w, hw⟩ : ∃ w, (if bi (any4 (ss Y (tk Y) p 0)) = 0 then nI 1 else nI 0) = w := ⟨_, rfl⟩
  obtain ⟨l, hlo⟩ : ∃ l, nI (cn (lsB Y p) 4) = l := ⟨_, rfl⟩
  have hTV : ∃ j, j < 4 ∧ tk V j = true := by rw [← hV]; exact lsB_tk hT
  have hbV : ∀ k, k < 4 → tk V k = true → p + 1 < pBits (V k 9) := fun k hk q => by
    rw [← hV] at q
    have e9 : V k 9 = Y k 9 := by rw [← hV]; exact pLs_c (by omega) (by omega)
    have := hb k hk (pLs_tk hk q)
    rw [e9]
    rcases pB_or (Y k 9) with e | e <;> omega
  have hlV : ∀ k, k < 4 → ∃ h, h ≤ 9 ∧ V (4 + k) 1 = nI h := fun k hk => by rw [← hV, pLs_ge (by omega)]; exact hl k hk
  have v5 : V 8 5 = nI 0 := by rw [← hV, pLs_ge (by omega)]; exact h5
  have v4 : ∃ h, h ≤ 9 ∧ V 8 4 = nI h := by rw [← hV, pLs_ge (by omega)]; exact h4
  rw [hV, hw, hlo]
  have hp27 : p + 1 < 27 := by
    obtain ⟨j, hj, q⟩ := hTV
    have := hbV j hj q
    rcases pB_or (V j 9) with e | e <;> omega
  obtain ⟨B, hB⟩ : ∃ B, pB3 V L p w l = B := ⟨_, rfl⟩
  have br : ∀ a, a < 8 → B a = V a := fun a ha => by rw [← hB]; unfold pB3; rw [xuI_row (by omega), pLog_row ha]
  have b8 : ∀ c, c ≠ 7 → c ≠ 10 → B 8 c = V 8 c := fun c h1 h2 => by rw [← hB]; unfold pB3; rw [xuI_col h1, pLog_ne (by omega) (by omega)]
  have hTB : TL B := by
    refine ⟨⟨p + 1, hp27, by rw [← hB]; unfold pB3; exact xuI_self, fun k hk q => ?_, fun q => absurd q (cn_ex0 ?_)⟩, fun _ => by rw [b8 5 (by omega) (by omega)]; exact v5, by rw [b8 4 (by omega) (by omega)]; exact v4, fun k hk => by rw [br _ (by omega)]; exact hlV k hk⟩
    · rw [br k (by omega)]
      exact hbV k hk (by rw [← tk_row (br k (by omega))]; exact q)
    · obtain ⟨j, hj, q⟩ := hTV
      exact ⟨j, hj, by rw [tk_row (br j (by omega))]; exact q⟩
  unfold pBt
  rw [hB]
  split
  · have hh : ∃ h, h ≤ 9 ∧ pHo B (pLi B (B (pFi B) 7)) = nI h := by
      cases e : pLi B (B (pFi B) 7) with
      | none => exact ⟨0, by omega, rfl⟩
      | some l2 =>
        have h4' := (pLi_spec e).1
        obtain ⟨h, q1, q2⟩ := hlV l2 h4'
        exact ⟨h, q1, by show B (4 + l2) 1 = nI h; rw [br _ (by omega)]; exact q2⟩
    obtain ⟨⟨p', hp', hz', hb', h0'⟩, h5', -, hl'⟩ := hTB
    have et : ∀ k, k < 4 → tk (xuI B 8 4 (pHo B (pLi B (B (pFi B) 7)))) k = tk B k := fun k hk => tk_row (xuI_row (by omega))
    exact ⟨⟨p', hp', by rw [xuI_col (by omega)]; exact hz', fun k hk q => by rw [xuI_row (by omega)]; exact hb' k hk (by rw [← et k hk]; exact q), fun q => h0' (by rw [← cn_congr et]; exact q)⟩, fun q => by rw [xuI_col (by omega)]; exact h5' (by rw [← cn_congr et]; exact q), by rw [xuI_self]; exact hh, fun k hk => by rw [xuI_row (by omega)]; exact hl' k hk⟩
  · exact hTB
theorem TL_una {Y : MI} {p L : Nat} (hp : p < 27) (hz : Y 8 7 = nI p) (h5 : Y 8 5 = nI 0) (h4 : ∃ h, h ≤ 9 ∧ Y 8 4 = nI h) (hl : ∀ k, k < 4 → ∃ h, h ≤ 9 ∧ Y (4 + k) 1 = nI h) : TL (pUa Y L p) := by
  unfold pUa
  refine TL_En (p := p) (fun _ => hp) (by rw [pUn_ge (by omega), pLog_ne (by omega) (by omega)]; exact hz) (fun k hk q => ?_) (by rw [pUn_ge (by omega), pLog_ne (by omega) (by omega)]; exact h5) (by rw [pUn_ge (by omega), pLog_ne (by omega) (by omega)]; exact h4) (fun k hk => by rw [pUn_ge (by omega), pLog_row (by omega)]; exact hl k hk)
  rw [pUn_tk hk] at q
  cases q
