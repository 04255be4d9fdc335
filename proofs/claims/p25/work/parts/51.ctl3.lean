
/-! what binds a row stays so: a tick -/
theorem TL_ans {Y : MI} {p L l : Nat} (hl4 : l < 4) (hb : ∀ k, k < 4 → tk Y k = true → p < pBits (Y k 9)) (h9 : p % 9 = 8) (h5 : Y 8 5 = nI 0) (h4 : ∃ h, h ≤ 9 ∧ Y 8 4 = nI h) (hl : ∀ k, k < 4 → ∃ h, h ≤ 9 ∧ Y (4 + k) 1 = nI h) : TL (pAn Y L p l) := by
  unfold pAn
  obtain ⟨W, hW⟩ : ∃ W, xuI (pLog (pAw Y l (p / 9)) L (nI 0) (nI 1) (nI 0)) 8 7 (nI (p + 1)) = W := ⟨_, rfl⟩
  have wr : ∀ k, k < 4 → W k = Y k := fun k hk => by rw [← hW, xuI_row (by omega), pLog_row (by omega), pAw_row (by omega)]
  have w8 : ∀ c, c ≠ 7 → c ≠ 10 → W 8 c = Y 8 c := fun c h1 h2 => by rw [← hW, xuI_col h1, pLog_ne (by omega) (by omega), pAw_row (by omega)]
  have wl : ∀ k, k < 4 → W (4 + k) 1 = Y (4 + k) 1 := fun k hk => by
    rw [← hW, xuI_row (by omega), pLog_row (by omega)]
    unfold pAw
    split
    · rfl
    · rw [xuI_at (by omega), xuI_at (by omega)]
  rw [hW]
  have key : ∀ k, k < 4 → tk (pCm W (p + 1) 4) k = true → p + 1 < pBits (pCm W (p + 1) 4 k 9) := fun k hk q => by
    by_cases hs : sel W (p + 1) k = true
    · exfalso
      have e : pCm W (p + 1) 4 k = cRow (W k) := if_pos (show k < 4 ∧ sel W (p + 1) k = true from ⟨hk, hs⟩)
      have e1 : pCm W (p + 1) 4 k 1 = nI 0 := by rw [e]; simp [cRow, dRow]
      unfold tk at q
      rw [e1] at q
      exact absurd q (by decide)
    · have e : pCm W (p + 1) 4 k = W k := if_neg (show ¬ (k < 4 ∧ sel W (p + 1) k = true) from fun z => hs z.2)
      rw [tk_row (e.trans (wr k hk))] at q
      have h1 := hb k hk q
      rw [e, wr k hk]
      have h2 : ¬ p + 1 = pBits (Y k 9) := fun z => hs (by
        unfold sel
        rw [tk_row (wr k hk), q, Bool.true_and, wr k hk, z]
        exact decide_eq_true rfl)
      omega
  refine TL_En (p := p + 1) (fun hc => ?_) (by rw [pCm_ge (by omega), ← hW]; exact xuI_self) key (by rw [pCm_ge (by omega), w8 5 (by omega) (by omega)]; exact h5) (by rw [pCm_ge (by omega), w8 4 (by omega) (by omega)]; exact h4) (fun k hk => by rw [pCm_ge (by omega), wl k hk]; exact hl k hk)
  obtain ⟨j, hj, q⟩ := cn_ex hc
  have := key j hj q
  rcases pB_or (pCm W (p + 1) 4 j 9) with e | e <;> omega
theorem TL_tick {Z : MI} (h : TL Z) : TL (pTick Z) := by
  have h' := h
  obtain ⟨⟨p, hp, hz, hb, h0⟩, h5, ⟨hh, hh9, eh⟩, hl⟩ := h
  have eps : ps Z = p := by unfold ps; rw [hz, nI_cl (by omega)]
  have dz : pZd Z 8 7 = nI p := by rw [pZd_8 (by omega) (by omega)]; exact hz
  have d4 : pZd Z 8 4 = nI hh := by rw [pZd_8 (by omega) (by omega)]; exact eh
  have d5 : pZd Z 8 5 = Z 8 5 := pZd_8 (by omega) (by omega)
  have dk : ∀ k, k < 4 → tk (pZd Z) k = tk Z k := fun k hk => tk_row (pZd_row (by omega))
  have dc : cn (tk (pZd Z)) 4 = cn (tk Z) 4 := cn_congr dk
  have dT : (∃ j, j < 4 ∧ tk Z j = true) → ∃ j, j < 4 ∧ tk (pZd Z) j = true := fun ⟨j, hj, q⟩ => ⟨j, hj, (dk j hj).trans q⟩
  have dl : ∀ k, k < 4 → ∃ h, h ≤ 9 ∧ pZd Z (4 + k) 1 = nI h := fun k hk => by rw [pZd_row (by omega)]; exact hl k hk
  have db : ∀ k, k < 4 → tk (pZd Z) k = true → p < pBits (pZd Z k 9) := fun k hk q => by rw [pZd_row (by omega)]; exact hb k hk (by rw [← dk k hk]; exact q)
  have hd : TL (pZd Z) := TL_cg h' (by rw [dz, hz]) d5 (by rw [d4, eh]) (fun k hk => by rw [pZd_row (by omega)]; exact ⟨rfl, rfl⟩) (fun k hk => by rw [pZd_row (by omega)])
  have hcZ : TL (pZc Z) := TL_cg h' (by unfold pZc; rw [xuI_col (by omega)]) (by unfold pZc; rw [xuI_col (by omega)]) (by unfold pZc; rw [xuI_col (by omega)]) (fun k hk => by unfold pZc; rw [xuI_row (by omega)]; exact ⟨rfl, rfl⟩) (fun k hk => by unfold pZc; rw [xuI_row (by omega)])
  unfold pTick
  rw [eps]
  by_cases e4 : pNx Z p = 4
  · rw [if_pos e4]
    exact TL_stB (TL_stA hcZ (by unfold pZc; rw [xuI_col (by omega)]; exact hz) hp)
  · rw [if_neg e4]
    by_cases e3 : pNx Z p = 3
    · rw [if_pos e3]
      have hpos : 1 ≤ hh := by
        unfold pNx at e3
        split at e3
        · omega
        · split at e3
          · rename_i q2
            rw [eh] at q2
            have := (nI_ltI (a := 0) (by omega) (by omega)).mp q2
            omega
          · split at e3
            · omega
            · split at e3 <;> omega
      obtain ⟨⟨p', hp', hz', hb', h0'⟩, h5', -, hl'⟩ := hd
      have et : ∀ k, k < 4 → tk (xuI (pZd Z) 8 4 (Z 8 4 - nI 1)) k = tk (pZd Z) k := fun k hk => tk_row (xuI_row (by omega))
      exact ⟨⟨p', hp', by rw [xuI_col (by omega)]; exact hz', fun k hk q => by rw [xuI_row (by omega)]; exact hb' k hk (by rw [← et k hk]; exact q), fun q => h0' (by rw [← cn_congr et]; exact q)⟩, fun q => by rw [xuI_col (by omega)]; exact h5' (by rw [← cn_congr et]; exact q), ⟨hh - 1, by omega, by rw [xuI_self, eh]; exact nI_sub1 hpos⟩, fun k hk => by rw [xuI_row (by omega)]; exact hl' k hk⟩
    · rw [if_neg e3]
      by_cases e1 : pNx Z p = 1
      · rw [if_pos e1]
        have hTk := pNx_tk (Or.inl e1)
        have h9 : ¬ p % 9 = 8 := by
          unfold pNx at e1
          split at e1
          · omega
          · split at e1
            · omega
            · split at e1
              · omega
              · split at e1
                · omega
                · assumption
        exact TL_bit db h9 (dT hTk) (by rw [d5]; exact h5 (cn_ex0 hTk)) ⟨hh, hh9, d4⟩ dl
      · rw [if_neg e1]
        by_cases e0 : pNx Z p = 0
        · rw [if_pos e0]
          refine TL_free hd ?_
          rw [dc]
          unfold pNx at e0
          split at e0
          · omega
          · split at e0
            · omega
            · split at e0
              · assumption
              · split at e0 <;> omega
        · rw [if_neg e0]
          have hx := pNx_le (Z := Z) (p := p)
          have e2 : pNx Z p = 2 := by omega
          have hTk := pNx_tk (Or.inr e2)
          have h9 : p % 9 = 8 := by
            unfold pNx at e2
            split at e2
            · omega
            · split at e2
              · omega
              · split at e2
                · omega
                · split at e2
                  · assumption
                  · omega
          have z5 : pZd Z 8 5 = nI 0 := by rw [d5]; exact h5 (cn_ex0 hTk)
          unfold pAns
          rw [eps]
          cases ea : pLi (pZd Z) (Z (pFi Z) 7) with
          | none => exact TL_una hp dz z5 ⟨hh, hh9, d4⟩ dl
          | some l => exact TL_ans (pLi_spec ea).1 db h9 z5 ⟨hh, hh9, d4⟩ dl
