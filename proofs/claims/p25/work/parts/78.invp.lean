/-! places for answers; a tick, many ticks -/
theorem RX_dRow {c m a : Nat} {f : Nat → Int32} (e4 : f 4 = nI a) (ha : a ≤ c) (hm : m ≤ 4) (hg : ∀ j, j < m + 1 → (∃ x, x < 256 ∧ f (8 + 3 * j) = nI x) ∧ (f (9 + 3 * j) = -5 ∨ ∃ x, x < 256 ∧ f (9 + 3 * j) = nI x)) : RX c (dRow f m) := by
  have d0 : dRow f m 0 = nI m := by unfold dRow; rw [if_pos rfl]
  have d4 : dRow f m 4 = f 4 := by unfold dRow; rw [if_neg (by omega), if_neg (by omega), if_neg (by omega)]
  have d6 : dRow f m 6 = nI 0 := by unfold dRow; rw [if_neg (by omega), if_pos rfl]; rfl
  have dm : ∀ b, 7 ≤ b → b < 7 + 3 * m → dRow f m b = f (b + 3) := fun b h1 h2 => by unfold dRow; rw [if_neg (by omega), if_neg (by omega), if_pos ⟨h1, h2⟩]
  refine ⟨⟨a, 0, d4.trans e4, d6, by omega, ha, fun _ => rfl⟩, fun m' hm' e0 j hj => ?_⟩
  have : m' = m := nI_inj (by omega) (by omega) (e0.symm.trans d0)
  subst this
  rw [dm _ (by omega) (by omega), dm _ (by omega) (by omega), show 8 + 3 * j + 3 = 8 + 3 * (j + 1) by omega, show 9 + 3 * j + 3 = 9 + 3 * (j + 1) by omega]
  exact hg (j + 1) (by omega)
def cA (r : Nat → Int32) : Nat → Int32 := fun b => if b = 1 then nI 0 else if b = 2 then r 2 + nI 1 else r b
def uA (r : Nat → Int32) : Nat → Int32 := fun b => if b = 1 then nI 0 else if b = 4 then r 4 + nI 1 else if b = 6 then r 6 + nI 1 else r b
def uB (r : Nat → Int32) : Nat → Int32 := fun b => if b = 1 then nI 0 else if b = 4 then r 4 + nI 1 else if b = 5 then r 5 + nI 1 else if b = 6 then r 6 + nI 1 else r b
theorem cA_o {r : Nat → Int32} {b : Nat} (h1 : b ≠ 1) (h2 : b ≠ 2) : cA r b = r b := by unfold cA; rw [if_neg h1, if_neg h2]
theorem uA_o {r : Nat → Int32} {b : Nat} (h1 : b ≠ 1) (h4 : b ≠ 4) (h6 : b ≠ 6) : uA r b = r b := by unfold uA; rw [if_neg h1, if_neg h4, if_neg h6]
theorem uB_o {r : Nat → Int32} {b : Nat} (h1 : b ≠ 1) (h4 : b ≠ 4) (h5 : b ≠ 5) (h6 : b ≠ 6) : uB r b = r b := by unfold uB; rw [if_neg h1, if_neg h4, if_neg h5, if_neg h6]
theorem cRow_eq {r : Nat → Int32} {m : Nat} (hm4 : m ≤ 4) (hm : r 0 = nI (m + 1)) : cRow r = dRow (cA r) m := by
  show dRow (cA r) ((r 0).toNatClampNeg - 1) = _
  rw [hm, nI_cl (by omega), Nat.add_sub_cancel]
theorem uRow_eq {r : Nat → Int32} {m : Nat} {s1 : Int32} (hm4 : m ≤ 4) (hm : r 0 = nI (m + 1)) : uRow r s1 = if r 6 + nI 1 < s1 then uA r else dRow (uB r) m := by
  show (if r 6 + nI 1 < s1 then uA r else dRow (uB r) ((r 0).toNatClampNeg - 1)) = _
  rw [hm, nI_cl (by omega), Nat.add_sub_cancel]
theorem RX_c {d c m : Nat} {r : Nat → Int32} (h : RX d r) (hd : d ≤ c) (hm4 : m ≤ 4) (hm : r 0 = nI (m + 1)) : RX c (cRow r) := by
  obtain ⟨⟨a, b, h1, h2, h3, h4, h5⟩, h6⟩ := h
  rw [cRow_eq hm4 hm]
  refine RX_dRow (a := a) ?_ (by omega) hm4 (fun j hj => ?_)
  · rw [cA_o (by omega) (by omega)]; exact h1
  · rw [cA_o (by omega) (by omega), cA_o (by omega) (by omega)]
    exact h6 (m + 1) (by omega) hm j hj
theorem RX_u {d c m : Nat} {r : Nat → Int32} {s1 : Int32} (h : RX d r) (hd : d < c) (hm4 : m ≤ 4) (hm : r 0 = nI (m + 1)) : RX c (uRow r s1) := by
  obtain ⟨⟨a, b, h1, h2, h3, h4, h5⟩, h6⟩ := h
  rw [uRow_eq hm4 hm]
  by_cases q : r 6 + nI 1 < s1
  · rw [if_pos q]
    refine ⟨⟨a + 1, b + 1, ?_, ?_, by omega, by omega, fun z => ?_⟩, fun m' hm' e0 j hj => ?_⟩
    · show r 4 + nI 1 = _
      rw [h1, nI_add]
    · show r 6 + nI 1 = _
      rw [h2, nI_add]
    · rw [uA_o (by omega) (by omega) (by omega), hm] at z
      exact absurd (nI_inj (by omega) (by omega) z) (by omega)
    · rw [uA_o (by omega) (by omega) (by omega)] at e0
      rw [uA_o (by omega) (by omega) (by omega), uA_o (by omega) (by omega) (by omega)]
      exact h6 m' hm' e0 j hj
  · rw [if_neg q]
    refine RX_dRow (a := a + 1) ?_ (by omega) hm4 (fun j hj => ?_)
    · show r 4 + nI 1 = _
      rw [h1, nI_add]
    · rw [uB_o (by omega) (by omega) (by omega) (by omega), uB_o (by omega) (by omega) (by omega) (by omega)]
      exact h6 (m + 1) (by omega) hm j hj
/-- nobody answers -/
theorem V_una {c d p L h : Nat} {Y : MI} (hV : V c d p L h Y) (hN : NB Y) (hd : d < c) (h9 : p % 9 = 8) : ∃ p' L' h', V c c p' L' h' (pUa Y L p) := by
  obtain ⟨⟨⟨a3, a7, a10, a4⟩, b1, b2, b3, b4⟩, hR, hLs, ⟨s1, s2, s3, s4⟩, hG, hTk⟩ := hV
  obtain ⟨g1, g2, g3, g4⟩ := L1_le b3
  unfold pUa
  have u8 : ∀ w, w ≠ 10 → pUn (pLog Y L (nI 1) (nI 1) (nI 0)) 4 8 w = Y 8 w := fun w hw => by rw [pUn_ge (by omega), pLog_ne (by omega) (by omega)]
  have hc : cn (tk (pUn (pLog Y L (nI 1) (nI 1) (nI 0)) 4)) 4 = 0 := by
    rw [cn_congr (q := fun _ => false) (fun j hj => pUn_tk hj)]; rfl
  have hRU : ∀ k, k < 4 → RX c (pUn (pLog Y L (nI 1) (nI 1) (nI 0)) 4 k) := fun k hk => by
    by_cases q : tk (pLog Y L (nI 1) (nI 1) (nI 0)) k = true
    · have e : pUn (pLog Y L (nI 1) (nI 1) (nI 0)) 4 k = uRow (pLog Y L (nI 1) (nI 1) (nI 0) k) (pLog Y L (nI 1) (nI 1) (nI 0) 8 1) := if_pos ⟨hk, q⟩
      rw [e, pLog_row (by omega)]
      rw [tk_row (pLog_row (by omega))] at q
      obtain ⟨m, m1, m5, em⟩ := hN.tm hk q
      exact RX_u (m := m - 1) (hR k hk) hd (by omega) (by rw [em]; congr 1; omega)
    · have e : pUn (pLog Y L (nI 1) (nI 1) (nI 0)) 4 k = pLog Y L (nI 1) (nI 1) (nI 0) k := if_neg (fun z => q z.2)
      rw [e, pLog_row (by omega)]
      exact (hR k hk).mono (by omega)
  obtain ⟨p', h', hv⟩ := V_en (c := c) (d := c) (p := p) (L := L1 L) (h := h) (U := pUn (pLog Y L (nI 1) (nI 1) (nI 0)) 4) ⟨by rw [u8 3 (by omega)]; exact a3, by rw [u8 7 (by omega)]; exact a7, by rw [pUn_ge (by omega), pLog_q]; rfl, by rw [u8 4 (by omega)]; exact a4⟩ ⟨Nat.le_refl _, g1, b4⟩ (fun _ => b2) hRU (fun k hk => by rw [pUn_ge (by omega), pLog_row (by omega)]; exact (hLs k hk).mono (by omega)) (by rw [u8 6 (by omega)]; exact s1) (by rw [u8 2 (by omega)]; exact s2) (fun _ _ => h9) (by
      rw [pUn_ge (by omega)]
      exact lg_log (w := true) (i := true) hG b3 hd a3 (fun _ => rfl)) (fun q => absurd hc q)
  exact ⟨p', _, h', hv⟩
/-- the word that is taken -/
theorem LX_aw {d c p l L h : Nat} {Y : MI} (hV : V c d p L h Y) (hN : NB Y) (hd : d < c) (hl4 : l < 4) (h9 : p % 9 = 8) (hb : ∀ k, k < 4 → tk Y k = true → p < pBits (Y k 9)) (hT : ∃ j, j < 4 ∧ tk Y j = true) {k : Nat} (hk : k < 4) : LX c (pAw Y l (p / 9) (4 + k)) := by
  obtain ⟨⟨-, b1, b2, b3, b4⟩, hR, hLs, -⟩ := hV
  by_cases e : k = l
  · subst e
    unfold pAw
    by_cases q : p / 9 = 0
    · rw [if_pos q]; exact (hLs k hk).mono (by omega)
    · rw [if_neg q]
      obtain ⟨w, w1, w2, w3⟩ := hLs k hk
      have hf := pFi_lt Y
      have ht := pFi_tk hT
      obtain ⟨m, m1, m5, em⟩ := hN.tm hf ht
      obtain ⟨x8, x9⟩ := (hR _ hf).2 m m5 em 0 (by omega)
      have hx : ∃ x, x < 256 ∧ Y (pFi Y) (7 + p / 9) = nI x := by
        rcases (show p / 9 = 1 ∨ p / 9 = 2 by omega) with z | z
        · rw [z]; exact x8
        · rw [z]
          rcases x9 with x9 | x9
          · exfalso
            have := hb _ hf ht
            rw [show Y (pFi Y) 9 = -5 from x9] at this
            unfold pBits at this
            rw [if_pos rfl] at this
            omega
          · exact x9
      obtain ⟨x, hx1, hx2⟩ := hx
      refine ⟨w + 1, by omega, ?_, Or.inr ⟨by omega, x, hx1, ?_⟩⟩
      · rw [xuI_col (by omega), xuI_self, w2, nI_add]
      · rw [xuI_self]; exact hx2
  · rw [pAw_row (by omega)]
    exact (hLs k hk).mono (by omega)
/-- an answer -/
theorem V_ans {c d p L h l : Nat} {Y : MI} (hV : V c d p L h Y) (hN : NB Y) (hd : d < c) (h0 : h = 0) (hl4 : l < 4) (h9 : p % 9 = 8) (hb : ∀ k, k < 4 → tk Y k = true → p < pBits (Y k 9)) (hT : ∃ j, j < 4 ∧ tk Y j = true) : ∃ p' L' h', V c c p' L' h' (pAn Y L p l) := by
  have hLA : ∀ k, k < 4 → LX c (pAw Y l (p / 9) (4 + k)) := fun k hk => LX_aw hV hN hd hl4 h9 hb hT hk
  subst h0
  obtain ⟨⟨⟨a3, a7, a10, a4⟩, b1, b2, b3, b4⟩, hR, hLs, ⟨s1, s2, s3, s4⟩, hG, hTk⟩ := hV
  obtain ⟨g1, g2, g3, g4⟩ := L1_le b3
  unfold pAn
  obtain ⟨A, hA⟩ : ∃ A, pAw Y l (p / 9) = A := ⟨_, rfl⟩
  rw [hA]
  rw [hA] at hLA
  have aY : ∀ a, a < 4 ∨ 8 ≤ a → A a = Y a := fun a ha => by rw [← hA, pAw_row (by omega)]
  obtain ⟨B, hB⟩ : ∃ B, xuI (pLog A L (nI 0) (nI 1) (nI 0)) 8 7 (nI (p + 1)) = B := ⟨_, rfl⟩
  rw [hB]
  have bk : ∀ k, k < 4 → B k = Y k := fun k hk => by rw [← hB, xuI_row (by omega), pLog_row (by omega), aY k (by omega)]
  have bl : ∀ k, k < 4 → B (4 + k) = A (4 + k) := fun k hk => by rw [← hB, xuI_row (by omega), pLog_row (by omega)]
  have b8 : ∀ w, w ≠ 7 → w ≠ 10 → B 8 w = Y 8 w := fun w h1 h2 => by rw [← hB, xuI_col h1, pLog_ne (by omega) (by omega), aY 8 (by omega)]
  have b9 : B 9 = pLog A L (bi false) (bi (decide (p % 9 = 8))) (nI 0) 9 := by
    rw [← hB, xuI_row (by omega), decide_eq_true h9]; rfl
  have b10 : B 8 10 = nI (L1 L) := by rw [← hB, xuI_col (by omega), pLog_q]; rfl
  have b7 : B 8 7 = nI (p + 1) := by rw [← hB]; exact xuI_self
  have key : ∀ k, k < 4 → tk (pCm B (p + 1) 4) k = true → pCm B (p + 1) 4 k = Y k ∧ tk Y k = true ∧ p + 1 < pBits (Y k 9) := fun k hk q => by
    by_cases hs : sel B (p + 1) k = true
    · exfalso
      have e : pCm B (p + 1) 4 k = cRow (B k) := if_pos (show k < 4 ∧ sel B (p + 1) k = true from ⟨hk, hs⟩)
      have e1 : pCm B (p + 1) 4 k 1 = nI 0 := by rw [e]; simp [cRow, dRow]
      unfold tk at q
      rw [e1] at q
      exact absurd q (by decide)
    · have e : pCm B (p + 1) 4 k = B k := if_neg (show ¬ (k < 4 ∧ sel B (p + 1) k = true) from fun z => hs z.2)
      have e2 := e.trans (bk k hk)
      rw [tk_row e2] at q
      have h1 := hb k hk q
      refine ⟨e2, q, ?_⟩
      have h2 : ¬ p + 1 = pBits (Y k 9) := fun z => hs (by
        unfold sel
        rw [tk_row (bk k hk), q, Bool.true_and, bk k hk, z]
        exact decide_eq_true rfl)
      omega
  have u8 : ∀ w, pCm B (p + 1) 4 8 w = B 8 w := fun w => by rw [pCm_ge (by omega)]
  have hc : ¬ cn (tk A) 4 = 0 := by
    obtain ⟨j, hj, q⟩ := hT
    exact cn_ex0 ⟨j, hj, by rw [tk_row (aY j (by omega))]; exact q⟩
  have hAT : TkX p L A := hTk.cg (fun k hk t => by rw [aY k (by omega)]; exact ⟨by rw [← tk_row (aY k (by omega))]; exact t, rfl, rfl, rfl⟩) (Nat.le_of_lt b2) (aY 9 (by omega))
  have hq27 : ¬ cn (tk (pCm B (p + 1) 4)) 4 = 0 → p + 1 < 27 := fun q => by
    obtain ⟨j, hj, t⟩ := cn_ex q
    have := (key j hj t).2.2
    rcases pB_or (Y j 9) with e | e <;> omega
  have hRU : ∀ k, k < 4 → RX c (pCm B (p + 1) 4 k) := fun k hk => by
    by_cases hs : sel B (p + 1) k = true
    · have e : pCm B (p + 1) 4 k = cRow (B k) := if_pos (show k < 4 ∧ sel B (p + 1) k = true from ⟨hk, hs⟩)
      have ht : tk Y k = true := by
        have := hs
        unfold sel at this
        rw [Bool.and_eq_true, tk_row (bk k hk)] at this
        exact this.1
      obtain ⟨m, m1, m5, em⟩ := hN.tm hk ht
      rw [e, bk k hk]
      exact RX_c (m := m - 1) (hR k hk) (by omega) (by omega) (by rw [em]; congr 1; omega)
    · have e : pCm B (p + 1) 4 k = B k := if_neg (show ¬ (k < 4 ∧ sel B (p + 1) k = true) from fun z => hs z.2)
      rw [e, bk k hk]
      exact (hR k hk).mono (by omega)
  obtain ⟨p', h', hv⟩ := V_en (c := c) (d := c) (p := p + 1) (L := L1 L) (h := 0) (U := pCm B (p + 1) 4) ⟨by rw [u8, b8 3 (by omega) (by omega)]; exact a3, by rw [u8]; exact b7, by rw [u8]; exact b10, by rw [u8, b8 4 (by omega) (by omega)]; exact a4⟩ ⟨Nat.le_refl _, g1, by omega⟩ hq27 hRU (fun k hk => by rw [pCm_ge (by omega), bl k hk]; exact hLA k hk) (by rw [u8, b8 6 (by omega) (by omega)]; exact s1) (by rw [u8, b8 2 (by omega) (by omega)]; exact s2) (fun _ q => absurd q (by omega)) (by
      rw [pCm_ge (by omega), b9, decide_eq_true h9]
      exact lg_log (d := d) (w := false) (i := true) (by rw [aY 9 (by omega)]; exact hG) b3 hd (by rw [aY 8 (by omega)]; exact a3) (fun _ => rfl)) (tk_log hAT b3 b2 hc (by rw [pCm_ge (by omega)]; exact b9) (fun k hk t => by
        obtain ⟨e, t0, -⟩ := key k hk t
        rw [e, aY k (by omega)]
        exact ⟨by rw [tk_row (aY k (by omega))]; exact t0, rfl, rfl, rfl⟩) (fun _ => rfl) (fun z => absurd h9 z))
  exact ⟨p', _, h', hv⟩
theorem V_tick {c p L h : Nat} {Z : MI} (hV : V c c p L h Z) (hN : NB Z) (hTL : TL Z) : ∃ p' L' h', V (c + 1) (c + 1) p' L' h' (pTick Z) := by
  have hC := V_zc hV
  have hD := V_zd hV
  have hV' := hV
  obtain ⟨⟨⟨a3, a7, a10, a4⟩, b1, b2, b3, b4⟩, -, -, ⟨-, -, s3, s4⟩, -, -⟩ := hV
  obtain ⟨⟨p2, hp2, hz2, hb, h02⟩, h5, -, hl⟩ := hTL
  have ep : p2 = p := nI_inj (by omega) (by omega) (hz2.symm.trans a7)
  subst ep
  have eps : ps Z = p2 := by unfold ps; rw [a7, nI_cl (by omega)]
  have elg : lgn Z = L := by unfold lgn; rw [a10, nI_cl (by omega)]
  have dk : ∀ k, k < 4 → tk (pZd Z) k = tk Z k := fun k hk => tk_row (pZd_row (by omega))
  have dc : cn (tk (pZd Z)) 4 = cn (tk Z) 4 := cn_congr dk
  have dT : (∃ j, j < 4 ∧ tk Z j = true) → ∃ j, j < 4 ∧ tk (pZd Z) j = true := fun ⟨j, hj, q⟩ => ⟨j, hj, (dk j hj).trans q⟩
  have dl : ∀ k, k < 4 → ∃ h, h ≤ 9 ∧ pZd Z (4 + k) 1 = nI h := fun k hk => by rw [pZd_row (by omega)]; exact hl k hk
  have db : ∀ k, k < 4 → tk (pZd Z) k = true → p2 < pBits (pZd Z k 9) := fun k hk q => by rw [pZd_row (by omega)]; exact hb k hk (by rw [← dk k hk]; exact q)
  have hNd : NB (pZd Z) := NB_cg hN (fun k hk => pZd_row (by omega)) (pZd_8 (by omega) (by omega))
  have fin : ∀ {Y : MI}, (∃ p' h', V (c + 1) c p' L h' Y) → ∃ p' L' h', V (c + 1) (c + 1) p' L' h' Y := fun ⟨p', h', hv⟩ => ⟨p', L, h', hv.md (by omega) (Nat.le_refl _)⟩
  unfold pTick
  rw [eps, elg]
  by_cases e4 : pNx Z p2 = 4
  · rw [if_pos e4]
    obtain ⟨p', h', hv⟩ := V_stA hC
    exact fin ⟨p', h', V_stB hv⟩
  · rw [if_neg e4]
    by_cases e3 : pNx Z p2 = 3
    · rw [if_pos e3]
      have hpos : 1 ≤ h := by
        unfold pNx at e3
        split at e3
        · omega
        · split at e3
          · rename_i q2
            rw [a4] at q2
            have := (nI_ltI (a := 0) (by omega) (by omega)).mp q2
            omega
          · split at e3
            · omega
            · split at e3 <;> omega
      exact fin ⟨p2, h - 1, hD.cg (fun k hk => xuI_row (by omega)) (xuI_row (by omega)) (xuI_col (by omega)) (by rw [xuI_col (by omega)]; exact hD.1.1.1) (by rw [xuI_col (by omega)]; exact hD.1.1.2.1) (by rw [xuI_self, a4]; exact nI_sub1 hpos) (by rw [xuI_col (by omega)]; exact hD.e6) (by rw [xuI_col (by omega)]; exact hD.e2) (Nat.le_refl _) (Or.inl rfl) (Or.inl (by omega))⟩
    · rw [if_neg e3]
      by_cases e1 : pNx Z p2 = 1
      · rw [if_pos e1]
        have hTk := pNx_tk (Or.inl e1)
        have h9 : ¬ p2 % 9 = 8 := by
          unfold pNx at e1
          split at e1
          · omega
          · split at e1
            · omega
            · split at e1
              · omega
              · split at e1
                · omega
                · assumption
        have hh : h = 0 := Nat.eq_zero_of_not_pos (fun q => h9 (s3 q))
        exact V_bit hD (by omega) hh db h9 (dT hTk) dl
      · rw [if_neg e1]
        by_cases e0 : pNx Z p2 = 0
        · rw [if_pos e0]
          refine fin (V_free hD ?_)
          rw [dc]
          unfold pNx at e0
          split at e0
          · omega
          · split at e0
            · omega
            · split at e0
              · assumption
              · split at e0 <;> omega
        · rw [if_neg e0]
          have hx := pNx_le (Z := Z) (p := p2)
          have e2 : pNx Z p2 = 2 := by omega
          have hTk := pNx_tk (Or.inr e2)
          have h9 : p2 % 9 = 8 ∧ h = 0 := by
            unfold pNx at e2
            split at e2
            · omega
            · split at e2
              · omega
              · rename_i q2
                have hh : h = 0 := by
                  rw [a4] at q2
                  exact Nat.eq_zero_of_not_pos (fun z => q2 ((nI_ltI (a := 0) (by omega) (by omega)).mpr z))
                split at e2
                · omega
                · split at e2
                  · exact ⟨by assumption, hh⟩
                  · omega
          unfold pAns
          rw [eps, elg]
          cases ea : pLi (pZd Z) (Z (pFi Z) 7) with
          | none => exact V_una hD hNd (by omega) h9.1
          | some l => exact V_ans hD hNd (by omega) h9.2 (pLi_spec ea).1 h9.1 db (dT hTk)
/-- all that binds a row at the clock c -/
def IN (c : Nat) (Z : MI) : Prop := NB Z ∧ TL Z ∧ ∃ p L h, V c c p L h Z
theorem IN_tick {c : Nat} {Z : MI} (h : IN c Z) : IN (c + 1) (pTick Z) := by
  obtain ⟨h1, h2, p, L, hh, h3⟩ := h
  exact ⟨NB_tick h1, TL_tick h2, V_tick h3 h1 h2⟩
theorem IN_pTk {c : Nat} {Z : MI} (h : IN c Z) : ∀ j, IN (c + j) (pTk Z j) := by
  intro j
  induction j with
  | zero => exact h
  | succ j ih => exact IN_tick ih
