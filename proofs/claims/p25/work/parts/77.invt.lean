/-! the log grows -/
def L1 (L : Nat) : Nat := if L = 64 then 64 else L + 1
def sh1 (L : Nat) : Nat := if L = 64 then 1 else 0
theorem pLa_9 {Z : MI} {L b : Nat} {w i c l : Int32} : pLa Z L w i c l 9 b = if b = 4 * L + 3 then l else if b = 4 * L + 2 then c else if b = 4 * L + 1 then i else if b = 4 * L then w else Z 9 b := by
  unfold pLa
  rw [xuI_row (by omega)]
  simp only [xuI, true_and]
theorem pLog_old {Z : MI} {L e b : Nat} {w i l : Int32} (hb : b < 4) (he : e + 1 < L1 L) : pLog Z L w i l 9 (4 * e + b) = Z 9 (4 * (e + sh1 L) + b) := by
  unfold L1 at he
  unfold pLog sh1
  by_cases h : L = 64
  · rw [if_pos h] at he
    rw [if_pos h, if_pos h, pLa_9, if_neg (by omega), if_neg (by omega), if_neg (by omega), if_neg (by omega), xuI_row (by omega)]
    unfold pSh
    rw [if_pos (by omega)]
    congr 1
    omega
  · rw [if_neg h] at he
    rw [if_neg h, if_neg h, pLa_9, if_neg (by omega), if_neg (by omega), if_neg (by omega), if_neg (by omega)]
    rfl
theorem pLog_new {Z : MI} {L b : Nat} {w i l : Int32} (hb : b < 4) : pLog Z L w i l 9 (4 * (L1 L - 1) + b) = if b = 3 then l else if b = 2 then Z 8 3 else if b = 1 then i else w := by
  have key : ∀ (Y : MI) (M : Nat) (c : Int32), pLa Y M w i c l 9 (4 * M + b) = if b = 3 then l else if b = 2 then c else if b = 1 then i else w := fun Y M c => by
    rw [pLa_9]
    rcases (show b = 0 ∨ b = 1 ∨ b = 2 ∨ b = 3 by omega) with rfl | rfl | rfl | rfl
    · rw [if_neg (by omega), if_neg (by omega), if_neg (by omega), if_pos (by omega)]; rfl
    · rw [if_neg (by omega), if_neg (by omega), if_pos (by omega)]; rfl
    · rw [if_neg (by omega), if_pos (by omega)]; rfl
    · rw [if_pos (by omega)]; rfl
  unfold pLog L1
  by_cases h : L = 64
  · rw [if_pos h, if_pos h]; exact key _ 63 _
  · rw [if_neg h, if_neg h, Nat.add_sub_cancel]; exact key _ L _
theorem L1_le {L : Nat} (h : L ≤ 64) : L1 L ≤ 64 ∧ 1 ≤ L1 L ∧ L1 L - 1 + sh1 L = L ∧ L ≤ L1 L := by
  unfold L1 sh1
  by_cases q : L = 64
  · rw [if_pos q, if_pos q]; omega
  · rw [if_neg q, if_neg q]; omega
theorem lg_log {d c L : Nat} {Z : MI} {w i : Bool} {l : Int32} (h : LgX d L (Z 9)) (hL : L ≤ 64) (hd : d < c) (e3 : Z 8 3 = nI c) (hl : w = true ∨ i = true → l = 0) : LgX c (L1 L) (pLog Z L (bi w) (bi i) l 9) := by
  obtain ⟨T, h1, h2⟩ := h
  obtain ⟨g1, g2, g3, g4⟩ := L1_le hL
  refine ⟨fun j => if j + 1 = L1 L then c else T (j + sh1 L), fun j hj => ?_, fun a b hab hb => ?_⟩
  · show EN (fun x => pLog Z L (bi w) (bi i) l 9 (4 * j + x)) (if j + 1 = L1 L then c else T (j + sh1 L)) ∧ (if j + 1 = L1 L then c else T (j + sh1 L)) ≤ c
    by_cases q : j + 1 = L1 L
    · rw [if_pos q]
      have ej : j = L1 L - 1 := by omega
      refine ⟨⟨w, i, ?_, ?_, ?_, fun z => ?_⟩, Nat.le_refl _⟩
      · have := pLog_new (Z := Z) (L := L) (b := 0) (w := bi w) (i := bi i) (l := l) (by omega)
        rw [← ej] at this
        exact this
      · have := pLog_new (Z := Z) (L := L) (b := 1) (w := bi w) (i := bi i) (l := l) (by omega)
        rw [← ej] at this
        exact this
      · have := pLog_new (Z := Z) (L := L) (b := 2) (w := bi w) (i := bi i) (l := l) (by omega)
        rw [← ej] at this
        exact this.trans e3
      · have := pLog_new (Z := Z) (L := L) (b := 3) (w := bi w) (i := bi i) (l := l) (by omega)
        rw [← ej] at this
        exact this.trans (hl z)
    · rw [if_neg q]
      have hj1 : j + 1 < L1 L := by omega
      obtain ⟨⟨w', i', e0, e1, e2, e3'⟩, hd'⟩ := h1 (j + sh1 L) (by omega)
      refine ⟨⟨w', i', ?_, ?_, ?_, fun z => ?_⟩, by omega⟩
      · exact (pLog_old (by omega) hj1).trans e0
      · exact (pLog_old (by omega) hj1).trans e1
      · exact (pLog_old (by omega) hj1).trans e2
      · exact (pLog_old (by omega) hj1).trans (e3' z)
  · show (if a + 1 = L1 L then c else T (a + sh1 L)) < (if b + 1 = L1 L then c else T (b + sh1 L))
    by_cases q : b + 1 = L1 L
    · rw [if_pos q, if_neg (by omega)]
      have := (h1 (a + sh1 L) (by omega)).2
      omega
    · rw [if_neg q, if_neg (by omega)]
      exact h2 _ _ (by omega) (by omega)
theorem tk_log {p L : Nat} {Y Z' : MI} {w : Bool} {l : Int32} (h : TkX p L Y) (hL : L ≤ 64) (hp : p < 27) (hc : ¬ cn (tk Y) 4 = 0) (h9 : Z' 9 = pLog Y L (bi w) (bi (decide (p % 9 = 8))) l 9) (ht : ∀ k, k < 4 → tk Z' k = true → tk Y k = true ∧ Z' k 7 = Y k 7 ∧ Z' k 8 = Y k 8 ∧ Z' k 9 = Y k 9) (hw8 : p % 9 = 8 → w = false) (hwb : ¬ p % 9 = 8 → ∀ k, k < 4 → tk Z' k = true → pBit Y k p = bi w) : TkX (p + 1) (L1 L) Z' := fun _ => by
  obtain ⟨k1, k2⟩ := h hc
  obtain ⟨g1, g2, g3, g4⟩ := L1_le hL
  have hpL : p + 1 ≤ L1 L := by unfold L1; split <;> omega
  have eb : ∀ k, k < 4 → tk Z' k = true → ∀ q, q < 27 → pBit Z' k q = pBit Y k q := fun k hk t q hq => by
    obtain ⟨-, e7, e8, e9⟩ := ht k hk t
    exact pBit_cg hq e7 e8 e9
  refine ⟨hpL, fun q hq => ?_⟩
  by_cases e : q = p
  · subst e
    rw [show L1 L - (q + 1) + q = L1 L - 1 by omega]
    have n0 : Z' 9 (4 * (L1 L - 1)) = bi w := by
      have := pLog_new (Z := Y) (L := L) (b := 0) (w := bi w) (i := bi (decide (q % 9 = 8))) (l := l) (by omega)
      rw [h9]
      exact this
    have n1 : Z' 9 (4 * (L1 L - 1) + 1) = bi (decide (q % 9 = 8)) := by
      have := pLog_new (Z := Y) (L := L) (b := 1) (w := bi w) (i := bi (decide (q % 9 = 8))) (l := l) (by omega)
      rw [h9]
      exact this
    refine ⟨n1, fun z => by rw [n0, hw8 z]; rfl, fun z k hk t => ?_⟩
    rw [n0, eb k hk t q (by omega)]
    exact hwb z k hk t
  · have hq' : q < p := by omega
    have he : L1 L - (p + 1) + q + 1 < L1 L := by omega
    have ee : L1 L - (p + 1) + q + sh1 L = L - p + q := by omega
    obtain ⟨t1, t2, t3⟩ := k2 q hq'
    have n0 : Z' 9 (4 * (L1 L - (p + 1) + q)) = Y 9 (4 * (L - p + q)) := by
      rw [h9, ← ee]
      exact pLog_old (b := 0) (by omega) he
    have n1 : Z' 9 (4 * (L1 L - (p + 1) + q) + 1) = Y 9 (4 * (L - p + q) + 1) := by
      rw [h9, ← ee]
      exact pLog_old (b := 1) (by omega) he
    refine ⟨by rw [n1]; exact t1, by rw [n0]; exact t2, fun z k hk t => ?_⟩
    rw [n0, eb k hk t q (by omega)]
    exact t3 z k hk (ht k hk t).1
/-- a bit -/
theorem V_bit {c d p L h : Nat} {Y : MI} (hV : V c d p L h Y) (hd : d < c) (h0 : h = 0) (hb : ∀ k, k < 4 → tk Y k = true → p < pBits (Y k 9)) (h9 : ¬ p % 9 = 8) (hT : ∃ j, j < 4 ∧ tk Y j = true) (hl : ∀ k, k < 4 → ∃ h, h ≤ 9 ∧ Y (4 + k) 1 = nI h) : ∃ p' L' h', V c c p' L' h' (pTb Y L p) := by
  subst h0
  rw [pTb_eq]
  obtain ⟨⟨⟨a3, a7, a10, a4⟩, b1, b2, b3, b4⟩, hR, hLs, ⟨s1, s2, s3, s4⟩, hG, hTk⟩ := hV
  have hp27 : p + 1 < 27 := by
    obtain ⟨j, hj, q⟩ := hT
    have := hb j hj q
    rcases pB_or (Y j 9) with e | e <;> omega
  have hTV : ∃ j, j < 4 ∧ tk (pLs Y (lsB Y p) 4) j = true := lsB_tk hT
  have hlow : ∀ k, k < 4 → tk (pLs Y (lsB Y p) 4) k = true → pBit Y k p = bi (!any4 (ss Y (tk Y) p 0)) := fun k hk t => by
    have t0 := pLs_tk hk t
    cases ha : any4 (ss Y (tk Y) p 0) with
    | true =>
      rcases pBit_01 Y k p with e | e
      · exact e
      · exfalso
        have hq : lsB Y p k = true := by
          rw [lsB_y ha]
          unfold lsr
          rw [t0, e]
          decide
        have e1 : pLs Y (lsB Y p) 4 k 1 = 0 := by simp only [pLs]; rw [if_pos (show k < 4 ∧ lsB Y p k = true from ⟨hk, hq⟩), if_pos trivial]
        unfold tk at t
        rw [e1] at t
        exact absurd t (by decide)
    | false =>
      rcases pBit_01 Y k p with e | e
      · exfalso
        have := any4_false ha hk
        unfold ss at this
        rw [t0, e] at this
        exact absurd this (by decide)
      · exact e
  have hww : (if bi (any4 (ss Y (tk Y) p 0)) = 0 then nI 1 else nI 0) = bi (!any4 (ss Y (tk Y) p 0)) := by cases any4 (ss Y (tk Y) p 0) <;> rfl
  have hll : (!any4 (ss Y (tk Y) p 0)) = true ∨ false = true → nI (cn (lsB Y p) 4) = 0 := fun z => by
    rcases z with z | z
    · have ha : any4 (ss Y (tk Y) p 0) = false := by simpa using z
      rw [cn_congr (q := fun _ => false) (fun j _ => lsB_n ha j)]; rfl
    · cases z
  rw [hww]
  obtain ⟨w, hw⟩ : ∃ w, (!any4 (ss Y (tk Y) p 0)) = w := ⟨_, rfl⟩
  obtain ⟨l, hlo⟩ : ∃ l, nI (cn (lsB Y p) 4) = l := ⟨_, rfl⟩
  obtain ⟨U, hU⟩ : ∃ U, pLs Y (lsB Y p) 4 = U := ⟨_, rfl⟩
  rw [hw] at hll hlow
  rw [hlo] at hll
  rw [hw, hlo, hU]
  have u8 : U 8 = Y 8 := by rw [← hU]; exact pLs_ge (by omega)
  have u9 : U 9 = Y 9 := by rw [← hU]; exact pLs_ge (by omega)
  have uc : ∀ a w, w ≠ 1 → w ≠ 3 → U a w = Y a w := fun a w h1 h3 => by rw [← hU]; exact pLs_c h1 h3
  have ug : ∀ a, 4 ≤ a → U a = Y a := fun a ha => by rw [← hU]; exact pLs_ge ha
  rw [hU] at hTV hlow
  have ut : ∀ k, k < 4 → tk U k = true → tk Y k = true := fun k hk t => by rw [← hU] at t; exact pLs_tk hk t
  have hUT : TkX p L U := hTk.cg (fun k hk t => ⟨ut k hk t, uc _ _ (by omega) (by omega), uc _ _ (by omega) (by omega), uc _ _ (by omega) (by omega)⟩) (Nat.le_of_lt b2) u9
  have e0 : nI 0 = bi (decide (p % 9 = 8)) := by rw [decide_eq_false h9]; rfl
  obtain ⟨B, hB⟩ : ∃ B, pB3 U L p (bi w) l = B := ⟨_, rfl⟩
  have br : ∀ a, a < 8 → B a = U a := fun a ha => by rw [← hB]; unfold pB3; rw [xuI_row (by omega), pLog_row ha]
  have b8 : ∀ x, x ≠ 7 → x ≠ 10 → B 8 x = Y 8 x := fun x h1 h2 => by rw [← hB]; unfold pB3; rw [xuI_col h1, pLog_ne (by omega) (by omega), u8]
  have b9 : B 9 = pLog U L (bi w) (bi (decide (p % 9 = 8))) l 9 := by rw [← hB]; unfold pB3; rw [xuI_row (by omega), ← e0]
  have bG : LgX c (L1 L) (B 9) := by
    rw [b9, decide_eq_false h9]
    refine lg_log (d := d) (c := c) (L := L) (Z := U) (w := w) (i := false) (l := l) (by rw [u9]; exact hG) b3 hd (by rw [u8]; exact a3) hll
  have bT : TkX (p + 1) (L1 L) B := tk_log hUT b3 b2 (cn_ex0 hTV) b9 (fun k hk t => by rw [br k (by omega), ← tk_row (br k (by omega))]; exact ⟨t, rfl, rfl, rfl⟩) (fun z => absurd z h9) (fun _ k hk t => by
    have t' : tk U k = true := by rw [← tk_row (br k (by omega))]; exact t
    have e1 : pBit U k p = pBit Y k p := by
      unfold pBit pVal
      rw [uc k 7 (by omega) (by omega), uc k (7 + p / 9) (by omega) (by omega)]
    rw [e1]
    exact hlow k hk t')
  obtain ⟨g1, g2, g3, g4⟩ := L1_le b3
  have b10 : B 8 10 = nI (L1 L) := by
    rw [← hB]; unfold pB3; rw [xuI_col (by omega), pLog_q]; rfl
  have b7 : B 8 7 = nI (p + 1) := by rw [← hB]; unfold pB3; exact xuI_self
  have bN : ¬ cn (tk B) 4 = 0 := by
    obtain ⟨j, hj, q⟩ := hTV
    exact cn_ex0 ⟨j, hj, by rw [tk_row (br j (by omega))]; exact q⟩
  have bR : ∀ k, k < 4 → RX c (B k) := fun k hk => by
    rw [br k (by omega)]
    exact ((hR k hk).mono (by omega)).cg (fun w h1 _ h3 _ => uc k w h1 h3)
  have bL : ∀ k, k < 4 → LX c (B (4 + k)) := fun k hk => by
    rw [br _ (by omega), ug _ (by omega)]
    exact (hLs k hk).mono (by omega)
  unfold pBt
  rw [hB]
  split
  · rename_i h98
    have hh : ∃ h, h ≤ 9 ∧ pHo B (pLi B (B (pFi B) 7)) = nI h := by
      cases e : pLi B (B (pFi B) 7) with
      | none => exact ⟨0, by omega, rfl⟩
      | some l2 =>
        have h4' := (pLi_spec e).1
        obtain ⟨h, q1, q2⟩ := hl l2 h4'
        exact ⟨h, q1, by show B (4 + l2) 1 = nI h; rw [br _ (by omega), ug _ (by omega)]; exact q2⟩
    obtain ⟨h', hh9, eh'⟩ := hh
    obtain ⟨x, hx⟩ : ∃ x, pHo B (pLi B (B (pFi B) 7)) = x := ⟨_, rfl⟩
    rw [hx] at eh' ⊢
    have et : ∀ k, k < 4 → tk (xuI B 8 4 x) k = tk B k := fun k hk => tk_row (xuI_row (by omega))
    refine ⟨p + 1, L1 L, h', ⟨⟨by rw [xuI_col (by omega), b8 3 (by omega) (by omega)]; exact a3, by rw [xuI_col (by omega)]; exact b7, by rw [xuI_col (by omega)]; exact b10, by rw [xuI_self]; exact eh'⟩, Nat.le_refl _, hp27, g1, hh9⟩, fun k hk => by rw [xuI_row (by omega)]; exact bR k hk, fun k hk => by rw [xuI_row (by omega)]; exact bL k hk, ⟨by rw [xuI_col (by omega), b8 6 (by omega) (by omega)]; exact s1, by rw [xuI_col (by omega), b8 2 (by omega) (by omega)]; exact s2, fun _ => h98, fun q => absurd (by rw [← cn_congr et]; exact q) bN⟩, by rw [xuI_row (by omega)]; exact bG, bT.cg (fun k hk t => ⟨(et k hk).symm.trans t, by rw [xuI_row (by omega)]; exact ⟨rfl, rfl, rfl⟩⟩) (by omega) (xuI_row (by omega))⟩
  · exact ⟨p + 1, L1 L, 0, ⟨⟨by rw [b8 3 (by omega) (by omega)]; exact a3, b7, b10, by rw [b8 4 (by omega) (by omega)]; exact a4⟩, Nat.le_refl _, hp27, g1, by omega⟩, bR, bL, ⟨by rw [b8 6 (by omega) (by omega)]; exact s1, by rw [b8 2 (by omega) (by omega)]; exact s2, fun q => absurd q (by omega), fun q => absurd q bN⟩, bG, bT⟩
