/-! what the law's checks stand on, without a machine. A row of a speaker: failures, those of the first message, words. c: the clock -/
def RX (c : Nat) (r : Nat → Int32) : Prop := (∃ a b, r 4 = nI a ∧ r 6 = nI b ∧ b ≤ a ∧ a ≤ c ∧ (r 0 = nI 0 → b = 0)) ∧ ∀ m, m ≤ 5 → r 0 = nI m → ∀ j, j < m → (∃ x, x < 256 ∧ r (8 + 3 * j) = nI x) ∧ (r (9 + 3 * j) = -5 ∨ ∃ x, x < 256 ∧ r (9 + 3 * j) = nI x)
/-- a row of a listener: words, the latest one -/
def LX (c : Nat) (r : Nat → Int32) : Prop := ∃ w, w ≤ c ∧ r 3 = nI w ∧ ((w = 0 ∧ r 4 = -5) ∨ (0 < w ∧ ∃ x, x < 256 ∧ r 4 = nI x))
/-- an entry of the log -/
def EN (e : Nat → Int32) (t : Nat) : Prop := ∃ w i : Bool, e 0 = bi w ∧ e 1 = bi i ∧ e 2 = nI t ∧ (w = true ∨ i = true → e 3 = 0)
/-- the log: L entries, with rising clocks up to d -/
def LgX (d L : Nat) (z : Nat → Int32) : Prop := ∃ T : Nat → Nat, (∀ j, j < L → EN (fun w => z (4 * j + w)) (T j) ∧ T j ≤ d) ∧ ∀ i j, i < j → j < L → T i < T j
/-- a tick of the talk, as it stands in the log at e -/
def Tq (e q : Nat) (Z : MI) : Prop := Z 9 (4 * e + 1) = bi (decide (q % 9 = 8)) ∧ (q % 9 = 8 → Z 9 (4 * e) = 0) ∧ (¬ q % 9 = 8 → ∀ k, k < 4 → tk Z k = true → pBit Z k q = Z 9 (4 * e))
def TkX (p L : Nat) (Z : MI) : Prop := ¬ cn (tk Z) 4 = 0 → p ≤ L ∧ ∀ q, q < p → Tq (L - p + q) q Z
def SX (p h : Nat) (Z : MI) : Prop := (∃ a, a < 99 ∧ Z 8 6 = nI a) ∧ (∃ s, 1 ≤ s ∧ s ≤ 99 ∧ Z 8 2 = nI s) ∧ (0 < h → p % 9 = 8) ∧ (cn (tk Z) 4 = 0 → p = 0)
def V (c d p L h : Nat) (Z : MI) : Prop := ((Z 8 3 = nI c ∧ Z 8 7 = nI p ∧ Z 8 10 = nI L ∧ Z 8 4 = nI h) ∧ (d ≤ c ∧ p < 27 ∧ L ≤ 64 ∧ h ≤ 9)) ∧ (∀ k, k < 4 → RX d (Z k)) ∧ (∀ k, k < 4 → LX d (Z (4 + k))) ∧ SX p h Z ∧ LgX d L (Z 9) ∧ TkX p L Z
theorem nI_inj {a b : Nat} (ha : a < 2 ^ 31) (hb : b < 2 ^ 31) (h : nI a = nI b) : a = b := (nI_eq ha hb).mp h
theorem RX.mono {c c' : Nat} {r : Nat → Int32} (h : RX c r) (hc : c ≤ c') : RX c' r := by
  obtain ⟨⟨a, b, h1, h2, h3, h4, h5⟩, h6⟩ := h
  exact ⟨⟨a, b, h1, h2, h3, by omega, h5⟩, h6⟩
theorem LX.mono {c c' : Nat} {r : Nat → Int32} (h : LX c r) (hc : c ≤ c') : LX c' r := by
  obtain ⟨w, h1, h2⟩ := h
  exact ⟨w, by omega, h2⟩
theorem LgX.mono {d d' L : Nat} {z : Nat → Int32} (h : LgX d L z) (hd : d ≤ d') : LgX d' L z := by
  obtain ⟨T, h1, h2⟩ := h
  exact ⟨T, fun j hj => ⟨(h1 j hj).1, by have := (h1 j hj).2; omega⟩, h2⟩
/-- rows that differ in what the bonds don't look at -/
theorem RX.cg {c : Nat} {r r' : Nat → Int32} (h : RX c r) (e : ∀ w, w ≠ 1 → w ≠ 2 → w ≠ 3 → w ≠ 5 → r' w = r w) : RX c r' := by
  obtain ⟨⟨a, b, h1, h2, h3, h4, h5⟩, h6⟩ := h
  refine ⟨⟨a, b, by rw [e 4 (by omega) (by omega) (by omega) (by omega)]; exact h1, by rw [e 6 (by omega) (by omega) (by omega) (by omega)]; exact h2, h3, h4, by rw [e 0 (by omega) (by omega) (by omega) (by omega)]; exact h5⟩, ?_⟩
  rw [e 0 (by omega) (by omega) (by omega) (by omega)]
  intro m hm hr j hj
  rw [e _ (by omega) (by omega) (by omega) (by omega), e _ (by omega) (by omega) (by omega) (by omega)]
  exact h6 m hm hr j hj
theorem pBit_cg {Z Z' : MI} {k q : Nat} (hq : q < 27) (e7 : Z' k 7 = Z k 7) (e8 : Z' k 8 = Z k 8) (e9 : Z' k 9 = Z k 9) : pBit Z' k q = pBit Z k q := by
  have ev : pVal Z' k (q / 9) = pVal Z k (q / 9) := by
    unfold pVal
    rcases (show q / 9 = 0 ∨ q / 9 = 1 ∨ q / 9 = 2 by omega) with e | e | e
    · rw [e, if_pos rfl, if_pos rfl, e7]
    · rw [e, if_neg (by omega), if_neg (by omega)]; exact e8
    · rw [e, if_neg (by omega), if_neg (by omega)]; exact e9
  unfold pBit
  rw [ev]
theorem TkX.cg {p L : Nat} {Z Z' : MI} (h : TkX p L Z) (ht : ∀ k, k < 4 → tk Z' k = true → tk Z k = true ∧ Z' k 7 = Z k 7 ∧ Z' k 8 = Z k 8 ∧ Z' k 9 = Z k 9) (hp : p ≤ 27) (h9 : Z' 9 = Z 9) : TkX p L Z' := fun hc => by
  have hc0 : ¬ cn (tk Z) 4 = 0 := by
    obtain ⟨j, hj, e⟩ := cn_ex hc
    exact cn_ex0 ⟨j, hj, (ht j hj e).1⟩
  obtain ⟨h1, h2⟩ := h hc0
  refine ⟨h1, fun q hq => ?_⟩
  obtain ⟨g1, g2, g3⟩ := h2 q hq
  unfold Tq
  rw [h9]
  refine ⟨g1, g2, fun z k hk t => ?_⟩
  obtain ⟨t0, e7, e8, e9⟩ := ht k hk t
  rw [← g3 z k hk t0]
  exact pBit_cg (by omega) e7 e8 e9
/-- rows 0 .. 7 and the log as they were, talk and settings as they were -/
theorem V.cg {c d p L h c' p' h' : Nat} {Z Z' : MI} (hV : V c d p L h Z) (hr : ∀ k, k < 8 → Z' k = Z k) (h9 : Z' 9 = Z 9) (e10 : Z' 8 10 = Z 8 10) (e3 : Z' 8 3 = nI c') (e7 : Z' 8 7 = nI p') (e4 : Z' 8 4 = nI h') (e6 : ∃ a, a < 99 ∧ Z' 8 6 = nI a) (e2 : ∃ s, 1 ≤ s ∧ s ≤ 99 ∧ Z' 8 2 = nI s) (hc : c ≤ c') (hp : p' = p ∨ (p' = 0 ∧ cn (tk Z) 4 = 0)) (hh : h' ≤ h ∨ h' = 0) : V c' d p' L h' Z' := by
  obtain ⟨⟨⟨a3, a7, a10, a4⟩, b1, b2, b3, b4⟩, hR, hL, ⟨s1, s2, s3, s4⟩, hG, hT⟩ := hV
  have et : ∀ k, k < 4 → tk Z' k = tk Z k := fun k hk => tk_row (hr k (by omega))
  have ec : cn (tk Z') 4 = cn (tk Z) 4 := cn_congr et
  refine ⟨⟨⟨e3, e7, e10.trans a10, e4⟩, by omega, ?_, b3, by omega⟩, fun k hk => by rw [hr k (by omega)]; exact hR k hk, fun k hk => by rw [hr _ (by omega)]; exact hL k hk, ⟨e6, e2, fun q => ?_, fun q => ?_⟩, by rw [h9]; exact hG, ?_⟩
  · rcases hp with rfl | ⟨rfl, -⟩ <;> omega
  · rcases hp with rfl | ⟨rfl, hz⟩
    · exact s3 (by omega)
    · have := s4 hz
      subst this
      exact s3 (by omega)
  · rw [ec] at q
    rcases hp with rfl | ⟨rfl, -⟩
    · exact s4 q
    · rfl
  · intro hcn
    rcases hp with rfl | ⟨rfl, hz⟩
    · exact (hT.cg (fun k hk t => ⟨(et k hk).symm.trans t, by rw [hr k (by omega)]; exact ⟨rfl, rfl, rfl⟩⟩) (Nat.le_of_lt b2) h9) hcn
    · exact absurd (ec.trans hz) hcn
/-- the row of scalars 0 .. 2, 6 is bound -/
theorem V.e2 {c d p L h : Nat} {Z : MI} (hV : V c d p L h Z) : ∃ s, 1 ≤ s ∧ s ≤ 99 ∧ Z 8 2 = nI s := hV.2.2.2.1.2.1
theorem V.e6 {c d p L h : Nat} {Z : MI} (hV : V c d p L h Z) : ∃ a, a < 99 ∧ Z 8 6 = nI a := hV.2.2.2.1.1
theorem V.md {c d d' p L h : Nat} {Z : MI} (hV : V c d p L h Z) (h1 : d ≤ d') (h2 : d' ≤ c) : V c d' p L h Z :=
  ⟨⟨hV.1.1, h2, hV.1.2.2⟩, fun k hk => (hV.2.1 k hk).mono h1, fun k hk => (hV.2.2.1 k hk).mono h1, hV.2.2.2.1, hV.2.2.2.2.1.mono h1, hV.2.2.2.2.2⟩
/-- the clock's tick -/
theorem V_zc {c d p L h : Nat} {Z : MI} (hV : V c d p L h Z) : V (c + 1) d p L h (pZc Z) := by
  unfold pZc
  refine hV.cg (fun k hk => xuI_row (by omega)) (xuI_row (by omega)) (xuI_col (by omega)) (by rw [xuI_self, hV.1.1.1, show nI 1 = nI 1 from rfl, nI_add]) (by rw [xuI_col (by omega)]; exact hV.1.1.2.1) (by rw [xuI_col (by omega)]; exact hV.1.1.2.2.2) (by rw [xuI_col (by omega)]; exact hV.e6) (by rw [xuI_col (by omega)]; exact hV.e2) (by omega) (Or.inl rfl) (Or.inl (Nat.le_refl _))
theorem V_zd {c d p L h : Nat} {Z : MI} (hV : V c d p L h Z) : V (c + 1) d p L h (pZd Z) := by
  have h1 := V_zc hV
  unfold pZd
  refine h1.cg (fun k hk => xuI_row (by omega)) (xuI_row (by omega)) (xuI_col (by omega)) (by rw [xuI_col (by omega)]; exact h1.1.1.1) (by rw [xuI_col (by omega)]; exact h1.1.1.2.1) (by rw [xuI_col (by omega)]; exact h1.1.1.2.2.2) ⟨0, by omega, xuI_self⟩ (by rw [xuI_col (by omega)]; exact h1.e2) (by omega) (Or.inl rfl) (Or.inl (Nat.le_refl _))
/-- speakers lose -/
theorem V_ls {c d p L h : Nat} {Z : MI} {b : Nat → Bool} (hV : V c d p L h Z) (hb : cn (tk (pLs Z b 4)) 4 = 0 → p = 0) : V c d p L h (pLs Z b 4) := by
  obtain ⟨⟨⟨a3, a7, a10, a4⟩, bb⟩, hR, hL, ⟨s1, s2, s3, s4⟩, hG, hT⟩ := hV
  have e8 : pLs Z b 4 8 = Z 8 := pLs_ge (by omega)
  refine ⟨⟨⟨by rw [e8]; exact a3, by rw [e8]; exact a7, by rw [e8]; exact a10, by rw [e8]; exact a4⟩, bb⟩, fun k hk => (hR k hk).cg (fun w h1 _ h3 _ => pLs_c h1 h3), fun k hk => by rw [pLs_ge (by omega)]; exact hL k hk, ⟨by rw [e8]; exact s1, by rw [e8]; exact s2, s3, hb⟩, by rw [pLs_ge (by omega)]; exact hG, ?_⟩
  exact hT.cg (fun k hk t => ⟨pLs_tk hk t, pLs_c (by omega) (by omega), pLs_c (by omega) (by omega), pLs_c (by omega) (by omega)⟩) (Nat.le_of_lt bb.2.1) (pLs_ge (by omega))
/-- the talk ends if nobody is left: the place need not be 0 before -/
theorem V_en {c d p L h : Nat} {U : MI} (h3 : U 8 3 = nI c ∧ U 8 7 = nI p ∧ U 8 10 = nI L ∧ U 8 4 = nI h) (hb : d ≤ c ∧ L ≤ 64 ∧ h ≤ 9) (hp : ¬ cn (tk U) 4 = 0 → p < 27) (hR : ∀ k, k < 4 → RX d (U k)) (hL : ∀ k, k < 4 → LX d (U (4 + k))) (s1 : ∃ a, a < 99 ∧ U 8 6 = nI a) (s2 : ∃ s, 1 ≤ s ∧ s ≤ 99 ∧ U 8 2 = nI s) (s3 : ¬ cn (tk U) 4 = 0 → 0 < h → p % 9 = 8) (hG : LgX d L (U 9)) (hT : TkX p L U) : ∃ p' h', V c d p' L h' (pEn U) := by
  unfold pEn
  by_cases hc : cn (tk U) 4 = 0
  · rw [if_pos hc]
    have er : ∀ a, a ≠ 8 → xuI (xuI (xuI U 8 7 (nI 0)) 8 4 (nI 0)) 8 5 (nI 0) a = U a := fun a ha => by rw [xuI_row ha, xuI_row ha, xuI_row ha]
    have ec : ∀ b, b ≠ 7 → b ≠ 4 → b ≠ 5 → xuI (xuI (xuI U 8 7 (nI 0)) 8 4 (nI 0)) 8 5 (nI 0) 8 b = U 8 b := fun b q1 q2 q3 => by rw [xuI_col q3, xuI_col q2, xuI_col q1]
    have et : cn (tk (xuI (xuI (xuI U 8 7 (nI 0)) 8 4 (nI 0)) 8 5 (nI 0))) 4 = 0 := by rw [cn_congr (fun k hk => tk_row (er k (by omega)))]; exact hc
    refine ⟨0, 0, ⟨⟨by rw [ec 3 (by omega) (by omega) (by omega)]; exact h3.1, by rw [xuI_col (by omega), xuI_col (by omega)]; exact xuI_self, by rw [ec 10 (by omega) (by omega) (by omega)]; exact h3.2.2.1, by rw [xuI_col (by omega)]; exact xuI_self⟩, by omega, by omega, by omega, by omega⟩, fun k hk => by rw [er k (by omega)]; exact hR k hk, fun k hk => by rw [er _ (by omega)]; exact hL k hk, ⟨by rw [ec 6 (by omega) (by omega) (by omega)]; exact s1, by rw [ec 2 (by omega) (by omega) (by omega)]; exact s2, fun q => absurd q (by omega), fun _ => rfl⟩, by rw [er 9 (by omega)]; exact hG, fun q => absurd et q⟩
  · rw [if_neg hc]
    exact ⟨p, h, ⟨h3, hb.1, hp hc, hb.2.1, hb.2.2⟩, hR, hL, ⟨s1, s2, s3 hc, fun q => absurd q hc⟩, hG, hT⟩
/-- a stuck tick -/
theorem V_stA {c d p L h : Nat} {Y : MI} (hV : V c d p L h Y) : ∃ p' h', V c d p' L h' (pStA Y p) := by
  unfold pStA
  split
  · rename_i hc
    exact ⟨p, h, hV.cg (fun k hk => xuI_row (by omega)) (xuI_row (by omega)) (xuI_col (by omega)) (by rw [xuI_col (by omega)]; exact hV.1.1.1) (by rw [xuI_col (by omega)]; exact hV.1.1.2.1) (by rw [xuI_col (by omega)]; exact hV.1.1.2.2.2) (by rw [xuI_col (by omega)]; exact hV.e6) (by rw [xuI_col (by omega)]; exact hV.e2) (Nat.le_refl _) (Or.inl rfl) (Or.inl (Nat.le_refl _))⟩
  · split
    · show ∃ p' h', V c d p' L h' (pEn (pLs Y (lsr Y p) 4))
      obtain ⟨⟨⟨a3, a7, a10, a4⟩, bb⟩, hR, hL, ⟨s1, s2, s3, s4⟩, hG, hT⟩ := hV
      have e8 : pLs Y (lsr Y p) 4 8 = Y 8 := pLs_ge (by omega)
      exact V_en ⟨by rw [e8]; exact a3, by rw [e8]; exact a7, by rw [e8]; exact a10, by rw [e8]; exact a4⟩ ⟨bb.1, bb.2.2⟩ (fun _ => bb.2.1) (fun k hk => (hR k hk).cg (fun w h1 _ h3 _ => pLs_c h1 h3)) (fun k hk => by rw [pLs_ge (by omega)]; exact hL k hk) (by rw [e8]; exact s1) (by rw [e8]; exact s2) (fun _ => s3) (by rw [pLs_ge (by omega)]; exact hG) (hT.cg (fun k hk t => ⟨pLs_tk hk t, pLs_c (by omega) (by omega), pLs_c (by omega) (by omega), pLs_c (by omega) (by omega)⟩) (Nat.le_of_lt bb.2.1) (pLs_ge (by omega)))
    · exact ⟨p, h, hV⟩
theorem V_stB {c d p L h : Nat} {A : MI} (hV : V c d p L h A) : V c d p L h (pStB A) := by
  obtain ⟨⟨⟨a3, a7, a10, a4⟩, bb⟩, hR, hL, ⟨⟨a, ha, e6⟩, ⟨s, s1, s99, e2⟩, s3, s4⟩, hG, hT⟩ := hV
  have er : ∀ k sh (W : MI), k < 4 → pUs W sh 4 k = W k := fun k sh W hk => by funext b; simp only [pUs]; rw [if_neg (by omega)]
  have e9 : ∀ sh (W : MI), pUs W sh 4 9 = W 9 := fun sh W => by funext b; simp only [pUs]; rw [if_neg (by omega)]
  have el : ∀ k sh (W : MI) b, b ≠ 2 → pUs W sh 4 (4 + k) b = W (4 + k) b := fun k sh W b hb => by simp only [pUs]; rw [if_neg (fun q => hb q.2.2)]
  obtain ⟨B, hB⟩ : ∃ B, pStB A = B := ⟨_, rfl⟩
  rw [hB]
  unfold pStB pStC at hB
  have b8 : ∀ w, w ≠ 6 → w ≠ 9 → B 8 w = A 8 w := fun w h6 h9 => by rw [← hB, xuI_col h6, xuI_col h9, pUs_ge (by omega), xuI_col h6]
  have bk : ∀ k, k < 4 → B k = A k := fun k hk => by rw [← hB, xuI_row (by omega), xuI_row (by omega), er k _ _ hk, xuI_row (by omega)]
  have b9 : B 9 = A 9 := by rw [← hB, xuI_row (by omega), xuI_row (by omega), e9, xuI_row (by omega)]
  have bl : ∀ k, k < 4 → ∀ w, w ≠ 2 → B (4 + k) w = A (4 + k) w := fun k hk w hw => by rw [← hB, xuI_row (by omega), xuI_row (by omega), el k _ _ w hw, xuI_row (by omega)]
  have b6 : ∃ a, a < 99 ∧ B 8 6 = nI a := by
    rw [← hB, xuI_self, xuI_self, e6, nI_add, e2]
    by_cases q : s ≤ a + 1
    · rw [decide_eq_true ((nI_leI (by omega) (by omega)).mpr q)]
      exact ⟨0, by omega, rfl⟩
    · rw [decide_eq_false (fun z => q ((nI_leI (by omega) (by omega)).mp z))]
      exact ⟨a + 1, by omega, rfl⟩
  refine ⟨⟨⟨by rw [b8 3 (by omega) (by omega)]; exact a3, by rw [b8 7 (by omega) (by omega)]; exact a7, by rw [b8 10 (by omega) (by omega)]; exact a10, by rw [b8 4 (by omega) (by omega)]; exact a4⟩, bb⟩, fun k hk => by rw [bk k hk]; exact hR k hk, fun k hk => ?_, ⟨b6, by rw [b8 2 (by omega) (by omega)]; exact ⟨s, s1, s99, e2⟩, s3, fun q => s4 (by rw [← cn_congr (fun k hk => tk_row (bk k hk))]; exact q)⟩, by rw [b9]; exact hG, hT.cg (fun k hk t => ⟨by rw [← tk_row (bk k hk)]; exact t, by rw [bk k hk]; exact ⟨rfl, rfl, rfl⟩⟩) (Nat.le_of_lt bb.2.1) b9⟩
  obtain ⟨w, q1, q2, q3⟩ := hL k hk
  exact ⟨w, q1, by rw [bl k hk 3 (by omega)]; exact q2, by rw [bl k hk 4 (by omega)]; exact q3⟩
/-- a free tick -/
theorem V_free {c d p L h : Nat} {Y : MI} (hV : V c d p L h Y) (hc : cn (tk Y) 4 = 0) : ∃ p' h', V c d p' L h' (pTf Y) := by
  have h1 : V c d p L h (xuI Y 8 5 (Y 8 5 + nI 1)) := hV.cg (fun k hk => xuI_row (by omega)) (xuI_row (by omega)) (xuI_col (by omega)) (by rw [xuI_col (by omega)]; exact hV.1.1.1) (by rw [xuI_col (by omega)]; exact hV.1.1.2.1) (by rw [xuI_col (by omega)]; exact hV.1.1.2.2.2) (by rw [xuI_col (by omega)]; exact hV.e6) (by rw [xuI_col (by omega)]; exact hV.e2) (Nat.le_refl _) (Or.inl rfl) (Or.inl (Nat.le_refl _))
  unfold pTf
  split
  · exact ⟨p, h, h1⟩
  · split
    · exact ⟨p, h, h1⟩
    · obtain ⟨B, hB⟩ : ∃ B, xuI (xuI (xuI (pFr (xuI Y 8 5 (Y 8 5 + nI 1)) 4) 8 5 (nI 0)) 8 7 (nI 0)) 8 8 (Y 8 8 + nI 1) = B := ⟨_, rfl⟩
      rw [hB]
      obtain ⟨⟨⟨a3, a7, a10, a4⟩, bb⟩, hR, hL, ⟨s1, s2, s3, s4⟩, hG, hT⟩ := hV
      have p0 := s4 hc
      subst p0
      have h0 : h = 0 := Nat.eq_zero_of_not_pos (fun q => absurd (s3 q) (by omega))
      subst h0
      have b8 : ∀ w, w ≠ 5 → w ≠ 7 → w ≠ 8 → B 8 w = Y 8 w := fun w h5 h7 h8 => by rw [← hB, xuI_col h8, xuI_col h7, xuI_col h5, pFr_ge (by omega), xuI_col h5]
      have bg : ∀ a, 4 ≤ a → a ≠ 8 → B a = Y a := fun a h4 h8 => by rw [← hB, xuI_row h8, xuI_row h8, xuI_row h8, pFr_ge h4, xuI_row h8]
      have bk : ∀ k, k < 4 → ∀ w, w ≠ 1 → B k w = Y k w := fun k hk w hw => by
        rw [← hB, xuI_row (by omega), xuI_row (by omega), xuI_row (by omega)]
        simp only [pFr]
        rw [if_neg (fun q => hw q.2), xuI_row (by omega)]
      refine ⟨0, 0, ⟨⟨by rw [b8 3 (by omega) (by omega) (by omega)]; exact a3, by rw [← hB, xuI_col (by omega)]; exact xuI_self, by rw [b8 10 (by omega) (by omega) (by omega)]; exact a10, by rw [b8 4 (by omega) (by omega) (by omega)]; exact a4⟩, bb⟩, fun k hk => (hR k hk).cg (fun w q _ _ _ => bk k hk w q), fun k hk => by rw [bg _ (by omega) (by omega)]; exact hL k hk, ⟨by rw [b8 6 (by omega) (by omega) (by omega)]; exact s1, by rw [b8 2 (by omega) (by omega) (by omega)]; exact s2, fun q => absurd q (by omega), fun _ => rfl⟩, by rw [bg 9 (by omega) (by omega)]; exact hG, fun _ => ⟨by omega, fun q hq => absurd hq (by omega)⟩⟩
