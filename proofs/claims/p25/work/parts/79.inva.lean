/-! acts keep what binds a row -/
theorem V_row {c d p L h k : Nat} {Z Z' : MI} (hV : V c d p L h Z) (hk : k < 4) (ho : ∀ a, a ≠ k → Z' a = Z a) (hr : RX d (Z' k)) (h1 : Z' k 1 = Z k 1) (hm : tk Z k = true → Z' k 7 = Z k 7 ∧ Z' k 8 = Z k 8 ∧ Z' k 9 = Z k 9) : V c d p L h Z' := by
  obtain ⟨⟨⟨a3, a7, a10, a4⟩, bb⟩, hR, hL, ⟨s1, s2, s3, s4⟩, hG, hT⟩ := hV
  have e8 : Z' 8 = Z 8 := ho 8 (by omega)
  have e9 : Z' 9 = Z 9 := ho 9 (by omega)
  have et : ∀ j, j < 4 → tk Z' j = tk Z j := fun j _ => by
    by_cases q : j = k
    · subst q; unfold tk; rw [h1]
    · exact tk_row (ho j q)
  refine ⟨⟨⟨by rw [e8]; exact a3, by rw [e8]; exact a7, by rw [e8]; exact a10, by rw [e8]; exact a4⟩, bb⟩, fun j hj => ?_, fun j hj => by rw [ho _ (by omega)]; exact hL j hj, ⟨by rw [e8]; exact s1, by rw [e8]; exact s2, s3, fun q => s4 (by rw [← cn_congr et]; exact q)⟩, by rw [e9]; exact hG, hT.cg (fun j hj t => ?_) (Nat.le_of_lt bb.2.1) e9⟩
  · by_cases q : j = k
    · subst q; exact hr
    · rw [ho j q]; exact hR j hj
  · have t0 : tk Z j = true := (et j hj).symm.trans t
    refine ⟨t0, ?_⟩
    by_cases q : j = k
    · subst q; exact hm t0
    · rw [ho j q]; exact ⟨rfl, rfl, rfl⟩
theorem V_lis {c d p L h k : Nat} {Z Z' : MI} (hV : V c d p L h Z) (hk : k < 4) (ho : ∀ a, a ≠ 4 + k → Z' a = Z a) (h3 : Z' (4 + k) 3 = Z (4 + k) 3) (h4 : Z' (4 + k) 4 = Z (4 + k) 4) : V c d p L h Z' := by
  obtain ⟨⟨⟨a3, a7, a10, a4⟩, bb⟩, hR, hL, ⟨s1, s2, s3, s4⟩, hG, hT⟩ := hV
  have e8 : Z' 8 = Z 8 := ho 8 (by omega)
  have e9 : Z' 9 = Z 9 := ho 9 (by omega)
  have et : ∀ j, j < 4 → tk Z' j = tk Z j := fun j _ => tk_row (ho j (by omega))
  refine ⟨⟨⟨by rw [e8]; exact a3, by rw [e8]; exact a7, by rw [e8]; exact a10, by rw [e8]; exact a4⟩, bb⟩, fun j hj => by rw [ho j (by omega)]; exact hR j hj, fun j hj => ?_, ⟨by rw [e8]; exact s1, by rw [e8]; exact s2, s3, fun q => s4 (by rw [← cn_congr et]; exact q)⟩, by rw [e9]; exact hG, hT.cg (fun j hj t => ⟨(et j hj).symm.trans t, by rw [ho j (by omega)]; exact ⟨rfl, rfl, rfl⟩⟩) (Nat.le_of_lt bb.2.1) e9⟩
  by_cases q : j = k
  · subst q
    obtain ⟨w, q1, q2, q3⟩ := hL j hj
    exact ⟨w, q1, h3.trans q2, by rw [h4]; exact q3⟩
  · rw [ho _ (by omega)]; exact hL j hj
/-- settings: small numbers; words that came: no more than ticks -/
def S3 (Z : MI) : Prop := ∀ w, w < 3 → ∃ s, s ≤ 99 ∧ Z 8 w = nI s
def CM (c : Nat) (Z : MI) : Prop := ∀ k, k < 4 → ∃ a, a ≤ c ∧ Z k 2 = nI a
def GI (c : Nat) (Z : MI) : Prop := IN c Z ∧ S3 Z ∧ CM c Z
theorem GI.nb {c : Nat} {Z : MI} (h : GI c Z) : NB Z := h.1.1
theorem GI.ck {c : Nat} {Z : MI} (h : GI c Z) : Z 8 3 = nI c := by
  obtain ⟨p, L, hh, hv⟩ := h.1.2.2
  exact hv.1.1.1
theorem GI.lv {c : Nat} {Z : MI} (h : GI c Z) (hc : c ≤ 99999) : LV Z := ⟨h.1.2.1, c, hc, h.ck⟩
theorem pEn_s {Z : MI} {w : Nat} (hw : w < 3) : pEn Z 8 w = Z 8 w := by
  unfold pEn
  split
  · rw [xuI_col (by omega), xuI_col (by omega), xuI_col (by omega)]
  · rfl
theorem pTick_s {Z : MI} {w : Nat} (hw : w < 3) : pTick Z 8 w = Z 8 w := by
  have c1 : pZc Z 8 w = Z 8 w := by unfold pZc; exact xuI_col (by omega)
  have c2 : pZd Z 8 w = Z 8 w := by unfold pZd; rw [xuI_col (by omega)]; exact c1
  unfold pTick
  split
  · unfold pSt pStB pStC
    rw [xuI_col (by omega), xuI_col (by omega), pUs_ge (by omega), xuI_col (by omega)]
    unfold pStA
    split
    · rw [xuI_col (by omega)]; exact c1
    · split
      · rw [pEn_s hw, pLo_ge (by omega)]; exact c1
      · exact c1
  · split
    · rw [xuI_col (by omega)]; exact c2
    · split
      · rw [pTb_eq]
        unfold pBt
        split
        · rw [xuI_col (by omega)]
          unfold pB3
          rw [xuI_col (by omega), pLog_ne (by omega) (by omega), pLs_ge (by omega)]; exact c2
        · unfold pB3
          rw [xuI_col (by omega), pLog_ne (by omega) (by omega), pLs_ge (by omega)]; exact c2
      · split
        · unfold pTf
          split
          · rw [xuI_col (by omega)]; exact c2
          · split
            · rw [xuI_col (by omega)]; exact c2
            · rw [xuI_col (by omega), xuI_col (by omega), xuI_col (by omega), pFr_ge (by omega), xuI_col (by omega)]; exact c2
        · unfold pAns
          cases hl : pLi (pZd Z) (Z (pFi Z) 7) with
          | none =>
            show pUa (pZd Z) (lgn Z) (ps Z) 8 w = _
            unfold pUa
            rw [pEn_s hw, pUn_ge (by omega), pLog_ne (by omega) (by omega)]; exact c2
          | some l =>
            show pAn (pZd Z) (lgn Z) (ps Z) l 8 w = _
            unfold pAn
            have hl4 := (pLi_spec hl).1
            rw [pEn_s hw, pCm_ge (by omega), xuI_col (by omega), pLog_ne (by omega) (by omega), pAw_row (by omega)]; exact c2
theorem pEn_row {Z : MI} {a : Nat} (ha : a ≠ 8) : pEn Z a = Z a := by
  unfold pEn
  split
  · rw [xuI_row ha, xuI_row ha, xuI_row ha]
  · rfl
/-- a tick: at most one more message comes -/
theorem pTick_2 {Z : MI} (hN : NB Z) {k : Nat} (hk : k < 4) : pTick Z k 2 = Z k 2 ∨ pTick Z k 2 = Z k 2 + nI 1 := by
  have c1 : pZc Z k = Z k := by unfold pZc; exact xuI_row (by omega)
  have c2 : pZd Z k = Z k := pZd_row (by omega)
  unfold pTick
  split
  · left
    have er : ∀ sh (W : MI), pUs W sh 4 k = W k := fun sh W => by funext b; simp only [pUs]; rw [if_neg (by omega)]
    unfold pSt pStB pStC
    rw [xuI_row (by omega), xuI_row (by omega), er, xuI_row (by omega)]
    unfold pStA
    split
    · rw [xuI_row (by omega), c1]
    · split
      · rw [pEn_row (by omega)]
        show pLs (pZc Z) _ 4 k 2 = _
        rw [pLs_c (by omega) (by omega), c1]
      · rw [c1]
  · split
    · left; rw [xuI_row (by omega), c2]
    · split
      · left
        rw [pTb_eq]
        unfold pBt
        split
        · rw [xuI_row (by omega)]
          unfold pB3
          rw [xuI_row (by omega), pLog_row (by omega), pLs_c (by omega) (by omega), c2]
        · unfold pB3
          rw [xuI_row (by omega), pLog_row (by omega), pLs_c (by omega) (by omega), c2]
      · split
        · left
          unfold pTf
          split
          · rw [xuI_row (by omega), c2]
          · split
            · rw [xuI_row (by omega), c2]
            · rw [xuI_row (by omega), xuI_row (by omega), xuI_row (by omega)]
              simp only [pFr]
              rw [if_neg (by omega), xuI_row (by omega), c2]
        · unfold pAns
          cases hl : pLi (pZd Z) (Z (pFi Z) 7) with
          | none =>
            left
            show pUa (pZd Z) (lgn Z) (ps Z) k 2 = _
            unfold pUa
            rw [pEn_row (by omega)]
            by_cases q : tk (pLog (pZd Z) (lgn Z) (nI 1) (nI 1) (nI 0)) k = true
            · have e : pUn (pLog (pZd Z) (lgn Z) (nI 1) (nI 1) (nI 0)) 4 k = uRow (pLog (pZd Z) (lgn Z) (nI 1) (nI 1) (nI 0) k) (pLog (pZd Z) (lgn Z) (nI 1) (nI 1) (nI 0) 8 1) := if_pos ⟨hk, q⟩
              rw [tk_row ((pLog_row (by omega)).trans c2)] at q
              obtain ⟨m, m1, m5, em⟩ := hN.tm hk q
              rw [e, pLog_row (by omega), c2, uRow_eq (m := m - 1) (by omega) (by rw [em]; congr 1; omega)]
              split
              · exact uA_o (by omega) (by omega) (by omega)
              · unfold dRow
                rw [if_neg (by omega), if_neg (by omega), if_neg (by omega)]
                exact uB_o (by omega) (by omega) (by omega) (by omega)
            · have e : pUn (pLog (pZd Z) (lgn Z) (nI 1) (nI 1) (nI 0)) 4 k = pLog (pZd Z) (lgn Z) (nI 1) (nI 1) (nI 0) k := if_neg (fun z => q z.2)
              rw [e, pLog_row (by omega), c2]
          | some l =>
            have hl4 := (pLi_spec hl).1
            show pAn (pZd Z) (lgn Z) (ps Z) l k 2 = _ ∨ pAn (pZd Z) (lgn Z) (ps Z) l k 2 = _
            unfold pAn
            rw [pEn_row (by omega)]
            obtain ⟨B, hB⟩ : ∃ B, xuI (pLog (pAw (pZd Z) l (ps Z / 9)) (lgn Z) (nI 0) (nI 1) (nI 0)) 8 7 (nI (ps Z + 1)) = B := ⟨_, rfl⟩
            rw [hB]
            have bk : B k = Z k := by rw [← hB, xuI_row (by omega), pLog_row (by omega), pAw_row (by omega), c2]
            by_cases q : sel B (ps Z + 1) k = true
            · right
              have e : pCm B (ps Z + 1) 4 k = cRow (B k) := if_pos ⟨hk, q⟩
              have ht : tk Z k = true := by
                have := q
                unfold sel at this
                rw [Bool.and_eq_true, tk_row bk] at this
                exact this.1
              obtain ⟨m, m1, m5, em⟩ := hN.tm hk ht
              rw [e, bk, cRow_eq (m := m - 1) (by omega) (by rw [em]; congr 1; omega)]
              unfold dRow
              rw [if_neg (by omega), if_neg (by omega), if_neg (by omega)]
              rfl
            · left
              have e : pCm B (ps Z + 1) 4 k = B k := if_neg (fun z => q z.2)
              rw [e, bk]
theorem GI_tick {c : Nat} {Z : MI} (h : GI c Z) : GI (c + 1) (pTick Z) := by
  refine ⟨IN_tick h.1, fun w hw => by rw [pTick_s hw]; exact h.2.1 w hw, fun k hk => ?_⟩
  obtain ⟨a, ha, e⟩ := h.2.2 k hk
  rcases pTick_2 h.nb hk with q | q
  · exact ⟨a, by omega, q.trans e⟩
  · exact ⟨a + 1, by omega, by rw [q, e, nI_add]⟩
theorem GI_pTk {c : Nat} {Z : MI} (h : GI c Z) : ∀ j, GI (c + j) (pTk Z j) := by
  intro j
  induction j with
  | zero => exact h
  | succ j ih => exact GI_tick ih
/-- what comes in some ticks -/
theorem CM_pTk {c : Nat} {Z : MI} (h : GI c Z) {k : Nat} (hk : k < 4) : ∀ j, ∃ a b, a ≤ c ∧ b ≤ j ∧ Z k 2 = nI a ∧ pTk Z j k 2 = nI (a + b) := by
  obtain ⟨a, ha, e⟩ := h.2.2 k hk
  intro j
  induction j with
  | zero => exact ⟨a, 0, ha, by omega, e, e⟩
  | succ j ih =>
    obtain ⟨a', b, h1, h2, h3, h4⟩ := ih
    rcases pTick_2 (GI_pTk h j).nb hk with q | q
    · exact ⟨a', b, h1, by omega, h3, q.trans h4⟩
    · exact ⟨a', b + 1, h1, by omega, h3, by
        show pTick (pTk Z j) k 2 = _
        rw [q, h4, nI_add, Nat.add_assoc]⟩
theorem GI_V {c : Nat} {Z Z' : MI} (h : GI c Z) (h1 : NB Z') (h2 : TL Z') (h3 : ∀ p L hh, V c c p L hh Z → V c c p L hh Z') (h4 : ∀ w, w < 3 → Z' 8 w = Z 8 w) (h5 : ∀ k, k < 4 → Z' k 2 = Z k 2) : GI c Z' := by
  obtain ⟨⟨-, -, p, L, hh, hv⟩, hs, hc⟩ := h
  exact ⟨⟨h1, h2, p, L, hh, h3 p L hh hv⟩, fun w hw => by rw [h4 w hw]; exact hs w hw, fun k hk => by rw [h5 k hk]; exact hc k hk⟩
theorem GI_say {c : Nat} {Z : MI} {s a w d : Int32} (h : GI c Z) (hc : c ≤ 99999) : GI c (pSay Z s a w d).2 := by
  refine GI_V h (NB_say h.nb) (LV_say h.nb (h.lv hc)).1 (fun p L hh hv => ?_) (fun j hj => ?_) (fun j hj => ?_)
  · unfold pSay
    split
    · rename_i h1
      obtain ⟨k, -, hk, rfl⟩ := inr_of (by omega) h1 (by omega)
      rw [nI_cl (by omega)]
      split
      · rename_i h2
        obtain ⟨x, -, hx, rfl⟩ := inr_of (by omega) h2.1 (by omega)
        obtain ⟨y, -, hy, rfl⟩ := inr_of (by omega) h2.2.1 (by omega)
        have hd := h2.2.2
        split
        · exact hv
        · rename_i h3
          obtain ⟨m, h5, em⟩ := h.nb.n5 k (by omega)
          have hm5 : m < 5 := by
            refine Nat.lt_of_le_of_ne h5 (fun q => h3 ?_)
            rw [em, q]
          rw [em, nI_cl (by omega)]
          show V c c p L hh (pAdd Z k m (nI x) (nI y) d)
          rw [pAdd_rw]
          refine V_row hv (show k < 4 by omega) (fun a q => rw1_ne q) ?_ ?_ (fun t => ?_)
          · rw [rw1_self]
            obtain ⟨⟨fa, fb, e4, e6, f3, f4, f5⟩, hm⟩ := hv.2.1 k (by omega)
            refine ⟨⟨fa, fb, by rw [upd_ne (by omega), upd_ne (by omega), upd_ne (by omega), upd_ne (by omega)]; exact e4, by rw [upd_ne (by omega), upd_ne (by omega), upd_ne (by omega), upd_ne (by omega)]; exact e6, f3, f4, fun q => ?_⟩, fun m' hm' q j hj => ?_⟩
            · rw [upd_self] at q
              exact absurd (nI_inj (by omega) (by omega) q) (by omega)
            · rw [upd_self] at q
              have : m + 1 = m' := nI_inj (by omega) (by omega) q
              subst this
              by_cases z : j = m
              · subst z
                refine ⟨⟨y, by omega, ?_⟩, ?_⟩
                · rw [upd_ne (by omega), upd_ne (by omega), show 8 + 3 * j = 7 + 3 * j + 1 by omega, upd_self]
                · rw [upd_ne (by omega), show 9 + 3 * j = 7 + 3 * j + 2 by omega, upd_self]
                  rcases hd with hd | hd
                  · obtain ⟨u, -, hu, e⟩ := inr_of (by omega) hd (by omega)
                    exact Or.inr ⟨u, by omega, e⟩
                  · exact Or.inl hd
              · rw [upd_ne (by omega), upd_ne (by omega), upd_ne (by omega), upd_ne (by omega), upd_ne (by omega), upd_ne (by omega), upd_ne (by omega), upd_ne (by omega)]
                exact hm m h5 em j (by omega)
          · rw [rw1_self, upd_ne (by omega), upd_ne (by omega), upd_ne (by omega), upd_ne (by omega)]
          · obtain ⟨m', q1, q5, e'⟩ := h.nb.tm (show k < 4 by omega) t
            have : m' = m := nI_inj (by omega) (by omega) (e'.symm.trans em)
            subst this
            rw [rw1_self]
            refine ⟨?_, ?_, ?_⟩ <;> rw [upd_ne (by omega), upd_ne (by omega), upd_ne (by omega), upd_ne (by omega)]
      · exact hv
    · exact hv
  · unfold pSay
    split
    · rename_i h1
      obtain ⟨k, -, hk, rfl⟩ := inr_of (by omega) h1 (by omega)
      rw [nI_cl (by omega)]
      split
      · split
        · rfl
        · dsimp only
          rw [pAdd_rw, rw1_ne (by omega)]
      · rfl
    · rfl
  · unfold pSay
    split
    · rename_i h1
      obtain ⟨k, -, hk, rfl⟩ := inr_of (by omega) h1 (by omega)
      rw [nI_cl (by omega)]
      split
      · split
        · rfl
        · dsimp only
          rw [pAdd_rw]
          by_cases q : j = k
          · subst q
            rw [rw1_self, upd_ne (by omega), upd_ne (by omega), upd_ne (by omega), upd_ne (by omega)]
          · rw [rw1_ne q]
      · rfl
    · rfl
theorem GI_take {c : Nat} {Z : MI} {s : Int32} (h : GI c Z) (hc : c ≤ 99999) (hN : NB (pTake Z s).2) : GI c (pTake Z s).2 := by
  refine GI_V h hN (LV_take (h.lv hc)).1 (fun p L hh hv => ?_) (fun j hj => ?_) (fun j hj => ?_)
  · unfold pTake
    split
    · rename_i h1
      obtain ⟨k, -, hk, rfl⟩ := inr_of (by omega) h1 (by omega)
      rw [nI_cl (by omega)]
      split
      · exact hv
      · split
        · exact hv
        · rename_i h3
          obtain ⟨m, h5, em⟩ := h.nb.n5 k (by omega)
          have hm1 : 1 ≤ m := Nat.pos_of_ne_zero (fun q => h3 (by rw [em, q]; rfl))
          show V c c p L hh (xuI (xuI Z k 0 (Z k 0 - nI 1)) k 6 (if Z k 0 = nI 1 then nI 0 else Z k 6))
          have e0 : Z k 0 - nI 1 = nI (m - 1) := by rw [em]; exact nI_sub1 hm1
          refine V_row hv (show k < 4 by omega) (fun a q => by rw [xuI_row q, xuI_row q]) ?_ ?_ (fun t => ?_)
          · obtain ⟨⟨fa, fb, e4, e6, f3, f4, f5⟩, hm⟩ := hv.2.1 k (by omega)
            refine ⟨⟨fa, if m = 1 then 0 else fb, by rw [xuI_col (by omega), xuI_col (by omega)]; exact e4, ?_, by split <;> omega, f4, fun q => ?_⟩, fun m' hm' q j hj => ?_⟩
            · rw [xuI_self, em]
              by_cases q : m = 1
              · rw [if_pos q, if_pos (by rw [q])]
              · rw [if_neg q, if_neg (fun z => q (nI_inj (by omega) (by omega) z))]; exact e6
            · rw [xuI_col (by omega), xuI_self, e0] at q
              have := nI_inj (by omega) (by omega) q
              rw [if_pos (by omega)]
            · rw [xuI_col (by omega), xuI_self, e0] at q
              have := nI_inj (by omega) (by omega) q
              rw [xuI_col (by omega), xuI_col (by omega), xuI_col (by omega), xuI_col (by omega)]
              exact hm m h5 em j (by omega)
          · rw [xuI_col (by omega), xuI_col (by omega)]
          · refine ⟨?_, ?_, ?_⟩ <;> rw [xuI_col (by omega), xuI_col (by omega)]
    · exact hv
  · unfold pTake
    split
    · rename_i h1
      obtain ⟨k, -, hk, rfl⟩ := inr_of (by omega) h1 (by omega)
      rw [nI_cl (by omega)]
      split
      · rfl
      · split
        · rfl
        · dsimp only
          rw [xuI_row (by omega), xuI_row (by omega)]
    · rfl
  · unfold pTake
    split
    · split
      · rfl
      · split
        · rfl
        · dsimp only
          rw [xuI_at (by omega), xuI_at (by omega)]
    · rfl
theorem GI_lis {c k w : Nat} {Z : MI} {v : Int32} (h : GI c Z) (hk : k < 4) (hw : w ≠ 3) (hw4 : w ≠ 4) (hT : TL (xuI Z (4 + k) w v)) (hN : NB (xuI Z (4 + k) w v)) : GI c (xuI Z (4 + k) w v) :=
  GI_V h hN hT (fun p L hh hv => V_lis hv hk (fun a q => xuI_row q) (xuI_col (by omega)) (xuI_col (by omega))) (fun j hj => by rw [xuI_row (by omega)]) (fun j hj => by rw [xuI_row (by omega)])
theorem GI_hear {c : Nat} {Z : MI} {s a : Int32} (h : GI c Z) (hc : c ≤ 99999) : GI c (pHear Z s a).2 := by
  have hN := NB_hear (s := s) (a := a) h.nb
  have hT := (LV_hear (s := s) (a := a) (h.lv hc)).1
  revert hN hT
  unfold pHear
  split
  · rename_i h1
    obtain ⟨k, -, hk, rfl⟩ := inr_of (by omega) h1 (by omega)
    rw [nI_cl (by omega)]
    split
    · split
      · exact fun _ _ => h
      · split
        · exact fun _ _ => h
        · exact fun hN hT => GI_lis h (by omega) (by omega) (by omega) hT hN
    · exact fun _ _ => h
  · exact fun _ _ => h
theorem GI_hold {c : Nat} {Z : MI} {s a : Int32} (h : GI c Z) (hc : c ≤ 99999) : GI c (pHold Z s a).2 := by
  have hN := NB_hold (s := s) (t := a) h.nb
  have hT := (LV_hold (s := s) (t := a) (h.lv hc)).1
  revert hN hT
  unfold pHold
  split
  · rename_i h1
    obtain ⟨k, -, hk, rfl⟩ := inr_of (by omega) h1 (by omega)
    rw [nI_cl (by omega)]
    split
    · exact fun hN hT => GI_lis h (by omega) (by omega) (by omega) hT hN
    · exact fun _ _ => h
  · exact fun _ _ => h
theorem GI_stick {c : Nat} {Z : MI} {s a : Int32} (h : GI c Z) (hc : c ≤ 99999) : GI c (pStick Z s a).2 := by
  have hN := NB_stick (s := s) (t := a) h.nb
  have hT := (LV_stick (s := s) (t := a) (h.lv hc)).1
  revert hN hT
  unfold pStick
  split
  · rename_i h1
    obtain ⟨k, -, hk, rfl⟩ := inr_of (by omega) h1 (by omega)
    rw [nI_cl (by omega)]
    split
    · exact fun hN hT => GI_lis h (by omega) (by omega) (by omega) hT hN
    · exact fun _ _ => h
  · exact fun _ _ => h
theorem GI_set {c w x : Nat} {Z : MI} (h : GI c Z) (hc : c ≤ 99999) (hw : w < 3) (hx1 : 1 ≤ x) (hx : x ≤ 99) (hN : NB (pSet Z (nI w) (nI x)).2) : GI c (pSet Z (nI w) (nI x)).2 := by
  have hT := (LV_set (s := nI w) (t := nI x) (h.lv hc)).1
  revert hN hT
  unfold pSet
  split
  · rw [nI_cl (by omega)]
    split
    · intro hN hT
      dsimp only at hN hT ⊢
      have h' := h
      obtain ⟨⟨-, -, p, L, hh, hv⟩, hs, hcm⟩ := h
      refine ⟨⟨hN, hT, p, L, hh, hv.cg (fun k hk => xuI_row (by omega)) (xuI_row (by omega)) (xuI_col (by omega)) (by rw [xuI_col (by omega)]; exact hv.1.1.1) (by rw [xuI_col (by omega)]; exact hv.1.1.2.1) (by rw [xuI_col (by omega)]; exact hv.1.1.2.2.2) (by rw [xuI_col (by omega)]; exact hv.e6) ?_ (Nat.le_refl _) (Or.inl rfl) (Or.inl (Nat.le_refl _))⟩, fun j hj => ?_, fun k hk => by rw [xuI_row (by omega)]; exact hcm k hk⟩
      · by_cases q : w = 2
        · subst q; exact ⟨x, hx1, hx, xuI_self⟩
        · rw [xuI_col (by omega)]; exact hv.e2
      · by_cases q : j = w
        · subst q; exact ⟨x, hx, xuI_self⟩
        · rw [xuI_col q]; exact hs j hj
    · exact fun _ _ => h
  · exact fun _ _ => h
theorem GI_run {c n : Nat} {Z : MI} (h : GI c Z) : ∃ c', c' ≤ c + n ∧ GI c' (pRun Z (nI n)).2 := by
  unfold pRun
  split
  · rename_i h1
    obtain ⟨m, m1, m3, e⟩ := inr_of (by omega) h1 (by omega)
    rw [e, nI_cl (by omega)]
    split
    · by_cases q : n < 2 ^ 31
      · have : n = m := nI_inj q (by omega) e
        subst this
        exact ⟨c + n, Nat.le_refl _, GI_pTk h n⟩
      · exact ⟨c + m, by omega, GI_pTk h m⟩
    · exact ⟨c, by omega, h⟩
  · exact ⟨c, by omega, h⟩
