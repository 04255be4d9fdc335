
/-! what binds a row, without a machine -/
def NB (Z : MI) : Prop := (∃ L, L ≤ 64 ∧ Z 8 10 = nI L) ∧ ∀ k, k < 4 → ∃ F P, SPJ F P (Z k)
theorem SJ.nb {o : Nat} {I Z : MI} (h : SJ o I Z) : NB Z := by
  obtain ⟨x, L, q1, q2, q3, q4, q5, -⟩ := h.2.2.2
  exact ⟨⟨L, q2, q5⟩, fun k hk => ⟨_, _, h.1 k hk⟩⟩
theorem NB.n5 {Z : MI} (h : NB Z) : N5 Z := fun k hk => by
  obtain ⟨F, P, m, t, a1, a2, -⟩ := h.2 k hk
  exact ⟨m, a1, a2⟩
theorem NB.tm {Z : MI} (h : NB Z) {k : Nat} (hk : k < 4) (ht : tk Z k = true) : ∃ m, 1 ≤ m ∧ m ≤ 5 ∧ Z k 0 = nI m := by
  obtain ⟨F, P, m, t, h1, h2, h3, h4, -⟩ := h.2 k hk
  refine ⟨m, h4 ?_, h1, h2⟩
  unfold tk at ht
  rw [h3] at ht
  cases t with
  | true => rfl
  | false => exact absurd ht (by decide)
theorem NB_cg {Z Z' : MI} (h : NB Z) (hr : ∀ k, k < 4 → Z' k = Z k) (h10 : Z' 8 10 = Z 8 10) : NB Z' := ⟨by rw [h10]; exact h.1, fun k hk => by rw [hr k hk]; exact h.2 k hk⟩
theorem pLog_q {Z : MI} {L : Nat} {w i l : Int32} : pLog Z L w i l 8 10 = nI (if L = 64 then 64 else L + 1) := by
  unfold pLog pLa
  split <;> simp [xuI]
theorem NB_log {Z : MI} {L : Nat} {w i l : Int32} (h : NB Z) (hL : L ≤ 64) : NB (pLog Z L w i l) := ⟨⟨_, by split <;> omega, pLog_q⟩, fun k hk => by rw [pLog_row (by omega)]; exact h.2 k hk⟩
theorem NB_pLs {Z : MI} {b : Nat → Bool} (h : NB Z) : NB (pLs Z b 4) := by
  refine ⟨by rw [pLs_ge (by omega)]; exact h.1, fun k hk => ?_⟩
  obtain ⟨F, P, hs⟩ := h.2 k hk
  by_cases q : b k = true
  · have e : pLs Z b 4 k = upd (upd (Z k) 1 (bi false)) 3 (Z k 3 + nI 1) := by
      funext w
      simp only [pLs]
      rw [if_pos ⟨hk, q⟩]
      by_cases h1 : w = 1
      · subst h1; rw [if_pos rfl, upd_ne (by omega), upd_self]; rfl
      · rw [if_neg h1]
        by_cases h3 : w = 3
        · subst h3; rw [if_pos rfl, upd_self]; rfl
        · rw [if_neg h3, upd_ne h3, upd_ne h1]
    rw [e]
    exact ⟨_, _, SPJ_lose hs⟩
  · have e : pLs Z b 4 k = Z k := by funext w; simp only [pLs]; rw [if_neg (fun z => q z.2)]
    rw [e]
    exact ⟨F, P, hs⟩
theorem NB_pEn {Z : MI} (h : NB Z) : NB (pEn Z) := by
  unfold pEn
  split
  · exact NB_cg h (fun k hk => by rw [xuI_row (by omega), xuI_row (by omega), xuI_row (by omega)]) (by rw [xuI_col (by omega), xuI_col (by omega), xuI_col (by omega)])
  · exact h
theorem NB_pFr {Z : MI} (h : NB Z) : NB (pFr Z 4) := by
  refine ⟨by rw [pFr_ge (by omega)]; exact h.1, fun k hk => ?_⟩
  obtain ⟨F, P, hs⟩ := h.2 k hk
  have e : pFr Z 4 k = upd (Z k) 1 (bi (hasM Z k)) := by
    funext w
    simp only [pFr]
    by_cases h1 : w = 1
    · subst h1
      rw [if_pos ⟨hk, rfl⟩, upd_self]
      unfold hasM
      by_cases q : Z k 0 ≤ 0
      · rw [if_pos q, decide_eq_false (fun z => z q)]; rfl
      · rw [if_neg q, decide_eq_true q]; rfl
    · rw [if_neg (fun q => h1 q.2), upd_ne h1]
  rw [e]
  exact ⟨_, _, hs.ut (fun q => by unfold hasM at q; simpa using q)⟩
theorem NB_pCm {Z : MI} {P : Nat} (h : NB Z) : NB (pCm Z P 4) := by
  refine ⟨by rw [pCm_ge (by omega)]; exact h.1, fun k hk => ?_⟩
  obtain ⟨F, Q, hs⟩ := h.2 k hk
  by_cases q : sel Z P k = true
  · have e : pCm Z P 4 k = cRow (Z k) := if_pos ⟨hk, q⟩
    have ht : tk Z k = true := by unfold sel at q; rw [Bool.and_eq_true] at q; exact q.1
    obtain ⟨m, h1, h5, em⟩ := h.tm hk ht
    rw [e]
    exact ⟨_, _, SPJ_come hs em h1 h5⟩
  · have e : pCm Z P 4 k = Z k := if_neg (fun z => q z.2)
    rw [e]
    exact ⟨F, Q, hs⟩
theorem NB_pUn {Z : MI} (h : NB Z) : NB (pUn Z 4) := by
  refine ⟨by rw [pUn_ge (by omega)]; exact h.1, fun k hk => ?_⟩
  obtain ⟨F, Q, hs⟩ := h.2 k hk
  by_cases q : tk Z k = true
  · have e : pUn Z 4 k = uRow (Z k) (Z 8 1) := if_pos ⟨hk, q⟩
    obtain ⟨m, h1, h5, em⟩ := h.tm hk q
    rw [e]
    exact ⟨_, _, SPJ_miss hs em h1 h5⟩
  · have e : pUn Z 4 k = Z k := if_neg (fun z => q z.2)
    rw [e]
    exact ⟨F, Q, hs⟩
theorem NB_st {Y : MI} {p : Nat} (h : NB Y) : NB (pSt Y p) := by
  have hA : NB (pStA Y p) := by
    unfold pStA
    split
    · exact NB_cg h (fun k hk => by rw [xuI_row (by omega)]) (by rw [xuI_col (by omega)])
    · split
      · show NB (pEn (pLs Y (lsr Y p) 4))
        exact NB_pEn (NB_pLs h)
      · exact h
  have er : ∀ k sh (V : MI), k < 4 → pUs V sh 4 k = V k := fun k sh V hk => by funext b; simp only [pUs]; rw [if_neg (by omega)]
  unfold pSt pStB pStC
  refine NB_cg hA (fun k hk => by rw [xuI_row (by omega), xuI_row (by omega), er k _ _ hk, xuI_row (by omega)]) ?_
  rw [xuI_col (by omega), xuI_col (by omega), pUs_ge (by omega), xuI_col (by omega)]
theorem NB_bt {Y : MI} {L p : Nat} (h : NB Y) (hL : L ≤ 64) : NB (pTb Y L p) := by
  rw [pTb_eq]
  have hB : ∀ w l, NB (pB3 (pLs Y (lsB Y p) 4) L p w l) := fun w l => by
    unfold pB3
    exact NB_cg (NB_log (w := w) (i := nI 0) (l := l) (NB_pLs (b := lsB Y p) h) hL) (fun k hk => by rw [xuI_row (by omega)]) (by rw [xuI_col (by omega)])
  unfold pBt
  split
  · exact NB_cg (hB _ _) (fun k hk => by rw [xuI_row (by omega)]) (by rw [xuI_col (by omega)])
  · exact hB _ _
theorem NB_tf {Y : MI} (h : NB Y) : NB (pTf Y) := by
  have h1 : NB (xuI Y 8 5 (Y 8 5 + nI 1)) := NB_cg h (fun k hk => by rw [xuI_row (by omega)]) (by rw [xuI_col (by omega)])
  unfold pTf
  split
  · exact h1
  · split
    · exact h1
    · exact NB_cg (NB_pFr h1) (fun k hk => by rw [xuI_row (by omega), xuI_row (by omega), xuI_row (by omega)]) (by rw [xuI_col (by omega), xuI_col (by omega), xuI_col (by omega)])
theorem NB_an {Y : MI} {L p l : Nat} (h : NB Y) (hL : L ≤ 64) : NB (pAn Y L p l) := by
  unfold pAn
  have hA : NB (pAw Y l (p / 9)) := by
    unfold pAw
    split
    · exact h
    · exact NB_cg h (fun k hk => by rw [xuI_row (by omega), xuI_row (by omega)]) (by rw [xuI_at (by omega), xuI_at (by omega)])
  exact NB_pEn (NB_pCm (NB_cg (NB_log (w := nI 0) (i := nI 1) (l := nI 0) hA hL) (fun k hk => by rw [xuI_row (by omega)]) (by rw [xuI_col (by omega)])))
theorem NB_ua {Y : MI} {L p : Nat} (h : NB Y) (hL : L ≤ 64) : NB (pUa Y L p) := by
  unfold pUa
  exact NB_pEn (NB_pUn (NB_log h hL))
theorem NB_tick {Z : MI} (h : NB Z) : NB (pTick Z) := by
  obtain ⟨L, hL, h10⟩ := h.1
  have e2 : lgn Z = L := by unfold lgn; rw [h10, nI_cl (by omega)]
  have hc : NB (pZc Z) := NB_cg h (fun k hk => by unfold pZc; rw [xuI_row (by omega)]) (by unfold pZc; rw [xuI_col (by omega)])
  have hd : NB (pZd Z) := NB_cg h (fun k hk => pZd_row (by omega)) (pZd_8 (by omega) (by omega))
  unfold pTick
  split
  · exact NB_st hc
  · split
    · exact NB_cg hd (fun k hk => by rw [xuI_row (by omega)]) (by rw [xuI_col (by omega)])
    · split
      · exact NB_bt hd (by rw [e2]; exact hL)
      · split
        · exact NB_tf hd
        · unfold pAns
          split
          · exact NB_ua hd (by rw [e2]; exact hL)
          · exact NB_an hd (by rw [e2]; exact hL)
theorem NB_pTk {Z : MI} (h : NB Z) : ∀ j, NB (pTk Z j) := by
  intro j
  induction j with
  | zero => exact h
  | succ j ih => exact NB_tick ih
theorem pEn_c {Z : MI} : pEn Z 8 3 = Z 8 3 := by
  unfold pEn
  split
  · rw [xuI_col (by omega), xuI_col (by omega), xuI_col (by omega)]
  · rfl
theorem pTick_c {Z : MI} : pTick Z 8 3 = Z 8 3 + nI 1 := by
  have c1 : pZc Z 8 3 = Z 8 3 + nI 1 := by unfold pZc; exact xuI_self
  have c2 : pZd Z 8 3 = Z 8 3 + nI 1 := by unfold pZd; rw [xuI_col (by omega)]; exact c1
  unfold pTick
  split
  · unfold pSt pStB pStC
    rw [xuI_col (by omega), xuI_col (by omega), pUs_ge (by omega), xuI_col (by omega)]
    unfold pStA
    split
    · rw [xuI_col (by omega)]; exact c1
    · split
      · rw [pEn_c, pLo_ge (by omega)]; exact c1
      · exact c1
  · split
    · rw [xuI_col (by omega)]; exact c2
    · split
      · rw [pTb_eq]
        unfold pBt
        split
        · rw [xuI_col (by omega)]
          unfold pB3
          rw [xuI_col (by omega), pLog_ne (by omega) (by omega), pLs_ge (by omega)]; exact c2
        · unfold pB3
          rw [xuI_col (by omega), pLog_ne (by omega) (by omega), pLs_ge (by omega)]; exact c2
      · split
        · unfold pTf
          split
          · rw [xuI_col (by omega)]; exact c2
          · split
            · rw [xuI_col (by omega)]; exact c2
            · rw [xuI_col (by omega), xuI_col (by omega), xuI_col (by omega), pFr_ge (by omega), xuI_col (by omega)]; exact c2
        · unfold pAns
          cases hl : pLi (pZd Z) (Z (pFi Z) 7) with
          | none =>
            show pUa (pZd Z) (lgn Z) (ps Z) 8 3 = _
            unfold pUa
            rw [pEn_c, pUn_ge (by omega), pLog_ne (by omega) (by omega)]; exact c2
          | some l =>
            show pAn (pZd Z) (lgn Z) (ps Z) l 8 3 = _
            unfold pAn
            have hl4 := (pLi_spec hl).1
            rw [pEn_c, pCm_ge (by omega), xuI_col (by omega), pLog_ne (by omega) (by omega), pAw_row (by omega)]; exact c2
theorem pTk_c {Z : MI} {c : Nat} (h : Z 8 3 = nI c) : ∀ j, pTk Z j 8 3 = nI (c + j) := by
  intro j
  induction j with
  | zero => exact h
  | succ j ih => show pTick (pTk Z j) 8 3 = _; rw [pTick_c, ih, nI_add]; rfl
/-- beyond the machine's row -/
def LV (Z : MI) : Prop := TL Z ∧ ∃ c, c ≤ 99999 ∧ Z 8 3 = nI c
theorem LV.zq {Z Z' : MI} (h : LV Z) (e : Zq Z Z') : LV Z' := ⟨h.1.zq e, by rw [e.2.2.1 3 (by omega)]; exact h.2⟩
theorem TL_cg2 {Z Z' : MI} (h : TL Z) (e7 : Z' 8 7 = Z 8 7) (e5 : Z' 8 5 = Z 8 5) (e4 : Z' 8 4 = Z 8 4) (ek : ∀ k, k < 4 → Z' k 1 = Z k 1 ∧ (tk Z k = true → Z' k 9 = Z k 9)) (el : ∀ k, k < 4 → ∃ h, h ≤ 9 ∧ Z' (4 + k) 1 = nI h) : TL Z' := by
  obtain ⟨⟨p, hp, hz, hb, h0⟩, h5, ⟨hh, hh9, eh⟩, hl⟩ := h
  have et : ∀ k, k < 4 → tk Z' k = tk Z k := fun k hk => by unfold tk; rw [(ek k hk).1]
  have ec : cn (tk Z') 4 = cn (tk Z) 4 := cn_congr et
  refine ⟨⟨p, hp, e7.trans hz, fun k hk q => ?_, fun q => h0 (by rw [← ec]; exact q)⟩, fun q => by rw [e5]; exact h5 (by rw [← ec]; exact q), ⟨hh, hh9, e4.trans eh⟩, el⟩
  have q' : tk Z k = true := by rw [← et k hk]; exact q
  rw [(ek k hk).2 q']
  exact hb k hk q'
theorem LV_say {Z : MI} {s a w d : Int32} (hN : NB Z) (h : LV Z) : LV (pSay Z s a w d).2 := by
  unfold pSay
  split
  · rename_i h1
    obtain ⟨k, -, hk, rfl⟩ := inr_of (by omega) h1 (by omega)
    rw [nI_cl (by omega)]
    split
    · split
      · exact h
      · obtain ⟨m, h5, em⟩ := hN.n5 k (by omega)
        rw [em, nI_cl (by omega)]
        show LV (pAdd Z k m a w d)
        rw [pAdd_rw]
        have ne : ∀ j, j ≠ k → rw1 Z k (upd (upd (upd (upd (Z k) (7 + 3 * m) a) (7 + 3 * m + 1) w) (7 + 3 * m + 2) d) 0 (nI (m + 1))) j = Z j := fun j q => rw1_ne q
        refine ⟨TL_cg2 h.1 (by rw [ne 8 (by omega)]) (by rw [ne 8 (by omega)]) (by rw [ne 8 (by omega)]) (fun j hj => ?_) (fun j hj => by rw [ne _ (by omega)]; exact h.1.2.2.2 j hj), by rw [ne 8 (by omega)]; exact h.2⟩
        by_cases e : j = k
        · subst e
          rw [rw1_self]
          refine ⟨by rw [upd_ne (by omega), upd_ne (by omega), upd_ne (by omega), upd_ne (by omega)], fun ht => ?_⟩
          obtain ⟨m', q1, q5, e'⟩ := hN.tm hj ht
          have : m' = m := by
            have := congrArg Int32.toInt (e'.symm.trans em)
            rw [nI_toInt (by omega), nI_toInt (by omega)] at this
            omega
          subst this
          rw [upd_ne (by omega), upd_ne (by omega), upd_ne (by omega), upd_ne (by omega)]
        · rw [ne j e]
          exact ⟨rfl, fun _ => rfl⟩
    · exact h
  · exact h
theorem LV_take {Z : MI} {s : Int32} (h : LV Z) : LV (pTake Z s).2 := by
  unfold pTake
  split
  · rename_i h1
    obtain ⟨k, -, hk, rfl⟩ := inr_of (by omega) h1 (by omega)
    rw [nI_cl (by omega)]
    split
    · exact h
    · split
      · exact h
      · dsimp only
        refine ⟨TL_cg h.1 (by rw [xuI_row (by omega), xuI_row (by omega)]) (by rw [xuI_row (by omega), xuI_row (by omega)]) (by rw [xuI_row (by omega), xuI_row (by omega)]) (fun j hj => ⟨by rw [xuI_at (by omega), xuI_at (by omega)], by rw [xuI_at (by omega), xuI_at (by omega)]⟩) (fun j hj => by rw [xuI_at (by omega), xuI_at (by omega)]), ?_⟩
        show ∃ c, c ≤ 99999 ∧ xuI (xuI Z k 0 _) k 6 _ 8 3 = nI c
        rw [xuI_row (by omega), xuI_row (by omega)]
        exact h.2
  · exact h
theorem LV_hear {Z : MI} {s a : Int32} (h : LV Z) : LV (pHear Z s a).2 := by
  unfold pHear
  split
  · rename_i h1
    obtain ⟨k, -, hk, rfl⟩ := inr_of (by omega) h1 (by omega)
    rw [nI_cl (by omega)]
    split
    · split
      · exact h
      · split
        · exact h
        · show LV (xuI Z (4 + k) 0 a)
          refine ⟨TL_cg h.1 (by rw [xuI_row (by omega)]) (by rw [xuI_row (by omega)]) (by rw [xuI_row (by omega)]) (fun j hj => by rw [xuI_row (by omega)]; exact ⟨rfl, rfl⟩) (fun j hj => by rw [xuI_at (by omega)]), ?_⟩
          rw [xuI_row (by omega)]
          exact h.2
    · exact h
  · exact h
theorem LV_hold {Z : MI} {s t : Int32} (h : LV Z) : LV (pHold Z s t).2 := by
  unfold pHold
  split
  · rename_i h1
    obtain ⟨k, -, hk, rfl⟩ := inr_of (by omega) h1 (by omega)
    rw [nI_cl (by omega)]
    split
    · rename_i h2
      obtain ⟨n, -, hn, rfl⟩ := inr_of (by omega) h2 (by omega)
      dsimp only
      refine ⟨TL_cg2 h.1 (by rw [xuI_row (by omega)]) (by rw [xuI_row (by omega)]) (by rw [xuI_row (by omega)]) (fun j hj => by rw [xuI_row (by omega)]; exact ⟨rfl, fun _ => rfl⟩) (fun j hj => ?_), ?_⟩
      · by_cases e : j = k
        · subst e; exact ⟨n, hn, xuI_self⟩
        · rw [xuI_row (by omega)]; exact h.1.2.2.2 j hj
      · show ∃ c, c ≤ 99999 ∧ xuI Z (4 + k) 1 _ 8 3 = nI c
        rw [xuI_row (by omega)]
        exact h.2
    · exact h
  · exact h
theorem LV_stick {Z : MI} {s t : Int32} (h : LV Z) : LV (pStick Z s t).2 := by
  unfold pStick
  split
  · rename_i h1
    obtain ⟨k, -, hk, rfl⟩ := inr_of (by omega) h1 (by omega)
    rw [nI_cl (by omega)]
    split
    · dsimp only
      refine ⟨TL_cg h.1 (by rw [xuI_row (by omega)]) (by rw [xuI_row (by omega)]) (by rw [xuI_row (by omega)]) (fun j hj => by rw [xuI_row (by omega)]; exact ⟨rfl, rfl⟩) (fun j hj => by rw [xuI_at (by omega)]), ?_⟩
      show ∃ c, c ≤ 99999 ∧ xuI Z (4 + k) 2 _ 8 3 = nI c
      rw [xuI_row (by omega)]
      exact h.2
    · exact h
  · exact h
theorem LV_set {Z : MI} {s t : Int32} (h : LV Z) : LV (pSet Z s t).2 := by
  unfold pSet
  split
  · rename_i h1
    obtain ⟨k, -, hk, rfl⟩ := inr_of (by omega) h1 (by omega)
    rw [nI_cl (by omega)]
    split
    · dsimp only
      refine ⟨TL_cg h.1 (by rw [xuI_col (by omega)]) (by rw [xuI_col (by omega)]) (by rw [xuI_col (by omega)]) (fun j hj => by rw [xuI_row (by omega)]; exact ⟨rfl, rfl⟩) (fun j hj => by rw [xuI_row (by omega)]), ?_⟩
      show ∃ c, c ≤ 99999 ∧ xuI Z 8 k _ 8 3 = nI c
      rw [xuI_col (by omega)]
      exact h.2
    · exact h
  · exact h
theorem LV_run {Z : MI} {t : Int32} (h : LV Z) : LV (pRun Z t).2 := by
  unfold pRun
  split
  · rename_i h1
    obtain ⟨n, n1, n3, rfl⟩ := inr_of (by omega) h1 (by omega)
    obtain ⟨c, hc, ec⟩ := h.2
    rw [nI_cl (by omega), ec, nI_add]
    split
    · rename_i h2
      have := (nI_leI (by omega) (by omega)).mp h2
      exact ⟨TL_pTk h.1 n, c + n, this, pTk_c ec n⟩
    · exact h
  · exact h
theorem NB_say {Z : MI} {s a w d : Int32} (h : NB Z) : NB (pSay Z s a w d).2 := by
  unfold pSay
  split
  · rename_i h1
    obtain ⟨k, -, hk, rfl⟩ := inr_of (by omega) h1 (by omega)
    rw [nI_cl (by omega)]
    split
    · rename_i h2
      obtain ⟨x, -, hx, rfl⟩ := inr_of (by omega) h2.1 (by omega)
      split
      · exact h
      · rename_i h3
        obtain ⟨m, h5, em⟩ := h.n5 k (by omega)
        have hm5 : m < 5 := by
          refine Nat.lt_of_le_of_ne h5 (fun q => h3 ?_)
          rw [em, q]
        rw [em, nI_cl (by omega)]
        show NB (pAdd Z k m (nI x) w d)
        rw [pAdd_rw]
        refine ⟨by rw [rw1_ne (by omega)]; exact h.1, fun j hj => ?_⟩
        by_cases e : j = k
        · subst e
          rw [rw1_self]
          obtain ⟨F, P, hs⟩ := h.2 j hj
          exact ⟨_, _, SPJ_app hs em hm5 (by omega)⟩
        · rw [rw1_ne e]; exact h.2 j hj
    · exact h
  · exact h
theorem NB_hear {Z : MI} {s a : Int32} (h : NB Z) : NB (pHear Z s a).2 := by
  unfold pHear
  split
  · split
    · split
      · exact h
      · split
        · exact h
        · rename_i h1 _ _ _
          dsimp only
          exact NB_cg h (fun k hk => by rw [xuI_row (by omega)]) (by obtain ⟨k, -, hk, rfl⟩ := inr_of (by omega) h1 (by omega); rw [nI_cl (by omega), xuI_row (by omega)])
    · exact h
  · exact h
theorem NB_hold {Z : MI} {s t : Int32} (h : NB Z) : NB (pHold Z s t).2 := by
  unfold pHold
  split
  · rename_i h1
    obtain ⟨k, -, hk, rfl⟩ := inr_of (by omega) h1 (by omega)
    rw [nI_cl (by omega)]
    split
    · dsimp only
      exact NB_cg h (fun j hj => by rw [xuI_row (by omega)]) (by rw [xuI_row (by omega)])
    · exact h
  · exact h
theorem NB_stick {Z : MI} {s t : Int32} (h : NB Z) : NB (pStick Z s t).2 := by
  unfold pStick
  split
  · rename_i h1
    obtain ⟨k, -, hk, rfl⟩ := inr_of (by omega) h1 (by omega)
    rw [nI_cl (by omega)]
    split
    · dsimp only
      exact NB_cg h (fun j hj => by rw [xuI_row (by omega)]) (by rw [xuI_row (by omega)])
    · exact h
  · exact h
theorem NB_run {Z : MI} {t : Int32} (h : NB Z) : NB (pRun Z t).2 := by
  unfold pRun
  split
  · split
    · exact NB_pTk h _
    · exact h
  · exact h
def IV (Z : MI) : Prop := NB Z ∧ LV Z