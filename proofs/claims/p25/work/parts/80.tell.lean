/-! what is told, in small words -/
theorem sm_step (p : Nat → Int32) (k : Nat) : sm p k + p k = sm p (k + 1) := rfl
theorem pSpk_k {Z : MI} {k w : Nat} (hk : k < 4) (hw : w < 7) : pSpk Z (nI k) (nI w) = Z k w := by
  unfold pSpk
  rw [if_pos (inr_nat (by omega) (by omega) (by omega) (by omega)), if_pos (inr_nat (by omega) (by omega) (by omega) (by omega)), nI_cl (by omega), nI_cl (by omega)]
theorem pLsn_k {Z : MI} {k w : Nat} (hk : k < 4) (hw : w < 5) : pLsn Z (nI k) (nI w) = Z (4 + k) w := by
  unfold pLsn
  rw [if_pos (inr_nat (by omega) (by omega) (by omega) (by omega)), if_pos (inr_nat (by omega) (by omega) (by omega) (by omega)), nI_cl (by omega), nI_cl (by omega)]
theorem pMsg_k {Z : MI} {k m j : Nat} {w : Int32} (hk : k < 4) (hm : m ≤ 5) (em : Z k 0 = nI m) (hj : j < m) : pMsg Z (nI k) (nI j) w = pMsW Z k j w := by
  unfold pMsg
  rw [nI_cl (by omega), nI_cl (by omega), em, inr_pred hm, if_pos ⟨inr_nat (by omega) (by omega) (by omega) (by omega), decide_eq_true ⟨(nI_leI (a := 0) (by omega) (by omega)).mpr (by omega), (nI_ltI (by omega) (by omega)).mpr hj⟩⟩]
theorem pMsg_n {Z : MI} {k m j : Nat} {w : Int32} (hk : k < 4) (hm : m ≤ 5) (em : Z k 0 = nI m) (hj : m ≤ j) (hj2 : j < 2 ^ 31) : pMsg Z (nI k) (nI j) w = -1 := by
  unfold pMsg
  rw [nI_cl (by omega), em, inr_pred hm, if_neg (fun q => ?_)]
  have := (nI_ltI hj2 (by omega)).mp (of_decide_eq_true q.2).2
  omega
theorem pBt2_k {Z : MI} {b w L : Nat} (hL : L ≤ 64) (e : Z 8 10 = nI L) (hb : b < L) (hw : w < 4) : pBt2 Z (nI b) (nI w) = Z 9 (4 * (L - 1 - b) + w) := by
  unfold pBt2
  rw [if_neg (fun q => ?_), if_pos (by rw [e]; exact (nI_ltI (by omega) (by omega)).mpr hb), e, nI_cl (by omega), nI_cl (by omega), nI_cl (by omega)]
  rcases q with q | q
  · exact nI_pos (by omega) q
  · rw [inr_nat (by omega) (by omega) (by omega) (by omega)] at q
    cases q
theorem pBt2_n {Z : MI} {b w L : Nat} (hL : L ≤ 64) (e : Z 8 10 = nI L) (hb : L ≤ b) (hb2 : b < 2 ^ 31) (hw : w < 4) : pBt2 Z (nI b) (nI w) = -5 := by
  unfold pBt2
  rw [if_neg (fun q => ?_), if_neg (fun q => ?_)]
  · rw [e] at q
    have := (nI_ltI (by omega) (by omega)).mp q
    omega
  · rcases q with q | q
    · exact nI_pos (by omega) q
    · rw [inr_nat (by omega) (by omega) (by omega) (by omega)] at q
      cases q
section TL1
variable {σ : Nat → Nat} {J : MI} {R : MR} {Z : MI} {H : Nat → MI} {h : Nat} {K : MI} {e : Bool} {n : Nat} {t : Nat → Int32} {a b : Int32}
theorem sp_spk (hC : Cl σ J R Z H h K e n t a b) {k w : Nat} (hk : k < 4) (hw : w < 7) : Spd mX5_speaker [.ref 0, .int (nI k), .int (nI w)] J R (some (.int (Z k w))) J := by
  rw [← pSpk_k (Z := Z) hk hw]; exact sp_speaker hC _ _
theorem sp_lsn (hC : Cl σ J R Z H h K e n t a b) {k w : Nat} (hk : k < 4) (hw : w < 5) : Spd mX5_listener [.ref 0, .int (nI k), .int (nI w)] J R (some (.int (Z (4 + k) w))) J := by
  rw [← pLsn_k (Z := Z) hk hw]; exact sp_listener hC _ _
theorem sp_msg (hC : Cl σ J R Z H h K e n t a b) {k m j : Nat} {w v : Int32} (hk : k < 4) (hm : m ≤ 5) (em : Z k 0 = nI m) (hj : j < m) (hv : pMsW Z k j w = v) : Spd mX5_message [.ref 0, .int (nI k), .int (nI j), .int w] J R (some (.int v)) J := by
  rw [← hv, ← pMsg_k (Z := Z) hk hm em hj]; exact sp_message hC _ _ _
theorem sp_msn (hC : Cl σ J R Z H h K e n t a b) {k m j : Nat} {w : Int32} (hk : k < 4) (hm : m ≤ 5) (em : Z k 0 = nI m) (hj : m ≤ j) (hj2 : j < 2 ^ 31) : Spd mX5_message [.ref 0, .int (nI k), .int (nI j), .int w] J R (some (.int (-1))) J := by
  rw [← pMsg_n (Z := Z) (w := w) hk hm em hj hj2]; exact sp_message hC _ _ _
theorem sp_btk (hC : Cl σ J R Z H h K e n t a b) {x w L : Nat} (hL : L ≤ 64) (e10 : Z 8 10 = nI L) (hb : x < L) (hw : w < 4) : Spd mX5_bit [.ref 0, .int (nI x), .int (nI w)] J R (some (.int (Z 9 (4 * (L - 1 - x) + w)))) J := by
  rw [← pBt2_k (Z := Z) hL e10 hb hw]; exact sp_bit hC _ _
theorem sp_btn (hC : Cl σ J R Z H h K e n t a b) {x w L : Nat} (hL : L ≤ 64) (e10 : Z 8 10 = nI L) (hb : L ≤ x) (hb2 : x < 2 ^ 31) (hw : w < 4) : Spd mX5_bit [.ref 0, .int (nI x), .int (nI w)] J R (some (.int (-5))) J := by
  rw [← pBt2_n (Z := Z) hL e10 hb hb2 hw]; exact sp_bit hC _ _
theorem sp_cnt (hC : Cl σ J R Z H h K e n t a b) {w v : Int32} (hv : pCnt Z (nI h) (nI n) w = v) : Spd mX5_count [.ref 0, .int w] J R (some (.int v)) J := by
  rw [← hv]; exact sp_count hC _
end TL1
/-- the law's state: clock up to c -/
def GS (c : Nat) (J : MI) (R : MR) : Prop := ∃ (σ : Nat → Nat) (Z : MI) (H : Nat → MI) (h : Nat) (K : MI) (e : Bool) (n : Nat) (t : Nat → Int32) (a b : Int32), Cl σ J R Z H h K e n t a b ∧ ∃ c', c' ≤ c ∧ GI c' Z
theorem GS.mono {c d : Nat} {J : MI} {R : MR} (h : GS c J R) (hd : c ≤ d) : GS d J R := by
  obtain ⟨σ, Z, H, h, K, e, n, t, a, b, hC, c', h1, h2⟩ := h
  exact ⟨σ, Z, H, h, K, e, n, t, a, b, hC, c', by omega, h2⟩
/-- what 'recorded' leaves is the law's state again -/
theorem GS_RQ {σ : Nat → Nat} {J J' : MI} {R' : MR} {Z Z0 : MI} {H : Nat → MI} {h : Nat} {K : MI} {e : Bool} {n : Nat} {t : Nat → Int32} {a b v : Int32} {r : Option Value} {n' c : Nat} (hq : RQ σ J Z Z0 H h K e n t a b v r n' J' R') (hG : NB Z → ∃ c', c' ≤ c ∧ GI c' Z) : r = some (.int v) ∧ n' = 131 ∧ Hi J J' ∧ GS c J' R' := by
  obtain ⟨h1, h2, h3, h4⟩ := hq
  refine ⟨h1, h2, h3, ?_⟩
  rcases h4 with ⟨-, hC⟩ | ⟨-, hC⟩
  · exact ⟨_, _, _, _, _, _, _, _, _, _, hC, hG hC.sj.nb⟩
  · exact ⟨_, _, _, _, _, _, _, _, _, _, hC, hG hC.sj.nb⟩
/-- a row's facts -/
theorem GI_row {c k : Nat} {Z : MI} (h : GI c Z) (hk : k < 4) : ∃ m a b, m ≤ 5 ∧ Z k 0 = nI m ∧ Z k 1 = bi (tk Z k) ∧ (tk Z k = true → 1 ≤ m) ∧ Z k 4 = nI a ∧ Z k 6 = nI b ∧ b ≤ a ∧ a ≤ c ∧ (m = 0 → b = 0) ∧ ∀ j, j < m → (∃ x, x < 128 ∧ Z k (7 + 3 * j) = nI x) ∧ (∃ x, x < 256 ∧ Z k (8 + 3 * j) = nI x) ∧ (Z k (9 + 3 * j) = -5 ∨ ∃ x, x < 256 ∧ Z k (9 + 3 * j) = nI x) := by
  obtain ⟨⟨hN, -, p, L, hh, hv⟩, -, -⟩ := h
  obtain ⟨F, P, m, t, h5, e0, e1, ht, -, hm⟩ := hN.2 k hk
  obtain ⟨⟨a, b, e4, e6, g1, g2, g3⟩, hr⟩ := hv.2.1 k hk
  have et : tk Z k = t := by
    unfold tk
    rw [e1]
    cases t <;> decide
  refine ⟨m, a, b, h5, e0, by rw [et]; exact e1, fun q => ht (by rw [← et]; exact q), e4, e6, g1, g2, fun q => g3 (by rw [e0, q]), fun j hj => ?_⟩
  obtain ⟨⟨x, hx, ex, -⟩, -, -⟩ := hm j hj
  exact ⟨⟨x, hx, ex⟩, hr m h5 e0 j hj⟩
theorem GI_lsn {c k : Nat} {Z : MI} (h : GI c Z) (hc : c ≤ 99999) (hk : k < 4) : (0 < Z (4 + k) 3 ↔ ¬ Z (4 + k) 4 < 0) ∧ ∃ x, x ≤ 9 ∧ Z (4 + k) 1 = nI x := by
  obtain ⟨⟨hN, hT, p, L, hh, hv⟩, -, -⟩ := h
  obtain ⟨w, hw1, e3, hw⟩ := hv.2.2.1 k hk
  refine ⟨?_, hT.2.2.2 k hk⟩
  rw [e3]
  rcases hw with ⟨rfl, e4⟩ | ⟨hpos, x, hx, e4⟩
  · rw [e4]
    exact ⟨fun q => absurd ((nI_ltI (a := 0) (b := 0) (by omega) (by omega)).mp q) (by omega), fun q => absurd (by decide) q⟩
  · rw [e4]
    exact ⟨fun _ => nI_pos (by omega), fun _ => (nI_ltI (a := 0) (by omega) (by omega)).mpr hpos⟩
