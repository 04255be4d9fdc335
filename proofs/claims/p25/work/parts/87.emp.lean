/-! looking ahead, in numbers -/
theorem emN_sp (f : Nat) : ∀ Z : MI, emN Z f ≤ f ∧ (∀ j, j < emN Z f → ¬ pMs (pTk Z j) ≤ 0) ∧ (pMs (pTk Z (emN Z f)) ≤ 0 ∨ emN Z f = f) := by
  induction f with
  | zero => intro Z; exact ⟨Nat.le_refl _, fun j hj => absurd hj (by show ¬ j < 0; omega), Or.inr rfl⟩
  | succ f ih =>
    intro Z
    obtain ⟨h1, h2, h3⟩ := ih (pTick Z)
    by_cases q : pMs Z ≤ 0
    · have e : emN Z (f + 1) = 0 := if_pos q
      rw [e]
      exact ⟨by omega, fun j hj => absurd hj (by omega), Or.inl q⟩
    · have e : emN Z (f + 1) = emN (pTick Z) f + 1 := if_neg q
      rw [e]
      refine ⟨by omega, fun j hj => ?_, ?_⟩
      · cases j with
        | zero => exact q
        | succ j =>
          rw [← pTk_tick]
          exact h2 j (by omega)
      · rw [← pTk_tick]
        rcases h3 with h3 | h3
        · exact Or.inl h3
        · exact Or.inr (by omega)
theorem pTk_add (Z : MI) (T : Nat) : ∀ j, pTk (pTk Z T) j = pTk Z (T + j) := by
  intro j
  induction j with
  | zero => rfl
  | succ j ih => show pTick (pTk (pTk Z T) j) = pTick (pTk Z (T + j)); rw [ih]
theorem pMs_0 {Z : MI} (h : NB Z) : pMs Z = 0 ↔ ∀ k, k < 4 → Z k 0 = 0 := by
  obtain ⟨a, ha, ea⟩ := h.n5 0 (by omega)
  obtain ⟨b, hb, eb⟩ := h.n5 1 (by omega)
  obtain ⟨c, hc, ec⟩ := h.n5 2 (by omega)
  obtain ⟨d, hd, ed⟩ := h.n5 3 (by omega)
  have e : pMs Z = nI (0 + a + b + c + d) := by
    show (((nI 0 + Z 0 0) + Z 1 0) + Z 2 0) + Z 3 0 = _
    rw [ea, eb, ec, ed, nI_add, nI_add, nI_add, nI_add]
  rw [e]
  constructor
  · intro q
    have q0 := nI_inj (b := 0) (by omega) (by omega) q
    intro k hk
    rcases (show k = 0 ∨ k = 1 ∨ k = 2 ∨ k = 3 by omega) with rfl | rfl | rfl | rfl
    · rw [ea, show a = 0 by omega]; rfl
    · rw [eb, show b = 0 by omega]; rfl
    · rw [ec, show c = 0 by omega]; rfl
    · rw [ed, show d = 0 by omega]; rfl
  · intro q
    have a0 := nI_inj (b := 0) (by omega) (by omega) (ea.symm.trans (q 0 (by omega)))
    have b0 := nI_inj (b := 0) (by omega) (by omega) (eb.symm.trans (q 1 (by omega)))
    have c0 := nI_inj (b := 0) (by omega) (by omega) (ec.symm.trans (q 2 (by omega)))
    have d0 := nI_inj (b := 0) (by omega) (by omega) (ed.symm.trans (q 3 (by omega)))
    rw [a0, b0, c0, d0]; rfl
/-- without messages none comes -/
theorem pTick_0 {Z : MI} (hN : NB Z) (h0 : ∀ k, k < 4 → Z k 0 = 0) {k : Nat} (hk : k < 4) : pTick Z k 0 = 0 := by
  have c1 : pZc Z k = Z k := by unfold pZc; exact xuI_row (by omega)
  have c2 : pZd Z k = Z k := pZd_row (by omega)
  have hT : ¬ ∃ j, j < 4 ∧ tk Z j = true := fun ⟨j, hj, t⟩ => by
    obtain ⟨m, m1, m5, em⟩ := hN.tm hj t
    have := nI_inj (b := 0) (by omega) (by omega) (em.symm.trans (h0 j hj))
    omega
  rw [← h0 k hk]
  unfold pTick
  split
  · have er : ∀ sh (W : MI), pUs W sh 4 k = W k := fun sh W => by funext b; simp only [pUs]; rw [if_neg (by omega)]
    unfold pSt pStB pStC
    rw [xuI_row (by omega), xuI_row (by omega), er, xuI_row (by omega)]
    unfold pStA
    split
    · rw [xuI_row (by omega), c1]
    · split
      · rw [pEn_row (by omega)]
        show pLs (pZc Z) _ 4 k 0 = _
        rw [pLs_c (by omega) (by omega), c1]
      · rw [c1]
  · split
    · rw [xuI_row (by omega), c2]
    · split
      · rename_i q
        exact absurd (pNx_tk (Or.inl q)) hT
      · split
        · unfold pTf
          split
          · rw [xuI_row (by omega), c2]
          · split
            · rw [xuI_row (by omega), c2]
            · rw [xuI_row (by omega), xuI_row (by omega), xuI_row (by omega)]
              simp only [pFr]
              rw [if_neg (by omega), xuI_row (by omega), c2]
        · rename_i q4 q3 q1 q0
          have := pNx_le (Z := Z) (p := ps Z)
          exact absurd (pNx_tk (p := ps Z) (Or.inr (by omega))) hT
theorem ms0_pTk {Z : MI} (hN : NB Z) {t : Nat} (h0 : pMs (pTk Z t) = 0) : ∀ s, pMs (pTk Z (t + s)) = 0 := by
  intro s
  induction s with
  | zero => exact h0
  | succ s ih =>
    have hN1 := NB_pTk hN (t + s)
    refine (pMs_0 (NB_tick hN1)).mpr (fun k hk => ?_)
    exact pTick_0 hN1 ((pMs_0 hN1).mp ih) hk
theorem emp_sp {Z : MI} (hN : NB Z) : (∃ E, E ≤ 1000 ∧ pEmp Z = nI E ∧ pMs (pTk Z E) = 0 ∧ ∀ j, j < E → ¬ pMs (pTk Z j) = 0) ∨ (pEmp Z = -5 ∧ ∀ j, j ≤ 1000 → ¬ pMs (pTk Z j) = 0) := by
  obtain ⟨h1, h2, h3⟩ := emN_sp 1000 Z
  have h2' : ∀ j, j < emN Z 1000 → ¬ pMs (pTk Z j) = 0 := fun j hj q => h2 j hj ((pMs_le (NB_pTk hN j)).mpr q)
  by_cases q : pMs (pTk Z (emN Z 1000)) = 0
  · left
    exact ⟨emN Z 1000, h1, if_pos q, q, h2'⟩
  · right
    refine ⟨if_neg q, fun j hj => ?_⟩
    have e : emN Z 1000 = 1000 := by
      rcases h3 with z | z
      · exact absurd ((pMs_le (NB_pTk hN _)).mp z) q
      · exact z
    by_cases z : j = 1000
    · rw [z, ← e]; exact q
    · exact h2' j (by omega)
/-- in how many ticks all lines are empty: before and behind some ticks -/
theorem emp_ticks {Z : MI} (hN : NB Z) (T : Nat) (hT : T ≤ 100) : (∃ E, E ≤ 1000 ∧ pEmp Z = nI E ∧ (pMs Z = 0 ↔ E = 0) ∧ (E ≤ T → pMs (pTk Z T) = 0) ∧ (T < E → ¬ pMs (pTk Z T) = 0) ∧ (T ≤ E → pEmp (pTk Z T) = nI (E - T))) ∨ (pEmp Z = -5 ∧ ¬ pMs Z = 0 ∧ (pEmp (pTk Z T) = -5 ∨ ∃ E', E' ≤ 1000 ∧ 1000 - T < E' ∧ pEmp (pTk Z T) = nI E')) := by
  have hNT := NB_pTk hN T
  rcases emp_sp hN with ⟨E, hE, e, hz, hn⟩ | ⟨e, hn⟩
  · left
    refine ⟨E, hE, e, ⟨fun q => ?_, fun q => by rw [q] at hz; exact hz⟩, fun q => ?_, fun q => hn T q, fun q => ?_⟩
    · exact Nat.eq_zero_of_not_pos (fun z => hn 0 z q)
    · have := ms0_pTk hN hz (T - E)
      rw [show E + (T - E) = T by omega] at this
      exact this
    · have hz' : pMs (pTk (pTk Z T) (E - T)) = 0 := by rw [pTk_add, show T + (E - T) = E by omega]; exact hz
      rcases emp_sp hNT with ⟨E', hE', e', hz2, hn2⟩ | ⟨-, hn2⟩
      · rw [e']
        congr 1
        rcases Nat.lt_trichotomy E' (E - T) with z | z | z
        · exfalso
          rw [pTk_add] at hz2
          exact hn (T + E') (by omega) hz2
        · exact z
        · exact absurd hz' (hn2 _ z)
      · exact absurd hz' (hn2 _ (by omega))
  · right
    refine ⟨e, hn 0 (by omega), ?_⟩
    rcases emp_sp hNT with ⟨E', hE', e', hz2, -⟩ | ⟨e', -⟩
    · right
      refine ⟨E', hE', ?_, e'⟩
      rw [pTk_add] at hz2
      by_cases z : T + E' ≤ 1000
      · exact absurd hz2 (hn _ z)
      · omega
    · exact Or.inl e'
theorem pIf_k {Z : MI} {k T : Nat} (hk : k < 4) (h1 : 1 ≤ T) (hT : T ≤ 300) : pIf Z (nI k) (nI T) = pTk Z T k 2 - Z k 2 := by
  unfold pIf
  rw [if_pos (inr_nat (by omega) (by omega) (by omega) (by omega)), if_pos (inr_nat (by omega) (by omega) (by omega) (by omega)), nI_cl (by omega), nI_cl (by omega)]
theorem pH_top {H : Nat → MI} {h : Nat} {Z : MI} (h4 : h ≤ 4) : pH H h Z (hN h - 1) = Z ∧ ¬ hN h = 0 ∧ hN h ≤ 4 := by
  unfold pH hN
  by_cases q : h = 4
  · rw [if_pos q, if_pos q, if_pos (by omega)]; exact ⟨rfl, by omega, by omega⟩
  · rw [if_neg q, if_neg q, if_pos (by omega)]; exact ⟨rfl, by omega, by omega⟩
