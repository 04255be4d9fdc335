/-! the law's third check: who would win -/
theorem pw_le {Z : MI} {k : Nat} : ∀ i p, pWs Z (p + i) k = true → pWs Z p k = true := by
  intro i
  induction i with
  | zero => intro p h; exact h
  | succ i ih =>
    intro p h
    have h1 : pWs Z (p + i) k = true := by
      have h' : pWs Z (p + i + 1) k = true := h
      rw [pWs] at h'
      split at h'
      · rw [Bool.and_eq_true] at h'; exact h'.1
      · exact h'
    exact ih p h1
theorem any4_of {p : Nat → Bool} {j : Nat} (hj : j < 4) (h : p j = true) : any4 p = true := by
  unfold any4
  rcases (show j = 0 ∨ j = 1 ∨ j = 2 ∨ j = 3 by omega) with rfl | rfl | rfl | rfl <;> rw [h] <;> simp
theorem pw_place {Z : MI} {p : Nat} (h : p % 9 = 8) : pWs Z (p + 1) = pWs Z p := by
  rw [pWs]
  have : any4 (wLo Z p (pWs Z p)) = false := by
    cases q : any4 (wLo Z p (pWs Z p)) with
    | false => rfl
    | true =>
      obtain ⟨j, hj, e⟩ := any4_ex q
      unfold wLo wIs at e
      rw [decide_eq_true h] at e
      simp at e
  rw [this, if_neg (by decide)]
theorem wIs_y {Z : MI} {p k : Nat} (h : pWs Z p k = true) (h9 : ¬ p % 9 = 8) (hp : p < 18) : wIs Z p (pWs Z p) k = true := by
  unfold wIs
  rw [h, decide_eq_false h9, decide_eq_true (show p < pBits (Z k 9) by rcases pB_or (Z k 9) with q | q <;> omega)]
  rfl
theorem pw_lo {Z : MI} {p k j : Nat} (hj : j < 4) (h1 : pWs Z (p + 1) k = true) (h2 : pWs Z p j = true) (h9 : ¬ p % 9 = 8) (hp : p < 18) (e : pBit Z j p = 0) : pBit Z k p = 0 := by
  have hk := pw_le 1 p h1
  rcases pBit_01 Z k p with q | q
  · exact q
  · exfalso
    have hl : any4 (wLo Z p (pWs Z p)) = true := any4_of hj (by unfold wLo; rw [wIs_y h2 h9 hp, e]; decide)
    rw [pWs, if_pos hl] at h1
    unfold wHi at h1
    rw [hk, wIs_y hk h9 hp, q] at h1
    exact absurd h1 (by decide)
theorem pw_eq {Z : MI} {p k j : Nat} (h1 : pWs Z (p + 1) k = true) (h2 : pWs Z p j = true) (h9 : ¬ p % 9 = 8) (hp : p < 18) (e : pBit Z k p = pBit Z j p) : pWs Z (p + 1) j = true := by
  have hk := pw_le 1 p h1
  rw [pWs] at h1 ⊢
  split
  · rename_i hl
    rw [if_pos hl] at h1
    dsimp only at h1 ⊢
    have ek : wHi Z p (pWs Z p) j = wHi Z p (pWs Z p) k := by
      unfold wHi
      rw [wIs_y hk h9 hp, wIs_y h2 h9 hp, e]
    rw [ek, h2]
    rw [hk] at h1
    exact h1
  · exact h2
theorem bit_n : ∀ x, x < 256 → ∀ i, i < 8 → nI x >>> ((nI 7 - nI i) &&& 31) &&& 1 = nI (x / 2 ^ (7 - i) % 2) := by decide +kernel
theorem pre_s (x : Nat) : ∀ i, i < 8 → x / 2 ^ (8 - (i + 1)) = 2 * (x / 2 ^ (8 - i)) + x / 2 ^ (7 - i) % 2 := by
  intro i hi
  have e1 : 8 - (i + 1) = 7 - i := by omega
  have e2 : 8 - i = (7 - i) + 1 := by omega
  rw [e1, e2, Nat.pow_succ, ← Nat.div_div_eq_div_mul]
  omega
/-- eight bits of a race: who is behind at their end has the least number -/
theorem race {Z : MI} {s k j x y : Nat} (hs : s = 0 ∨ s = 9) (hj : j < 4) (hk : pWs Z 27 k = true) (h2 : pWs Z s j = true) (hy : y < 256) (hx : x < 256) (ey : pVal Z k (s / 9) = nI y) (ex : pVal Z j (s / 9) = nI x) : y ≤ x ∧ (y = x → pWs Z (s + 8) j = true) := by
  have hpk : ∀ p, p ≤ 27 → pWs Z p k = true := fun p hp => pw_le (27 - p) p (by rw [show p + (27 - p) = 27 by omega]; exact hk)
  have hb : ∀ {k y}, y < 256 → pVal Z k (s / 9) = nI y → ∀ i, i < 8 → pBit Z k (s + i) = nI (y / 2 ^ (7 - i) % 2) := fun {k y} hy ey i hi => by
    unfold pBit
    have e1 : (s + i) / 9 = s / 9 := by rcases hs with rfl | rfl <;> omega
    have e2 : (s + i) % 9 = i := by rcases hs with rfl | rfl <;> omega
    rw [e1, e2, ey]
    exact bit_n y hy i hi
  have key : ∀ i, i ≤ 8 → y / 2 ^ (8 - i) ≤ x / 2 ^ (8 - i) ∧ (y / 2 ^ (8 - i) = x / 2 ^ (8 - i) → pWs Z (s + i) j = true) := by
    intro i
    induction i with
    | zero =>
      intro _
      have e1 : y / 2 ^ (8 - 0) = 0 := Nat.div_eq_of_lt (by simpa using hy)
      have e2 : x / 2 ^ (8 - 0) = 0 := Nat.div_eq_of_lt (by simpa using hx)
      rw [e1, e2]
      exact ⟨Nat.le_refl _, fun _ => h2⟩
    | succ i ih =>
      intro hi
      obtain ⟨ih1, ih2⟩ := ih (by omega)
      have py := pre_s y i (by omega)
      have px := pre_s x i (by omega)
      have by2 : y / 2 ^ (7 - i) % 2 < 2 := Nat.mod_lt _ (by omega)
      have bx2 : x / 2 ^ (7 - i) % 2 < 2 := Nat.mod_lt _ (by omega)
      have hbk := hb hy ey i (by omega)
      have hbj := hb hx ex i (by omega)
      have h9 : ¬ (s + i) % 9 = 8 := by rcases hs with rfl | rfl <;> omega
      have h18 : s + i < 18 := by rcases hs with rfl | rfl <;> omega
      by_cases q : y / 2 ^ (8 - i) = x / 2 ^ (8 - i)
      · have hji := ih2 q
        have hk1 := hpk (s + i + 1) (by omega)
        have hle : y / 2 ^ (7 - i) % 2 ≤ x / 2 ^ (7 - i) % 2 := by
          by_cases z : x / 2 ^ (7 - i) % 2 = 0
          · have := pw_lo hj hk1 hji h9 h18 (by rw [hbj, z]; rfl)
            rw [hbk] at this
            have := nI_inj (b := 0) (by omega) (by omega) this
            omega
          · omega
        refine ⟨by omega, fun e => ?_⟩
        have eb : y / 2 ^ (7 - i) % 2 = x / 2 ^ (7 - i) % 2 := by omega
        exact pw_eq (p := s + i) hk1 hji h9 h18 (hbk.trans ((congrArg nI eb).trans hbj.symm))
      · refine ⟨by omega, fun e => by omega⟩
  have h8 := key 8 (Nat.le_refl _)
  rw [show 8 - 8 = 0 by omega, show (2 : Nat) ^ 0 = 1 from rfl, Nat.div_one, Nat.div_one] at h8
  exact h8
theorem pw_any {Z : MI} (h : any4 (hasM Z) = true) : ∀ p, any4 (pWs Z p) = true := by
  intro p
  induction p with
  | zero => exact h
  | succ p ih =>
    cases q : any4 (wLo Z p (pWs Z p)) with
    | true =>
      obtain ⟨j, hj, e⟩ := any4_ex q
      refine any4_of hj ?_
      rw [pWs, if_pos q]
      unfold wLo at e
      rw [Bool.and_eq_true] at e
      have e0 : pBit Z j p = 0 := of_decide_eq_true e.2
      have e1 : pWs Z p j = true := by
        have := e.1
        unfold wIs at this
        rw [Bool.and_eq_true] at this
        exact this.1
      unfold wHi
      rw [e1, e0]
      cases wIs Z p (pWs Z p) j <;> decide
    | false =>
      rw [pWs, q, if_neg (by decide)]
      exact ih
theorem hasM_n {Z : MI} {k m : Nat} (hm : m ≤ 5) (em : Z k 0 = nI m) : hasM Z k = decide (0 < m) := by
  unfold hasM
  rw [em]
  by_cases q : 0 < m
  · have hz : ¬ nI m ≤ 0 := fun z => by have := (nI_le0 (by omega)).mp z; omega
    rw [decide_eq_true q, decide_eq_true hz]
  · have hz : ¬ ¬ nI m ≤ 0 := fun z => z ((nI_le0 (by omega)).mpr (by omega))
    rw [decide_eq_false q, decide_eq_false hz]
theorem sub_le0 {a b : Nat} (h : a ≤ b) (hb : b < 2 ^ 30) : ¬ 0 < nI a - nI b := fun q => by
  have h1 : (nI a - nI b).toInt = (a : Int) - (b : Nat) := pk_sub_toInt (by omega) (by omega)
  have := Int32.lt_iff_toInt_lt.mp q
  rw [h1] at this
  have h00 : (0 : Int32).toInt = 0 := rfl
  omega
theorem sub_0 {a b : Nat} (ha : a < 2 ^ 30) (hb : b < 2 ^ 30) (h : nI a - nI b = 0) : a = b := by
  have h1 : (nI a - nI b).toInt = (a : Int) - (b : Nat) := pk_sub_toInt (by omega) (by omega)
  rw [h] at h1
  have h00 : (0 : Int32).toInt = 0 := rfl
  omega
/-- a winner's first message is the least -/
theorem win_le {c : Nat} {Z : MI} (hGI : GI c Z) {k j : Nat} (hk : k < 4) (hj : j < 4) (hw : pWs Z 27 k = true) {a w a' w' : Nat} (ha : a < 128) (hw2 : w < 256) (ha' : a' < 128) (hw' : w' < 256) (e7 : Z k 7 = nI a) (e8 : Z k 8 = nI w) (f7 : Z j 7 = nI a') (f8 : Z j 8 = nI w') (hm : hasM Z j = true) : a ≤ a' ∧ (a = a' → w ≤ w') := by
  have h1 := race (s := 0) (y := 2 * a) (x := 2 * a') (Or.inl rfl) hj hw hm (by omega) (by omega) (by show (if 0 / 9 = 0 then 2 * Z k 7 else _) = _; rw [if_pos rfl, e7, show (2 : Int32) = nI 2 from rfl, pk_mul]) (by show (if 0 / 9 = 0 then 2 * Z j 7 else _) = _; rw [if_pos rfl, f7, show (2 : Int32) = nI 2 from rfl, pk_mul])
  refine ⟨by omega, fun e => ?_⟩
  have h8 := h1.2 (by omega)
  have h9 : pWs Z 9 j = true := by rw [show (9 : Nat) = 8 + 1 from rfl, pw_place (by decide)]; exact h8
  exact (race (s := 9) (Or.inr rfl) hj hw h9 hw2 hw' e8 f8).1
theorem eq_10 {p q : Prop} {hp : Decidable p} {hq : Decidable q} (h : p ↔ q) : (@ite Int32 p hp (nI 1) (nI 0)) = @ite Int32 q hq (nI 1) (nI 0) := by
  by_cases z : p
  · rw [if_pos z, if_pos (h.mp z)]
  · rw [if_neg z, if_neg (fun y => z (h.mpr y))]
theorem bi_1 {b : Bool} : (if bi b = nI 1 then nI 1 else nI 0) = bi b := by cases b <;> decide
section CL
variable {σ : Nat → Nat} {J : MI} {R : MR} {Z : MI} {H : Nat → MI} {h : Nat} {K : MI} {e : Bool} {n : Nat} {t : Nat → Int32} {a b : Int32} {c : Nat}
theorem lp_win2 (hC : Cl σ J R Z H h K e n t a b) (hGI : GI c Z) {k m : Nat} (hk : k < 4) (hm : m ≤ 5) (em : Z k 0 = nI m) (hr : 0 < m → (∃ x, x < 128 ∧ Z k 7 = nI x) ∧ ∃ x, x < 256 ∧ Z k 8 = nI x) {g : GX} {cx : CX} {F : State → Prop} : ∀ (i j : Nat) (u6 u7 u8 : Option Value), j + i = 4 → (∀ u5 u6 u7 u8, X g cx mL_areWinnersSo F (0, 0) 209 [some (.ref 0), some (.int (mk (pWs Z 27) 4)), some (.int (nI 1)), some (.int (nI (k))), some (.int (bi (pWs Z 27 k))), u5, u6, u7, u8] [] 131 J R) → X g cx mL_areWinnersSo F (0, 0) 87 [some (.ref 0), some (.int (mk (pWs Z 27) 4)), some (.int (nI 1)), some (.int (nI (k))), some (.int (bi (pWs Z 27 k))), some (.int (nI j)), u6, u7, u8] [] 131 J R := by
  intro i
  induction i with
  | zero =>
    intro j u6 u7 u8 hj hx
    obtain rfl : j = 4 := by omega
    refine x_iload dL_areWinnersSo_87 rfl ?_
    refine x_iconst (nI 4) dL_areWinnersSo_89 (by decide) ?_
    refine x_icmp_geN 209 dL_areWinnersSo_90 (by decide) (by omega) (by omega) (fun c90 => ?_) (fun c90 => ?_)
    · skip
      exact hx _ _ _ _
    · skip
      exact absurd c90 (by omega)
  | succ i ih =>
    intro j u6 u7 u8 hji hx
    have hj : j < 4 := by omega
    obtain ⟨m', -, -, hm', em', -, -, -, -, -, -, -, hr'⟩ := GI_row hGI hj
    have t197 : ∀ u6 u7 u8, X g cx mL_areWinnersSo F (0, 0) 197 [some (.ref 0), some (.int (mk (pWs Z 27) 4)), some (.int (nI 1)), some (.int (nI (k))), some (.int (bi (pWs Z 27 k))), some (.int (nI j)), u6, u7, u8] [] 131 J R := fun u6 u7 u8 => by
      refine x_iconst (nI 1) dL_areWinnersSo_197 (by decide) ?_
      refine x_goto 202 dL_areWinnersSo_198 (by decide) ?_
      refine x_istore_n dL_areWinnersSo_202 rfl (by decide) ?_
      refine x_iincN 1 dL_areWinnersSo_203 rfl (by decide) (by decide) ?_
      refine x_goto 87 dL_areWinnersSo_206 (by decide) ?_
      exact ih (j + 1) _ _ _ (by omega) hx
    have t178 : ∀ (u6 : Option Value) (le wo : Int32), (pWs Z 27 k = true → ¬ 0 < le ∧ ¬ 0 < wo) → X g cx mL_areWinnersSo F (0, 0) 178 [some (.ref 0), some (.int (mk (pWs Z 27) 4)), some (.int (nI 1)), some (.int (nI (k))), some (.int (bi (pWs Z 27 k))), some (.int (nI j)), u6, some (.int le), some (.int wo)] [] 131 J R := fun u6 le wo hlw => by
      refine x_iload_n dL_areWinnersSo_178 rfl rfl ?_
      refine x_if_eqF dL_areWinnersSo_179 (by decide) ?_
      refine x_iload dL_areWinnersSo_182 rfl ?_
      cases hw : pWs Z 27 k with
      | false => rw [hw] at t197; exact x_if_eqT 197 dL_areWinnersSo_184 (by decide) rfl (t197 _ _ _)
      | true =>
        obtain ⟨q1, q2⟩ := hlw hw
        rw [hw] at t197
        refine x_if_eqF dL_areWinnersSo_184 (by decide) ?_
        refine x_iload dL_areWinnersSo_187 rfl ?_
        refine x_if_gtF dL_areWinnersSo_189 q1 ?_
        refine x_iload dL_areWinnersSo_192 rfl ?_
        exact x_if_gtF dL_areWinnersSo_194 q2 (t197 _ _ _)
    have no : X g cx mL_areWinnersSo F (0, 0) 116 [some (.ref 0), some (.int (mk (pWs Z 27) 4)), some (.int (nI 1)), some (.int (nI (k))), some (.int (bi (pWs Z 27 k))), some (.int (nI j)), u6, u7, u8] [] 131 J R := by
      refine x_iconst (nI 0) dL_areWinnersSo_116 (by decide) ?_
      refine x_istore dL_areWinnersSo_117 (by decide) ?_
      refine x_iload dL_areWinnersSo_119 rfl ?_
      refine x_if_eqT 143 dL_areWinnersSo_121 (by decide) (rfl) ?_
      refine x_iconst (nI 0) dL_areWinnersSo_143 (by decide) ?_
      refine x_istore dL_areWinnersSo_144 (by decide) ?_
      refine x_iload dL_areWinnersSo_146 rfl ?_
      refine x_if_eqT 175 dL_areWinnersSo_148 (by decide) (rfl) ?_
      refine x_iconst (nI 0) dL_areWinnersSo_175 (by decide) ?_
      refine x_istore dL_areWinnersSo_176 (by decide) ?_
      exact t178 _ _ _ (fun _ => ⟨by decide, by decide⟩)
    refine x_iload dL_areWinnersSo_87 rfl ?_
    refine x_iconst (nI 4) dL_areWinnersSo_89 (by decide) ?_
    refine x_icmp_geN 209 dL_areWinnersSo_90 (by decide) (by omega) (by omega) (fun c90 => ?_) (fun c90 => ?_)
    · skip
      exact absurd c90 (by omega)
    · skip
      refine x_aload_n dL_areWinnersSo_93 rfl rfl ?_
      refine x_iload_n dL_areWinnersSo_94 rfl rfl ?_
      refine x_iconst (nI 0) dL_areWinnersSo_95 (by decide) ?_
      refine x_callVd0 (mt' := mX5_speaker) (sp_spk hC (by omega) (by omega)) kvX5_speaker wl_L_14 (by decide) dL_areWinnersSo_96 xk_0 (by decide) rfl rfl (Nat.le_of_ble_eq_true rfl) ⟨rfl, rfl⟩ (by decide) ?_
      refine x_eqtop em ?_
      skip
      by_cases q1 : 0 < m
      · refine x_if_leF dL_areWinnersSo_99 (fun z => by have := (nI_le0 (by omega)).mp z; omega) ?_
        refine x_aload_n dL_areWinnersSo_102 rfl rfl ?_
        refine x_iload dL_areWinnersSo_103 rfl ?_
        refine x_iconst (nI 0) dL_areWinnersSo_105 (by decide) ?_
        refine x_callVd0 (mt' := mX5_speaker) (sp_spk hC (by omega) (by omega)) kvX5_speaker wl_L_14 (by decide) dL_areWinnersSo_106 xk_0 (by decide) rfl rfl (Nat.le_of_ble_eq_true rfl) ⟨rfl, rfl⟩ (by decide) ?_
        refine x_eqtop em' ?_
        skip
        by_cases q2 : 0 < m'
        · refine x_if_leF dL_areWinnersSo_109 (fun z => by have := (nI_le0 (by omega)).mp z; omega) ?_
          obtain ⟨⟨ax, hax, e7⟩, wx, hwx, e8⟩ := hr q1
          obtain ⟨⟨ay, hay, f7⟩, ⟨wy, hwy, f8⟩, -⟩ := hr' 0 q2
          have hle : pWs Z 27 k = true → ax ≤ ay ∧ (ax = ay → wx ≤ wy) := fun hw => win_le hGI hk hj hw hax hwx hay hwy e7 e8 f7 f8 (by rw [hasM_n hm' em']; exact decide_eq_true q2)
          refine x_iconst (nI 1) dL_areWinnersSo_112 (by decide) ?_
          refine x_goto 117 dL_areWinnersSo_113 (by decide) ?_
          refine x_istore dL_areWinnersSo_117 (by decide) ?_
          refine x_iload dL_areWinnersSo_119 rfl ?_
          refine x_if_eqF dL_areWinnersSo_121 (by decide) ?_ 143 (by decide)
          refine x_aload_n dL_areWinnersSo_124 rfl rfl ?_
          refine x_iload_n dL_areWinnersSo_125 rfl rfl ?_
          refine x_iconst (nI 0) dL_areWinnersSo_126 (by decide) ?_
          refine x_iconst (nI 0) dL_areWinnersSo_127 (by decide) ?_
          refine x_callVd0 (mt' := mX5_message) (sp_msg hC hk hm em q1 (msw_0.trans e7)) kvX5_message wl_L_45 (by decide) dL_areWinnersSo_128 xk_0 (by decide) rfl rfl (Nat.le_of_ble_eq_true rfl) ⟨rfl, rfl⟩ (by decide) ?_
          refine x_aload_n dL_areWinnersSo_131 rfl rfl ?_
          refine x_iload dL_areWinnersSo_132 rfl ?_
          refine x_iconst (nI 0) dL_areWinnersSo_134 (by decide) ?_
          refine x_iconst (nI 0) dL_areWinnersSo_135 (by decide) ?_
          refine x_callVd0 (mt' := mX5_message) (sp_msg hC hj hm' em' q2 (msw_0.trans f7)) kvX5_message wl_L_45 (by decide) dL_areWinnersSo_136 xk_0 (by decide) rfl rfl (Nat.le_of_ble_eq_true rfl) ⟨rfl, rfl⟩ (by decide) ?_
          refine x_isub dL_areWinnersSo_139 ?_
          refine x_goto 144 dL_areWinnersSo_140 (by decide) ?_
          refine x_istore dL_areWinnersSo_144 (by decide) ?_
          refine x_iload dL_areWinnersSo_146 rfl ?_
          refine x_if_eqF dL_areWinnersSo_148 (by decide) ?_ 175 (by decide)
          skip
          refine x_iload dL_areWinnersSo_151 rfl ?_
          refine x_if_ne 175 dL_areWinnersSo_153 (by decide) (fun _ => ?_) (fun z0 => ?_)
          · skip
            refine x_iconst (nI 0) dL_areWinnersSo_175 (by decide) ?_
            refine x_istore dL_areWinnersSo_176 (by decide) ?_
            exact t178 _ _ _ (fun hw => ⟨sub_le0 (hle hw).1 (by omega), by decide⟩)
          · have ea : ax = ay := sub_0 (by omega) (by omega) z0
            refine x_aload_n dL_areWinnersSo_156 rfl rfl ?_
            refine x_iload_n dL_areWinnersSo_157 rfl rfl ?_
            refine x_iconst (nI 0) dL_areWinnersSo_158 (by decide) ?_
            refine x_iconst (nI 1) dL_areWinnersSo_159 (by decide) ?_
            refine x_callVd0 (mt' := mX5_message) (sp_msg hC hk hm em q1 (msw_1.trans e8)) kvX5_message wl_L_45 (by decide) dL_areWinnersSo_160 xk_0 (by decide) rfl rfl (Nat.le_of_ble_eq_true rfl) ⟨rfl, rfl⟩ (by decide) ?_
            refine x_aload_n dL_areWinnersSo_163 rfl rfl ?_
            refine x_iload dL_areWinnersSo_164 rfl ?_
            refine x_iconst (nI 0) dL_areWinnersSo_166 (by decide) ?_
            refine x_iconst (nI 1) dL_areWinnersSo_167 (by decide) ?_
            refine x_callVd0 (mt' := mX5_message) (sp_msg hC hj hm' em' q2 (msw_1.trans f8)) kvX5_message wl_L_45 (by decide) dL_areWinnersSo_168 xk_0 (by decide) rfl rfl (Nat.le_of_ble_eq_true rfl) ⟨rfl, rfl⟩ (by decide) ?_
            refine x_isub dL_areWinnersSo_171 ?_
            refine x_goto 176 dL_areWinnersSo_172 (by decide) ?_
            refine x_istore dL_areWinnersSo_176 (by decide) ?_
            exact t178 _ _ _ (fun hw => ⟨sub_le0 (hle hw).1 (by omega), sub_le0 ((hle hw).2 ea) (by omega)⟩)
        · exact x_if_leT 116 dL_areWinnersSo_109 (by decide) ((nI_le0 (by omega)).mpr (by omega)) no
      · exact x_if_leT 116 dL_areWinnersSo_99 (by decide) ((nI_le0 (by omega)).mpr (by omega)) no
theorem lp_win1 (hC : Cl σ J R Z H h K e n t a b) (hGI : GI c Z) {g : GX} {cx : CX} {F : State → Prop} : ∀ (i k : Nat) (u4 u5 u6 u7 u8 : Option Value), k + i = 4 → (∀ u4 u5 u6 u7 u8, X g cx mL_areWinnersSo F (0, 0) 215 [some (.ref 0), some (.int (mk (pWs Z 27) 4)), some (.int (nI 1)), some (.int (nI (4))), u4, u5, u6, u7, u8] [] 131 J R) → X g cx mL_areWinnersSo F (0, 0) 39 [some (.ref 0), some (.int (mk (pWs Z 27) 4)), some (.int (nI 1)), some (.int (nI (k))), u4, u5, u6, u7, u8] [] 131 J R := by
  intro i
  induction i with
  | zero =>
    intro k u4 u5 u6 u7 u8 hk hx
    obtain rfl : k = 4 := by omega
    refine x_iload_n dL_areWinnersSo_39 rfl rfl ?_
    refine x_iconst (nI 4) dL_areWinnersSo_40 (by decide) ?_
    refine x_icmp_geN 215 dL_areWinnersSo_41 (by decide) (by omega) (by omega) (fun c41 => ?_) (fun c41 => ?_)
    · skip
      exact hx _ _ _ _ _
    · skip
      exact absurd c41 (by omega)
  | succ i ih =>
    intro k u4 u5 u6 u7 u8 hki hx
    have hk : k < 4 := by omega
    obtain ⟨m, -, -, hm, em, -, -, -, -, -, -, -, hr⟩ := GI_row hGI hk
    have hr0 : 0 < m → (∃ x, x < 128 ∧ Z k 7 = nI x) ∧ ∃ x, x < 256 ∧ Z k 8 = nI x := fun q => ⟨(hr 0 q).1, (hr 0 q).2.1⟩
    have t78 : X g cx mL_areWinnersSo F (0, 0) 78 [some (.ref 0), some (.int (mk (pWs Z 27) 4)), some (.int (nI 1)), some (.int (nI (k))), some (.int (bi (pWs Z 27 k))), u5, u6, u7, u8] [] 131 J R := by
      refine x_iconst (nI 1) dL_areWinnersSo_78 (by decide) ?_
      refine x_goto 83 dL_areWinnersSo_79 (by decide) ?_
      refine x_istore_n dL_areWinnersSo_83 rfl (by decide) ?_
      refine x_iconst (nI 0) dL_areWinnersSo_84 (by decide) ?_
      refine x_istore dL_areWinnersSo_85 (by decide) ?_
      refine lp_win2 hC hGI hk hm em hr0 4 0 _ _ _ rfl (fun u5 u6 u7 u8 => ?_)
      refine x_iincN 1 dL_areWinnersSo_209 rfl (by decide) (by decide) ?_
      refine x_goto 39 dL_areWinnersSo_212 (by decide) ?_
      exact ih (k + 1) _ _ _ _ _ (by omega) hx
    refine x_iload_n dL_areWinnersSo_39 rfl rfl ?_
    refine x_iconst (nI 4) dL_areWinnersSo_40 (by decide) ?_
    refine x_icmp_geN 215 dL_areWinnersSo_41 (by decide) (by omega) (by omega) (fun c41 => ?_) (fun c41 => ?_)
    · skip
      exact absurd c41 (by omega)
    · skip
      refine x_iload_n dL_areWinnersSo_44 rfl rfl ?_
      refine x_iload_n dL_areWinnersSo_45 rfl rfl ?_
      refine x_ishr dL_areWinnersSo_46 ?_
      refine x_iconst (nI 1) dL_areWinnersSo_47 (by decide) ?_
      refine x_iand dL_areWinnersSo_48 ?_
      refine x_eqtop (mk_bit (pWs Z 27) hk) ?_
      refine x_iconst (nI 1) dL_areWinnersSo_49 (by decide) ?_
      refine' x_dia_icmp_ne 57 58 dL_areWinnersSo_50 (by decide) ?_ ?_ ?_; rotate_left 2
      · intro c50 k50
        refine x_iconst (nI 1) dL_areWinnersSo_53 (by decide) ?_
        refine x_goto 58 dL_areWinnersSo_54 (by decide) ?_
        exact k50
      · intro c50 k50
        refine x_iconst (nI 0) dL_areWinnersSo_57 (by decide) ?_
        exact k50
      refine x_eqtop bi_1 ?_
      refine x_istore dL_areWinnersSo_58 (by decide) ?_
      skip
      refine x_iload_n dL_areWinnersSo_60 rfl rfl ?_
      refine x_if_eqF dL_areWinnersSo_61 (by decide) ?_
      refine x_iload dL_areWinnersSo_64 rfl ?_
      cases hw : pWs Z 27 k with
      | false => rw [hw] at t78; exact x_if_eqT 78 dL_areWinnersSo_66 (by decide) rfl t78
      | true =>
        have h1 := pWs_has 27 hw
        rw [hasM_n hm em] at h1
        have hm0 := of_decide_eq_true h1
        rw [hw] at t78
        refine x_if_eqF dL_areWinnersSo_66 (by decide) ?_
        refine x_aload_n dL_areWinnersSo_69 rfl rfl ?_
        refine x_iload_n dL_areWinnersSo_70 rfl rfl ?_
        refine x_iconst (nI 0) dL_areWinnersSo_71 (by decide) ?_
        refine x_callVd0 (mt' := mX5_speaker) (sp_spk hC (by omega) (by omega)) kvX5_speaker wl_L_14 (by decide) dL_areWinnersSo_72 xk_0 (by decide) rfl rfl (Nat.le_of_ble_eq_true rfl) ⟨rfl, rfl⟩ (by decide) ?_
        refine x_eqtop em ?_
        refine x_if_leF dL_areWinnersSo_75 (fun z => by have := (nI_le0 (by omega)).mp z; omega) ?_ 82 (by decide)
        exact t78
theorem sp_areWinnersSo (hC : Cl σ J R Z H h K e n t a b) (hGI : GI c Z) : Spd mL_areWinnersSo [.ref 0] J R (some (.int 1)) J := by
  refine Spd.mk (by decide +kernel) (by simp [Value.category]) (Nat.le_of_ble_eq_true rfl) (fun g cx => ?_)
  have hz : mk (pWs Z 27) 4 = 0 ↔ pMs Z = 0 := by
    have h1 : mk (hasM Z) 4 = 0 ↔ pMs Z ≤ 0 := hm_sm hC.sj
    rw [← pMs_le hC.sj.nb, ← h1, mk_zero, mk_zero]
    constructor
    · intro q
      cases z : any4 (hasM Z) with
      | false => rfl
      | true => rw [pw_any z 27] at q; cases q
    · intro q
      cases z : any4 (pWs Z 27) with
      | false => rfl
      | true =>
        obtain ⟨j, hj, ej⟩ := any4_ex z
        rw [any4_of hj (pWs_has 27 ej)] at q
        cases q
  refine x_aload_n dL_areWinnersSo_0 rfl rfl ?_
  refine x_callVd0 (mt' := mX5_winners) (sp_winners hC) kvX5_winners wl_L_65 (by decide) dL_areWinnersSo_1 xk_0 (by decide) rfl rfl (Nat.le_of_ble_eq_true rfl) ⟨rfl, rfl⟩ (by decide) ?_
  refine x_istore_n dL_areWinnersSo_4 rfl (by decide) ?_
  refine x_iload_n dL_areWinnersSo_5 rfl rfl ?_
  refine' x_dia_if_ne 13 14 dL_areWinnersSo_6 (by decide) ?_ ?_ ?_; rotate_left 2
  · intro c6 k6
    refine x_iconst (nI 1) dL_areWinnersSo_9 (by decide) ?_
    refine x_goto 14 dL_areWinnersSo_10 (by decide) ?_
    exact k6
  · intro c6 k6
    refine x_iconst (nI 0) dL_areWinnersSo_13 (by decide) ?_
    exact k6
  refine x_aload_n dL_areWinnersSo_14 rfl rfl ?_
  refine x_bipush (nI 7) dL_areWinnersSo_15 (by decide) ?_
  refine x_callVd0 (mt' := mX5_count) (sp_cnt hC cnt_7) kvX5_count wl_L_49 (by decide) dL_areWinnersSo_17 xk_0 (by decide) rfl rfl (Nat.le_of_ble_eq_true rfl) ⟨rfl, rfl⟩ (by decide) ?_
  refine' x_dia_if_ne 27 28 dL_areWinnersSo_20 (by decide) ?_ ?_ ?_; rotate_left 2
  · intro c20 k20
    refine x_iconst (nI 1) dL_areWinnersSo_23 (by decide) ?_
    refine x_goto 28 dL_areWinnersSo_24 (by decide) ?_
    exact k20
  · intro c20 k20
    refine x_iconst (nI 0) dL_areWinnersSo_27 (by decide) ?_
    exact k20
  refine x_icmp_neF dL_areWinnersSo_28 (eq_10 hz) ?_ 35 (by decide)
  refine x_iconst (nI 1) dL_areWinnersSo_31 (by decide) ?_
  refine x_goto 36 dL_areWinnersSo_32 (by decide) ?_
  refine x_istore_n dL_areWinnersSo_36 rfl (by decide) ?_
  refine x_iconst (nI 0) dL_areWinnersSo_37 (by decide) ?_
  refine x_istore_n dL_areWinnersSo_38 rfl (by decide) ?_
  skip
  refine lp_win1 hC hGI 4 0 _ _ _ _ _ rfl (fun u4 u5 u6 u7 u8 => ?_)
  refine x_iload_n dL_areWinnersSo_215 rfl rfl ?_
  refine x_zret dL_areWinnersSo_216 rfl rfl (by decide) (by decide) ?_
  exact ⟨rfl, rfl, rfl, rfl⟩
end CL
