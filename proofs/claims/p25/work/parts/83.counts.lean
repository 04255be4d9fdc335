/-! the law's first check: numbers add up -/
theorem cnt_0 {Z : MI} {x y : Int32} : pCnt Z x y (nI 0) = Z 8 3 := by unfold pCnt; rw [if_pos rfl]
theorem cnt_1 {Z : MI} {x y : Int32} : pCnt Z x y (nI 1) = nI (cn (tk Z) 4) := by unfold pCnt; rw [if_neg (by decide), if_pos rfl]
theorem cnt_2 {Z : MI} {x y : Int32} : pCnt Z x y (nI 2) = nI (pNx Z (ps Z)) := by unfold pCnt; rw [if_neg (by decide), if_neg (by decide), if_pos rfl]
theorem cnt_3 {Z : MI} {x y : Int32} : pCnt Z x y (nI 3) = Z 8 4 := by unfold pCnt; rw [if_neg (by decide), if_neg (by decide), if_neg (by decide), if_pos rfl]
theorem cnt_4 {Z : MI} {x y : Int32} : pCnt Z x y (nI 4) = Z 8 5 := by unfold pCnt; rw [if_neg (by decide), if_neg (by decide), if_neg (by decide), if_neg (by decide), if_pos rfl]
theorem cnt_5 {Z : MI} {x y : Int32} : pCnt Z x y (nI 5) = Z 8 6 := by unfold pCnt; rw [if_neg (by decide), if_neg (by decide), if_neg (by decide), if_neg (by decide), if_neg (by decide), if_pos rfl]
theorem cnt_6 {Z : MI} {x y : Int32} : pCnt Z x y (nI 6) = Z 8 7 := by unfold pCnt; rw [if_neg (by decide), if_neg (by decide), if_neg (by decide), if_neg (by decide), if_neg (by decide), if_neg (by decide), if_pos rfl]
theorem cnt_7 {Z : MI} {x y : Int32} : pCnt Z x y (nI 7) = pMs Z := by unfold pCnt; rw [if_neg (by decide), if_neg (by decide), if_neg (by decide), if_neg (by decide), if_neg (by decide), if_neg (by decide), if_neg (by decide), if_pos rfl]
theorem cnt_8 {Z : MI} {x y : Int32} : pCnt Z x y (nI 8) = pCame Z := by unfold pCnt; rw [if_neg (by decide), if_neg (by decide), if_neg (by decide), if_neg (by decide), if_neg (by decide), if_neg (by decide), if_neg (by decide), if_neg (by decide), if_pos rfl]
theorem msw_0 {Z : MI} {k j : Nat} : pMsW Z k j (nI 0) = Z k (7 + 3 * j + 0) := by unfold pMsW; rw [if_pos rfl]
theorem msw_1 {Z : MI} {k j : Nat} : pMsW Z k j (nI 1) = Z k (7 + 3 * j + 1) := by unfold pMsW; rw [if_neg (by decide), if_pos rfl]
theorem msw_2 {Z : MI} {k j : Nat} : pMsW Z k j (nI 2) = Z k (7 + 3 * j + 2) := by unfold pMsW; rw [if_neg (by decide), if_neg (by decide), if_pos rfl]
theorem msw_3 {Z : MI} {k j : Nat} : pMsW Z k j (nI 3) = nI (pBits (Z k (7 + 3 * j + 2))) := by unfold pMsW; rw [if_neg (by decide), if_neg (by decide), if_neg (by decide), if_pos rfl]
theorem msw_4 {Z : MI} {k j : Nat} : pMsW Z k j (nI 4) = pTi Z k j := by unfold pMsW; rw [if_neg (by decide), if_neg (by decide), if_neg (by decide), if_neg (by decide), if_pos rfl]
theorem tk_step {Z : MI} {k : Nat} {n : Nat} (e : Z k 1 = bi (tk Z k)) : nI n + Z k 1 = nI (n + if tk Z k = true then 1 else 0) := by
  rw [e]
  cases tk Z k with
  | true => rw [if_pos rfl, show bi true = nI 1 from rfl, nI_add]
  | false => rw [if_neg (by decide), show bi false = nI 0 from rfl, nI_add]
theorem bits_eq {v : Int32} (hv : v = -5 ∨ ∃ x, x < 256 ∧ v = nI x) : (if 0 ≤ v then nI 27 else nI 18) = nI (pBits v) := by
  unfold pBits
  rcases hv with e | ⟨x, hx, e⟩
  · rw [e, if_pos rfl]; rfl
  · have h0 : 0 ≤ nI x := (nI_leI (a := 0) (by omega) (by omega)).mpr (by omega)
    rw [e, if_pos h0, if_neg (nI_ne5 (by omega))]
/-- what a message takes -/
theorem pTi_n {Z : MI} {k j : Nat} (hl : ∀ l, l < 4 → ∃ x, x ≤ 9 ∧ Z (4 + l) 1 = nI x) : ∃ t, pTi Z k j = nI t ∧ pBits (Z k (7 + 3 * j + 2)) ≤ t ∧ t ≤ pBits (Z k (7 + 3 * j + 2)) + 9 * (pBits (Z k (7 + 3 * j + 2)) / 9) ∧ t < 2000 := by
  unfold pTi
  have hb := pB_or (Z k (7 + 3 * j + 2))
  obtain ⟨B, hB⟩ : ∃ B, pBits (Z k (7 + 3 * j + 2)) = B := ⟨_, rfl⟩
  rw [hB] at hb ⊢
  cases e : pLi Z (Z k (7 + 3 * j + 0)) with
  | none => exact ⟨B, by show nI B + nI 0 = nI B; rw [nI_add, Nat.add_zero], by omega, by omega, by omega⟩
  | some l =>
    obtain ⟨x, hx, ex⟩ := hl l (pLi_spec e).1
    refine ⟨B + B / 9 * x, ?_, ?_, ?_, ?_⟩
    · dsimp only
      rw [ex, pk_mul, nI_add]
    · exact Nat.le_add_right _ _
    · have : B / 9 * x ≤ B / 9 * 9 := Nat.mul_le_mul_left _ hx
      omega
    · have : B / 9 * x ≤ B / 9 * 9 := Nat.mul_le_mul_left _ hx
      omega
theorem isA_eq {p : Nat} : (if p % 9 = 8 then nI 1 else nI 0) = bi (decide (p % 9 = 8)) := by
  by_cases h : p % 9 = 8
  · rw [if_pos h, decide_eq_true h]; rfl
  · rw [if_neg h, decide_eq_false h]; rfl
theorem eq_01 {p q : Prop} {hp : Decidable p} {hq : Decidable q} (h : p ↔ q) : (@ite Int32 p hp (nI 0) (nI 1)) = @ite Int32 q hq (nI 0) (nI 1) := by
  by_cases z : p
  · rw [if_pos z, if_pos (h.mp z)]
  · rw [if_neg z, if_neg (fun y => z (h.mpr y))]
section CL
variable {σ : Nat → Nat} {J : MI} {R : MR} {Z : MI} {H : Nat → MI} {h : Nat} {K : MI} {e : Bool} {n : Nat} {t : Nat → Int32} {a b : Int32} {c : Nat}
theorem lp_msgs (hC : Cl σ J R Z H h K e n t a b) (hGI : GI c Z) (hc9 : c ≤ 99999) {k m : Nat} (hk : k < 4) (hm : m ≤ 5) (em : Z k 0 = nI m) (hr : ∀ j, j < m → (∃ x, x < 128 ∧ Z k (7 + 3 * j) = nI x) ∧ (∃ x, x < 256 ∧ Z k (8 + 3 * j) = nI x) ∧ (Z k (9 + 3 * j) = -5 ∨ ∃ x, x < 256 ∧ Z k (9 + 3 * j) = nI x)) {g : GX} {cx : CX} {F : State → Prop} : ∀ (i j : Nat) (u9 : Option Value), j + i = m → (∀ u9, X g cx mL_areCountsSo F (0, 0) 289 [some (.ref 0), some (.int (nI (cn (tk Z) (k + 1)))), some (.int (sm (fun j => Z j 0) (k + 1))), some (.int (sm (fun j => Z j 2) (k + 1))), some (.int (nI (cn (stu Z) (k + 1)))), some (.int (nI 1)), some (.int (nI (k))), some (.int (nI m)), some (.int (nI m)), u9] [] 131 J R) → X g cx mL_areCountsSo F (0, 0) 192 [some (.ref 0), some (.int (nI (cn (tk Z) (k + 1)))), some (.int (sm (fun j => Z j 0) (k + 1))), some (.int (sm (fun j => Z j 2) (k + 1))), some (.int (nI (cn (stu Z) (k + 1)))), some (.int (nI 1)), some (.int (nI (k))), some (.int (nI m)), some (.int (nI j)), u9] [] 131 J R := by
  intro i
  induction i with
  | zero =>
    intro j u9 hj hx
    obtain rfl : j = m := by omega
    refine x_iload dL_areCountsSo_192 rfl ?_
    refine x_iload dL_areCountsSo_194 rfl ?_
    refine x_icmp_geN 289 dL_areCountsSo_196 (by decide) (by omega) (by omega) (fun c196 => ?_) (fun c196 => ?_)
    · skip
      exact hx _
    · skip
      exact absurd c196 (by omega)
  | succ i ih =>
    intro j u9 hji hx
    have hj : j < m := by omega
    obtain ⟨-, -, h9⟩ := hr j hj
    obtain ⟨tt, et, t1, t2, t3⟩ := pTi_n (Z := Z) (k := k) (j := j) (fun l hl => (GI_lsn hGI hc9 hl).2)
    have e92 : (9 + 3 * j) = 7 + 3 * j + 2 := by omega
    rw [e92] at h9
    obtain ⟨B, hB⟩ : ∃ B, pBits (Z k (7 + 3 * j + 2)) = B := ⟨_, rfl⟩
    have hb27 : B ≤ 27 := by rw [← hB]; exact pBits_le _
    rw [hB] at t1 t2
    refine x_iload dL_areCountsSo_192 rfl ?_
    refine x_iload dL_areCountsSo_194 rfl ?_
    refine x_icmp_geN 289 dL_areCountsSo_196 (by decide) (by omega) (by omega) (fun c196 => ?_) (fun c196 => ?_)
    · skip
      exact absurd c196 (by omega)
    · skip
      refine x_aload_n dL_areCountsSo_199 rfl rfl ?_
      refine x_iload dL_areCountsSo_200 rfl ?_
      refine x_iload dL_areCountsSo_202 rfl ?_
      refine x_iconst (nI 2) dL_areCountsSo_204 (by decide) ?_
      refine x_callVd0 (mt' := mX5_message) (sp_msg hC hk hm em hj msw_2) kvX5_message wl_L_45 (by decide) dL_areCountsSo_205 xk_0 (by decide) rfl rfl (Nat.le_of_ble_eq_true rfl) ⟨rfl, rfl⟩ (by decide) ?_
      refine' x_dia_if_ge 216 218 dL_areCountsSo_208 (by decide) ?_ ?_ ?_; rotate_left 2
      · intro c208 k208
        refine x_bipush (nI 18) dL_areCountsSo_211 (by decide) ?_
        refine x_goto 218 dL_areCountsSo_213 (by decide) ?_
        exact k208
      · intro c208 k208
        refine x_bipush (nI 27) dL_areCountsSo_216 (by decide) ?_
        exact k208
      refine x_eqtop ((bits_eq h9).trans (congrArg nI hB)) ?_
      refine x_istore dL_areCountsSo_218 (by decide) ?_
      refine x_iload dL_areCountsSo_220 rfl ?_
      refine x_if_eqF dL_areCountsSo_222 (by decide) ?_ 280 (by decide)
      refine x_aload_n dL_areCountsSo_225 rfl rfl ?_
      refine x_iload dL_areCountsSo_226 rfl ?_
      refine x_iload dL_areCountsSo_228 rfl ?_
      refine x_iconst (nI 3) dL_areCountsSo_230 (by decide) ?_
      refine x_callVd0 (mt' := mX5_message) (sp_msg hC hk hm em hj msw_3) kvX5_message wl_L_45 (by decide) dL_areCountsSo_231 xk_0 (by decide) rfl rfl (Nat.le_of_ble_eq_true rfl) ⟨rfl, rfl⟩ (by decide) ?_
      rw [hB]
      refine x_iload dL_areCountsSo_234 rfl ?_
      refine x_icmp_neF dL_areCountsSo_236 (rfl) ?_ 280 (by decide)
      refine x_aload_n dL_areCountsSo_239 rfl rfl ?_
      refine x_iload dL_areCountsSo_240 rfl ?_
      refine x_iload dL_areCountsSo_242 rfl ?_
      refine x_iconst (nI 4) dL_areCountsSo_244 (by decide) ?_
      refine x_callVd0 (mt' := mX5_message) (sp_msg hC hk hm em hj msw_4) kvX5_message wl_L_45 (by decide) dL_areCountsSo_245 xk_0 (by decide) rfl rfl (Nat.le_of_ble_eq_true rfl) ⟨rfl, rfl⟩ (by decide) ?_
      rw [et]
      refine x_iload dL_areCountsSo_248 rfl ?_
      refine x_icmp_ltF dL_areCountsSo_250 (fun q => absurd ((nI_ltI (by omega) (by omega)).mp q) (by omega)) ?_ 280 (by decide)
      refine x_aload_n dL_areCountsSo_253 rfl rfl ?_
      refine x_iload dL_areCountsSo_254 rfl ?_
      refine x_iload dL_areCountsSo_256 rfl ?_
      refine x_iconst (nI 4) dL_areCountsSo_258 (by decide) ?_
      refine x_callVd0 (mt' := mX5_message) (sp_msg hC hk hm em hj msw_4) kvX5_message wl_L_45 (by decide) dL_areCountsSo_259 xk_0 (by decide) rfl rfl (Nat.le_of_ble_eq_true rfl) ⟨rfl, rfl⟩ (by decide) ?_
      rw [et]
      refine x_iload dL_areCountsSo_262 rfl ?_
      refine x_bipush (nI 9) dL_areCountsSo_264 (by decide) ?_
      refine x_iload dL_areCountsSo_266 rfl ?_
      refine x_bipush (nI 9) dL_areCountsSo_268 (by decide) ?_
      refine x_idivN dL_areCountsSo_270 (by omega) (by omega) (by omega) ?_
      refine x_imulN dL_areCountsSo_271 ?_
      refine x_iaddN dL_areCountsSo_272 ?_
      refine x_icmp_gtF dL_areCountsSo_273 (fun q => absurd ((nI_ltI (by omega) (by omega)).mp q) (by omega)) ?_ 280 (by decide)
      refine x_iconst (nI 1) dL_areCountsSo_276 (by decide) ?_
      refine x_goto 281 dL_areCountsSo_277 (by decide) ?_
      refine x_istore dL_areCountsSo_281 (by decide) ?_
      refine x_iincN 1 dL_areCountsSo_283 rfl (by decide) (by decide) ?_
      refine x_goto 192 dL_areCountsSo_286 (by decide) ?_
      exact ih (j + 1) _ (by omega) hx
theorem lp_counts (hC : Cl σ J R Z H h K e n t a b) (hGI : GI c Z) (hc9 : c ≤ 99999) {g : GX} {cx : CX} {F : State → Prop} : ∀ (i k : Nat) (u7 u8 u9 : Option Value), k + i = 4 → (∀ u7 u8 u9, X g cx mL_areCountsSo F (0, 0) 295 [some (.ref 0), some (.int (nI (cn (tk Z) (4)))), some (.int (sm (fun j => Z j 0) (4))), some (.int (sm (fun j => Z j 2) (4))), some (.int (nI (cn (stu Z) (4)))), some (.int (nI 1)), some (.int (nI (4))), u7, u8, u9] [] 131 J R) → X g cx mL_areCountsSo F (0, 0) 15 [some (.ref 0), some (.int (nI (cn (tk Z) (k)))), some (.int (sm (fun j => Z j 0) (k))), some (.int (sm (fun j => Z j 2) (k))), some (.int (nI (cn (stu Z) (k)))), some (.int (nI 1)), some (.int (nI (k))), u7, u8, u9] [] 131 J R := by
  intro i
  induction i with
  | zero =>
    intro k u7 u8 u9 hk hx
    obtain rfl : k = 4 := by omega
    refine x_iload dL_areCountsSo_15 rfl ?_
    refine x_iconst (nI 4) dL_areCountsSo_17 (by decide) ?_
    refine x_icmp_geN 295 dL_areCountsSo_18 (by decide) (by omega) (by omega) (fun c18 => ?_) (fun c18 => ?_)
    · skip
      exact hx _ _ _
    · skip
      exact absurd c18 (by omega)
  | succ i ih =>
    intro k u7 u8 u9 hki hx
    have hk : k < 4 := by omega
    obtain ⟨m, fa, fb, hm, em, e1, hm1, e4, e6, f3, f4, f5, hr⟩ := GI_row hGI hk
    have h34 := (GI_lsn hGI hc9 hk).1
    have tail : X g cx mL_areCountsSo F (0, 0) 118 [some (.ref 0), some (.int (nI (cn (tk Z) (k + 1)))), some (.int (sm (fun j => Z j 0) (k + 1))), some (.int (sm (fun j => Z j 2) (k + 1))), some (.int (nI (cn (stu Z) (k + 1)))), some (.int (nI 1)), some (.int (nI (k))), some (.int (nI m)), u8, u9] [] 131 J R := by
      refine x_aload_n dL_areCountsSo_118 rfl rfl ?_
      refine x_iload dL_areCountsSo_119 rfl ?_
      refine x_iconst (nI 4) dL_areCountsSo_121 (by decide) ?_
      refine x_callVd0 (mt' := mX5_speaker) (sp_spk hC (by omega) (by omega)) kvX5_speaker wl_L_14 (by decide) dL_areCountsSo_122 xk_0 (by decide) rfl rfl (Nat.le_of_ble_eq_true rfl) ⟨rfl, rfl⟩ (by decide) ?_
      refine x_eqtop e4 ?_
      refine x_aload_n dL_areCountsSo_125 rfl rfl ?_
      refine x_iload dL_areCountsSo_126 rfl ?_
      refine x_bipush (nI 6) dL_areCountsSo_128 (by decide) ?_
      refine x_callVd0 (mt' := mX5_speaker) (sp_spk hC (by omega) (by omega)) kvX5_speaker wl_L_14 (by decide) dL_areCountsSo_130 xk_0 (by decide) rfl rfl (Nat.le_of_ble_eq_true rfl) ⟨rfl, rfl⟩ (by decide) ?_
      refine x_eqtop e6 ?_
      refine x_icmp_ltF dL_areCountsSo_133 (fun q => absurd ((nI_ltI (by omega) (by omega)).mp q) (by omega)) ?_ 186 (by decide)
      refine x_aload_n dL_areCountsSo_136 rfl rfl ?_
      refine x_iload dL_areCountsSo_137 rfl ?_
      refine x_iload dL_areCountsSo_139 rfl ?_
      refine x_iconst (nI 0) dL_areCountsSo_141 (by decide) ?_
      refine x_callVd0 (mt' := mX5_message) (sp_msn hC hk hm em (Nat.le_refl _) (by omega)) kvX5_message wl_L_45 (by decide) dL_areCountsSo_142 xk_0 (by decide) rfl rfl (Nat.le_of_ble_eq_true rfl) ⟨rfl, rfl⟩ (by decide) ?_
      refine x_iconst (-1) dL_areCountsSo_145 (by decide) ?_
      refine x_icmp_neF dL_areCountsSo_146 (rfl) ?_ 186 (by decide)
      refine x_aload_n dL_areCountsSo_149 rfl rfl ?_
      refine x_iload dL_areCountsSo_150 rfl ?_
      refine x_iconst (nI 3) dL_areCountsSo_152 (by decide) ?_
      refine x_callVd0 (mt' := mX5_listener) (sp_lsn hC (by omega) (by omega)) kvX5_listener wl_L_42 (by decide) dL_areCountsSo_153 xk_0 (by decide) rfl rfl (Nat.le_of_ble_eq_true rfl) ⟨rfl, rfl⟩ (by decide) ?_
      refine' x_dia_if_le 163 164 dL_areCountsSo_156 (by decide) ?_ ?_ ?_; rotate_left 2
      · intro c156 k156
        refine x_iconst (nI 1) dL_areCountsSo_159 (by decide) ?_
        refine x_goto 164 dL_areCountsSo_160 (by decide) ?_
        exact k156
      · intro c156 k156
        refine x_iconst (nI 0) dL_areCountsSo_163 (by decide) ?_
        exact k156
      refine x_aload_n dL_areCountsSo_164 rfl rfl ?_
      refine x_iload dL_areCountsSo_165 rfl ?_
      refine x_iconst (nI 4) dL_areCountsSo_167 (by decide) ?_
      refine x_callVd0 (mt' := mX5_listener) (sp_lsn hC (by omega) (by omega)) kvX5_listener wl_L_42 (by decide) dL_areCountsSo_168 xk_0 (by decide) rfl rfl (Nat.le_of_ble_eq_true rfl) ⟨rfl, rfl⟩ (by decide) ?_
      refine' x_dia_if_lt 178 179 dL_areCountsSo_171 (by decide) ?_ ?_ ?_; rotate_left 2
      · intro c171 k171
        refine x_iconst (nI 1) dL_areCountsSo_174 (by decide) ?_
        refine x_goto 179 dL_areCountsSo_175 (by decide) ?_
        exact k171
      · intro c171 k171
        refine x_iconst (nI 0) dL_areCountsSo_178 (by decide) ?_
        exact k171
      refine x_icmp_neF dL_areCountsSo_179 (eq_01 (by rw [← Int32.not_lt, h34, Classical.not_not])) ?_ 186 (by decide)
      refine x_iconst (nI 1) dL_areCountsSo_182 (by decide) ?_
      refine x_goto 187 dL_areCountsSo_183 (by decide) ?_
      refine x_istore dL_areCountsSo_187 (by decide) ?_
      refine x_iconst (nI 0) dL_areCountsSo_189 (by decide) ?_
      refine x_istore dL_areCountsSo_190 (by decide) ?_
      refine lp_msgs hC hGI hc9 hk hm em hr m 0 _ (by omega) (fun u9 => ?_)
      refine x_iincN 1 dL_areCountsSo_289 rfl (by decide) (by decide) ?_
      refine x_goto 15 dL_areCountsSo_292 (by decide) ?_
      exact ih (k + 1) _ _ _ (by omega) hx
    refine x_iload dL_areCountsSo_15 rfl ?_
    refine x_iconst (nI 4) dL_areCountsSo_17 (by decide) ?_
    refine x_icmp_geN 295 dL_areCountsSo_18 (by decide) (by omega) (by omega) (fun c18 => ?_) (fun c18 => ?_)
    · skip
      exact absurd c18 (by omega)
    · skip
      refine x_aload_n dL_areCountsSo_21 rfl rfl ?_
      refine x_iload dL_areCountsSo_22 rfl ?_
      refine x_iconst (nI 0) dL_areCountsSo_24 (by decide) ?_
      refine x_callVd0 (mt' := mX5_speaker) (sp_spk hC (by omega) (by omega)) kvX5_speaker wl_L_14 (by decide) dL_areCountsSo_25 xk_0 (by decide) rfl rfl (Nat.le_of_ble_eq_true rfl) ⟨rfl, rfl⟩ (by decide) ?_
      refine x_eqtop em ?_
      refine x_istore dL_areCountsSo_28 (by decide) ?_
      refine x_iload_n dL_areCountsSo_30 rfl rfl ?_
      refine x_aload_n dL_areCountsSo_31 rfl rfl ?_
      refine x_iload dL_areCountsSo_32 rfl ?_
      refine x_iconst (nI 1) dL_areCountsSo_34 (by decide) ?_
      refine x_callVd0 (mt' := mX5_speaker) (sp_spk hC (by omega) (by omega)) kvX5_speaker wl_L_14 (by decide) dL_areCountsSo_35 xk_0 (by decide) rfl rfl (Nat.le_of_ble_eq_true rfl) ⟨rfl, rfl⟩ (by decide) ?_
      refine x_iadd dL_areCountsSo_38 ?_
      refine x_eqtop (tk_step e1) ?_
      refine x_istore_n dL_areCountsSo_39 rfl (by decide) ?_
      refine x_iload_n dL_areCountsSo_40 rfl rfl ?_
      refine x_iload dL_areCountsSo_41 rfl ?_
      refine x_iadd dL_areCountsSo_43 ?_
      refine x_eqtop ((congrArg (fun q => sm (fun j => Z j 0) k + q) em.symm).trans (sm_step (fun j => Z j 0) k)) ?_
      refine x_istore_n dL_areCountsSo_44 rfl (by decide) ?_
      refine x_iload_n dL_areCountsSo_45 rfl rfl ?_
      refine x_aload_n dL_areCountsSo_46 rfl rfl ?_
      refine x_iload dL_areCountsSo_47 rfl ?_
      refine x_iconst (nI 2) dL_areCountsSo_49 (by decide) ?_
      refine x_callVd0 (mt' := mX5_speaker) (sp_spk hC (by omega) (by omega)) kvX5_speaker wl_L_14 (by decide) dL_areCountsSo_50 xk_0 (by decide) rfl rfl (Nat.le_of_ble_eq_true rfl) ⟨rfl, rfl⟩ (by decide) ?_
      refine x_iadd dL_areCountsSo_53 ?_
      refine x_istore_n dL_areCountsSo_54 rfl (by decide) ?_
      refine x_iload dL_areCountsSo_55 rfl ?_
      refine x_aload_n dL_areCountsSo_57 rfl rfl ?_
      refine x_iload dL_areCountsSo_58 rfl ?_
      refine x_iconst (nI 2) dL_areCountsSo_60 (by decide) ?_
      refine x_callVd0 (mt' := mX5_listener) (sp_lsn hC (by omega) (by omega)) kvX5_listener wl_L_42 (by decide) dL_areCountsSo_61 xk_0 (by decide) rfl rfl (Nat.le_of_ble_eq_true rfl) ⟨rfl, rfl⟩ (by decide) ?_
      refine' x_dia_if_le 71 72 dL_areCountsSo_64 (by decide) ?_ ?_ ?_; rotate_left 2
      · intro c64 k64
        refine x_iconst (nI 1) dL_areCountsSo_67 (by decide) ?_
        refine x_goto 72 dL_areCountsSo_68 (by decide) ?_
        exact k64
      · intro c64 k64
        refine x_iconst (nI 0) dL_areCountsSo_71 (by decide) ?_
        exact k64
      refine x_iadd dL_areCountsSo_72 ?_
      refine x_eqtop (st_add k _) ?_
      refine x_istore dL_areCountsSo_73 (by decide) ?_
      refine x_iload dL_areCountsSo_75 rfl ?_
      refine x_if_eqF dL_areCountsSo_77 (by decide) ?_ 186 (by decide)
      refine x_iload dL_areCountsSo_80 rfl ?_
      refine x_if_ltF dL_areCountsSo_82 (nI_nn (by omega)) ?_ 186 (by decide)
      refine x_iload dL_areCountsSo_85 rfl ?_
      refine x_bipush (nI 6) dL_areCountsSo_87 (by decide) ?_
      refine x_icmp_geF dL_areCountsSo_89 (fun q => absurd ((nI_leI (by omega) (by omega)).mp q) (by omega)) ?_ 186 (by decide)
      skip
      refine x_iload dL_areCountsSo_92 rfl ?_
      by_cases m0 : m = 0
      · subst m0
        have ht : tk Z k = false := by
          cases q : tk Z k with
          | true => exact absurd (hm1 q) (by omega)
          | false => rfl
        have b0 := f5 rfl
        subst b0
        refine x_if_gtF dL_areCountsSo_94 (by decide) ?_
        refine x_aload_n dL_areCountsSo_97 rfl rfl ?_
        refine x_iload dL_areCountsSo_98 rfl ?_
        refine x_iconst (nI 1) dL_areCountsSo_100 (by decide) ?_
        refine x_callVd0 (mt' := mX5_speaker) (sp_spk hC (by omega) (by omega)) kvX5_speaker wl_L_14 (by decide) dL_areCountsSo_101 xk_0 (by decide) rfl rfl (Nat.le_of_ble_eq_true rfl) ⟨rfl, rfl⟩ (by decide) ?_
        refine x_eqtop (e1.trans (congrArg bi ht)) ?_
        refine x_if_neF dL_areCountsSo_104 (by decide) ?_ 186 (by decide)
        refine x_aload_n dL_areCountsSo_107 rfl rfl ?_
        refine x_iload dL_areCountsSo_108 rfl ?_
        refine x_bipush (nI 6) dL_areCountsSo_110 (by decide) ?_
        refine x_callVd0 (mt' := mX5_speaker) (sp_spk hC (by omega) (by omega)) kvX5_speaker wl_L_14 (by decide) dL_areCountsSo_112 xk_0 (by decide) rfl rfl (Nat.le_of_ble_eq_true rfl) ⟨rfl, rfl⟩ (by decide) ?_
        refine x_eqtop e6 ?_
        refine x_if_neF dL_areCountsSo_115 (by decide) ?_ 186 (by decide)
        exact tail
      · exact x_if_gtT 118 dL_areCountsSo_94 (by decide) ((nI_ltI (a := 0) (by omega) (by omega)).mpr (by omega)) tail
theorem sp_areCountsSo (hC : Cl σ J R Z H h K e n t a b) (hGI : GI c Z) (hc9 : c ≤ 99999) : Spd mL_areCountsSo [.ref 0] J R (some (.int 1)) J := by
  refine Spd.mk (by decide +kernel) (by simp [Value.category]) (Nat.le_of_ble_eq_true rfl) (fun g cx => ?_)
  obtain ⟨p, L, hh, hv⟩ := hGI.1.2.2
  obtain ⟨⟨⟨a3, a7, a10, a4⟩, -, p27, hL, h9⟩, -, -, ⟨⟨s6, hs6, e6⟩, -, s3, s4⟩, -, -⟩ := hv
  have eps : ps Z = p := by unfold ps; rw [a7, nI_cl (by omega)]
  refine x_iconst (nI 0) dL_areCountsSo_0 (by decide) ?_
  refine x_istore_n dL_areCountsSo_1 rfl (by decide) ?_
  refine x_iconst (nI 0) dL_areCountsSo_2 (by decide) ?_
  refine x_istore_n dL_areCountsSo_3 rfl (by decide) ?_
  refine x_iconst (nI 0) dL_areCountsSo_4 (by decide) ?_
  refine x_istore_n dL_areCountsSo_5 rfl (by decide) ?_
  refine x_iconst (nI 0) dL_areCountsSo_6 (by decide) ?_
  refine x_istore dL_areCountsSo_7 (by decide) ?_
  refine x_iconst (nI 1) dL_areCountsSo_9 (by decide) ?_
  refine x_istore dL_areCountsSo_10 (by decide) ?_
  refine x_iconst (nI 0) dL_areCountsSo_12 (by decide) ?_
  refine x_istore dL_areCountsSo_13 (by decide) ?_
  skip
  refine lp_counts hC hGI hc9 4 0 _ _ _ rfl (fun u7 u8 u9 => ?_)
  have t433 : X g cx mL_areCountsSo (xF g cx mL_areCountsSo (fun r' n' I2 R2 => r' = some (.int 1) ∧ n' = 131 ∧ I2 = J ∧ R2 = R)) (0, 0) 433 [some (.ref 0), some (.int (nI (cn (tk Z) 4))), some (.int (sm (fun j => Z j 0) 4)), some (.int (sm (fun j => Z j 2) 4)), some (.int (nI (cn (stu Z) 4))), some (.int (nI 1)), some (.int (nI (pNx Z p))), some (.int (bi (decide (p % 9 = 8)))), some (.int (Z 8 4)), u9] [] 131 J R := by
    refine x_aload_n dL_areCountsSo_433 rfl rfl ?_
    refine x_iconst (nI 5) dL_areCountsSo_434 (by decide) ?_
    refine x_callVd0 (mt' := mX5_count) (sp_cnt hC cnt_5) kvX5_count wl_L_49 (by decide) dL_areCountsSo_435 xk_0 (by decide) rfl rfl (Nat.le_of_ble_eq_true rfl) ⟨rfl, rfl⟩ (by decide) ?_
    refine x_eqtop e6 ?_
    refine x_bipush (nI 99) dL_areCountsSo_438 (by decide) ?_
    refine x_icmp_geF dL_areCountsSo_440 (fun q => absurd ((nI_leI (by omega) (by omega)).mp q) (by omega)) ?_ 458 (by decide)
    refine x_aload_n dL_areCountsSo_443 rfl rfl ?_
    refine x_bipush (nI 6) dL_areCountsSo_444 (by decide) ?_
    refine x_callVd0 (mt' := mX5_count) (sp_cnt hC cnt_6) kvX5_count wl_L_49 (by decide) dL_areCountsSo_446 xk_0 (by decide) rfl rfl (Nat.le_of_ble_eq_true rfl) ⟨rfl, rfl⟩ (by decide) ?_
    refine x_eqtop a7 ?_
    refine x_bipush (nI 27) dL_areCountsSo_449 (by decide) ?_
    refine x_icmp_geF dL_areCountsSo_451 (fun q => absurd ((nI_leI (by omega) (by omega)).mp q) (by omega)) ?_ 458 (by decide)
    refine x_iconst (nI 1) dL_areCountsSo_454 (by decide) ?_
    refine x_goto 459 dL_areCountsSo_455 (by decide) ?_
    refine x_zret dL_areCountsSo_459 rfl rfl (by decide) (by decide) ?_
    exact ⟨rfl, rfl, rfl, rfl⟩
  have t423 : X g cx mL_areCountsSo (xF g cx mL_areCountsSo (fun r' n' I2 R2 => r' = some (.int 1) ∧ n' = 131 ∧ I2 = J ∧ R2 = R)) (0, 0) 423 [some (.ref 0), some (.int (nI (cn (tk Z) 4))), some (.int (sm (fun j => Z j 0) 4)), some (.int (sm (fun j => Z j 2) 4)), some (.int (nI (cn (stu Z) 4))), some (.int (nI 1)), some (.int (nI (pNx Z p))), some (.int (bi (decide (p % 9 = 8)))), some (.int (Z 8 4)), u9] [] 131 J R := by
    refine x_iload dL_areCountsSo_423 rfl ?_
    by_cases q : hh = 0
    · exact x_if_eqT 433 dL_areCountsSo_425 (by decide) (by rw [a4, q]; rfl) t433
    · refine x_if_eqF dL_areCountsSo_425 (fun z => q (nI_inj (b := 0) (by omega) (by omega) (a4.symm.trans z))) ?_
      refine x_iload dL_areCountsSo_428 rfl ?_
      exact x_if_eqF dL_areCountsSo_430 (by rw [decide_eq_true (s3 (by omega))]; decide) t433
  refine x_aload_n dL_areCountsSo_295 rfl rfl ?_
  refine x_iconst (nI 2) dL_areCountsSo_296 (by decide) ?_
  refine x_callVd0 (mt' := mX5_count) (sp_cnt hC cnt_2) kvX5_count wl_L_49 (by decide) dL_areCountsSo_297 xk_0 (by decide) rfl rfl (Nat.le_of_ble_eq_true rfl) ⟨rfl, rfl⟩ (by decide) ?_
  rw [eps]
  refine x_istore dL_areCountsSo_300 (by decide) ?_
  refine x_aload_n dL_areCountsSo_302 rfl rfl ?_
  refine x_bipush (nI 6) dL_areCountsSo_303 (by decide) ?_
  refine x_callVd0 (mt' := mX5_count) (sp_cnt hC cnt_6) kvX5_count wl_L_49 (by decide) dL_areCountsSo_305 xk_0 (by decide) rfl rfl (Nat.le_of_ble_eq_true rfl) ⟨rfl, rfl⟩ (by decide) ?_
  refine x_eqtop a7 ?_
  refine x_bipush (nI 9) dL_areCountsSo_308 (by decide) ?_
  refine x_iremN dL_areCountsSo_310 (by omega) (by omega) (by omega) ?_
  refine x_bipush (nI 8) dL_areCountsSo_311 (by decide) ?_
  refine' x_dia_icmp_neN 320 321 dL_areCountsSo_313 (by decide) (by omega) (by omega) ?_ ?_ ?_; rotate_left 2
  · intro c313 k313
    refine x_iconst (nI 1) dL_areCountsSo_316 (by decide) ?_
    refine x_goto 321 dL_areCountsSo_317 (by decide) ?_
    exact k313
  · intro c313 k313
    refine x_iconst (nI 0) dL_areCountsSo_320 (by decide) ?_
    exact k313
  refine x_eqtop (isA_eq (p := p)) ?_
  refine x_istore dL_areCountsSo_321 (by decide) ?_
  refine x_aload_n dL_areCountsSo_323 rfl rfl ?_
  refine x_iconst (nI 3) dL_areCountsSo_324 (by decide) ?_
  refine x_callVd0 (mt' := mX5_count) (sp_cnt hC cnt_3) kvX5_count wl_L_49 (by decide) dL_areCountsSo_325 xk_0 (by decide) rfl rfl (Nat.le_of_ble_eq_true rfl) ⟨rfl, rfl⟩ (by decide) ?_
  refine x_istore dL_areCountsSo_328 (by decide) ?_
  refine x_iload dL_areCountsSo_330 rfl ?_
  refine x_if_eqF dL_areCountsSo_332 (by decide) ?_ 458 (by decide)
  refine x_iload_n dL_areCountsSo_335 rfl rfl ?_
  refine x_aload_n dL_areCountsSo_336 rfl rfl ?_
  refine x_iconst (nI 1) dL_areCountsSo_337 (by decide) ?_
  refine x_callVd0 (mt' := mX5_count) (sp_cnt hC cnt_1) kvX5_count wl_L_49 (by decide) dL_areCountsSo_338 xk_0 (by decide) rfl rfl (Nat.le_of_ble_eq_true rfl) ⟨rfl, rfl⟩ (by decide) ?_
  refine x_icmp_neF dL_areCountsSo_341 (rfl) ?_ 458 (by decide)
  refine x_iload_n dL_areCountsSo_344 rfl rfl ?_
  refine x_aload_n dL_areCountsSo_345 rfl rfl ?_
  refine x_bipush (nI 7) dL_areCountsSo_346 (by decide) ?_
  refine x_callVd0 (mt' := mX5_count) (sp_cnt hC cnt_7) kvX5_count wl_L_49 (by decide) dL_areCountsSo_348 xk_0 (by decide) rfl rfl (Nat.le_of_ble_eq_true rfl) ⟨rfl, rfl⟩ (by decide) ?_
  refine x_icmp_neF dL_areCountsSo_351 (rfl) ?_ 458 (by decide)
  refine x_iload_n dL_areCountsSo_354 rfl rfl ?_
  refine x_aload_n dL_areCountsSo_355 rfl rfl ?_
  refine x_bipush (nI 8) dL_areCountsSo_356 (by decide) ?_
  refine x_callVd0 (mt' := mX5_count) (sp_cnt hC cnt_8) kvX5_count wl_L_49 (by decide) dL_areCountsSo_358 xk_0 (by decide) rfl rfl (Nat.le_of_ble_eq_true rfl) ⟨rfl, rfl⟩ (by decide) ?_
  refine x_icmp_neF dL_areCountsSo_361 (rfl) ?_ 458 (by decide)
  refine x_iload dL_areCountsSo_364 rfl ?_
  refine x_iload dL_areCountsSo_366 rfl ?_
  refine' x_dia_if_le 375 402 dL_areCountsSo_368 (by decide) ?_ ?_ ?_; rotate_left 2
  · intro c368 k368
    refine x_iconst (nI 4) dL_areCountsSo_371 (by decide) ?_
    refine x_goto 402 dL_areCountsSo_372 (by decide) ?_
    exact k368
  · intro c368 k368
    refine x_iload dL_areCountsSo_375 rfl ?_
    refine' x_dia_if_le 384 402 dL_areCountsSo_377 (by decide) ?_ ?_ ?_; rotate_left 2
    · intro c377 k377
      refine x_iconst (nI 3) dL_areCountsSo_380 (by decide) ?_
      refine x_goto 402 dL_areCountsSo_381 (by decide) ?_
      exact k377
    · intro c377 k377
      refine x_iload_n dL_areCountsSo_384 rfl rfl ?_
      refine' x_dia_if_ne 392 402 dL_areCountsSo_385 (by decide) ?_ ?_ ?_; rotate_left 2
      · intro c385 k385
        refine x_iconst (nI 0) dL_areCountsSo_388 (by decide) ?_
        refine x_goto 402 dL_areCountsSo_389 (by decide) ?_
        exact k385
      · intro c385 k385
        refine x_iload dL_areCountsSo_392 rfl ?_
        refine' x_dia_if_eq 401 402 dL_areCountsSo_394 (by decide) ?_ ?_ ?_; rotate_left 2
        · intro c394 k394
          refine x_iconst (nI 2) dL_areCountsSo_397 (by decide) ?_
          refine x_goto 402 dL_areCountsSo_398 (by decide) ?_
          exact k394
        · intro c394 k394
          refine x_iconst (nI 1) dL_areCountsSo_401 (by decide) ?_
          exact k394
        exact k385
      exact k377
    exact k368
  refine x_eqtop (pNx_eq (Z := Z) (p := p)) ?_
  refine x_icmp_neF dL_areCountsSo_402 (rfl) ?_ 458 (by decide)
  skip
  refine x_iload_n dL_areCountsSo_405 rfl rfl ?_
  by_cases q : cn (tk Z) 4 = 0
  · have p0 := s4 q
    have h0 : hh = 0 := Nat.eq_zero_of_not_pos (fun z => absurd (s3 z) (by omega))
    refine x_if_gtF dL_areCountsSo_406 (by rw [q]; decide) ?_
    refine x_iload dL_areCountsSo_409 rfl ?_
    refine x_if_neF dL_areCountsSo_411 (by rw [a4, h0]; rfl) ?_
    refine x_aload_n dL_areCountsSo_414 rfl rfl ?_
    refine x_bipush (nI 6) dL_areCountsSo_415 (by decide) ?_
    refine x_callVd0 (mt' := mX5_count) (sp_cnt hC cnt_6) kvX5_count wl_L_49 (by decide) dL_areCountsSo_417 xk_0 (by decide) rfl rfl (Nat.le_of_ble_eq_true rfl) ⟨rfl, rfl⟩ (by decide) ?_
    refine x_eqtop a7 ?_
    refine x_if_neF dL_areCountsSo_420 (by rw [p0]; rfl) ?_ 458 (by decide)
    exact t423
  · have := cn4 (tk Z)
    exact x_if_gtT 423 dL_areCountsSo_406 (by decide) ((nI_ltI (a := 0) (by omega) (by omega)).mpr (by omega)) t423
end CL
