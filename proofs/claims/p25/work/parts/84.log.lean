/-! the law's second check: the log -/
theorem bi_lt2 (w : Bool) : ¬ (2 : Int32) ≤ bi w := by cases w <;> decide
theorem bi_nn (w : Bool) : ¬ bi w < 0 := by cases w <;> decide
theorem pl_eq {q : Nat} : (if bi (decide (q % 9 = 8)) = nI 1 then nI 1 else nI 0) = if q % 9 = 8 then nI 1 else nI 0 := by
  by_cases h : q % 9 = 8
  · rw [decide_eq_true h, if_pos h, if_pos (show bi true = nI 1 from rfl)]
  · rw [decide_eq_false h, if_neg h, if_neg (by decide)]
theorem val_eq {Z : MI} {k q m : Nat} (hk : k < 4) (hq : q < 27) (hm : m ≤ 5) (hm1 : 1 ≤ m) (em : Z k 0 = nI m) : (if nI (q / 9) = 0 then nI 2 * pMsg Z (nI k) (nI 0) (nI 0) else pMsg Z (nI k) (nI 0) (nI (q / 9))) = pVal Z k (q / 9) := by
  rw [pMsg_k hk hm em (show 0 < m by omega), pMsg_k hk hm em (show 0 < m by omega), msw_0]
  unfold pVal
  rcases (show q / 9 = 0 ∨ q / 9 = 1 ∨ q / 9 = 2 by omega) with e | e | e
  · rw [e, if_pos (show nI 0 = 0 from rfl), if_pos rfl]; rfl
  · rw [e, if_neg (by decide), if_neg (by omega), msw_1]
  · rw [e, if_neg (by decide), if_neg (by omega), msw_2]
section CL
variable {σ : Nat → Nat} {J : MI} {R : MR} {Z : MI} {H : Nat → MI} {h : Nat} {K : MI} {e : Bool} {n : Nat} {t : Nat → Int32} {a b : Int32} {c : Nat}
theorem lp_log1 (hC : Cl σ J R Z H h K e n t a b) {p L : Nat} {T : Nat → Nat} (hc9 : c ≤ 99999) (hL : L ≤ 64) (e10 : Z 8 10 = nI L) (hT : ∀ j, j < L → EN (fun w => Z 9 (4 * j + w)) (T j) ∧ T j ≤ c) (hr : ∀ i j, i < j → j < L → T i < T j) {g : GX} {cx : CX} {F : State → Prop} : ∀ (i x la : Nat) (u5 u6 u7 u8 u9 : Option Value), x + i = L → (∀ j, j + x < L → T j < la) → la < 2 ^ 30 → (∀ u2 u4 u5 u6 u7 u8 u9, X g cx mL_isLogSo F (0, 0) 123 [some (.ref 0), some (.int (nI p)), u2, some (.int (nI 1)), u4, u5, u6, u7, u8, u9] [] 131 J R) → X g cx mL_isLogSo F (0, 0) 20 [some (.ref 0), some (.int (nI p)), some (.int (nI la)), some (.int (nI 1)), some (.int (nI x)), u5, u6, u7, u8, u9] [] 131 J R := by
  intro i
  induction i with
  | zero =>
    intro x la u5 u6 u7 u8 u9 hxL _ _ hx
    obtain rfl : x = L := by omega
    refine x_iload dL_isLogSo_20 rfl ?_
    refine x_bipush (nI 64) dL_isLogSo_22 (by decide) ?_
    refine x_icmp_geN 123 dL_isLogSo_24 (by decide) (by omega) (by omega) (fun c24 => ?_) (fun c24 => ?_)
    · skip
      exact hx _ _ _ _ _ _ _
    · skip
      refine x_aload_n dL_isLogSo_27 rfl rfl ?_
      refine x_iload dL_isLogSo_28 rfl ?_
      refine x_iconst (nI 0) dL_isLogSo_30 (by decide) ?_
      refine x_callVd0 (mt' := mX5_bit) (sp_btn hC hL e10 (Nat.le_refl _) (by omega) (by omega)) kvX5_bit wl_L_52 (by decide) dL_isLogSo_31 xk_0 (by decide) rfl rfl (Nat.le_of_ble_eq_true rfl) ⟨rfl, rfl⟩ (by decide) ?_
      refine x_if_ltT 123 dL_isLogSo_34 (by decide) (by decide) ?_
      exact hx _ _ _ _ _ _ _
  | succ i ih =>
    intro x la u5 u6 u7 u8 u9 hxi hla hb hx
    have hxL : x < L := by omega
    obtain ⟨⟨w, pl, e0, e1, e2, e3⟩, hc⟩ := hT (L - 1 - x) (by omega)
    have hlt := hla (L - 1 - x) (by omega)
    dsimp only at e0 e1 e2 e3
    have t103 : X g cx mL_isLogSo F (0, 0) 103 [some (.ref 0), some (.int (nI p)), some (.int (nI la)), some (.int (nI 1)), some (.int (nI x)), u5, u6, u7, u8, u9] [] 131 J R := by
      refine x_iconst (nI 1) dL_isLogSo_103 (by decide) ?_
      refine x_goto 108 dL_isLogSo_104 (by decide) ?_
      refine x_istore_n dL_isLogSo_108 rfl (by decide) ?_
      refine x_aload_n dL_isLogSo_109 rfl rfl ?_
      refine x_iload dL_isLogSo_110 rfl ?_
      refine x_iconst (nI 2) dL_isLogSo_112 (by decide) ?_
      refine x_callVd0 (mt' := mX5_bit) (sp_btk hC hL e10 (by omega) (by omega)) kvX5_bit wl_L_52 (by decide) dL_isLogSo_113 xk_0 (by decide) rfl rfl (Nat.le_of_ble_eq_true rfl) ⟨rfl, rfl⟩ (by decide) ?_
      refine x_eqtop e2 ?_
      refine x_istore_n dL_isLogSo_116 rfl (by decide) ?_
      refine x_iincN 1 dL_isLogSo_117 rfl (by decide) (by decide) ?_
      refine x_goto 20 dL_isLogSo_120 (by decide) ?_
      exact ih (x + 1) _ _ _ _ _ _ (by omega) (fun j hj => hr _ _ (by omega) (by omega)) (by omega) hx
    have t83 : X g cx mL_isLogSo F (0, 0) 83 [some (.ref 0), some (.int (nI p)), some (.int (nI la)), some (.int (nI 1)), some (.int (nI x)), u5, u6, u7, u8, u9] [] 131 J R := by
      refine x_aload_n dL_isLogSo_83 rfl rfl ?_
      refine x_iload dL_isLogSo_84 rfl ?_
      refine x_iconst (nI 1) dL_isLogSo_86 (by decide) ?_
      refine x_callVd0 (mt' := mX5_bit) (sp_btk hC hL e10 (by omega) (by omega)) kvX5_bit wl_L_52 (by decide) dL_isLogSo_87 xk_0 (by decide) rfl rfl (Nat.le_of_ble_eq_true rfl) ⟨rfl, rfl⟩ (by decide) ?_
      refine x_eqtop e1 ?_
      skip
      cases hp : pl with
      | false => exact x_if_eqT 103 dL_isLogSo_90 (by decide) rfl t103
      | true =>
        refine x_if_eqF dL_isLogSo_90 (by decide) ?_
        refine x_aload_n dL_isLogSo_93 rfl rfl ?_
        refine x_iload dL_isLogSo_94 rfl ?_
        refine x_iconst (nI 3) dL_isLogSo_96 (by decide) ?_
        refine x_callVd0 (mt' := mX5_bit) (sp_btk hC hL e10 (by omega) (by omega)) kvX5_bit wl_L_52 (by decide) dL_isLogSo_97 xk_0 (by decide) rfl rfl (Nat.le_of_ble_eq_true rfl) ⟨rfl, rfl⟩ (by decide) ?_
        refine x_eqtop (e3 (Or.inr hp)) ?_
        refine x_if_neF dL_isLogSo_100 (rfl) ?_ 107 (by decide)
        exact t103
    refine x_iload dL_isLogSo_20 rfl ?_
    refine x_bipush (nI 64) dL_isLogSo_22 (by decide) ?_
    refine x_icmp_geN 123 dL_isLogSo_24 (by decide) (by omega) (by omega) (fun c24 => ?_) (fun c24 => ?_)
    · skip
      exact absurd c24 (by omega)
    · skip
      refine x_aload_n dL_isLogSo_27 rfl rfl ?_
      refine x_iload dL_isLogSo_28 rfl ?_
      refine x_iconst (nI 0) dL_isLogSo_30 (by decide) ?_
      refine x_callVd0 (mt' := mX5_bit) (sp_btk hC hL e10 (by omega) (by omega)) kvX5_bit wl_L_52 (by decide) dL_isLogSo_31 xk_0 (by decide) rfl rfl (Nat.le_of_ble_eq_true rfl) ⟨rfl, rfl⟩ (by decide) ?_
      refine x_eqtop e0 ?_
      refine x_if_ltF dL_isLogSo_34 (bi_nn _) ?_ 123 (by decide)
      refine x_iload_n dL_isLogSo_37 rfl rfl ?_
      refine x_if_eqF dL_isLogSo_38 (by decide) ?_ 107 (by decide)
      refine x_aload_n dL_isLogSo_41 rfl rfl ?_
      refine x_iload dL_isLogSo_42 rfl ?_
      refine x_iconst (nI 2) dL_isLogSo_44 (by decide) ?_
      refine x_callVd0 (mt' := mX5_bit) (sp_btk hC hL e10 (by omega) (by omega)) kvX5_bit wl_L_52 (by decide) dL_isLogSo_45 xk_0 (by decide) rfl rfl (Nat.le_of_ble_eq_true rfl) ⟨rfl, rfl⟩ (by decide) ?_
      refine x_eqtop e2 ?_
      refine x_iload_n dL_isLogSo_48 rfl rfl ?_
      refine x_icmp_geF dL_isLogSo_49 (fun q => absurd ((nI_leI (by omega) (by omega)).mp q) (by omega)) ?_ 107 (by decide)
      refine x_aload_n dL_isLogSo_52 rfl rfl ?_
      refine x_iload dL_isLogSo_53 rfl ?_
      refine x_iconst (nI 0) dL_isLogSo_55 (by decide) ?_
      refine x_callVd0 (mt' := mX5_bit) (sp_btk hC hL e10 (by omega) (by omega)) kvX5_bit wl_L_52 (by decide) dL_isLogSo_56 xk_0 (by decide) rfl rfl (Nat.le_of_ble_eq_true rfl) ⟨rfl, rfl⟩ (by decide) ?_
      refine x_eqtop e0 ?_
      refine x_iconst (nI 2) dL_isLogSo_59 (by decide) ?_
      refine x_icmp_geF dL_isLogSo_60 (bi_lt2 _) ?_ 107 (by decide)
      refine x_aload_n dL_isLogSo_63 rfl rfl ?_
      refine x_iload dL_isLogSo_64 rfl ?_
      refine x_iconst (nI 0) dL_isLogSo_66 (by decide) ?_
      refine x_callVd0 (mt' := mX5_bit) (sp_btk hC hL e10 (by omega) (by omega)) kvX5_bit wl_L_52 (by decide) dL_isLogSo_67 xk_0 (by decide) rfl rfl (Nat.le_of_ble_eq_true rfl) ⟨rfl, rfl⟩ (by decide) ?_
      refine x_eqtop e0 ?_
      skip
      cases hw : w with
      | false => exact x_if_eqT 83 dL_isLogSo_70 (by decide) rfl t83
      | true =>
        refine x_if_eqF dL_isLogSo_70 (by decide) ?_
        refine x_aload_n dL_isLogSo_73 rfl rfl ?_
        refine x_iload dL_isLogSo_74 rfl ?_
        refine x_iconst (nI 3) dL_isLogSo_76 (by decide) ?_
        refine x_callVd0 (mt' := mX5_bit) (sp_btk hC hL e10 (by omega) (by omega)) kvX5_bit wl_L_52 (by decide) dL_isLogSo_77 xk_0 (by decide) rfl rfl (Nat.le_of_ble_eq_true rfl) ⟨rfl, rfl⟩ (by decide) ?_
        refine x_eqtop (e3 (Or.inl hw)) ?_
        refine x_if_neF dL_isLogSo_80 (rfl) ?_ 107 (by decide)
        exact t83
theorem lp_log3 (hC : Cl σ J R Z H h K e n t a b) (hGI : GI c Z) {p q : Nat} {wi : Int32} (hp : p < 27) (hq : q < p) (h9 : ¬ q % 9 = 8) (hb : ∀ k, k < 4 → tk Z k = true → pBit Z k q = wi) {u2 : Option Value} {g : GX} {cx : CX} {F : State → Prop} : ∀ (i k : Nat) (u8 u9 : Option Value), k + i = 4 → (∀ u7 u8 u9, X g cx mL_isLogSo F (0, 0) 315 [some (.ref 0), some (.int (nI p)), u2, some (.int (nI 1)), some (.int (nI q)), some (.int (nI (p - 1 - q))), some (.int wi), u7, u8, u9] [] 131 J R) → X g cx mL_isLogSo F (0, 0) 219 [some (.ref 0), some (.int (nI p)), u2, some (.int (nI 1)), some (.int (nI q)), some (.int (nI (p - 1 - q))), some (.int wi), some (.int (nI (k))), u8, u9] [] 131 J R := by
  intro i
  induction i with
  | zero =>
    intro k u8 u9 hk hx
    obtain rfl : k = 4 := by omega
    refine x_iload dL_isLogSo_219 rfl ?_
    refine x_iconst (nI 4) dL_isLogSo_221 (by decide) ?_
    refine x_icmp_geN 315 dL_isLogSo_222 (by decide) (by omega) (by omega) (fun c222 => ?_) (fun c222 => ?_)
    · skip
      exact hx _ _ _
    · skip
      exact absurd c222 (by omega)
  | succ i ih =>
    intro k u8 u9 hki hx
    have hk : k < 4 := by omega
    obtain ⟨m, -, -, hm, em, e1, hm1, -⟩ := GI_row hGI hk
    refine x_iload dL_isLogSo_219 rfl ?_
    refine x_iconst (nI 4) dL_isLogSo_221 (by decide) ?_
    refine x_icmp_geN 315 dL_isLogSo_222 (by decide) (by omega) (by omega) (fun c222 => ?_) (fun c222 => ?_)
    · skip
      exact absurd c222 (by omega)
    · skip
      refine x_iload dL_isLogSo_225 rfl ?_
      refine x_bipush (nI 9) dL_isLogSo_227 (by decide) ?_
      refine x_iremN dL_isLogSo_229 (by omega) (by omega) (by omega) ?_
      refine x_bipush (nI 8) dL_isLogSo_230 (by decide) ?_
      refine x_icmp_geF dL_isLogSo_232 (fun z => absurd ((nI_leI (by omega) (by omega)).mp z) (by omega)) ?_ 315 (by decide)
      refine x_iload dL_isLogSo_235 rfl ?_
      refine x_bipush (nI 9) dL_isLogSo_237 (by decide) ?_
      refine x_idivN dL_isLogSo_239 (by omega) (by omega) (by omega) ?_
      refine x_istore dL_isLogSo_240 (by decide) ?_
      refine x_iload dL_isLogSo_242 rfl ?_
      refine' x_dia_if_ne 260 269 dL_isLogSo_244 (by decide) ?_ ?_ ?_; rotate_left 2
      · intro c244 k244
        refine x_iconst (nI 2) dL_isLogSo_247 (by decide) ?_
        refine x_aload_n dL_isLogSo_248 rfl rfl ?_
        refine x_iload dL_isLogSo_249 rfl ?_
        refine x_iconst (nI 0) dL_isLogSo_251 (by decide) ?_
        refine x_iconst (nI 0) dL_isLogSo_252 (by decide) ?_
        refine x_callVd0 (mt' := mX5_message) (sp_message hC _ _ _) kvX5_message wl_L_45 (by decide) dL_isLogSo_253 xk_0 (by decide) rfl rfl (Nat.le_of_ble_eq_true rfl) ⟨rfl, rfl⟩ (by decide) ?_
        refine x_imul dL_isLogSo_256 ?_
        refine x_goto 269 dL_isLogSo_257 (by decide) ?_
        exact k244
      · intro c244 k244
        refine x_aload_n dL_isLogSo_260 rfl rfl ?_
        refine x_iload dL_isLogSo_261 rfl ?_
        refine x_iconst (nI 0) dL_isLogSo_263 (by decide) ?_
        refine x_iload dL_isLogSo_264 rfl ?_
        refine x_callVd0 (mt' := mX5_message) (sp_message hC _ _ _) kvX5_message wl_L_45 (by decide) dL_isLogSo_266 xk_0 (by decide) rfl rfl (Nat.le_of_ble_eq_true rfl) ⟨rfl, rfl⟩ (by decide) ?_
        exact k244
      refine x_top (fun val hval => ?_)
      refine x_istore dL_isLogSo_269 (by decide) ?_
      skip
      have t303 : X g cx mL_isLogSo F (0, 0) 303 [some (.ref 0), some (.int (nI p)), u2, some (.int (nI 1)), some (.int (nI q)), some (.int (nI (p - 1 - q))), some (.int wi), some (.int (nI (k))), some (.int (nI (q / 9))), some (.int val)] [] 131 J R := by
        refine x_iconst (nI 1) dL_isLogSo_303 (by decide) ?_
        refine x_goto 308 dL_isLogSo_304 (by decide) ?_
        refine x_istore_n dL_isLogSo_308 rfl (by decide) ?_
        refine x_iincN 1 dL_isLogSo_309 rfl (by decide) (by decide) ?_
        refine x_goto 219 dL_isLogSo_312 (by decide) ?_
        exact ih (k + 1) _ _ (by omega) hx
      refine x_iload_n dL_isLogSo_271 rfl rfl ?_
      refine x_if_eqF dL_isLogSo_272 (by decide) ?_ 307 (by decide)
      refine x_aload_n dL_isLogSo_275 rfl rfl ?_
      refine x_iload dL_isLogSo_276 rfl ?_
      refine x_iconst (nI 1) dL_isLogSo_278 (by decide) ?_
      refine x_callVd0 (mt' := mX5_speaker) (sp_spk hC (by omega) (by omega)) kvX5_speaker wl_L_14 (by decide) dL_isLogSo_279 xk_0 (by decide) rfl rfl (Nat.le_of_ble_eq_true rfl) ⟨rfl, rfl⟩ (by decide) ?_
      refine x_eqtop e1 ?_
      skip
      cases ht : tk Z k with
      | false => exact x_if_eqT 303 dL_isLogSo_282 (by decide) rfl t303
      | true =>
        refine x_if_eqF dL_isLogSo_282 (by decide) ?_
        have hv : val >>> (nI (7 - q % 9) &&& 31) &&& nI 1 = wi := by
          rw [hval, val_eq hk (by omega) hm (hm1 ht) em, ← hb k hk ht]
          unfold pBit
          rw [nI_sub (by omega)]
          rfl
        refine x_iload dL_isLogSo_285 rfl ?_
        refine x_bipush (nI 7) dL_isLogSo_287 (by decide) ?_
        refine x_iload dL_isLogSo_289 rfl ?_
        refine x_bipush (nI 9) dL_isLogSo_291 (by decide) ?_
        refine x_iremN dL_isLogSo_293 (by omega) (by omega) (by omega) ?_
        refine x_isubN dL_isLogSo_294 (by omega) ?_
        refine x_ishr dL_isLogSo_295 ?_
        refine x_iconst (nI 1) dL_isLogSo_296 (by decide) ?_
        refine x_iand dL_isLogSo_297 ?_
        refine x_iload dL_isLogSo_298 rfl ?_
        refine x_icmp_neF dL_isLogSo_300 (hv) ?_ 307 (by decide)
        exact t303
theorem lp_log2 (hC : Cl σ J R Z H h K e n t a b) (hGI : GI c Z) {p L : Nat} (hp : p < 27) (hL : L ≤ 64) (e10 : Z 8 10 = nI L) (h0 : cn (tk Z) 4 = 0 → p = 0) (hT : TkX p L Z) {u2 : Option Value} {g : GX} {cx : CX} {F : State → Prop} : ∀ (i q : Nat) (u5 u6 u7 u8 u9 : Option Value), q + i = p → (∀ u4 u5 u6 u7 u8 u9, X g cx mL_isLogSo F (0, 0) 321 [some (.ref 0), some (.int (nI p)), u2, some (.int (nI 1)), u4, u5, u6, u7, u8, u9] [] 131 J R) → X g cx mL_isLogSo F (0, 0) 126 [some (.ref 0), some (.int (nI p)), u2, some (.int (nI 1)), some (.int (nI (q))), u5, u6, u7, u8, u9] [] 131 J R := by
  intro i
  induction i with
  | zero =>
    intro q u5 u6 u7 u8 u9 hq hx
    obtain rfl : q = p := by omega
    refine x_iload dL_isLogSo_126 rfl ?_
    refine x_iload_n dL_isLogSo_128 rfl rfl ?_
    refine x_icmp_geN 321 dL_isLogSo_129 (by decide) (by omega) (by omega) (fun c129 => ?_) (fun c129 => ?_)
    · skip
      exact hx _ _ _ _ _ _
    · skip
      exact absurd c129 (by omega)
  | succ i ih =>
    intro q u5 u6 u7 u8 u9 hqi hx
    have hq : q < p := by omega
    have hcn : ¬ cn (tk Z) 4 = 0 := fun z => by have := h0 z; omega
    have h4 := cn4 (tk Z)
    obtain ⟨hpL, hTq⟩ := hT hcn
    obtain ⟨g1, g2, g3⟩ := hTq q hq
    have ei : L - 1 - (p - 1 - q) = L - p + q := by omega
    obtain ⟨wi, ewi⟩ : ∃ wi, Z 9 (4 * (L - p + q)) = wi := ⟨_, rfl⟩
    rw [ewi] at g2 g3
    have t315 : ∀ u7 u8 u9, X g cx mL_isLogSo F (0, 0) 315 [some (.ref 0), some (.int (nI p)), u2, some (.int (nI 1)), some (.int (nI q)), some (.int (nI (p - 1 - q))), some (.int wi), u7, u8, u9] [] 131 J R := fun u7 u8 u9 => by
      refine x_iincN 1 dL_isLogSo_315 rfl (by decide) (by decide) ?_
      refine x_goto 126 dL_isLogSo_318 (by decide) ?_
      exact ih (q + 1) _ _ _ _ _ (by omega) hx
    have t210 : X g cx mL_isLogSo F (0, 0) 210 [some (.ref 0), some (.int (nI p)), u2, some (.int (nI 1)), some (.int (nI q)), some (.int (nI (p - 1 - q))), some (.int wi), u7, u8, u9] [] 131 J R := by
      refine x_iconst (nI 1) dL_isLogSo_210 (by decide) ?_
      refine x_goto 215 dL_isLogSo_211 (by decide) ?_
      refine x_istore_n dL_isLogSo_215 rfl (by decide) ?_
      refine x_iconst (nI 0) dL_isLogSo_216 (by decide) ?_
      refine x_istore dL_isLogSo_217 (by decide) ?_
      skip
      by_cases h9 : q % 9 = 8
      · skip
        refine x_iload dL_isLogSo_219 rfl ?_
        refine x_iconst (nI 4) dL_isLogSo_221 (by decide) ?_
        refine x_icmp_geF dL_isLogSo_222 (fun z => absurd ((nI_leI (by omega) (by omega)).mp z) (by omega)) ?_ 315 (by decide)
        refine x_iload dL_isLogSo_225 rfl ?_
        refine x_bipush (nI 9) dL_isLogSo_227 (by decide) ?_
        refine x_iremN dL_isLogSo_229 (by omega) (by omega) (by omega) ?_
        refine x_bipush (nI 8) dL_isLogSo_230 (by decide) ?_
        refine x_icmp_geT 315 dL_isLogSo_232 (by decide) ((nI_leI (by omega) (by omega)).mpr (by omega)) ?_
        exact t315 _ _ _
      · exact lp_log3 hC hGI hp hq h9 (g3 h9) 4 0 _ _ rfl t315
    refine x_iload dL_isLogSo_126 rfl ?_
    refine x_iload_n dL_isLogSo_128 rfl rfl ?_
    refine x_icmp_geN 321 dL_isLogSo_129 (by decide) (by omega) (by omega) (fun c129 => ?_) (fun c129 => ?_)
    · skip
      exact absurd c129 (by omega)
    · skip
      refine x_aload_n dL_isLogSo_132 rfl rfl ?_
      refine x_iconst (nI 1) dL_isLogSo_133 (by decide) ?_
      refine x_callVd0 (mt' := mX5_count) (sp_cnt hC cnt_1) kvX5_count wl_L_49 (by decide) dL_isLogSo_134 xk_0 (by decide) rfl rfl (Nat.le_of_ble_eq_true rfl) ⟨rfl, rfl⟩ (by decide) ?_
      refine x_if_leF dL_isLogSo_137 (fun z => absurd ((nI_le0 (by omega)).mp z) hcn) ?_ 321 (by decide)
      refine x_iload_n dL_isLogSo_140 rfl rfl ?_
      refine x_iconst (nI 1) dL_isLogSo_141 (by decide) ?_
      refine x_isubN dL_isLogSo_142 (by omega) ?_
      refine x_iload dL_isLogSo_143 rfl ?_
      refine x_isubN dL_isLogSo_145 (by omega) ?_
      refine x_istore dL_isLogSo_146 (by decide) ?_
      refine x_aload_n dL_isLogSo_148 rfl rfl ?_
      refine x_iload dL_isLogSo_149 rfl ?_
      refine x_iconst (nI 0) dL_isLogSo_151 (by decide) ?_
      refine x_callVd0 (mt' := mX5_bit) (sp_btk hC hL e10 (by omega) (by omega)) kvX5_bit wl_L_52 (by decide) dL_isLogSo_152 xk_0 (by decide) rfl rfl (Nat.le_of_ble_eq_true rfl) ⟨rfl, rfl⟩ (by decide) ?_
      refine x_eqtop ((congrArg (fun z => Z 9 (4 * z + 0)) ei).trans ewi) ?_
      refine x_istore dL_isLogSo_155 (by decide) ?_
      refine x_iload_n dL_isLogSo_157 rfl rfl ?_
      refine x_if_eqF dL_isLogSo_158 (by decide) ?_ 214 (by decide)
      refine x_aload_n dL_isLogSo_161 rfl rfl ?_
      refine x_iload dL_isLogSo_162 rfl ?_
      refine x_iconst (nI 1) dL_isLogSo_164 (by decide) ?_
      refine x_callVd0 (mt' := mX5_bit) (sp_btk hC hL e10 (by omega) (by omega)) kvX5_bit wl_L_52 (by decide) dL_isLogSo_165 xk_0 (by decide) rfl rfl (Nat.le_of_ble_eq_true rfl) ⟨rfl, rfl⟩ (by decide) ?_
      refine x_eqtop ((congrArg (fun z => Z 9 (4 * z + 1)) ei).trans g1) ?_
      refine x_iconst (nI 1) dL_isLogSo_168 (by decide) ?_
      refine' x_dia_icmp_ne 176 177 dL_isLogSo_169 (by decide) ?_ ?_ ?_; rotate_left 2
      · intro c169 k169
        refine x_iconst (nI 1) dL_isLogSo_172 (by decide) ?_
        refine x_goto 177 dL_isLogSo_173 (by decide) ?_
        exact k169
      · intro c169 k169
        refine x_iconst (nI 0) dL_isLogSo_176 (by decide) ?_
        exact k169
      refine x_iload dL_isLogSo_177 rfl ?_
      refine x_bipush (nI 9) dL_isLogSo_179 (by decide) ?_
      refine x_iremN dL_isLogSo_181 (by omega) (by omega) (by omega) ?_
      refine x_bipush (nI 8) dL_isLogSo_182 (by decide) ?_
      refine' x_dia_icmp_neN 191 192 dL_isLogSo_184 (by decide) (by omega) (by omega) ?_ ?_ ?_; rotate_left 2
      · intro c184 k184
        refine x_iconst (nI 1) dL_isLogSo_187 (by decide) ?_
        refine x_goto 192 dL_isLogSo_188 (by decide) ?_
        exact k184
      · intro c184 k184
        refine x_iconst (nI 0) dL_isLogSo_191 (by decide) ?_
        exact k184
      refine x_icmp_neF dL_isLogSo_192 (pl_eq) ?_ 214 (by decide)
      skip
      by_cases h9 : q % 9 = 8
      · have ew := g2 h9
        subst ew
        refine x_iload dL_isLogSo_195 rfl ?_
        refine x_bipush (nI 9) dL_isLogSo_197 (by decide) ?_
        refine x_iremN dL_isLogSo_199 (by omega) (by omega) (by omega) ?_
        refine x_bipush (nI 8) dL_isLogSo_200 (by decide) ?_
        refine x_icmp_ltF dL_isLogSo_202 (fun z => absurd ((nI_ltI (by omega) (by omega)).mp z) (by omega)) ?_ 210 (by decide)
        refine x_iload dL_isLogSo_205 rfl ?_
        refine x_if_neF dL_isLogSo_207 (rfl) ?_ 214 (by decide)
        exact t210
      · skip
        refine x_iload dL_isLogSo_195 rfl ?_
        refine x_bipush (nI 9) dL_isLogSo_197 (by decide) ?_
        refine x_iremN dL_isLogSo_199 (by omega) (by omega) (by omega) ?_
        refine x_bipush (nI 8) dL_isLogSo_200 (by decide) ?_
        refine x_icmp_ltT 210 dL_isLogSo_202 (by decide) ((nI_ltI (by omega) (by omega)).mpr (by omega)) ?_
        exact t210
theorem sp_isLogSo (hC : Cl σ J R Z H h K e n t a b) (hGI : GI c Z) (hc9 : c ≤ 99999) : Spd mL_isLogSo [.ref 0] J R (some (.int 1)) J := by
  refine Spd.mk (by decide +kernel) (by simp [Value.category]) (Nat.le_of_ble_eq_true rfl) (fun g cx => ?_)
  obtain ⟨p, L, hh, hv⟩ := hGI.1.2.2
  obtain ⟨⟨⟨a3, a7, a10, a4⟩, -, p27, hL, h9⟩, -, -, ⟨-, -, s3, s4⟩, ⟨T, hT, hr⟩, hTk⟩ := hv
  refine x_aload_n dL_isLogSo_0 rfl rfl ?_
  refine x_bipush (nI 6) dL_isLogSo_1 (by decide) ?_
  refine x_callVd0 (mt' := mX5_count) (sp_cnt hC cnt_6) kvX5_count wl_L_49 (by decide) dL_isLogSo_3 xk_0 (by decide) rfl rfl (Nat.le_of_ble_eq_true rfl) ⟨rfl, rfl⟩ (by decide) ?_
  refine x_eqtop a7 ?_
  refine x_istore_n dL_isLogSo_6 rfl (by decide) ?_
  refine x_aload_n dL_isLogSo_7 rfl rfl ?_
  refine x_iconst (nI 0) dL_isLogSo_8 (by decide) ?_
  refine x_callVd0 (mt' := mX5_count) (sp_cnt hC cnt_0) kvX5_count wl_L_49 (by decide) dL_isLogSo_9 xk_0 (by decide) rfl rfl (Nat.le_of_ble_eq_true rfl) ⟨rfl, rfl⟩ (by decide) ?_
  refine x_eqtop a3 ?_
  refine x_iconst (nI 1) dL_isLogSo_12 (by decide) ?_
  refine x_iaddN dL_isLogSo_13 ?_
  refine x_istore_n dL_isLogSo_14 rfl (by decide) ?_
  refine x_iconst (nI 1) dL_isLogSo_15 (by decide) ?_
  refine x_istore_n dL_isLogSo_16 rfl (by decide) ?_
  refine x_iconst (nI 0) dL_isLogSo_17 (by decide) ?_
  refine x_istore dL_isLogSo_18 (by decide) ?_
  skip
  refine lp_log1 hC hc9 hL a10 hT hr L 0 (c + 1) _ _ _ _ _ (by omega) (fun j hj => by have := (hT j (by omega)).2; omega) (by omega) (fun u2 u4 u5 u6 u7 u8 u9 => ?_)
  refine x_iconst (nI 0) dL_isLogSo_123 (by decide) ?_
  refine x_istore dL_isLogSo_124 (by decide) ?_
  skip
  refine lp_log2 hC hGI p27 hL a10 s4 hTk p 0 _ _ _ _ _ (by omega) (fun u4 u5 u6 u7 u8 u9 => ?_)
  refine x_iload_n dL_isLogSo_321 rfl rfl ?_
  refine x_zret dL_isLogSo_322 rfl rfl (by decide) (by decide) ?_
  exact ⟨rfl, rfl, rfl, rfl⟩
end CL
