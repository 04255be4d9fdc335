/-! the law's fourth check: what some ticks bring is as told -/
/-- what a speaker's messages do in T ticks -/
def Dl (Z : MI) (T k : Nat) : Int32 := pTk Z T k 2 - Z k 2
section CL
variable {σ : Nat → Nat} {R : MR} {Z : MI} {H : Nat → MI} {h : Nat} {K : MI} {e : Bool} {n : Nat} {t : Nat → Int32} {a b : Int32} {c T : Nat}
theorem lp_if1 {g : GX} (h30 : g.1.2 30 = 2) (h1 : 1 ≤ T) (hT : T ≤ 100) {cx : CX} {F : State → Prop} : ∀ (i k : Nat) (J : MI), k + i = 4 → Cl σ J R Z H h K e n t a b → (∀ j, j < k → J 1020 j = Dl Z T j ∧ J 1021 j = Z j 2) → (∀ J, Cl σ J R Z H h K e n t a b → (∀ j, j < 4 → J 1020 j = Dl Z T j ∧ J 1021 j = Z j 2) → X g cx mL_areIfsSo F (2, 8) 106 [some (.ref 0), some (.int (nI T)), some (.int (pEmp Z)), some (.int (nI c)), some (.int (sm (Dl Z T) 4)), some (.ref 1020), some (.ref 1021), some (.int (nI 1)), some (.int (nI (4)))] [] 131 J R) → X g cx mL_areIfsSo F (2, 8) 60 [some (.ref 0), some (.int (nI T)), some (.int (pEmp Z)), some (.int (nI c)), some (.int (sm (Dl Z T) k)), some (.ref 1020), some (.ref 1021), some (.int (nI 1)), some (.int (nI (k)))] [] 131 J R := by
  intro i
  induction i with
  | zero =>
    intro k J hk hC hD hx
    obtain rfl : k = 4 := by omega
    refine x_iload dL_areIfsSo_60 rfl ?_
    refine x_iconst (nI 4) dL_areIfsSo_62 (by decide) ?_
    refine x_icmp_geN 106 dL_areIfsSo_63 (by decide) (by omega) (by omega) (fun c63 => ?_) (fun c63 => ?_)
    · skip
      exact hx _ hC hD
    · skip
      exact absurd c63 (by omega)
  | succ i ih =>
    intro k J hki hC hD hx
    have hk : k < 4 := by omega
    refine x_iload dL_areIfsSo_60 rfl ?_
    refine x_iconst (nI 4) dL_areIfsSo_62 (by decide) ?_
    refine x_icmp_geN 106 dL_areIfsSo_63 (by decide) (by omega) (by omega) (fun c63 => ?_) (fun c63 => ?_)
    · skip
      exact absurd c63 (by omega)
    · skip
      refine x_aload dL_areIfsSo_66 rfl ?_
      refine x_iload dL_areIfsSo_68 rfl ?_
      refine x_aload_n dL_areIfsSo_70 rfl rfl ?_
      refine x_iload dL_areIfsSo_71 rfl ?_
      refine x_iload_n dL_areIfsSo_73 rfl rfl ?_
      refine x_callV (mt' := mX5_ifRun) (sp_ifRun hC _ _) kvX5_ifRun wl_L_59 (by decide) dL_areIfsSo_74 xk_0 (by decide) rfl rfl (Nat.le_of_ble_eq_true rfl) (fun r' n' J2 R2 hq => ?_)
      obtain ⟨rfl, rfl, hH, rfl, hC⟩ := hq
      refine x_eqtop (pIf_k (Z := Z) hk h1 (by omega)) ?_
      refine x_istW (j := 0) (k := k) dL_areIfsSo_77 (by omega) (nI_pos (by omega)) (nI_clamp (by omega)) hk ?_
      have hC := hC.hi (J' := xuI J2 (1020 + 0) k (pTk Z T k 2 - Z k 2)) (fun x hx => xuI_row (by omega))
      refine x_aload dL_areIfsSo_78 rfl ?_
      refine x_iload dL_areIfsSo_80 rfl ?_
      refine x_aload_n dL_areIfsSo_82 rfl rfl ?_
      refine x_iload dL_areIfsSo_83 rfl ?_
      refine x_iconst (nI 2) dL_areIfsSo_85 (by decide) ?_
      refine x_callVd0 (mt' := mX5_speaker) (sp_spk hC (by omega) (by omega)) kvX5_speaker wl_L_14 (by decide) dL_areIfsSo_86 xk_0 (by decide) rfl rfl (Nat.le_of_ble_eq_true rfl) ⟨rfl, rfl⟩ (by decide) ?_
      refine x_istW (j := 1) (k := k) dL_areIfsSo_89 (by omega) (nI_pos (by omega)) (nI_clamp (by omega)) hk ?_
      refine x_iload dL_areIfsSo_90 rfl ?_
      refine x_aload dL_areIfsSo_92 rfl ?_
      refine x_iload dL_areIfsSo_94 rfl ?_
      refine x_ildW (j := 0) (k := k) dL_areIfsSo_96 (by omega) (nI_pos (by omega)) (nI_clamp (by omega)) hk ?_
      refine x_eqtop (y := Dl Z T k) ((congrFun (xuI_row (by omega)) k).trans xuI_self) ?_
      refine x_iadd dL_areIfsSo_97 ?_
      refine x_istore dL_areIfsSo_98 (by decide) ?_
      refine x_iincN 1 dL_areIfsSo_100 rfl (by decide) (by decide) ?_
      refine x_goto 60 dL_areIfsSo_103 (by decide) ?_
      refine ih (k + 1) _ (by omega) (hC.hi (fun x hx => xuI_row (by omega))) (fun j hj => ?_) hx
      have r0 := congrFun (hH 1020 (by omega)) j
      have r1 := congrFun (hH 1021 (by omega)) j
      by_cases q : j = k
      · subst q
        exact ⟨(congrFun (xuI_row (by omega)) j).trans xuI_self, xuI_self⟩
      · obtain ⟨d1, d2⟩ := hD j (by omega)
        refine ⟨?_, ?_⟩
        · rw [xuI_at (by omega), xuI_at (by omega), r0]; exact d1
        · rw [xuI_at (by omega), xuI_at (by omega), r1]; exact d2
theorem dl_add {c : Nat} {Z : MI} (hGI : GI c Z) {k : Nat} (hk : k < 4) (T : Nat) : pTk Z T k 2 = Z k 2 + Dl Z T k := by
  obtain ⟨a, b, -, -, e1, e2⟩ := CM_pTk hGI hk T
  unfold Dl
  rw [e1, e2, nI_sub (by omega), nI_add]
  congr 1
  omega
theorem lp_if2 {g : GX} (h30 : g.1.2 30 = 2) {J : MI} {Z0 : MI} (hC : Cl σ J R (pTk Z T) H h K e n t a b) (hGI : GI c Z) (hD : ∀ j, j < 4 → J 1020 j = Dl Z T j ∧ J 1021 j = Z j 2) {cx : CX} {F : State → Prop} : ∀ (i k : Nat), k + i = 4 → X g cx mL_areIfsSo F (2, 8) 187 [some (.ref 0), some (.int (nI T)), some (.int (pEmp Z)), some (.int (nI c)), some (.int (sm (Dl Z T) 4)), some (.ref 1020), some (.ref 1021), some (.int (nI 1)), some (.int (nI (4)))] [] 131 J R → X g cx mL_areIfsSo F (2, 8) 142 [some (.ref 0), some (.int (nI T)), some (.int (pEmp Z)), some (.int (nI c)), some (.int (sm (Dl Z T) 4)), some (.ref 1020), some (.ref 1021), some (.int (nI 1)), some (.int (nI (k)))] [] 131 J R := by
  intro i
  induction i with
  | zero =>
    intro k hk hx
    obtain rfl : k = 4 := by omega
    refine x_iload dL_areIfsSo_142 rfl ?_
    refine x_iconst (nI 4) dL_areIfsSo_144 (by decide) ?_
    refine x_icmp_geN 187 dL_areIfsSo_145 (by decide) (by omega) (by omega) (fun c145 => ?_) (fun c145 => ?_)
    · skip
      exact hx
    · skip
      exact absurd c145 (by omega)
  | succ i ih =>
    intro k hki hx
    have hk : k < 4 := by omega
    obtain ⟨d1, d2⟩ := hD k hk
    refine x_iload dL_areIfsSo_142 rfl ?_
    refine x_iconst (nI 4) dL_areIfsSo_144 (by decide) ?_
    refine x_icmp_geN 187 dL_areIfsSo_145 (by decide) (by omega) (by omega) (fun c145 => ?_) (fun c145 => ?_)
    · skip
      exact absurd c145 (by omega)
    · skip
      refine x_iload dL_areIfsSo_148 rfl ?_
      refine x_if_eqF dL_areIfsSo_150 (by decide) ?_ 178 (by decide)
      refine x_aload_n dL_areIfsSo_153 rfl rfl ?_
      refine x_iload dL_areIfsSo_154 rfl ?_
      refine x_iconst (nI 2) dL_areIfsSo_156 (by decide) ?_
      refine x_callVd0 (mt' := mX5_speaker) (sp_spk hC (by omega) (by omega)) kvX5_speaker wl_L_14 (by decide) dL_areIfsSo_157 xk_0 (by decide) rfl rfl (Nat.le_of_ble_eq_true rfl) ⟨rfl, rfl⟩ (by decide) ?_
      refine x_aload dL_areIfsSo_160 rfl ?_
      refine x_iload dL_areIfsSo_162 rfl ?_
      refine x_ildW (j := 1) (k := k) dL_areIfsSo_164 (by omega) (nI_pos (by omega)) (nI_clamp (by omega)) hk ?_
      refine x_eqtop d2 ?_
      refine x_aload dL_areIfsSo_165 rfl ?_
      refine x_iload dL_areIfsSo_167 rfl ?_
      refine x_ildW (j := 0) (k := k) dL_areIfsSo_169 (by omega) (nI_pos (by omega)) (nI_clamp (by omega)) hk ?_
      refine x_eqtop d1 ?_
      refine x_iadd dL_areIfsSo_170 ?_
      refine x_icmp_neF dL_areIfsSo_171 (dl_add hGI hk T) ?_ 178 (by decide)
      refine x_iconst (nI 1) dL_areIfsSo_174 (by decide) ?_
      refine x_goto 179 dL_areIfsSo_175 (by decide) ?_
      refine x_istore dL_areIfsSo_179 (by decide) ?_
      refine x_iincN 1 dL_areIfsSo_181 rfl (by decide) (by decide) ?_
      refine x_goto 142 dL_areIfsSo_184 (by decide) ?_
      exact ih (k + 1) (by omega) hx
theorem sp_areIfsSo {C : Nat} {J : MI} (hG0 : GS C J R) (hC9 : C ≤ 9000) (h1 : 1 ≤ T) (hT : T ≤ 100) : Sp0 mL_areIfsSo [.ref 0, .int (nI T)] 131 J R (fun r n' J' R' => r = some (.int 1) ∧ n' = 131 ∧ GS C J' R') := by
  obtain ⟨σ, Z, H, h, K, e, n, t, a, b, hC, c, hcC, hGI⟩ := hG0
  refine Sp0.mk (by decide +kernel) (by simp [Value.category]) (Nat.le_of_ble_eq_true rfl) (fun g cx hg => ?_)
  have hNB := hGI.nb
  have hck := hGI.ck
  obtain ⟨er, b0, b1, b2, b3, hb, es, d0, d1, d2, d3⟩ := ok_run (n := T) hGI h1 (by omega) (by omega)
  have hsaid : pCame (pTk Z T) - pCame Z = sm (Dl Z T) 4 := by
    rw [es]
    show _ = (((nI 0 + (pTk Z T 0 2 - Z 0 2)) + (pTk Z T 1 2 - Z 1 2)) + (pTk Z T 2 2 - Z 2 2)) + (pTk Z T 3 2 - Z 3 2)
    rw [d0, d1, d2, d3, nI_add, nI_add, nI_add, nI_add]
    congr 1
    omega
  have hemp := emp_ticks hNB T hT
  have hin0 : pEmp Z = 0 ↔ pMs Z = 0 := by
    rcases hemp with ⟨E, hE, e1, e2, -⟩ | ⟨e1, e2, -⟩
    · rw [e1, e2]
      exact ⟨fun q => nI_inj (b := 0) (by omega) (by omega) q, fun q => by rw [q]; rfl⟩
    · rw [e1]
      exact ⟨fun q => absurd q (by decide), fun q => absurd q e2⟩
  refine x_aload_n dL_areIfsSo_0 rfl rfl ?_
  refine x_callV (mt' := mX5_emptyIn) (sp_emptyIn hC) kvX5_emptyIn wl_L_55 (by decide) dL_areIfsSo_1 xk_0 (by decide) rfl rfl (Nat.le_of_ble_eq_true rfl) (fun r' n' J1 R1 hq => ?_)
  obtain ⟨rfl, rfl, -, rfl, hC⟩ := hq
  refine x_istore_n dL_areIfsSo_4 rfl (by decide) ?_
  refine x_aload_n dL_areIfsSo_5 rfl rfl ?_
  refine x_iconst (nI 0) dL_areIfsSo_6 (by decide) ?_
  refine x_callVd0 (mt' := mX5_count) (sp_cnt hC cnt_0) kvX5_count wl_L_49 (by decide) dL_areIfsSo_7 xk_0 (by decide) rfl rfl (Nat.le_of_ble_eq_true rfl) ⟨rfl, rfl⟩ (by decide) ?_
  refine x_eqtop hck ?_
  refine x_istore_n dL_areIfsSo_10 rfl (by decide) ?_
  refine x_iconst (nI 0) dL_areIfsSo_11 (by decide) ?_
  refine x_istore dL_areIfsSo_12 (by decide) ?_
  refine x_iconst (nI 4) dL_areIfsSo_14 (by decide) ?_
  skip
  refine x_newW (j := 0) hg (by omega) rfl hC.ob.rc wa_int (by decide) (by decide) dL_areIfsSo_15 (fun g1 hE1 h31 => ?_)
  have hC := hC.hi (J' := rw1 J1 (1020 + 0) (fun _ => 0)) (fun x hx => rw1_ne (by omega))
  refine x_astore dL_areIfsSo_17 (by decide) ?_
  refine x_iconst (nI 4) dL_areIfsSo_19 (by decide) ?_
  refine x_newW (j := 1) h31 (by omega) rfl hC.ob.rc wa_int (by decide) (by decide) dL_areIfsSo_20 (fun g2 hE2 h32 => ?_)
  have hE := hE1.tr hE2
  have hC := hC.hi (J' := rw1 (rw1 J1 (1020 + 0) (fun _ => 0)) (1020 + 1) (fun _ => 0)) (fun x hx => rw1_ne (by omega))
  refine x_astore dL_areIfsSo_22 (by decide) ?_
  refine x_iload_n dL_areIfsSo_24 rfl rfl ?_
  refine' x_dia_if_ne 32 33 dL_areIfsSo_25 (by decide) ?_ ?_ ?_; rotate_left 2
  · intro c25 k25
    refine x_iconst (nI 1) dL_areIfsSo_28 (by decide) ?_
    refine x_goto 33 dL_areIfsSo_29 (by decide) ?_
    exact k25
  · intro c25 k25
    refine x_iconst (nI 0) dL_areIfsSo_32 (by decide) ?_
    exact k25
  refine x_aload_n dL_areIfsSo_33 rfl rfl ?_
  refine x_bipush (nI 7) dL_areIfsSo_34 (by decide) ?_
  refine x_callVd0 (mt' := mX5_count) (sp_cnt hC cnt_7) kvX5_count wl_L_49 (by decide) dL_areIfsSo_36 xk_0 (by decide) rfl rfl (Nat.le_of_ble_eq_true rfl) ⟨rfl, rfl⟩ (by decide) ?_
  refine' x_dia_if_ne 46 47 dL_areIfsSo_39 (by decide) ?_ ?_ ?_; rotate_left 2
  · intro c39 k39
    refine x_iconst (nI 1) dL_areIfsSo_42 (by decide) ?_
    refine x_goto 47 dL_areIfsSo_43 (by decide) ?_
    exact k39
  · intro c39 k39
    refine x_iconst (nI 0) dL_areIfsSo_46 (by decide) ?_
    exact k39
  refine x_icmp_neF dL_areIfsSo_47 (eq_10 hin0) ?_ 54 (by decide)
  refine x_iconst (nI 1) dL_areIfsSo_50 (by decide) ?_
  refine x_goto 55 dL_areIfsSo_51 (by decide) ?_
  refine x_istore dL_areIfsSo_55 (by decide) ?_
  refine x_iconst (nI 0) dL_areIfsSo_57 (by decide) ?_
  refine x_istore dL_areIfsSo_58 (by decide) ?_
  skip
  refine lp_if1 (c := c) h32 h1 hT 4 0 _ rfl hC (fun j hj => absurd hj (by omega)) (fun J3 hC hD => ?_)
  refine x_iload dL_areIfsSo_106 rfl ?_
  refine x_if_eqF dL_areIfsSo_108 (by decide) ?_
  refine x_aload_n dL_areIfsSo_111 rfl rfl ?_
  refine x_iload_n dL_areIfsSo_112 rfl rfl ?_
  refine x_callV (mt' := mX5_run) (sp_run hC _) kvX5_run wl_L_39 (by decide) dL_areIfsSo_113 xk_0 (by decide) rfl rfl (Nat.le_of_ble_eq_true rfl) (fun r' n' J4 R4 hq => ?_)
  obtain ⟨rfl, rfl, hH4, hq⟩ := hq
  have hC4 : Cl (sN σ h) J4 R4 (pTk Z T) (pH H h Z) (hN h) K e n t a b := by
    rcases hq with ⟨q, -⟩ | ⟨-, hC4⟩
    · rw [er] at q
      dsimp only at q
      rw [es] at q
      exact absurd q (nI_nn (by omega))
    · rw [er] at hC4
      exact hC4
  have hD4 : ∀ j, j < 4 → J4 1020 j = Dl Z T j ∧ J4 1021 j = Z j 2 := fun j hj => by
    rw [hH4 1020 (by omega), hH4 1021 (by omega)]; exact hD j hj
  have hckT : pTk Z T 8 3 = nI (c + T) := (GI_pTk hGI T).ck
  refine x_iload dL_areIfsSo_116 rfl ?_
  refine x_icmp_neF dL_areIfsSo_118 (((congrArg (fun q => q.1) er).trans hsaid)) ?_ 136 (by decide)
  refine x_aload_n dL_areIfsSo_121 rfl rfl ?_
  refine x_iconst (nI 0) dL_areIfsSo_122 (by decide) ?_
  refine x_callVd0 (mt' := mX5_count) (sp_cnt hC4 cnt_0) kvX5_count wl_L_49 (by decide) dL_areIfsSo_123 xk_0 (by decide) rfl rfl (Nat.le_of_ble_eq_true rfl) ⟨rfl, rfl⟩ (by decide) ?_
  refine x_eqtop hckT ?_
  refine x_iload_n dL_areIfsSo_126 rfl rfl ?_
  refine x_iload_n dL_areIfsSo_127 rfl rfl ?_
  refine x_iaddN dL_areIfsSo_128 ?_
  refine x_icmp_neF dL_areIfsSo_129 (rfl) ?_ 136 (by decide)
  refine x_iconst (nI 1) dL_areIfsSo_132 (by decide) ?_
  refine x_goto 137 dL_areIfsSo_133 (by decide) ?_
  refine x_istore dL_areIfsSo_137 (by decide) ?_
  refine x_iconst (nI 0) dL_areIfsSo_139 (by decide) ?_
  refine x_istore dL_areIfsSo_140 (by decide) ?_
  skip
  refine lp_if2 (Z0 := Z) h32 hC4 hGI hD4 4 0 rfl ?_
  obtain ⟨htop, hh0, hh4⟩ := pH_top (H := H) (h := h) (Z := Z) hC.h4
  have t269 : ∀ J5, Cl (sN σ h) J5 R4 (pTk Z T) (pH H h Z) (hN h) K e n t a b → X g2 cx mL_areIfsSo (xF g cx mL_areIfsSo (fun r n' J' R' => r = some (.int 1) ∧ n' = 131 ∧ GS C J' R')) (2, 8) 269 [some (.ref 0), some (.int (nI T)), some (.int (pEmp Z)), some (.int (nI c)), some (.int (sm (Dl Z T) 4)), some (.ref 1020), some (.ref 1021), some (.int (nI 1)), some (.int (nI (4)))] [] 131 J5 R4 := fun J5 hC5 => by
    refine x_iconst (nI 1) dL_areIfsSo_269 (by decide) ?_
    refine x_goto 274 dL_areIfsSo_270 (by decide) ?_
    refine x_istore dL_areIfsSo_274 (by decide) ?_
    refine x_aload_n dL_areIfsSo_276 rfl rfl ?_
    refine x_callV (mt' := mX5_undo) (sp_undo hC5 hh0) kvX5_undo wl_L_62 (by decide) dL_areIfsSo_277 xk_0 (by decide) rfl rfl (Nat.le_of_ble_eq_true rfl) (fun r' n' J6 R6 hq => ?_)
    obtain ⟨rfl, rfl, -, rfl, hC6⟩ := hq
    rw [htop] at hC6
    refine x_istore dL_areIfsSo_280 (by decide) ?_
    refine x_iload dL_areIfsSo_282 rfl ?_
    refine x_if_eqF dL_areIfsSo_284 (by decide) ?_ 305 (by decide)
    refine x_iload dL_areIfsSo_287 rfl ?_
    refine x_if_ltF dL_areIfsSo_289 (nI_nn (by omega)) ?_ 305 (by decide)
    refine x_aload_n dL_areIfsSo_292 rfl rfl ?_
    refine x_iconst (nI 0) dL_areIfsSo_293 (by decide) ?_
    refine x_callVd0 (mt' := mX5_count) (sp_cnt hC6 cnt_0) kvX5_count wl_L_49 (by decide) dL_areIfsSo_294 xk_0 (by decide) rfl rfl (Nat.le_of_ble_eq_true rfl) ⟨rfl, rfl⟩ (by decide) ?_
    refine x_eqtop hck ?_
    refine x_iload_n dL_areIfsSo_297 rfl rfl ?_
    refine x_icmp_neF dL_areIfsSo_298 (rfl) ?_ 305 (by decide)
    refine x_iconst (nI 1) dL_areIfsSo_301 (by decide) ?_
    refine x_goto 306 dL_areIfsSo_302 (by decide) ?_
    skip
    refine x_backW hE hg hC6.ob.rc rfl ?_
    refine x_zret dL_areIfsSo_306 rfl rfl (by decide) (by decide) ?_
    exact ⟨rfl, rfl, ⟨_, _, _, _, _, _, _, _, _, _, hC6, c, hcC, hGI⟩⟩
  rcases hemp with ⟨E, hE1000, e1, -, g1, g2', g3⟩ | ⟨e1, -, g1⟩
  · rw [e1]
    rw [e1] at t269
    have t228 : X g2 cx mL_areIfsSo (xF g cx mL_areIfsSo (fun r n' J' R' => r = some (.int 1) ∧ n' = 131 ∧ GS C J' R')) (2, 8) 228 [some (.ref 0), some (.int (nI T)), some (.int (nI E)), some (.int (nI c)), some (.int (sm (Dl Z T) 4)), some (.ref 1020), some (.ref 1021), some (.int (nI 1)), some (.int (nI (4)))] [] 131 J4 R4 := by
      refine x_iload_n dL_areIfsSo_228 rfl rfl ?_
      refine x_if_geT 254 dL_areIfsSo_229 (by decide) (Int32.not_lt.mp (nI_nn (by omega))) ?_
      refine x_iload_n dL_areIfsSo_254 rfl rfl ?_
      refine x_iload_n dL_areIfsSo_255 rfl rfl ?_
      refine x_icmp_ltN 269 dL_areIfsSo_256 (by decide) (by omega) (by omega) (fun q => t269 _ hC4) (fun q => ?_)
      refine x_aload_n dL_areIfsSo_259 rfl rfl ?_
      refine x_callV (mt' := mX5_emptyIn) (sp_emptyIn hC4) kvX5_emptyIn wl_L_55 (by decide) dL_areIfsSo_260 xk_0 (by decide) rfl rfl (Nat.le_of_ble_eq_true rfl) (fun r' n' J5 R5 hq => ?_)
      obtain ⟨rfl, rfl, -, rfl, hC5⟩ := hq
      refine x_eqtop (g3 (by omega)) ?_
      refine x_iload_n dL_areIfsSo_263 rfl rfl ?_
      refine x_iload_n dL_areIfsSo_264 rfl rfl ?_
      refine x_isubN dL_areIfsSo_265 (by omega) ?_
      exact x_icmp_neF dL_areIfsSo_266 rfl (t269 _ hC5)
    have t210 : X g2 cx mL_areIfsSo (xF g cx mL_areIfsSo (fun r n' J' R' => r = some (.int 1) ∧ n' = 131 ∧ GS C J' R')) (2, 8) 210 [some (.ref 0), some (.int (nI T)), some (.int (nI E)), some (.int (nI c)), some (.int (sm (Dl Z T) 4)), some (.ref 1020), some (.ref 1021), some (.int (nI 1)), some (.int (nI (4)))] [] 131 J4 R4 := by
      refine x_iload_n dL_areIfsSo_210 rfl rfl ?_
      refine x_if_ltF dL_areIfsSo_211 (nI_nn (by omega)) ?_
      refine x_iload_n dL_areIfsSo_214 rfl rfl ?_
      refine x_iload_n dL_areIfsSo_215 rfl rfl ?_
      refine x_icmp_leN 228 dL_areIfsSo_216 (by decide) (by omega) (by omega) (fun q => t228) (fun q => ?_)
      have hne := g2' (by omega)
      refine x_aload_n dL_areIfsSo_219 rfl rfl ?_
      refine x_bipush (nI 7) dL_areIfsSo_220 (by decide) ?_
      refine x_callVd0 (mt' := mX5_count) (sp_cnt hC4 cnt_7) kvX5_count wl_L_49 (by decide) dL_areIfsSo_222 xk_0 (by decide) rfl rfl (Nat.le_of_ble_eq_true rfl) ⟨rfl, rfl⟩ (by decide) ?_
      refine x_if_leF dL_areIfsSo_225 (fun z => hne ((pMs_le (NB_pTk hNB T)).mp z)) ?_ 273 (by decide)
      exact t228
    refine x_iload dL_areIfsSo_187 rfl ?_
    refine x_if_eqF dL_areIfsSo_189 (by decide) ?_
    refine x_iload_n dL_areIfsSo_192 rfl rfl ?_
    refine x_if_ltF dL_areIfsSo_193 (nI_nn (by omega)) ?_
    refine x_iload_n dL_areIfsSo_196 rfl rfl ?_
    refine x_iload_n dL_areIfsSo_197 rfl rfl ?_
    refine x_icmp_gtN 210 dL_areIfsSo_198 (by decide) (by omega) (by omega) (fun q => t210) (fun q => ?_)
    have h0 := g1 (by omega)
    refine x_aload_n dL_areIfsSo_201 rfl rfl ?_
    refine x_bipush (nI 7) dL_areIfsSo_202 (by decide) ?_
    refine x_callVd0 (mt' := mX5_count) (sp_cnt hC4 cnt_7) kvX5_count wl_L_49 (by decide) dL_areIfsSo_204 xk_0 (by decide) rfl rfl (Nat.le_of_ble_eq_true rfl) ⟨rfl, rfl⟩ (by decide) ?_
    refine x_if_neF dL_areIfsSo_207 (h0) ?_ 273 (by decide)
    exact t210
  · rw [e1]
    rw [e1] at t269
    refine x_iload dL_areIfsSo_187 rfl ?_
    refine x_if_eqF dL_areIfsSo_189 (by decide) ?_
    refine x_iload_n dL_areIfsSo_192 rfl rfl ?_
    refine x_if_ltT 210 dL_areIfsSo_193 (by decide) (by decide) ?_
    refine x_iload_n dL_areIfsSo_210 rfl rfl ?_
    refine x_if_ltT 228 dL_areIfsSo_211 (by decide) (by decide) ?_
    refine x_iload_n dL_areIfsSo_228 rfl rfl ?_
    refine x_if_geF dL_areIfsSo_229 (by decide) ?_
    refine x_aload_n dL_areIfsSo_232 rfl rfl ?_
    refine x_callV (mt' := mX5_emptyIn) (sp_emptyIn hC4) kvX5_emptyIn wl_L_55 (by decide) dL_areIfsSo_233 xk_0 (by decide) rfl rfl (Nat.le_of_ble_eq_true rfl) (fun r' n' J5 R5 hq => ?_)
    obtain ⟨rfl, rfl, -, rfl, hC5⟩ := hq
    rcases g1 with g1 | ⟨E', hE', hlt, g1⟩
    · exact x_if_ltT 269 dL_areIfsSo_236 (by decide) (by rw [g1]; decide) (t269 _ hC5)
    · refine x_if_ltF dL_areIfsSo_236 (by rw [g1]; exact nI_nn (by omega)) ?_
      refine x_aload_n dL_areIfsSo_239 rfl rfl ?_
      refine x_callV (mt' := mX5_emptyIn) (sp_emptyIn hC5) kvX5_emptyIn wl_L_55 (by decide) dL_areIfsSo_240 xk_0 (by decide) rfl rfl (Nat.le_of_ble_eq_true rfl) (fun r' n' J6 R6 hq => ?_)
      obtain ⟨rfl, rfl, -, rfl, hC6⟩ := hq
      refine x_eqtop g1 ?_
      refine x_sipush (nI 1000) dL_areIfsSo_243 (by decide) ?_
      refine x_iload_n dL_areIfsSo_246 rfl rfl ?_
      refine x_isubN dL_areIfsSo_247 (by omega) ?_
      refine x_icmp_leF dL_areIfsSo_248 (fun q => by have := (nI_leI (by omega) (by omega)).mp q; omega) ?_
      refine x_goto 269 dL_areIfsSo_251 (by decide) ?_
      exact t269 _ hC6
end CL
