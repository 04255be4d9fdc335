
/-! the class: stuck ticks -/
theorem xuI_cm {Z : MI} {k w w' : Nat} {v v' : Int32} (h : w ≠ w') : xuI (xuI Z k w v) k w' v' = xuI (xuI Z k w' v') k w v := by
  funext a b
  by_cases h1 : a = k ∧ b = w'
  · obtain ⟨rfl, rfl⟩ := h1
    rw [xuI_self, xuI_col (Ne.symm h), xuI_self]
  · rw [xuI_at h1]
    by_cases h2 : a = k ∧ b = w
    · obtain ⟨rfl, rfl⟩ := h2
      rw [xuI_self, xuI_self]
    · rw [xuI_at h2, xuI_at h2, xuI_at h1]
theorem sh_eq {x y : Int32} : (if x < y then nI 0 else nI 1) = bi (decide (y ≤ x)) := by
  by_cases h : x < y
  · rw [if_pos h, decide_eq_false (Int32.not_le.mpr h)]; rfl
  · rw [if_neg h, decide_eq_true (Int32.not_lt.mp h)]; rfl
theorem pStC_no {V : MI} {sh : Bool} (h : bi sh = 0) : pStC V sh = pUs V sh 4 := by
  unfold pStC
  rw [if_pos h, if_pos h, xuI_id (v := V 8 9 + nI 0), xuI_id]
  · rw [pUs_ge (by omega)]
  · rw [pUs_ge (by omega)]; exact (Int32.add_zero _).symm
theorem pStC_yes {V : MI} {sh : Bool} (h : ¬ bi sh = 0) : pStC V sh = xuI (xuI (pUs V sh 4) 8 6 (nI 0)) 8 9 (V 8 9 + nI 1) := by
  unfold pStC
  rw [if_neg h, if_neg h, xuI_cm (by omega)]
section CL
variable {I J0 : MI} {R : MR} {o : Nat} {Z V : MI} {sh : Bool}
theorem lp_stuck {g : GX} {cx : CX} {F : State → Prop} (hS : St R o) : ∀ (m k : Nat) (u : Option Value) (I : MI), k + m = 4 → Off o J0 I → SJ o I (pUs V sh k) → (∀ (u : Option Value) (I : MI), Off o J0 I → SJ o I (pUs V sh 4) → X g cx mX4_stuckTick F (0, 0) 124 [some (.ref o), some (.int (bi sh)), some (.ref (o + 2)), some (.int (nI 4)), some (.int (nI 4)), u] [] 131 I R) → X g cx mX4_stuckTick F (0, 0) 82 [some (.ref o), some (.int (bi sh)), some (.ref (o + 2)), some (.int (nI 4)), some (.int (nI k)), u] [] 131 I R := by
  intro m
  induction m with
  | zero =>
    intro k u I hk hO hJ hx
    obtain rfl : k = 4 := by omega
    refine x_iload dX4_stuckTick_82 rfl ?_
    refine x_iload_n dX4_stuckTick_84 rfl rfl ?_
    refine x_icmp_geN 124 dX4_stuckTick_85 (by decide) (by omega) (by omega) (fun c85 => ?_) (fun c85 => ?_)
    · skip
      exact hx _ _ hO hJ
    · skip
      exact absurd c85 (by omega)
  | succ m ih =>
    intro k u I hk hO hJ hx
    obtain ⟨s, hs, es⟩ := hJ.st (k := k) (by omega)
    have eV : V (4 + k) 2 = nI s := by rw [← es, pUs_ge (Nat.le_refl _)]
    refine x_iload dX4_stuckTick_82 rfl ?_
    refine x_iload_n dX4_stuckTick_84 rfl rfl ?_
    refine x_icmp_geN 124 dX4_stuckTick_85 (by decide) (by omega) (by omega) (fun c85 => ?_) (fun c85 => ?_)
    · skip
      exact absurd c85 (by omega)
    · skip
      refine x_aload_n dX4_stuckTick_88 rfl rfl ?_
      refine x_iload dX4_stuckTick_89 rfl ?_
      refine x_aald (j := k) (c := 9) ⟨by decide, by decide⟩ dX4_stuckTick_91 hS.k2 (hS.lt (by omega)) (nI_pos (by omega)) (nI_clamp (by omega)) (by rw [hS.l2]; omega) (hS.rl (by omega)) ?_
      refine x_astore dX4_stuckTick_92 (by decide) ?_
      refine x_aload dX4_stuckTick_94 rfl ?_
      refine x_iload_n dX4_stuckTick_96 rfl rfl ?_
      refine' x_dia_if_eq 104 115 dX4_stuckTick_97 (by decide) ?_ ?_ ?_; rotate_left 2
      · intro c97 k97
        refine x_iconst (nI 0) dX4_stuckTick_100 (by decide) ?_
        refine x_goto 115 dX4_stuckTick_101 (by decide) ?_
        exact k97
      · intro c97 k97
        refine x_aload dX4_stuckTick_104 rfl ?_
        refine x_getI fl_X4_113 dX4_stuckTick_106 (hS.kl (by omega)) (hS.ltl (by omega)) rfl (x_eqtop (hJ.l2 (by omega)) ?_)
        rw [es]
        refine x_iconst (nI 1) dX4_stuckTick_109 (by decide) ?_
        refine x_isub dX4_stuckTick_110 ?_
        refine x_iconst (nI 0) dX4_stuckTick_111 (by decide) ?_
        refine x_callSd0 (mt' := mJ9_max_7cf53) (sp_max _ _) ktJ9_max_7cf53 wl_X4_166 (by decide) dX4_stuckTick_112 rfl rfl (Nat.le_of_ble_eq_true rfl) ⟨rfl, rfl⟩ (by decide) ?_
        exact k97
      refine x_eqtop (max_v hs) ?_
      refine x_putL hS hO hJ (by omega) (s := if sh = true ∨ s = 0 then 0 else s - 1) (by split <;> omega) fl_X4_113 dX4_stuckTick_115 (fun I hO hJ => ?_)
      refine x_iincN 1 dX4_stuckTick_118 rfl (by decide) (by decide) ?_
      refine x_goto 82 dX4_stuckTick_121 (by decide) ?_
      exact ih (k + 1) _ I (by omega) hO (by rw [← pUs_step (us_n hs eV)]; exact hJ) hx
theorem tl_stuck {g : GX} {cx : CX} (hS : St R o) (hO : Off o J0 I) (hJ : SJ o I V) : X g cx mX4_stuckTick (xF g cx mX4_stuckTick (SQ o J0 R none (pStB V))) (0, 0) 43 [some (.ref o), none, none, none, none, none] [] 131 I R := by
  obtain ⟨V1, hV⟩ : ∃ V1, xuI V 8 6 (V 8 6 + nI 1) = V1 := ⟨_, rfl⟩
  have e6 : V1 8 6 = V 8 6 + nI 1 := by rw [← hV, xuI_self]
  have e2 : V1 8 2 = V 8 2 := by rw [← hV, xuI_col (by omega)]
  have eB : pStB V = pStC V1 (decide (V1 8 2 ≤ V1 8 6)) := by unfold pStB; rw [hV, e6, e2]
  rw [eB]
  refine x_aload_n dX4_stuckTick_43 rfl rfl ?_
  refine x_dup dX4_stuckTick_44 rfl ?_
  refine x_getI fl_X4_65 dX4_stuckTick_45 hS.k0 hS.lt0 rfl (x_eqtop hJ.f8 ?_)
  refine x_iconst (nI 1) dX4_stuckTick_48 (by decide) ?_
  refine x_iadd dX4_stuckTick_49 ?_
  refine x_putS (w := 6) hS hO hJ fl_X4_65 fp_4_8 dX4_stuckTick_50 (by decide) (by decide) rfl (fun I hO hJ => ?_)
  rw [hV] at hJ
  refine x_aload_n dX4_stuckTick_53 rfl rfl ?_
  refine x_getI fl_X4_65 dX4_stuckTick_54 hS.k0 hS.lt0 rfl (x_eqtop hJ.f8 ?_)
  refine x_aload_n dX4_stuckTick_57 rfl rfl ?_
  refine x_iconst (nI 2) dX4_stuckTick_58 (by decide) ?_
  refine x_callVd0 (mt' := mX4_setting) (sp_setting hS hJ (w := 2) (by omega)) kvX4_setting wl_X4_162 (by decide) dX4_stuckTick_59 hS.k0 hS.lt0 rfl rfl (Nat.le_of_ble_eq_true rfl) ⟨rfl, rfl⟩ (by decide) ?_
  refine' x_dia_icmp_lt 69 70 dX4_stuckTick_62 (by decide) ?_ ?_ ?_; rotate_left 2
  · intro c62 k62
    refine x_iconst (nI 1) dX4_stuckTick_65 (by decide) ?_
    refine x_goto 70 dX4_stuckTick_66 (by decide) ?_
    exact k62
  · intro c62 k62
    refine x_iconst (nI 0) dX4_stuckTick_69 (by decide) ?_
    exact k62
  refine x_eqtop sh_eq ?_
  refine x_istore_n dX4_stuckTick_70 rfl (by decide) ?_
  refine x_aload_n dX4_stuckTick_71 rfl rfl ?_
  refine x_getR fl_X4_19 dX4_stuckTick_72 hS.k0 hS.lt0 rfl hS.r1 ?_
  refine x_astore_n dX4_stuckTick_75 rfl (by decide) ?_
  refine x_aload_n dX4_stuckTick_76 rfl rfl ?_
  refine x_alen (v := nI 4) dX4_stuckTick_77 hS.k2 ⟨by decide, by decide⟩ (hS.lt (by omega)) (by rw [hS.l2]; rfl) ?_
  refine x_istore_n dX4_stuckTick_78 rfl (by decide) ?_
  refine x_iconst (nI 0) dX4_stuckTick_79 (by decide) ?_
  refine x_istore dX4_stuckTick_80 (by decide) ?_
  refine lp_stuck hS 4 0 _ _ rfl hO (by rw [pUs_0]; exact hJ) (fun u I hO hJ => ?_)
  refine x_iload_n dX4_stuckTick_124 rfl rfl ?_
  refine x_if_eq 143 dX4_stuckTick_125 (by decide) (fun c125 => ?_) (fun c125 => ?_)
  · skip
    rw [pStC_no c125]
    refine x_vret dX4_stuckTick_143 rfl (by decide) (by decide) ?_
    exact ⟨rfl, rfl, rfl, hO, by first | exact hJ | (rw [xuI_col (by omega), pUs_ge (by omega)] at hJ; exact hJ)⟩
  · skip
    rw [pStC_yes c125]
    refine x_aload_n dX4_stuckTick_128 rfl rfl ?_
    refine x_iconst (nI 0) dX4_stuckTick_129 (by decide) ?_
    refine x_putS (w := 6) hS hO hJ fl_X4_65 fp_4_8 dX4_stuckTick_130 (by decide) (by decide) rfl (fun I hO hJ => ?_)
    refine x_aload_n dX4_stuckTick_133 rfl rfl ?_
    refine x_dup dX4_stuckTick_134 rfl ?_
    refine x_getI fl_X4_71 dX4_stuckTick_135 hS.k0 hS.lt0 rfl (x_eqtop hJ.f10 ?_)
    refine x_iconst (nI 1) dX4_stuckTick_138 (by decide) ?_
    refine x_iadd dX4_stuckTick_139 ?_
    refine x_putS (w := 9) hS hO hJ fl_X4_71 fp_4_10 dX4_stuckTick_140 (by decide) (by decide) rfl (fun I hO hJ => ?_)
    refine x_vret dX4_stuckTick_143 rfl (by decide) (by decide) ?_
    exact ⟨rfl, rfl, rfl, hO, by first | exact hJ | (rw [xuI_col (by omega), pUs_ge (by omega)] at hJ; exact hJ)⟩
theorem t2_stuck {g : GX} {cx : CX} (hS : St R o) (hO : Off o J0 I) (hJ : SJ o I V) : X g cx mX4_stuckTick (xF g cx mX4_stuckTick (SQ o J0 R none (pStB (pE0 V)))) (0, 0) 39 [some (.ref o), none, none, none, none, none] [] 131 I R := by
  refine x_aload_n dX4_stuckTick_39 rfl rfl ?_
  refine x_callVq hO (mt' := mX4_endTalkIfEmpty) (sp_endTalk hS hJ) kvX4_endTalkIfEmpty wl_X4_159 (by decide) dX4_stuckTick_40 hS.k0 hS.lt0 rfl rfl (Nat.le_of_ble_eq_true rfl) ⟨rfl, rfl⟩ (by decide) (fun I hO hJ => ?_)
  exact tl_stuck hS hO hJ
theorem sp_stuckTick (hS : St R o) (hJ : SJ o J0 Z) {p : Nat} (hp : p < 27) (hz : Z 8 7 = nI p) (h1 : cn (tk Z) 4 = 0 → Z 8 7 = nI 0) (h2 : ¬ cn (tk Z) 4 = 0 → Z 8 5 = nI 0) : Sp mX4_stuckTick [.ref o] 131 J0 R (SQ o J0 R none (pSt Z p)) := by
  refine Sp.mk (by decide +kernel) (by simp [Value.category]) (Nat.le_of_ble_eq_true rfl) (fun g cx => ?_)
  have hO : Off o J0 J0 := Off.rf
  have e : pSt Z p = pStB (pSc Z p) := by unfold pSt; rw [pSc_eq h1 h2]
  rw [e]
  obtain ⟨Y, hY⟩ : ∃ Y, xuI Z 8 5 (nI 0) = Y := ⟨_, rfl⟩
  have e4 : Y 8 4 = Z 8 4 := by rw [← hY, xuI_col (by omega)]
  have e7 : Y 8 7 = nI p := by rw [← hY, xuI_col (by omega)]; exact hz
  have ec : pSc Z p = pE0 (if Y 8 4 = 0 ∧ ¬ p % 9 = 8 then pLs Y (ss Y (tk Y) p 1) 4 else Y) := by unfold pSc; rw [e4, hY]
  rw [ec]
  refine x_aload_n dX4_stuckTick_0 rfl rfl ?_
  refine x_iconst (nI 0) dX4_stuckTick_1 (by decide) ?_
  refine x_putS (w := 5) hS hO hJ fl_X4_62 fp_4_7 dX4_stuckTick_2 (by decide) (by decide) rfl (fun I hO hJ => ?_)
  rw [hY] at hJ
  refine x_aload_n dX4_stuckTick_5 rfl rfl ?_
  refine x_getI fl_X4_59 dX4_stuckTick_6 hS.k0 hS.lt0 rfl (x_eqtop hJ.f6 ?_)
  refine x_if_ne 39 dX4_stuckTick_9 (by decide) (fun c9 => ?_) (fun c9 => ?_)
  · skip
    rw [if_neg (fun q => c9 q.1)]
    exact t2_stuck hS hO hJ
  · skip
    refine x_aload_n dX4_stuckTick_12 rfl rfl ?_
    refine x_getI fl_X4_56 dX4_stuckTick_13 hS.k0 hS.lt0 rfl (x_eqtop hJ.f5 ?_)
    rw [e7]
    refine x_callSNd0 (mt' := mX5_isPlace) (sp_isPlace (by omega)) ktX5_isPlace wl_X4_132 (by decide) dX4_stuckTick_16 rfl rfl (Nat.le_of_ble_eq_true rfl) ⟨rfl, rfl⟩ (by decide) ?_
    refine x_if_ne 39 dX4_stuckTick_19 (by decide) (fun c19 => ?_) (fun c19 => ?_)
    · skip
      rw [if_neg (fun q => q.2 (of_decide_eq_true (bi_nt c19)))]
      exact t2_stuck hS hO hJ
    · skip
      rw [if_pos ⟨c9, of_decide_eq_false (bi_0.mp c19)⟩]
      refine x_aload_n dX4_stuckTick_22 rfl rfl ?_
      refine x_aload_n dX4_stuckTick_23 rfl rfl ?_
      refine x_aload_n dX4_stuckTick_24 rfl rfl ?_
      refine x_callVd0 (mt' := mX4_talkers) (sp_talkers hS hJ) kvX4_talkers wl_X4_129 (by decide) dX4_stuckTick_25 hS.k0 hS.lt0 rfl rfl (Nat.le_of_ble_eq_true rfl) ⟨rfl, rfl⟩ (by decide) ?_
      refine x_aload_n dX4_stuckTick_28 rfl rfl ?_
      refine x_getI fl_X4_56 dX4_stuckTick_29 hS.k0 hS.lt0 rfl (x_eqtop hJ.f5 ?_)
      rw [e7]
      refine x_iconst (nI 1) dX4_stuckTick_32 (by decide) ?_
      refine x_callVd0 (mt' := mX4_sendersOf) (sp_sendersOf hS hJ hp (fun k hk q => hJ.tz hk q)) kvX4_sendersOf wl_X4_151 (by decide) dX4_stuckTick_33 hS.k0 hS.lt0 rfl rfl (Nat.le_of_ble_eq_true rfl) ⟨rfl, rfl⟩ (by decide) ?_
      refine x_callVq hO (mt' := mX4_lose) (sp_lose hS hJ) kvX4_lose wl_X4_155 (by decide) dX4_stuckTick_36 hS.k0 hS.lt0 rfl rfl (Nat.le_of_ble_eq_true rfl) ⟨rfl, rfl⟩ (by decide) (fun I hO hJ => ?_)
      exact t2_stuck hS hO hJ
end CL
