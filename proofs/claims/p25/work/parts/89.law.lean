/-! the law: its beginning, its loop -/
abbrev mLaw (nm : String) : MT := (⟨RL, nm, "([I)Z"⟩, cL_law, 6, some .boolean, { frames := 10, cells := 600000, slots := 7302250, locals := 366 }, 1)
abbrev lwS (e : Nat) (u4 u5 : Option Value) : List (Option Value) := [some (.ref 1007), some (.ref 0), some (.int (nI 6)), some (.int (nI e)), u4, u5]
section XG
variable {g : GX} {cx : CX} {mt : MT} {F : State → Prop} {cs cs' : Nat × Nat} {pc : Nat} {ls : List (Option Value)} {st : List Value} {n : Nat} {I : MI} {R R' : MR}
theorem x_eqcq (e : cs = cs') (k : X g cx mt F cs' pc ls st n I R) : X g cx mt F cs pc ls st n I R := e ▸ k
/-- references of rows that are nobody's -/
theorem x_cgR (hn : n ≤ 131) (h : ∀ a, a < 131 → R' a = R a) (k : X g cx mt F cs pc ls st n I R') : X g cx mt F cs pc ls st n I R := by
  intro ok H locs lsA hR hS hL
  refine k ok H locs lsA ⟨hR.1, hR.2.1, hR.2.2.1, fun i hi => ?_, hR.2.2.2.2⟩ hS hL
  refine (hR.2.2.2.1 i hi).kept rfl ?_
  funext b
  simp only [xval, h i (by omega)]
end XG
/-- as the object begins -/
theorem GI_Zi (hN : NB Zi) : GI 0 Zi := by
  refine ⟨⟨hN, LV_Zi.1, 0, 0, 0, ⟨⟨rfl, rfl, rfl, rfl⟩, by omega, by omega, by omega, by omega⟩, fun k hk => ?_, fun k hk => ?_, ⟨⟨0, by omega, rfl⟩, ⟨10, by omega, by omega, rfl⟩, fun q => absurd q (by omega), fun _ => rfl⟩, ⟨fun _ => 0, fun j hj => absurd hj (by omega), fun i j _ hj => absurd hj (by omega)⟩, fun _ => ⟨Nat.le_refl _, fun q hq => absurd hq (by omega)⟩⟩, fun w hw => ?_, fun k hk => ?_⟩
  · rcases (show k = 0 ∨ k = 1 ∨ k = 2 ∨ k = 3 by omega) with rfl | rfl | rfl | rfl <;> exact ⟨⟨0, 0, rfl, rfl, Nat.le_refl _, Nat.le_refl _, fun _ => rfl⟩, fun m hm em j hj => absurd (nI_inj (b := 0) (by omega) (by omega) (show nI m = nI 0 from em.symm)) (by omega)⟩
  · rcases (show k = 0 ∨ k = 1 ∨ k = 2 ∨ k = 3 by omega) with rfl | rfl | rfl | rfl <;> exact ⟨0, Nat.le_refl _, rfl, Or.inl ⟨rfl, rfl⟩⟩
  · rcases (show w = 0 ∨ w = 1 ∨ w = 2 by omega) with rfl | rfl | rfl
    · exact ⟨2, by omega, rfl⟩
    · exact ⟨2, by omega, rfl⟩
    · exact ⟨10, by omega, rfl⟩
  · rcases (show k = 0 ∨ k = 1 ∨ k = 2 ∨ k = 3 by omega) with rfl | rfl | rfl | rfl <;> exact ⟨0, Nat.le_refl _, rfl⟩
theorem R6_lo {R : MR} {a : Nat} (h : a < 131) : R6 R a = R a := by
  unfold R6
  rw [xuR_ne (by omega), xuR_ne (by omega), xuR_ne (by omega), xuR_ne (by omega), xuR_ne (by omega)]
theorem R6_md {R : MR} : Md (R6 R) := by
  have key : ∀ k j, mdR k = some j → (k = 0 ∧ j = 132) ∨ (k = 1 ∧ j = 133) ∨ (k = 2 ∧ j = 134) ∨ (k = 4 ∧ j = 135) ∨ (k = 6 ∧ j = 136) := by
    intro k j h
    unfold mdR at h
    split at h <;> cases h <;> omega
  intro k j hk
  unfold R6
  rcases key k j hk with ⟨rfl, rfl⟩ | ⟨rfl, rfl⟩ | ⟨rfl, rfl⟩ | ⟨rfl, rfl⟩ | ⟨rfl, rfl⟩
  · rw [xuR_at (by omega), xuR_at (by omega), xuR_at (by omega), xuR_at (by omega)]; exact xuR_self
  · rw [xuR_at (by omega), xuR_at (by omega), xuR_at (by omega)]; exact xuR_self
  · rw [xuR_at (by omega), xuR_at (by omega)]; exact xuR_self
  · rw [xuR_at (by omega)]; exact xuR_self
  · exact xuR_self
theorem St.lo {R R' : MR} {o : Nat} (h : St R o) (hR : ∀ a, a < 131 → R' a = R a) : St R' o := by
  have hl := h.le
  refine ⟨h.1, ⟨by rw [hR _ (by omega)]; exact h.2.1.1, by rw [hR _ (by omega)]; exact h.2.1.2.1, by rw [hR _ (by omega)]; exact h.2.1.2.2.1, by rw [hR _ (by omega)]; exact h.2.1.2.2.2.1, by rw [hR _ (by omega)]; exact h.2.1.2.2.2.2⟩, fun k hk => ⟨by rw [hR _ (by omega)]; exact (h.2.2 k hk).1, by rw [hR _ (by omega)]; exact (h.2.2 k hk).2.1, by rw [hR _ (by omega)]; exact (h.2.2 k hk).2.2⟩⟩
def sg0 (i : Nat) : Nat := if i = 4 then 41 else 59 + 18 * i
theorem sg0_in : ∀ i, i < 5 → sg0 i ∈ [41, 59, 77, 95, 113] := by decide
theorem sg0_inj : ∀ i, i < 5 → ∀ j, j < 5 → sg0 i = sg0 j → i = j := by decide
theorem Cl_start {J : MI} {R : MR} (h : IN5 4 J R) : Cl sg0 J (R6 R) Zi (fun _ => Zi) 0 Zi false 0 (fun _ => 0) (-5) (-5) := by
  obtain ⟨hm, hB, hf, ⟨t0, t1⟩, hh, z5, z6, z7, z8, z38⟩ := h
  have hS : ∀ o, Ost o → St (R6 R) o ∧ SJ o J Zi := fun o ho => by
    have hlt : ∀ o ∈ [1, 19, 41, 59, 77, 95, 113], o < 59 + 18 * 4 := by decide
    obtain ⟨q1, q2⟩ := hm o ho (hlt o ho)
    exact ⟨q1.lo (fun a ha => R6_lo ha), q2⟩
  have hi5 : ∀ i, i < 5 → Ost (sg0 i) := by unfold Ost; decide
  have hR := @R6_lo R
  have hMd := @R6_md R
  generalize R6 R = R' at *
  have O1 : Ost 1 := by unfold Ost; decide
  have O19 : Ost 19 := by unfold Ost; decide
  have hOb : Ob R' sg0 := by
    refine ⟨⟨?_, ?_, ?_, ?_, ?_⟩, fun i hi => ?_, sg0_in, ⟨fun i j hi hj => sg0_inj i hi j hj, hMd⟩, fun o ho => (hS o ho).1, ?_, ?_⟩
    · rw [hR (by omega)]; exact hf.1
    · rw [hR (by omega)]; exact hf.2.1
    · rw [hR (by omega)]; exact hf.2.2.1
    · rw [hR (by omega)]; exact hf.2.2.2.1
    · rw [hR (by omega)]; exact hf.2.2.2.2
    · rw [hR (by omega), hh i hi]; unfold sg0; rw [if_neg (by omega)]
    · rw [hR (by omega)]; exact t0
    · rw [hR (by omega)]; exact t1
  exact ⟨hOb, ⟨(hS 1 O1).2, LV_Zi⟩, ⟨by omega, fun i hi => absurd hi (by omega)⟩, ⟨fun i hi => ⟨_, (hS _ (hi5 i hi)).2⟩, ⟨_, (hS 19 O19).2⟩⟩, (fun q => by cases q), ⟨z5, z6, z7, z8⟩, ⟨by omega, z38, fun i hi => absurd hi (by omega)⟩⟩
/-- an act that is recorded -/
theorem RQ_rec {σ : Nat → Nat} {J J' : MI} {R' : MR} {Z Z0 : MI} {H : Nat → MI} {h : Nat} {K : MI} {e : Bool} {n : Nat} {t : Nat → Int32} {a b v : Int32} {r : Option Value} {n' : Nat} (hq : RQ σ J Z Z0 H h K e n t a b v r n' J' R') (hv : ¬ v < 0) : r = some (.int v) ∧ n' = 131 ∧ Cl (sN σ h) J' R' Z (pH H h Z0) (hN h) K e n t a b := by
  obtain ⟨h1, h2, -, h4⟩ := hq
  rcases h4 with ⟨q, -⟩ | ⟨-, hC⟩
  · exact absurd q hv
  · exact ⟨h1, h2, hC⟩
theorem hear_1 : (pHear Zi (nI 0) (nI 64)).1 = nI 1 := by decide +kernel
theorem hear_2 : (pHear (pHear Zi (nI 0) (nI 64)).2 (nI 1) (nI 65)).1 = nI 2 := by decide +kernel
theorem hear_3 : (pHear (pHear (pHear Zi (nI 0) (nI 64)).2 (nI 1) (nI 65)).2 (nI 2) (nI 66)).1 = nI 3 := by decide +kernel
section CL
variable {g : GX} {cx : CX} {nm : String} {F : State → Prop}
theorem law_loop (hg : g.1.2 30 = 0) (hend : ∀ q ls I R, q ≤ 56 → X g cx (mLaw nm) F (131 + 2 * q, 2853 + 8 * q) 139 ls [.int 1] 131 I R) : ∀ (i e q : Nat) (J : MI) (R : MR) (u4 u5 : Option Value), e + i = 56 → q ≤ e → GS (40 * e) J R → X g cx (mLaw nm) F (131 + 2 * q, 2853 + 8 * q) 34 (lwS e u4 u5) [] 131 J R := by
  intro i
  induction i with
  | zero =>
    intro e q J R u4 u5 he hq hG
    obtain rfl : e = 56 := by omega
    refine x_iload_n dL_law_34 rfl rfl ?_
    refine x_bipush (nI 56) dL_law_35 (by decide) ?_
    refine x_icmp_geT 128 dL_law_37 (by decide) (by decide) ?_
    refine x_iload_n dL_law_128 rfl rfl ?_
    refine x_bipush (nI 6) dL_law_129 (by decide) ?_
    refine x_icmp_neF dL_law_131 rfl ?_
    refine x_iconst (nI 1) dL_law_134 (by decide) ?_
    refine x_goto 139 dL_law_135 (by decide) ?_
    exact hend q _ _ _ hq
  | succ i ih =>
    intro e q J R u4 u5 hei hq hG
    have he : e < 56 := by omega
    have fit : ∀ q', q' ≤ e + 1 → xFit (mLaw nm) (131 + 2 * q', 2853 + 8 * q') := fun q' hq' => ⟨show 131 + 2 * q' ≤ 600000 by omega, show 2853 + 8 * q' ≤ 7302250 by omega⟩
    refine x_iload_n dL_law_34 rfl rfl ?_
    refine x_bipush (nI 56) dL_law_35 (by decide) ?_
    refine x_icmp_geF dL_law_37 (fun z => by have := (nI_leI (by omega) (by omega)).mp z; omega) ?_
    refine x_aload_n dL_law_40 rfl rfl ?_
    refine x_iload_n dL_law_41 rfl rfl ?_
    refine x_callS (mt' := mL_cell) (sp_cell he) ktL_cell wl_L_69 ⟨Nat.le_of_ble_eq_true rfl, Nat.le_of_ble_eq_true rfl⟩ dL_law_42 rfl rfl (Nat.le_of_ble_eq_true rfl) (fun r' n' J1 R1 hq1 => ?_) (fit q (by omega))
    obtain ⟨v, rfl, rfl, rfl, rfl⟩ := hq1
    refine x_istore dL_law_45 (show 4 < 6 by decide) ?_
    refine x_aload_n dL_law_47 rfl rfl ?_
    refine x_iload dL_law_48 rfl ?_
    refine x_callS (mt' := mL_does) (sp_does hG (by omega) v) ktL_does wl_L_73 ⟨Nat.le_of_ble_eq_true rfl, Nat.le_of_ble_eq_true rfl⟩ dL_law_50 rfl rfl (Nat.le_of_ble_eq_true rfl) (fun r' n' J2 R2 hq2 => ?_) (fit q (by omega))
    obtain ⟨x, rfl, hx, rfl, -, hG2⟩ := hq2
    have hG3 : GS (40 * (e + 1)) J2 R2 := hG2.mono (by omega)
    refine x_istore dL_law_53 (show 5 < 6 by decide) ?_
    refine x_iload dL_law_55 rfl ?_
    refine x_if_ltF dL_law_57 hx ?_
    have t122 : ∀ q' J R, q' ≤ e + 1 → GS (40 * (e + 1)) J R → X g cx (mLaw nm) F (131 + 2 * q', 2853 + 8 * q') 122 (lwS e (some (.int v)) (some (.int x))) [] 131 J R := fun q' J R hq' hG' => by
      refine x_iincN 1 dL_law_122 rfl (by decide) (show 3 < 6 by decide) ?_
      refine x_goto 34 dL_law_125 (by decide) ?_
      exact ih (e + 1) q' J R _ _ (by omega) hq' hG'
    have t106 : ∀ q' J R, q' ≤ e + 1 → GS (40 * (e + 1)) J R → X g cx (mLaw nm) F (131 + 2 * q', 2853 + 8 * q') 106 (lwS e (some (.int v)) (some (.int x))) [] 131 J R := fun q' J R hq' hG' => by
      refine x_iload_n dL_law_106 rfl rfl ?_
      refine x_iconst (nI 3) dL_law_107 (by decide) ?_
      refine x_iremN dL_law_108 (by omega) (by omega) (by omega) ?_
      refine x_iconst (nI 1) dL_law_109 (by decide) ?_
      refine x_icmp_neN 122 dL_law_110 (by decide) (by omega) (by omega) (fun _ => t122 q' J R hq' hG') (fun _ => ?_)
      have hG4 := hG'
      obtain ⟨σ, Z, H, h, K, eb, n, t, a1, a2, hC, c, hcC, hGI⟩ := hG'
      refine x_aload_n dL_law_113 rfl rfl ?_
      refine x_callSd0 (mt' := mL_areWinnersSo) (sp_areWinnersSo hC hGI) ktL_areWinnersSo wl_L_88 ⟨Nat.le_of_ble_eq_true rfl, Nat.le_of_ble_eq_true rfl⟩ dL_law_114 rfl rfl (Nat.le_of_ble_eq_true rfl) ⟨rfl, rfl⟩ (fit q' hq') ?_
      exact x_if_neT 122 dL_law_117 (by decide) (by decide) (t122 q' J R hq' hG4)
    have t81 : X g cx (mLaw nm) F (131 + 2 * q, 2853 + 8 * q) 81 (lwS e (some (.int v)) (some (.int x))) [] 131 J2 R2 := by
      refine x_iload_n dL_law_81 rfl rfl ?_
      refine x_iconst (nI 4) dL_law_82 (by decide) ?_
      refine x_iremN dL_law_83 (by omega) (by omega) (by omega) ?_
      refine x_iconst (nI 2) dL_law_84 (by decide) ?_
      refine x_icmp_neN 106 dL_law_85 (by decide) (by omega) (by omega) (fun _ => t106 q J2 R2 (by omega) hG3) (fun _ => ?_)
      refine x_aload_n dL_law_88 rfl rfl ?_
      refine x_iconst (nI 1) dL_law_89 (by decide) ?_
      refine x_iload dL_law_90 rfl ?_
      refine x_iconst (nI 5) dL_law_92 (by decide) ?_
      refine x_ishr dL_law_93 ?_
      refine x_bipush (nI 100) dL_law_94 (by decide) ?_
      refine x_callSd0 (mt' := mL_low) (sp_low (by omega) (by omega)) ktL_low wl_L_8 ⟨Nat.le_of_ble_eq_true rfl, Nat.le_of_ble_eq_true rfl⟩ dL_law_96 rfl rfl (Nat.le_of_ble_eq_true rfl) ⟨rfl, rfl⟩ (fit q (by omega)) ?_
      have hl := lw_lt (x := v >>> (nI 5 &&& 31)) (n := 100) (by omega)
      refine x_iaddN dL_law_99 ?_
      refine x_callS0 (mt' := mL_areIfsSo) hg (sp_areIfsSo hG3 (by omega) (by omega) (by omega)) ktL_areIfsSo wl_L_84 ⟨Nat.le_of_ble_eq_true rfl, Nat.le_of_ble_eq_true rfl⟩ dL_law_100 rfl rfl (Nat.le_of_ble_eq_true rfl) ⟨show 131 + 2 * q + 2 ≤ 600000 by omega, show 2853 + 8 * q + 8 ≤ 7302250 by omega⟩ (fun r' n' J5 R5 hq5 => ?_)
      obtain ⟨rfl, rfl, hG5⟩ := hq5
      refine x_eqcq (cs' := (131 + 2 * (q + 1), 2853 + 8 * (q + 1))) (Prod.ext (show 131 + 2 * q + 2 = 131 + 2 * (q + 1) by omega) (show 2853 + 8 * q + 8 = 2853 + 8 * (q + 1) by omega)) ?_
      exact x_if_eqF dL_law_103 (by decide) (t106 (q + 1) J5 R5 (by omega) hG5)
    obtain ⟨σ, Z, H, h, K, eb, n, t, a1, a2, hC, c, hcC, hGI⟩ := id hG3
    refine x_aload_n dL_law_60 rfl rfl ?_
    refine x_callSd0 (mt' := mL_areCountsSo) (sp_areCountsSo hC hGI (by omega)) ktL_areCountsSo wl_L_77 ⟨Nat.le_of_ble_eq_true rfl, Nat.le_of_ble_eq_true rfl⟩ dL_law_61 rfl rfl (Nat.le_of_ble_eq_true rfl) ⟨rfl, rfl⟩ (fit q (by omega)) ?_
    refine x_if_eqF dL_law_64 (by decide) ?_
    refine x_iload_n dL_law_67 rfl rfl ?_
    refine x_iconst (nI 2) dL_law_68 (by decide) ?_
    refine x_iremN dL_law_69 (by omega) (by omega) (by omega) ?_
    refine x_iconst (nI 1) dL_law_70 (by decide) ?_
    refine x_icmp_neN 81 dL_law_71 (by decide) (by omega) (by omega) (fun _ => t81) (fun _ => ?_)
    refine x_aload_n dL_law_74 rfl rfl ?_
    refine x_callSd0 (mt' := mL_isLogSo) (sp_isLogSo hC hGI (by omega)) ktL_isLogSo wl_L_81 ⟨Nat.le_of_ble_eq_true rfl, Nat.le_of_ble_eq_true rfl⟩ dL_law_75 rfl rfl (Nat.le_of_ble_eq_true rfl) ⟨rfl, rfl⟩ (fit q (by omega)) ?_
    exact x_if_eqF dL_law_78 (by decide) t81
theorem law_all (hg : g.1.2 30 = 0) (hend : ∀ q ls I R, q ≤ 56 → X g cx (mLaw nm) F (131 + 2 * q, 2853 + 8 * q) 139 ls [.int 1] 131 I R) : X g cx (mLaw nm) F (0, 0) 0 [some (.ref 1007), none, none, none, none, none] [] 0 (fun _ _ => 0) (fun _ _ => none) := by
  have hB : ∀ n, Bl (fun _ _ => 0) (fun _ _ => none) n := fun _ _ _ _ => ⟨rfl, rfl⟩
  refine x_new5 wk_L_15 xk_0 (by omega) (hB 0).at (Nat.le_of_ble_eq_true rfl) (Nat.le_of_ble_eq_true rfl) dL_law_0 ?_
  refine x_dup dL_law_3 rfl ?_
  refine x_callI (mt' := nX5_init) (sp_init5 (hB 1) (fun _ => rfl)) kiX5_init wl_L_68 ⟨Nat.le_of_ble_eq_true rfl, Nat.le_of_ble_eq_true rfl⟩ dL_law_4 rfl rfl (Nat.le_of_ble_eq_true rfl) (fun r n' I1 R1 hq => ?_) ⟨Nat.le_of_ble_eq_true rfl, Nat.le_of_ble_eq_true rfl⟩
  obtain ⟨rfl, rfl, h5⟩ := hq
  have hC := Cl_start h5
  refine x_cgR (R' := R6 R1) (Nat.le_refl _) (fun a ha => R6_lo ha) ?_
  have fit : xFit (mLaw nm) (131, 2853) := ⟨Nat.le_of_ble_eq_true rfl, Nat.le_of_ble_eq_true rfl⟩
  refine x_astore_n dL_law_7 rfl (show 1 < 6 by decide) ?_
  have hG1 := GI_Zi hC.sj.nb
  have hG2 := GI_hear (s := nI 0) (a := nI 64) hG1 (by omega)
  have hG3 := GI_hear (s := nI 1) (a := nI 65) hG2 (by omega)
  have hG4 := GI_hear (s := nI 2) (a := nI 66) hG3 (by omega)
  refine x_aload_n dL_law_8 rfl rfl ?_
  refine x_iconst (nI 0) dL_law_9 (by decide) ?_
  refine x_bipush (nI 64) dL_law_10 (by decide) ?_
  refine x_callV (mt' := mX5_hear) (sp_hear hC _ _) kvX5_hear wl_L_27 ⟨Nat.le_of_ble_eq_true rfl, Nat.le_of_ble_eq_true rfl⟩ dL_law_12 xk_0 (by decide) rfl rfl (Nat.le_of_ble_eq_true rfl) (fun r' n' J2 R2 hq => ?_) fit
  obtain ⟨rfl, rfl, hC⟩ := RQ_rec hq (by rw [hear_1]; exact nI_nn (by omega))
  refine x_eqtop hear_1 ?_
  refine x_aload_n dL_law_15 rfl rfl ?_
  refine x_iconst (nI 1) dL_law_16 (by decide) ?_
  refine x_bipush (nI 65) dL_law_17 (by decide) ?_
  refine x_callV (mt' := mX5_hear) (sp_hear hC _ _) kvX5_hear wl_L_27 ⟨Nat.le_of_ble_eq_true rfl, Nat.le_of_ble_eq_true rfl⟩ dL_law_19 xk_0 (by decide) rfl rfl (Nat.le_of_ble_eq_true rfl) (fun r' n' J3 R3 hq => ?_) fit
  obtain ⟨rfl, rfl, hC⟩ := RQ_rec hq (by rw [hear_2]; exact nI_nn (by omega))
  refine x_eqtop hear_2 ?_
  refine x_iaddN dL_law_22 ?_
  refine x_aload_n dL_law_23 rfl rfl ?_
  refine x_iconst (nI 2) dL_law_24 (by decide) ?_
  refine x_bipush (nI 66) dL_law_25 (by decide) ?_
  refine x_callV (mt' := mX5_hear) (sp_hear hC _ _) kvX5_hear wl_L_27 ⟨Nat.le_of_ble_eq_true rfl, Nat.le_of_ble_eq_true rfl⟩ dL_law_27 xk_0 (by decide) rfl rfl (Nat.le_of_ble_eq_true rfl) (fun r' n' J4 R4 hq => ?_) fit
  obtain ⟨rfl, rfl, hC⟩ := RQ_rec hq (by rw [hear_3]; exact nI_nn (by omega))
  refine x_eqtop hear_3 ?_
  refine x_iaddN dL_law_30 ?_
  refine x_istore_n dL_law_31 rfl (show 2 < 6 by decide) ?_
  refine x_iconst (nI 0) dL_law_32 (by decide) ?_
  refine x_istore_n dL_law_33 rfl (show 3 < 6 by decide) ?_
  exact law_loop hg hend 56 0 0 _ _ _ _ rfl (Nat.le_refl _) ⟨_, _, _, _, _, _, _, _, _, _, hC, 0, Nat.le_refl _, hG4⟩
end CL
