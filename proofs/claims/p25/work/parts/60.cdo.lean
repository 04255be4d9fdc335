
/-! the class: acts, recorded -/
section CM
variable {g : GX} {cx : CX} {mt : MT} {F : State → Prop} {cs : Nat × Nat} {pc : Nat} {ls : List (Option Value)} {st : List Value}
variable {σ : Nat → Nat} {J J0 : MI} {R : MR} {Z Z0 : MI} {H : Nat → MI} {h : Nat} {K : MI} {e : Bool} {n : Nat} {t : Nat → Int32} {a b : Int32}
theorem x_cpS {idx : Nat} (hC : Cl σ J R Z H h K e n t a b) (hH : Hi J0 J) (hl : Cond.methodLink mt.1.cls idx yX4_copyFrom ∈ XT) (hroom : xRoom mt mX4_copyFrom) (hd : decode mt.2.1 pc = .ok (.invokevirtual idx, 3)) (hcat : (st.map fun v => v.category).sum ≤ 8) (hf : xFit mt cs) (k : ∀ J1, Hi J0 J1 → Cl σ J1 R Z H h K e n t a b → SJ (σ 4) J1 Z → X g cx mt F cs (pc + 3) ls st 131 J1 R) : X g cx mt F cs pc ls (.ref 1 :: .ref (σ 4) :: st) 131 J R := by
  have hb := hC.ob
  have h4 := hb.st (i := 4) (by omega)
  obtain ⟨Y, hY⟩ := hC.any (i := 4) (by omega)
  exact x_callV (mt' := mX4_copyFrom) (av := [.ref 1]) (sp_copyFrom h4 hb.s1 (hb.ne1 (by omega)) hY hC.sj) kvX4_copyFrom hl hroom hd h4.k0 h4.lt0 rfl rfl hcat (fun r' n' I2 R2 hq => by
    obtain ⟨rfl, rfl, rfl, h1, h2⟩ := hq
    rw [xNo_cs (mt' := mX4_copyFrom) ⟨rfl, rfl⟩]
    exact k I2 (hH.tr (Hi.off h4 h1)) (hC.spare h1 ⟨_, h2⟩) h2) (xNo_fit ⟨rfl, rfl⟩ hf)
theorem x_act {mt' : MT} {idx : Nat} {av st0 : List Value} {v : Int32} {Z' : MI} (hC : Cl σ J R Z H h K e n t a b) (hH : Hi J0 J) (hP : SJ (σ 4) J Z0) (hsp : Sp mt' (.ref 1 :: av) 131 J R (SQ 1 J R (some (.int v)) Z')) (hV : LV Z') (hm : xMV mt' 4) (hl : Cond.methodLink mt.1.cls idx mt'.1 ∈ XT) (hroom : xRoom mt mt') (hd : decode mt.2.1 pc = .ok (.invokevirtual idx, 3)) (hst : st0 = av.reverse ++ .ref 1 :: st) (hn : av.length = mt'.2.2.2.2.2) (hcat : (st.map fun v => v.category).sum ≤ 8) (h0 : xNo mt') (hf : xFit mt cs) (k : ∀ J1, Hi J0 J1 → Cl σ J1 R Z' H h K e n t a b → SJ (σ 4) J1 Z0 → X g cx mt F cs (pc + 3) ls (.int v :: st) 131 J1 R) : X g cx mt F cs pc ls st0 131 J R := by
  have hb := hC.ob
  have h4 := hb.st (i := 4) (by omega)
  exact x_callV hsp hm hl hroom hd hb.s1.k0 hb.s1.lt0 hst hn hcat (fun r' n' I2 R2 hq => by
    obtain ⟨rfl, rfl, rfl, h1, h2⟩ := hq
    rw [xNo_cs h0]
    exact k I2 (hH.tr (Hi.off hb.s1 h1)) (hC.now h1 h2 hV) (hP.off hb.s1 h4 (hb.ne1 (by omega)).symm h1)) (xNo_fit h0 hf)
end CM
section CL
variable {σ : Nat → Nat} {J0 : MI} {R : MR} {Z : MI} {H : Nat → MI} {h : Nat} {K : MI} {e : Bool} {n : Nat} {t : Nat → Int32} {a b : Int32}
theorem sp_say (hC : Cl σ J0 R Z H h K e n t a b) (s x y z : Int32) : Sp mX5_say [.ref 0, .int s, .int x, .int y, .int z] 131 J0 R (RQ σ J0 (pSay Z s x y z).2 Z H h K e n t a b (pSay Z s x y z).1) := by
  refine Sp.mk (by decide +kernel) (by simp [Value.category]) (Nat.le_of_ble_eq_true rfl) (fun g cx => ?_)
  have hH : Hi J0 J0 := Hi.rf
  have hV0 := hC.lv
  refine x_aload_n dX5_say_0 rfl rfl ?_
  refine x_getR (j := σ 4) fl_X5_30 dX5_say_1 xk_0 (by decide) rfl hC.ob.1.2.2.2.2 ?_
  refine x_aload_n dX5_say_4 rfl rfl ?_
  refine x_getR (j := 1) fl_X5_10 dX5_say_5 xk_0 (by decide) rfl hC.ob.1.1 ?_
  refine x_cpS hC hH wl_X5_40 (by decide) dX5_say_8 (Nat.le_of_ble_eq_true rfl) (by decide) (fun J hH hC hP => ?_)
  refine x_aload_n dX5_say_11 rfl rfl ?_
  refine x_aload_n dX5_say_12 rfl rfl ?_
  refine x_getR (j := 1) fl_X5_10 dX5_say_13 xk_0 (by decide) rfl hC.ob.1.1 ?_
  refine x_iload_n dX5_say_16 rfl rfl ?_
  refine x_iload_n dX5_say_17 rfl rfl ?_
  refine x_iload_n dX5_say_18 rfl rfl ?_
  refine x_iload dX5_say_19 rfl ?_
  refine x_act (mt' := mX4_addMessage) hC hH hP (sp_addMessage hC.ob.s1 hC.sj s x y z) (LV_say hC.sj.nb hC.lv) kvX4_addMessage wl_X5_44 (by decide) dX5_say_21 rfl rfl (Nat.le_of_ble_eq_true rfl) ⟨rfl, rfl⟩ (by decide) (fun J hH hC hP => ?_)
  refine x_callV (mt' := mX5_recorded) (sp_recorded hC hP hV0 _) kvX5_recorded wl_X5_48 (by decide) dX5_say_24 xk_0 (by decide) rfl rfl (Nat.le_of_ble_eq_true rfl) (fun r' n' J2 R2 hq => ?_)
  obtain ⟨rfl, rfl, hH2, hq⟩ := hq
  refine x_iret dX5_say_27 rfl (by decide) (by decide) ?_
  exact ⟨rfl, rfl, hH.tr hH2, hq⟩
theorem sp_takeBack (hC : Cl σ J0 R Z H h K e n t a b) (s : Int32) : Sp mX5_takeBack [.ref 0, .int s] 131 J0 R (RQ σ J0 (pTake Z s).2 Z H h K e n t a b (pTake Z s).1) := by
  refine Sp.mk (by decide +kernel) (by simp [Value.category]) (Nat.le_of_ble_eq_true rfl) (fun g cx => ?_)
  have hH : Hi J0 J0 := Hi.rf
  have hV0 := hC.lv
  refine x_aload_n dX5_takeBack_0 rfl rfl ?_
  refine x_getR (j := σ 4) fl_X5_30 dX5_takeBack_1 xk_0 (by decide) rfl hC.ob.1.2.2.2.2 ?_
  refine x_aload_n dX5_takeBack_4 rfl rfl ?_
  refine x_getR (j := 1) fl_X5_10 dX5_takeBack_5 xk_0 (by decide) rfl hC.ob.1.1 ?_
  refine x_cpS hC hH wl_X5_40 (by decide) dX5_takeBack_8 (Nat.le_of_ble_eq_true rfl) (by decide) (fun J hH hC hP => ?_)
  refine x_aload_n dX5_takeBack_11 rfl rfl ?_
  refine x_aload_n dX5_takeBack_12 rfl rfl ?_
  refine x_getR (j := 1) fl_X5_10 dX5_takeBack_13 xk_0 (by decide) rfl hC.ob.1.1 ?_
  refine x_iload_n dX5_takeBack_16 rfl rfl ?_
  refine x_act (mt' := mX4_dropLast) hC hH hP (sp_dropLast hC.ob.s1 hC.sj s) (LV_take hC.lv) kvX4_dropLast wl_X5_52 (by decide) dX5_takeBack_17 rfl rfl (Nat.le_of_ble_eq_true rfl) ⟨rfl, rfl⟩ (by decide) (fun J hH hC hP => ?_)
  refine x_callV (mt' := mX5_recorded) (sp_recorded hC hP hV0 _) kvX5_recorded wl_X5_48 (by decide) dX5_takeBack_20 xk_0 (by decide) rfl rfl (Nat.le_of_ble_eq_true rfl) (fun r' n' J2 R2 hq => ?_)
  obtain ⟨rfl, rfl, hH2, hq⟩ := hq
  refine x_iret dX5_takeBack_23 rfl (by decide) (by decide) ?_
  exact ⟨rfl, rfl, hH.tr hH2, hq⟩
theorem sp_hear (hC : Cl σ J0 R Z H h K e n t a b) (s x : Int32) : Sp mX5_hear [.ref 0, .int s, .int x] 131 J0 R (RQ σ J0 (pHear Z s x).2 Z H h K e n t a b (pHear Z s x).1) := by
  refine Sp.mk (by decide +kernel) (by simp [Value.category]) (Nat.le_of_ble_eq_true rfl) (fun g cx => ?_)
  have hH : Hi J0 J0 := Hi.rf
  have hV0 := hC.lv
  refine x_aload_n dX5_hear_0 rfl rfl ?_
  refine x_getR (j := σ 4) fl_X5_30 dX5_hear_1 xk_0 (by decide) rfl hC.ob.1.2.2.2.2 ?_
  refine x_aload_n dX5_hear_4 rfl rfl ?_
  refine x_getR (j := 1) fl_X5_10 dX5_hear_5 xk_0 (by decide) rfl hC.ob.1.1 ?_
  refine x_cpS hC hH wl_X5_40 (by decide) dX5_hear_8 (Nat.le_of_ble_eq_true rfl) (by decide) (fun J hH hC hP => ?_)
  refine x_aload_n dX5_hear_11 rfl rfl ?_
  refine x_aload_n dX5_hear_12 rfl rfl ?_
  refine x_getR (j := 1) fl_X5_10 dX5_hear_13 xk_0 (by decide) rfl hC.ob.1.1 ?_
  refine x_iload_n dX5_hear_16 rfl rfl ?_
  refine x_iload_n dX5_hear_17 rfl rfl ?_
  refine x_act (mt' := mX4_giveAddress) hC hH hP (sp_giveAddress hC.ob.s1 hC.sj s x) (LV_hear hC.lv) kvX4_giveAddress wl_X5_55 (by decide) dX5_hear_18 rfl rfl (Nat.le_of_ble_eq_true rfl) ⟨rfl, rfl⟩ (by decide) (fun J hH hC hP => ?_)
  refine x_callV (mt' := mX5_recorded) (sp_recorded hC hP hV0 _) kvX5_recorded wl_X5_48 (by decide) dX5_hear_21 xk_0 (by decide) rfl rfl (Nat.le_of_ble_eq_true rfl) (fun r' n' J2 R2 hq => ?_)
  obtain ⟨rfl, rfl, hH2, hq⟩ := hq
  refine x_iret dX5_hear_24 rfl (by decide) (by decide) ?_
  exact ⟨rfl, rfl, hH.tr hH2, hq⟩
theorem sp_hold (hC : Cl σ J0 R Z H h K e n t a b) (s x : Int32) : Sp mX5_hold [.ref 0, .int s, .int x] 131 J0 R (RQ σ J0 (pHold Z s x).2 Z H h K e n t a b (pHold Z s x).1) := by
  refine Sp.mk (by decide +kernel) (by simp [Value.category]) (Nat.le_of_ble_eq_true rfl) (fun g cx => ?_)
  have hH : Hi J0 J0 := Hi.rf
  have hV0 := hC.lv
  refine x_aload_n dX5_hold_0 rfl rfl ?_
  refine x_getR (j := σ 4) fl_X5_30 dX5_hold_1 xk_0 (by decide) rfl hC.ob.1.2.2.2.2 ?_
  refine x_aload_n dX5_hold_4 rfl rfl ?_
  refine x_getR (j := 1) fl_X5_10 dX5_hold_5 xk_0 (by decide) rfl hC.ob.1.1 ?_
  refine x_cpS hC hH wl_X5_40 (by decide) dX5_hold_8 (Nat.le_of_ble_eq_true rfl) (by decide) (fun J hH hC hP => ?_)
  refine x_aload_n dX5_hold_11 rfl rfl ?_
  refine x_aload_n dX5_hold_12 rfl rfl ?_
  refine x_getR (j := 1) fl_X5_10 dX5_hold_13 xk_0 (by decide) rfl hC.ob.1.1 ?_
  refine x_iload_n dX5_hold_16 rfl rfl ?_
  refine x_iload_n dX5_hold_17 rfl rfl ?_
  refine x_act (mt' := mX4_giveHold) hC hH hP (sp_giveHold hC.ob.s1 hC.sj s x) (LV_hold hC.lv) kvX4_giveHold wl_X5_59 (by decide) dX5_hold_18 rfl rfl (Nat.le_of_ble_eq_true rfl) ⟨rfl, rfl⟩ (by decide) (fun J hH hC hP => ?_)
  refine x_callV (mt' := mX5_recorded) (sp_recorded hC hP hV0 _) kvX5_recorded wl_X5_48 (by decide) dX5_hold_21 xk_0 (by decide) rfl rfl (Nat.le_of_ble_eq_true rfl) (fun r' n' J2 R2 hq => ?_)
  obtain ⟨rfl, rfl, hH2, hq⟩ := hq
  refine x_iret dX5_hold_24 rfl (by decide) (by decide) ?_
  exact ⟨rfl, rfl, hH.tr hH2, hq⟩
theorem sp_stick (hC : Cl σ J0 R Z H h K e n t a b) (s x : Int32) : Sp mX5_stick [.ref 0, .int s, .int x] 131 J0 R (RQ σ J0 (pStick Z s x).2 Z H h K e n t a b (pStick Z s x).1) := by
  refine Sp.mk (by decide +kernel) (by simp [Value.category]) (Nat.le_of_ble_eq_true rfl) (fun g cx => ?_)
  have hH : Hi J0 J0 := Hi.rf
  have hV0 := hC.lv
  refine x_aload_n dX5_stick_0 rfl rfl ?_
  refine x_getR (j := σ 4) fl_X5_30 dX5_stick_1 xk_0 (by decide) rfl hC.ob.1.2.2.2.2 ?_
  refine x_aload_n dX5_stick_4 rfl rfl ?_
  refine x_getR (j := 1) fl_X5_10 dX5_stick_5 xk_0 (by decide) rfl hC.ob.1.1 ?_
  refine x_cpS hC hH wl_X5_40 (by decide) dX5_stick_8 (Nat.le_of_ble_eq_true rfl) (by decide) (fun J hH hC hP => ?_)
  refine x_aload_n dX5_stick_11 rfl rfl ?_
  refine x_aload_n dX5_stick_12 rfl rfl ?_
  refine x_getR (j := 1) fl_X5_10 dX5_stick_13 xk_0 (by decide) rfl hC.ob.1.1 ?_
  refine x_iload_n dX5_stick_16 rfl rfl ?_
  refine x_iload_n dX5_stick_17 rfl rfl ?_
  refine x_act (mt' := mX4_makeStuck) hC hH hP (sp_makeStuck hC.ob.s1 hC.sj s x) (LV_stick hC.lv) kvX4_makeStuck wl_X5_62 (by decide) dX5_stick_18 rfl rfl (Nat.le_of_ble_eq_true rfl) ⟨rfl, rfl⟩ (by decide) (fun J hH hC hP => ?_)
  refine x_callV (mt' := mX5_recorded) (sp_recorded hC hP hV0 _) kvX5_recorded wl_X5_48 (by decide) dX5_stick_21 xk_0 (by decide) rfl rfl (Nat.le_of_ble_eq_true rfl) (fun r' n' J2 R2 hq => ?_)
  obtain ⟨rfl, rfl, hH2, hq⟩ := hq
  refine x_iret dX5_stick_24 rfl (by decide) (by decide) ?_
  exact ⟨rfl, rfl, hH.tr hH2, hq⟩
theorem sp_set (hC : Cl σ J0 R Z H h K e n t a b) (s x : Int32) : Sp mX5_set [.ref 0, .int s, .int x] 131 J0 R (RQ σ J0 (pSet Z s x).2 Z H h K e n t a b (pSet Z s x).1) := by
  refine Sp.mk (by decide +kernel) (by simp [Value.category]) (Nat.le_of_ble_eq_true rfl) (fun g cx => ?_)
  have hH : Hi J0 J0 := Hi.rf
  have hV0 := hC.lv
  refine x_aload_n dX5_set_0 rfl rfl ?_
  refine x_getR (j := σ 4) fl_X5_30 dX5_set_1 xk_0 (by decide) rfl hC.ob.1.2.2.2.2 ?_
  refine x_aload_n dX5_set_4 rfl rfl ?_
  refine x_getR (j := 1) fl_X5_10 dX5_set_5 xk_0 (by decide) rfl hC.ob.1.1 ?_
  refine x_cpS hC hH wl_X5_40 (by decide) dX5_set_8 (Nat.le_of_ble_eq_true rfl) (by decide) (fun J hH hC hP => ?_)
  refine x_aload_n dX5_set_11 rfl rfl ?_
  refine x_aload_n dX5_set_12 rfl rfl ?_
  refine x_getR (j := 1) fl_X5_10 dX5_set_13 xk_0 (by decide) rfl hC.ob.1.1 ?_
  refine x_iload_n dX5_set_16 rfl rfl ?_
  refine x_iload_n dX5_set_17 rfl rfl ?_
  refine x_act (mt' := mX4_changeSetting) hC hH hP (sp_changeSetting hC.ob.s1 hC.sj s x) (LV_set hC.lv) kvX4_changeSetting wl_X5_65 (by decide) dX5_set_18 rfl rfl (Nat.le_of_ble_eq_true rfl) ⟨rfl, rfl⟩ (by decide) (fun J hH hC hP => ?_)
  refine x_callV (mt' := mX5_recorded) (sp_recorded hC hP hV0 _) kvX5_recorded wl_X5_48 (by decide) dX5_set_21 xk_0 (by decide) rfl rfl (Nat.le_of_ble_eq_true rfl) (fun r' n' J2 R2 hq => ?_)
  obtain ⟨rfl, rfl, hH2, hq⟩ := hq
  refine x_iret dX5_set_24 rfl (by decide) (by decide) ?_
  exact ⟨rfl, rfl, hH.tr hH2, hq⟩
theorem sp_run (hC : Cl σ J0 R Z H h K e n t a b) (s : Int32) : Sp mX5_run [.ref 0, .int s] 131 J0 R (RQ σ J0 (pRun Z s).2 Z H h K e n t a b (pRun Z s).1) := by
  refine Sp.mk (by decide +kernel) (by simp [Value.category]) (Nat.le_of_ble_eq_true rfl) (fun g cx => ?_)
  have hH : Hi J0 J0 := Hi.rf
  have hV0 := hC.lv
  obtain ⟨c, hc, ec⟩ := hC.lv.2
  refine x_aload_n dX5_run_0 rfl rfl ?_
  refine x_getR (j := σ 4) fl_X5_30 dX5_run_1 xk_0 (by decide) rfl hC.ob.1.2.2.2.2 ?_
  refine x_aload_n dX5_run_4 rfl rfl ?_
  refine x_getR (j := 1) fl_X5_10 dX5_run_5 xk_0 (by decide) rfl hC.ob.1.1 ?_
  refine x_cpS hC hH wl_X5_40 (by decide) dX5_run_8 (Nat.le_of_ble_eq_true rfl) (by decide) (fun J hH hC hP => ?_)
  refine x_aload_n dX5_run_11 rfl rfl ?_
  refine x_aload_n dX5_run_12 rfl rfl ?_
  refine x_getR (j := 1) fl_X5_10 dX5_run_13 xk_0 (by decide) rfl hC.ob.1.1 ?_
  refine x_iload_n dX5_run_16 rfl rfl ?_
  refine x_act (mt' := mX4_passTicks) hC hH hP (sp_passTicks hC.ob.s1 hC.sj hC.lv.1 s hc ec) (LV_run hC.lv) kvX4_passTicks wl_X5_68 (by decide) dX5_run_17 rfl rfl (Nat.le_of_ble_eq_true rfl) ⟨rfl, rfl⟩ (by decide) (fun J hH hC hP => ?_)
  refine x_callV (mt' := mX5_recorded) (sp_recorded hC hP hV0 _) kvX5_recorded wl_X5_48 (by decide) dX5_run_20 xk_0 (by decide) rfl rfl (Nat.le_of_ble_eq_true rfl) (fun r' n' J2 R2 hq => ?_)
  obtain ⟨rfl, rfl, hH2, hq⟩ := hq
  refine x_iret dX5_run_23 rfl (by decide) (by decide) ?_
  exact ⟨rfl, rfl, hH.tr hH2, hq⟩
end CL
