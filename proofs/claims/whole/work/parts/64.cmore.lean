/-! the class: the text's letters, history, snapshot *)
-/
section CM
variable {g : GX} {cx : CX} {mt : MT} {F : State → Prop} {cs : Nat × Nat} {pc : Nat} {ls : List (Option Value)} {st : List Value}
variable {σ : Nat → Nat} {J J0 : MI} {R : MR} {Z Y : MI} {H : Nat → MI} {h : Nat} {K : MI} {e : Bool} {n : Nat} {t : Nat → Int32} {a b : Int32}
theorem x_cpN {idx o : Nat} (hC : Cl σ J R Z H h K e n t a b) (hH : Hi J0 J) (hB : St R o) (hne : 1 ≠ o) (hK : SJ o J Y) (hV : LV Y) (hl : Cond.methodLink mt.1.cls idx yX4_copyFrom ∈ XT) (hroom : xRoom mt mX4_copyFrom) (hd : decode mt.2.1 pc = .ok (.invokevirtual idx, 3)) (hcat : (st.map fun v => v.category).sum ≤ 8) (hf : xFit mt cs) (k : ∀ J1, Hi J0 J1 → Off 1 J J1 → Cl σ J1 R Y H h K e n t a b → X g cx mt F cs (pc + 3) ls st 137 J1 R) : X g cx mt F cs pc ls (.ref o :: .ref 1 :: st) 137 J R := by
  have h1 := hC.ob.s1
  exact x_callV (mt' := mX4_copyFrom) (av := [.ref o]) (sp_copyFrom h1 hB hne hC.sj hK) kvX4_copyFrom hl hroom hd h1.k0 h1.lt0 rfl rfl hcat (fun r' n' I2 R2 hq => by
    obtain ⟨rfl, rfl, rfl, q1, q2⟩ := hq
    rw [xNo_cs (mt' := mX4_copyFrom) ⟨rfl, rfl⟩]
    exact k I2 (hH.tr (Hi.off h1 q1)) q1 (hC.now q1 q2 hV)) (xNo_fit ⟨rfl, rfl⟩ hf)
theorem x_cpK {idx : Nat} (hC : Cl σ J R Z H h K e n t a b) (hH : Hi J0 J) (hl : Cond.methodLink mt.1.cls idx yX4_copyFrom ∈ XT) (hroom : xRoom mt mX4_copyFrom) (hd : decode mt.2.1 pc = .ok (.invokevirtual idx, 3)) (hcat : (st.map fun v => v.category).sum ≤ 8) (hf : xFit mt cs) (k : ∀ J1, Hi J0 J1 → Cl σ J1 R Z H h Z e n t a b → SJ 19 J1 Z → X g cx mt F cs (pc + 3) ls st 137 J1 R) : X g cx mt F cs pc ls (.ref 1 :: .ref 19 :: st) 137 J R := by
  have h19 := hC.ob.s19
  obtain ⟨Y, hY⟩ := hC.any19
  exact x_callV (mt' := mX4_copyFrom) (av := [.ref 1]) (sp_copyFrom h19 hC.ob.s1 (by decide) hY hC.sj) kvX4_copyFrom hl hroom hd h19.k0 h19.lt0 rfl rfl hcat (fun r' n' I2 R2 hq => by
    obtain ⟨rfl, rfl, rfl, q1, q2⟩ := hq
    rw [xNo_cs (mt' := mX4_copyFrom) ⟨rfl, rfl⟩]
    exact k I2 (hH.tr (Hi.off h19 q1)) (hC.snap q1 q2 hC.lv) q2) (xNo_fit ⟨rfl, rfl⟩ hf)
end CM
section CT
variable {J : MI} {R : MR} {n : Nat} {t : Nat → Int32}
theorem sp_append (hT : Tx J n t) (hr : R 38 0 = some 39) (c : Int32) (hc : narrow .char (.int c) = .int c) (hn : ¬ n = 80) : Spd mX2_append [.ref 38, .int c] J R (some (.int (nI (n + 1)))) (xuI (xuI J 39 n c) 38 2 (nI (n + 1))) := by
  refine Spd.mk (by decide +kernel) (by simp [Value.category]) (Nat.le_of_ble_eq_true rfl) (fun g cx => ?_)
  have hn80 := hT.1
  have hl2 : xuI J 39 n c 38 2 = nI n := by rw [xuI_row (by omega)]; exact hT.2.1
  refine x_aload_n dX2_append_0 rfl rfl ?_
  refine x_getI fl_X2_23 dX2_append_1 xk_38 (by decide) rfl (x_eqtop (y := nI n) hT.2.1 ?_)
  refine x_bipush (nI 80) dX2_append_4 (by decide) ?_
  refine x_callSNd0 (mt' := mX5_isIndex) (sp_isIx _ 79 (by decide)) ktX5_isIndex wl_X2_26 (by decide) dX2_append_6 rfl rfl (Nat.le_of_ble_eq_true rfl) ⟨rfl, rfl⟩ (by decide) ?_
  refine x_if_neT 15 dX2_append_9 (by decide) (fun q => bi_t q (inr_nat (by omega) (by omega) (by omega) (by omega))) ?_
  refine x_aload_n dX2_append_15 rfl rfl ?_
  refine x_getR (j := 39) fl_X2_11 dX2_append_16 xk_38 (by decide) rfl hr ?_
  refine x_aload_n dX2_append_19 rfl rfl ?_
  refine x_getI fl_X2_23 dX2_append_20 xk_38 (by decide) rfl (x_eqtop (y := nI n) hT.2.1 ?_)
  refine x_iload_n dX2_append_23 rfl rfl ?_
  refine x_cast (j := n) dX2_append_24 xk_39 (by decide) (nI_pos (by omega)) (nI_clamp (by omega)) (by rw [xl_39]; omega) hc ?_
  refine x_aload_n dX2_append_25 rfl rfl ?_
  refine x_dup dX2_append_26 rfl ?_
  refine x_getI fl_X2_23 dX2_append_27 xk_38 (by decide) rfl (x_eqtop (y := nI n) hl2 ?_)
  refine x_iconst (nI 1) dX2_append_30 (by decide) ?_
  refine x_iaddN dX2_append_31 ?_
  refine x_putI fl_X2_23 fp_2_2 dX2_append_32 xk_38 (by decide) rfl rfl rfl ?_
  refine x_aload_n dX2_append_35 rfl rfl ?_
  refine x_getI fl_X2_23 dX2_append_36 xk_38 (by decide) rfl (x_eqtop (y := nI (n + 1)) xuI_self ?_)
  refine x_iret dX2_append_39 rfl (by decide) (by decide) ?_
  exact ⟨rfl, rfl, rfl, rfl⟩
theorem sp_appendF (hT : Tx J n t) (c : Int32) (hn : n = 80) : Spd mX2_append [.ref 38, .int c] J R (some (.int (-3))) J := by
  refine Spd.mk (by decide +kernel) (by simp [Value.category]) (Nat.le_of_ble_eq_true rfl) (fun g cx => ?_)
  refine x_aload_n dX2_append_0 rfl rfl ?_
  refine x_getI fl_X2_23 dX2_append_1 xk_38 (by decide) rfl (x_eqtop (y := nI n) hT.2.1 ?_)
  refine x_bipush (nI 80) dX2_append_4 (by decide) ?_
  refine x_callSNd0 (mt' := mX5_isIndex) (sp_isIx _ 79 (by decide)) ktX5_isIndex wl_X2_26 (by decide) dX2_append_6 rfl rfl (Nat.le_of_ble_eq_true rfl) ⟨rfl, rfl⟩ (by decide) ?_
  refine x_if_neF dX2_append_9 (by rw [hn]; decide) ?_ 15 (by decide)
  refine x_bipush (-3) dX2_append_12 (by decide) ?_
  refine x_iret dX2_append_14 rfl (by decide) (by decide) ?_
  exact ⟨rfl, rfl, rfl, rfl⟩
theorem sp_empty (hT : Tx J n t) : Spd mX2_empty [.ref 38] J R (some (.int (nI n))) (xuI J 38 2 (nI 0)) := by
  refine Spd.mk (by decide +kernel) (by simp [Value.category]) (Nat.le_of_ble_eq_true rfl) (fun g cx => ?_)
  refine x_aload_n dX2_empty_0 rfl rfl ?_
  refine x_getI fl_X2_23 dX2_empty_1 xk_38 (by decide) rfl (x_eqtop (y := nI n) hT.2.1 ?_)
  refine x_istore_n dX2_empty_4 rfl (by decide) ?_
  refine x_aload_n dX2_empty_5 rfl rfl ?_
  refine x_iconst (nI 0) dX2_empty_6 (by decide) ?_
  refine x_putI fl_X2_23 fp_2_2 dX2_empty_7 xk_38 (by decide) rfl rfl rfl ?_
  refine x_iload_n dX2_empty_10 rfl rfl ?_
  refine x_iret dX2_empty_11 rfl (by decide) (by decide) ?_
  exact ⟨rfl, rfl, rfl, rfl⟩
end CT
section CL
variable {σ : Nat → Nat} {J0 : MI} {R : MR} {Z : MI} {H : Nat → MI} {h : Nat} {K : MI} {e : Bool} {n : Nat} {t : Nat → Int32} {a b : Int32}
theorem sp_type (hC : Cl σ J0 R Z H h K e n t a b) (c : Int32) (hc : narrow .char (.int c) = .int c) (hn : ¬ n = 80) : Sp mX5_type [.ref 0, .int c] 137 J0 R (KQ σ J0 R Z H h K e (n + 1) (upd t n c) a b (nI (n + 1))) := by
  refine Sp.mk (by decide +kernel) (by simp [Value.category]) (Nat.le_of_ble_eq_true rfl) (fun g cx => ?_)
  have hT := hC.tx
  have hn80 := hT.1
  have hr := hC.ob.2.2.2.2.2.1
  have hF : Cl σ (xuI (xuI J0 39 n c) 38 2 (nI (n + 1))) R Z H h K e (n + 1) (upd t n c) a b := hC.fl (fun x q1 q2 => by rw [xuI_row (by omega), xuI_row (by omega)]) (Nat.le_refl h) hC.snp (by rw [xuI_row (by omega), xuI_row (by omega)]; exact hC.f5) (by rw [xuI_row (by omega), xuI_row (by omega)]; exact hC.f6) (by rw [xuI_row (by omega), xuI_row (by omega)]; exact hC.f7) (by rw [xuI_row (by omega), xuI_row (by omega)]; exact hC.f8) ⟨by omega, xuI_self, fun i hi => by
    rw [xuI_row (by omega)]
    by_cases q : i = n
    · subst q; rw [xuI_self, upd_self]
    · rw [xuI_col q, upd_ne q]; exact hT.2.2 i (by omega)⟩
  refine x_aload_n dX5_type_0 rfl rfl ?_
  refine x_getR (j := 38) fl_X5_26 dX5_type_1 xk_0 (by decide) rfl hC.ob.1.2.2.2.1 ?_
  refine x_iload_n dX5_type_4 rfl rfl ?_
  refine x_callVd0 (mt' := mX2_append) (sp_append hT hr c hc hn) kvX2_append wl_X5_71 (by decide) dX5_type_5 xk_38 (by decide) rfl rfl (Nat.le_of_ble_eq_true rfl) ⟨rfl, rfl⟩ (by decide) ?_
  refine x_iret dX5_type_8 rfl (by decide) (by decide) ?_
  exact ⟨rfl, rfl, fun x hx => by rw [xuI_row (by omega), xuI_row (by omega)], rfl, hF⟩
theorem sp_typeF (hC : Cl σ J0 R Z H h K e n t a b) (c : Int32) (hn : n = 80) : Sp mX5_type [.ref 0, .int c] 137 J0 R (KQ σ J0 R Z H h K e n t a b (-3)) := by
  refine Sp.mk (by decide +kernel) (by simp [Value.category]) (Nat.le_of_ble_eq_true rfl) (fun g cx => ?_)
  refine x_aload_n dX5_type_0 rfl rfl ?_
  refine x_getR (j := 38) fl_X5_26 dX5_type_1 xk_0 (by decide) rfl hC.ob.1.2.2.2.1 ?_
  refine x_iload_n dX5_type_4 rfl rfl ?_
  refine x_callVd0 (mt' := mX2_append) (sp_appendF hC.tx c hn) kvX2_append wl_X5_71 (by decide) dX5_type_5 xk_38 (by decide) rfl rfl (Nat.le_of_ble_eq_true rfl) ⟨rfl, rfl⟩ (by decide) ?_
  refine x_iret dX5_type_8 rfl (by decide) (by decide) ?_
  exact ⟨rfl, rfl, Hi.rf, rfl, hC⟩
theorem sp_clearText (hC : Cl σ J0 R Z H h K e n t a b) : Sp mX5_clearText [.ref 0] 137 J0 R (KQ σ J0 R Z H h K e 0 t a b (nI n)) := by
  refine Sp.mk (by decide +kernel) (by simp [Value.category]) (Nat.le_of_ble_eq_true rfl) (fun g cx => ?_)
  have hT := hC.tx
  have hF : Cl σ (xuI J0 38 2 (nI 0)) R Z H h K e 0 t a b := hC.fl (fun x q1 q2 => by rw [xuI_row (by omega)]) (Nat.le_refl h) hC.snp (by rw [xuI_row (by omega)]; exact hC.f5) (by rw [xuI_row (by omega)]; exact hC.f6) (by rw [xuI_row (by omega)]; exact hC.f7) (by rw [xuI_row (by omega)]; exact hC.f8) ⟨by omega, xuI_self, fun i hi => absurd hi (by omega)⟩
  refine x_aload_n dX5_clearText_0 rfl rfl ?_
  refine x_getR (j := 38) fl_X5_26 dX5_clearText_1 xk_0 (by decide) rfl hC.ob.1.2.2.2.1 ?_
  refine x_callVd0 (mt' := mX2_empty) (sp_empty hT) kvX2_empty wl_X5_75 (by decide) dX5_clearText_4 xk_38 (by decide) rfl rfl (Nat.le_of_ble_eq_true rfl) ⟨rfl, rfl⟩ (by decide) ?_
  refine x_iret dX5_clearText_7 rfl (by decide) (by decide) ?_
  exact ⟨rfl, rfl, fun x hx => by rw [xuI_row (by omega)], rfl, hF⟩
theorem sp_undoN (hC : Cl σ J0 R Z H h K e n t a b) (h0 : h = 0) : Sp mX5_undo [.ref 0] 137 J0 R (KQ σ J0 R Z H h K e n t a b (-5)) := by
  refine Sp.mk (by decide +kernel) (by simp [Value.category]) (Nat.le_of_ble_eq_true rfl) (fun g cx => ?_)
  refine x_aload_n dX5_undo_0 rfl rfl ?_
  refine x_getI fl_X5_95 dX5_undo_1 xk_0 (by decide) rfl (x_eqtop hC.f5 ?_)
  refine x_iconst (nI 1) dX5_undo_4 (by decide) ?_
  refine x_icmp_ltT 20 dX5_undo_5 (by decide) (by rw [h0]; decide) ?_
  refine x_bipush (-5) dX5_undo_20 (by decide) ?_
  refine x_iret dX5_undo_22 rfl (by decide) (by decide) ?_
  exact ⟨rfl, rfl, Hi.rf, rfl, hC⟩
theorem sp_undo (hC : Cl σ J0 R Z H h K e n t a b) (h0 : ¬ h = 0) : Sp mX5_undo [.ref 0] 137 J0 R (KQ σ J0 R (H (h - 1)) H (h - 1) K e n t a b (nI (h - 1))) := by
  refine Sp.mk (by decide +kernel) (by simp [Value.category]) (Nat.le_of_ble_eq_true rfl) (fun g cx => ?_)
  have h4 := hC.h4
  have hq := hC.2.2.1.2 (h - 1) (by omega)
  have hb := hC.ob
  refine x_aload_n dX5_undo_0 rfl rfl ?_
  refine x_getI fl_X5_95 dX5_undo_1 xk_0 (by decide) rfl (x_eqtop hC.f5 ?_)
  refine x_iconst (nI 1) dX5_undo_4 (by decide) ?_
  refine x_icmp_ltF dX5_undo_5 (fun q => absurd ((nI_ltI (by omega) (by omega)).mp q) (by omega)) ?_ 20 (by decide)
  refine x_aload_n dX5_undo_8 rfl rfl ?_
  refine x_getI fl_X5_95 dX5_undo_9 xk_0 (by decide) rfl (x_eqtop hC.f5 ?_)
  refine x_aload_n dX5_undo_12 rfl rfl ?_
  refine x_getR (j := 37) fl_X5_19 dX5_undo_13 xk_0 (by decide) rfl hC.ob.1.2.2.1 ?_
  refine x_alen (v := nI 4) dX5_undo_16 xk_37 ⟨by decide, by decide⟩ (by decide) (by rw [xl_37]; rfl) ?_
  refine x_icmp_leT 23 dX5_undo_17 (by decide) ((nI_leI (by omega) (by omega)).mpr h4) ?_
  refine x_aload_n dX5_undo_23 rfl rfl ?_
  refine x_dup dX5_undo_24 rfl ?_
  refine x_getI fl_X5_95 dX5_undo_25 xk_0 (by decide) rfl (x_eqtop hC.f5 ?_)
  refine x_iconst (nI 1) dX5_undo_28 (by decide) ?_
  refine x_isubN dX5_undo_29 (by omega) ?_
  refine x_putI fl_X5_95 fp_5_5 dX5_undo_30 xk_0 (by decide) rfl rfl rfl ?_
  have hlo := (hb.in5 (i := h - 1) (by omega)).2.1
  have hK1 : SJ (σ (h - 1)) (xuI J0 0 5 (nI (h - 1))) (H (h - 1)) := hq.1.cg (fun x q1 q2 => xuI_row (by omega)) (fun _ _ => rfl)
  have hH : Hi J0 (xuI J0 0 5 (nI (h - 1))) := fun x hx => xuI_row (by omega)
  replace hC : Cl σ (xuI J0 0 5 (nI (h - 1))) R Z H (h - 1) K e n t a b := hC.fl (fun x q1 q2 => by rw [xuI_row (by omega)]) (by omega) hC.snp xuI_self (by rw [xuI_col (by omega)]; exact hC.f6) (by rw [xuI_col (by omega)]; exact hC.f7) (by rw [xuI_col (by omega)]; exact hC.f8) (hC.tx.cg (xuI_row (by omega)) (xuI_row (by omega)))
  refine x_aload_n dX5_undo_33 rfl rfl ?_
  refine x_getR (j := 1) fl_X5_10 dX5_undo_34 xk_0 (by decide) rfl hC.ob.1.1 ?_
  refine x_aload_n dX5_undo_37 rfl rfl ?_
  refine x_getR (j := 37) fl_X5_19 dX5_undo_38 xk_0 (by decide) rfl hC.ob.1.2.2.1 ?_
  refine x_aload_n dX5_undo_41 rfl rfl ?_
  refine x_getI fl_X5_95 dX5_undo_42 xk_0 (by decide) rfl (x_eqtop hC.f5 ?_)
  refine x_aald (j := h - 1) (a := σ (h - 1)) (c := 11) ⟨by decide, by decide⟩ dX5_undo_45 xk_37 (by decide) (nI_pos (by omega)) (nI_clamp (by omega)) (by rw [xl_37]; omega) (hb.2.1 _ (by omega)) ?_
  refine x_cpN hC hH (hb.st (i := h - 1) (by omega)) (hb.ne1 (by omega)).symm hK1 hq.2 wl_X5_40 (by decide) dX5_undo_46 (Nat.le_of_ble_eq_true rfl) (by decide) (fun J hH hO hC => ?_)
  refine x_aload_n dX5_undo_49 rfl rfl ?_
  refine x_getI fl_X5_95 dX5_undo_50 xk_0 (by decide) rfl (x_eqtop hC.f5 ?_)
  refine x_iret dX5_undo_53 rfl (by decide) (by decide) ?_
  exact ⟨rfl, rfl, hH, rfl, hC⟩
theorem sp_keep (hC : Cl σ J0 R Z H h K e n t a b) : Sp mX5_keep [.ref 0] 137 J0 R (KQ σ J0 R Z H h Z true n t a b (Z 8 3)) := by
  refine Sp.mk (by decide +kernel) (by simp [Value.category]) (Nat.le_of_ble_eq_true rfl) (fun g cx => ?_)
  have hH : Hi J0 J0 := Hi.rf
  refine x_aload_n dX5_keep_0 rfl rfl ?_
  refine x_getR (j := 19) fl_X5_16 dX5_keep_1 xk_0 (by decide) rfl hC.ob.1.2.1 ?_
  refine x_aload_n dX5_keep_4 rfl rfl ?_
  refine x_getR (j := 1) fl_X5_10 dX5_keep_5 xk_0 (by decide) rfl hC.ob.1.1 ?_
  refine x_cpK hC hH wl_X5_40 (by decide) dX5_keep_8 (Nat.le_of_ble_eq_true rfl) (by decide) (fun J hH hC hK => ?_)
  refine x_aload_n dX5_keep_11 rfl rfl ?_
  refine x_iconst (nI 1) dX5_keep_12 (by decide) ?_
  refine x_putI fl_X5_98 fp_5_6 dX5_keep_13 xk_0 (by decide) rfl rfl rfl ?_
  replace hH : Hi J0 (xuI J 0 6 (nI 1)) := hH.tr (fun x hx => xuI_row (by omega))
  replace hC : Cl σ (xuI J 0 6 (nI 1)) R Z H h Z true n t a b := hC.fl (fun x q1 q2 => by rw [xuI_row (by omega)]) (Nat.le_refl h) (fun _ => ⟨hK, hC.lv⟩) (by rw [xuI_col (by omega)]; exact hC.f5) xuI_self (by rw [xuI_col (by omega)]; exact hC.f7) (by rw [xuI_col (by omega)]; exact hC.f8) (hC.tx.cg (xuI_row (by omega)) (xuI_row (by omega)))
  refine x_aload_n dX5_keep_16 rfl rfl ?_
  refine x_getR (j := 1) fl_X5_10 dX5_keep_17 xk_0 (by decide) rfl hC.ob.1.1 ?_
  refine x_getI fl_X5_102 dX5_keep_20 hC.ob.s1.k0 hC.ob.s1.lt0 rfl (x_eqtop hC.sj.f4 ?_)
  refine x_iret dX5_keep_23 rfl (by decide) (by decide) ?_
  exact ⟨rfl, rfl, hH, rfl, hC⟩
theorem sp_restoreN (hC : Cl σ J0 R Z H h K e n t a b) (he : e = false) : Sp mX5_restore [.ref 0] 137 J0 R (KQ σ J0 R Z H h K e n t a b (-5)) := by
  refine Sp.mk (by decide +kernel) (by simp [Value.category]) (Nat.le_of_ble_eq_true rfl) (fun g cx => ?_)
  refine x_aload_n dX5_restore_0 rfl rfl ?_
  refine x_getI fl_X5_98 dX5_restore_1 xk_0 (by decide) rfl (x_eqtop hC.f6 ?_)
  refine x_if_neF dX5_restore_4 (bi_0.mpr he) ?_ 10 (by decide)
  refine x_bipush (-5) dX5_restore_7 (by decide) ?_
  refine x_iret dX5_restore_9 rfl (by decide) (by decide) ?_
  exact ⟨rfl, rfl, Hi.rf, rfl, hC⟩
theorem sp_restore (hC : Cl σ J0 R Z H h K e n t a b) (he : e = true) : Sp mX5_restore [.ref 0] 137 J0 R (RQ σ J0 K Z H h K e n t a b (K 8 3)) := by
  refine Sp.mk (by decide +kernel) (by simp [Value.category]) (Nat.le_of_ble_eq_true rfl) (fun g cx => ?_)
  have hH : Hi J0 J0 := Hi.rf
  have hV0 := hC.lv
  refine x_aload_n dX5_restore_0 rfl rfl ?_
  refine x_getI fl_X5_98 dX5_restore_1 xk_0 (by decide) rfl (x_eqtop hC.f6 ?_)
  refine x_if_neT 10 dX5_restore_4 (by decide) (by rw [he]; decide) ?_
  refine x_aload_n dX5_restore_10 rfl rfl ?_
  refine x_getR (j := σ 4) fl_X5_30 dX5_restore_11 xk_0 (by decide) rfl hC.ob.1.2.2.2.2 ?_
  refine x_aload_n dX5_restore_14 rfl rfl ?_
  refine x_getR (j := 1) fl_X5_10 dX5_restore_15 xk_0 (by decide) rfl hC.ob.1.1 ?_
  refine x_cpS hC hH wl_X5_40 (by decide) dX5_restore_18 (Nat.le_of_ble_eq_true rfl) (by decide) (fun J hH hC hP => ?_)
  refine x_aload_n dX5_restore_21 rfl rfl ?_
  refine x_getR (j := 1) fl_X5_10 dX5_restore_22 xk_0 (by decide) rfl hC.ob.1.1 ?_
  refine x_aload_n dX5_restore_25 rfl rfl ?_
  refine x_getR (j := 19) fl_X5_16 dX5_restore_26 xk_0 (by decide) rfl hC.ob.1.2.1 ?_
  refine x_cpN hC hH hC.ob.s19 (by decide) (hC.snp he).1 (hC.snp he).2 wl_X5_40 (by decide) dX5_restore_29 (Nat.le_of_ble_eq_true rfl) (by decide) (fun J hH hO hC => ?_)
  replace hP := hP.off hC.ob.s1 (hC.ob.st (i := 4) (by omega)) (hC.ob.ne1 (by omega)).symm hO
  refine x_aload_n dX5_restore_32 rfl rfl ?_
  refine x_aload_n dX5_restore_33 rfl rfl ?_
  refine x_getR (j := 1) fl_X5_10 dX5_restore_34 xk_0 (by decide) rfl hC.ob.1.1 ?_
  refine x_getI fl_X5_102 dX5_restore_37 hC.ob.s1.k0 hC.ob.s1.lt0 rfl (x_eqtop hC.sj.f4 ?_)
  refine x_callV (mt' := mX5_recorded) (sp_recorded hC hP hV0 _) kvX5_recorded wl_X5_48 (by decide) dX5_restore_40 xk_0 (by decide) rfl rfl (Nat.le_of_ble_eq_true rfl) (fun r' n' J2 R2 hq => ?_)
  obtain ⟨rfl, rfl, hH2, hq⟩ := hq
  refine x_iret dX5_restore_43 rfl (by decide) (by decide) ?_
  exact ⟨rfl, rfl, hH.tr hH2, hq⟩
end CL
