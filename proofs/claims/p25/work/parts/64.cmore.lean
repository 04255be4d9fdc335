
/-! the class: the text's letters, history, snapshot *)
-/
section CM
variable {g : GX} {cx : CX} {mt : MT} {F : State → Prop} {cs : Nat × Nat} {pc : Nat} {ls : List (Option Value)} {st : List Value}
variable {σ : Nat → Nat} {J J0 : MI} {R : MR} {Z Y : MI} {H : Nat → MI} {h : Nat} {K : MI} {e : Bool} {n : Nat} {t : Nat → Int32} {a b : Int32}
theorem x_cpN {idx o : Nat} (hC : Cl σ J R Z H h K e n t a b) (hH : Hi J0 J) (hB : St R o) (hne : 1 ≠ o) (hK : SJ o J Y) (hV : LV Y) (hl : Cond.methodLink mt.1.cls idx yX4_copyFrom ∈ XT) (hroom : xRoom mt mX4_copyFrom) (hd : decode mt.2.1 pc = .ok (.invokevirtual idx, 3)) (hcat : (st.map fun v => v.category).sum ≤ 8) (hf : xFit mt cs) (k : ∀ J1, Hi J0 J1 → Off 1 J J1 → Cl σ J1 R Y H h K e n t a b → X g cx mt F cs (pc + 3) ls st 131 J1 R) : X g cx mt F cs pc ls (.ref o :: .ref 1 :: st) 131 J R := by
  have h1 := hC.ob.s1
  exact x_callV (mt' := mX4_copyFrom) (av := [.ref o]) (sp_copyFrom h1 hB hne hC.sj hK) kvX4_copyFrom hl hroom hd h1.k0 h1.lt0 rfl rfl hcat (fun r' n' I2 R2 hq => by
    obtain ⟨rfl, rfl, rfl, q1, q2⟩ := hq
    rw [xNo_cs (mt' := mX4_copyFrom) ⟨rfl, rfl⟩]
    exact k I2 (hH.tr (Hi.off h1 q1)) q1 (hC.now q1 q2 hV)) (xNo_fit ⟨rfl, rfl⟩ hf)
theorem x_cpK {idx : Nat} (hC : Cl σ J R Z H h K e n t a b) (hH : Hi J0 J) (hl : Cond.methodLink mt.1.cls idx yX4_copyFrom ∈ XT) (hroom : xRoom mt mX4_copyFrom) (hd : decode mt.2.1 pc = .ok (.invokevirtual idx, 3)) (hcat : (st.map fun v => v.category).sum ≤ 8) (hf : xFit mt cs) (k : ∀ J1, Hi J0 J1 → Cl σ J1 R Z H h Z e n t a b → SJ 19 J1 Z → X g cx mt F cs (pc + 3) ls st 131 J1 R) : X g cx mt F cs pc ls (.ref 1 :: .ref 19 :: st) 131 J R := by
  have h19 := hC.ob.s19
  obtain ⟨Y, hY⟩ := hC.any19
  exact x_callV (mt' := mX4_copyFrom) (av := [.ref 1]) (sp_copyFrom h19 hC.ob.s1 (by decide) hY hC.sj) kvX4_copyFrom hl hroom hd h19.k0 h19.lt0 rfl rfl hcat (fun r' n' I2 R2 hq => by
    obtain ⟨rfl, rfl, rfl, q1, q2⟩ := hq
    rw [xNo_cs (mt' := mX4_copyFrom) ⟨rfl, rfl⟩]
    exact k I2 (hH.tr (Hi.off h19 q1)) (hC.snap q1 q2 hC.lv) q2) (xNo_fit ⟨rfl, rfl⟩ hf)
end CM
section CT
variable {J : MI} {R : MR} {n : Nat} {t : Nat → Int32}
end CT
section CL
variable {σ : Nat → Nat} {J0 : MI} {R : MR} {Z : MI} {H : Nat → MI} {h : Nat} {K : MI} {e : Bool} {n : Nat} {t : Nat → Int32} {a b : Int32}
theorem sp_undoN (hC : Cl σ J0 R Z H h K e n t a b) (h0 : h = 0) : Sp mX5_undo [.ref 0] 131 J0 R (KQ σ J0 R Z H h K e n t a b (-5)) := by
  refine Sp.mk (by decide +kernel) (by simp [Value.category]) (Nat.le_of_ble_eq_true rfl) (fun g cx => ?_)
  refine x_aload_n dX5_undo_0 rfl rfl ?_
  refine x_getI fl_X5_95 dX5_undo_1 xk_0 (by decide) rfl (x_eqtop hC.f5 ?_)
  refine x_iconst (nI 1) dX5_undo_4 (by decide) ?_
  refine x_icmp_ltT 20 dX5_undo_5 (by decide) (by rw [h0]; decide) ?_
  refine x_bipush (-5) dX5_undo_20 (by decide) ?_
  refine x_iret dX5_undo_22 rfl (by decide) (by decide) ?_
  exact ⟨rfl, rfl, Hi.rf, rfl, hC⟩
theorem sp_undo (hC : Cl σ J0 R Z H h K e n t a b) (h0 : ¬ h = 0) : Sp mX5_undo [.ref 0] 131 J0 R (KQ σ J0 R (H (h - 1)) H (h - 1) K e n t a b (nI (h - 1))) := by
  refine Sp.mk (by decide +kernel) (by simp [Value.category]) (Nat.le_of_ble_eq_true rfl) (fun g cx => ?_)
  have h4 := hC.h4
  have hq := hC.2.2.1.2 (h - 1) (by omega)
  have hb := hC.ob
  refine x_aload_n dX5_undo_0 rfl rfl ?_
  refine x_getI fl_X5_95 dX5_undo_1 xk_0 (by decide) rfl (x_eqtop hC.f5 ?_)
  refine x_iconst (nI 1) dX5_undo_4 (by decide) ?_
  refine x_icmp_ltF dX5_undo_5 (fun q => absurd ((nI_ltI (by omega) (by omega)).mp q) (by omega)) ?_ 20 (by decide)
  refine x_aload_n dX5_undo_8 rfl rfl ?_
  refine x_getI fl_X5_95 dX5_undo_9 xk_0 (by decide) rfl (x_eqtop hC.f5 ?_)
  refine x_aload_n dX5_undo_12 rfl rfl ?_
  refine x_getR (j := 37) fl_X5_19 dX5_undo_13 xk_0 (by decide) rfl hC.ob.1.2.2.1 ?_
  refine x_alen (v := nI 4) dX5_undo_16 xk_37 ⟨by decide, by decide⟩ (by decide) (by rw [xl_37]; rfl) ?_
  refine x_icmp_leT 23 dX5_undo_17 (by decide) ((nI_leI (by omega) (by omega)).mpr h4) ?_
  refine x_aload_n dX5_undo_23 rfl rfl ?_
  refine x_dup dX5_undo_24 rfl ?_
  refine x_getI fl_X5_95 dX5_undo_25 xk_0 (by decide) rfl (x_eqtop hC.f5 ?_)
  refine x_iconst (nI 1) dX5_undo_28 (by decide) ?_
  refine x_isubN dX5_undo_29 (by omega) ?_
  refine x_putI fl_X5_95 fp_5_5 dX5_undo_30 xk_0 (by decide) rfl rfl rfl ?_
  have hlo := (hb.in5 (i := h - 1) (by omega)).2.1
  have hK1 : SJ (σ (h - 1)) (xuI J0 0 5 (nI (h - 1))) (H (h - 1)) := hq.1.cg (fun x q1 q2 => xuI_row (by omega)) (fun _ _ => rfl)
  have hH : Hi J0 (xuI J0 0 5 (nI (h - 1))) := fun x hx => xuI_row (by omega)
  replace hC : Cl σ (xuI J0 0 5 (nI (h - 1))) R Z H (h - 1) K e n t a b := hC.fl (fun x q1 q2 => by rw [xuI_row (by omega)]) (by omega) hC.snp xuI_self (by rw [xuI_col (by omega)]; exact hC.f6) (by rw [xuI_col (by omega)]; exact hC.f7) (by rw [xuI_col (by omega)]; exact hC.f8) (hC.tx.cg (xuI_row (by omega)) (xuI_row (by omega)))
  refine x_aload_n dX5_undo_33 rfl rfl ?_
  refine x_getR (j := 1) fl_X5_10 dX5_undo_34 xk_0 (by decide) rfl hC.ob.1.1 ?_
  refine x_aload_n dX5_undo_37 rfl rfl ?_
  refine x_getR (j := 37) fl_X5_19 dX5_undo_38 xk_0 (by decide) rfl hC.ob.1.2.2.1 ?_
  refine x_aload_n dX5_undo_41 rfl rfl ?_
  refine x_getI fl_X5_95 dX5_undo_42 xk_0 (by decide) rfl (x_eqtop hC.f5 ?_)
  refine x_aald (j := h - 1) (a := σ (h - 1)) (c := 11) ⟨by decide, by decide⟩ dX5_undo_45 xk_37 (by decide) (nI_pos (by omega)) (nI_clamp (by omega)) (by rw [xl_37]; omega) (hb.2.1 _ (by omega)) ?_
  refine x_cpN hC hH (hb.st (i := h - 1) (by omega)) (hb.ne1 (by omega)).symm hK1 hq.2 wl_X5_40 (by decide) dX5_undo_46 (Nat.le_of_ble_eq_true rfl) (by decide) (fun J hH hO hC => ?_)
  refine x_aload_n dX5_undo_49 rfl rfl ?_
  refine x_getI fl_X5_95 dX5_undo_50 xk_0 (by decide) rfl (x_eqtop hC.f5 ?_)
  refine x_iret dX5_undo_53 rfl (by decide) (by decide) ?_
  exact ⟨rfl, rfl, hH, rfl, hC⟩
end CL
