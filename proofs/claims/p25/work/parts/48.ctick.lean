
/-! the class: a tick -/
theorem m4_le : ∀ a b c d : Fin 6, (m4 (decide (¬ nI a.1 ≤ 0)) (decide (¬ nI b.1 ≤ 0)) (decide (¬ nI c.1 ≤ 0)) (decide (¬ nI d.1 ≤ 0)) = 0) ↔ (((nI 0 + nI a.1) + nI b.1) + nI c.1) + nI d.1 ≤ 0 := by decide +kernel
theorem hm_sm {o : Nat} {I Z : MI} (hJ : SJ o I Z) : mk (hasM Z) 4 = 0 ↔ sm (fun j => Z j 0) 4 ≤ 0 := by
  obtain ⟨a, ha, ea⟩ := hJ.sz (k := 0) (by omega)
  obtain ⟨b, hb, eb⟩ := hJ.sz (k := 1) (by omega)
  obtain ⟨c, hc, ec⟩ := hJ.sz (k := 2) (by omega)
  obtain ⟨d, hd, ed⟩ := hJ.sz (k := 3) (by omega)
  have h := m4_le ⟨a, by omega⟩ ⟨b, by omega⟩ ⟨c, by omega⟩ ⟨d, by omega⟩
  rw [mk_m4]
  unfold hasM
  rw [ea, eb, ec, ed]
  show _ ↔ (((nI 0 + Z 0 0) + Z 1 0) + Z 2 0) + Z 3 0 ≤ 0
  rw [ea, eb, ec, ed]
  exact h
theorem pFc_eq {o : Nat} {I Z : MI} (hJ : SJ o I Z) (h7 : Z 8 7 = nI 0) : pFc Z = pTf Z := by
  unfold pFc pTf
  by_cases h : Z 8 5 + nI 1 < Z 8 0
  · rw [if_pos (Or.inl h), if_pos h]
  · by_cases h2 : mk (hasM Z) 4 = 0
    · rw [if_pos (Or.inr h2), if_neg h, if_pos ((hm_sm hJ).mp h2)]
    · rw [if_neg (fun q => by rcases q with q | q; exact h q; exact h2 q), if_neg h, if_neg (fun q => h2 ((hm_sm hJ).mpr q))]
      rw [xuI_id (k := 8) (w := 7)]
      rw [xuI_col (by omega), pFr_ge (by omega), xuI_col (by omega)]
      exact h7
/-- what binds a row beyond its link to the class's state -/
def TL (Z : MI) : Prop := (∃ p, p < 27 ∧ Z 8 7 = nI p ∧ (∀ k, k < 4 → tk Z k = true → p < pBits (Z k 9)) ∧ (cn (tk Z) 4 = 0 → p = 0)) ∧ (¬ cn (tk Z) 4 = 0 → Z 8 5 = nI 0) ∧ (∃ h, h ≤ 9 ∧ Z 8 4 = nI h) ∧ (∀ k, k < 4 → ∃ h, h ≤ 9 ∧ Z (4 + k) 1 = nI h)
section CL
variable {I J0 : MI} {R : MR} {o : Nat} {Z : MI}
theorem sp_tick (hS : St R o) (hJ : SJ o J0 Z) (hT : TL Z) : Sp mX4_tick [.ref o] 131 J0 R (SQ o J0 R none (pTick Z)) := by
  refine Sp.mk (by decide +kernel) (by simp [Value.category]) (Nat.le_of_ble_eq_true rfl) (fun g cx => ?_)
  have hO : Off o J0 J0 := Off.rf
  obtain ⟨⟨p, hp, hz, hb, h0⟩, h5, ⟨hh, hh9, eh⟩, -⟩ := hT
  obtain ⟨x, L, -, hL, -, -, h10, -⟩ := hJ.2.2.2
  have eps : ps Z = p := by unfold ps; rw [hz, nI_cl (by omega)]
  have elg : lgn Z = L := by unfold lgn; rw [h10, nI_cl (by omega)]
  have dz : pZd Z 8 7 = nI p := by rw [pZd_8 (by omega) (by omega)]; exact hz
  have d10 : pZd Z 8 10 = nI L := by rw [pZd_8 (by omega) (by omega)]; exact h10
  have d4 : pZd Z 8 4 = nI hh := by rw [pZd_8 (by omega) (by omega)]; exact eh
  have d5 : pZd Z 8 5 = Z 8 5 := pZd_8 (by omega) (by omega)
  have dk : ∀ k, k < 4 → tk (pZd Z) k = tk Z k := fun k hk => tk_row (pZd_row (by omega))
  have dT : (∃ j, j < 4 ∧ tk Z j = true) → ∃ j, j < 4 ∧ tk (pZd Z) j = true := fun ⟨j, hj, q⟩ => ⟨j, hj, (dk j hj).trans q⟩
  have ck : ∀ k, k < 4 → tk (pZc Z) k = tk Z k := fun k hk => tk_row (by unfold pZc; rw [xuI_row (by omega)])
  have hx := pNx_le (Z := Z) (p := p)
  have hn := sp_nextTick (R := R) hS hJ (p := p) (by omega) hz
  have ept : pTick Z = if pNx Z p = 4 then pSt (pZc Z) p else if pNx Z p = 3 then xuI (pZd Z) 8 4 (Z 8 4 - nI 1) else if pNx Z p = 1 then pTb (pZd Z) L p else if pNx Z p = 0 then pTf (pZd Z) else pAns Z := by unfold pTick; rw [eps, elg]
  rw [ept]
  have h04 : pNx Z p = 1 ∨ pNx Z p = 2 → hh = 0 := fun q => by
    unfold pNx at q
    split at q
    · omega
    · split at q
      · omega
      · rename_i q2
        rw [eh] at q2
        exact Decidable.byContradiction fun z => q2 ((nI_ltI (a := 0) (by omega) (by omega)).mpr (by omega))
  have h00 : pNx Z p = 0 → cn (tk Z) 4 = 0 := fun q => by
    unfold pNx at q
    split at q
    · omega
    · split at q
      · omega
      · split at q
        · assumption
        · split at q <;> omega
  have h29 : pNx Z p = 2 → p % 9 = 8 := fun q => by
    unfold pNx at q
    split at q
    · omega
    · split at q
      · omega
      · split at q
        · omega
        · split at q
          · assumption
          · omega
  have hnT : (∃ j, j < 4 ∧ tk Z j = true) → ¬ cn (tk Z) 4 = 0 := fun ⟨j, hj, q⟩ z => by rw [cn_0 z j hj] at q; cases q
  rcases (show pNx Z p = 4 ∨ pNx Z p = 3 ∨ pNx Z p = 1 ∨ pNx Z p = 0 ∨ pNx Z p = 2 by omega) with e | e | e | e | e
  · rw [e] at hn
    rw [if_pos e]
    refine x_aload_n dX4_tick_0 rfl rfl ?_
    refine x_callVd0 (mt' := mX4_nextTick) (hn) kvX4_nextTick wl_X4_136 (by decide) dX4_tick_1 hS.k0 hS.lt0 rfl rfl (Nat.le_of_ble_eq_true rfl) ⟨rfl, rfl⟩ (by decide) ?_
    refine x_istore_n dX4_tick_4 rfl (by decide) ?_
    refine x_aload_n dX4_tick_5 rfl rfl ?_
    refine x_dup dX4_tick_6 rfl ?_
    refine x_getI fl_X4_52 dX4_tick_7 hS.k0 hS.lt0 rfl (x_eqtop hJ.f4 ?_)
    refine x_iconst (nI 1) dX4_tick_10 (by decide) ?_
    refine x_iadd dX4_tick_11 ?_
    refine x_putS (w := 3) hS hO hJ fl_X4_52 fp_4_4 dX4_tick_12 (by decide) (by decide) rfl (fun I hO hJ => ?_)
    replace hJ : SJ o I (pZc Z) := hJ
    refine x_iload_n dX4_tick_15 rfl rfl ?_
    refine x_iconst (nI 4) dX4_tick_16 (by decide) ?_
    refine x_icmp_eqT 25 dX4_tick_17 (by decide) (rfl) ?_
    refine x_iload_n dX4_tick_25 rfl rfl ?_
    refine x_tableIn (off := 30) 56 dX4_tick_26 (by decide) (by decide) (by decide) (by decide) ?_
    refine x_aload_n dX4_tick_56 rfl rfl ?_
    refine x_callVq hO (mt' := mX4_stuckTick) (sp_stuckTick hS hJ hp (by unfold pZc; rw [xuI_col (by omega)]; exact hz) (fun q => by unfold pZc; rw [xuI_col (by omega), hz, h0 (by rw [← cn_congr ck]; exact q)]) (fun q => by unfold pZc; rw [xuI_col (by omega)]; exact h5 (fun z => q (by rw [cn_congr ck]; exact z)))) kvX4_stuckTick wl_X4_139 (by decide) dX4_tick_57 hS.k0 hS.lt0 rfl rfl (Nat.le_of_ble_eq_true rfl) ⟨rfl, rfl⟩ (by decide) (fun I hO hJ => ?_)
    refine x_goto 94 dX4_tick_60 (by decide) ?_
    refine x_vret dX4_tick_94 rfl (by decide) (by decide) ?_
    exact ⟨rfl, rfl, rfl, hO, hJ⟩
  · rw [e] at hn
    rw [if_neg (by omega), if_pos e]
    refine x_aload_n dX4_tick_0 rfl rfl ?_
    refine x_callVd0 (mt' := mX4_nextTick) (hn) kvX4_nextTick wl_X4_136 (by decide) dX4_tick_1 hS.k0 hS.lt0 rfl rfl (Nat.le_of_ble_eq_true rfl) ⟨rfl, rfl⟩ (by decide) ?_
    refine x_istore_n dX4_tick_4 rfl (by decide) ?_
    refine x_aload_n dX4_tick_5 rfl rfl ?_
    refine x_dup dX4_tick_6 rfl ?_
    refine x_getI fl_X4_52 dX4_tick_7 hS.k0 hS.lt0 rfl (x_eqtop hJ.f4 ?_)
    refine x_iconst (nI 1) dX4_tick_10 (by decide) ?_
    refine x_iadd dX4_tick_11 ?_
    refine x_putS (w := 3) hS hO hJ fl_X4_52 fp_4_4 dX4_tick_12 (by decide) (by decide) rfl (fun I hO hJ => ?_)
    refine x_iload_n dX4_tick_15 rfl rfl ?_
    refine x_iconst (nI 4) dX4_tick_16 (by decide) ?_
    refine x_icmp_eqF dX4_tick_17 (by decide) ?_ 25 (by decide)
    refine x_aload_n dX4_tick_20 rfl rfl ?_
    refine x_iconst (nI 0) dX4_tick_21 (by decide) ?_
    refine x_putS (w := 6) hS hO hJ fl_X4_65 fp_4_8 dX4_tick_22 (by decide) (by decide) rfl (fun I hO hJ => ?_)
    replace hJ : SJ o I (pZd Z) := hJ
    refine x_iload_n dX4_tick_25 rfl rfl ?_
    refine x_tableIn (off := 37) 63 dX4_tick_26 (by decide) (by decide) (by decide) (by decide) ?_
    refine x_aload_n dX4_tick_63 rfl rfl ?_
    refine x_dup dX4_tick_64 rfl ?_
    refine x_getI fl_X4_59 dX4_tick_65 hS.k0 hS.lt0 rfl (x_eqtop hJ.f6 ?_)
    rw [d4, ← eh]
    refine x_iconst (nI 1) dX4_tick_68 (by decide) ?_
    refine x_isub dX4_tick_69 ?_
    refine x_putS (w := 4) hS hO hJ fl_X4_59 fp_4_6 dX4_tick_70 (by decide) (by decide) rfl (fun I hO hJ => ?_)
    refine x_goto 94 dX4_tick_73 (by decide) ?_
    refine x_vret dX4_tick_94 rfl (by decide) (by decide) ?_
    exact ⟨rfl, rfl, rfl, hO, hJ⟩
  · rw [e] at hn
    rw [if_neg (by omega), if_neg (by omega), if_pos e]
    have hTk := pNx_tk (Or.inl e)
    refine x_aload_n dX4_tick_0 rfl rfl ?_
    refine x_callVd0 (mt' := mX4_nextTick) (hn) kvX4_nextTick wl_X4_136 (by decide) dX4_tick_1 hS.k0 hS.lt0 rfl rfl (Nat.le_of_ble_eq_true rfl) ⟨rfl, rfl⟩ (by decide) ?_
    refine x_istore_n dX4_tick_4 rfl (by decide) ?_
    refine x_aload_n dX4_tick_5 rfl rfl ?_
    refine x_dup dX4_tick_6 rfl ?_
    refine x_getI fl_X4_52 dX4_tick_7 hS.k0 hS.lt0 rfl (x_eqtop hJ.f4 ?_)
    refine x_iconst (nI 1) dX4_tick_10 (by decide) ?_
    refine x_iadd dX4_tick_11 ?_
    refine x_putS (w := 3) hS hO hJ fl_X4_52 fp_4_4 dX4_tick_12 (by decide) (by decide) rfl (fun I hO hJ => ?_)
    refine x_iload_n dX4_tick_15 rfl rfl ?_
    refine x_iconst (nI 4) dX4_tick_16 (by decide) ?_
    refine x_icmp_eqF dX4_tick_17 (by decide) ?_ 25 (by decide)
    refine x_aload_n dX4_tick_20 rfl rfl ?_
    refine x_iconst (nI 0) dX4_tick_21 (by decide) ?_
    refine x_putS (w := 6) hS hO hJ fl_X4_65 fp_4_8 dX4_tick_22 (by decide) (by decide) rfl (fun I hO hJ => ?_)
    replace hJ : SJ o I (pZd Z) := hJ
    refine x_iload_n dX4_tick_25 rfl rfl ?_
    refine x_tableIn (off := 50) 76 dX4_tick_26 (by decide) (by decide) (by decide) (by decide) ?_
    refine x_aload_n dX4_tick_76 rfl rfl ?_
    refine x_callVq hO (mt' := mX4_sendBit) (sp_sendBit hS hJ hp dz (dT hTk) hL d10) kvX4_sendBit wl_X4_142 (by decide) dX4_tick_77 hS.k0 hS.lt0 rfl rfl (Nat.le_of_ble_eq_true rfl) ⟨rfl, rfl⟩ (by decide) (fun I hO hJ => ?_)
    refine x_goto 94 dX4_tick_80 (by decide) ?_
    refine x_vret dX4_tick_94 rfl (by decide) (by decide) ?_
    exact ⟨rfl, rfl, rfl, hO, hJ⟩
  · rw [e] at hn
    rw [if_neg (by omega), if_neg (by omega), if_neg (by omega), if_pos e]
    refine x_aload_n dX4_tick_0 rfl rfl ?_
    refine x_callVd0 (mt' := mX4_nextTick) (hn) kvX4_nextTick wl_X4_136 (by decide) dX4_tick_1 hS.k0 hS.lt0 rfl rfl (Nat.le_of_ble_eq_true rfl) ⟨rfl, rfl⟩ (by decide) ?_
    refine x_istore_n dX4_tick_4 rfl (by decide) ?_
    refine x_aload_n dX4_tick_5 rfl rfl ?_
    refine x_dup dX4_tick_6 rfl ?_
    refine x_getI fl_X4_52 dX4_tick_7 hS.k0 hS.lt0 rfl (x_eqtop hJ.f4 ?_)
    refine x_iconst (nI 1) dX4_tick_10 (by decide) ?_
    refine x_iadd dX4_tick_11 ?_
    refine x_putS (w := 3) hS hO hJ fl_X4_52 fp_4_4 dX4_tick_12 (by decide) (by decide) rfl (fun I hO hJ => ?_)
    refine x_iload_n dX4_tick_15 rfl rfl ?_
    refine x_iconst (nI 4) dX4_tick_16 (by decide) ?_
    refine x_icmp_eqF dX4_tick_17 (by decide) ?_ 25 (by decide)
    refine x_aload_n dX4_tick_20 rfl rfl ?_
    refine x_iconst (nI 0) dX4_tick_21 (by decide) ?_
    refine x_putS (w := 6) hS hO hJ fl_X4_65 fp_4_8 dX4_tick_22 (by decide) (by decide) rfl (fun I hO hJ => ?_)
    replace hJ : SJ o I (pZd Z) := hJ
    rw [← pFc_eq hJ (by rw [dz, h0 (h00 e)])]
    refine x_iload_n dX4_tick_25 rfl rfl ?_
    refine x_tableOut 90 dX4_tick_26 (by decide) (by decide) ?_
    refine x_aload_n dX4_tick_90 rfl rfl ?_
    refine x_callVq hO (mt' := mX4_freeTick) (sp_freeTick hS hJ) kvX4_freeTick wl_X4_148 (by decide) dX4_tick_91 hS.k0 hS.lt0 rfl rfl (Nat.le_of_ble_eq_true rfl) ⟨rfl, rfl⟩ (by decide) (fun I hO hJ => ?_)
    refine x_vret dX4_tick_94 rfl (by decide) (by decide) ?_
    exact ⟨rfl, rfl, rfl, hO, hJ⟩
  · rw [e] at hn
    rw [if_neg (by omega), if_neg (by omega), if_neg (by omega), if_neg (by omega)]
    have hTk := pNx_tk (Or.inr e)
    have z4 : pZd Z 8 4 = nI 0 := by rw [d4, h04 (Or.inr e)]
    have z5 : pZd Z 8 5 = nI 0 := by rw [d5]; exact h5 (hnT hTk)
    have eF : pFi (pZd Z) = pFi Z := pFi_congr (fun k hk => pZd_row (by omega))
    have e7 : pZd Z (pFi (pZd Z)) 7 = Z (pFi Z) 7 := by rw [eF, pZd_row (by have := pFi_lt Z; omega)]
    unfold pAns
    rw [eps, elg]
    cases ea : pLi (pZd Z) (Z (pFi Z) 7) with
    | none =>
      refine x_aload_n dX4_tick_0 rfl rfl ?_
      refine x_callVd0 (mt' := mX4_nextTick) (hn) kvX4_nextTick wl_X4_136 (by decide) dX4_tick_1 hS.k0 hS.lt0 rfl rfl (Nat.le_of_ble_eq_true rfl) ⟨rfl, rfl⟩ (by decide) ?_
      refine x_istore_n dX4_tick_4 rfl (by decide) ?_
      refine x_aload_n dX4_tick_5 rfl rfl ?_
      refine x_dup dX4_tick_6 rfl ?_
      refine x_getI fl_X4_52 dX4_tick_7 hS.k0 hS.lt0 rfl (x_eqtop hJ.f4 ?_)
      refine x_iconst (nI 1) dX4_tick_10 (by decide) ?_
      refine x_iadd dX4_tick_11 ?_
      refine x_putS (w := 3) hS hO hJ fl_X4_52 fp_4_4 dX4_tick_12 (by decide) (by decide) rfl (fun I hO hJ => ?_)
      refine x_iload_n dX4_tick_15 rfl rfl ?_
      refine x_iconst (nI 4) dX4_tick_16 (by decide) ?_
      refine x_icmp_eqF dX4_tick_17 (by decide) ?_ 25 (by decide)
      refine x_aload_n dX4_tick_20 rfl rfl ?_
      refine x_iconst (nI 0) dX4_tick_21 (by decide) ?_
      refine x_putS (w := 6) hS hO hJ fl_X4_65 fp_4_8 dX4_tick_22 (by decide) (by decide) rfl (fun I hO hJ => ?_)
      replace hJ : SJ o I (pZd Z) := hJ
      refine x_iload_n dX4_tick_25 rfl rfl ?_
      refine x_tableIn (off := 57) 83 dX4_tick_26 (by decide) (by decide) (by decide) (by decide) ?_
      refine x_aload_n dX4_tick_83 rfl rfl ?_
      refine x_callVq hO (mt' := mX4_awaitAnswer) (sp_awaitN hS hJ hp dz (dT hTk) hL d10 z4 z5 (by rw [e7]; exact ea)) kvX4_awaitAnswer wl_X4_145 (by decide) dX4_tick_84 hS.k0 hS.lt0 rfl rfl (Nat.le_of_ble_eq_true rfl) ⟨rfl, rfl⟩ (by decide) (fun I hO hJ => ?_)
      refine x_goto 94 dX4_tick_87 (by decide) ?_
      refine x_vret dX4_tick_94 rfl (by decide) (by decide) ?_
      exact ⟨rfl, rfl, rfl, hO, hJ⟩
    | some l =>
      refine x_aload_n dX4_tick_0 rfl rfl ?_
      refine x_callVd0 (mt' := mX4_nextTick) (hn) kvX4_nextTick wl_X4_136 (by decide) dX4_tick_1 hS.k0 hS.lt0 rfl rfl (Nat.le_of_ble_eq_true rfl) ⟨rfl, rfl⟩ (by decide) ?_
      refine x_istore_n dX4_tick_4 rfl (by decide) ?_
      refine x_aload_n dX4_tick_5 rfl rfl ?_
      refine x_dup dX4_tick_6 rfl ?_
      refine x_getI fl_X4_52 dX4_tick_7 hS.k0 hS.lt0 rfl (x_eqtop hJ.f4 ?_)
      refine x_iconst (nI 1) dX4_tick_10 (by decide) ?_
      refine x_iadd dX4_tick_11 ?_
      refine x_putS (w := 3) hS hO hJ fl_X4_52 fp_4_4 dX4_tick_12 (by decide) (by decide) rfl (fun I hO hJ => ?_)
      refine x_iload_n dX4_tick_15 rfl rfl ?_
      refine x_iconst (nI 4) dX4_tick_16 (by decide) ?_
      refine x_icmp_eqF dX4_tick_17 (by decide) ?_ 25 (by decide)
      refine x_aload_n dX4_tick_20 rfl rfl ?_
      refine x_iconst (nI 0) dX4_tick_21 (by decide) ?_
      refine x_putS (w := 6) hS hO hJ fl_X4_65 fp_4_8 dX4_tick_22 (by decide) (by decide) rfl (fun I hO hJ => ?_)
      replace hJ : SJ o I (pZd Z) := hJ
      refine x_iload_n dX4_tick_25 rfl rfl ?_
      refine x_tableIn (off := 57) 83 dX4_tick_26 (by decide) (by decide) (by decide) (by decide) ?_
      refine x_aload_n dX4_tick_83 rfl rfl ?_
      refine x_callVq hO (mt' := mX4_awaitAnswer) (sp_awaitS hS hJ hp (h29 e) dz (dT hTk) hL d10 z4 z5 (by rw [e7]; exact ea)) kvX4_awaitAnswer wl_X4_145 (by decide) dX4_tick_84 hS.k0 hS.lt0 rfl rfl (Nat.le_of_ble_eq_true rfl) ⟨rfl, rfl⟩ (by decide) (fun I hO hJ => ?_)
      refine x_goto 94 dX4_tick_87 (by decide) ?_
      refine x_vret dX4_tick_94 rfl (by decide) (by decide) ?_
      exact ⟨rfl, rfl, rfl, hO, hJ⟩
end CL
