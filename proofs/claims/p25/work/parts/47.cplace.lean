
/-! the class: a place, walked -/
theorem uRow_1 {r : Nat → Int32} {s : Int32} : uRow r s 1 = nI 0 := by
  unfold uRow
  split
  · exact if_pos rfl
  · simp [dRow]
theorem pUn_tk {W : MI} {k : Nat} (hk : k < 4) : tk (pUn W 4) k = false := by
  by_cases h : tk W k = true
  · have e : pUn W 4 k = uRow (W k) (W 8 1) := if_pos (show k < 4 ∧ tk W k = true from ⟨hk, h⟩)
    unfold tk
    refine decide_eq_false (fun q => ?_)
    rw [e, uRow_1] at q
    exact absurd q (by decide)
  · have e : pUn W 4 k = W k := if_neg (show ¬ (k < 4 ∧ tk W k = true) from fun q => h q.2)
    rw [tk_row e]
    simpa using h
theorem una_eq {Z : MI} {L p : Nat} (h4 : Z 8 4 = nI 0) (h5 : Z 8 5 = nI 0) : pE0 (xuI (pUn (pLog Z L (nI 1) (nI 1) (nI 0)) 4) 8 7 (nI (p + 1))) = pUa Z L p := by
  unfold pUa
  obtain ⟨U, hU⟩ : ∃ U, pUn (pLog Z L (nI 1) (nI 1) (nI 0)) 4 = U := ⟨_, rfl⟩
  have ht : cn (tk U) 4 = 0 := by
    rw [cn_congr (q := fun _ => false) (fun j hj => by rw [← hU]; exact pUn_tk hj)]; rfl
  have ht2 : cn (tk (xuI U 8 7 (nI (p + 1)))) 4 = 0 := by
    rw [cn_congr (q := tk U) (fun j hj => tk_row (xuI_row (by omega)))]; exact ht
  have e4 : U 8 4 = nI 0 := by rw [← hU, pUn_ge (by omega), pLog_ne (by omega) (by omega)]; exact h4
  have e5 : U 8 5 = nI 0 := by rw [← hU, pUn_ge (by omega), pLog_ne (by omega) (by omega)]; exact h5
  rw [hU, pEn_0 e4 e5]
  unfold pE0
  rw [if_pos ht, if_pos ht2]
  funext a b
  simp only [xuI]
  split
  · rfl
  · rfl
section CL
variable {I J0 : MI} {R : MR} {o : Nat} {Z : MI}
theorem sp_awaitN (hS : St R o) (hJ : SJ o J0 Z) {p L : Nat} (hp : p < 27) (hz : Z 8 7 = nI p) (hT : ∃ j, j < 4 ∧ tk Z j = true) (hL : L ≤ 64) (h10 : Z 8 10 = nI L) (h4 : Z 8 4 = nI 0) (h5 : Z 8 5 = nI 0) (e : pLi Z (Z (pFi Z) 7) = none) : Sp mX4_awaitAnswer [.ref o] 131 J0 R (SQ o J0 R none (pUa Z L p)) := by
  refine Sp.mk (by decide +kernel) (by simp [Value.category]) (Nat.le_of_ble_eq_true rfl) (fun g cx => ?_)
  have hO : Off o J0 J0 := Off.rf
  have hs := hJ.sh (pFi_lt Z) (pFi_tk hT)
  have hl := sp_listenerWith (R := R) hS hJ (Z (pFi Z) 7)
  rw [if_neg hs.2, e] at hl
  replace hl : Spd mX4_listenerWith [.ref o, .int (Z (pFi Z) 7)] J0 R (some .null) J0 := hl
  rw [← una_eq h4 h5]
  have e7 : pUn (pLog Z L (nI 1) (nI 1) (nI 0)) 4 8 7 = nI p := by rw [pUn_ge (by omega), pLog_ne (by omega) (by omega)]; exact hz
  refine x_aload_n dX4_awaitAnswer_0 rfl rfl ?_
  refine x_aload_n dX4_awaitAnswer_1 rfl rfl ?_
  refine x_iconst (nI 0) dX4_awaitAnswer_2 (by decide) ?_
  refine x_callVd0 (mt' := mX4_partOfTalk) (sp_partOfTalk hS hJ (q := 0) (by omega) hT) kvX4_partOfTalk wl_X4_181 (by decide) dX4_awaitAnswer_3 hS.k0 hS.lt0 rfl rfl (Nat.le_of_ble_eq_true rfl) ⟨rfl, rfl⟩ (by decide) ?_
  refine x_iconst (nI 1) dX4_awaitAnswer_6 (by decide) ?_
  refine x_ishr dX4_awaitAnswer_7 ?_
  refine x_eqtop hs.1 ?_
  refine x_callVd0 (mt' := mX4_listenerWith) (hl) kvX4_listenerWith wl_X4_100 (by decide) dX4_awaitAnswer_8 hS.k0 hS.lt0 rfl rfl (Nat.le_of_ble_eq_true rfl) ⟨rfl, rfl⟩ (by decide) ?_
  refine x_astore_nN dX4_awaitAnswer_11 rfl (by decide) ?_
  refine x_aload_n dX4_awaitAnswer_12 rfl rfl ?_
  refine x_getR fl_X4_30 dX4_awaitAnswer_13 hS.k0 hS.lt0 rfl hS.r3 ?_
  refine x_aload_nN dX4_awaitAnswer_16 rfl rfl ?_
  refine x_ifnonnullN dX4_awaitAnswer_17 ?_
  refine x_iconst (nI 1) dX4_awaitAnswer_20 (by decide) ?_
  refine x_goto 25 dX4_awaitAnswer_21 (by decide) ?_
  refine x_iconst (nI 1) dX4_awaitAnswer_25 (by decide) ?_
  refine x_aload_n dX4_awaitAnswer_26 rfl rfl ?_
  refine x_getI fl_X4_52 dX4_awaitAnswer_27 hS.k0 hS.lt0 rfl (x_eqtop hJ.f4 ?_)
  refine x_iconst (nI 0) dX4_awaitAnswer_30 (by decide) ?_
  refine x_callVq hO (mt' := mX0_add) (sp_log hS hJ hL h10 _ _ _) kvX0_add wl_X4_177 (by decide) dX4_awaitAnswer_31 hS.lg.ka hS.lg.la rfl rfl (Nat.le_of_ble_eq_true rfl) ⟨rfl, rfl⟩ (by decide) (fun I hO hJ => ?_)
  refine x_aload_nN dX4_awaitAnswer_34 rfl rfl ?_
  refine x_ifnullN 62 dX4_awaitAnswer_35 (by decide) ?_
  refine x_aload_n dX4_awaitAnswer_62 rfl rfl ?_
  refine x_getR fl_X4_11 dX4_awaitAnswer_63 hS.k0 hS.lt0 rfl hS.r0 ?_
  refine x_astore_n dX4_awaitAnswer_66 rfl (by decide) ?_
  refine x_aload_n dX4_awaitAnswer_67 rfl rfl ?_
  refine x_alen (v := nI 4) dX4_awaitAnswer_68 hS.k1 ⟨by decide, by decide⟩ (hS.lt (by omega)) (by rw [hS.l1]; rfl) ?_
  refine x_istore_n dX4_awaitAnswer_69 rfl (by decide) ?_
  refine x_iconst (nI 0) dX4_awaitAnswer_70 (by decide) ?_
  refine x_istore dX4_awaitAnswer_71 (by decide) ?_
  refine lp_awaitN hS 4 0 _ _ rfl hO (by rw [pUn_0]; exact hJ) (fun u I hO hJ => ?_)
  refine x_aload_n dX4_awaitAnswer_141 rfl rfl ?_
  refine x_dup dX4_awaitAnswer_142 rfl ?_
  refine x_getI fl_X4_56 dX4_awaitAnswer_143 hS.k0 hS.lt0 rfl (x_eqtop hJ.f5 ?_)
  rw [e7]
  refine x_iconst (nI 1) dX4_awaitAnswer_146 (by decide) ?_
  refine x_iaddN dX4_awaitAnswer_147 ?_
  refine x_putS (w := 7) hS hO hJ fl_X4_56 fp_4_5 dX4_awaitAnswer_148 (by decide) (by decide) rfl (fun I hO hJ => ?_)
  refine x_aload_n dX4_awaitAnswer_151 rfl rfl ?_
  refine x_callVq hO (mt' := mX4_endTalkIfEmpty) (sp_endTalk hS hJ) kvX4_endTalkIfEmpty wl_X4_159 (by decide) dX4_awaitAnswer_152 hS.k0 hS.lt0 rfl rfl (Nat.le_of_ble_eq_true rfl) ⟨rfl, rfl⟩ (by decide) (fun I hO hJ => ?_)
  refine x_vret dX4_awaitAnswer_155 rfl (by decide) (by decide) ?_
  exact ⟨rfl, rfl, rfl, hO, hJ⟩
theorem sp_awaitS (hS : St R o) (hJ : SJ o J0 Z) {p L l : Nat} (hp : p < 27) (h9 : p % 9 = 8) (hz : Z 8 7 = nI p) (hT : ∃ j, j < 4 ∧ tk Z j = true) (hL : L ≤ 64) (h10 : Z 8 10 = nI L) (h4 : Z 8 4 = nI 0) (h5 : Z 8 5 = nI 0) (e : pLi Z (Z (pFi Z) 7) = some l) : Sp mX4_awaitAnswer [.ref o] 131 J0 R (SQ o J0 R none (pAn Z L p l)) := by
  refine Sp.mk (by decide +kernel) (by simp [Value.category]) (Nat.le_of_ble_eq_true rfl) (fun g cx => ?_)
  have hO : Off o J0 J0 := Off.rf
  have hs := hJ.sh (pFi_lt Z) (pFi_tk hT)
  have hl4 := (pLi_spec e).1
  have hl := sp_listenerWith (R := R) hS hJ (Z (pFi Z) 7)
  rw [if_neg hs.2, e] at hl
  replace hl : Spd mX4_listenerWith [.ref o, .int (Z (pFi Z) 7)] J0 R (some (.ref (o + 14 + l))) J0 := hl
  obtain ⟨V, hV⟩ : ∃ V, pLog Z L (nI 0) (nI 1) (nI 0) = V := ⟨_, rfl⟩
  have v7 : V 8 7 = nI p := by rw [← hV, pLog_ne (by omega) (by omega)]; exact hz
  have hTV : ∃ j, j < 4 ∧ tk V j = true := by
    obtain ⟨j, hj, q⟩ := hT
    exact ⟨j, hj, by rw [← hV, tk_row (pLog_row (by omega))]; exact q⟩
  have w7 : pAw V l (p / 9) 8 7 = nI p := by rw [pAw_row (by omega)]; exact v7
  have c7 : pCm (pAw V l (p / 9)) (p + 1) 4 8 7 = nI p := by rw [pCm_ge (by omega)]; exact w7
  have fin : ∀ I, SJ o I (pE0 (xuI (pCm (pAw V l (p / 9)) (p + 1) 4) 8 7 (nI (p + 1)))) → SJ o I (pAn Z L p l) := fun I q => by
    unfold pAn
    rw [pEn_0]
    · rw [← hV] at q
      exact (Rw_E (ans_rw hl4)).sj q
    · rw [pCm_ge (by omega), xuI_col (by omega), pLog_ne (by omega) (by omega), pAw_row (by omega)]; exact h4
    · rw [pCm_ge (by omega), xuI_col (by omega), pLog_ne (by omega) (by omega), pAw_row (by omega)]; exact h5
  refine x_aload_n dX4_awaitAnswer_0 rfl rfl ?_
  refine x_aload_n dX4_awaitAnswer_1 rfl rfl ?_
  refine x_iconst (nI 0) dX4_awaitAnswer_2 (by decide) ?_
  refine x_callVd0 (mt' := mX4_partOfTalk) (sp_partOfTalk hS hJ (q := 0) (by omega) hT) kvX4_partOfTalk wl_X4_181 (by decide) dX4_awaitAnswer_3 hS.k0 hS.lt0 rfl rfl (Nat.le_of_ble_eq_true rfl) ⟨rfl, rfl⟩ (by decide) ?_
  refine x_iconst (nI 1) dX4_awaitAnswer_6 (by decide) ?_
  refine x_ishr dX4_awaitAnswer_7 ?_
  refine x_eqtop hs.1 ?_
  refine x_callVd0 (mt' := mX4_listenerWith) (hl) kvX4_listenerWith wl_X4_100 (by decide) dX4_awaitAnswer_8 hS.k0 hS.lt0 rfl rfl (Nat.le_of_ble_eq_true rfl) ⟨rfl, rfl⟩ (by decide) ?_
  refine x_astore_n dX4_awaitAnswer_11 rfl (by decide) ?_
  refine x_aload_n dX4_awaitAnswer_12 rfl rfl ?_
  refine x_getR fl_X4_30 dX4_awaitAnswer_13 hS.k0 hS.lt0 rfl hS.r3 ?_
  refine x_aload_n dX4_awaitAnswer_16 rfl rfl ?_
  refine x_ifnonnull 24 dX4_awaitAnswer_17 (by decide) ?_
  refine x_iconst (nI 0) dX4_awaitAnswer_24 (by decide) ?_
  refine x_iconst (nI 1) dX4_awaitAnswer_25 (by decide) ?_
  refine x_aload_n dX4_awaitAnswer_26 rfl rfl ?_
  refine x_getI fl_X4_52 dX4_awaitAnswer_27 hS.k0 hS.lt0 rfl (x_eqtop hJ.f4 ?_)
  refine x_iconst (nI 0) dX4_awaitAnswer_30 (by decide) ?_
  refine x_callVq hO (mt' := mX0_add) (sp_log hS hJ hL h10 _ _ _) kvX0_add wl_X4_177 (by decide) dX4_awaitAnswer_31 hS.lg.ka hS.lg.la rfl rfl (Nat.le_of_ble_eq_true rfl) ⟨rfl, rfl⟩ (by decide) (fun I hO hJ => ?_)
  rw [hV] at hJ
  refine x_aload_n dX4_awaitAnswer_34 rfl rfl ?_
  refine x_ifnull dX4_awaitAnswer_35 ?_
  refine x_aload_n dX4_awaitAnswer_38 rfl rfl ?_
  refine x_getI fl_X4_56 dX4_awaitAnswer_39 hS.k0 hS.lt0 rfl (x_eqtop hJ.f5 ?_)
  rw [v7]
  refine x_bipush (nI 8) dX4_awaitAnswer_42 (by decide) ?_
  refine x_icmp_leN 62 dX4_awaitAnswer_44 (by decide) (by omega) (by omega) (fun c44 => ?_) (fun c44 => ?_)
  · skip
    replace hJ : SJ o I (pAw V l (p / 9)) := by unfold pAw; rw [if_pos (by omega)]; exact hJ
    refine x_aload_n dX4_awaitAnswer_62 rfl rfl ?_
    refine x_getR fl_X4_11 dX4_awaitAnswer_63 hS.k0 hS.lt0 rfl hS.r0 ?_
    refine x_astore_n dX4_awaitAnswer_66 rfl (by decide) ?_
    refine x_aload_n dX4_awaitAnswer_67 rfl rfl ?_
    refine x_alen (v := nI 4) dX4_awaitAnswer_68 hS.k1 ⟨by decide, by decide⟩ (hS.lt (by omega)) (by rw [hS.l1]; rfl) ?_
    refine x_istore_n dX4_awaitAnswer_69 rfl (by decide) ?_
    refine x_iconst (nI 0) dX4_awaitAnswer_70 (by decide) ?_
    refine x_istore dX4_awaitAnswer_71 (by decide) ?_
    refine lp_awaitS (W := pAw V l (p / 9)) (l := l) hS hp w7 4 0 _ _ rfl hO (by rw [pCm_0]; exact hJ) (fun u I hO hJ => ?_)
    refine x_aload_n dX4_awaitAnswer_141 rfl rfl ?_
    refine x_dup dX4_awaitAnswer_142 rfl ?_
    refine x_getI fl_X4_56 dX4_awaitAnswer_143 hS.k0 hS.lt0 rfl (x_eqtop hJ.f5 ?_)
    rw [c7]
    refine x_iconst (nI 1) dX4_awaitAnswer_146 (by decide) ?_
    refine x_iaddN dX4_awaitAnswer_147 ?_
    refine x_putS (w := 7) hS hO hJ fl_X4_56 fp_4_5 dX4_awaitAnswer_148 (by decide) (by decide) rfl (fun I hO hJ => ?_)
    refine x_aload_n dX4_awaitAnswer_151 rfl rfl ?_
    refine x_callVq hO (mt' := mX4_endTalkIfEmpty) (sp_endTalk hS hJ) kvX4_endTalkIfEmpty wl_X4_159 (by decide) dX4_awaitAnswer_152 hS.k0 hS.lt0 rfl rfl (Nat.le_of_ble_eq_true rfl) ⟨rfl, rfl⟩ (by decide) (fun I hO hJ => ?_)
    refine x_vret dX4_awaitAnswer_155 rfl (by decide) (by decide) ?_
    exact ⟨rfl, rfl, rfl, hO, fin _ hJ⟩
  · skip
    refine x_aload_n dX4_awaitAnswer_47 rfl rfl ?_
    refine x_aload_n dX4_awaitAnswer_48 rfl rfl ?_
    refine x_aload_n dX4_awaitAnswer_49 rfl rfl ?_
    refine x_getI fl_X4_56 dX4_awaitAnswer_50 hS.k0 hS.lt0 rfl (x_eqtop hJ.f5 ?_)
    rw [v7]
    refine x_bipush (nI 9) dX4_awaitAnswer_53 (by decide) ?_
    refine x_idivN dX4_awaitAnswer_55 (by omega) (by omega) (by omega) ?_
    refine x_callVd0 (mt' := mX4_partOfTalk) (sp_partOfTalk hS hJ (q := p / 9) (by omega) hTV) kvX4_partOfTalk wl_X4_181 (by decide) dX4_awaitAnswer_56 hS.k0 hS.lt0 rfl rfl (Nat.le_of_ble_eq_true rfl) ⟨rfl, rfl⟩ (by decide) ?_
    refine x_callVq hO (mt' := mX1_takeWord) (sp_takeW hS hJ hl4 _) kvX1_takeWord wl_X4_187 (by decide) dX4_awaitAnswer_59 (hS.kl hl4) (hS.ltl hl4) rfl rfl (Nat.le_of_ble_eq_true rfl) ⟨rfl, rfl⟩ (by decide) (fun I hO hJ => ?_)
    replace hJ : SJ o I (pAw V l (p / 9)) := by unfold pAw; rw [if_neg (by omega)]; unfold pVal at hJ; rw [if_neg (show ¬ p / 9 = 0 by omega)] at hJ; exact hJ
    refine x_aload_n dX4_awaitAnswer_62 rfl rfl ?_
    refine x_getR fl_X4_11 dX4_awaitAnswer_63 hS.k0 hS.lt0 rfl hS.r0 ?_
    refine x_astore_n dX4_awaitAnswer_66 rfl (by decide) ?_
    refine x_aload_n dX4_awaitAnswer_67 rfl rfl ?_
    refine x_alen (v := nI 4) dX4_awaitAnswer_68 hS.k1 ⟨by decide, by decide⟩ (hS.lt (by omega)) (by rw [hS.l1]; rfl) ?_
    refine x_istore_n dX4_awaitAnswer_69 rfl (by decide) ?_
    refine x_iconst (nI 0) dX4_awaitAnswer_70 (by decide) ?_
    refine x_istore dX4_awaitAnswer_71 (by decide) ?_
    refine lp_awaitS (W := pAw V l (p / 9)) (l := l) hS hp w7 4 0 _ _ rfl hO (by rw [pCm_0]; exact hJ) (fun u I hO hJ => ?_)
    refine x_aload_n dX4_awaitAnswer_141 rfl rfl ?_
    refine x_dup dX4_awaitAnswer_142 rfl ?_
    refine x_getI fl_X4_56 dX4_awaitAnswer_143 hS.k0 hS.lt0 rfl (x_eqtop hJ.f5 ?_)
    rw [c7]
    refine x_iconst (nI 1) dX4_awaitAnswer_146 (by decide) ?_
    refine x_iaddN dX4_awaitAnswer_147 ?_
    refine x_putS (w := 7) hS hO hJ fl_X4_56 fp_4_5 dX4_awaitAnswer_148 (by decide) (by decide) rfl (fun I hO hJ => ?_)
    refine x_aload_n dX4_awaitAnswer_151 rfl rfl ?_
    refine x_callVq hO (mt' := mX4_endTalkIfEmpty) (sp_endTalk hS hJ) kvX4_endTalkIfEmpty wl_X4_159 (by decide) dX4_awaitAnswer_152 hS.k0 hS.lt0 rfl rfl (Nat.le_of_ble_eq_true rfl) ⟨rfl, rfl⟩ (by decide) (fun I hO hJ => ?_)
    refine x_vret dX4_awaitAnswer_155 rfl (by decide) (by decide) ?_
    exact ⟨rfl, rfl, rfl, hO, fin _ hJ⟩
end CL
