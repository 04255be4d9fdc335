
/-! the class: sending a bit -/
theorem any4_ex {p : Nat → Bool} (h : any4 p = true) : ∃ j, j < 4 ∧ p j = true := by
  unfold any4 at h
  cases h0 : p 0 with
  | true => exact ⟨0, by omega, h0⟩
  | false =>
    cases h1 : p 1 with
    | true => exact ⟨1, by omega, h1⟩
    | false =>
      cases h2 : p 2 with
      | true => exact ⟨2, by omega, h2⟩
      | false =>
        rw [h0, h1, h2] at h
        exact ⟨3, by omega, h⟩
theorem wr_any {Z : MI} {p : Nat} : wr Z p 4 = if any4 (zer Z p) = true then nI 0 else nI 1 := by
  show (if zer Z p 3 = true then nI 0 else if zer Z p 2 = true then nI 0 else if zer Z p 1 = true then nI 0 else if zer Z p 0 = true then nI 0 else nI 1) = _
  unfold any4
  cases zer Z p 0 <;> cases zer Z p 1 <;> cases zer Z p 2 <;> cases zer Z p 3 <;> rfl
theorem low_eq {q : Nat → Bool} : (if mk q 4 = 0 then nI 0 else nI 1) = bi (any4 q) := by
  by_cases h : mk q 4 = 0
  · rw [if_pos h, (mk_zero q).mp h]; rfl
  · rw [if_neg h]
    cases e : any4 q with
    | true => rfl
    | false => exact absurd ((mk_zero q).mpr e) h
theorem los_eq {q : Nat → Bool} {b : Bool} : (if bi b = 0 then nI 0 else mk q 4) = mk (fun k => b && q k) 4 := by
  cases b with
  | true => rw [if_neg (by decide)]; exact mk_congr (fun j _ => (Bool.true_and _).symm)
  | false =>
    rw [if_pos (by decide)]
    symm
    exact (mk_zero _).mpr rfl
theorem pFi_tk {Z : MI} (h : ∃ j, j < 4 ∧ tk Z j = true) : tk Z (pFi Z) = true := by
  unfold pFi
  by_cases h0 : tk Z 0 = true
  · rw [if_pos h0]; exact h0
  · rw [if_neg h0]
    by_cases h1 : tk Z 1 = true
    · rw [if_pos h1]; exact h1
    · rw [if_neg h1]
      by_cases h2 : tk Z 2 = true
      · rw [if_pos h2]; exact h2
      · rw [if_neg h2]
        obtain ⟨j, hj, e⟩ := h
        rcases (show j = 0 ∨ j = 1 ∨ j = 2 ∨ j = 3 by omega) with rfl | rfl | rfl | rfl
        · exact absurd e h0
        · exact absurd e h1
        · exact absurd e h2
        · exact e
theorem half_n : ∀ x, x < 128 → nI (2 * x) >>> (nI 1 &&& 31) = nI x := by decide +kernel
def lsB (Z : MI) (p k : Nat) : Bool := any4 (ss Z (tk Z) p 0) && ss Z (tk Z) p 1 k
theorem lsB_y {Z : MI} {p : Nat} (h : any4 (ss Z (tk Z) p 0) = true) : lsB Z p = lsr Z p := by
  funext k
  unfold lsB
  rw [h, Bool.true_and]
  rfl
theorem lsB_n {Z : MI} {p : Nat} (h : any4 (ss Z (tk Z) p 0) = false) (k : Nat) : lsB Z p k = false := by
  unfold lsB
  rw [h, Bool.false_and]
theorem ss_zer {Z : MI} {p : Nat} : ss Z (tk Z) p 0 = zer Z p := by funext k; rfl
theorem pTb_eq {Z : MI} {L p : Nat} : pTb Z L p = pBt (pLs Z (lsB Z p) 4) L p (if bi (any4 (ss Z (tk Z) p 0)) = 0 then nI 1 else nI 0) (nI (cn (lsB Z p) 4)) := by
  unfold pTb
  rw [wr_any, ← ss_zer]
  cases h : any4 (ss Z (tk Z) p 0) with
  | true =>
    rw [if_pos rfl, if_pos (show nI 0 = 0 from rfl), if_neg (show ¬ bi true = 0 by decide), lsB_y h]
    rfl
  | false =>
    rw [if_neg (by decide), if_neg (by decide), pLs_none (fun j _ => lsB_n h j), if_pos (by decide)]
    have : cn (lsB Z p) 4 = 0 := by
      rw [cn_congr (q := fun _ => false) (fun j _ => lsB_n h j)]; rfl
    rw [this]
theorem lsB_tk {Z : MI} {p : Nat} (hT : ∃ j, j < 4 ∧ tk Z j = true) : ∃ j, j < 4 ∧ tk (pLs Z (lsB Z p) 4) j = true := by
  cases h : any4 (ss Z (tk Z) p 0) with
  | true =>
    obtain ⟨j, hj, e⟩ := any4_ex h
    rw [ss_zer] at e
    refine ⟨j, hj, ?_⟩
    rw [lsB_y h]
    exact zer_stays e
  | false => rw [pLs_none (fun j _ => lsB_n h j)]; exact hT
section CL
variable {I J0 : MI} {R : MR} {o : Nat} {Z : MI}
theorem SJ.sh (h : SJ o I Z) {k : Nat} (hk : k < 4) (ht : tk Z k = true) : pVal Z k 0 >>> (nI 1 &&& 31) = Z k 7 ∧ ¬ Z k 7 = -5 := by
  obtain ⟨m0, h1, h5, e0⟩ := h.tm hk ht
  obtain ⟨m, t, -, h2, -, -, -, h6⟩ := h.1 k hk
  have hm : 0 < m := Nat.pos_of_ne_zero (fun q => h.tz hk ht (by rw [h2, q]; rfl))
  obtain ⟨⟨x, hx, hz, hp⟩, -⟩ := h6 0 hm
  have e7 : Z k 7 = nI x := hz
  refine ⟨?_, by rw [e7]; exact nI_ne5 (by omega)⟩
  unfold pVal
  rw [if_pos rfl, e7, show (2 : Int32) = nI 2 from rfl, pk_mul]
  exact half_n x hx
theorem sp_sendBit (hS : St R o) (hJ : SJ o J0 Z) {p L : Nat} (hp : p < 27) (hz : Z 8 7 = nI p) (hT : ∃ j, j < 4 ∧ tk Z j = true) (hL : L ≤ 64) (h10 : Z 8 10 = nI L) : Sp mX4_sendBit [.ref o] 131 J0 R (SQ o J0 R none (pTb Z L p)) := by
  refine Sp.mk (by decide +kernel) (by simp [Value.category]) (Nat.le_of_ble_eq_true rfl) (fun g cx => ?_)
  have hO : Off o J0 J0 := Off.rf
  rw [pTb_eq]
  obtain ⟨lw, hlw⟩ : ∃ lw, any4 (ss Z (tk Z) p 0) = lw := ⟨_, rfl⟩
  obtain ⟨Y, hY⟩ : ∃ Y, pLs Z (lsB Z p) 4 = Y := ⟨_, rfl⟩
  have y10 : Y 8 10 = nI L := by rw [← hY, pLs_ge (by omega)]; exact h10
  have y7 : Y 8 7 = nI p := by rw [← hY, pLs_ge (by omega)]; exact hz
  have hTY : ∃ j, j < 4 ∧ tk Y j = true := by rw [← hY]; exact lsB_tk hT
  obtain ⟨B, hB⟩ : ∃ B, pB3 Y L p (if bi lw = 0 then nI 1 else nI 0) (nI (cn (lsB Z p) 4)) = B := ⟨_, rfl⟩
  have hTB : ∃ j, j < 4 ∧ tk B j = true := by
    obtain ⟨j, hj, e⟩ := hTY
    refine ⟨j, hj, ?_⟩
    rw [tk_row (Z := B) (Z' := Y) (by rw [← hB]; unfold pB3; rw [xuI_row (by omega), pLog_row (by omega)])]
    exact e
  have b7 : B 8 7 = nI (p + 1) := by rw [← hB]; unfold pB3; exact xuI_self
  have eB : pBt Y L p (if bi lw = 0 then nI 1 else nI 0) (nI (cn (lsB Z p) 4)) = if (p + 1) % 9 = 8 then xuI B 8 4 (pHo B (pLi B (B (pFi B) 7))) else B := by unfold pBt; rw [hB]
  rw [hlw, hY, eB]
  refine x_aload_n dX4_sendBit_0 rfl rfl ?_
  refine x_callVd0 (mt' := mX4_talkers) (sp_talkers hS hJ) kvX4_talkers wl_X4_129 (by decide) dX4_sendBit_1 hS.k0 hS.lt0 rfl rfl (Nat.le_of_ble_eq_true rfl) ⟨rfl, rfl⟩ (by decide) ?_
  refine x_istore_n dX4_sendBit_4 rfl (by decide) ?_
  refine x_aload_n dX4_sendBit_5 rfl rfl ?_
  refine x_iload_n dX4_sendBit_6 rfl rfl ?_
  refine x_aload_n dX4_sendBit_7 rfl rfl ?_
  refine x_getI fl_X4_56 dX4_sendBit_8 hS.k0 hS.lt0 rfl (x_eqtop hJ.f5 ?_)
  rw [hz]
  refine x_iconst (nI 0) dX4_sendBit_11 (by decide) ?_
  refine x_callVd0 (mt' := mX4_sendersOf) (sp_sendersOf hS hJ hp (fun k hk q => hJ.tz hk q)) kvX4_sendersOf wl_X4_151 (by decide) dX4_sendBit_12 hS.k0 hS.lt0 rfl rfl (Nat.le_of_ble_eq_true rfl) ⟨rfl, rfl⟩ (by decide) ?_
  refine' x_dia_if_eq 22 23 dX4_sendBit_15 (by decide) ?_ ?_ ?_; rotate_left 2
  · intro c15 k15
    refine x_iconst (nI 1) dX4_sendBit_18 (by decide) ?_
    refine x_goto 23 dX4_sendBit_19 (by decide) ?_
    exact k15
  · intro c15 k15
    refine x_iconst (nI 0) dX4_sendBit_22 (by decide) ?_
    exact k15
  refine x_eqtop (low_eq.trans (congrArg bi hlw)) ?_
  refine x_istore_n dX4_sendBit_23 rfl (by decide) ?_
  refine x_iload_n dX4_sendBit_24 rfl rfl ?_
  refine' x_dia_if_eq 41 42 dX4_sendBit_25 (by decide) ?_ ?_ ?_; rotate_left 2
  · intro c25 k25
    refine x_aload_n dX4_sendBit_28 rfl rfl ?_
    refine x_iload_n dX4_sendBit_29 rfl rfl ?_
    refine x_aload_n dX4_sendBit_30 rfl rfl ?_
    refine x_getI fl_X4_56 dX4_sendBit_31 hS.k0 hS.lt0 rfl (x_eqtop hJ.f5 ?_)
    rw [hz]
    refine x_iconst (nI 1) dX4_sendBit_34 (by decide) ?_
    refine x_callVd0 (mt' := mX4_sendersOf) (sp_sendersOf hS hJ hp (fun k hk q => hJ.tz hk q)) kvX4_sendersOf wl_X4_151 (by decide) dX4_sendBit_35 hS.k0 hS.lt0 rfl rfl (Nat.le_of_ble_eq_true rfl) ⟨rfl, rfl⟩ (by decide) ?_
    refine x_goto 42 dX4_sendBit_38 (by decide) ?_
    exact k25
  · intro c25 k25
    refine x_iconst (nI 0) dX4_sendBit_41 (by decide) ?_
    exact k25
  refine x_eqtop (y := mk (lsB Z p) 4) (by rw [← hlw]; exact los_eq) ?_
  refine x_istore_n dX4_sendBit_42 rfl (by decide) ?_
  refine x_aload_n dX4_sendBit_43 rfl rfl ?_
  refine x_iload_n dX4_sendBit_44 rfl rfl ?_
  refine x_callVq hO (mt' := mX4_lose) (sp_lose (b := lsB Z p) hS hJ) kvX4_lose wl_X4_155 (by decide) dX4_sendBit_45 hS.k0 hS.lt0 rfl rfl (Nat.le_of_ble_eq_true rfl) ⟨rfl, rfl⟩ (by decide) (fun I hO hJ => ?_)
  rw [hY] at hJ
  refine x_aload_n dX4_sendBit_48 rfl rfl ?_
  refine x_getR fl_X4_30 dX4_sendBit_49 hS.k0 hS.lt0 rfl hS.r3 ?_
  refine x_iload_n dX4_sendBit_52 rfl rfl ?_
  refine' x_dia_if_eq 60 61 dX4_sendBit_53 (by decide) ?_ ?_ ?_; rotate_left 2
  · intro c53 k53
    refine x_iconst (nI 0) dX4_sendBit_56 (by decide) ?_
    refine x_goto 61 dX4_sendBit_57 (by decide) ?_
    exact k53
  · intro c53 k53
    refine x_iconst (nI 1) dX4_sendBit_60 (by decide) ?_
    exact k53
  refine x_iconst (nI 0) dX4_sendBit_61 (by decide) ?_
  refine x_aload_n dX4_sendBit_62 rfl rfl ?_
  refine x_getI fl_X4_52 dX4_sendBit_63 hS.k0 hS.lt0 rfl (x_eqtop hJ.f4 ?_)
  refine x_iload_n dX4_sendBit_66 rfl rfl ?_
  refine x_callSd0 (mt' := mJ6_bitCount_0f7a4) (sp_bitCount _) ktJ6_bitCount_0f7a4 wl_X4_172 (by decide) dX4_sendBit_67 rfl rfl (Nat.le_of_ble_eq_true rfl) ⟨rfl, rfl⟩ (by decide) ?_
  refine x_callVq hO (mt' := mX0_add) (sp_log hS hJ hL y10 _ _ _) kvX0_add wl_X4_177 (by decide) dX4_sendBit_70 hS.lg.ka hS.lg.la rfl rfl (Nat.le_of_ble_eq_true rfl) ⟨rfl, rfl⟩ (by decide) (fun I hO hJ => ?_)
  refine x_aload_n dX4_sendBit_73 rfl rfl ?_
  refine x_dup dX4_sendBit_74 rfl ?_
  refine x_getI fl_X4_56 dX4_sendBit_75 hS.k0 hS.lt0 rfl (x_eqtop hJ.f5 ?_)
  rw [show pLog Y L (if bi lw = 0 then nI 1 else nI 0) (nI 0) (nI (cn (lsB Z p) 4)) 8 7 = nI p by rw [pLog_ne (by omega) (by omega)]; exact y7]
  refine x_iconst (nI 1) dX4_sendBit_78 (by decide) ?_
  refine x_iaddN dX4_sendBit_79 ?_
  refine x_putS (w := 7) hS hO hJ fl_X4_56 fp_4_5 dX4_sendBit_80 (by decide) (by decide) rfl (fun I hO hJ => ?_)
  replace hJ : SJ o I (pB3 Y L p (if bi lw = 0 then nI 1 else nI 0) (nI (cn (lsB Z p) 4))) := hJ
  rw [hB] at hJ
  refine x_aload_n dX4_sendBit_83 rfl rfl ?_
  refine x_getI fl_X4_56 dX4_sendBit_84 hS.k0 hS.lt0 rfl (x_eqtop hJ.f5 ?_)
  rw [b7]
  refine x_callSNd0 (mt' := mX5_isPlace) (sp_isPlace (by omega)) ktX5_isPlace wl_X4_132 (by decide) dX4_sendBit_87 rfl rfl (Nat.le_of_ble_eq_true rfl) ⟨rfl, rfl⟩ (by decide) ?_
  refine x_if_eq 108 dX4_sendBit_90 (by decide) (fun c90 => ?_) (fun c90 => ?_)
  · skip
    rw [if_neg (of_decide_eq_false (bi_0.mp c90))]
    refine x_vret dX4_sendBit_108 rfl (by decide) (by decide) ?_
    exact ⟨rfl, rfl, rfl, hO, hJ⟩
  · skip
    rw [if_pos (of_decide_eq_true (bi_nt c90))]
    refine x_aload_n dX4_sendBit_93 rfl rfl ?_
    refine x_aload_n dX4_sendBit_94 rfl rfl ?_
    refine x_aload_n dX4_sendBit_95 rfl rfl ?_
    refine x_iconst (nI 0) dX4_sendBit_96 (by decide) ?_
    refine x_callVd0 (mt' := mX4_partOfTalk) (sp_partOfTalk hS hJ (q := 0) (by omega) hTB) kvX4_partOfTalk wl_X4_181 (by decide) dX4_sendBit_97 hS.k0 hS.lt0 rfl rfl (Nat.le_of_ble_eq_true rfl) ⟨rfl, rfl⟩ (by decide) ?_
    refine x_iconst (nI 1) dX4_sendBit_100 (by decide) ?_
    refine x_ishr dX4_sendBit_101 ?_
    refine x_eqtop ((hJ.sh (pFi_lt B) (pFi_tk hTB)).1) ?_
    refine x_callVd0 (mt' := mX4_holdFor) (sp_holdFor hS hJ ((hJ.sh (pFi_lt B) (pFi_tk hTB)).2)) kvX4_holdFor wl_X4_184 (by decide) dX4_sendBit_102 hS.k0 hS.lt0 rfl rfl (Nat.le_of_ble_eq_true rfl) ⟨rfl, rfl⟩ (by decide) ?_
    refine x_putS (w := 4) hS hO hJ fl_X4_59 fp_4_6 dX4_sendBit_105 (by decide) (by decide) rfl (fun I hO hJ => ?_)
    refine x_vret dX4_sendBit_108 rfl (by decide) (by decide) ?_
    exact ⟨rfl, rfl, rfl, hO, hJ⟩
end CL
