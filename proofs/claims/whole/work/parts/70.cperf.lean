/-! the class: perform *)
-/
theorem pOrd_1 (t : Nat → Int32) (n p : Nat) (b c b' c' : Int32) : (pOrd t n p b c).1 = (pOrd t n p b' c').1 := by
  unfold pOrd
  dsimp only
  generalize (if n ≤ p then nI 0 else t p) = l0
  split
  · rfl
  · split
    · split
      · rfl
      · rfl
    · split
      · rfl
      · split
        · rfl
        · rfl
theorem gP_b {t : Nat → Int32} {n : Nat} : ∀ (f k p : Nat) (b c : Int32), k + 1 ≤ (gP t n f k p b c).1 ∧ (gP t n f k p b c).1 ≤ k + f + 1 := by
  intro f
  induction f with
  | zero => intro k p b c; exact ⟨Nat.le_refl _, Nat.le_refl _⟩
  | succ f ih =>
    intro k p b c
    rw [gP]
    split
    · exact ⟨Nat.le_refl _, by show k + 1 ≤ _; omega⟩
    · split
      · exact ⟨Nat.le_refl _, by show k + 1 ≤ _; omega⟩
      · split
        · exact ⟨Nat.le_refl _, by show k + 1 ≤ _; omega⟩
        · have := ih (k + 1) (sg t n (nI 59) (pOrd t n p b c).1).1 (pOrd t n p b c).2.2.2.1 (pOrd t n p b c).2.2.2.2.1
          omega
theorem sg_cs {t : Nat → Int32} {n : Nat} {c : Int32} {s : Nat × Bool} (h : s.2 = false) : sg t n c s = if has t n s.1 c = true then (s.1 + 1, false) else (s.1, true) := by
  unfold sg
  rw [if_neg (by rw [h]; decide)]
/-- behind countOrders -/
def CQ (J : MI) (R : MR) (G : Nat × TO) : XQ := fun r n' J' R' => n' = 137 ∧ R' = R ∧ ∃ q k N, J' = TM J q k N ∧ r = some (.int (if G.2.1.2 = true then -100 - nI G.2.1.1 else nI G.1))
section CT
variable {J : MI} {R : MR} {n : Nat} {t : Nat → Int32}
theorem lp_count (hT : HT J R n t) {g : GX} {cx : CX} : ∀ (f k p : Nat) (b c k' : Int32) (N : Nat → Int32) (G : Nat × TO), n < p + f → p ≤ n → 2 * k ≤ p → gP t n f k p b c = G → X g cx mX2_countOrders (xF g cx mX2_countOrders (CQ J R G)) (0, 0) 6 [some (.ref 38), some (.int (nI (k + 1)))] [] 137 (TM J (nI p) k' N) R := by
  have hn80 := hT.1.1
  intro f
  induction f with
  | zero => intro k p b c k' N G h1 h2; omega
  | succ f ih =>
    intro k p b c k' N G h1 h2 h3 hG
    have hle := pOrd_le (t := t) (b := b) (c := c) h2
    have hro := sp_readOrder (k := k') (N := N) hT h2 b c
    unfold OQ at hro
    rw [gP] at hG
    generalize pOrd t n p b c = o at hle hro hG
    refine x_iload_n dX2_countOrders_6 rfl rfl ?_
    refine x_bipush (nI 80) dX2_countOrders_7 (by decide) ?_
    refine x_icmp_gtF dX2_countOrders_9 (fun q => absurd ((nI_ltI (by omega) (by omega)).mp q) (by omega)) ?_ 51 (by decide)
    refine x_aload_n dX2_countOrders_12 rfl rfl ?_
    refine x_callV (mt' := mX2_readOrder) hro kvX2_readOrder wl_X2_36 (by decide) dX2_countOrders_13 xk_38 (by decide) rfl rfl (Nat.le_of_ble_eq_true rfl) (fun r' n' J' R' hq => ?_)
    obtain ⟨rfl, rfl, k2, N2, rfl, rfl, hA⟩ := hq
    skip
    cases e : o.1.2 with
    | true =>
      rw [e, if_pos rfl] at hG
      subst hG
      refine x_if_neF dX2_countOrders_16 (rfl) ?_ 22 (by decide)
      refine x_goto 51 dX2_countOrders_19 (by decide) ?_
      refine x_bipush (-100) dX2_countOrders_51 (by decide) ?_
      refine x_aload_n dX2_countOrders_53 rfl rfl ?_
      refine x_getI fl_X2_30 dX2_countOrders_54 xk_38 (by decide) rfl (x_eqtop TM_3 ?_)
      refine x_isub dX2_countOrders_57 ?_
      refine x_iret dX2_countOrders_58 rfl (by decide) (by decide) ?_
      exact ⟨rfl, rfl, _, _, _, rfl, by show _ = some (Value.int (if o.1.2 = true then _ else _)); rw [if_pos e]⟩
    | false =>
      have hlt := (hA e).1
      rw [e, if_neg (by decide)] at hG
      by_cases hn : n ≤ o.1.1
      · have en : o.1.1 = n := by omega
        rw [if_pos hn] at hG
        subst hG
        refine x_if_neT 22 dX2_countOrders_16 (by decide) (by decide) ?_
        refine x_aload_n dX2_countOrders_22 rfl rfl ?_
        refine x_getI fl_X2_30 dX2_countOrders_23 xk_38 (by decide) rfl (x_eqtop TM_3 ?_)
        refine x_aload_n dX2_countOrders_26 rfl rfl ?_
        refine x_getI fl_X2_23 dX2_countOrders_27 xk_38 (by decide) rfl (x_eqtop (y := nI n) (TM_2.trans hT.1.2.1) ?_)
        refine x_icmp_neF dX2_countOrders_30 (by rw [en]) ?_ 35 (by decide)
        refine x_iload_n dX2_countOrders_33 rfl rfl ?_
        refine x_iret dX2_countOrders_34 rfl (by decide) (by decide) ?_
        exact ⟨rfl, rfl, _, _, _, rfl, by show _ = some (Value.int (if o.1.2 = true then _ else _)); rw [e, if_neg (by decide)]⟩
      · rw [if_neg hn] at hG
        rw [sg_cs e] at hG
        cases hs : has t n o.1.1 (nI 59) with
        | false =>
          rw [hs, if_neg (show ¬ false = true by decide), if_pos rfl] at hG
          subst hG
          refine x_if_neT 22 dX2_countOrders_16 (by decide) (by decide) ?_
          refine x_aload_n dX2_countOrders_22 rfl rfl ?_
          refine x_getI fl_X2_30 dX2_countOrders_23 xk_38 (by decide) rfl (x_eqtop TM_3 ?_)
          refine x_aload_n dX2_countOrders_26 rfl rfl ?_
          refine x_getI fl_X2_23 dX2_countOrders_27 xk_38 (by decide) rfl (x_eqtop (y := nI n) (TM_2.trans hT.1.2.1) ?_)
          refine x_icmp_neT 35 dX2_countOrders_30 (by decide) (fun q => absurd ((nI_eq (by omega) (by omega)).mp q) (by omega)) ?_
          refine x_aload_n dX2_countOrders_35 rfl rfl ?_
          refine x_callVd0 (mt' := mX2_skipSeparator) (sp_skipSep hT (by omega)) kvX2_skipSeparator wl_X2_40 (by decide) dX2_countOrders_36 xk_38 (by decide) rfl rfl (Nat.le_of_ble_eq_true rfl) ⟨rfl, rfl⟩ (by decide) ?_
          rw [hs, if_neg (by decide)]
          refine x_if_neF dX2_countOrders_39 (rfl) ?_ 45 (by decide)
          refine x_goto 51 dX2_countOrders_42 (by decide) ?_
          refine x_bipush (-100) dX2_countOrders_51 (by decide) ?_
          refine x_aload_n dX2_countOrders_53 rfl rfl ?_
          refine x_getI fl_X2_30 dX2_countOrders_54 xk_38 (by decide) rfl (x_eqtop TM_3 ?_)
          refine x_isub dX2_countOrders_57 ?_
          refine x_iret dX2_countOrders_58 rfl (by decide) (by decide) ?_
          exact ⟨rfl, rfl, _, _, _, rfl, by show _ = some (Value.int (if true = true then _ else _)); rw [if_pos rfl]⟩
        | true =>
          rw [hs, if_pos rfl, if_neg (show ¬ false = true by decide)] at hG
          have hpn := (has_lt hs).1
          refine x_if_neT 22 dX2_countOrders_16 (by decide) (by decide) ?_
          refine x_aload_n dX2_countOrders_22 rfl rfl ?_
          refine x_getI fl_X2_30 dX2_countOrders_23 xk_38 (by decide) rfl (x_eqtop TM_3 ?_)
          refine x_aload_n dX2_countOrders_26 rfl rfl ?_
          refine x_getI fl_X2_23 dX2_countOrders_27 xk_38 (by decide) rfl (x_eqtop (y := nI n) (TM_2.trans hT.1.2.1) ?_)
          refine x_icmp_neT 35 dX2_countOrders_30 (by decide) (fun q => absurd ((nI_eq (by omega) (by omega)).mp q) (by omega)) ?_
          refine x_aload_n dX2_countOrders_35 rfl rfl ?_
          refine x_callVd0 (mt' := mX2_skipSeparator) (sp_skipSep hT (by omega)) kvX2_skipSeparator wl_X2_40 (by decide) dX2_countOrders_36 xk_38 (by decide) rfl rfl (Nat.le_of_ble_eq_true rfl) ⟨rfl, rfl⟩ (by decide) ?_
          rw [hs, if_pos rfl]
          refine x_if_neT 45 dX2_countOrders_39 (by decide) (by decide) ?_
          refine x_iincN 1 dX2_countOrders_45 rfl (by decide) (by decide) ?_
          refine x_goto 6 dX2_countOrders_48 (by decide) ?_
          exact ih (k + 1) (o.1.1 + 1) _ _ _ _ _ (by omega) (by omega) (by omega) hG
theorem sp_rewind (J : MI) (R : MR) : Spd mX2_rewind [.ref 38] J R none (TM J (nI 0) (J 38 4) (J 40)) := by
  refine Spd.mk (by decide +kernel) (by simp [Value.category]) (Nat.le_of_ble_eq_true rfl) (fun g cx => ?_)
  have e : xuI J 38 3 (nI 0) = TM J (nI 0) (J 38 4) (J 40) := by
    have := TM_u3 (J := J) (q := J 38 3) (k := J 38 4) (N := J 40) (v := nI 0)
    rw [TM_id] at this
    exact this
  refine x_aload_n dX2_rewind_0 rfl rfl ?_
  refine x_iconst (nI 0) dX2_rewind_1 (by decide) ?_
  refine x_putI fl_X2_30 fp_2_3 dX2_rewind_2 xk_38 (by decide) rfl rfl rfl (x_eqI e ?_)
  refine x_vret dX2_rewind_5 rfl (by decide) (by decide) ?_
  exact ⟨rfl, rfl, rfl, rfl⟩
theorem sp_countOrders (hT : HT J R n t) (b c : Int32) : Sp mX2_countOrders [.ref 38] 137 J R (CQ J R (gP t n 81 0 0 b c)) := by
  refine Sp.mk (by decide +kernel) (by simp [Value.category]) (Nat.le_of_ble_eq_true rfl) (fun g cx => ?_)
  have hn80 := hT.1.1
  refine x_aload_n dX2_countOrders_0 rfl rfl ?_
  refine x_callVd0 (mt' := mX2_rewind) (sp_rewind J R) kvX2_rewind wl_X2_33 (by decide) dX2_countOrders_1 xk_38 (by decide) rfl rfl (Nat.le_of_ble_eq_true rfl) ⟨rfl, rfl⟩ (by decide) ?_
  refine x_iconst (nI 1) dX2_countOrders_4 (by decide) ?_
  refine x_istore_n dX2_countOrders_5 rfl (by decide) ?_
  exact lp_count hT 81 0 0 b c _ _ _ (by omega) (by omega) (by omega) rfl
theorem sp_number {I : MI} (hr : R 38 1 = some 40) {w : Nat} (hw : w < 4) : Spd mX2_number [.ref 38, .int (nI w)] I R (some (.int (I 40 w))) I := by
  refine Spd.mk (by decide +kernel) (by simp [Value.category]) (Nat.le_of_ble_eq_true rfl) (fun g cx => ?_)
  refine x_iload_n dX2_number_0 rfl rfl ?_
  refine x_iconst (nI 4) dX2_number_1 (by decide) ?_
  refine x_callSNd0 (mt' := mX5_isIndex) (sp_isIx _ 3 (by decide)) ktX5_isIndex wl_X2_26 (by decide) dX2_number_2 rfl rfl (Nat.le_of_ble_eq_true rfl) ⟨rfl, rfl⟩ (by decide) ?_
  refine x_if_eqF dX2_number_5 (fun q => bi_t q (inr_nat (by omega) (by omega) (by omega) (by omega))) ?_ 17 (by decide)
  refine x_aload_n dX2_number_8 rfl rfl ?_
  refine x_getR (j := 40) fl_X2_15 dX2_number_9 xk_38 (by decide) rfl hr ?_
  refine x_iload_n dX2_number_12 rfl rfl ?_
  refine x_iald (j := w) dX2_number_13 xk_40 (by decide) (nI_pos (by omega)) (nI_clamp (by omega)) (by rw [xl_40]; omega) ?_
  refine x_goto 19 dX2_number_14 (by decide) ?_
  refine x_iret dX2_number_19 rfl (by decide) (by decide) ?_
  exact ⟨rfl, rfl, rfl, rfl⟩
end CT
section CL
variable {σ : Nat → Nat} {J : MI} {R : MR} {Z : MI} {H : Nat → MI} {h : Nat} {K : MI} {e : Bool} {n : Nat} {t : Nat → Int32} {a b : Int32}
theorem Cl.tm (hC : Cl σ J R Z H h K e n t a b) (q k : Int32) (N : Nat → Int32) : Cl σ (TM J q k N) R Z H h K e n t a b :=
  hC.fl (fun x q1 q2 => TM_o (by omega) (by omega)) (Nat.le_refl h) hC.snp (by rw [TM_o (by omega) (by omega)]; exact hC.f5) (by rw [TM_o (by omega) (by omega)]; exact hC.f6) (by rw [TM_o (by omega) (by omega)]; exact hC.f7) (by rw [TM_o (by omega) (by omega)]; exact hC.f8) ⟨hC.tx.1, TM_2.trans hC.tx.2.1, fun i hi => by rw [TM_39]; exact hC.tx.2.2 i hi⟩
theorem Cl.ht (hC : Cl σ J R Z H h K e n t a b) : HT J R n t := ⟨hC.tx, hC.ob.2.2.2.2.2⟩
theorem SJ.txm {o : Nat} {Y : MI} (hS : St R o) (hJ : SJ o J Y) (q k : Int32) (N : Nat → Int32) : SJ o (TM J q k N) Y := by
  have hk : ∀ o ∈ [1, 19, 41, 59, 77, 95, 113], o + 18 ≤ 38 ∨ 41 ≤ o := by decide
  have := hk o hS.1
  exact hJ.cg (fun x q1 q2 => TM_o (by omega) (by omega)) (fun _ _ => rfl)
theorem cDo_LV {Z : MI} {kd : Nat} {N : Nat → Int32} {o : TO} (h : IV Z) (hA : ∀ Z, doO Z o = cDo Z kd N) : LV (cDo Z kd N).2 := by
  rw [← hA]
  exact (IV_do Z _ _ _ _ _ h).2
theorem sp_carryOut (hC : Cl σ J R Z H h K e n t a b) {kd : Nat} (hkd : kd < 5) (hk : J 38 4 = nI kd) : Sp mX5_carryOutOrder [.ref 0] 137 J R (SQ 1 J R (some (.int (cDo Z kd (J 40)).1)) (cDo Z kd (J 40)).2) := by
  refine Sp.mk (by decide +kernel) (by simp [Value.category]) (Nat.le_of_ble_eq_true rfl) (fun g cx => ?_)
  have hS := hC.ob.s1
  have hJ := hC.sj
  have hO : Off 1 J J := Off.rf
  have hr := hC.ob.2.2.2.2.2.2
  obtain ⟨cc, hcc, ec⟩ := hC.lv.2
  rcases (show kd = 0 ∨ kd = 1 ∨ kd = 2 ∨ kd = 3 ∨ kd = 4 by omega) with rfl | rfl | rfl | rfl | rfl
  · skip
    refine x_aload_n dX5_carryOutOrder_0 rfl rfl ?_
    refine x_getR (j := 38) fl_X5_26 dX5_carryOutOrder_1 xk_0 (by decide) rfl hC.ob.1.2.2.2.1 ?_
    refine x_iconst (nI 0) dX5_carryOutOrder_4 (by decide) ?_
    refine x_callVd0 (mt' := mX2_number) (sp_number (w := 0) hr (by omega)) kvX2_number wl_X5_236 (by decide) dX5_carryOutOrder_5 xk_38 (by decide) rfl rfl (Nat.le_of_ble_eq_true rfl) ⟨rfl, rfl⟩ (by decide) ?_
    refine x_istore_n dX5_carryOutOrder_8 rfl (by decide) ?_
    refine x_aload_n dX5_carryOutOrder_9 rfl rfl ?_
    refine x_getR (j := 38) fl_X5_26 dX5_carryOutOrder_10 xk_0 (by decide) rfl hC.ob.1.2.2.2.1 ?_
    refine x_iconst (nI 1) dX5_carryOutOrder_13 (by decide) ?_
    refine x_callVd0 (mt' := mX2_number) (sp_number (w := 1) hr (by omega)) kvX2_number wl_X5_236 (by decide) dX5_carryOutOrder_14 xk_38 (by decide) rfl rfl (Nat.le_of_ble_eq_true rfl) ⟨rfl, rfl⟩ (by decide) ?_
    refine x_istore_n dX5_carryOutOrder_17 rfl (by decide) ?_
    refine x_aload_n dX5_carryOutOrder_18 rfl rfl ?_
    refine x_getR (j := 38) fl_X5_26 dX5_carryOutOrder_19 xk_0 (by decide) rfl hC.ob.1.2.2.2.1 ?_
    refine x_getI fl_X5_239 dX5_carryOutOrder_22 xk_38 (by decide) rfl (x_eqtop hk ?_)
    refine x_tableIn (off := 35) 60 dX5_carryOutOrder_25 (by decide) (by decide) (by decide) (by decide) ?_
    refine x_aload_n dX5_carryOutOrder_60 rfl rfl ?_
    refine x_getR (j := 1) fl_X5_10 dX5_carryOutOrder_61 xk_0 (by decide) rfl hC.ob.1.1 ?_
    refine x_iload_n dX5_carryOutOrder_64 rfl rfl ?_
    refine x_iload_n dX5_carryOutOrder_65 rfl rfl ?_
    refine x_aload_n dX5_carryOutOrder_66 rfl rfl ?_
    refine x_getR (j := 38) fl_X5_26 dX5_carryOutOrder_67 xk_0 (by decide) rfl hC.ob.1.2.2.2.1 ?_
    refine x_iconst (nI 2) dX5_carryOutOrder_70 (by decide) ?_
    refine x_callVd0 (mt' := mX2_number) (sp_number (w := 2) hr (by omega)) kvX2_number wl_X5_236 (by decide) dX5_carryOutOrder_71 xk_38 (by decide) rfl rfl (Nat.le_of_ble_eq_true rfl) ⟨rfl, rfl⟩ (by decide) ?_
    refine x_aload_n dX5_carryOutOrder_74 rfl rfl ?_
    refine x_getR (j := 38) fl_X5_26 dX5_carryOutOrder_75 xk_0 (by decide) rfl hC.ob.1.2.2.2.1 ?_
    refine x_iconst (nI 3) dX5_carryOutOrder_78 (by decide) ?_
    refine x_callVd0 (mt' := mX2_number) (sp_number (w := 3) hr (by omega)) kvX2_number wl_X5_236 (by decide) dX5_carryOutOrder_79 xk_38 (by decide) rfl rfl (Nat.le_of_ble_eq_true rfl) ⟨rfl, rfl⟩ (by decide) ?_
    refine x_callVq hO (mt' := mX4_addMessage) (sp_addMessage hS hJ _ _ _ _) kvX4_addMessage wl_X5_44 (by decide) dX5_carryOutOrder_82 hS.k0 hS.lt0 rfl rfl (Nat.le_of_ble_eq_true rfl) ⟨rfl, rfl⟩ (by decide) (fun I hO hJ => ?_)
    refine x_iret dX5_carryOutOrder_85 rfl (by decide) (by decide) ?_
    exact ⟨rfl, rfl, rfl, hO, hJ⟩
  · skip
    refine x_aload_n dX5_carryOutOrder_0 rfl rfl ?_
    refine x_getR (j := 38) fl_X5_26 dX5_carryOutOrder_1 xk_0 (by decide) rfl hC.ob.1.2.2.2.1 ?_
    refine x_iconst (nI 0) dX5_carryOutOrder_4 (by decide) ?_
    refine x_callVd0 (mt' := mX2_number) (sp_number (w := 0) hr (by omega)) kvX2_number wl_X5_236 (by decide) dX5_carryOutOrder_5 xk_38 (by decide) rfl rfl (Nat.le_of_ble_eq_true rfl) ⟨rfl, rfl⟩ (by decide) ?_
    refine x_istore_n dX5_carryOutOrder_8 rfl (by decide) ?_
    refine x_aload_n dX5_carryOutOrder_9 rfl rfl ?_
    refine x_getR (j := 38) fl_X5_26 dX5_carryOutOrder_10 xk_0 (by decide) rfl hC.ob.1.2.2.2.1 ?_
    refine x_iconst (nI 1) dX5_carryOutOrder_13 (by decide) ?_
    refine x_callVd0 (mt' := mX2_number) (sp_number (w := 1) hr (by omega)) kvX2_number wl_X5_236 (by decide) dX5_carryOutOrder_14 xk_38 (by decide) rfl rfl (Nat.le_of_ble_eq_true rfl) ⟨rfl, rfl⟩ (by decide) ?_
    refine x_istore_n dX5_carryOutOrder_17 rfl (by decide) ?_
    refine x_aload_n dX5_carryOutOrder_18 rfl rfl ?_
    refine x_getR (j := 38) fl_X5_26 dX5_carryOutOrder_19 xk_0 (by decide) rfl hC.ob.1.2.2.2.1 ?_
    refine x_getI fl_X5_239 dX5_carryOutOrder_22 xk_38 (by decide) rfl (x_eqtop hk ?_)
    refine x_tableIn (off := 61) 86 dX5_carryOutOrder_25 (by decide) (by decide) (by decide) (by decide) ?_
    refine x_aload_n dX5_carryOutOrder_86 rfl rfl ?_
    refine x_getR (j := 1) fl_X5_10 dX5_carryOutOrder_87 xk_0 (by decide) rfl hC.ob.1.1 ?_
    refine x_iload_n dX5_carryOutOrder_90 rfl rfl ?_
    refine x_iload_n dX5_carryOutOrder_91 rfl rfl ?_
    refine x_callVq hO (mt' := mX4_giveAddress) (sp_giveAddress hS hJ _ _) kvX4_giveAddress wl_X5_55 (by decide) dX5_carryOutOrder_92 hS.k0 hS.lt0 rfl rfl (Nat.le_of_ble_eq_true rfl) ⟨rfl, rfl⟩ (by decide) (fun I hO hJ => ?_)
    refine x_iret dX5_carryOutOrder_95 rfl (by decide) (by decide) ?_
    exact ⟨rfl, rfl, rfl, hO, hJ⟩
  · skip
    refine x_aload_n dX5_carryOutOrder_0 rfl rfl ?_
    refine x_getR (j := 38) fl_X5_26 dX5_carryOutOrder_1 xk_0 (by decide) rfl hC.ob.1.2.2.2.1 ?_
    refine x_iconst (nI 0) dX5_carryOutOrder_4 (by decide) ?_
    refine x_callVd0 (mt' := mX2_number) (sp_number (w := 0) hr (by omega)) kvX2_number wl_X5_236 (by decide) dX5_carryOutOrder_5 xk_38 (by decide) rfl rfl (Nat.le_of_ble_eq_true rfl) ⟨rfl, rfl⟩ (by decide) ?_
    refine x_istore_n dX5_carryOutOrder_8 rfl (by decide) ?_
    refine x_aload_n dX5_carryOutOrder_9 rfl rfl ?_
    refine x_getR (j := 38) fl_X5_26 dX5_carryOutOrder_10 xk_0 (by decide) rfl hC.ob.1.2.2.2.1 ?_
    refine x_iconst (nI 1) dX5_carryOutOrder_13 (by decide) ?_
    refine x_callVd0 (mt' := mX2_number) (sp_number (w := 1) hr (by omega)) kvX2_number wl_X5_236 (by decide) dX5_carryOutOrder_14 xk_38 (by decide) rfl rfl (Nat.le_of_ble_eq_true rfl) ⟨rfl, rfl⟩ (by decide) ?_
    refine x_istore_n dX5_carryOutOrder_17 rfl (by decide) ?_
    refine x_aload_n dX5_carryOutOrder_18 rfl rfl ?_
    refine x_getR (j := 38) fl_X5_26 dX5_carryOutOrder_19 xk_0 (by decide) rfl hC.ob.1.2.2.2.1 ?_
    refine x_getI fl_X5_239 dX5_carryOutOrder_22 xk_38 (by decide) rfl (x_eqtop hk ?_)
    refine x_tableIn (off := 71) 96 dX5_carryOutOrder_25 (by decide) (by decide) (by decide) (by decide) ?_
    refine x_aload_n dX5_carryOutOrder_96 rfl rfl ?_
    refine x_getR (j := 1) fl_X5_10 dX5_carryOutOrder_97 xk_0 (by decide) rfl hC.ob.1.1 ?_
    refine x_iload_n dX5_carryOutOrder_100 rfl rfl ?_
    refine x_iload_n dX5_carryOutOrder_101 rfl rfl ?_
    refine x_callVq hO (mt' := mX4_giveHold) (sp_giveHold hS hJ _ _) kvX4_giveHold wl_X5_59 (by decide) dX5_carryOutOrder_102 hS.k0 hS.lt0 rfl rfl (Nat.le_of_ble_eq_true rfl) ⟨rfl, rfl⟩ (by decide) (fun I hO hJ => ?_)
    refine x_iret dX5_carryOutOrder_105 rfl (by decide) (by decide) ?_
    exact ⟨rfl, rfl, rfl, hO, hJ⟩
  · skip
    refine x_aload_n dX5_carryOutOrder_0 rfl rfl ?_
    refine x_getR (j := 38) fl_X5_26 dX5_carryOutOrder_1 xk_0 (by decide) rfl hC.ob.1.2.2.2.1 ?_
    refine x_iconst (nI 0) dX5_carryOutOrder_4 (by decide) ?_
    refine x_callVd0 (mt' := mX2_number) (sp_number (w := 0) hr (by omega)) kvX2_number wl_X5_236 (by decide) dX5_carryOutOrder_5 xk_38 (by decide) rfl rfl (Nat.le_of_ble_eq_true rfl) ⟨rfl, rfl⟩ (by decide) ?_
    refine x_istore_n dX5_carryOutOrder_8 rfl (by decide) ?_
    refine x_aload_n dX5_carryOutOrder_9 rfl rfl ?_
    refine x_getR (j := 38) fl_X5_26 dX5_carryOutOrder_10 xk_0 (by decide) rfl hC.ob.1.2.2.2.1 ?_
    refine x_iconst (nI 1) dX5_carryOutOrder_13 (by decide) ?_
    refine x_callVd0 (mt' := mX2_number) (sp_number (w := 1) hr (by omega)) kvX2_number wl_X5_236 (by decide) dX5_carryOutOrder_14 xk_38 (by decide) rfl rfl (Nat.le_of_ble_eq_true rfl) ⟨rfl, rfl⟩ (by decide) ?_
    refine x_istore_n dX5_carryOutOrder_17 rfl (by decide) ?_
    refine x_aload_n dX5_carryOutOrder_18 rfl rfl ?_
    refine x_getR (j := 38) fl_X5_26 dX5_carryOutOrder_19 xk_0 (by decide) rfl hC.ob.1.2.2.2.1 ?_
    refine x_getI fl_X5_239 dX5_carryOutOrder_22 xk_38 (by decide) rfl (x_eqtop hk ?_)
    refine x_tableIn (off := 81) 106 dX5_carryOutOrder_25 (by decide) (by decide) (by decide) (by decide) ?_
    refine x_aload_n dX5_carryOutOrder_106 rfl rfl ?_
    refine x_getR (j := 1) fl_X5_10 dX5_carryOutOrder_107 xk_0 (by decide) rfl hC.ob.1.1 ?_
    refine x_iload_n dX5_carryOutOrder_110 rfl rfl ?_
    refine x_iload_n dX5_carryOutOrder_111 rfl rfl ?_
    refine x_callVq hO (mt' := mX4_makeStuck) (sp_makeStuck hS hJ _ _) kvX4_makeStuck wl_X5_62 (by decide) dX5_carryOutOrder_112 hS.k0 hS.lt0 rfl rfl (Nat.le_of_ble_eq_true rfl) ⟨rfl, rfl⟩ (by decide) (fun I hO hJ => ?_)
    refine x_iret dX5_carryOutOrder_115 rfl (by decide) (by decide) ?_
    exact ⟨rfl, rfl, rfl, hO, hJ⟩
  · skip
    refine x_aload_n dX5_carryOutOrder_0 rfl rfl ?_
    refine x_getR (j := 38) fl_X5_26 dX5_carryOutOrder_1 xk_0 (by decide) rfl hC.ob.1.2.2.2.1 ?_
    refine x_iconst (nI 0) dX5_carryOutOrder_4 (by decide) ?_
    refine x_callVd0 (mt' := mX2_number) (sp_number (w := 0) hr (by omega)) kvX2_number wl_X5_236 (by decide) dX5_carryOutOrder_5 xk_38 (by decide) rfl rfl (Nat.le_of_ble_eq_true rfl) ⟨rfl, rfl⟩ (by decide) ?_
    refine x_istore_n dX5_carryOutOrder_8 rfl (by decide) ?_
    refine x_aload_n dX5_carryOutOrder_9 rfl rfl ?_
    refine x_getR (j := 38) fl_X5_26 dX5_carryOutOrder_10 xk_0 (by decide) rfl hC.ob.1.2.2.2.1 ?_
    refine x_iconst (nI 1) dX5_carryOutOrder_13 (by decide) ?_
    refine x_callVd0 (mt' := mX2_number) (sp_number (w := 1) hr (by omega)) kvX2_number wl_X5_236 (by decide) dX5_carryOutOrder_14 xk_38 (by decide) rfl rfl (Nat.le_of_ble_eq_true rfl) ⟨rfl, rfl⟩ (by decide) ?_
    refine x_istore_n dX5_carryOutOrder_17 rfl (by decide) ?_
    refine x_aload_n dX5_carryOutOrder_18 rfl rfl ?_
    refine x_getR (j := 38) fl_X5_26 dX5_carryOutOrder_19 xk_0 (by decide) rfl hC.ob.1.2.2.2.1 ?_
    refine x_getI fl_X5_239 dX5_carryOutOrder_22 xk_38 (by decide) rfl (x_eqtop hk ?_)
    refine x_tableIn (off := 91) 116 dX5_carryOutOrder_25 (by decide) (by decide) (by decide) (by decide) ?_
    refine x_aload_n dX5_carryOutOrder_116 rfl rfl ?_
    refine x_getR (j := 1) fl_X5_10 dX5_carryOutOrder_117 xk_0 (by decide) rfl hC.ob.1.1 ?_
    refine x_iload_n dX5_carryOutOrder_120 rfl rfl ?_
    refine x_callVq hO (mt' := mX4_passTicks) (sp_passTicks hS hJ hC.lv.1 _ hcc ec) kvX4_passTicks wl_X5_68 (by decide) dX5_carryOutOrder_121 hS.k0 hS.lt0 rfl rfl (Nat.le_of_ble_eq_true rfl) ⟨rfl, rfl⟩ (by decide) (fun I hO hJ => ?_)
    refine x_iret dX5_carryOutOrder_124 rfl (by decide) (by decide) ?_
    exact ⟨rfl, rfl, rfl, hO, hJ⟩
end CL
/-- behind perform -/
def stA (o : Option (Int32 × Int32)) (a : Int32) : Int32 := match o with
  | none => a
  | some q => q.1
def stB (o : Option (Int32 × Int32)) (b : Int32) : Int32 := match o with
  | none => b
  | some q => q.2
def PQ (σ : Nat → Nat) (J : MI) (R : MR) (Z : MI) (H : Nat → MI) (h : Nat) (K : MI) (e : Bool) (n : Nat) (t : Nat → Int32) (a b : Int32) (G : Int32 × MI × Option (Int32 × Int32) × TO) : XQ := fun r' n' J' R' => r' = some (.int G.1) ∧ n' = 137 ∧ Hi J J' ∧ ((G.1 < 0 ∧ Cl σ J' R' Z H h K e n t (stA G.2.2.1 a) (stB G.2.2.1 b)) ∨ (¬ G.1 < 0 ∧ G.2.2.1 = none ∧ Cl (sN σ h) J' R' G.2.1 (pH H h Z) (hN h) K e n t a b))
section CL
variable {σ : Nat → Nat} {J0 : MI} {R : MR} {Z0 : MI} {H : Nat → MI} {h : Nat} {K : MI} {e : Bool} {n : Nat} {t : Nat → Int32} {a b : Int32}
theorem gP_le {t : Nat → Int32} {n : Nat} : ∀ (f k p : Nat) (b c : Int32), p ≤ n → (gP t n f k p b c).2.1.1 ≤ n := by
  intro f
  induction f with
  | zero => intro k p b c hp; exact pOrd_le hp
  | succ f ih =>
    intro k p b c hp
    rw [gP]
    split
    · exact pOrd_le hp
    · split
      · exact pOrd_le hp
      · split
        · exact sg_le (pOrd_le hp)
        · exact ih _ _ _ _ (sg_le (pOrd_le hp))
theorem lp_perform {g : GX} {cx : CX} {M : Nat} (hV0 : LV Z0) (hM : M ≤ 90) : ∀ (f k p : Nat) (Z : MI) (b1 c1 b2 c2 : Int32) (o : TO) (G : Int32 × MI × Option (Int32 × Int32) × TO) (u : Option Value) (J : MI), n < p + f → p ≤ n → gP t n f k p b1 c1 = (M, o) → o.1.2 = false → gD t n f k p Z b2 c2 = G → Hi J0 J → Cl σ J R Z H h K e n t a b → SJ (σ 4) J Z0 → J 38 3 = nI p → X g cx mX5_perform (xF g cx mX5_perform (PQ σ J0 R Z0 H h K e n t a b G)) (0, 0) 34 [some (.ref 0), some (.int (nI M)), some (.int (nI k)), u] [] 137 J R := by
  intro f
  induction f with
  | zero => intro k p Z b1 c1 b2 c2 o G u J h1 h2; omega
  | succ f ih =>
    intro k p Z b1 c1 b2 c2 o G u J h1 h2 hP hw hG hH hC hSp hat
    have hb := gP_b (t := t) (n := n) (f + 1) k p b1 c1
    rw [hP] at hb
    have hkM : k + 1 ≤ M := hb.1
    have hn80 := hC.tx.1
    have hle := pOrd_le (t := t) (b := b2) (c := c2) h2
    have hro := sp_readOrder (k := J 38 4) (N := J 40) hC.ht h2 b2 c2
    have eJ : TM J (nI p) (J 38 4) (J 40) = J := by rw [← hat]; exact TM_id
    rw [eJ] at hro
    have hgep := pOrd_ge (t := t) (n := n) (p := p) (b := b2) (c := c2)
    have e1 := pOrd_1 t n p b1 c1 b2 c2
    have hIV : IV Z := ⟨hC.sj.nb, hC.lv⟩
    have h4 := hC.ob.st (i := 4) (by omega)
    have hT0 := hC.ht
    have hC0 := hC
    have hSp0 := hSp
    have hH0 := hH
    have hIVd := fun (l a b c d : Int32) => IV_do Z l a b c d hIV
    unfold OQ at hro
    rw [gP] at hP
    rw [gD] at hG
    generalize pOrd t n p b1 c1 = o1 at hP e1
    generalize pOrd t n p b2 c2 = o2 at hle hro hG e1 hgep
    rw [e1] at hP
    have hnw : o2.1.2 = false := by
      cases z : o2.1.2 with
      | false => rfl
      | true =>
        rw [z, if_pos rfl] at hP
        have h5 : o1 = o := (Prod.ext_iff.mp hP).2
        rw [← h5, e1, z] at hw
        cases hw
    rw [hnw, if_neg (show ¬ false = true by decide)] at hP hG
    have hLV : LV (doO Z o2).2 := (hIVd _ _ _ _ _).2
    have hgo : ∀ (v : Int32) (J3 : MI), ¬ ((doO Z o2).1 < 0 ∧ ¬ (doO Z o2).1 = -5) → Hi J0 J3 → Cl σ J3 R (doO Z o2).2 H h K e n t a b → SJ (σ 4) J3 Z0 → J3 38 3 = nI (if has t n o2.1.1 (nI 59) = true then o2.1.1 + 1 else o2.1.1) → X g cx mX5_perform (xF g cx mX5_perform (PQ σ J0 R Z0 H h K e n t a b G)) (0, 0) 94 [some (.ref 0), some (.int (nI M)), some (.int (nI k)), some (.int v)] [] 137 J3 R := by
      intro v J3 hns hH hC hSp hat3
      rw [if_neg hns] at hG
      by_cases hn : n ≤ o2.1.1
      · rw [if_pos hn] at hP hG
        have hMk : k + 1 = M := (Prod.ext_iff.mp hP).1
        subst hMk
        subst hG
        have hge : ¬ nI (k + 1) < 0 := nI_pos (by omega)
        refine x_iincN 1 dX5_perform_94 rfl (by decide) (by decide) ?_
        refine x_goto 34 dX5_perform_97 (by decide) ?_
        refine x_iload_n dX5_perform_34 rfl rfl ?_
        refine x_iload_n dX5_perform_35 rfl rfl ?_
        refine x_icmp_geT 100 dX5_perform_36 (by decide) ((nI_leI (by omega) (by omega)).mpr (Nat.le_refl _)) ?_
        refine x_aload_n dX5_perform_100 rfl rfl ?_
        refine x_iload_n dX5_perform_101 rfl rfl ?_
        refine x_callV (mt' := mX5_recorded) (sp_recorded hC hSp hV0 _) kvX5_recorded wl_X5_48 (by decide) dX5_perform_102 xk_0 (by decide) rfl rfl (Nat.le_of_ble_eq_true rfl) (fun r' n' J2 R2 hq => ?_)
        obtain ⟨rfl, rfl, hH2, hq⟩ := hq
        rcases hq with ⟨q, -⟩ | ⟨-, hq⟩
        · exact absurd q hge
        refine x_iret dX5_perform_105 rfl (by decide) (by decide) ?_
        exact ⟨rfl, rfl, hH.tr hH2, Or.inr ⟨hge, rfl, hq⟩⟩
      · rw [if_neg hn] at hP hG
        rw [sg_cs hnw] at hP hG
        cases hs : has t n o2.1.1 (nI 59) with
        | false =>
          rw [hs, if_neg (show ¬ false = true by decide), if_pos rfl] at hP
          have h5 : ((o2.1.1, true), o1.2) = o := (Prod.ext_iff.mp hP).2
          rw [← h5] at hw
          cases hw
        | true =>
          rw [hs, if_pos rfl, if_neg (show ¬ false = true by decide)] at hP hG
          rw [hs, if_pos rfl] at hat3
          have hpn := (has_lt hs).1
          refine x_iincN 1 dX5_perform_94 rfl (by decide) (by decide) ?_
          refine x_goto 34 dX5_perform_97 (by decide) ?_
          exact ih (k + 1) (o2.1.1 + 1) _ _ _ _ _ o G _ _ (by omega) (by omega) hP hw hG hH hC hSp hat3
    refine x_iload_n dX5_perform_34 rfl rfl ?_
    refine x_iload_n dX5_perform_35 rfl rfl ?_
    refine x_icmp_geF dX5_perform_36 (fun q => absurd ((nI_leI (by omega) (by omega)).mp q) (by omega)) ?_ 100 (by decide)
    refine x_aload_n dX5_perform_39 rfl rfl ?_
    refine x_getR (j := 38) fl_X5_26 dX5_perform_40 xk_0 (by decide) rfl hC.ob.1.2.2.2.1 ?_
    refine x_callV (mt' := mX2_readOrder) hro kvX2_readOrder wl_X5_85 (by decide) dX5_perform_43 xk_38 (by decide) rfl rfl (Nat.le_of_ble_eq_true rfl) (fun r' n' J' R' hq => ?_)
    obtain ⟨rfl, rfl, k2, N2, rfl, rfl, hA⟩ := hq
    obtain ⟨hlt, kd, hkd, rfl, hdo⟩ := hA hnw
    replace hC := hC0.tm (nI o2.1.1) (nI kd) N2
    refine x_pop dX5_perform_46 rfl ?_
    refine x_aload_n dX5_perform_47 rfl rfl ?_
    refine x_getR (j := 38) fl_X5_26 dX5_perform_48 xk_0 (by decide) rfl hC.ob.1.2.2.2.1 ?_
    refine x_callVd0 (mt' := mX2_skipSeparator) (sp_skipSep hT0 (by omega)) kvX2_skipSeparator wl_X5_89 (by decide) dX5_perform_51 xk_38 (by decide) rfl rfl (Nat.le_of_ble_eq_true rfl) ⟨rfl, rfl⟩ (by decide) ?_
    replace hC := hC0.tm (nI (if has t n o2.1.1 (nI 59) = true then o2.1.1 + 1 else o2.1.1)) (nI kd) N2
    refine x_pop dX5_perform_54 rfl ?_
    refine x_aload_n dX5_perform_55 rfl rfl ?_
    have hcar := sp_carryOut hC hkd TM_4
    rw [TM_40, ← hdo] at hcar
    refine x_callV (mt' := mX5_carryOutOrder) hcar kvX5_carryOutOrder wl_X5_92 (by decide) dX5_perform_56 xk_0 (by decide) rfl rfl (Nat.le_of_ble_eq_true rfl) (fun r' n' J3 R' hq => ?_)
    obtain ⟨rfl, rfl, rfl, hO, hJ2⟩ := hq
    have hat3 : J3 38 3 = nI (if has t n o2.1.1 (nI 59) = true then o2.1.1 + 1 else o2.1.1) := by rw [hO 38 (Or.inr (by omega))]; exact TM_3
    have hSp : SJ (σ 4) J3 Z0 := (SJ.txm h4 hSp0 _ _ _).off hC.ob.s1 h4 (hC.ob.ne1 (by omega)).symm hO
    have hH : Hi J0 J3 := hH0.tr (fun x hx => by rw [hO x (Or.inr (by omega)), TM_o (by omega) (by omega)])
    replace hC := hC.now hO hJ2 hLV
    refine x_istore_n dX5_perform_59 rfl (by decide) ?_
    refine x_iload_n dX5_perform_60 rfl rfl ?_
    refine x_if_ge 94 dX5_perform_61 (by decide) (fun c61 => ?_) (fun c61 => ?_)
    · skip
      exact hgo _ J3 (by first | exact fun q => absurd q.1 (Int32.not_lt.mpr c61) | exact fun q => q.2 c67) hH hC hSp hat3
    · skip
      refine x_iload_n dX5_perform_64 rfl rfl ?_
      refine x_bipush (-5) dX5_perform_65 (by decide) ?_
      refine x_icmp_eq 94 dX5_perform_67 (by decide) (fun c67 => ?_) (fun c67 => ?_)
      · skip
        exact hgo _ J3 (by first | exact fun q => absurd q.1 (Int32.not_lt.mpr c61) | exact fun q => q.2 c67) hH hC hSp hat3
      · skip
        have hst : (doO Z o2).1 < 0 ∧ ¬ (doO Z o2).1 = -5 := ⟨Int32.not_le.mp c61, c67⟩
        rw [if_pos hst] at hG
        subst hG
        refine x_aload_n dX5_perform_70 rfl rfl ?_
        refine x_iload_n dX5_perform_71 rfl rfl ?_
        refine x_putI fl_X5_33 fp_5_7 dX5_perform_72 xk_0 (by decide) rfl rfl rfl ?_
        refine x_aload_n dX5_perform_75 rfl rfl ?_
        refine x_iload_n dX5_perform_76 rfl rfl ?_
        refine x_putI fl_X5_37 fp_5_8 dX5_perform_77 xk_0 (by decide) rfl rfl rfl ?_
        replace hSp : SJ (σ 4) (xuI (xuI J3 0 7 (nI k)) 0 8 (doO Z o2).1) Z0 := hSp.cg (fun x q1 q2 => by have := (hC.ob.in5 (i := 4) (by omega)).2.1; rw [xuI_row (by omega), xuI_row (by omega)]) (fun _ _ => rfl)
        replace hH : Hi J0 (xuI (xuI J3 0 7 (nI k)) 0 8 (doO Z o2).1) := hH.tr (fun x hx => by rw [xuI_row (by omega), xuI_row (by omega)])
        replace hC : Cl σ (xuI (xuI J3 0 7 (nI k)) 0 8 (doO Z o2).1) _ (doO Z o2).2 H h K e n t (nI k) (doO Z o2).1 := hC.fl (fun x q1 q2 => by rw [xuI_row (by omega), xuI_row (by omega)]) (Nat.le_refl h) hC.snp (by rw [xuI_col (by omega), xuI_col (by omega)]; exact hC.f5) (by rw [xuI_col (by omega), xuI_col (by omega)]; exact hC.f6) (by rw [xuI_col (by omega)]; exact xuI_self) xuI_self (hC.tx.cg (by rw [xuI_row (by omega), xuI_row (by omega)]) (by rw [xuI_row (by omega), xuI_row (by omega)]))
        refine x_aload_n dX5_perform_80 rfl rfl ?_
        refine x_getR (j := 1) fl_X5_10 dX5_perform_81 xk_0 (by decide) rfl hC.ob.1.1 ?_
        refine x_aload_n dX5_perform_84 rfl rfl ?_
        refine x_getR (j := σ 4) fl_X5_30 dX5_perform_85 xk_0 (by decide) rfl hC.ob.1.2.2.2.2 ?_
        refine x_cpN hC hH h4 (hC.ob.ne1 (by omega)).symm hSp hV0 wl_X5_40 (by decide) dX5_perform_88 (Nat.le_of_ble_eq_true rfl) (by decide) (fun J4 hH hO hC => ?_)
        refine x_bipush (-4) dX5_perform_91 (by decide) ?_
        refine x_iret dX5_perform_93 rfl (by decide) (by decide) ?_
        exact ⟨rfl, rfl, hH, Or.inl ⟨show (-4 : Int32) < 0 by decide, hC⟩⟩
theorem sp_performF (hC : Cl σ J0 R Z0 H h K e n t a b) (b1 c1 : Int32) (hw : (gP t n 81 0 0 b1 c1).2.1.2 = true) : Sp mX5_perform [.ref 0] 137 J0 R (KQ σ J0 R Z0 H h K e n t a b (-100 - nI (gP t n 81 0 0 b1 c1).2.1.1)) := by
  refine Sp.mk (by decide +kernel) (by simp [Value.category]) (Nat.le_of_ble_eq_true rfl) (fun g cx => ?_)
  have hn80 := hC.tx.1
  have hco := sp_countOrders hC.ht b1 c1
  have hneg : (-100 - nI (gP t n 81 0 0 b1 c1).2.1.1) < 0 := by
    have hle : (gP t n 81 0 0 b1 c1).2.1.1 ≤ 80 := Nat.le_trans (gP_le 81 0 0 b1 c1 (by omega)) hn80
    have key : ∀ j, j < 81 → (-100 - nI j) < 0 := by decide +kernel
    exact key _ (by omega)
  unfold CQ at hco
  rw [if_pos hw] at hco
  refine x_aload_n dX5_perform_0 rfl rfl ?_
  refine x_getR (j := 38) fl_X5_26 dX5_perform_1 xk_0 (by decide) rfl hC.ob.1.2.2.2.1 ?_
  refine x_callV (mt' := mX2_countOrders) hco kvX2_countOrders wl_X5_79 (by decide) dX5_perform_4 xk_38 (by decide) rfl rfl (Nat.le_of_ble_eq_true rfl) (fun r' n' J' R' hq => ?_)
  obtain ⟨rfl, rfl, q, k, N, rfl, rfl⟩ := hq
  refine x_istore_n dX5_perform_7 rfl (by decide) ?_
  refine x_iload_n dX5_perform_8 rfl rfl ?_
  refine x_if_geF dX5_perform_9 (Int32.not_le.mpr hneg) ?_ 14 (by decide)
  refine x_iload_n dX5_perform_12 rfl rfl ?_
  refine x_iret dX5_perform_13 rfl (by decide) (by decide) ?_
  exact ⟨rfl, rfl, fun x hx => TM_o (by omega) (by omega), rfl, hC.tm _ _ _⟩
theorem sp_perform (hC : Cl σ J0 R Z0 H h K e n t a b) (b1 c1 b2 c2 : Int32) (hw : (gP t n 81 0 0 b1 c1).2.1.2 = false) : Sp mX5_perform [.ref 0] 137 J0 R (PQ σ J0 R Z0 H h K e n t a b (gD t n 81 0 0 Z0 b2 c2)) := by
  refine Sp.mk (by decide +kernel) (by simp [Value.category]) (Nat.le_of_ble_eq_true rfl) (fun g cx => ?_)
  have hn80 := hC.tx.1
  have hV0 := hC.lv
  have hco := sp_countOrders hC.ht b1 c1
  have hM := (gP_b (t := t) (n := n) 81 0 0 b1 c1).2
  unfold CQ at hco
  rw [if_neg (by rw [hw]; decide)] at hco
  refine x_aload_n dX5_perform_0 rfl rfl ?_
  refine x_getR (j := 38) fl_X5_26 dX5_perform_1 xk_0 (by decide) rfl hC.ob.1.2.2.2.1 ?_
  refine x_callV (mt' := mX2_countOrders) hco kvX2_countOrders wl_X5_79 (by decide) dX5_perform_4 xk_38 (by decide) rfl rfl (Nat.le_of_ble_eq_true rfl) (fun r' n' J' R' hq => ?_)
  obtain ⟨rfl, rfl, q, k, N, rfl, rfl⟩ := hq
  have hH : Hi J0 (TM J0 q k N) := fun x hx => TM_o (by omega) (by omega)
  replace hC := hC.tm q k N
  refine x_istore_n dX5_perform_7 rfl (by decide) ?_
  refine x_iload_n dX5_perform_8 rfl rfl ?_
  refine x_if_geT 14 dX5_perform_9 (by decide) (nI_pos' (by omega)) ?_
  refine x_aload_n dX5_perform_14 rfl rfl ?_
  refine x_getR (j := σ 4) fl_X5_30 dX5_perform_15 xk_0 (by decide) rfl hC.ob.1.2.2.2.2 ?_
  refine x_aload_n dX5_perform_18 rfl rfl ?_
  refine x_getR (j := 1) fl_X5_10 dX5_perform_19 xk_0 (by decide) rfl hC.ob.1.1 ?_
  refine x_cpS hC hH wl_X5_40 (by decide) dX5_perform_22 (Nat.le_of_ble_eq_true rfl) (by decide) (fun J hH hC hP => ?_)
  refine x_aload_n dX5_perform_25 rfl rfl ?_
  refine x_getR (j := 38) fl_X5_26 dX5_perform_26 xk_0 (by decide) rfl hC.ob.1.2.2.2.1 ?_
  refine x_callVd0 (mt' := mX2_rewind) (sp_rewind _ _) kvX2_rewind wl_X5_82 (by decide) dX5_perform_29 xk_38 (by decide) rfl rfl (Nat.le_of_ble_eq_true rfl) ⟨rfl, rfl⟩ (by decide) ?_
  have h4 := hC.ob.st (i := 4) (by omega)
  have hSp := SJ.txm h4 hP (nI 0) (J 38 4) (J 40)
  have hH2 : Hi J0 (TM J (nI 0) (J 38 4) (J 40)) := hH.tr (fun x hx => TM_o (by omega) (by omega))
  replace hC := hC.tm (nI 0) (J 38 4) (J 40)
  refine x_iconst (nI 0) dX5_perform_32 (by decide) ?_
  refine x_istore_n dX5_perform_33 rfl (by decide) ?_
  exact lp_perform hV0 (M := (gP t n 81 0 0 b1 c1).1) (by omega) 81 0 0 Z0 b1 c1 b2 c2 (gP t n 81 0 0 b1 c1).2 _ _ _ (by omega) (by omega) rfl hw rfl hH2 hC hSp TM_3
end CL
