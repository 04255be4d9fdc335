
/-! the class: free ticks, stuck ticks -/
section CM
variable {g : GX} {cx : CX} {mt : MT} {F : State → Prop} {cs : Nat × Nat} {pc : Nat} {ls : List (Option Value)} {st : List Value} {I I0 : MI} {R : MR} {o : Nat} {Z : MI}
theorem x_putT {idx k : Nat} {b : Bool} (hS : St R o) (hO : Off o I0 I) (hJ : SJ o I Z) (hk : k < 4) (hb : b = true → ¬ Z k 0 ≤ 0) (fl : FL mt.1.cls idx 3 2) (hd : decode mt.2.1 pc = .ok (.putfield idx, 3)) (kk : ∀ I', Off o I0 I' → SJ o I' (xuI Z k 1 (bi b)) → X g cx mt F cs (pc + 3) ls st 131 I' R) : X g cx mt F cs pc ls (.int (bi b) :: .ref (o + 6 + 2 * k) :: st) 131 I R := by
  refine x_putI fl fp_3_2 hd (hS.ks hk) (hS.lts hk) rfl (bi_n b) (bi_f b) ?_
  refine x_eqI ((congrArg (fun Y => xuI Y (o + 6 + 2 * k) 2 (bi b)) (SM_self (I := I) (a := o + 6 + 2 * k) (p := o + 7 + 2 * k)).symm).trans SM_ua) ?_
  refine kk _ (hO.tr (Off.sp hk)) ?_
  rw [xuI_rw1]
  exact hJ.usp hk ((hJ.1 k hk).ut hb)
theorem x_putL {idx k s : Nat} (hS : St R o) (hO : Off o I0 I) (hJ : SJ o I Z) (hk : k < 4) (hs : s ≤ 99) (fl : FL mt.1.cls idx 1 2) (hd : decode mt.2.1 pc = .ok (.putfield idx, 3)) (kk : ∀ I', Off o I0 I' → SJ o I' (xuI Z (4 + k) 2 (nI s)) → X g cx mt F cs (pc + 3) ls st 131 I' R) : X g cx mt F cs pc ls (.int (nI s) :: .ref (o + 14 + k) :: st) 131 I R := by
  refine x_putI fl fp_1_2 hd (hS.kl hk) (hS.ltl hk) rfl rfl rfl ?_
  refine x_eqI ((congrArg (fun Y => xuI Y (o + 14 + k) 2 (nI s)) (rw1_id (I := I) (a := o + 14 + k)).symm).trans rw1_u) ?_
  refine kk _ (hO.tr (Off.ls hk)) ?_
  rw [xuI_rw1]
  exact hJ.uls hk ((hJ.2.1 k hk).us hs)
end CM
def pE0 (Z : MI) : MI := if cn (tk Z) 4 = 0 then xuI Z 8 7 (nI 0) else Z
def pFc (Z : MI) : MI := if Z 8 5 + nI 1 < Z 8 0 ∨ mk (hasM Z) 4 = 0 then xuI Z 8 5 (Z 8 5 + nI 1) else xuI (xuI (pFr (xuI Z 8 5 (Z 8 5 + nI 1)) 4) 8 5 (nI 0)) 8 8 (Z 8 8 + nI 1)
def pSc (Z : MI) (p : Nat) : MI := pE0 (if Z 8 4 = 0 ∧ ¬ p % 9 = 8 then pLs (xuI Z 8 5 (nI 0)) (ss (xuI Z 8 5 (nI 0)) (tk (xuI Z 8 5 (nI 0))) p 1) 4 else xuI Z 8 5 (nI 0))
theorem max_v {s : Nat} {sh : Bool} (hs : s ≤ 99) : (if bi sh = 0 then (if nI 0 ≤ nI s - nI 1 then nI s - nI 1 else nI 0) else nI 0) = nI (if sh = true ∨ s = 0 then 0 else s - 1) := by
  cases sh with
  | true => rfl
  | false =>
    rw [if_pos (show bi false = 0 by decide)]
    by_cases h : s = 0
    · subst h; decide
    · rw [if_neg (show ¬ (false = true ∨ s = 0) from fun q => by rcases q with q | q; cases q; exact h q), nI_sub1 (by omega), if_pos ((nI_leI (by omega) (by omega)).mpr (by omega))]
theorem us_n {Z : MI} {k s : Nat} {sh : Bool} (hs : s ≤ 99) (e : Z (4 + k) 2 = nI s) : nI (if sh = true ∨ s = 0 then 0 else s - 1) = if sh = true ∨ Z (4 + k) 2 = 0 then 0 else Z (4 + k) 2 - 1 := by
  rw [e]
  by_cases h : sh = true ∨ s = 0
  · rw [if_pos h, if_pos (h.imp id (fun q => by rw [q]; rfl))]; rfl
  · rw [if_neg h, if_neg (fun q => h (q.imp id (fun z => (nI_eq0 (by omega)).mp z)))]
    exact (nI_sub1 (by omega)).symm
section CL
variable {I J0 : MI} {R : MR} {o : Nat} {Z : MI}
theorem sp_bitCount (b : Nat → Bool) : Spd mJ6_bitCount_0f7a4 [.int (mk b 4)] I R (some (.int (nI (cn b 4)))) I := by
  refine Spd.mk (by decide +kernel) (by simp [Value.category]) (Nat.le_of_ble_eq_true rfl) (fun g cx => ?_)
  refine x_iload_n dJ6_bitCount_0f7a4_0 rfl rfl ?_
  refine x_iload_n dJ6_bitCount_0f7a4_1 rfl rfl ?_
  refine x_iconst (nI 1) dJ6_bitCount_0f7a4_2 (by decide) ?_
  refine x_iushr dJ6_bitCount_0f7a4_3 ?_
  refine x_ldcw (nI 1431655765) wx_J6_265 dJ6_bitCount_0f7a4_4 ?_
  refine x_iand dJ6_bitCount_0f7a4_7 ?_
  refine x_isub dJ6_bitCount_0f7a4_8 ?_
  refine x_istore_n dJ6_bitCount_0f7a4_9 rfl (by decide) ?_
  refine x_iload_n dJ6_bitCount_0f7a4_10 rfl rfl ?_
  refine x_ldcw (nI 858993459) wx_J6_266 dJ6_bitCount_0f7a4_11 ?_
  refine x_iand dJ6_bitCount_0f7a4_14 ?_
  refine x_iload_n dJ6_bitCount_0f7a4_15 rfl rfl ?_
  refine x_iconst (nI 2) dJ6_bitCount_0f7a4_16 (by decide) ?_
  refine x_iushr dJ6_bitCount_0f7a4_17 ?_
  refine x_ldcw (nI 858993459) wx_J6_266 dJ6_bitCount_0f7a4_18 ?_
  refine x_iand dJ6_bitCount_0f7a4_21 ?_
  refine x_iadd dJ6_bitCount_0f7a4_22 ?_
  refine x_istore_n dJ6_bitCount_0f7a4_23 rfl (by decide) ?_
  refine x_iload_n dJ6_bitCount_0f7a4_24 rfl rfl ?_
  refine x_iload_n dJ6_bitCount_0f7a4_25 rfl rfl ?_
  refine x_iconst (nI 4) dJ6_bitCount_0f7a4_26 (by decide) ?_
  refine x_iushr dJ6_bitCount_0f7a4_27 ?_
  refine x_iadd dJ6_bitCount_0f7a4_28 ?_
  refine x_ldcw (nI 252645135) wx_J6_267 dJ6_bitCount_0f7a4_29 ?_
  refine x_iand dJ6_bitCount_0f7a4_32 ?_
  refine x_istore_n dJ6_bitCount_0f7a4_33 rfl (by decide) ?_
  refine x_iload_n dJ6_bitCount_0f7a4_34 rfl rfl ?_
  refine x_iload_n dJ6_bitCount_0f7a4_35 rfl rfl ?_
  refine x_bipush (nI 8) dJ6_bitCount_0f7a4_36 (by decide) ?_
  refine x_iushr dJ6_bitCount_0f7a4_38 ?_
  refine x_iadd dJ6_bitCount_0f7a4_39 ?_
  refine x_istore_n dJ6_bitCount_0f7a4_40 rfl (by decide) ?_
  refine x_iload_n dJ6_bitCount_0f7a4_41 rfl rfl ?_
  refine x_iload_n dJ6_bitCount_0f7a4_42 rfl rfl ?_
  refine x_bipush (nI 16) dJ6_bitCount_0f7a4_43 (by decide) ?_
  refine x_iushr dJ6_bitCount_0f7a4_45 ?_
  refine x_iadd dJ6_bitCount_0f7a4_46 ?_
  refine x_istore_n dJ6_bitCount_0f7a4_47 rfl (by decide) ?_
  refine x_iload_n dJ6_bitCount_0f7a4_48 rfl rfl ?_
  refine x_bipush (nI 63) dJ6_bitCount_0f7a4_49 (by decide) ?_
  refine x_iand dJ6_bitCount_0f7a4_51 ?_
  refine x_iret dJ6_bitCount_0f7a4_52 rfl (by decide) (by decide) ?_
  refine ⟨congrArg (fun v => some (Value.int v)) ?_, rfl, rfl, rfl⟩
  rw [mk_m4]
  show _ = nI ((((0 + if b 0 = true then 1 else 0) + if b 1 = true then 1 else 0) + if b 2 = true then 1 else 0) + if b 3 = true then 1 else 0)
  generalize b 0 = p0; generalize b 1 = p1; generalize b 2 = p2; generalize b 3 = p3
  revert p0 p1 p2 p3
  decide +kernel
theorem sp_endTalk (hS : St R o) (hJ : SJ o I Z) : Sp mX4_endTalkIfEmpty [.ref o] 131 I R (SQ o I R none (pE0 Z)) := by
  refine Sp.mk (by decide +kernel) (by simp [Value.category]) (Nat.le_of_ble_eq_true rfl) (fun g cx => ?_)
  have hO : Off o I I := Off.rf
  refine x_aload_n dX4_endTalkIfEmpty_0 rfl rfl ?_
  refine x_callVd0 (mt' := mX4_talkers) (sp_talkers hS hJ) kvX4_talkers wl_X4_129 (by decide) dX4_endTalkIfEmpty_1 hS.k0 hS.lt0 rfl rfl (Nat.le_of_ble_eq_true rfl) ⟨rfl, rfl⟩ (by decide) ?_
  refine x_if_ne 12 dX4_endTalkIfEmpty_4 (by decide) (fun c4 => ?_) (fun c4 => ?_)
  · skip
    rw [show pE0 Z = Z from if_neg (fun q => c4 ((mk_cn _).mpr q))]
    refine x_vret dX4_endTalkIfEmpty_12 rfl (by decide) (by decide) ?_
    exact ⟨rfl, rfl, rfl, hO, hJ⟩
  · skip
    rw [show pE0 Z = xuI Z 8 7 (nI 0) from if_pos ((mk_cn _).mp c4)]
    refine x_aload_n dX4_endTalkIfEmpty_7 rfl rfl ?_
    refine x_iconst (nI 0) dX4_endTalkIfEmpty_8 (by decide) ?_
    refine x_putS (w := 7) hS hO hJ fl_X4_56 fp_4_5 dX4_endTalkIfEmpty_9 (by decide) (by decide) rfl (fun I hO hJ => ?_)
    refine x_vret dX4_endTalkIfEmpty_12 rfl (by decide) (by decide) ?_
    exact ⟨rfl, rfl, rfl, hO, hJ⟩
theorem lp_freeTick {Y : MI} {b : Nat → Bool} {v8 : Int32} {g : GX} {cx : CX} (hS : St R o) (e8 : Y 8 8 = v8) (hb : ∀ k, k < 4 → b k = true → ¬ Y k 0 ≤ 0) (hv : ∀ k, k < 4 → bi (b k) = if Y k 0 ≤ 0 then nI 0 else nI 1) : ∀ (m k : Nat) (I1 : MI), k + m = 4 → Off o J0 I1 → SJ o I1 (pFr Y k) → X g cx mX4_freeTick (xF g cx mX4_freeTick (SQ o J0 R none (xuI (xuI (pFr Y 4) 8 5 (nI 0)) 8 8 (v8 + nI 1)))) (0, 0) 34 [some (.ref o), some (.int (mk b 4)), some (.int (nI k))] [] 131 I1 R := by
  intro m
  induction m with
  | zero =>
    intro k I hk hO hJ
    obtain rfl : k = 4 := by omega
    refine x_iload_n dX4_freeTick_34 rfl rfl ?_
    refine x_aload_n dX4_freeTick_35 rfl rfl ?_
    refine x_getR fl_X4_11 dX4_freeTick_36 hS.k0 hS.lt0 rfl hS.r0 ?_
    refine x_alen (v := nI 4) dX4_freeTick_39 hS.k1 ⟨by decide, by decide⟩ (hS.lt (by omega)) (by rw [hS.l1]; rfl) ?_
    refine x_icmp_geN 63 dX4_freeTick_40 (by decide) (by omega) (by omega) (fun c40 => ?_) (fun c40 => ?_)
    · skip
      refine x_aload_n dX4_freeTick_63 rfl rfl ?_
      refine x_iconst (nI 0) dX4_freeTick_64 (by decide) ?_
      refine x_putS (w := 5) hS hO hJ fl_X4_62 fp_4_7 dX4_freeTick_65 (by decide) (by decide) rfl (fun I hO hJ => ?_)
      refine x_aload_n dX4_freeTick_68 rfl rfl ?_
      refine x_dup dX4_freeTick_69 rfl ?_
      refine x_getI fl_X4_68 dX4_freeTick_70 hS.k0 hS.lt0 rfl (x_eqtop hJ.f9 ?_)
      rw [show xuI (pFr Y 4) 8 5 (nI 0) 8 8 = v8 by rw [xuI_col (by omega), pFr_ge (by omega)]; exact e8]
      refine x_iconst (nI 1) dX4_freeTick_73 (by decide) ?_
      refine x_iadd dX4_freeTick_74 ?_
      refine x_putS (w := 8) hS hO hJ fl_X4_68 fp_4_9 dX4_freeTick_75 (by decide) (by decide) rfl (fun I hO hJ => ?_)
      refine x_vret dX4_freeTick_78 rfl (by decide) (by decide) ?_
      exact ⟨rfl, rfl, rfl, hO, hJ⟩
    · skip
      exact absurd c40 (by omega)
  | succ m ih =>
    intro k I hk hO hJ
    refine x_iload_n dX4_freeTick_34 rfl rfl ?_
    refine x_aload_n dX4_freeTick_35 rfl rfl ?_
    refine x_getR fl_X4_11 dX4_freeTick_36 hS.k0 hS.lt0 rfl hS.r0 ?_
    refine x_alen (v := nI 4) dX4_freeTick_39 hS.k1 ⟨by decide, by decide⟩ (hS.lt (by omega)) (by rw [hS.l1]; rfl) ?_
    refine x_icmp_geN 63 dX4_freeTick_40 (by decide) (by omega) (by omega) (fun c40 => ?_) (fun c40 => ?_)
    · skip
      exact absurd c40 (by omega)
    · skip
      refine x_aload_n dX4_freeTick_43 rfl rfl ?_
      refine x_getR fl_X4_11 dX4_freeTick_44 hS.k0 hS.lt0 rfl hS.r0 ?_
      refine x_iload_n dX4_freeTick_47 rfl rfl ?_
      refine x_aald (j := k) (c := 10) ⟨by decide, by decide⟩ dX4_freeTick_48 hS.k1 (hS.lt (by omega)) (nI_pos (by omega)) (nI_clamp (by omega)) (by rw [hS.l1]; omega) (hS.rs (by omega)) ?_
      refine x_iload_n dX4_freeTick_49 rfl rfl ?_
      refine x_iload_n dX4_freeTick_50 rfl rfl ?_
      refine x_callSd0 (mt' := mX4_isIn) (sp_isIn (by omega)) ktX4_isIn wl_X4_203 (by decide) dX4_freeTick_51 rfl rfl (Nat.le_of_ble_eq_true rfl) ⟨rfl, rfl⟩ (by decide) ?_
      refine x_putT hS hO hJ (by omega) (fun q => by rw [pFr_ge (Nat.le_refl k)]; exact hb k (by omega) q) fl_X4_89 dX4_freeTick_54 (fun I hO hJ => ?_)
      refine x_iincN 1 dX4_freeTick_57 rfl (by decide) (by decide) ?_
      refine x_goto 34 dX4_freeTick_60 (by decide) ?_
      exact ih (k + 1) I (by omega) hO (by rw [← pFr_step, ← hv k (by omega)]; exact hJ)
theorem sp_freeTick (hS : St R o) (hJ : SJ o J0 Z) : Sp mX4_freeTick [.ref o] 131 J0 R (SQ o J0 R none (pFc Z)) := by
  refine Sp.mk (by decide +kernel) (by simp [Value.category]) (Nat.le_of_ble_eq_true rfl) (fun g cx => ?_)
  have hO : Off o J0 J0 := Off.rf
  have eh : mk (hasM (xuI Z 8 5 (Z 8 5 + nI 1))) 4 = mk (hasM Z) 4 := mk_congr (fun j hj => by unfold hasM; rw [xuI_row (by omega)])
  obtain ⟨Y, hY⟩ : ∃ Y, xuI Z 8 5 (Z 8 5 + nI 1) = Y := ⟨_, rfl⟩
  have e5 : Y 8 5 = Z 8 5 + nI 1 := by rw [← hY, xuI_self]
  have e0 : Y 8 0 = Z 8 0 := by rw [← hY, xuI_col (by omega)]
  have e8 : Y 8 8 = Z 8 8 := by rw [← hY, xuI_col (by omega)]
  rw [hY] at eh
  have ez : ∀ k, k < 4 → Y k 0 = Z k 0 := fun k hk => by rw [← hY, xuI_row (by omega)]
  have ev : ∀ k, bi (hasM Z k) = if Z k 0 ≤ 0 then nI 0 else nI 1 := fun k => by
    unfold hasM
    by_cases h : Z k 0 ≤ 0
    · rw [if_pos h, decide_eq_false (fun q => q h)]; rfl
    · rw [if_neg h, decide_eq_true h]; rfl
  refine x_aload_n dX4_freeTick_0 rfl rfl ?_
  refine x_dup dX4_freeTick_1 rfl ?_
  refine x_getI fl_X4_62 dX4_freeTick_2 hS.k0 hS.lt0 rfl (x_eqtop hJ.f7 ?_)
  refine x_iconst (nI 1) dX4_freeTick_5 (by decide) ?_
  refine x_iadd dX4_freeTick_6 ?_
  refine x_putS (w := 5) hS hO hJ fl_X4_62 fp_4_7 dX4_freeTick_7 (by decide) (by decide) rfl (fun I hO hJ => ?_)
  rw [hY] at hJ
  refine x_aload_n dX4_freeTick_10 rfl rfl ?_
  refine x_callVd0 (mt' := mX4_speakersWithMessage) (sp_speakersWithMessage hS hJ) kvX4_speakersWithMessage wl_X4_200 (by decide) dX4_freeTick_11 hS.k0 hS.lt0 rfl rfl (Nat.le_of_ble_eq_true rfl) ⟨rfl, rfl⟩ (by decide) ?_
  rw [eh]
  refine x_istore_n dX4_freeTick_14 rfl (by decide) ?_
  refine x_aload_n dX4_freeTick_15 rfl rfl ?_
  refine x_getI fl_X4_62 dX4_freeTick_16 hS.k0 hS.lt0 rfl (x_eqtop hJ.f7 ?_)
  refine x_aload_n dX4_freeTick_19 rfl rfl ?_
  refine x_iconst (nI 0) dX4_freeTick_20 (by decide) ?_
  refine x_callVd0 (mt' := mX4_setting) (sp_setting hS hJ (w := 0) (by omega)) kvX4_setting wl_X4_162 (by decide) dX4_freeTick_21 hS.k0 hS.lt0 rfl rfl (Nat.le_of_ble_eq_true rfl) ⟨rfl, rfl⟩ (by decide) ?_
  refine x_icmp_lt 31 dX4_freeTick_24 (by decide) (fun c24 => ?_) (fun c24 => ?_)
  · skip
    rw [show pFc Z = xuI Z 8 5 (Z 8 5 + nI 1) from if_pos (Or.inl (by rw [← e5, ← e0]; exact c24)), hY]
    refine x_vret dX4_freeTick_31 rfl (by decide) (by decide) ?_
    exact ⟨rfl, rfl, rfl, hO, hJ⟩
  · skip
    refine x_iload_n dX4_freeTick_27 rfl rfl ?_
    refine x_if_ne 32 dX4_freeTick_28 (by decide) (fun c28 => ?_) (fun c28 => ?_)
    · skip
      rw [show pFc Z = xuI (xuI (pFr Y 4) 8 5 (nI 0)) 8 8 (Z 8 8 + nI 1) by unfold pFc; rw [if_neg (fun q => by rcases q with q | q; exact c24 (by rw [e5, e0]; exact q); exact c28 q), hY]]
      refine x_iconst (nI 0) dX4_freeTick_32 (by decide) ?_
      refine x_istore_n dX4_freeTick_33 rfl (by decide) ?_
      exact lp_freeTick hS e8 (fun k hk q => by rw [ez k hk]; simpa [hasM] using q) (fun k hk => by rw [ez k hk]; exact ev k) 4 0 _ rfl hO (by rw [pFr_0]; exact hJ)
    · skip
      rw [show pFc Z = xuI Z 8 5 (Z 8 5 + nI 1) from if_pos (Or.inr c28), hY]
      refine x_vret dX4_freeTick_31 rfl (by decide) (by decide) ?_
      exact ⟨rfl, rfl, rfl, hO, hJ⟩
end CL
theorem pLs_none {Z : MI} {b : Nat → Bool} {k : Nat} (h : ∀ j, j < k → b j = false) : pLs Z b k = Z := by
  funext a w
  simp only [pLs]
  rw [if_neg (fun q => by rw [h a q.1] at q; cases q.2)]
theorem xuI_id {Z : MI} {k w : Nat} {v : Int32} (h : Z k w = v) : xuI Z k w v = Z := by
  funext a b
  simp only [xuI]
  split
  · rename_i q; obtain ⟨rfl, rfl⟩ := q; exact h.symm
  · rfl
theorem cn_0 {p : Nat → Bool} {n : Nat} (h : cn p n = 0) : ∀ j, j < n → p j = false := by
  intro j hj
  induction n with
  | zero => omega
  | succ n ih =>
    have h' : cn p n + (if p n = true then 1 else 0) = 0 := h
    have hp : p n = false := by
      cases e : p n with
      | false => rfl
      | true => rw [e, if_pos rfl] at h'; omega
    rcases (show j < n ∨ j = n by omega) with q | rfl
    · exact ih (by omega) q
    · exact hp
/-- what binds the talk's numbers -/
def TLK (Z : MI) : Prop := (∃ p, p < 27 ∧ Z 8 7 = nI p) ∧ (∀ k, k < 4 → tk Z k = true → ∀ p, p < 27 → Z 8 7 = nI p → p < pBits (Z k 9)) ∧ (cn (tk Z) 4 = 0 → Z 8 7 = nI 0) ∧ (¬ cn (tk Z) 4 = 0 → Z 8 5 = nI 0)
theorem pSc_eq {Z : MI} {p : Nat} (h1 : cn (tk Z) 4 = 0 → Z 8 7 = nI 0) (h2 : ¬ cn (tk Z) 4 = 0 → Z 8 5 = nI 0) : pSc Z p = pStA Z p := by
  have et : tk (xuI Z 8 5 (nI 0)) = tk (xuI Z 8 5 (nI 0)) := rfl
  have etk : ∀ j, j < 4 → tk (xuI Z 8 5 (nI 0)) j = tk Z j := fun j hj => tk_row (xuI_row (by omega))
  unfold pSc pStA
  by_cases h : cn (tk Z) 4 = 0
  · rw [if_pos h]
    have hn : ∀ j, j < 4 → ss (xuI Z 8 5 (nI 0)) (tk (xuI Z 8 5 (nI 0))) p 1 j = false := fun j hj => by
      unfold ss
      rw [etk j hj, cn_0 h j hj, Bool.false_and]
    rw [pLs_none hn, ite_self]
    unfold pE0
    rw [if_pos (by rw [cn_congr etk]; exact h), xuI_id (by rw [xuI_col (by omega)]; exact h1 h)]
  · rw [if_neg h, xuI_id (h2 h)]
    by_cases hh : Z 8 4 = 0 ∧ ¬ p % 9 = 8
    · rw [if_pos hh, if_pos hh]
      show pE0 (pLo Z p 4) = pEn (pLo Z p 4)
      unfold pE0 pEn
      have e8 : ∀ w, pLo Z p 4 8 w = Z 8 w := fun w => by simp only [pLo]; rw [if_neg (by omega)]
      split
      · rw [xuI_id (k := 8) (w := 5), xuI_id (k := 8) (w := 4)]
        · rw [xuI_col (by omega), e8]; exact hh.1
        · rw [xuI_col (by omega), xuI_col (by omega), e8]; exact h2 h
      · rfl
    · rw [if_neg hh, if_neg hh]
      unfold pE0
      rw [if_neg h]
