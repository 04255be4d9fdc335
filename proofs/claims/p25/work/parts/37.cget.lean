
/-! the class: what is read of a state -/
theorem mk_step {p : Nat → Bool} {k : Nat} : (mk p k ||| (if bi (p k) = 0 then nI 0 else nI 1 <<< (nI k &&& 31))) = mk p (k + 1) := by
  show _ = mk p k ||| _
  cases p k with
  | true => rfl
  | false => rfl
theorem m4_cn : ∀ a b c d : Bool, m4 a b c d = 0 ↔ ((((0 + if a = true then 1 else 0) + if b = true then 1 else 0) + if c = true then 1 else 0) + if d = true then 1 else 0) = 0 := by decide +kernel
theorem mk_cn (p : Nat → Bool) : mk p 4 = 0 ↔ cn p 4 = 0 := m4_cn _ _ _ _
theorem hm_step {Z : MI} {k : Nat} {w v : Int32} : (w ||| (if Z k 0 ≤ 0 then nI 0 else v)) = (w ||| (if bi (hasM Z k) = 0 then nI 0 else v)) := by
  unfold hasM
  by_cases h : Z k 0 ≤ 0
  · rw [if_pos h, decide_eq_false (fun q => q h)]; rfl
  · rw [if_neg h, decide_eq_true h]; rfl
def lref (o : Nat) (x : Option Nat) : Value := match x with
  | some l => .ref (o + 14 + l)
  | none => .null
section CL
variable {I : MI} {R : MR} {o : Nat} {Z : MI}
theorem sp_part (a p : Nat) (hs : Sk R 3 15 a p) {j w : Nat} (hj : j < 5) (hw : w < 3) : Spd mX3_part [.ref a, .int (nI j), .int (nI w)] I R (some (.int (I p (j * 3 + w)))) I := by
  have h := sp_X3_part (I := I) (F := I a) (P := I p) hs hj hw
  rw [SM_self] at h
  exact h
theorem sp_partsAt (a p : Nat) (hs : Sk R 3 15 a p) {j : Nat} (hj : j < 5) : Spd mX3_partsAt [.ref a, .int (nI j)] I R (some (.int (if I p (j * 3 + 2) = -5 then nI 2 else nI 3))) I := by
  have h := sp_X3_partsAt (I := I) (F := I a) (P := I p) hs hj
  rw [SM_self] at h
  exact h
theorem SJ.pv (h : SJ o I Z) {k q : Nat} (hk : k < 4) (h1 : ¬ Z k 0 = 0) (hq : q < 3) : I (o + 7 + 2 * k) (0 * 3 + q) = pVal Z k q := by
  obtain ⟨m, t, -, h2, -, -, -, h6⟩ := h.1 k hk
  have hm : 0 < m := Nat.pos_of_ne_zero (fun q => h1 (by rw [h2, q]; rfl))
  obtain ⟨⟨x, hx, hz, hp⟩, hp1, hp2⟩ := h6 0 hm
  unfold pVal
  rcases (show q = 0 ∨ q = 1 ∨ q = 2 by omega) with rfl | rfl | rfl
  · rw [if_pos rfl]
    refine hp.trans ?_
    rw [show Z k 7 = nI x from hz, show (2 : Int32) = nI 2 from rfl, pk_mul]
  · exact hp1
  · exact hp2
theorem SJ.tz (h : SJ o I Z) {k : Nat} (hk : k < 4) (ht : tk Z k = true) : ¬ Z k 0 = 0 := by
  obtain ⟨m, h1, h5, e⟩ := h.tm hk ht
  rw [e]
  exact nI_ne0 (by omega) (by omega)
theorem sp_speakerAt (hS : St R o) {k : Nat} (hk : k < 4) : Spd mX4_speakerAt [.ref o, .int (nI k)] I R (some (.ref (o + 6 + 2 * k))) I := by
  refine Spd.mk (by decide +kernel) (by simp [Value.category]) (Nat.le_of_ble_eq_true rfl) (fun g cx => ?_)
  refine x_iload_n dX4_speakerAt_0 rfl rfl ?_
  refine x_aload_n dX4_speakerAt_1 rfl rfl ?_
  refine x_getR fl_X4_11 dX4_speakerAt_2 hS.k0 hS.lt0 rfl hS.r0 ?_
  refine x_alen (v := nI 4) dX4_speakerAt_5 hS.k1 ⟨by decide, by decide⟩ (hS.lt (by omega)) (by rw [hS.l1]; rfl) ?_
  refine x_callSNd0 (mt' := mX5_isIndex) (sp_isIx _ 3 (by decide)) ktX5_isIndex wl_X4_78 (by decide) dX4_speakerAt_6 rfl rfl (Nat.le_of_ble_eq_true rfl) ⟨rfl, rfl⟩ (by decide) ?_
  refine x_if_eqF dX4_speakerAt_9 (fun q => bi_t q (inr_nat (by omega) (by omega) (by omega) (by omega))) ?_ 21 (by decide)
  refine x_aload_n dX4_speakerAt_12 rfl rfl ?_
  refine x_getR fl_X4_11 dX4_speakerAt_13 hS.k0 hS.lt0 rfl hS.r0 ?_
  refine x_iload_n dX4_speakerAt_16 rfl rfl ?_
  refine x_aald (j := k) (c := 10) ⟨by decide, by decide⟩ dX4_speakerAt_17 hS.k1 (hS.lt (by omega)) (nI_pos (by omega)) (nI_clamp (by omega)) (by rw [hS.l1]; omega) (hS.rs (by omega)) ?_
  refine x_goto 22 dX4_speakerAt_18 (by decide) ?_
  refine x_aret dX4_speakerAt_22 rfl (Or.inl ⟨_, rfl⟩) (Or.inr ⟨_, rfl⟩) (by decide) (by decide) ?_
  exact ⟨rfl, rfl, rfl, rfl⟩
theorem sp_speakerAtN (hS : St R o) {x : Int32} (hx : inr x (nI 0) (nI 3) = false) : Spd mX4_speakerAt [.ref o, .int x] I R (some .null) I := by
  refine Spd.mk (by decide +kernel) (by simp [Value.category]) (Nat.le_of_ble_eq_true rfl) (fun g cx => ?_)
  refine x_iload_n dX4_speakerAt_0 rfl rfl ?_
  refine x_aload_n dX4_speakerAt_1 rfl rfl ?_
  refine x_getR fl_X4_11 dX4_speakerAt_2 hS.k0 hS.lt0 rfl hS.r0 ?_
  refine x_alen (v := nI 4) dX4_speakerAt_5 hS.k1 ⟨by decide, by decide⟩ (hS.lt (by omega)) (by rw [hS.l1]; rfl) ?_
  refine x_callSNd0 (mt' := mX5_isIndex) (sp_isIx _ 3 (by decide)) ktX5_isIndex wl_X4_78 (by decide) dX4_speakerAt_6 rfl rfl (Nat.le_of_ble_eq_true rfl) ⟨rfl, rfl⟩ (by decide) ?_
  refine x_if_eqT 21 dX4_speakerAt_9 (by decide) (bi_0.mpr hx) ?_
  refine x_null dX4_speakerAt_21 ?_
  refine x_aret dX4_speakerAt_22 rfl (Or.inl ⟨_, rfl⟩) (Or.inl rfl) (by decide) (by decide) ?_
  exact ⟨rfl, rfl, rfl, rfl⟩
theorem sp_listenerAt (hS : St R o) {k : Nat} (hk : k < 4) : Spd mX4_listenerAt [.ref o, .int (nI k)] I R (some (.ref (o + 14 + k))) I := by
  refine Spd.mk (by decide +kernel) (by simp [Value.category]) (Nat.le_of_ble_eq_true rfl) (fun g cx => ?_)
  refine x_iload_n dX4_listenerAt_0 rfl rfl ?_
  refine x_aload_n dX4_listenerAt_1 rfl rfl ?_
  refine x_getR fl_X4_19 dX4_listenerAt_2 hS.k0 hS.lt0 rfl hS.r1 ?_
  refine x_alen (v := nI 4) dX4_listenerAt_5 hS.k2 ⟨by decide, by decide⟩ (hS.lt (by omega)) (by rw [hS.l2]; rfl) ?_
  refine x_callSNd0 (mt' := mX5_isIndex) (sp_isIx _ 3 (by decide)) ktX5_isIndex wl_X4_78 (by decide) dX4_listenerAt_6 rfl rfl (Nat.le_of_ble_eq_true rfl) ⟨rfl, rfl⟩ (by decide) ?_
  refine x_if_eqF dX4_listenerAt_9 (fun q => bi_t q (inr_nat (by omega) (by omega) (by omega) (by omega))) ?_ 21 (by decide)
  refine x_aload_n dX4_listenerAt_12 rfl rfl ?_
  refine x_getR fl_X4_19 dX4_listenerAt_13 hS.k0 hS.lt0 rfl hS.r1 ?_
  refine x_iload_n dX4_listenerAt_16 rfl rfl ?_
  refine x_aald (j := k) (c := 9) ⟨by decide, by decide⟩ dX4_listenerAt_17 hS.k2 (hS.lt (by omega)) (nI_pos (by omega)) (nI_clamp (by omega)) (by rw [hS.l2]; omega) (hS.rl (by omega)) ?_
  refine x_goto 22 dX4_listenerAt_18 (by decide) ?_
  refine x_aret dX4_listenerAt_22 rfl (Or.inl ⟨_, rfl⟩) (Or.inr ⟨_, rfl⟩) (by decide) (by decide) ?_
  exact ⟨rfl, rfl, rfl, rfl⟩
theorem sp_listenerAtN (hS : St R o) {x : Int32} (hx : inr x (nI 0) (nI 3) = false) : Spd mX4_listenerAt [.ref o, .int x] I R (some .null) I := by
  refine Spd.mk (by decide +kernel) (by simp [Value.category]) (Nat.le_of_ble_eq_true rfl) (fun g cx => ?_)
  refine x_iload_n dX4_listenerAt_0 rfl rfl ?_
  refine x_aload_n dX4_listenerAt_1 rfl rfl ?_
  refine x_getR fl_X4_19 dX4_listenerAt_2 hS.k0 hS.lt0 rfl hS.r1 ?_
  refine x_alen (v := nI 4) dX4_listenerAt_5 hS.k2 ⟨by decide, by decide⟩ (hS.lt (by omega)) (by rw [hS.l2]; rfl) ?_
  refine x_callSNd0 (mt' := mX5_isIndex) (sp_isIx _ 3 (by decide)) ktX5_isIndex wl_X4_78 (by decide) dX4_listenerAt_6 rfl rfl (Nat.le_of_ble_eq_true rfl) ⟨rfl, rfl⟩ (by decide) ?_
  refine x_if_eqT 21 dX4_listenerAt_9 (by decide) (bi_0.mpr hx) ?_
  refine x_null dX4_listenerAt_21 ?_
  refine x_aret dX4_listenerAt_22 rfl (Or.inl ⟨_, rfl⟩) (Or.inl rfl) (by decide) (by decide) ?_
  exact ⟨rfl, rfl, rfl, rfl⟩
theorem sp_setting (hS : St R o) (hJ : SJ o I Z) {w : Nat} (hw : w < 3) : Spd mX4_setting [.ref o, .int (nI w)] I R (some (.int (Z 8 w))) I := by
  refine Spd.mk (by decide +kernel) (by simp [Value.category]) (Nat.le_of_ble_eq_true rfl) (fun g cx => ?_)
  refine x_iload_n dX4_setting_0 rfl rfl ?_
  refine x_aload_n dX4_setting_1 rfl rfl ?_
  refine x_getR fl_X4_23 dX4_setting_2 hS.k0 hS.lt0 rfl hS.r2 ?_
  refine x_alen (v := nI 3) dX4_setting_5 hS.k3 ⟨by decide, by decide⟩ (hS.lt (by omega)) (by rw [hS.l3]; rfl) ?_
  refine x_callSNd0 (mt' := mX5_isIndex) (sp_isIx _ 2 (by decide)) ktX5_isIndex wl_X4_78 (by decide) dX4_setting_6 rfl rfl (Nat.le_of_ble_eq_true rfl) ⟨rfl, rfl⟩ (by decide) ?_
  refine x_if_eqF dX4_setting_9 (fun q => bi_t q (inr_nat (by omega) (by omega) (by omega) (by omega))) ?_ 21 (by decide)
  refine x_aload_n dX4_setting_12 rfl rfl ?_
  refine x_getR fl_X4_23 dX4_setting_13 hS.k0 hS.lt0 rfl hS.r2 ?_
  refine x_iload_n dX4_setting_16 rfl rfl ?_
  refine x_iald (j := w) dX4_setting_17 hS.k3 (hS.lt (by omega)) (nI_pos (by omega)) (nI_clamp (by omega)) (by rw [hS.l3]; exact hw) (x_eqtop (hJ.se hw) ?_)
  refine x_goto 22 dX4_setting_18 (by decide) ?_
  refine x_iret dX4_setting_22 rfl (by decide) (by decide) ?_
  exact ⟨rfl, rfl, rfl, rfl⟩
theorem sp_cameFrom (hS : St R o) (hJ : SJ o I Z) {k : Nat} (hk : k < 4) : Spd mX4_cameFrom [.ref o, .int (nI k)] I R (some (.int (Z k 2))) I := by
  refine Spd.mk (by decide +kernel) (by simp [Value.category]) (Nat.le_of_ble_eq_true rfl) (fun g cx => ?_)
  refine x_iload_n dX4_cameFrom_0 rfl rfl ?_
  refine x_aload_n dX4_cameFrom_1 rfl rfl ?_
  refine x_getR fl_X4_11 dX4_cameFrom_2 hS.k0 hS.lt0 rfl hS.r0 ?_
  refine x_alen (v := nI 4) dX4_cameFrom_5 hS.k1 ⟨by decide, by decide⟩ (hS.lt (by omega)) (by rw [hS.l1]; rfl) ?_
  refine x_callSNd0 (mt' := mX5_isIndex) (sp_isIx _ 3 (by decide)) ktX5_isIndex wl_X4_78 (by decide) dX4_cameFrom_6 rfl rfl (Nat.le_of_ble_eq_true rfl) ⟨rfl, rfl⟩ (by decide) ?_
  refine x_if_eqF dX4_cameFrom_9 (fun q => bi_t q (inr_nat (by omega) (by omega) (by omega) (by omega))) ?_ 24 (by decide)
  refine x_aload_n dX4_cameFrom_12 rfl rfl ?_
  refine x_getR fl_X4_11 dX4_cameFrom_13 hS.k0 hS.lt0 rfl hS.r0 ?_
  refine x_iload_n dX4_cameFrom_16 rfl rfl ?_
  refine x_aald (j := k) (c := 10) ⟨by decide, by decide⟩ dX4_cameFrom_17 hS.k1 (hS.lt (by omega)) (nI_pos (by omega)) (nI_clamp (by omega)) (by rw [hS.l1]; omega) (hS.rs (by omega)) ?_
  refine x_getI fl_X4_208 dX4_cameFrom_18 (hS.ks (by omega)) (hS.lts (by omega)) rfl (x_eqtop (y := Z _ 2) (hJ.sp (w := 2) (by omega) (by omega)) ?_)
  refine x_goto 25 dX4_cameFrom_21 (by decide) ?_
  refine x_iret dX4_cameFrom_25 rfl (by decide) (by decide) ?_
  exact ⟨rfl, rfl, rfl, rfl⟩
theorem lp_talkers (hS : St R o) (hJ : SJ o I Z) {g : GX} {cx : CX} {F : State → Prop} : ∀ (m k : Nat), k + m = 4 → (X g cx mX4_talkers F (0, 0) 41 [some (.ref o), some (.int (mk (tk Z) 4)), some (.int (nI 4))] [] 131 I R) → X g cx mX4_talkers F (0, 0) 4 [some (.ref o), some (.int (mk (tk Z) k)), some (.int (nI k))] [] 131 I R := by
  intro m
  induction m with
  | zero =>
    intro k  hk hx
    obtain rfl : k = 4 := by omega
    refine x_iload_n dX4_talkers_4 rfl rfl ?_
    refine x_aload_n dX4_talkers_5 rfl rfl ?_
    refine x_getR fl_X4_11 dX4_talkers_6 hS.k0 hS.lt0 rfl hS.r0 ?_
    refine x_alen (v := nI 4) dX4_talkers_9 hS.k1 ⟨by decide, by decide⟩ (hS.lt (by omega)) (by rw [hS.l1]; rfl) ?_
    refine x_icmp_geN 41 dX4_talkers_10 (by decide) (by omega) (by omega) (fun c10 => ?_) (fun c10 => ?_)
    · skip
      exact hx
    · skip
      exact absurd c10 (by omega)
  | succ m ih =>
    intro k  hk hx
    refine x_iload_n dX4_talkers_4 rfl rfl ?_
    refine x_aload_n dX4_talkers_5 rfl rfl ?_
    refine x_getR fl_X4_11 dX4_talkers_6 hS.k0 hS.lt0 rfl hS.r0 ?_
    refine x_alen (v := nI 4) dX4_talkers_9 hS.k1 ⟨by decide, by decide⟩ (hS.lt (by omega)) (by rw [hS.l1]; rfl) ?_
    refine x_icmp_geN 41 dX4_talkers_10 (by decide) (by omega) (by omega) (fun c10 => ?_) (fun c10 => ?_)
    · skip
      exact absurd c10 (by omega)
    · skip
      refine x_iload_n dX4_talkers_13 rfl rfl ?_
      refine x_aload_n dX4_talkers_14 rfl rfl ?_
      refine x_getR fl_X4_11 dX4_talkers_15 hS.k0 hS.lt0 rfl hS.r0 ?_
      refine x_iload_n dX4_talkers_18 rfl rfl ?_
      refine x_aald (j := k) (c := 10) ⟨by decide, by decide⟩ dX4_talkers_19 hS.k1 (hS.lt (by omega)) (nI_pos (by omega)) (nI_clamp (by omega)) (by rw [hS.l1]; omega) (hS.rs (by omega)) ?_
      refine x_getI fl_X4_89 dX4_talkers_20 (hS.ks (by omega)) (hS.lts (by omega)) rfl (x_eqtop (y := bi (tk Z _)) ((hJ.sp (w := 1) (by omega) (by omega)).trans (hJ.tb (by omega))) ?_)
      refine' x_dia_if_eq 32 33 dX4_talkers_23 (by decide) ?_ ?_ ?_; rotate_left 2
      · intro c23 k23
        refine x_iconst (nI 1) dX4_talkers_26 (by decide) ?_
        refine x_iload_n dX4_talkers_27 rfl rfl ?_
        refine x_ishl dX4_talkers_28 ?_
        refine x_goto 33 dX4_talkers_29 (by decide) ?_
        exact k23
      · intro c23 k23
        refine x_iconst (nI 0) dX4_talkers_32 (by decide) ?_
        exact k23
      refine x_ior dX4_talkers_33 ?_
      refine x_eqtop mk_step ?_
      refine x_istore_n dX4_talkers_34 rfl (by decide) ?_
      refine x_iincN 1 dX4_talkers_35 rfl (by decide) (by decide) ?_
      refine x_goto 4 dX4_talkers_38 (by decide) ?_
      exact ih (k + 1) (by omega) hx
theorem lp_speakersWithMessage (hS : St R o) (hJ : SJ o I Z) {g : GX} {cx : CX} {F : State → Prop} : ∀ (m k : Nat), k + m = 4 → (X g cx mX4_speakersWithMessage F (0, 0) 41 [some (.ref o), some (.int (mk (hasM Z) 4)), some (.int (nI 4))] [] 131 I R) → X g cx mX4_speakersWithMessage F (0, 0) 4 [some (.ref o), some (.int (mk (hasM Z) k)), some (.int (nI k))] [] 131 I R := by
  intro m
  induction m with
  | zero =>
    intro k  hk hx
    obtain rfl : k = 4 := by omega
    refine x_iload_n dX4_speakersWithMessage_4 rfl rfl ?_
    refine x_aload_n dX4_speakersWithMessage_5 rfl rfl ?_
    refine x_getR fl_X4_11 dX4_speakersWithMessage_6 hS.k0 hS.lt0 rfl hS.r0 ?_
    refine x_alen (v := nI 4) dX4_speakersWithMessage_9 hS.k1 ⟨by decide, by decide⟩ (hS.lt (by omega)) (by rw [hS.l1]; rfl) ?_
    refine x_icmp_geN 41 dX4_speakersWithMessage_10 (by decide) (by omega) (by omega) (fun c10 => ?_) (fun c10 => ?_)
    · skip
      exact hx
    · skip
      exact absurd c10 (by omega)
  | succ m ih =>
    intro k  hk hx
    refine x_iload_n dX4_speakersWithMessage_4 rfl rfl ?_
    refine x_aload_n dX4_speakersWithMessage_5 rfl rfl ?_
    refine x_getR fl_X4_11 dX4_speakersWithMessage_6 hS.k0 hS.lt0 rfl hS.r0 ?_
    refine x_alen (v := nI 4) dX4_speakersWithMessage_9 hS.k1 ⟨by decide, by decide⟩ (hS.lt (by omega)) (by rw [hS.l1]; rfl) ?_
    refine x_icmp_geN 41 dX4_speakersWithMessage_10 (by decide) (by omega) (by omega) (fun c10 => ?_) (fun c10 => ?_)
    · skip
      exact absurd c10 (by omega)
    · skip
      refine x_iload_n dX4_speakersWithMessage_13 rfl rfl ?_
      refine x_aload_n dX4_speakersWithMessage_14 rfl rfl ?_
      refine x_getR fl_X4_11 dX4_speakersWithMessage_15 hS.k0 hS.lt0 rfl hS.r0 ?_
      refine x_iload_n dX4_speakersWithMessage_18 rfl rfl ?_
      refine x_aald (j := k) (c := 10) ⟨by decide, by decide⟩ dX4_speakersWithMessage_19 hS.k1 (hS.lt (by omega)) (nI_pos (by omega)) (nI_clamp (by omega)) (by rw [hS.l1]; omega) (hS.rs (by omega)) ?_
      refine x_getI fl_X4_82 dX4_speakersWithMessage_20 (hS.ks (by omega)) (hS.lts (by omega)) rfl (x_eqtop (y := Z _ 0) (hJ.sp (w := 0) (by omega) (by omega)) ?_)
      refine' x_dia_if_le 32 33 dX4_speakersWithMessage_23 (by decide) ?_ ?_ ?_; rotate_left 2
      · intro c23 k23
        refine x_iconst (nI 1) dX4_speakersWithMessage_26 (by decide) ?_
        refine x_iload_n dX4_speakersWithMessage_27 rfl rfl ?_
        refine x_ishl dX4_speakersWithMessage_28 ?_
        refine x_goto 33 dX4_speakersWithMessage_29 (by decide) ?_
        exact k23
      · intro c23 k23
        refine x_iconst (nI 0) dX4_speakersWithMessage_32 (by decide) ?_
        exact k23
      refine x_ior dX4_speakersWithMessage_33 ?_
      refine x_eqtop (hm_step.trans mk_step) ?_
      refine x_istore_n dX4_speakersWithMessage_34 rfl (by decide) ?_
      refine x_iincN 1 dX4_speakersWithMessage_35 rfl (by decide) (by decide) ?_
      refine x_goto 4 dX4_speakersWithMessage_38 (by decide) ?_
      exact ih (k + 1) (by omega) hx
theorem lp_messagesInLines (hS : St R o) (hJ : SJ o I Z) {g : GX} {cx : CX} {F : State → Prop} : ∀ (m k : Nat) (u0 : Option Value), k + m = 4 → (∀ (u0 : Option Value), X g cx mX4_messagesInLines F (0, 0) 39 [some (.ref o), some (.int (sm (fun j => Z j 0) 4)), some (.ref (o + 1)), some (.int (nI 4)), some (.int (nI 4)), u0] [] 131 I R) → X g cx mX4_messagesInLines F (0, 0) 13 [some (.ref o), some (.int (sm (fun j => Z j 0) k)), some (.ref (o + 1)), some (.int (nI 4)), some (.int (nI k)), u0] [] 131 I R := by
  intro m
  induction m with
  | zero =>
    intro k u0 hk hx
    obtain rfl : k = 4 := by omega
    refine x_iload dX4_messagesInLines_13 rfl ?_
    refine x_iload_n dX4_messagesInLines_15 rfl rfl ?_
    refine x_icmp_geN 39 dX4_messagesInLines_16 (by decide) (by omega) (by omega) (fun c16 => ?_) (fun c16 => ?_)
    · skip
      exact hx _
    · skip
      exact absurd c16 (by omega)
  | succ m ih =>
    intro k u0 hk hx
    refine x_iload dX4_messagesInLines_13 rfl ?_
    refine x_iload_n dX4_messagesInLines_15 rfl rfl ?_
    refine x_icmp_geN 39 dX4_messagesInLines_16 (by decide) (by omega) (by omega) (fun c16 => ?_) (fun c16 => ?_)
    · skip
      exact absurd c16 (by omega)
    · skip
      refine x_aload_n dX4_messagesInLines_19 rfl rfl ?_
      refine x_iload dX4_messagesInLines_20 rfl ?_
      refine x_aald (j := k) (c := 10) ⟨by decide, by decide⟩ dX4_messagesInLines_22 hS.k1 (hS.lt (by omega)) (nI_pos (by omega)) (nI_clamp (by omega)) (by rw [hS.l1]; omega) (hS.rs (by omega)) ?_
      refine x_astore dX4_messagesInLines_23 (by decide) ?_
      refine x_iload_n dX4_messagesInLines_25 rfl rfl ?_
      refine x_aload dX4_messagesInLines_26 rfl ?_
      refine x_getI fl_X4_82 dX4_messagesInLines_28 (hS.ks (by omega)) (hS.lts (by omega)) rfl (x_eqtop (y := Z _ 0) (hJ.sp (w := 0) (by omega) (by omega)) ?_)
      refine x_iadd dX4_messagesInLines_31 ?_
      refine x_istore_n dX4_messagesInLines_32 rfl (by decide) ?_
      refine x_iincN 1 dX4_messagesInLines_33 rfl (by decide) (by decide) ?_
      refine x_goto 13 dX4_messagesInLines_36 (by decide) ?_
      exact ih (k + 1) _ (by omega) hx
theorem lp_messagesThatCame (hS : St R o) (hJ : SJ o I Z) {g : GX} {cx : CX} {F : State → Prop} : ∀ (m k : Nat) (u0 : Option Value), k + m = 4 → (∀ (u0 : Option Value), X g cx mX4_messagesThatCame F (0, 0) 39 [some (.ref o), some (.int (sm (fun j => Z j 2) 4)), some (.ref (o + 1)), some (.int (nI 4)), some (.int (nI 4)), u0] [] 131 I R) → X g cx mX4_messagesThatCame F (0, 0) 13 [some (.ref o), some (.int (sm (fun j => Z j 2) k)), some (.ref (o + 1)), some (.int (nI 4)), some (.int (nI k)), u0] [] 131 I R := by
  intro m
  induction m with
  | zero =>
    intro k u0 hk hx
    obtain rfl : k = 4 := by omega
    refine x_iload dX4_messagesThatCame_13 rfl ?_
    refine x_iload_n dX4_messagesThatCame_15 rfl rfl ?_
    refine x_icmp_geN 39 dX4_messagesThatCame_16 (by decide) (by omega) (by omega) (fun c16 => ?_) (fun c16 => ?_)
    · skip
      exact hx _
    · skip
      exact absurd c16 (by omega)
  | succ m ih =>
    intro k u0 hk hx
    refine x_iload dX4_messagesThatCame_13 rfl ?_
    refine x_iload_n dX4_messagesThatCame_15 rfl rfl ?_
    refine x_icmp_geN 39 dX4_messagesThatCame_16 (by decide) (by omega) (by omega) (fun c16 => ?_) (fun c16 => ?_)
    · skip
      exact absurd c16 (by omega)
    · skip
      refine x_aload_n dX4_messagesThatCame_19 rfl rfl ?_
      refine x_iload dX4_messagesThatCame_20 rfl ?_
      refine x_aald (j := k) (c := 10) ⟨by decide, by decide⟩ dX4_messagesThatCame_22 hS.k1 (hS.lt (by omega)) (nI_pos (by omega)) (nI_clamp (by omega)) (by rw [hS.l1]; omega) (hS.rs (by omega)) ?_
      refine x_astore dX4_messagesThatCame_23 (by decide) ?_
      refine x_iload_n dX4_messagesThatCame_25 rfl rfl ?_
      refine x_aload dX4_messagesThatCame_26 rfl ?_
      refine x_getI fl_X4_208 dX4_messagesThatCame_28 (hS.ks (by omega)) (hS.lts (by omega)) rfl (x_eqtop (y := Z _ 2) (hJ.sp (w := 2) (by omega) (by omega)) ?_)
      refine x_iadd dX4_messagesThatCame_31 ?_
      refine x_istore_n dX4_messagesThatCame_32 rfl (by decide) ?_
      refine x_iincN 1 dX4_messagesThatCame_33 rfl (by decide) (by decide) ?_
      refine x_goto 13 dX4_messagesThatCame_36 (by decide) ?_
      exact ih (k + 1) _ (by omega) hx
theorem lp_stuckListeners (hS : St R o) (hJ : SJ o I Z) {g : GX} {cx : CX} {F : State → Prop} : ∀ (m k : Nat) (u0 : Option Value), k + m = 4 → (∀ (u0 : Option Value), X g cx mX4_stuckListeners F (0, 0) 47 [some (.ref o), some (.int (nI (cn (stu Z) 4))), some (.ref (o + 2)), some (.int (nI 4)), some (.int (nI 4)), u0] [] 131 I R) → X g cx mX4_stuckListeners F (0, 0) 13 [some (.ref o), some (.int (nI (cn (stu Z) k))), some (.ref (o + 2)), some (.int (nI 4)), some (.int (nI k)), u0] [] 131 I R := by
  intro m
  induction m with
  | zero =>
    intro k u0 hk hx
    obtain rfl : k = 4 := by omega
    refine x_iload dX4_stuckListeners_13 rfl ?_
    refine x_iload_n dX4_stuckListeners_15 rfl rfl ?_
    refine x_icmp_geN 47 dX4_stuckListeners_16 (by decide) (by omega) (by omega) (fun c16 => ?_) (fun c16 => ?_)
    · skip
      exact hx _
    · skip
      exact absurd c16 (by omega)
  | succ m ih =>
    intro k u0 hk hx
    refine x_iload dX4_stuckListeners_13 rfl ?_
    refine x_iload_n dX4_stuckListeners_15 rfl rfl ?_
    refine x_icmp_geN 47 dX4_stuckListeners_16 (by decide) (by omega) (by omega) (fun c16 => ?_) (fun c16 => ?_)
    · skip
      exact absurd c16 (by omega)
    · skip
      refine x_aload_n dX4_stuckListeners_19 rfl rfl ?_
      refine x_iload dX4_stuckListeners_20 rfl ?_
      refine x_aald (j := k) (c := 9) ⟨by decide, by decide⟩ dX4_stuckListeners_22 hS.k2 (hS.lt (by omega)) (nI_pos (by omega)) (nI_clamp (by omega)) (by rw [hS.l2]; omega) (hS.rl (by omega)) ?_
      refine x_astore dX4_stuckListeners_23 (by decide) ?_
      refine x_iload_n dX4_stuckListeners_25 rfl rfl ?_
      refine x_aload dX4_stuckListeners_26 rfl ?_
      refine x_getI fl_X4_113 dX4_stuckListeners_28 (hS.kl (by omega)) (hS.ltl (by omega)) rfl (x_eqtop (y := Z (4 + _) 2) (hJ.ls (w := 2) (by omega) (by omega)) ?_)
      refine' x_dia_if_le 38 39 dX4_stuckListeners_31 (by decide) ?_ ?_ ?_; rotate_left 2
      · intro c31 k31
        refine x_iconst (nI 1) dX4_stuckListeners_34 (by decide) ?_
        refine x_goto 39 dX4_stuckListeners_35 (by decide) ?_
        exact k31
      · intro c31 k31
        refine x_iconst (nI 0) dX4_stuckListeners_38 (by decide) ?_
        exact k31
      refine x_iadd dX4_stuckListeners_39 ?_
      refine x_eqtop (y := nI (cn (stu Z) (k + 1))) (st_add _ _) ?_
      refine x_istore_n dX4_stuckListeners_40 rfl (by decide) ?_
      refine x_iincN 1 dX4_stuckListeners_41 rfl (by decide) (by decide) ?_
      refine x_goto 13 dX4_stuckListeners_44 (by decide) ?_
      exact ih (k + 1) _ (by omega) hx
theorem lp_listenersWithAddress (hS : St R o) (hJ : SJ o I Z) {g : GX} {cx : CX} {F : State → Prop} : ∀ (m k : Nat) (u0 : Option Value), k + m = 4 → (∀ (u0 : Option Value), X g cx mX4_listenersWithAddress F (0, 0) 49 [some (.ref o), some (.int (nI (cn (ads Z) 4))), some (.ref (o + 2)), some (.int (nI 4)), some (.int (nI 4)), u0] [] 131 I R) → X g cx mX4_listenersWithAddress F (0, 0) 13 [some (.ref o), some (.int (nI (cn (ads Z) k))), some (.ref (o + 2)), some (.int (nI 4)), some (.int (nI k)), u0] [] 131 I R := by
  intro m
  induction m with
  | zero =>
    intro k u0 hk hx
    obtain rfl : k = 4 := by omega
    refine x_iload dX4_listenersWithAddress_13 rfl ?_
    refine x_iload_n dX4_listenersWithAddress_15 rfl rfl ?_
    refine x_icmp_geN 49 dX4_listenersWithAddress_16 (by decide) (by omega) (by omega) (fun c16 => ?_) (fun c16 => ?_)
    · skip
      exact hx _
    · skip
      exact absurd c16 (by omega)
  | succ m ih =>
    intro k u0 hk hx
    refine x_iload dX4_listenersWithAddress_13 rfl ?_
    refine x_iload_n dX4_listenersWithAddress_15 rfl rfl ?_
    refine x_icmp_geN 49 dX4_listenersWithAddress_16 (by decide) (by omega) (by omega) (fun c16 => ?_) (fun c16 => ?_)
    · skip
      exact absurd c16 (by omega)
    · skip
      refine x_aload_n dX4_listenersWithAddress_19 rfl rfl ?_
      refine x_iload dX4_listenersWithAddress_20 rfl ?_
      refine x_aald (j := k) (c := 9) ⟨by decide, by decide⟩ dX4_listenersWithAddress_22 hS.k2 (hS.lt (by omega)) (nI_pos (by omega)) (nI_clamp (by omega)) (by rw [hS.l2]; omega) (hS.rl (by omega)) ?_
      refine x_astore dX4_listenersWithAddress_23 (by decide) ?_
      refine x_iload_n dX4_listenersWithAddress_25 rfl rfl ?_
      refine x_aload dX4_listenersWithAddress_26 rfl ?_
      refine x_getI fl_X4_103 dX4_listenersWithAddress_28 (hS.kl (by omega)) (hS.ltl (by omega)) rfl (x_eqtop (y := Z (4 + _) 0) (hJ.ls (w := 0) (by omega) (by omega)) ?_)
      refine x_bipush (-5) dX4_listenersWithAddress_31 (by decide) ?_
      refine' x_dia_icmp_ne 40 41 dX4_listenersWithAddress_33 (by decide) ?_ ?_ ?_; rotate_left 2
      · intro c33 k33
        refine x_iconst (nI 0) dX4_listenersWithAddress_36 (by decide) ?_
        refine x_goto 41 dX4_listenersWithAddress_37 (by decide) ?_
        exact k33
      · intro c33 k33
        refine x_iconst (nI 1) dX4_listenersWithAddress_40 (by decide) ?_
        exact k33
      refine x_iadd dX4_listenersWithAddress_41 ?_
      refine x_eqtop (y := nI (cn (ads Z) (k + 1))) (ad_add _ _ _) ?_
      refine x_istore_n dX4_listenersWithAddress_42 rfl (by decide) ?_
      refine x_iincN 1 dX4_listenersWithAddress_43 rfl (by decide) (by decide) ?_
      refine x_goto 13 dX4_listenersWithAddress_46 (by decide) ?_
      exact ih (k + 1) _ (by omega) hx
theorem sp_talkers (hS : St R o) (hJ : SJ o I Z) : Spd mX4_talkers [.ref o] I R (some (.int (mk (tk Z) 4))) I := by
  refine Spd.mk (by decide +kernel) (by simp [Value.category]) (Nat.le_of_ble_eq_true rfl) (fun g cx => ?_)
  refine x_iconst (nI 0) dX4_talkers_0 (by decide) ?_
  refine x_istore_n dX4_talkers_1 rfl (by decide) ?_
  refine x_iconst (nI 0) dX4_talkers_2 (by decide) ?_
  refine x_istore_n dX4_talkers_3 rfl (by decide) ?_
  refine lp_talkers hS hJ 4 0 rfl ?_
  refine x_iload_n dX4_talkers_41 rfl rfl ?_
  refine x_iret dX4_talkers_42 rfl (by decide) (by decide) ?_
  exact ⟨rfl, rfl, rfl, rfl⟩
theorem sp_speakersWithMessage (hS : St R o) (hJ : SJ o I Z) : Spd mX4_speakersWithMessage [.ref o] I R (some (.int (mk (hasM Z) 4))) I := by
  refine Spd.mk (by decide +kernel) (by simp [Value.category]) (Nat.le_of_ble_eq_true rfl) (fun g cx => ?_)
  refine x_iconst (nI 0) dX4_speakersWithMessage_0 (by decide) ?_
  refine x_istore_n dX4_speakersWithMessage_1 rfl (by decide) ?_
  refine x_iconst (nI 0) dX4_speakersWithMessage_2 (by decide) ?_
  refine x_istore_n dX4_speakersWithMessage_3 rfl (by decide) ?_
  refine lp_speakersWithMessage hS hJ 4 0 rfl ?_
  refine x_iload_n dX4_speakersWithMessage_41 rfl rfl ?_
  refine x_iret dX4_speakersWithMessage_42 rfl (by decide) (by decide) ?_
  exact ⟨rfl, rfl, rfl, rfl⟩
theorem sp_messagesInLines (hS : St R o) (hJ : SJ o I Z) : Spd mX4_messagesInLines [.ref o] I R (some (.int (sm (fun j => Z j 0) 4))) I := by
  refine Spd.mk (by decide +kernel) (by simp [Value.category]) (Nat.le_of_ble_eq_true rfl) (fun g cx => ?_)
  refine x_iconst (nI 0) dX4_messagesInLines_0 (by decide) ?_
  refine x_istore_n dX4_messagesInLines_1 rfl (by decide) ?_
  refine x_aload_n dX4_messagesInLines_2 rfl rfl ?_
  refine x_getR fl_X4_11 dX4_messagesInLines_3 hS.k0 hS.lt0 rfl hS.r0 ?_
  refine x_astore_n dX4_messagesInLines_6 rfl (by decide) ?_
  refine x_aload_n dX4_messagesInLines_7 rfl rfl ?_
  refine x_alen (v := nI 4) dX4_messagesInLines_8 hS.k1 ⟨by decide, by decide⟩ (hS.lt (by omega)) (by rw [hS.l1]; rfl) ?_
  refine x_istore_n dX4_messagesInLines_9 rfl (by decide) ?_
  refine x_iconst (nI 0) dX4_messagesInLines_10 (by decide) ?_
  refine x_istore dX4_messagesInLines_11 (by decide) ?_
  refine lp_messagesInLines hS hJ 4 0 _ rfl (fun u => ?_)
  refine x_iload_n dX4_messagesInLines_39 rfl rfl ?_
  refine x_iret dX4_messagesInLines_40 rfl (by decide) (by decide) ?_
  exact ⟨rfl, rfl, rfl, rfl⟩
theorem sp_messagesThatCame (hS : St R o) (hJ : SJ o I Z) : Spd mX4_messagesThatCame [.ref o] I R (some (.int (sm (fun j => Z j 2) 4))) I := by
  refine Spd.mk (by decide +kernel) (by simp [Value.category]) (Nat.le_of_ble_eq_true rfl) (fun g cx => ?_)
  refine x_iconst (nI 0) dX4_messagesThatCame_0 (by decide) ?_
  refine x_istore_n dX4_messagesThatCame_1 rfl (by decide) ?_
  refine x_aload_n dX4_messagesThatCame_2 rfl rfl ?_
  refine x_getR fl_X4_11 dX4_messagesThatCame_3 hS.k0 hS.lt0 rfl hS.r0 ?_
  refine x_astore_n dX4_messagesThatCame_6 rfl (by decide) ?_
  refine x_aload_n dX4_messagesThatCame_7 rfl rfl ?_
  refine x_alen (v := nI 4) dX4_messagesThatCame_8 hS.k1 ⟨by decide, by decide⟩ (hS.lt (by omega)) (by rw [hS.l1]; rfl) ?_
  refine x_istore_n dX4_messagesThatCame_9 rfl (by decide) ?_
  refine x_iconst (nI 0) dX4_messagesThatCame_10 (by decide) ?_
  refine x_istore dX4_messagesThatCame_11 (by decide) ?_
  refine lp_messagesThatCame hS hJ 4 0 _ rfl (fun u => ?_)
  refine x_iload_n dX4_messagesThatCame_39 rfl rfl ?_
  refine x_iret dX4_messagesThatCame_40 rfl (by decide) (by decide) ?_
  exact ⟨rfl, rfl, rfl, rfl⟩
theorem sp_stuckListeners (hS : St R o) (hJ : SJ o I Z) : Spd mX4_stuckListeners [.ref o] I R (some (.int (nI (cn (stu Z) 4)))) I := by
  refine Spd.mk (by decide +kernel) (by simp [Value.category]) (Nat.le_of_ble_eq_true rfl) (fun g cx => ?_)
  refine x_iconst (nI 0) dX4_stuckListeners_0 (by decide) ?_
  refine x_istore_n dX4_stuckListeners_1 rfl (by decide) ?_
  refine x_aload_n dX4_stuckListeners_2 rfl rfl ?_
  refine x_getR fl_X4_19 dX4_stuckListeners_3 hS.k0 hS.lt0 rfl hS.r1 ?_
  refine x_astore_n dX4_stuckListeners_6 rfl (by decide) ?_
  refine x_aload_n dX4_stuckListeners_7 rfl rfl ?_
  refine x_alen (v := nI 4) dX4_stuckListeners_8 hS.k2 ⟨by decide, by decide⟩ (hS.lt (by omega)) (by rw [hS.l2]; rfl) ?_
  refine x_istore_n dX4_stuckListeners_9 rfl (by decide) ?_
  refine x_iconst (nI 0) dX4_stuckListeners_10 (by decide) ?_
  refine x_istore dX4_stuckListeners_11 (by decide) ?_
  refine lp_stuckListeners hS hJ 4 0 _ rfl (fun u => ?_)
  refine x_iload_n dX4_stuckListeners_47 rfl rfl ?_
  refine x_iret dX4_stuckListeners_48 rfl (by decide) (by decide) ?_
  exact ⟨rfl, rfl, rfl, rfl⟩
theorem sp_listenersWithAddress (hS : St R o) (hJ : SJ o I Z) : Spd mX4_listenersWithAddress [.ref o] I R (some (.int (nI (cn (ads Z) 4)))) I := by
  refine Spd.mk (by decide +kernel) (by simp [Value.category]) (Nat.le_of_ble_eq_true rfl) (fun g cx => ?_)
  refine x_iconst (nI 0) dX4_listenersWithAddress_0 (by decide) ?_
  refine x_istore_n dX4_listenersWithAddress_1 rfl (by decide) ?_
  refine x_aload_n dX4_listenersWithAddress_2 rfl rfl ?_
  refine x_getR fl_X4_19 dX4_listenersWithAddress_3 hS.k0 hS.lt0 rfl hS.r1 ?_
  refine x_astore_n dX4_listenersWithAddress_6 rfl (by decide) ?_
  refine x_aload_n dX4_listenersWithAddress_7 rfl rfl ?_
  refine x_alen (v := nI 4) dX4_listenersWithAddress_8 hS.k2 ⟨by decide, by decide⟩ (hS.lt (by omega)) (by rw [hS.l2]; rfl) ?_
  refine x_istore_n dX4_listenersWithAddress_9 rfl (by decide) ?_
  refine x_iconst (nI 0) dX4_listenersWithAddress_10 (by decide) ?_
  refine x_istore dX4_listenersWithAddress_11 (by decide) ?_
  refine lp_listenersWithAddress hS hJ 4 0 _ rfl (fun u => ?_)
  refine x_iload_n dX4_listenersWithAddress_49 rfl rfl ?_
  refine x_iret dX4_listenersWithAddress_50 rfl (by decide) (by decide) ?_
  exact ⟨rfl, rfl, rfl, rfl⟩
theorem sp_isIn {b : Nat → Bool} {k : Nat} (hk : k < 4) : Spd mX4_isIn [.int (mk b 4), .int (nI k)] I R (some (.int (bi (b k)))) I := by
  refine Spd.mk (by decide +kernel) (by simp [Value.category]) (Nat.le_of_ble_eq_true rfl) (fun g cx => ?_)
  refine x_iload_n dX4_isIn_0 rfl rfl ?_
  refine x_iload_n dX4_isIn_1 rfl rfl ?_
  refine x_ishr dX4_isIn_2 ?_
  refine x_iconst (nI 1) dX4_isIn_3 (by decide) ?_
  refine x_iand dX4_isIn_4 ?_
  refine x_eqtop (mk_bit b hk) ?_
  refine x_iconst (nI 1) dX4_isIn_5 (by decide) ?_
  refine' x_dia_icmp_ne 13 14 dX4_isIn_6 (by decide) ?_ ?_ ?_; rotate_left 2
  · intro c6 k6
    refine x_iconst (nI 1) dX4_isIn_9 (by decide) ?_
    refine x_goto 14 dX4_isIn_10 (by decide) ?_
    exact k6
  · intro c6 k6
    refine x_iconst (nI 0) dX4_isIn_13 (by decide) ?_
    exact k6
  refine x_eqtop (y := bi (b k)) (by cases b k <;> rfl) ?_
  refine x_zret dX4_isIn_14 rfl (bi_n _) (by decide) (by decide) ?_
  exact ⟨rfl, rfl, rfl, rfl⟩
end CL
