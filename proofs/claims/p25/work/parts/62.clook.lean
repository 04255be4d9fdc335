
/-! the class: looking ahead -/
theorem pMs_n {Z : MI} (h : NB Z) : ∃ s, s ≤ 20 ∧ pMs Z = nI s := by
  obtain ⟨a, ha, ea⟩ := h.n5 0 (by omega)
  obtain ⟨b, hb, eb⟩ := h.n5 1 (by omega)
  obtain ⟨c, hc, ec⟩ := h.n5 2 (by omega)
  obtain ⟨d, hd, ed⟩ := h.n5 3 (by omega)
  refine ⟨0 + a + b + c + d, by omega, ?_⟩
  show (((nI 0 + Z 0 0) + Z 1 0) + Z 2 0) + Z 3 0 = _
  rw [ea, eb, ec, ed, nI_add, nI_add, nI_add, nI_add]
theorem pMs_le {Z : MI} (h : NB Z) : pMs Z ≤ 0 ↔ pMs Z = 0 := by
  obtain ⟨s, hs, e⟩ := pMs_n h
  rw [e]
  exact ⟨fun q => by rw [(nI_le0 (by omega)).mp q]; rfl, fun q => by rw [q]; decide⟩
theorem emN_eq (f : Nat) : ∀ (Z : MI) (k : Nat), k ≤ f → (∀ j, j < k → ¬ pMs (pTk Z j) ≤ 0) → (pMs (pTk Z k) ≤ 0 ∨ k = f) → emN Z f = k := by
  induction f with
  | zero => intro Z k hk _ _; show 0 = k; omega
  | succ f ih =>
    intro Z k hk h1 h2
    show (if pMs Z ≤ 0 then 0 else emN (pTick Z) f + 1) = k
    cases k with
    | zero =>
      rcases h2 with h2 | h2
      · exact if_pos h2
      · omega
    | succ k =>
      rw [if_neg (show ¬ pMs Z ≤ 0 from h1 0 (by omega))]
      rw [ih (pTick Z) k (by omega) (fun j hj => by rw [pTk_tick]; exact h1 (j + 1) (by omega)) (by rw [pTk_tick]; exact h2.imp id (fun q => by omega))]
/-- all is kept -/
def KQ (σ : Nat → Nat) (J : MI) (R : MR) (Z : MI) (H : Nat → MI) (h : Nat) (K : MI) (e : Bool) (n : Nat) (t : Nat → Int32) (a b v : Int32) : XQ := fun r' n' J' R' => r' = some (.int v) ∧ n' = 131 ∧ Hi J J' ∧ R' = R ∧ Cl σ J' R Z H h K e n t a b
section CM
variable {g : GX} {cx : CX} {mt : MT} {F : State → Prop} {cs : Nat × Nat} {pc : Nat} {ls : List (Option Value)} {st : List Value}
variable {σ : Nat → Nat} {J J0 : MI} {R : MR} {Z Y : MI} {H : Nat → MI} {h : Nat} {K : MI} {e : Bool} {n : Nat} {t : Nat → Int32} {a b : Int32}
theorem x_tkS {idx : Nat} (hC : Cl σ J R Z H h K e n t a b) (hH : Hi J0 J) (hP : SJ (σ 4) J Y) (hT : TL Y) (hl : Cond.methodLink mt.1.cls idx yX4_tick ∈ XT) (hroom : xRoom mt mX4_tick) (hd : decode mt.2.1 pc = .ok (.invokevirtual idx, 3)) (hcat : (st.map fun v => v.category).sum ≤ 8) (hf : xFit mt cs) (k : ∀ J1, Hi J0 J1 → Cl σ J1 R Z H h K e n t a b → SJ (σ 4) J1 (pTick Y) → X g cx mt F cs (pc + 3) ls st 131 J1 R) : X g cx mt F cs pc ls (.ref (σ 4) :: st) 131 J R := by
  have h4 := hC.ob.st (i := 4) (by omega)
  exact x_callV (mt' := mX4_tick) (av := []) (sp_tick h4 hP hT) kvX4_tick hl hroom hd h4.k0 h4.lt0 rfl rfl hcat (fun r' n' I2 R2 hq => by
    obtain ⟨rfl, rfl, rfl, h1, h2⟩ := hq
    rw [xNo_cs (mt' := mX4_tick) ⟨rfl, rfl⟩]
    exact k I2 (hH.tr (Hi.off h4 h1)) (hC.spare h1 ⟨_, h2⟩) h2) (xNo_fit ⟨rfl, rfl⟩ hf)
end CM
section CL
variable {σ : Nat → Nat} {J0 : MI} {R : MR} {Z : MI} {H : Nat → MI} {h : Nat} {K : MI} {e : Bool} {n : Nat} {t : Nat → Int32} {a b : Int32}
theorem lp_emptyIn {g : GX} {cx : CX} : ∀ (m k : Nat) (J : MI), k + m = 1001 → Hi J0 J → Cl σ J R Z H h K e n t a b → SJ (σ 4) J (pTk Z k) → (∀ j, j < k → ¬ pMs (pTk Z j) = 0) → X g cx mX5_emptyIn (xF g cx mX5_emptyIn (KQ σ J0 R Z H h K e n t a b (pEmp Z))) (0, 0) 13 [some (.ref 0), some (.int (nI k))] [] 131 J R := by
  intro m
  induction m with
  | zero =>
    intro k J hk hH hC hP hj
    obtain rfl : k = 1001 := by omega
    have hB := NB_pTk hC.sj.nb
    have e1 : emN Z 1000 = 1000 := emN_eq 1000 Z 1000 (by omega) (fun j q => fun z => hj j (by omega) ((pMs_le (hB j)).mp z)) (Or.inr rfl)
    have e2 : pEmp Z = -5 := by unfold pEmp; rw [e1, if_neg (hj 1000 (by omega))]
    rw [e2]
    refine x_iload_n dX5_emptyIn_13 rfl rfl ?_
    refine x_sipush (nI 1000) dX5_emptyIn_14 (by decide) ?_
    refine x_icmp_gtT 45 dX5_emptyIn_17 (by decide) (by decide) ?_
    refine x_bipush (-5) dX5_emptyIn_45 (by decide) ?_
    refine x_iret dX5_emptyIn_47 rfl (by decide) (by decide) ?_
    exact ⟨rfl, rfl, hH, rfl, hC⟩
  | succ m ih =>
    intro k J hk hH hC hP hj
    have hB := NB_pTk hC.sj.nb
    refine x_iload_n dX5_emptyIn_13 rfl rfl ?_
    refine x_sipush (nI 1000) dX5_emptyIn_14 (by decide) ?_
    refine x_icmp_gtF dX5_emptyIn_17 (fun q => absurd ((nI_ltI (by omega) (by omega)).mp q) (by omega)) ?_ 45 (by decide)
    refine x_aload_n dX5_emptyIn_20 rfl rfl ?_
    refine x_getR (j := σ 4) fl_X5_30 dX5_emptyIn_21 xk_0 (by decide) rfl hC.ob.1.2.2.2.2 ?_
    refine x_callVd0 (mt' := mX4_messagesInLines) (sp_messagesInLines (hC.ob.st (i := 4) (by omega)) hP) kvX4_messagesInLines wl_X5_189 (by decide) dX5_emptyIn_24 (hC.ob.st (i := 4) (by omega)).k0 (hC.ob.st (i := 4) (by omega)).lt0 rfl rfl (Nat.le_of_ble_eq_true rfl) ⟨rfl, rfl⟩ (by decide) ?_
    refine x_if_ne 32 dX5_emptyIn_27 (by decide) (fun c27 => ?_) (fun c27 => ?_)
    · skip
      refine x_aload_n dX5_emptyIn_32 rfl rfl ?_
      refine x_getR (j := σ 4) fl_X5_30 dX5_emptyIn_33 xk_0 (by decide) rfl hC.ob.1.2.2.2.2 ?_
      refine x_tkS hC hH hP (TL_pTk hC.lv.1 k) wl_X5_192 (by decide) dX5_emptyIn_36 (Nat.le_of_ble_eq_true rfl) (by decide) (fun J hH hC hP => ?_)
      refine x_iincN 1 dX5_emptyIn_39 rfl (by decide) (by decide) ?_
      refine x_goto 13 dX5_emptyIn_42 (by decide) ?_
      exact ih (k + 1) J (by omega) hH hC hP (fun j q => by by_cases z : j = k; (subst z; exact c27); exact hj j (by omega))
    · skip
      have e2 : pEmp Z = nI k := by
        have e1 : emN Z 1000 = k := emN_eq 1000 Z k (by omega) (fun j q => fun z => hj j q ((pMs_le (hB j)).mp z)) (Or.inl ((pMs_le (hB k)).mpr c27))
        unfold pEmp
        rw [e1]
        exact if_pos c27
      rw [e2]
      refine x_iload_n dX5_emptyIn_30 rfl rfl ?_
      refine x_iret dX5_emptyIn_31 rfl (by decide) (by decide) ?_
      exact ⟨rfl, rfl, hH, rfl, hC⟩
theorem sp_emptyIn (hC : Cl σ J0 R Z H h K e n t a b) : Sp mX5_emptyIn [.ref 0] 131 J0 R (KQ σ J0 R Z H h K e n t a b (pEmp Z)) := by
  refine Sp.mk (by decide +kernel) (by simp [Value.category]) (Nat.le_of_ble_eq_true rfl) (fun g cx => ?_)
  have hH : Hi J0 J0 := Hi.rf
  refine x_aload_n dX5_emptyIn_0 rfl rfl ?_
  refine x_getR (j := σ 4) fl_X5_30 dX5_emptyIn_1 xk_0 (by decide) rfl hC.ob.1.2.2.2.2 ?_
  refine x_aload_n dX5_emptyIn_4 rfl rfl ?_
  refine x_getR (j := 1) fl_X5_10 dX5_emptyIn_5 xk_0 (by decide) rfl hC.ob.1.1 ?_
  refine x_cpS hC hH wl_X5_40 (by decide) dX5_emptyIn_8 (Nat.le_of_ble_eq_true rfl) (by decide) (fun J hH hC hP => ?_)
  refine x_iconst (nI 0) dX5_emptyIn_11 (by decide) ?_
  refine x_istore_n dX5_emptyIn_12 rfl (by decide) ?_
  exact lp_emptyIn 1001 0 _ rfl hH hC hP (fun j q => absurd q (by omega))
theorem lp_ifRun {g : GX} {cx : CX} {F : State → Prop} {N : Nat} {s v : Int32} (hN : N ≤ 300) : ∀ (m k : Nat) (J : MI), k + m = N → Hi J0 J → Cl σ J R Z H h K e n t a b → SJ (σ 4) J (pTk Z k) → (∀ J, Hi J0 J → Cl σ J R Z H h K e n t a b → SJ (σ 4) J (pTk Z N) → X g cx mX5_ifRun F (0, 0) 67 [some (.ref 0), some (.int s), some (.int (nI N)), some (.int v), some (.int (nI N))] [] 131 J R) → X g cx mX5_ifRun F (0, 0) 48 [some (.ref 0), some (.int s), some (.int (nI N)), some (.int v), some (.int (nI k))] [] 131 J R := by
  intro m
  induction m with
  | zero =>
    intro k J hk hH hC hP hx
    obtain rfl : k = N := by omega
    refine x_iload dX5_ifRun_48 rfl ?_
    refine x_iload_n dX5_ifRun_50 rfl rfl ?_
    refine x_icmp_geN 67 dX5_ifRun_51 (by decide) (by omega) (by omega) (fun c51 => ?_) (fun c51 => ?_)
    · skip
      exact hx J hH hC hP
    · skip
      exact absurd c51 (by omega)
  | succ m ih =>
    intro k J hk hH hC hP hx
    refine x_iload dX5_ifRun_48 rfl ?_
    refine x_iload_n dX5_ifRun_50 rfl rfl ?_
    refine x_icmp_geN 67 dX5_ifRun_51 (by decide) (by omega) (by omega) (fun c51 => ?_) (fun c51 => ?_)
    · skip
      exact absurd c51 (by omega)
    · skip
      refine x_aload_n dX5_ifRun_54 rfl rfl ?_
      refine x_getR (j := σ 4) fl_X5_30 dX5_ifRun_55 xk_0 (by decide) rfl hC.ob.1.2.2.2.2 ?_
      refine x_tkS hC hH hP (TL_pTk hC.lv.1 k) wl_X5_192 (by decide) dX5_ifRun_58 (Nat.le_of_ble_eq_true rfl) (by decide) (fun J hH hC hP => ?_)
      refine x_iincN 1 dX5_ifRun_61 rfl (by decide) (by decide) ?_
      refine x_goto 48 dX5_ifRun_64 (by decide) ?_
      exact ih (k + 1) J (by omega) hH hC hP hx
theorem sp_ifRun (hC : Cl σ J0 R Z H h K e n t a b) (s x : Int32) : Sp mX5_ifRun [.ref 0, .int s, .int x] 131 J0 R (KQ σ J0 R Z H h K e n t a b (pIf Z s x)) := by
  refine Sp.mk (by decide +kernel) (by simp [Value.category]) (Nat.le_of_ble_eq_true rfl) (fun g cx => ?_)
  have hH : Hi J0 J0 := Hi.rf
  by_cases h1 : inr s (nI 0) (nI 3) = true
  · by_cases h2 : inr x (nI 1) (nI 300) = true
    · obtain ⟨k, -, hk, rfl⟩ := inr_of (by omega) h1 (by omega)
      have h2' := of_decide_eq_true h2
      obtain ⟨N, n1, n3, rfl⟩ := inr_of (by omega) h2 (by omega)
      rw [show pIf Z (nI k) (nI N) = pTk Z N k 2 - Z k 2 by unfold pIf; rw [if_pos h1, if_pos h2, nI_cl (by omega), nI_cl (by omega)]]
      refine x_iload_n dX5_ifRun_0 rfl rfl ?_
      refine x_iconst (nI 4) dX5_ifRun_1 (by decide) ?_
      refine x_callSd0 (mt' := mX5_isIndex) (sp_isIx _ 3 (by decide)) ktX5_isIndex wl_X5_132 (by decide) dX5_ifRun_2 rfl rfl (Nat.le_of_ble_eq_true rfl) ⟨rfl, rfl⟩ (by decide) ?_
      refine x_if_neT 10 dX5_ifRun_5 (by decide) (by rw [h1]; decide) ?_
      refine x_iload_n dX5_ifRun_10 rfl rfl ?_
      refine x_iconst (nI 1) dX5_ifRun_11 (by decide) ?_
      refine x_icmp_ltF dX5_ifRun_12 (Int32.not_lt.mpr h2'.1) ?_ 22 (by decide)
      refine x_iload_n dX5_ifRun_15 rfl rfl ?_
      refine x_sipush (nI 300) dX5_ifRun_16 (by decide) ?_
      refine x_icmp_leT 25 dX5_ifRun_19 (by decide) (h2'.2) ?_
      refine x_aload_n dX5_ifRun_25 rfl rfl ?_
      refine x_getR (j := σ 4) fl_X5_30 dX5_ifRun_26 xk_0 (by decide) rfl hC.ob.1.2.2.2.2 ?_
      refine x_aload_n dX5_ifRun_29 rfl rfl ?_
      refine x_getR (j := 1) fl_X5_10 dX5_ifRun_30 xk_0 (by decide) rfl hC.ob.1.1 ?_
      refine x_cpS hC hH wl_X5_40 (by decide) dX5_ifRun_33 (Nat.le_of_ble_eq_true rfl) (by decide) (fun J hH hC hP => ?_)
      refine x_aload_n dX5_ifRun_36 rfl rfl ?_
      refine x_getR (j := σ 4) fl_X5_30 dX5_ifRun_37 xk_0 (by decide) rfl hC.ob.1.2.2.2.2 ?_
      refine x_iload_n dX5_ifRun_40 rfl rfl ?_
      refine x_callVd0 (mt' := mX4_cameFrom) (sp_cameFrom (hC.ob.st (i := 4) (by omega)) hP (by omega)) kvX4_cameFrom wl_X5_195 (by decide) dX5_ifRun_41 (hC.ob.st (i := 4) (by omega)).k0 (hC.ob.st (i := 4) (by omega)).lt0 rfl rfl (Nat.le_of_ble_eq_true rfl) ⟨rfl, rfl⟩ (by decide) ?_
      refine x_istore_n dX5_ifRun_44 rfl (by decide) ?_
      refine x_iconst (nI 0) dX5_ifRun_45 (by decide) ?_
      refine x_istore dX5_ifRun_46 (by decide) ?_
      refine lp_ifRun n3 N 0 _ (by omega) hH hC hP (fun J hH hC hP => ?_)
      refine x_aload_n dX5_ifRun_67 rfl rfl ?_
      refine x_getR (j := σ 4) fl_X5_30 dX5_ifRun_68 xk_0 (by decide) rfl hC.ob.1.2.2.2.2 ?_
      refine x_iload_n dX5_ifRun_71 rfl rfl ?_
      refine x_callVd0 (mt' := mX4_cameFrom) (sp_cameFrom (hC.ob.st (i := 4) (by omega)) hP (by omega)) kvX4_cameFrom wl_X5_195 (by decide) dX5_ifRun_72 (hC.ob.st (i := 4) (by omega)).k0 (hC.ob.st (i := 4) (by omega)).lt0 rfl rfl (Nat.le_of_ble_eq_true rfl) ⟨rfl, rfl⟩ (by decide) ?_
      refine x_iload_n dX5_ifRun_75 rfl rfl ?_
      refine x_isub dX5_ifRun_76 ?_
      refine x_iret dX5_ifRun_77 rfl (by decide) (by decide) ?_
      exact ⟨rfl, rfl, hH, rfl, hC⟩
    · rw [show pIf Z s x = -2 by unfold pIf; rw [if_pos h1, if_neg h2]]
      refine x_iload_n dX5_ifRun_0 rfl rfl ?_
      refine x_iconst (nI 4) dX5_ifRun_1 (by decide) ?_
      refine x_callSd0 (mt' := mX5_isIndex) (sp_isIx _ 3 (by decide)) ktX5_isIndex wl_X5_132 (by decide) dX5_ifRun_2 rfl rfl (Nat.le_of_ble_eq_true rfl) ⟨rfl, rfl⟩ (by decide) ?_
      refine x_if_neT 10 dX5_ifRun_5 (by decide) (by rw [h1]; decide) ?_
      refine x_iload_n dX5_ifRun_10 rfl rfl ?_
      refine x_iconst (nI 1) dX5_ifRun_11 (by decide) ?_
      refine x_icmp_lt 22 dX5_ifRun_12 (by decide) (fun c12 => ?_) (fun c12 => ?_)
      · skip
        refine x_bipush (-2) dX5_ifRun_22 (by decide) ?_
        refine x_iret dX5_ifRun_24 rfl (by decide) (by decide) ?_
        exact ⟨rfl, rfl, hH, rfl, hC⟩
      · skip
        refine x_iload_n dX5_ifRun_15 rfl rfl ?_
        refine x_sipush (nI 300) dX5_ifRun_16 (by decide) ?_
        refine x_icmp_le 25 dX5_ifRun_19 (by decide) (fun c19 => ?_) (fun c19 => ?_)
        · skip
          exact absurd (decide_eq_true ⟨Int32.not_lt.mp c12, c19⟩) h2
        · skip
          refine x_bipush (-2) dX5_ifRun_22 (by decide) ?_
          refine x_iret dX5_ifRun_24 rfl (by decide) (by decide) ?_
          exact ⟨rfl, rfl, hH, rfl, hC⟩
  · rw [show pIf Z s x = -1 from if_neg h1]
    refine x_iload_n dX5_ifRun_0 rfl rfl ?_
    refine x_iconst (nI 4) dX5_ifRun_1 (by decide) ?_
    refine x_callSd0 (mt' := mX5_isIndex) (sp_isIx _ 3 (by decide)) ktX5_isIndex wl_X5_132 (by decide) dX5_ifRun_2 rfl rfl (Nat.le_of_ble_eq_true rfl) ⟨rfl, rfl⟩ (by decide) ?_
    refine x_if_neF dX5_ifRun_5 (bi_0.mpr (by simpa using h1)) ?_ 10 (by decide)
    refine x_iconst (-1) dX5_ifRun_8 (by decide) ?_
    refine x_iret dX5_ifRun_9 rfl (by decide) (by decide) ?_
    exact ⟨rfl, rfl, hH, rfl, hC⟩
end CL
