
/-! the class: a state copied. Zq: rows that are alike as far as they are looked at -/
def Zq (Z Z' : MI) : Prop := (∀ k, k < 4 → ∀ w, w < 22 → Z' k w = Z k w) ∧ (∀ k, k < 4 → ∀ w, w < 5 → Z' (4 + k) w = Z (4 + k) w) ∧ (∀ w, w < 11 → Z' 8 w = Z 8 w) ∧ ∀ w, w < 256 → Z' 9 w = Z 9 w
theorem Zq.rf {Z : MI} : Zq Z Z := ⟨fun _ _ _ _ => rfl, fun _ _ _ _ => rfl, fun _ _ => rfl, fun _ _ => rfl⟩
theorem Zq.tr {Z Z' Z2 : MI} (h : Zq Z Z') (h2 : Zq Z' Z2) : Zq Z Z2 := ⟨fun k hk w hw => (h2.1 k hk w hw).trans (h.1 k hk w hw), fun k hk w hw => (h2.2.1 k hk w hw).trans (h.2.1 k hk w hw), fun w hw => (h2.2.2.1 w hw).trans (h.2.2.1 w hw), fun w hw => (h2.2.2.2 w hw).trans (h.2.2.2 w hw)⟩
theorem Zq.of {Z Z' : MI} (h : ∀ i, i < 375 → zf Z' i = zf Z i) : Zq Z Z' := by
  refine ⟨fun k hk w hw => ?_, fun k hk w hw => ?_, fun w hw => ?_, fun w hw => ?_⟩
  · have := h (4 + 22 * k + w) (by omega)
    rw [zf_sp hk hw, zf_sp hk hw] at this
    exact this
  · have := h (92 + 5 * k + w) (by omega)
    rw [zf_li hk hw, zf_li hk hw] at this
    exact this
  · by_cases q : w < 4
    · have := h w (by omega)
      rw [zf_se q, zf_se q] at this
      exact this
    · have := h (w + 108) (by omega)
      rw [zf_sc (by omega) (by omega), zf_sc (by omega) (by omega), show w + 108 - 108 = w by omega] at this
      exact this
  · have := h (119 + w) (by omega)
    rw [zf_lg, zf_lg] at this
    exact this
theorem SPJ.zq {F P z z' : Nat → Int32} (h : SPJ F P z) (e : ∀ w, w < 22 → z' w = z w) : SPJ F P z' := by
  obtain ⟨m, t, a1, a2, a3, a4, a5, a6⟩ := h
  refine ⟨m, t, a1, (e 0 (by omega)).trans a2, (e 1 (by omega)).trans a3, a4, fun w hw => (a5 w hw).trans (e w (by omega)).symm, fun j hj => ?_⟩
  obtain ⟨⟨x, q0, q1, q2⟩, q3, q4⟩ := a6 j hj
  exact ⟨⟨x, q0, (e _ (by omega)).trans q1, q2⟩, q3.trans (e _ (by omega)).symm, q4.trans (e _ (by omega)).symm⟩
theorem SJ.zq {o : Nat} {I Z Z' : MI} (h : SJ o I Z) (e : Zq Z Z') : SJ o I Z' := by
  refine ⟨fun k hk => (h.1 k hk).zq (e.1 k hk), fun k hk => ?_, ⟨fun w hw => (h.2.2.1.1 w hw).trans (e.2.2.1 w (by omega)).symm, fun f h1 h2 => ?_⟩, ?_⟩
  · obtain ⟨q1, s, q2, q3⟩ := h.2.1 k hk
    exact ⟨fun w hw => (q1 w hw).trans (e.2.1 k hk w hw).symm, s, q2, (e.2.1 k hk 2 (by omega)).trans q3⟩
  · have key : ∀ f, f < 11 → scw f < 11 := by decide +kernel
    exact (h.2.2.1.2 f h1 h2).trans (e.2.2.1 _ (key f (by omega))).symm
  · obtain ⟨x, L, q1, q2, q3, q4, q5, q6⟩ := h.2.2.2
    exact ⟨x, L, q1, q2, q3, q4, (e.2.2.1 10 (by omega)).trans q5, fun b w hb hw => (q6 b w hb hw).trans (e.2.2.2 _ (by omega)).symm⟩
theorem TL.zq {Z Z' : MI} (h : TL Z) (e : Zq Z Z') : TL Z' := TL_cg h (e.2.2.1 7 (by omega)) (e.2.2.1 5 (by omega)) (e.2.2.1 4 (by omega)) (fun k hk => ⟨e.1 k hk 1 (by omega), e.1 k hk 9 (by omega)⟩) (fun k hk => e.2.1 k hk 1 (by omega))
theorem Ost_ap {o b : Nat} (h : Ost o) (h2 : Ost b) (hne : o ≠ b) : o + 18 ≤ b ∨ b + 18 ≤ o := by
  have key : ∀ o ∈ [1, 19, 41, 59, 77, 95, 113], ∀ b ∈ [1, 19, 41, 59, 77, 95, 113], o ≠ b → o + 18 ≤ b ∨ b + 18 ≤ o := by decide +kernel
  exact key o h b h2 hne
theorem SJ.off {o b : Nat} {I I' Z : MI} {R : MR} (h : SJ b I Z) (hS : St R o) (hB : St R b) (hne : o ≠ b) (hO : Off o I I') : SJ b I' Z := by
  have := Ost_ap hS.1 hB.1 hne
  exact h.cg (fun a h1 h2 => hO a (by omega)) (fun _ _ => rfl)
theorem SPJ_copy {F P G Q z : Nat → Int32} (h : SPJ G Q z) : SPJ (upd (upd (upd (upd (upd (upd (upd F 1 (G 1)) 2 (G 2)) 3 (G 3)) 4 (G 4)) 5 (G 5)) 6 (G 6)) 7 (G 7)) (va_cpy Q P 0 0 15) z := by
  obtain ⟨m, t, a1, a2, a3, a4, a5, a6⟩ := h
  refine ⟨m, t, a1, a2, a3, a4, fun w hw => ?_, fun j hj => ?_⟩
  · rw [← a5 w hw]
    rcases (show w = 0 ∨ w = 1 ∨ w = 2 ∨ w = 3 ∨ w = 4 ∨ w = 5 ∨ w = 6 by omega) with rfl | rfl | rfl | rfl | rfl | rfl | rfl <;> simp [upd]
  · have e : ∀ c, c < 15 → va_cpy Q P 0 0 15 c = Q c := fun c hc => by rw [pk_cpy_in (by omega) (by omega)]; congr 1; omega
    rw [e _ (by omega), e _ (by omega), e _ (by omega)]
    exact a6 j hj
theorem LSJ_copy {F G z : Nat → Int32} (h : LSJ G z) : LSJ (upd (upd (upd (upd (upd F 0 (G 0)) 1 (G 1)) 2 (G 2)) 3 (G 3)) 4 (G 4)) z := by
  refine ⟨fun w hw => ?_, h.2⟩
  rw [← h.1 w hw]
  rcases (show w = 0 ∨ w = 1 ∨ w = 2 ∨ w = 3 ∨ w = 4 by omega) with rfl | rfl | rfl | rfl | rfl <;> simp [upd]
theorem LGJ_copy {F P G Q z : Nat → Int32} {c : Int32} (h : LGJ G Q c z) : LGJ (upd (upd F 1 (G 1)) 2 (G 2)) (va_cpy Q P 0 0 256) c z := by
  obtain ⟨x, L, q1, q2, q3, q4, q5, q6⟩ := h
  refine ⟨x, L, q1, q2, by rw [upd_ne (by omega), upd_self]; exact q3, by rw [upd_self]; exact q4, q5, fun b w hb hw => ?_⟩
  rw [pk_cpy_in (by omega) (by omega), ← q6 b w hb hw]
  congr 1
  omega
def pMx (Y Z : MI) (k : Nat) : MI := fun a => if a < k then Z a else Y a
theorem pMx_0 {Y Z : MI} : pMx Y Z 0 = Y := by funext a; simp [pMx]
theorem pMx_s {Y Z : MI} {k : Nat} : rw1 (pMx Y Z k) k (Z k) = pMx Y Z (k + 1) := by
  funext a
  by_cases e : a = k
  · subst e; rw [rw1_self]; simp [pMx]
  · rw [rw1_ne e]
    simp only [pMx]
    by_cases q : a < k
    · rw [if_pos q, if_pos (by omega)]
    · rw [if_neg q, if_neg (by omega)]
theorem SJ.uset {o : Nat} {I W W' : MI} {G : Nat → Int32} (h : SJ o I W) (hW : ∀ a, a ≠ 8 → W' a = W a) (h8 : ∀ c, 3 ≤ c → W' 8 c = W 8 c) (hG : ∀ w, w < 3 → G w = W' 8 w) : SJ o (rw1 I (o + 3) G) W' := by
  refine ⟨fun j hj => ?_, fun j hj => ?_, ⟨fun u hu => ?_, fun g q1 q2 => ?_⟩, ?_⟩
  · rw [rw1_ne (by omega), rw1_ne (by omega), hW _ (by omega)]; exact h.1 j hj
  · rw [rw1_ne (by omega), hW _ (by omega)]; exact h.2.1 j hj
  · rw [rw1_self]; exact hG u hu
  · have key : ∀ f, f < 11 → 4 ≤ f → 3 ≤ scw f := by decide +kernel
    rw [rw1_ne (by omega), h8 _ (key g (by omega) q1)]; exact h.sc q1 q2
  · rw [rw1_ne (by omega), rw1_ne (by omega), h8 _ (by omega), hW _ (by omega)]; exact h.2.2.2
theorem Off.s3 {o : Nat} {I : MI} {G : Nat → Int32} : Off o I (rw1 I (o + 3) G) := fun a q => by rw [rw1_ne (by omega)]
/-- settings put in their place -/
def pSe (W Z : MI) : MI := rw1 W 8 (fun c => if c < 3 then Z 8 c else W 8 c)
section CL
variable {I J0 : MI} {R : MR} {o b : Nat} {Y Z : MI}
theorem lp_cs {g : GX} {cx : CX} {F : State → Prop} (hS : St R o) (hB : St R b) (hne : o ≠ b) (hK : SJ b J0 Z) : ∀ (m k : Nat) (I : MI), k + m = 4 → Off o J0 I → SJ o I (pMx Y Z k) → (∀ I, Off o J0 I → SJ o I (pMx Y Z 4) → X g cx mX4_copyFrom F (0, 0) 28 [some (.ref o), some (.ref b), some (.int (nI 4))] [] 131 I R) → X g cx mX4_copyFrom F (0, 0) 2 [some (.ref o), some (.ref b), some (.int (nI k))] [] 131 I R := by
  intro m
  induction m with
  | zero =>
    intro k I hk hO hJ hx
    obtain rfl : k = 4 := by omega
    refine x_iload_n dX4_copyFrom_2 rfl rfl ?_
    refine x_iconst (nI 4) dX4_copyFrom_3 (by decide) ?_
    refine x_icmp_geN 28 dX4_copyFrom_4 (by decide) (by omega) (by omega) (fun c4 => ?_) (fun c4 => ?_)
    · skip
      exact hx _ hO hJ
    · skip
      exact absurd c4 (by omega)
  | succ m ih =>
    intro k I hk hO hJ hx
    have hk4 : k < 4 := by omega
    have hKI := hK.off hS hB hne hO
    have hap := Ost_ap hS.1 hB.1 hne
    refine x_iload_n dX4_copyFrom_2 rfl rfl ?_
    refine x_iconst (nI 4) dX4_copyFrom_3 (by decide) ?_
    refine x_icmp_geN 28 dX4_copyFrom_4 (by decide) (by omega) (by omega) (fun c4 => ?_) (fun c4 => ?_)
    · skip
      exact absurd c4 (by omega)
    · skip
      refine x_aload_n dX4_copyFrom_7 rfl rfl ?_
      refine x_getR fl_X4_11 dX4_copyFrom_8 hS.k0 hS.lt0 rfl hS.r0 ?_
      refine x_iload_n dX4_copyFrom_11 rfl rfl ?_
      refine x_aald (j := k) (c := 10) ⟨by decide, by decide⟩ dX4_copyFrom_12 hS.k1 (hS.lt (by omega)) (nI_pos (by omega)) (nI_clamp (by omega)) (by rw [hS.l1]; omega) (hS.rs (by omega)) ?_
      refine x_aload_n dX4_copyFrom_13 rfl rfl ?_
      refine x_getR fl_X4_11 dX4_copyFrom_14 hB.k0 hB.lt0 rfl hB.r0 ?_
      refine x_iload_n dX4_copyFrom_17 rfl rfl ?_
      refine x_aald (j := k) (c := 10) ⟨by decide, by decide⟩ dX4_copyFrom_18 hB.k1 (hB.lt (by omega)) (nI_pos (by omega)) (nI_clamp (by omega)) (by rw [hB.l1]; omega) (hB.rs (by omega)) ?_
      refine x_callSp hS hO hJ (k := k) hk4 (mt' := mX3_copyFrom) (sp_X3_copyFrom (hS.sk hk4) (hB.sk hk4) (by omega) (by omega) (by omega) (by omega) (hKI.s1 hk4)) (SPJ_copy (hKI.1 k hk4)) kvX3_copyFrom wl_X4_36 (by decide) dX4_copyFrom_19 rfl rfl (Nat.le_of_ble_eq_true rfl) ⟨rfl, rfl⟩ (by decide) (fun I hO hJ => ?_)
      refine x_iincN 1 dX4_copyFrom_22 rfl (by decide) (by decide) ?_
      refine x_goto 2 dX4_copyFrom_25 (by decide) ?_
      exact ih (k + 1) I (by omega) hO (by rw [← pMx_s]; exact hJ) hx
theorem cp_ls (hS : St R o) (hB : St R b) (hne : o ≠ b) {k : Nat} (hk : k < 4) : Spd mX1_copyFrom [.ref (o + 14 + k), .ref (b + 14 + k)] I R none (rw1 I (o + 14 + k) (upd (upd (upd (upd (upd (I (o + 14 + k)) 0 (I (b + 14 + k) 0)) 1 (I (b + 14 + k) 1)) 2 (I (b + 14 + k) 2)) 3 (I (b + 14 + k) 3)) 4 (I (b + 14 + k) 4))) := by
  have h := sp_X1_copyFrom (I := I) (R := R) (F := I (o + 14 + k)) (hS.kl hk) (hS.ltl hk) (hB.kl hk) (hB.ltl hk) (by have := Ost_ap hS.1 hB.1 hne; omega)
  rw [rw1_id] at h
  exact h
theorem cp_lg (hS : St R o) (hB : St R b) (hne : o ≠ b) : Spd mX0_copyFrom [.ref (o + 4), .ref (b + 4)] I R none (SM I (o + 4) (o + 5) (upd (upd (I (o + 4)) 1 (I (b + 4) 1)) 2 (I (b + 4) 2)) (va_cpy (I (b + 5)) (I (o + 5)) 0 0 256)) := by
  have hap := Ost_ap hS.1 hB.1 hne
  have h := sp_X0_copyFrom (I := I) (R := R) (F := I (o + 4)) (P := I (o + 5)) hS.lg hB.lg (by omega) (by omega) (by omega) (by omega)
  rw [SM_self] at h
  exact h
theorem lp_cl {g : GX} {cx : CX} {F : State → Prop} (hS : St R o) (hB : St R b) (hne : o ≠ b) (hK : SJ b J0 Z) : ∀ (m k : Nat) (I : MI), k + m = 4 → Off o J0 I → SJ o I (pMx Y Z (4 + k)) → (∀ I, Off o J0 I → SJ o I (pMx Y Z 8) → X g cx mX4_copyFrom F (0, 0) 56 [some (.ref o), some (.ref b), some (.int (nI 4))] [] 131 I R) → X g cx mX4_copyFrom F (0, 0) 30 [some (.ref o), some (.ref b), some (.int (nI k))] [] 131 I R := by
  intro m
  induction m with
  | zero =>
    intro k I hk hO hJ hx
    obtain rfl : k = 4 := by omega
    refine x_iload_n dX4_copyFrom_30 rfl rfl ?_
    refine x_iconst (nI 4) dX4_copyFrom_31 (by decide) ?_
    refine x_icmp_geN 56 dX4_copyFrom_32 (by decide) (by omega) (by omega) (fun c32 => ?_) (fun c32 => ?_)
    · skip
      exact hx _ hO hJ
    · skip
      exact absurd c32 (by omega)
  | succ m ih =>
    intro k I hk hO hJ hx
    have hk4 : k < 4 := by omega
    have hKI := hK.off hS hB hne hO
    refine x_iload_n dX4_copyFrom_30 rfl rfl ?_
    refine x_iconst (nI 4) dX4_copyFrom_31 (by decide) ?_
    refine x_icmp_geN 56 dX4_copyFrom_32 (by decide) (by omega) (by omega) (fun c32 => ?_) (fun c32 => ?_)
    · skip
      exact absurd c32 (by omega)
    · skip
      refine x_aload_n dX4_copyFrom_35 rfl rfl ?_
      refine x_getR fl_X4_19 dX4_copyFrom_36 hS.k0 hS.lt0 rfl hS.r1 ?_
      refine x_iload_n dX4_copyFrom_39 rfl rfl ?_
      refine x_aald (j := k) (c := 9) ⟨by decide, by decide⟩ dX4_copyFrom_40 hS.k2 (hS.lt (by omega)) (nI_pos (by omega)) (nI_clamp (by omega)) (by rw [hS.l2]; omega) (hS.rl (by omega)) ?_
      refine x_aload_n dX4_copyFrom_41 rfl rfl ?_
      refine x_getR fl_X4_19 dX4_copyFrom_42 hB.k0 hB.lt0 rfl hB.r1 ?_
      refine x_iload_n dX4_copyFrom_45 rfl rfl ?_
      refine x_aald (j := k) (c := 9) ⟨by decide, by decide⟩ dX4_copyFrom_46 hB.k2 (hB.lt (by omega)) (nI_pos (by omega)) (nI_clamp (by omega)) (by rw [hB.l2]; omega) (hB.rl (by omega)) ?_
      refine x_callVd0 (mt' := mX1_copyFrom) (cp_ls hS hB hne hk4) kvX1_copyFrom wl_X4_40 (by decide) dX4_copyFrom_47 (hS.kl hk4) (hS.ltl hk4) rfl rfl (Nat.le_of_ble_eq_true rfl) ⟨rfl, rfl⟩ (by decide) (x_st (hO.tr (Off.ls hk4)) (hJ.uls hk4 (LSJ_copy (hKI.2.1 k hk4))) (fun I hO hJ => ?_))
      refine x_iincN 1 dX4_copyFrom_50 rfl (by decide) (by decide) ?_
      refine x_goto 30 dX4_copyFrom_53 (by decide) ?_
      exact ih (k + 1) I (by omega) hO (by rw [show 4 + (k + 1) = 4 + k + 1 by omega, ← pMx_s]; exact hJ) hx
theorem zq_copy {Y Z : MI} : Zq (xuI (xuI (xuI (xuI (xuI (xuI (xuI (rw1 (xuI (pSe (pMx Y Z 8) Z) 8 10 (Z 8 10)) 9 (Z 9)) 8 3 (Z 8 3)) 8 7 (Z 8 7)) 8 4 (Z 8 4)) 8 5 (Z 8 5)) 8 6 (Z 8 6)) 8 8 (Z 8 8)) 8 9 (Z 8 9)) Z := by
  have er : ∀ a, a < 8 → xuI (xuI (xuI (xuI (xuI (xuI (xuI (rw1 (xuI (pSe (pMx Y Z 8) Z) 8 10 (Z 8 10)) 9 (Z 9)) 8 3 (Z 8 3)) 8 7 (Z 8 7)) 8 4 (Z 8 4)) 8 5 (Z 8 5)) 8 6 (Z 8 6)) 8 8 (Z 8 8)) 8 9 (Z 8 9) a = Z a := fun a ha => by
    rw [xuI_row (by omega), xuI_row (by omega), xuI_row (by omega), xuI_row (by omega), xuI_row (by omega), xuI_row (by omega), xuI_row (by omega), rw1_ne (by omega), xuI_row (by omega)]
    unfold pSe
    rw [rw1_ne (by omega)]
    exact if_pos ha
  refine ⟨fun k hk w _ => by rw [er k (by omega)], fun k hk w _ => by rw [er (4 + k) (by omega)], fun w hw => ?_, fun w _ => ?_⟩
  · rcases (show w = 0 ∨ w = 1 ∨ w = 2 ∨ w = 3 ∨ w = 4 ∨ w = 5 ∨ w = 6 ∨ w = 7 ∨ w = 8 ∨ w = 9 ∨ w = 10 by omega) with rfl | rfl | rfl | rfl | rfl | rfl | rfl | rfl | rfl | rfl | rfl <;> simp [xuI, rw1, pSe]
  · rw [xuI_row (by omega), xuI_row (by omega), xuI_row (by omega), xuI_row (by omega), xuI_row (by omega), xuI_row (by omega), xuI_row (by omega), rw1_self]
theorem sp_copyFrom (hS : St R o) (hB : St R b) (hne : o ≠ b) (hJ : SJ o J0 Y) (hK : SJ b J0 Z) : Sp mX4_copyFrom [.ref o, .ref b] 131 J0 R (SQ o J0 R none Z) := by
  refine Sp.mk (by decide +kernel) (by simp [Value.category]) (Nat.le_of_ble_eq_true rfl) (fun g cx => ?_)
  have hO : Off o J0 J0 := Off.rf
  refine x_iconst (nI 0) dX4_copyFrom_0 (by decide) ?_
  refine x_istore_n dX4_copyFrom_1 rfl (by decide) ?_
  refine lp_cs (Y := Y) (Z := Z) hS hB hne hK 4 0 _ rfl hO (by rw [pMx_0]; exact hJ) (fun I hO hJ => ?_)
  refine x_iconst (nI 0) dX4_copyFrom_28 (by decide) ?_
  refine x_istore_n dX4_copyFrom_29 rfl (by decide) ?_
  refine lp_cl (Y := Y) (Z := Z) hS hB hne hK 4 0 _ rfl hO hJ (fun I hO hJ => ?_)
  refine x_aload_n dX4_copyFrom_56 rfl rfl ?_
  refine x_getR fl_X4_23 dX4_copyFrom_57 hB.k0 hB.lt0 rfl hB.r2 ?_
  refine x_iconst (nI 0) dX4_copyFrom_60 (by decide) ?_
  refine x_aload_n dX4_copyFrom_61 rfl rfl ?_
  refine x_getR fl_X4_23 dX4_copyFrom_62 hS.k0 hS.lt0 rfl hS.r2 ?_
  refine x_iconst (nI 0) dX4_copyFrom_65 (by decide) ?_
  refine x_iconst (nI 3) dX4_copyFrom_66 (by decide) ?_
  refine x_copy (jsp := 0) (jdp := 0) (jn := 3) wl_X4_43 wv_ACP wt_ACP wz_J10 hB.k3 hS.k3 (hB.lt (by omega)) (hS.lt (by omega)) (nI_pos (by omega)) (nI_pos (by omega)) (nI_pos (by omega)) rfl rfl rfl (by rw [hB.l3]; decide) (by rw [hS.l3]; decide) (by decide) (Nat.le_of_ble_eq_true rfl) (by decide) rfl dX4_copyFrom_67 (x_eqI (show _ = rw1 _ (o + 3) _ from rfl) ?_)
  have hK1 := hK.off hS hB hne hO
  refine x_st (hO.tr Off.s3) (hJ.uset (W' := pSe (pMx Y Z 8) Z) (fun a ha => rw1_ne ha) (fun c hc => by unfold pSe; rw [rw1_self]; exact if_neg (by omega)) (fun w hw => by unfold pSe; rw [rw1_self, if_pos hw, pk_cpy_in (by omega) (by omega), show 0 + (w - 0) = w by omega]; exact hK1.se hw)) (fun I hO hJ => ?_)
  refine x_aload_n dX4_copyFrom_70 rfl rfl ?_
  refine x_getR fl_X4_30 dX4_copyFrom_71 hS.k0 hS.lt0 rfl hS.r3 ?_
  refine x_aload_n dX4_copyFrom_74 rfl rfl ?_
  refine x_getR fl_X4_30 dX4_copyFrom_75 hB.k0 hB.lt0 rfl hB.r3 ?_
  refine x_callVd0 (mt' := mX0_copyFrom) (cp_lg hS hB hne) kvX0_copyFrom wl_X4_49 (by decide) dX4_copyFrom_78 hS.lg.ka hS.lg.la rfl rfl (Nat.le_of_ble_eq_true rfl) ⟨rfl, rfl⟩ (by decide) (x_st (hO.tr Off.lg) (hJ.ulg (LGJ_copy (hK.off hS hB hne hO).2.2.2)) (fun I hO hJ => ?_))
  refine x_aload_n dX4_copyFrom_81 rfl rfl ?_
  refine x_aload_n dX4_copyFrom_82 rfl rfl ?_
  refine x_getI fl_X4_52 dX4_copyFrom_83 hB.k0 hB.lt0 rfl (x_eqtop (hK.off hS hB hne hO).f4 ?_)
  refine x_putS (w := 3) hS hO hJ fl_X4_52 fp_4_4 dX4_copyFrom_86 (by decide) (by decide) rfl (fun I hO hJ => ?_)
  refine x_aload_n dX4_copyFrom_89 rfl rfl ?_
  refine x_aload_n dX4_copyFrom_90 rfl rfl ?_
  refine x_getI fl_X4_56 dX4_copyFrom_91 hB.k0 hB.lt0 rfl (x_eqtop (hK.off hS hB hne hO).f5 ?_)
  refine x_putS (w := 7) hS hO hJ fl_X4_56 fp_4_5 dX4_copyFrom_94 (by decide) (by decide) rfl (fun I hO hJ => ?_)
  refine x_aload_n dX4_copyFrom_97 rfl rfl ?_
  refine x_aload_n dX4_copyFrom_98 rfl rfl ?_
  refine x_getI fl_X4_59 dX4_copyFrom_99 hB.k0 hB.lt0 rfl (x_eqtop (hK.off hS hB hne hO).f6 ?_)
  refine x_putS (w := 4) hS hO hJ fl_X4_59 fp_4_6 dX4_copyFrom_102 (by decide) (by decide) rfl (fun I hO hJ => ?_)
  refine x_aload_n dX4_copyFrom_105 rfl rfl ?_
  refine x_aload_n dX4_copyFrom_106 rfl rfl ?_
  refine x_getI fl_X4_62 dX4_copyFrom_107 hB.k0 hB.lt0 rfl (x_eqtop (hK.off hS hB hne hO).f7 ?_)
  refine x_putS (w := 5) hS hO hJ fl_X4_62 fp_4_7 dX4_copyFrom_110 (by decide) (by decide) rfl (fun I hO hJ => ?_)
  refine x_aload_n dX4_copyFrom_113 rfl rfl ?_
  refine x_aload_n dX4_copyFrom_114 rfl rfl ?_
  refine x_getI fl_X4_65 dX4_copyFrom_115 hB.k0 hB.lt0 rfl (x_eqtop (hK.off hS hB hne hO).f8 ?_)
  refine x_putS (w := 6) hS hO hJ fl_X4_65 fp_4_8 dX4_copyFrom_118 (by decide) (by decide) rfl (fun I hO hJ => ?_)
  refine x_aload_n dX4_copyFrom_121 rfl rfl ?_
  refine x_aload_n dX4_copyFrom_122 rfl rfl ?_
  refine x_getI fl_X4_68 dX4_copyFrom_123 hB.k0 hB.lt0 rfl (x_eqtop (hK.off hS hB hne hO).f9 ?_)
  refine x_putS (w := 8) hS hO hJ fl_X4_68 fp_4_9 dX4_copyFrom_126 (by decide) (by decide) rfl (fun I hO hJ => ?_)
  refine x_aload_n dX4_copyFrom_129 rfl rfl ?_
  refine x_aload_n dX4_copyFrom_130 rfl rfl ?_
  refine x_getI fl_X4_71 dX4_copyFrom_131 hB.k0 hB.lt0 rfl (x_eqtop (hK.off hS hB hne hO).f10 ?_)
  refine x_putS (w := 9) hS hO hJ fl_X4_71 fp_4_10 dX4_copyFrom_134 (by decide) (by decide) rfl (fun I hO hJ => ?_)
  refine x_vret dX4_copyFrom_137 rfl (by decide) (by decide) ?_
  exact ⟨rfl, rfl, rfl, hO, hJ.zq zq_copy⟩
end CL
