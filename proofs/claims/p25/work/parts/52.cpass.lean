
/-! the class: many ticks -/
theorem TL_pTk {Z : MI} (h : TL Z) : ∀ j, TL (pTk Z j) := by
  intro j
  induction j with
  | zero => exact h
  | succ j ih => exact TL_tick ih
section CL
variable {I J0 : MI} {R : MR} {o : Nat} {Z : MI}
theorem lp_pass {g : GX} {cx : CX} {F : State → Prop} {N : Nat} {v : Int32} (hS : St R o) (hT : TL Z) (hN : N ≤ 300) : ∀ (m k : Nat) (I : MI), k + m = N → Off o J0 I → SJ o I (pTk Z k) → (∀ I, Off o J0 I → SJ o I (pTk Z N) → X g cx mX4_passTicks F (0, 0) 51 [some (.ref o), some (.int (nI N)), some (.int v), some (.int (nI N))] [] 131 I R) → X g cx mX4_passTicks F (0, 0) 36 [some (.ref o), some (.int (nI N)), some (.int v), some (.int (nI k))] [] 131 I R := by
  intro m
  induction m with
  | zero =>
    intro k I hk hO hJ hx
    obtain rfl : k = N := by omega
    refine x_iload_n dX4_passTicks_36 rfl rfl ?_
    refine x_iload_n dX4_passTicks_37 rfl rfl ?_
    refine x_icmp_geN 51 dX4_passTicks_38 (by decide) (by omega) (by omega) (fun c38 => ?_) (fun c38 => ?_)
    · skip
      exact hx _ hO hJ
    · skip
      exact absurd c38 (by omega)
  | succ m ih =>
    intro k I hk hO hJ hx
    refine x_iload_n dX4_passTicks_36 rfl rfl ?_
    refine x_iload_n dX4_passTicks_37 rfl rfl ?_
    refine x_icmp_geN 51 dX4_passTicks_38 (by decide) (by omega) (by omega) (fun c38 => ?_) (fun c38 => ?_)
    · skip
      exact absurd c38 (by omega)
    · skip
      refine x_aload_n dX4_passTicks_41 rfl rfl ?_
      refine x_callVq hO (mt' := mX4_tick) (sp_tick hS hJ (TL_pTk hT k)) kvX4_tick wl_X4_126 (by decide) dX4_passTicks_42 hS.k0 hS.lt0 rfl rfl (Nat.le_of_ble_eq_true rfl) ⟨rfl, rfl⟩ (by decide) (fun I hO hJ => ?_)
      refine x_iincN 1 dX4_passTicks_45 rfl (by decide) (by decide) ?_
      refine x_goto 36 dX4_passTicks_48 (by decide) ?_
      exact ih (k + 1) I (by omega) hO hJ hx
theorem sp_passTicks (hS : St R o) (hJ : SJ o J0 Z) (hT : TL Z) (t : Int32) {c : Nat} (hc : c ≤ 99999) (ec : Z 8 3 = nI c) : Sp mX4_passTicks [.ref o, .int t] 131 J0 R (SQ o J0 R (some (.int (pRun Z t).1)) (pRun Z t).2) := by
  refine Sp.mk (by decide +kernel) (by simp [Value.category]) (Nat.le_of_ble_eq_true rfl) (fun g cx => ?_)
  have hO : Off o J0 J0 := Off.rf
  by_cases h1 : inr t (nI 1) (nI 300) = true
  · obtain ⟨n, n1, n3, rfl⟩ := inr_of (by omega) h1 (by omega)
    by_cases h2 : c + n ≤ 99999
    · rw [show pRun Z (nI n) = (pCame (pTk Z n) - pCame Z, pTk Z n) by unfold pRun; rw [if_pos h1, ec, nI_add, if_pos ((nI_leI (by omega) (by omega)).mpr h2), nI_cl (by omega)]]
      refine x_iload_n dX4_passTicks_0 rfl rfl ?_
      refine x_iconst (nI 1) dX4_passTicks_1 (by decide) ?_
      refine x_icmp_ltF dX4_passTicks_2 (fun q => absurd ((nI_ltI (by omega) (by omega)).mp q) (by omega)) ?_ 12 (by decide)
      refine x_iload_n dX4_passTicks_5 rfl rfl ?_
      refine x_sipush (nI 300) dX4_passTicks_6 (by decide) ?_
      refine x_icmp_leT 15 dX4_passTicks_9 (by decide) ((nI_leI (by omega) (by omega)).mpr n3) ?_
      refine x_iload_n dX4_passTicks_15 rfl rfl ?_
      refine x_ldc (nI 99999) wx_X4_122 dX4_passTicks_16 ?_
      refine x_aload_n dX4_passTicks_18 rfl rfl ?_
      refine x_getI fl_X4_52 dX4_passTicks_19 hS.k0 hS.lt0 rfl (x_eqtop hJ.f4 ?_)
      rw [ec]
      refine x_isubN dX4_passTicks_22 (by omega) ?_
      refine x_icmp_leT 29 dX4_passTicks_23 (by decide) ((nI_leI (by omega) (by omega)).mpr (by omega)) ?_
      refine x_aload_n dX4_passTicks_29 rfl rfl ?_
      refine x_callVd0 (mt' := mX4_messagesThatCame) (sp_messagesThatCame hS hJ) kvX4_messagesThatCame wl_X4_123 (by decide) dX4_passTicks_30 hS.k0 hS.lt0 rfl rfl (Nat.le_of_ble_eq_true rfl) ⟨rfl, rfl⟩ (by decide) ?_
      refine x_istore_n dX4_passTicks_33 rfl (by decide) ?_
      refine x_iconst (nI 0) dX4_passTicks_34 (by decide) ?_
      refine x_istore_n dX4_passTicks_35 rfl (by decide) ?_
      refine lp_pass hS hT n3 n 0 _ (by omega) hO hJ (fun I hO hJ => ?_)
      refine x_aload_n dX4_passTicks_51 rfl rfl ?_
      refine x_callVd0 (mt' := mX4_messagesThatCame) (sp_messagesThatCame hS hJ) kvX4_messagesThatCame wl_X4_123 (by decide) dX4_passTicks_52 hS.k0 hS.lt0 rfl rfl (Nat.le_of_ble_eq_true rfl) ⟨rfl, rfl⟩ (by decide) ?_
      refine x_iload_n dX4_passTicks_55 rfl rfl ?_
      refine x_isub dX4_passTicks_56 ?_
      refine x_iret dX4_passTicks_57 rfl (by decide) (by decide) ?_
      exact ⟨rfl, rfl, rfl, hO, hJ⟩
    · rw [show pRun Z (nI n) = (-3, Z) by unfold pRun; rw [if_pos h1, ec, nI_add, if_neg (fun q => h2 ((nI_leI (by omega) (by omega)).mp q))]]
      refine x_iload_n dX4_passTicks_0 rfl rfl ?_
      refine x_iconst (nI 1) dX4_passTicks_1 (by decide) ?_
      refine x_icmp_ltF dX4_passTicks_2 (fun q => absurd ((nI_ltI (by omega) (by omega)).mp q) (by omega)) ?_ 12 (by decide)
      refine x_iload_n dX4_passTicks_5 rfl rfl ?_
      refine x_sipush (nI 300) dX4_passTicks_6 (by decide) ?_
      refine x_icmp_leT 15 dX4_passTicks_9 (by decide) ((nI_leI (by omega) (by omega)).mpr n3) ?_
      refine x_iload_n dX4_passTicks_15 rfl rfl ?_
      refine x_ldc (nI 99999) wx_X4_122 dX4_passTicks_16 ?_
      refine x_aload_n dX4_passTicks_18 rfl rfl ?_
      refine x_getI fl_X4_52 dX4_passTicks_19 hS.k0 hS.lt0 rfl (x_eqtop hJ.f4 ?_)
      rw [ec]
      refine x_isubN dX4_passTicks_22 (by omega) ?_
      refine x_icmp_leF dX4_passTicks_23 (fun q => h2 (by have := (nI_leI (by omega) (by omega)).mp q; omega)) ?_ 29 (by decide)
      refine x_bipush (-3) dX4_passTicks_26 (by decide) ?_
      refine x_iret dX4_passTicks_28 rfl (by decide) (by decide) ?_
      exact ⟨rfl, rfl, rfl, hO, hJ⟩
  · rw [show pRun Z t = (-2, Z) from if_neg h1]
    refine x_iload_n dX4_passTicks_0 rfl rfl ?_
    refine x_iconst (nI 1) dX4_passTicks_1 (by decide) ?_
    refine x_icmp_lt 12 dX4_passTicks_2 (by decide) (fun c2 => ?_) (fun c2 => ?_)
    · skip
      refine x_bipush (-2) dX4_passTicks_12 (by decide) ?_
      refine x_iret dX4_passTicks_14 rfl (by decide) (by decide) ?_
      exact ⟨rfl, rfl, rfl, hO, hJ⟩
    · skip
      refine x_iload_n dX4_passTicks_5 rfl rfl ?_
      refine x_sipush (nI 300) dX4_passTicks_6 (by decide) ?_
      refine x_icmp_le 15 dX4_passTicks_9 (by decide) (fun c9 => ?_) (fun c9 => ?_)
      · skip
        exact absurd (decide_eq_true ⟨Int32.not_lt.mp c2, c9⟩) h1
      · skip
        refine x_bipush (-2) dX4_passTicks_12 (by decide) ?_
        refine x_iret dX4_passTicks_14 rfl (by decide) (by decide) ?_
        exact ⟨rfl, rfl, rfl, hO, hJ⟩
end CL
