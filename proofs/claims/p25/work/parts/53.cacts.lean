
/-! the class: acts on listeners -/
section CM
variable {g : GX} {cx : CX} {mt : MT} {F : State → Prop} {cs : Nat × Nat} {pc : Nat} {ls : List (Option Value)} {st : List Value} {I I0 : MI} {R : MR} {o : Nat} {Z : MI}
theorem x_putLw {idx k w : Nat} {v : Int32} (hS : St R o) (hO : Off o I0 I) (hJ : SJ o I Z) (hk : k < 4) (hw : w ≠ 2) (fl : FL mt.1.cls idx 1 w) (fp : FP 1 w false .int) (hr : xrf 1 w = false) (hd : decode mt.2.1 pc = .ok (.putfield idx, 3)) (kk : ∀ I', Off o I0 I' → SJ o I' (xuI Z (4 + k) w v) → X g cx mt F cs (pc + 3) ls st 131 I' R) : X g cx mt F cs pc ls (.int v :: .ref (o + 14 + k) :: st) 131 I R := by
  refine x_putI fl fp hd (hS.kl hk) (hS.ltl hk) hr rfl rfl ?_
  refine x_eqI ((congrArg (fun Y => xuI Y (o + 14 + k) w v) (rw1_id (I := I) (a := o + 14 + k)).symm).trans rw1_u) ?_
  refine kk _ (hO.tr (Off.ls hk)) ?_
  rw [xuI_rw1]
  exact hJ.uls hk ((hJ.2.1 k hk).u hw)
end CM
section CL
variable {I J0 : MI} {R : MR} {o : Nat} {Z : MI}
theorem sp_giveHold (hS : St R o) (hJ : SJ o J0 Z) (s t : Int32) : Sp mX4_giveHold [.ref o, .int s, .int t] 131 J0 R (SQ o J0 R (some (.int (pHold Z s t).1)) (pHold Z s t).2) := by
  refine Sp.mk (by decide +kernel) (by simp [Value.category]) (Nat.le_of_ble_eq_true rfl) (fun g cx => ?_)
  have hO : Off o J0 J0 := Off.rf
  by_cases h1 : inr s (nI 0) (nI 3) = true
  · obtain ⟨k, -, hk, rfl⟩ := inr_of (by omega) h1 (by omega)
    by_cases h2 : inr t (nI 0) (nI 9) = true
    · have e : pHold Z (nI k) t = (if Z (4 + k) 1 = t then -5 else Z (4 + k) 1, xuI Z (4 + k) 1 t) := by unfold pHold; rw [if_pos h1, if_pos h2, nI_cl (by omega)]
      have h2' := of_decide_eq_true h2
      by_cases h3 : Z (4 + k) 1 = t
      · rw [e, if_pos h3, xuI_id h3]
        refine x_aload_n dX4_giveHold_0 rfl rfl ?_
        refine x_iload_n dX4_giveHold_1 rfl rfl ?_
        refine x_callVd0 (mt' := mX4_listenerAt) (sp_listenerAt hS (by omega)) kvX4_listenerAt wl_X4_96 (by decide) dX4_giveHold_2 hS.k0 hS.lt0 rfl rfl (Nat.le_of_ble_eq_true rfl) ⟨rfl, rfl⟩ (by decide) ?_
        refine x_astore_n dX4_giveHold_5 rfl (by decide) ?_
        refine x_aload_n dX4_giveHold_6 rfl rfl ?_
        refine x_ifnonnull 12 dX4_giveHold_7 (by decide) ?_
        refine x_iload_n dX4_giveHold_12 rfl rfl ?_
        refine x_if_ltF dX4_giveHold_13 (Int32.not_lt.mpr h2'.1) ?_ 22 (by decide)
        refine x_iload_n dX4_giveHold_16 rfl rfl ?_
        refine x_bipush (nI 9) dX4_giveHold_17 (by decide) ?_
        refine x_icmp_leT 25 dX4_giveHold_19 (by decide) (h2'.2) ?_
        refine x_aload_n dX4_giveHold_25 rfl rfl ?_
        refine x_getI fl_X4_110 dX4_giveHold_26 (hS.kl (by omega)) (hS.ltl (by omega)) rfl (x_eqtop (hJ.l1 (by omega)) ?_)
        refine x_iload_n dX4_giveHold_29 rfl rfl ?_
        refine x_icmp_neF dX4_giveHold_30 (h3) ?_ 36 (by decide)
        refine x_bipush (-5) dX4_giveHold_33 (by decide) ?_
        refine x_iret dX4_giveHold_35 rfl (by decide) (by decide) ?_
        exact ⟨rfl, rfl, rfl, hO, hJ⟩
      · rw [e, if_neg h3]
        refine x_aload_n dX4_giveHold_0 rfl rfl ?_
        refine x_iload_n dX4_giveHold_1 rfl rfl ?_
        refine x_callVd0 (mt' := mX4_listenerAt) (sp_listenerAt hS (by omega)) kvX4_listenerAt wl_X4_96 (by decide) dX4_giveHold_2 hS.k0 hS.lt0 rfl rfl (Nat.le_of_ble_eq_true rfl) ⟨rfl, rfl⟩ (by decide) ?_
        refine x_astore_n dX4_giveHold_5 rfl (by decide) ?_
        refine x_aload_n dX4_giveHold_6 rfl rfl ?_
        refine x_ifnonnull 12 dX4_giveHold_7 (by decide) ?_
        refine x_iload_n dX4_giveHold_12 rfl rfl ?_
        refine x_if_ltF dX4_giveHold_13 (Int32.not_lt.mpr h2'.1) ?_ 22 (by decide)
        refine x_iload_n dX4_giveHold_16 rfl rfl ?_
        refine x_bipush (nI 9) dX4_giveHold_17 (by decide) ?_
        refine x_icmp_leT 25 dX4_giveHold_19 (by decide) (h2'.2) ?_
        refine x_aload_n dX4_giveHold_25 rfl rfl ?_
        refine x_getI fl_X4_110 dX4_giveHold_26 (hS.kl (by omega)) (hS.ltl (by omega)) rfl (x_eqtop (hJ.l1 (by omega)) ?_)
        refine x_iload_n dX4_giveHold_29 rfl rfl ?_
        refine x_icmp_neT 36 dX4_giveHold_30 (by decide) (h3) ?_
        refine x_aload_n dX4_giveHold_36 rfl rfl ?_
        refine x_getI fl_X4_110 dX4_giveHold_37 (hS.kl (by omega)) (hS.ltl (by omega)) rfl (x_eqtop (hJ.l1 (by omega)) ?_)
        refine x_istore dX4_giveHold_40 (by decide) ?_
        refine x_aload_n dX4_giveHold_42 rfl rfl ?_
        refine x_iload_n dX4_giveHold_43 rfl rfl ?_
        refine x_putLw hS hO hJ (by omega) (by omega) fl_X4_110 fp_1_1 rfl dX4_giveHold_44 (fun I hO hJ => ?_)
        refine x_iload dX4_giveHold_47 rfl ?_
        refine x_iret dX4_giveHold_49 rfl (by decide) (by decide) ?_
        exact ⟨rfl, rfl, rfl, hO, hJ⟩
    · rw [show pHold Z (nI k) t = (-2, Z) by unfold pHold; rw [if_pos h1, if_neg h2]]
      refine x_aload_n dX4_giveHold_0 rfl rfl ?_
      refine x_iload_n dX4_giveHold_1 rfl rfl ?_
      refine x_callVd0 (mt' := mX4_listenerAt) (sp_listenerAt hS (by omega)) kvX4_listenerAt wl_X4_96 (by decide) dX4_giveHold_2 hS.k0 hS.lt0 rfl rfl (Nat.le_of_ble_eq_true rfl) ⟨rfl, rfl⟩ (by decide) ?_
      refine x_astore_n dX4_giveHold_5 rfl (by decide) ?_
      refine x_aload_n dX4_giveHold_6 rfl rfl ?_
      refine x_ifnonnull 12 dX4_giveHold_7 (by decide) ?_
      refine x_iload_n dX4_giveHold_12 rfl rfl ?_
      refine x_if_lt 22 dX4_giveHold_13 (by decide) (fun c13 => ?_) (fun c13 => ?_)
      · skip
        refine x_bipush (-2) dX4_giveHold_22 (by decide) ?_
        refine x_iret dX4_giveHold_24 rfl (by decide) (by decide) ?_
        exact ⟨rfl, rfl, rfl, hO, hJ⟩
      · skip
        refine x_iload_n dX4_giveHold_16 rfl rfl ?_
        refine x_bipush (nI 9) dX4_giveHold_17 (by decide) ?_
        refine x_icmp_le 25 dX4_giveHold_19 (by decide) (fun c19 => ?_) (fun c19 => ?_)
        · skip
          exact absurd (decide_eq_true ⟨Int32.not_lt.mp c13, c19⟩) h2
        · skip
          refine x_bipush (-2) dX4_giveHold_22 (by decide) ?_
          refine x_iret dX4_giveHold_24 rfl (by decide) (by decide) ?_
          exact ⟨rfl, rfl, rfl, hO, hJ⟩
  · rw [show pHold Z s t = (-1, Z) from if_neg h1]
    refine x_aload_n dX4_giveHold_0 rfl rfl ?_
    refine x_iload_n dX4_giveHold_1 rfl rfl ?_
    refine x_callVd0 (mt' := mX4_listenerAt) (sp_listenerAtN hS (by simpa using h1)) kvX4_listenerAt wl_X4_96 (by decide) dX4_giveHold_2 hS.k0 hS.lt0 rfl rfl (Nat.le_of_ble_eq_true rfl) ⟨rfl, rfl⟩ (by decide) ?_
    refine x_astore_nN dX4_giveHold_5 rfl (by decide) ?_
    refine x_aload_nN dX4_giveHold_6 rfl rfl ?_
    refine x_ifnonnullN dX4_giveHold_7 ?_
    refine x_iconst (-1) dX4_giveHold_10 (by decide) ?_
    refine x_iret dX4_giveHold_11 rfl (by decide) (by decide) ?_
    exact ⟨rfl, rfl, rfl, hO, hJ⟩
theorem sp_makeStuck (hS : St R o) (hJ : SJ o J0 Z) (s t : Int32) : Sp mX4_makeStuck [.ref o, .int s, .int t] 131 J0 R (SQ o J0 R (some (.int (pStick Z s t).1)) (pStick Z s t).2) := by
  refine Sp.mk (by decide +kernel) (by simp [Value.category]) (Nat.le_of_ble_eq_true rfl) (fun g cx => ?_)
  have hO : Off o J0 J0 := Off.rf
  by_cases h1 : inr s (nI 0) (nI 3) = true
  · obtain ⟨k, -, hk, rfl⟩ := inr_of (by omega) h1 (by omega)
    by_cases h2 : inr t (nI 1) (nI 99) = true
    · have h2' := of_decide_eq_true h2
      obtain ⟨n, n1, n9, rfl⟩ := inr_of (by omega) h2 (by omega)
      rw [show pStick Z (nI k) (nI n) = (nI (cn (stu (xuI Z (4 + k) 2 (nI n))) 4), xuI Z (4 + k) 2 (nI n)) by unfold pStick; rw [if_pos h1, if_pos h2, nI_cl (by omega)]]
      refine x_aload_n dX4_makeStuck_0 rfl rfl ?_
      refine x_iload_n dX4_makeStuck_1 rfl rfl ?_
      refine x_callVd0 (mt' := mX4_listenerAt) (sp_listenerAt hS (by omega)) kvX4_listenerAt wl_X4_96 (by decide) dX4_makeStuck_2 hS.k0 hS.lt0 rfl rfl (Nat.le_of_ble_eq_true rfl) ⟨rfl, rfl⟩ (by decide) ?_
      refine x_astore_n dX4_makeStuck_5 rfl (by decide) ?_
      refine x_aload_n dX4_makeStuck_6 rfl rfl ?_
      refine x_ifnonnull 12 dX4_makeStuck_7 (by decide) ?_
      refine x_iload_n dX4_makeStuck_12 rfl rfl ?_
      refine x_iconst (nI 1) dX4_makeStuck_13 (by decide) ?_
      refine x_icmp_ltF dX4_makeStuck_14 (Int32.not_lt.mpr h2'.1) ?_ 23 (by decide)
      refine x_iload_n dX4_makeStuck_17 rfl rfl ?_
      refine x_bipush (nI 99) dX4_makeStuck_18 (by decide) ?_
      refine x_icmp_leT 26 dX4_makeStuck_20 (by decide) (h2'.2) ?_
      refine x_aload_n dX4_makeStuck_26 rfl rfl ?_
      refine x_iload_n dX4_makeStuck_27 rfl rfl ?_
      refine x_putL hS hO hJ (by omega) n9 fl_X4_113 dX4_makeStuck_28 (fun I hO hJ => ?_)
      refine x_aload_n dX4_makeStuck_31 rfl rfl ?_
      refine x_callVd0 (mt' := mX4_stuckListeners) (sp_stuckListeners hS hJ) kvX4_stuckListeners wl_X4_116 (by decide) dX4_makeStuck_32 hS.k0 hS.lt0 rfl rfl (Nat.le_of_ble_eq_true rfl) ⟨rfl, rfl⟩ (by decide) ?_
      refine x_iret dX4_makeStuck_35 rfl (by decide) (by decide) ?_
      exact ⟨rfl, rfl, rfl, hO, hJ⟩
    · rw [show pStick Z (nI k) t = (-2, Z) by unfold pStick; rw [if_pos h1, if_neg h2]]
      refine x_aload_n dX4_makeStuck_0 rfl rfl ?_
      refine x_iload_n dX4_makeStuck_1 rfl rfl ?_
      refine x_callVd0 (mt' := mX4_listenerAt) (sp_listenerAt hS (by omega)) kvX4_listenerAt wl_X4_96 (by decide) dX4_makeStuck_2 hS.k0 hS.lt0 rfl rfl (Nat.le_of_ble_eq_true rfl) ⟨rfl, rfl⟩ (by decide) ?_
      refine x_astore_n dX4_makeStuck_5 rfl (by decide) ?_
      refine x_aload_n dX4_makeStuck_6 rfl rfl ?_
      refine x_ifnonnull 12 dX4_makeStuck_7 (by decide) ?_
      refine x_iload_n dX4_makeStuck_12 rfl rfl ?_
      refine x_iconst (nI 1) dX4_makeStuck_13 (by decide) ?_
      refine x_icmp_lt 23 dX4_makeStuck_14 (by decide) (fun c14 => ?_) (fun c14 => ?_)
      · skip
        refine x_bipush (-2) dX4_makeStuck_23 (by decide) ?_
        refine x_iret dX4_makeStuck_25 rfl (by decide) (by decide) ?_
        exact ⟨rfl, rfl, rfl, hO, hJ⟩
      · skip
        refine x_iload_n dX4_makeStuck_17 rfl rfl ?_
        refine x_bipush (nI 99) dX4_makeStuck_18 (by decide) ?_
        refine x_icmp_le 26 dX4_makeStuck_20 (by decide) (fun c20 => ?_) (fun c20 => ?_)
        · skip
          exact absurd (decide_eq_true ⟨Int32.not_lt.mp c14, c20⟩) h2
        · skip
          refine x_bipush (-2) dX4_makeStuck_23 (by decide) ?_
          refine x_iret dX4_makeStuck_25 rfl (by decide) (by decide) ?_
          exact ⟨rfl, rfl, rfl, hO, hJ⟩
  · rw [show pStick Z s t = (-1, Z) from if_neg h1]
    refine x_aload_n dX4_makeStuck_0 rfl rfl ?_
    refine x_iload_n dX4_makeStuck_1 rfl rfl ?_
    refine x_callVd0 (mt' := mX4_listenerAt) (sp_listenerAtN hS (by simpa using h1)) kvX4_listenerAt wl_X4_96 (by decide) dX4_makeStuck_2 hS.k0 hS.lt0 rfl rfl (Nat.le_of_ble_eq_true rfl) ⟨rfl, rfl⟩ (by decide) ?_
    refine x_astore_nN dX4_makeStuck_5 rfl (by decide) ?_
    refine x_aload_nN dX4_makeStuck_6 rfl rfl ?_
    refine x_ifnonnullN dX4_makeStuck_7 ?_
    refine x_iconst (-1) dX4_makeStuck_10 (by decide) ?_
    refine x_iret dX4_makeStuck_11 rfl (by decide) (by decide) ?_
    exact ⟨rfl, rfl, rfl, hO, hJ⟩
end CL
