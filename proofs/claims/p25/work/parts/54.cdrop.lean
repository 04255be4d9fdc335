
/-! the class: taking back -/
theorem SPJ_drop {F P z : Nat → Int32} {m : Nat} (h : SPJ F P z) (hm : z 0 = nI m) (h1 : 1 ≤ m) (h5 : m ≤ 5) (ht : z 1 = bi true → 2 ≤ m) : SPJ (if m = 1 then skRem F m else upd F 1 (nI (m - 1))) P (upd (upd z 0 (nI (m - 1))) 6 (if m = 1 then nI 0 else z 6)) := by
  obtain ⟨m0, t, a1, a2, a3, a4, a5, a6⟩ := h
  have em : m0 = m := by
    have := congrArg Int32.toInt (a2.symm.trans hm)
    rw [nI_toInt (by omega), nI_toInt (by omega)] at this
    omega
  subst em
  refine ⟨m0 - 1, t, by omega, by rw [upd_ne (by omega)]; exact upd_self, by rw [upd_ne (by omega), upd_ne (by omega)]; exact a3, (fun q => by have := ht (by rw [a3, q]); omega), fun w hw => ?_, fun j hj => ?_⟩
  · by_cases e : m0 = 1
    · rw [if_pos e, if_pos e]
      unfold skRem
      by_cases h6 : w = 6
      · subst h6; rw [upd_self, upd_self]
      · rw [upd_ne (by omega), upd_ne h6]
        by_cases h0 : w = 0
        · subst h0; rw [upd_self, upd_self]
        · rw [upd_ne (by omega), upd_ne h0]; exact a5 w hw
    · rw [if_neg e, if_neg e]
      by_cases h0 : w = 0
      · subst h0; rw [upd_self, upd_ne (by omega), upd_self]
      · rw [upd_ne (by omega)]
        by_cases h6 : w = 6
        · subst h6; rw [upd_self]; exact a5 6 (by omega)
        · rw [upd_ne h6, upd_ne h0]; exact a5 w hw
  · rw [upd_ne (by omega), upd_ne (by omega), upd_ne (by omega), upd_ne (by omega), upd_ne (by omega), upd_ne (by omega)]
    exact a6 j (by omega)
section CL
variable {I J0 : MI} {R : MR} {o : Nat} {Z : MI}
theorem sp_dropLast (hS : St R o) (hJ : SJ o J0 Z) (s : Int32) : Sp mX4_dropLast [.ref o, .int s] 131 J0 R (SQ o J0 R (some (.int (pTake Z s).1)) (pTake Z s).2) := by
  refine Sp.mk (by decide +kernel) (by simp [Value.category]) (Nat.le_of_ble_eq_true rfl) (fun g cx => ?_)
  have hO : Off o J0 J0 := Off.rf
  by_cases h1 : inr s (nI 0) (nI 3) = true
  · obtain ⟨k, -, hk, rfl⟩ := inr_of (by omega) h1 (by omega)
    obtain ⟨m, h5, em⟩ := hJ.sz (k := k) (by omega)
    by_cases h2 : Z k 0 = nI 1 ∧ tk Z k = true
    · rw [show pTake Z (nI k) = (-4, Z) by unfold pTake; rw [if_pos h1, nI_cl (by omega), if_pos h2]]
      refine x_aload_n dX4_dropLast_0 rfl rfl ?_
      refine x_iload_n dX4_dropLast_1 rfl rfl ?_
      refine x_callVd0 (mt' := mX4_speakerAt) (sp_speakerAt hS (by omega)) kvX4_speakerAt wl_X4_74 (by decide) dX4_dropLast_2 hS.k0 hS.lt0 rfl rfl (Nat.le_of_ble_eq_true rfl) ⟨rfl, rfl⟩ (by decide) ?_
      refine x_astore_n dX4_dropLast_5 rfl (by decide) ?_
      refine x_aload_n dX4_dropLast_6 rfl rfl ?_
      refine x_ifnonnull 12 dX4_dropLast_7 (by decide) ?_
      refine x_aload_n dX4_dropLast_12 rfl rfl ?_
      refine x_getI fl_X4_82 dX4_dropLast_13 (hS.ks (by omega)) (hS.lts (by omega)) rfl (x_eqtop (hJ.s0 (by omega)) ?_)
      refine x_iconst (nI 1) dX4_dropLast_16 (by decide) ?_
      refine x_icmp_neF dX4_dropLast_17 (h2.1) ?_ 30 (by decide)
      refine x_aload_n dX4_dropLast_20 rfl rfl ?_
      refine x_getI fl_X4_89 dX4_dropLast_21 (hS.ks (by omega)) (hS.lts (by omega)) rfl (x_eqtop (hJ.s1 (by omega)) ?_)
      refine x_if_eqF dX4_dropLast_24 (by rw [h2.2]; decide) ?_ 30 (by decide)
      refine x_bipush (-4) dX4_dropLast_27 (by decide) ?_
      refine x_iret dX4_dropLast_29 rfl (by decide) (by decide) ?_
      exact ⟨rfl, rfl, rfl, hO, hJ⟩
    · by_cases h3 : Z k 0 = 0
      · rw [show pTake Z (nI k) = (-5, Z) by unfold pTake; rw [if_pos h1, nI_cl (by omega), if_neg h2, if_pos h3]]
        refine x_aload_n dX4_dropLast_0 rfl rfl ?_
        refine x_iload_n dX4_dropLast_1 rfl rfl ?_
        refine x_callVd0 (mt' := mX4_speakerAt) (sp_speakerAt hS (by omega)) kvX4_speakerAt wl_X4_74 (by decide) dX4_dropLast_2 hS.k0 hS.lt0 rfl rfl (Nat.le_of_ble_eq_true rfl) ⟨rfl, rfl⟩ (by decide) ?_
        refine x_astore_n dX4_dropLast_5 rfl (by decide) ?_
        refine x_aload_n dX4_dropLast_6 rfl rfl ?_
        refine x_ifnonnull 12 dX4_dropLast_7 (by decide) ?_
        refine x_aload_n dX4_dropLast_12 rfl rfl ?_
        refine x_getI fl_X4_82 dX4_dropLast_13 (hS.ks (by omega)) (hS.lts (by omega)) rfl (x_eqtop (hJ.s0 (by omega)) ?_)
        refine x_iconst (nI 1) dX4_dropLast_16 (by decide) ?_
        refine x_icmp_neT 30 dX4_dropLast_17 (by decide) (fun q => by rw [h3] at q; exact absurd q (by decide)) ?_
        refine x_aload_n dX4_dropLast_30 rfl rfl ?_
        refine x_getI fl_X4_82 dX4_dropLast_31 (hS.ks (by omega)) (hS.lts (by omega)) rfl (x_eqtop (hJ.s0 (by omega)) ?_)
        refine x_if_neF dX4_dropLast_34 (h3) ?_ 40 (by decide)
        refine x_bipush (-5) dX4_dropLast_37 (by decide) ?_
        refine x_iret dX4_dropLast_39 rfl (by decide) (by decide) ?_
        exact ⟨rfl, rfl, rfl, hO, hJ⟩
      · have m1 : 1 ≤ m := Nat.pos_of_ne_zero (fun q => h3 (by rw [em, q]; rfl))
        have e1 : Z k 0 = nI 1 ↔ m = 1 := by rw [em]; exact nI_eq (by omega) (by omega)
        have ez : pTake Z (nI k) = (nI (m - 1), rw1 Z k (upd (upd (Z k) 0 (nI (m - 1))) 6 (if m = 1 then nI 0 else Z k 6))) := by
          unfold pTake
          rw [if_pos h1, nI_cl (by omega), if_neg h2, if_neg h3, em, nI_sub1 m1, xuI_rw1, xuI_rw1, rw1_self]
          have : (if nI m = nI 1 then nI 0 else Z k 6) = if m = 1 then nI 0 else Z k 6 := by
            rw [← em]
            by_cases q : m = 1
            · rw [if_pos q, if_pos (e1.mpr q)]
            · rw [if_neg q, if_neg (fun z => q (e1.mp z))]
          rw [this]
          congr 1
          funext a
          by_cases ha : a = k
          · subst ha; rw [rw1_self, rw1_self]
          · rw [rw1_ne ha, rw1_ne ha, rw1_ne ha]
        rw [ez]
        have ht : Z k 1 = bi true → 2 ≤ m := fun q => by
          refine Decidable.byContradiction fun z => h2 ⟨e1.mpr (by omega), ?_⟩
          unfold tk
          rw [q]
          decide
        refine x_aload_n dX4_dropLast_0 rfl rfl ?_
        refine x_iload_n dX4_dropLast_1 rfl rfl ?_
        refine x_callVd0 (mt' := mX4_speakerAt) (sp_speakerAt hS (by omega)) kvX4_speakerAt wl_X4_74 (by decide) dX4_dropLast_2 hS.k0 hS.lt0 rfl rfl (Nat.le_of_ble_eq_true rfl) ⟨rfl, rfl⟩ (by decide) ?_
        refine x_astore_n dX4_dropLast_5 rfl (by decide) ?_
        refine x_aload_n dX4_dropLast_6 rfl rfl ?_
        refine x_ifnonnull 12 dX4_dropLast_7 (by decide) ?_
        refine x_aload_n dX4_dropLast_12 rfl rfl ?_
        refine x_getI fl_X4_82 dX4_dropLast_13 (hS.ks (by omega)) (hS.lts (by omega)) rfl (x_eqtop (hJ.s0 (by omega)) ?_)
        refine x_iconst (nI 1) dX4_dropLast_16 (by decide) ?_
        refine x_icmp_ne 30 dX4_dropLast_17 (by decide) (fun c17 => ?_) (fun c17 => ?_)
        · skip
          refine x_aload_n dX4_dropLast_30 rfl rfl ?_
          refine x_getI fl_X4_82 dX4_dropLast_31 (hS.ks (by omega)) (hS.lts (by omega)) rfl (x_eqtop (hJ.s0 (by omega)) ?_)
          refine x_if_neT 40 dX4_dropLast_34 (by decide) (h3) ?_
          refine x_aload_n dX4_dropLast_40 rfl rfl ?_
          refine x_callSp hS hO hJ (k := k) (by omega) (mt' := mX3_removeLast) (sp_X3_removeLast (hS.sk (by omega)) m1 h5 ((hJ.s0 (by omega)).trans em)) (SPJ_drop (hJ.1 k (by omega)) em m1 h5 ht) kvX3_removeLast wl_X4_93 (by decide) dX4_dropLast_41 rfl rfl (Nat.le_of_ble_eq_true rfl) ⟨rfl, rfl⟩ (by decide) (fun I hO hJ => ?_)
          refine x_aload_n dX4_dropLast_44 rfl rfl ?_
          refine x_getI fl_X4_82 dX4_dropLast_45 (hS.ks (by omega)) (hS.lts (by omega)) rfl (x_eqtop (hJ.s0 (by omega)) ?_)
          rw [show rw1 Z k (upd (upd (Z k) 0 (nI (m - 1))) 6 (if m = 1 then nI 0 else Z k 6)) k 0 = nI (m - 1) by rw [rw1_self, upd_ne (by omega)]; exact upd_self]
          refine x_iret dX4_dropLast_48 rfl (by decide) (by decide) ?_
          exact ⟨rfl, rfl, rfl, hO, hJ⟩
        · skip
          refine x_aload_n dX4_dropLast_20 rfl rfl ?_
          refine x_getI fl_X4_89 dX4_dropLast_21 (hS.ks (by omega)) (hS.lts (by omega)) rfl (x_eqtop (hJ.s1 (by omega)) ?_)
          refine x_if_eq 30 dX4_dropLast_24 (by decide) (fun c24 => ?_) (fun c24 => ?_)
          · skip
            refine x_aload_n dX4_dropLast_30 rfl rfl ?_
            refine x_getI fl_X4_82 dX4_dropLast_31 (hS.ks (by omega)) (hS.lts (by omega)) rfl (x_eqtop (hJ.s0 (by omega)) ?_)
            refine x_if_neT 40 dX4_dropLast_34 (by decide) (h3) ?_
            refine x_aload_n dX4_dropLast_40 rfl rfl ?_
            refine x_callSp hS hO hJ (k := k) (by omega) (mt' := mX3_removeLast) (sp_X3_removeLast (hS.sk (by omega)) m1 h5 ((hJ.s0 (by omega)).trans em)) (SPJ_drop (hJ.1 k (by omega)) em m1 h5 ht) kvX3_removeLast wl_X4_93 (by decide) dX4_dropLast_41 rfl rfl (Nat.le_of_ble_eq_true rfl) ⟨rfl, rfl⟩ (by decide) (fun I hO hJ => ?_)
            refine x_aload_n dX4_dropLast_44 rfl rfl ?_
            refine x_getI fl_X4_82 dX4_dropLast_45 (hS.ks (by omega)) (hS.lts (by omega)) rfl (x_eqtop (hJ.s0 (by omega)) ?_)
            rw [show rw1 Z k (upd (upd (Z k) 0 (nI (m - 1))) 6 (if m = 1 then nI 0 else Z k 6)) k 0 = nI (m - 1) by rw [rw1_self, upd_ne (by omega)]; exact upd_self]
            refine x_iret dX4_dropLast_48 rfl (by decide) (by decide) ?_
            exact ⟨rfl, rfl, rfl, hO, hJ⟩
          · skip
            exact absurd ⟨Decidable.not_not.mp (fun q => q c17), bi_nt c24⟩ h2
  · rw [show pTake Z s = (-1, Z) from if_neg h1]
    refine x_aload_n dX4_dropLast_0 rfl rfl ?_
    refine x_iload_n dX4_dropLast_1 rfl rfl ?_
    refine x_callVd0 (mt' := mX4_speakerAt) (sp_speakerAtN hS (by simpa using h1)) kvX4_speakerAt wl_X4_74 (by decide) dX4_dropLast_2 hS.k0 hS.lt0 rfl rfl (Nat.le_of_ble_eq_true rfl) ⟨rfl, rfl⟩ (by decide) ?_
    refine x_astore_nN dX4_dropLast_5 rfl (by decide) ?_
    refine x_aload_nN dX4_dropLast_6 rfl rfl ?_
    refine x_ifnonnullN dX4_dropLast_7 ?_
    refine x_iconst (-1) dX4_dropLast_10 (by decide) ?_
    refine x_iret dX4_dropLast_11 rfl (by decide) (by decide) ?_
    exact ⟨rfl, rfl, rfl, hO, hJ⟩
end CL
