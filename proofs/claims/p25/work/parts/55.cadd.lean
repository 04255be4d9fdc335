
/-! the class: a message more -/
theorem dbl_n : ∀ x, x < 128 → nI x <<< 1 = nI (2 * x) := by decide +kernel
theorem SPJ_app {F P z : Nat → Int32} {m x : Nat} {y d : Int32} (h : SPJ F P z) (hm : z 0 = nI m) (h5 : m < 5) (hx : x < 128) : SPJ (upd F 1 (nI (m + 1))) (skApp P m (nI x) y d) (upd (upd (upd (upd z (7 + 3 * m) (nI x)) (7 + 3 * m + 1) y) (7 + 3 * m + 2) d) 0 (nI (m + 1))) := by
  obtain ⟨m0, t, a1, a2, a3, a4, a5, a6⟩ := h
  have em : m0 = m := by
    have := congrArg Int32.toInt (a2.symm.trans hm)
    rw [nI_toInt (by omega), nI_toInt (by omega)] at this
    omega
  subst em
  refine ⟨m0 + 1, t, by omega, upd_self, ?_, (fun _ => by omega), fun w hw => ?_, fun j hj => ?_⟩
  · rw [upd_ne (by omega), upd_ne (by omega), upd_ne (by omega), upd_ne (by omega)]; exact a3
  · by_cases h0 : w = 0
    · subst h0; rw [upd_self, upd_self]
    · rw [upd_ne (by omega), upd_ne (by omega), upd_ne (by omega), upd_ne (by omega), upd_ne (by omega)]; exact a5 w hw
  · unfold skApp
    by_cases e : j = m0
    · subst e
      refine ⟨⟨x, hx, ?_, ?_⟩, ?_, ?_⟩
      · rw [upd_ne (by omega), upd_ne (by omega), upd_ne (by omega)]; exact upd_self
      · rw [upd_ne (by omega), upd_ne (by omega), upd_self]; exact dbl_n x hx
      · rw [upd_ne (by omega), upd_self, upd_ne (by omega), upd_ne (by omega), show 8 + 3 * j = 7 + 3 * j + 1 by omega, upd_self]
      · rw [upd_self, upd_ne (by omega), show 9 + 3 * j = 7 + 3 * j + 2 by omega, upd_self]
    · obtain ⟨⟨u, q0, q1, q2⟩, q3, q4⟩ := a6 j (by omega)
      refine ⟨⟨u, q0, ?_, ?_⟩, ?_, ?_⟩
      · rw [upd_ne (by omega), upd_ne (by omega), upd_ne (by omega), upd_ne (by omega)]; exact q1
      · rw [upd_ne (by omega), upd_ne (by omega), upd_ne (by omega)]; exact q2
      · rw [upd_ne (by omega), upd_ne (by omega), upd_ne (by omega), upd_ne (by omega), upd_ne (by omega), upd_ne (by omega), upd_ne (by omega)]; exact q3
      · rw [upd_ne (by omega), upd_ne (by omega), upd_ne (by omega), upd_ne (by omega), upd_ne (by omega), upd_ne (by omega), upd_ne (by omega)]; exact q4
section CL
variable {I J0 : MI} {R : MR} {o : Nat} {Z : MI}
theorem pAdd_rw {k m : Nat} {a w d : Int32} : pAdd Z k m a w d = rw1 Z k (upd (upd (upd (upd (Z k) (7 + 3 * m) a) (7 + 3 * m + 1) w) (7 + 3 * m + 2) d) 0 (nI (m + 1))) := by
  unfold pAdd
  funext i
  by_cases h : i = k
  · subst h
    rw [rw1_self]
    funext b
    simp [xuI, upd]
  · rw [rw1_ne h, xuI_row h, xuI_row h, xuI_row h, xuI_row h]
theorem sp_addMessage (hS : St R o) (hJ : SJ o J0 Z) (s a w d : Int32) : Sp mX4_addMessage [.ref o, .int s, .int a, .int w, .int d] 131 J0 R (SQ o J0 R (some (.int (pSay Z s a w d).1)) (pSay Z s a w d).2) := by
  refine Sp.mk (by decide +kernel) (by simp [Value.category]) (Nat.le_of_ble_eq_true rfl) (fun g cx => ?_)
  have hO : Off o J0 J0 := Off.rf
  by_cases h1 : inr s (nI 0) (nI 3) = true
  · obtain ⟨k, -, hk, rfl⟩ := inr_of (by omega) h1 (by omega)
    obtain ⟨m, h5, em⟩ := hJ.sz (k := k) (by omega)
    by_cases h2 : inr a (nI 0) (nI 127) = true ∧ inr w (nI 0) (nI 255) = true ∧ (inr d (nI 0) (nI 255) = true ∨ d = -5)
    · by_cases h3 : m = 5
      · subst h3
        rw [show pSay Z (nI k) a w d = (-3, Z) by unfold pSay; rw [if_pos h1, if_pos h2, nI_cl (by omega), if_pos em]]
        refine x_aload_n dX4_addMessage_0 rfl rfl ?_
        refine x_iload_n dX4_addMessage_1 rfl rfl ?_
        refine x_callVd0 (mt' := mX4_speakerAt) (sp_speakerAt hS (by omega)) kvX4_speakerAt wl_X4_74 (by decide) dX4_addMessage_2 hS.k0 hS.lt0 rfl rfl (Nat.le_of_ble_eq_true rfl) ⟨rfl, rfl⟩ (by decide) ?_
        refine x_astore dX4_addMessage_5 (by decide) ?_
        refine x_aload dX4_addMessage_7 rfl ?_
        refine x_ifnonnull 14 dX4_addMessage_9 (by decide) ?_
        refine x_iload_n dX4_addMessage_14 rfl rfl ?_
        refine x_sipush (nI 128) dX4_addMessage_15 (by decide) ?_
        refine x_callSNd0 (mt' := mX5_isIndex) (sp_isIx _ 127 (by decide)) ktX5_isIndex wl_X4_78 (by decide) dX4_addMessage_18 rfl rfl (Nat.le_of_ble_eq_true rfl) ⟨rfl, rfl⟩ (by decide) ?_
        refine x_if_eqF dX4_addMessage_21 (by rw [h2.1]; decide) ?_ 34 (by decide)
        refine x_iload_n dX4_addMessage_24 rfl rfl ?_
        refine x_sipush (nI 256) dX4_addMessage_25 (by decide) ?_
        refine x_callSNd0 (mt' := mX5_isIndex) (sp_isIx _ 255 (by decide)) ktX5_isIndex wl_X4_78 (by decide) dX4_addMessage_28 rfl rfl (Nat.le_of_ble_eq_true rfl) ⟨rfl, rfl⟩ (by decide) ?_
        refine x_if_neT 37 dX4_addMessage_31 (by decide) (by rw [h2.2.1]; decide) ?_
        refine x_iload dX4_addMessage_37 rfl ?_
        refine x_bipush (-5) dX4_addMessage_39 (by decide) ?_
        refine x_icmp_eq 58 dX4_addMessage_41 (by decide) (fun c41 => ?_) (fun c41 => ?_)
        · skip
          refine x_aload dX4_addMessage_58 rfl ?_
          refine x_getI fl_X4_82 dX4_addMessage_60 (hS.ks (by omega)) (hS.lts (by omega)) rfl (x_eqtop (hJ.s0 (by omega)) ?_)
          refine x_iconst (nI 5) dX4_addMessage_63 (by decide) ?_
          refine x_icmp_ltF dX4_addMessage_64 (by rw [em]; decide) ?_ 70 (by decide)
          refine x_bipush (-3) dX4_addMessage_67 (by decide) ?_
          refine x_iret dX4_addMessage_69 rfl (by decide) (by decide) ?_
          exact ⟨rfl, rfl, rfl, hO, hJ⟩
        · skip
          refine x_iload dX4_addMessage_44 rfl ?_
          refine x_sipush (nI 256) dX4_addMessage_46 (by decide) ?_
          refine x_callSNd0 (mt' := mX5_isIndex) (sp_isIx _ 255 (by decide)) ktX5_isIndex wl_X4_78 (by decide) dX4_addMessage_49 rfl rfl (Nat.le_of_ble_eq_true rfl) ⟨rfl, rfl⟩ (by decide) ?_
          refine x_if_ne 58 dX4_addMessage_52 (by decide) (fun c52 => ?_) (fun c52 => ?_)
          · skip
            refine x_aload dX4_addMessage_58 rfl ?_
            refine x_getI fl_X4_82 dX4_addMessage_60 (hS.ks (by omega)) (hS.lts (by omega)) rfl (x_eqtop (hJ.s0 (by omega)) ?_)
            refine x_iconst (nI 5) dX4_addMessage_63 (by decide) ?_
            refine x_icmp_ltF dX4_addMessage_64 (by rw [em]; decide) ?_ 70 (by decide)
            refine x_bipush (-3) dX4_addMessage_67 (by decide) ?_
            refine x_iret dX4_addMessage_69 rfl (by decide) (by decide) ?_
            exact ⟨rfl, rfl, rfl, hO, hJ⟩
          · skip
            exact absurd (h2.2.2.resolve_right c41) (by rw [bi_0.mp c52]; decide)
      · obtain ⟨x, -, hx, rfl⟩ := inr_of (by omega) h2.1 (by omega)
        rw [show pSay Z (nI k) (nI x) w d = (nI (m + 1), rw1 Z k (upd (upd (upd (upd (Z k) (7 + 3 * m) (nI x)) (7 + 3 * m + 1) w) (7 + 3 * m + 2) d) 0 (nI (m + 1)))) by unfold pSay; rw [if_pos h1, if_pos h2, nI_cl (by omega), if_neg (fun q => h3 ((nI_eq (by omega) (by omega)).mp (em.symm.trans q))), em, nI_cl (by omega), pAdd_rw]]
        refine x_aload_n dX4_addMessage_0 rfl rfl ?_
        refine x_iload_n dX4_addMessage_1 rfl rfl ?_
        refine x_callVd0 (mt' := mX4_speakerAt) (sp_speakerAt hS (by omega)) kvX4_speakerAt wl_X4_74 (by decide) dX4_addMessage_2 hS.k0 hS.lt0 rfl rfl (Nat.le_of_ble_eq_true rfl) ⟨rfl, rfl⟩ (by decide) ?_
        refine x_astore dX4_addMessage_5 (by decide) ?_
        refine x_aload dX4_addMessage_7 rfl ?_
        refine x_ifnonnull 14 dX4_addMessage_9 (by decide) ?_
        refine x_iload_n dX4_addMessage_14 rfl rfl ?_
        refine x_sipush (nI 128) dX4_addMessage_15 (by decide) ?_
        refine x_callSNd0 (mt' := mX5_isIndex) (sp_isIx _ 127 (by decide)) ktX5_isIndex wl_X4_78 (by decide) dX4_addMessage_18 rfl rfl (Nat.le_of_ble_eq_true rfl) ⟨rfl, rfl⟩ (by decide) ?_
        refine x_if_eqF dX4_addMessage_21 (by rw [h2.1]; decide) ?_ 34 (by decide)
        refine x_iload_n dX4_addMessage_24 rfl rfl ?_
        refine x_sipush (nI 256) dX4_addMessage_25 (by decide) ?_
        refine x_callSNd0 (mt' := mX5_isIndex) (sp_isIx _ 255 (by decide)) ktX5_isIndex wl_X4_78 (by decide) dX4_addMessage_28 rfl rfl (Nat.le_of_ble_eq_true rfl) ⟨rfl, rfl⟩ (by decide) ?_
        refine x_if_neT 37 dX4_addMessage_31 (by decide) (by rw [h2.2.1]; decide) ?_
        refine x_iload dX4_addMessage_37 rfl ?_
        refine x_bipush (-5) dX4_addMessage_39 (by decide) ?_
        refine x_icmp_eq 58 dX4_addMessage_41 (by decide) (fun c41 => ?_) (fun c41 => ?_)
        · skip
          refine x_aload dX4_addMessage_58 rfl ?_
          refine x_getI fl_X4_82 dX4_addMessage_60 (hS.ks (by omega)) (hS.lts (by omega)) rfl (x_eqtop (hJ.s0 (by omega)) ?_)
          refine x_iconst (nI 5) dX4_addMessage_63 (by decide) ?_
          refine x_icmp_ltT 70 dX4_addMessage_64 (by decide) (by rw [em]; exact (nI_ltI (by omega) (by omega)).mpr (by omega)) ?_
          refine x_aload dX4_addMessage_70 rfl ?_
          refine x_iload_n dX4_addMessage_72 rfl rfl ?_
          refine x_iload_n dX4_addMessage_73 rfl rfl ?_
          refine x_iload dX4_addMessage_74 rfl ?_
          refine x_callSp hS hO hJ (k := k) (by omega) (mt' := mX3_append) (sp_X3_append (hS.sk (by omega)) _ _ _ (by omega) ((hJ.s0 (by omega)).trans em)) (SPJ_app (hJ.1 k (by omega)) em (by omega) (by omega)) kvX3_append wl_X4_85 (by decide) dX4_addMessage_76 rfl rfl (Nat.le_of_ble_eq_true rfl) ⟨rfl, rfl⟩ (by decide) (fun I hO hJ => ?_)
          refine x_aload dX4_addMessage_79 rfl ?_
          refine x_getI fl_X4_82 dX4_addMessage_81 (hS.ks (by omega)) (hS.lts (by omega)) rfl (x_eqtop (hJ.s0 (by omega)) ?_)
          rw [rw1_self, upd_self]
          refine x_iret dX4_addMessage_84 rfl (by decide) (by decide) ?_
          exact ⟨rfl, rfl, rfl, hO, hJ⟩
        · skip
          refine x_iload dX4_addMessage_44 rfl ?_
          refine x_sipush (nI 256) dX4_addMessage_46 (by decide) ?_
          refine x_callSNd0 (mt' := mX5_isIndex) (sp_isIx _ 255 (by decide)) ktX5_isIndex wl_X4_78 (by decide) dX4_addMessage_49 rfl rfl (Nat.le_of_ble_eq_true rfl) ⟨rfl, rfl⟩ (by decide) ?_
          refine x_if_ne 58 dX4_addMessage_52 (by decide) (fun c52 => ?_) (fun c52 => ?_)
          · skip
            refine x_aload dX4_addMessage_58 rfl ?_
            refine x_getI fl_X4_82 dX4_addMessage_60 (hS.ks (by omega)) (hS.lts (by omega)) rfl (x_eqtop (hJ.s0 (by omega)) ?_)
            refine x_iconst (nI 5) dX4_addMessage_63 (by decide) ?_
            refine x_icmp_ltT 70 dX4_addMessage_64 (by decide) (by rw [em]; exact (nI_ltI (by omega) (by omega)).mpr (by omega)) ?_
            refine x_aload dX4_addMessage_70 rfl ?_
            refine x_iload_n dX4_addMessage_72 rfl rfl ?_
            refine x_iload_n dX4_addMessage_73 rfl rfl ?_
            refine x_iload dX4_addMessage_74 rfl ?_
            refine x_callSp hS hO hJ (k := k) (by omega) (mt' := mX3_append) (sp_X3_append (hS.sk (by omega)) _ _ _ (by omega) ((hJ.s0 (by omega)).trans em)) (SPJ_app (hJ.1 k (by omega)) em (by omega) (by omega)) kvX3_append wl_X4_85 (by decide) dX4_addMessage_76 rfl rfl (Nat.le_of_ble_eq_true rfl) ⟨rfl, rfl⟩ (by decide) (fun I hO hJ => ?_)
            refine x_aload dX4_addMessage_79 rfl ?_
            refine x_getI fl_X4_82 dX4_addMessage_81 (hS.ks (by omega)) (hS.lts (by omega)) rfl (x_eqtop (hJ.s0 (by omega)) ?_)
            rw [rw1_self, upd_self]
            refine x_iret dX4_addMessage_84 rfl (by decide) (by decide) ?_
            exact ⟨rfl, rfl, rfl, hO, hJ⟩
          · skip
            exact absurd (h2.2.2.resolve_right c41) (by rw [bi_0.mp c52]; decide)
    · rw [show pSay Z (nI k) a w d = (-2, Z) by unfold pSay; rw [if_pos h1, if_neg h2]]
      refine x_aload_n dX4_addMessage_0 rfl rfl ?_
      refine x_iload_n dX4_addMessage_1 rfl rfl ?_
      refine x_callVd0 (mt' := mX4_speakerAt) (sp_speakerAt hS (by omega)) kvX4_speakerAt wl_X4_74 (by decide) dX4_addMessage_2 hS.k0 hS.lt0 rfl rfl (Nat.le_of_ble_eq_true rfl) ⟨rfl, rfl⟩ (by decide) ?_
      refine x_astore dX4_addMessage_5 (by decide) ?_
      refine x_aload dX4_addMessage_7 rfl ?_
      refine x_ifnonnull 14 dX4_addMessage_9 (by decide) ?_
      refine x_iload_n dX4_addMessage_14 rfl rfl ?_
      refine x_sipush (nI 128) dX4_addMessage_15 (by decide) ?_
      refine x_callSNd0 (mt' := mX5_isIndex) (sp_isIx _ 127 (by decide)) ktX5_isIndex wl_X4_78 (by decide) dX4_addMessage_18 rfl rfl (Nat.le_of_ble_eq_true rfl) ⟨rfl, rfl⟩ (by decide) ?_
      refine x_if_eq 34 dX4_addMessage_21 (by decide) (fun c21 => ?_) (fun c21 => ?_)
      · skip
        refine x_bipush (-2) dX4_addMessage_34 (by decide) ?_
        refine x_iret dX4_addMessage_36 rfl (by decide) (by decide) ?_
        exact ⟨rfl, rfl, rfl, hO, hJ⟩
      · skip
        refine x_iload_n dX4_addMessage_24 rfl rfl ?_
        refine x_sipush (nI 256) dX4_addMessage_25 (by decide) ?_
        refine x_callSNd0 (mt' := mX5_isIndex) (sp_isIx _ 255 (by decide)) ktX5_isIndex wl_X4_78 (by decide) dX4_addMessage_28 rfl rfl (Nat.le_of_ble_eq_true rfl) ⟨rfl, rfl⟩ (by decide) ?_
        refine x_if_ne 37 dX4_addMessage_31 (by decide) (fun c31 => ?_) (fun c31 => ?_)
        · skip
          refine x_iload dX4_addMessage_37 rfl ?_
          refine x_bipush (-5) dX4_addMessage_39 (by decide) ?_
          refine x_icmp_eq 58 dX4_addMessage_41 (by decide) (fun c41 => ?_) (fun c41 => ?_)
          · skip
            exact absurd ⟨bi_nt c21, bi_nt c31, by first | exact Or.inr c41 | exact Or.inl (bi_nt c52)⟩ h2
          · skip
            refine x_iload dX4_addMessage_44 rfl ?_
            refine x_sipush (nI 256) dX4_addMessage_46 (by decide) ?_
            refine x_callSNd0 (mt' := mX5_isIndex) (sp_isIx _ 255 (by decide)) ktX5_isIndex wl_X4_78 (by decide) dX4_addMessage_49 rfl rfl (Nat.le_of_ble_eq_true rfl) ⟨rfl, rfl⟩ (by decide) ?_
            refine x_if_ne 58 dX4_addMessage_52 (by decide) (fun c52 => ?_) (fun c52 => ?_)
            · skip
              exact absurd ⟨bi_nt c21, bi_nt c31, by first | exact Or.inr c41 | exact Or.inl (bi_nt c52)⟩ h2
            · skip
              refine x_bipush (-2) dX4_addMessage_55 (by decide) ?_
              refine x_iret dX4_addMessage_57 rfl (by decide) (by decide) ?_
              exact ⟨rfl, rfl, rfl, hO, hJ⟩
        · skip
          refine x_bipush (-2) dX4_addMessage_34 (by decide) ?_
          refine x_iret dX4_addMessage_36 rfl (by decide) (by decide) ?_
          exact ⟨rfl, rfl, rfl, hO, hJ⟩
  · rw [show pSay Z s a w d = (-1, Z) from if_neg h1]
    refine x_aload_n dX4_addMessage_0 rfl rfl ?_
    refine x_iload_n dX4_addMessage_1 rfl rfl ?_
    refine x_callVd0 (mt' := mX4_speakerAt) (sp_speakerAtN hS (by simpa using h1)) kvX4_speakerAt wl_X4_74 (by decide) dX4_addMessage_2 hS.k0 hS.lt0 rfl rfl (Nat.le_of_ble_eq_true rfl) ⟨rfl, rfl⟩ (by decide) ?_
    refine x_astoreN dX4_addMessage_5 (by decide) ?_
    refine x_aloadN dX4_addMessage_7 rfl ?_
    refine x_ifnonnullN dX4_addMessage_9 ?_
    refine x_iconst (-1) dX4_addMessage_12 (by decide) ?_
    refine x_iret dX4_addMessage_13 rfl (by decide) (by decide) ?_
    exact ⟨rfl, rfl, rfl, hO, hJ⟩
end CL
