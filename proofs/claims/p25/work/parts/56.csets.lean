
/-! the class: addresses and settings -/
section CM
variable {g : GX} {cx : CX} {mt : MT} {F : State → Prop} {cs : Nat × Nat} {pc : Nat} {ls : List (Option Value)} {st : List Value} {n : Nat} {I : MI} {R : MR}
theorem x_gets {idx : Nat} (hl : Cond.fieldLinkNest mt.1.cls idx "PulledWires" "MOST_SETTING" "[I" "PulledWires" ∈ xNW) (hd : decode mt.2.1 pc = .ok (.getstatic idx, 3)) (kk : X g cx mt F cs (pc + 3) ls (.ref 1005 :: st) n I R) : X g cx mt F cs pc ls st n I R := by
  intro ok H locs lsA hR hS hL
  have hKH := ok.2.2.2.2.2.2.2.2.2.2
  have hw := ok.2.2.2.2.2.2.2.2.1.2.1 _ hl
  exact va_getsN (A := fun q => g.1.1 ≤ q) (C := "PulledWires") ok.1 ok.2.1 hKH.2.2.1 hS ok.2.2.2.2.1 (va_tabs rfl rfl hw) (fun _ h => h) hd (kk ok H locs lsA hR hS hL)
theorem x_ialdK {j : Nat} (hj : j < 3) (hd : decode mt.2.1 pc = .ok (.iaload, 1)) (kk : X g cx mt F cs (pc + 1) ls (.int (([20, 9, 99] : List Int32).getD j 0) :: st) n I R) : X g cx mt F cs pc ls (.int (nI j) :: .ref 1005 :: st) n I R := by
  intro ok H locs lsA hR hS hL
  have hKH := ok.2.2.2.2.2.2.2.2.2.2
  obtain ⟨cell, h1, h2, h3, h4, h5, h6, h7⟩ := hKH.2.2.2.kept hS.2.1
  have hc : (nI j).toNatClampNeg = j := nI_clamp (by omega)
  exact W.iald (v := .int (([20, 9, 99] : List Int32).getD j 0)) ok.1 ok.2.1 h1 h2 h3 (by
    rw [hc]
    rintro (q | q)
    · exact nI_pos (by omega) q
    · omega) (by rw [hc]; exact h6 j hj) rfl rfl hd (kk ok H locs lsA hR hS hL)
end CM
section CL
variable {I J0 : MI} {R : MR} {o : Nat} {Z : MI}
theorem tl_giveAddress {g : GX} {cx : CX} {k : Nat} {s a : Int32} {u : Option Value} (hS : St R o) (hJ : SJ o J0 Z) (hk : k < 4) : X g cx mX4_giveAddress (xF g cx mX4_giveAddress (SQ o J0 R (some (.int (if Z (4 + k) 0 = a then -5 else nI (cn (ads (xuI Z (4 + k) 0 a)) 4)))) (if Z (4 + k) 0 = a then Z else xuI Z (4 + k) 0 a))) (0, 0) 52 [some (.ref o), some (.int s), some (.int a), some (.ref (o + 14 + k)), u] [] 131 J0 R := by
  have hO : Off o J0 J0 := Off.rf
  by_cases h3 : Z (4 + k) 0 = a
  · rw [if_pos h3, if_pos h3]
    refine x_aload_n dX4_giveAddress_52 rfl rfl ?_
    refine x_getI fl_X4_103 dX4_giveAddress_53 (hS.kl (by omega)) (hS.ltl (by omega)) rfl (x_eqtop (hJ.l0 (by omega)) ?_)
    refine x_iload_n dX4_giveAddress_56 rfl rfl ?_
    refine x_icmp_neF dX4_giveAddress_57 (h3) ?_ 63 (by decide)
    refine x_bipush (-5) dX4_giveAddress_60 (by decide) ?_
    refine x_iret dX4_giveAddress_62 rfl (by decide) (by decide) ?_
    exact ⟨rfl, rfl, rfl, hO, hJ⟩
  · rw [if_neg h3, if_neg h3]
    refine x_aload_n dX4_giveAddress_52 rfl rfl ?_
    refine x_getI fl_X4_103 dX4_giveAddress_53 (hS.kl (by omega)) (hS.ltl (by omega)) rfl (x_eqtop (hJ.l0 (by omega)) ?_)
    refine x_iload_n dX4_giveAddress_56 rfl rfl ?_
    refine x_icmp_neT 63 dX4_giveAddress_57 (by decide) (h3) ?_
    refine x_aload_n dX4_giveAddress_63 rfl rfl ?_
    refine x_iload_n dX4_giveAddress_64 rfl rfl ?_
    refine x_putLw hS hO hJ (by omega) (by omega) fl_X4_103 fp_1_0 rfl dX4_giveAddress_65 (fun I hO hJ => ?_)
    refine x_aload_n dX4_giveAddress_68 rfl rfl ?_
    refine x_callVd0 (mt' := mX4_listenersWithAddress) (sp_listenersWithAddress hS hJ) kvX4_listenersWithAddress wl_X4_106 (by decide) dX4_giveAddress_69 hS.k0 hS.lt0 rfl rfl (Nat.le_of_ble_eq_true rfl) ⟨rfl, rfl⟩ (by decide) ?_
    refine x_iret dX4_giveAddress_72 rfl (by decide) (by decide) ?_
    exact ⟨rfl, rfl, rfl, hO, hJ⟩
theorem pHear_k {Z : MI} {k : Nat} {a : Int32} (h1 : inr (nI k) (nI 0) (nI 3) = true) (hk : k < 4) (h2 : inr a (nI 0) (nI 127) = true ∨ a = -5) (h3 : ¬ (¬ a = -5 ∧ ¬ pLr (pLi Z a) = -5 ∧ ¬ pLr (pLi Z a) = nI k)) : pHear Z (nI k) a = (if Z (4 + k) 0 = a then -5 else nI (cn (ads (xuI Z (4 + k) 0 a)) 4), if Z (4 + k) 0 = a then Z else xuI Z (4 + k) 0 a) := by
  unfold pHear
  rw [if_pos h1, if_pos h2, if_neg h3, nI_cl (by omega)]
  split <;> rfl
theorem sp_giveAddress (hS : St R o) (hJ : SJ o J0 Z) (s a : Int32) : Sp mX4_giveAddress [.ref o, .int s, .int a] 131 J0 R (SQ o J0 R (some (.int (pHear Z s a).1)) (pHear Z s a).2) := by
  refine Sp.mk (by decide +kernel) (by simp [Value.category]) (Nat.le_of_ble_eq_true rfl) (fun g cx => ?_)
  have hO : Off o J0 J0 := Off.rf
  by_cases h1 : inr s (nI 0) (nI 3) = true
  · obtain ⟨k, -, hk, rfl⟩ := inr_of (by omega) h1 (by omega)
    by_cases h2 : inr a (nI 0) (nI 127) = true ∨ a = -5
    · have hw := sp_listenerWith hS hJ a
      by_cases h5 : a = -5
      · rw [if_pos h5] at hw
        rw [pHear_k h1 (by omega) h2 (fun q => q.1 h5)]
        refine x_aload_n dX4_giveAddress_0 rfl rfl ?_
        refine x_iload_n dX4_giveAddress_1 rfl rfl ?_
        refine x_callVd0 (mt' := mX4_listenerAt) (sp_listenerAt hS (by omega)) kvX4_listenerAt wl_X4_96 (by decide) dX4_giveAddress_2 hS.k0 hS.lt0 rfl rfl (Nat.le_of_ble_eq_true rfl) ⟨rfl, rfl⟩ (by decide) ?_
        refine x_astore_n dX4_giveAddress_5 rfl (by decide) ?_
        refine x_aload_n dX4_giveAddress_6 rfl rfl ?_
        refine x_ifnonnull 12 dX4_giveAddress_7 (by decide) ?_
        refine x_iload_n dX4_giveAddress_12 rfl rfl ?_
        refine x_bipush (-5) dX4_giveAddress_13 (by decide) ?_
        refine x_icmp_eqT 31 dX4_giveAddress_15 (by decide) (h5) ?_
        refine x_aload_n dX4_giveAddress_31 rfl rfl ?_
        refine x_iload_n dX4_giveAddress_32 rfl rfl ?_
        refine x_callVd0 (mt' := mX4_listenerWith) (hw) kvX4_listenerWith wl_X4_100 (by decide) dX4_giveAddress_33 hS.k0 hS.lt0 rfl rfl (Nat.le_of_ble_eq_true rfl) ⟨rfl, rfl⟩ (by decide) ?_
        refine x_astoreN dX4_giveAddress_36 (by decide) ?_
        refine x_aloadN dX4_giveAddress_38 rfl ?_
        refine x_ifnullN 52 dX4_giveAddress_40 (by decide) ?_
        exact tl_giveAddress hS hJ (by omega)
      · rw [if_neg h5] at hw
        have h2a : inr a (nI 0) (nI 127) = true := h2.resolve_right h5
        cases e : pLi Z a with
        | none =>
          rw [e] at hw
          rw [pHear_k h1 (by omega) h2 (fun q => q.2.1 (by rw [e]; rfl))]
          refine x_aload_n dX4_giveAddress_0 rfl rfl ?_
          refine x_iload_n dX4_giveAddress_1 rfl rfl ?_
          refine x_callVd0 (mt' := mX4_listenerAt) (sp_listenerAt hS (by omega)) kvX4_listenerAt wl_X4_96 (by decide) dX4_giveAddress_2 hS.k0 hS.lt0 rfl rfl (Nat.le_of_ble_eq_true rfl) ⟨rfl, rfl⟩ (by decide) ?_
          refine x_astore_n dX4_giveAddress_5 rfl (by decide) ?_
          refine x_aload_n dX4_giveAddress_6 rfl rfl ?_
          refine x_ifnonnull 12 dX4_giveAddress_7 (by decide) ?_
          refine x_iload_n dX4_giveAddress_12 rfl rfl ?_
          refine x_bipush (-5) dX4_giveAddress_13 (by decide) ?_
          refine x_icmp_eqF dX4_giveAddress_15 (h5) ?_ 31 (by decide)
          refine x_iload_n dX4_giveAddress_18 rfl rfl ?_
          refine x_sipush (nI 128) dX4_giveAddress_19 (by decide) ?_
          refine x_callSNd0 (mt' := mX5_isIndex) (sp_isIx _ 127 (by decide)) ktX5_isIndex wl_X4_78 (by decide) dX4_giveAddress_22 rfl rfl (Nat.le_of_ble_eq_true rfl) ⟨rfl, rfl⟩ (by decide) ?_
          refine x_if_neT 31 dX4_giveAddress_25 (by decide) (by rw [h2a]; decide) ?_
          refine x_aload_n dX4_giveAddress_31 rfl rfl ?_
          refine x_iload_n dX4_giveAddress_32 rfl rfl ?_
          refine x_callVd0 (mt' := mX4_listenerWith) (hw) kvX4_listenerWith wl_X4_100 (by decide) dX4_giveAddress_33 hS.k0 hS.lt0 rfl rfl (Nat.le_of_ble_eq_true rfl) ⟨rfl, rfl⟩ (by decide) ?_
          refine x_astoreN dX4_giveAddress_36 (by decide) ?_
          refine x_aloadN dX4_giveAddress_38 rfl ?_
          refine x_ifnullN 52 dX4_giveAddress_40 (by decide) ?_
          exact tl_giveAddress hS hJ (by omega)
        | some l =>
          rw [e] at hw
          have hl := (pLi_spec e).1
          by_cases h6 : l = k
          · subst h6
            rw [pHear_k h1 (by omega) h2 (fun q => q.2.2 (by rw [e]; rfl))]
            refine x_aload_n dX4_giveAddress_0 rfl rfl ?_
            refine x_iload_n dX4_giveAddress_1 rfl rfl ?_
            refine x_callVd0 (mt' := mX4_listenerAt) (sp_listenerAt hS (by omega)) kvX4_listenerAt wl_X4_96 (by decide) dX4_giveAddress_2 hS.k0 hS.lt0 rfl rfl (Nat.le_of_ble_eq_true rfl) ⟨rfl, rfl⟩ (by decide) ?_
            refine x_astore_n dX4_giveAddress_5 rfl (by decide) ?_
            refine x_aload_n dX4_giveAddress_6 rfl rfl ?_
            refine x_ifnonnull 12 dX4_giveAddress_7 (by decide) ?_
            refine x_iload_n dX4_giveAddress_12 rfl rfl ?_
            refine x_bipush (-5) dX4_giveAddress_13 (by decide) ?_
            refine x_icmp_eqF dX4_giveAddress_15 (h5) ?_ 31 (by decide)
            refine x_iload_n dX4_giveAddress_18 rfl rfl ?_
            refine x_sipush (nI 128) dX4_giveAddress_19 (by decide) ?_
            refine x_callSNd0 (mt' := mX5_isIndex) (sp_isIx _ 127 (by decide)) ktX5_isIndex wl_X4_78 (by decide) dX4_giveAddress_22 rfl rfl (Nat.le_of_ble_eq_true rfl) ⟨rfl, rfl⟩ (by decide) ?_
            refine x_if_neT 31 dX4_giveAddress_25 (by decide) (by rw [h2a]; decide) ?_
            refine x_aload_n dX4_giveAddress_31 rfl rfl ?_
            refine x_iload_n dX4_giveAddress_32 rfl rfl ?_
            refine x_callVd0 (mt' := mX4_listenerWith) (hw) kvX4_listenerWith wl_X4_100 (by decide) dX4_giveAddress_33 hS.k0 hS.lt0 rfl rfl (Nat.le_of_ble_eq_true rfl) ⟨rfl, rfl⟩ (by decide) ?_
            refine x_astore dX4_giveAddress_36 (by decide) ?_
            refine x_aload dX4_giveAddress_38 rfl ?_
            refine x_ifnull dX4_giveAddress_40 ?_
            refine x_aload dX4_giveAddress_43 rfl ?_
            refine x_aload_n dX4_giveAddress_45 rfl rfl ?_
            refine x_acmp_eqT 52 dX4_giveAddress_46 (by decide) ?_
            exact tl_giveAddress hS hJ (by omega)
          · have e4 : pHear Z (nI k) a = (-4, Z) := by
              unfold pHear
              rw [if_pos h1, if_pos h2, if_pos ⟨h5, by rw [e]; exact fun q => nI_pos (n := l) (by omega) (by rw [show nI l = -5 from q]; decide), by rw [e]; exact fun q => h6 ((nI_eq (by omega) (by omega)).mp q)⟩]
            rw [e4]
            have hle := hS.le
            refine x_aload_n dX4_giveAddress_0 rfl rfl ?_
            refine x_iload_n dX4_giveAddress_1 rfl rfl ?_
            refine x_callVd0 (mt' := mX4_listenerAt) (sp_listenerAt hS (by omega)) kvX4_listenerAt wl_X4_96 (by decide) dX4_giveAddress_2 hS.k0 hS.lt0 rfl rfl (Nat.le_of_ble_eq_true rfl) ⟨rfl, rfl⟩ (by decide) ?_
            refine x_astore_n dX4_giveAddress_5 rfl (by decide) ?_
            refine x_aload_n dX4_giveAddress_6 rfl rfl ?_
            refine x_ifnonnull 12 dX4_giveAddress_7 (by decide) ?_
            refine x_iload_n dX4_giveAddress_12 rfl rfl ?_
            refine x_bipush (-5) dX4_giveAddress_13 (by decide) ?_
            refine x_icmp_eqF dX4_giveAddress_15 (h5) ?_ 31 (by decide)
            refine x_iload_n dX4_giveAddress_18 rfl rfl ?_
            refine x_sipush (nI 128) dX4_giveAddress_19 (by decide) ?_
            refine x_callSNd0 (mt' := mX5_isIndex) (sp_isIx _ 127 (by decide)) ktX5_isIndex wl_X4_78 (by decide) dX4_giveAddress_22 rfl rfl (Nat.le_of_ble_eq_true rfl) ⟨rfl, rfl⟩ (by decide) ?_
            refine x_if_neT 31 dX4_giveAddress_25 (by decide) (by rw [h2a]; decide) ?_
            refine x_aload_n dX4_giveAddress_31 rfl rfl ?_
            refine x_iload_n dX4_giveAddress_32 rfl rfl ?_
            refine x_callVd0 (mt' := mX4_listenerWith) (hw) kvX4_listenerWith wl_X4_100 (by decide) dX4_giveAddress_33 hS.k0 hS.lt0 rfl rfl (Nat.le_of_ble_eq_true rfl) ⟨rfl, rfl⟩ (by decide) ?_
            refine x_astore dX4_giveAddress_36 (by decide) ?_
            refine x_aload dX4_giveAddress_38 rfl ?_
            refine x_ifnull dX4_giveAddress_40 ?_
            refine x_aload dX4_giveAddress_43 rfl ?_
            refine x_aload_n dX4_giveAddress_45 rfl rfl ?_
            refine x_acmp_eqF 52 (by decide) dX4_giveAddress_46 (by omega) (by omega) (by omega) ?_
            refine x_bipush (-4) dX4_giveAddress_49 (by decide) ?_
            refine x_iret dX4_giveAddress_51 rfl (by decide) (by decide) ?_
            exact ⟨rfl, rfl, rfl, hO, hJ⟩
    · rw [show pHear Z (nI k) a = (-2, Z) by unfold pHear; rw [if_pos h1, if_neg h2]]
      refine x_aload_n dX4_giveAddress_0 rfl rfl ?_
      refine x_iload_n dX4_giveAddress_1 rfl rfl ?_
      refine x_callVd0 (mt' := mX4_listenerAt) (sp_listenerAt hS (by omega)) kvX4_listenerAt wl_X4_96 (by decide) dX4_giveAddress_2 hS.k0 hS.lt0 rfl rfl (Nat.le_of_ble_eq_true rfl) ⟨rfl, rfl⟩ (by decide) ?_
      refine x_astore_n dX4_giveAddress_5 rfl (by decide) ?_
      refine x_aload_n dX4_giveAddress_6 rfl rfl ?_
      refine x_ifnonnull 12 dX4_giveAddress_7 (by decide) ?_
      refine x_iload_n dX4_giveAddress_12 rfl rfl ?_
      refine x_bipush (-5) dX4_giveAddress_13 (by decide) ?_
      refine x_icmp_eqF dX4_giveAddress_15 (fun q => h2 (Or.inr q)) ?_ 31 (by decide)
      refine x_iload_n dX4_giveAddress_18 rfl rfl ?_
      refine x_sipush (nI 128) dX4_giveAddress_19 (by decide) ?_
      refine x_callSNd0 (mt' := mX5_isIndex) (sp_isIx _ 127 (by decide)) ktX5_isIndex wl_X4_78 (by decide) dX4_giveAddress_22 rfl rfl (Nat.le_of_ble_eq_true rfl) ⟨rfl, rfl⟩ (by decide) ?_
      refine x_if_neF dX4_giveAddress_25 (bi_0.mpr (by cases q : inr a (nI 0) (nI 127) with | false => rfl | true => exact absurd (Or.inl q) h2)) ?_ 31 (by decide)
      refine x_bipush (-2) dX4_giveAddress_28 (by decide) ?_
      refine x_iret dX4_giveAddress_30 rfl (by decide) (by decide) ?_
      exact ⟨rfl, rfl, rfl, hO, hJ⟩
  · rw [show pHear Z s a = (-1, Z) from if_neg h1]
    refine x_aload_n dX4_giveAddress_0 rfl rfl ?_
    refine x_iload_n dX4_giveAddress_1 rfl rfl ?_
    refine x_callVd0 (mt' := mX4_listenerAt) (sp_listenerAtN hS (by simpa using h1)) kvX4_listenerAt wl_X4_96 (by decide) dX4_giveAddress_2 hS.k0 hS.lt0 rfl rfl (Nat.le_of_ble_eq_true rfl) ⟨rfl, rfl⟩ (by decide) ?_
    refine x_astore_nN dX4_giveAddress_5 rfl (by decide) ?_
    refine x_aload_nN dX4_giveAddress_6 rfl rfl ?_
    refine x_ifnonnullN dX4_giveAddress_7 ?_
    refine x_iconst (-1) dX4_giveAddress_10 (by decide) ?_
    refine x_iret dX4_giveAddress_11 rfl (by decide) (by decide) ?_
    exact ⟨rfl, rfl, rfl, hO, hJ⟩
theorem most_n {w : Nat} (hw : w < 3) : ([20, 9, 99] : List Int32).getD w 0 = pMost (nI w) := by
  rcases (show w = 0 ∨ w = 1 ∨ w = 2 by omega) with rfl | rfl | rfl <;> rfl
theorem sp_changeSetting (hS : St R o) (hJ : SJ o J0 Z) (s v : Int32) : Sp mX4_changeSetting [.ref o, .int s, .int v] 131 J0 R (SQ o J0 R (some (.int (pSet Z s v).1)) (pSet Z s v).2) := by
  refine Sp.mk (by decide +kernel) (by simp [Value.category]) (Nat.le_of_ble_eq_true rfl) (fun g cx => ?_)
  have hO : Off o J0 J0 := Off.rf
  by_cases h1 : inr s (nI 0) (nI 2) = true
  · obtain ⟨w, -, hw, rfl⟩ := inr_of (by omega) h1 (by omega)
    by_cases h2 : inr v (nI 1) (pMost (nI w)) = true
    · have h2' := of_decide_eq_true h2
      have e : pSet Z (nI w) v = (if Z 8 w = v then -5 else Z 8 w, xuI Z 8 w v) := by unfold pSet; rw [if_pos h1, if_pos h2, nI_cl (by omega)]
      by_cases h3 : Z 8 w = v
      · rw [e, if_pos h3, xuI_id h3]
        refine x_iload_n dX4_changeSetting_0 rfl rfl ?_
        refine x_iconst (nI 3) dX4_changeSetting_1 (by decide) ?_
        refine x_callSNd0 (mt' := mX5_isIndex) (sp_isIx _ 2 (by decide)) ktX5_isIndex wl_X4_78 (by decide) dX4_changeSetting_2 rfl rfl (Nat.le_of_ble_eq_true rfl) ⟨rfl, rfl⟩ (by decide) ?_
        refine x_if_neT 10 dX4_changeSetting_5 (by decide) (by rw [h1]; decide) ?_
        refine x_iload_n dX4_changeSetting_10 rfl rfl ?_
        refine x_iconst (nI 1) dX4_changeSetting_11 (by decide) ?_
        refine x_icmp_ltF dX4_changeSetting_12 (Int32.not_lt.mpr h2'.1) ?_ 24 (by decide)
        refine x_iload_n dX4_changeSetting_15 rfl rfl ?_
        refine x_gets wn_X4_119 dX4_changeSetting_16 ?_
        refine x_iload_n dX4_changeSetting_19 rfl rfl ?_
        refine x_ialdK (by omega) dX4_changeSetting_20 (x_eqtop (most_n (by omega)) ?_)
        refine x_icmp_leT 27 dX4_changeSetting_21 (by decide) (h2'.2) ?_
        refine x_aload_n dX4_changeSetting_27 rfl rfl ?_
        refine x_getR fl_X4_23 dX4_changeSetting_28 hS.k0 hS.lt0 rfl hS.r2 ?_
        refine x_iload_n dX4_changeSetting_31 rfl rfl ?_
        refine x_iald (j := w) dX4_changeSetting_32 hS.k3 (hS.lt (by omega)) (nI_pos (by omega)) (nI_clamp (by omega)) (by rw [hS.l3]; omega) (x_eqtop (hJ.se (by omega)) ?_)
        refine x_iload_n dX4_changeSetting_33 rfl rfl ?_
        refine x_icmp_neF dX4_changeSetting_34 (h3) ?_ 40 (by decide)
        refine x_bipush (-5) dX4_changeSetting_37 (by decide) ?_
        refine x_iret dX4_changeSetting_39 rfl (by decide) (by decide) ?_
        exact ⟨rfl, rfl, rfl, hO, hJ⟩
      · rw [e, if_neg h3]
        refine x_iload_n dX4_changeSetting_0 rfl rfl ?_
        refine x_iconst (nI 3) dX4_changeSetting_1 (by decide) ?_
        refine x_callSNd0 (mt' := mX5_isIndex) (sp_isIx _ 2 (by decide)) ktX5_isIndex wl_X4_78 (by decide) dX4_changeSetting_2 rfl rfl (Nat.le_of_ble_eq_true rfl) ⟨rfl, rfl⟩ (by decide) ?_
        refine x_if_neT 10 dX4_changeSetting_5 (by decide) (by rw [h1]; decide) ?_
        refine x_iload_n dX4_changeSetting_10 rfl rfl ?_
        refine x_iconst (nI 1) dX4_changeSetting_11 (by decide) ?_
        refine x_icmp_ltF dX4_changeSetting_12 (Int32.not_lt.mpr h2'.1) ?_ 24 (by decide)
        refine x_iload_n dX4_changeSetting_15 rfl rfl ?_
        refine x_gets wn_X4_119 dX4_changeSetting_16 ?_
        refine x_iload_n dX4_changeSetting_19 rfl rfl ?_
        refine x_ialdK (by omega) dX4_changeSetting_20 (x_eqtop (most_n (by omega)) ?_)
        refine x_icmp_leT 27 dX4_changeSetting_21 (by decide) (h2'.2) ?_
        refine x_aload_n dX4_changeSetting_27 rfl rfl ?_
        refine x_getR fl_X4_23 dX4_changeSetting_28 hS.k0 hS.lt0 rfl hS.r2 ?_
        refine x_iload_n dX4_changeSetting_31 rfl rfl ?_
        refine x_iald (j := w) dX4_changeSetting_32 hS.k3 (hS.lt (by omega)) (nI_pos (by omega)) (nI_clamp (by omega)) (by rw [hS.l3]; omega) (x_eqtop (hJ.se (by omega)) ?_)
        refine x_iload_n dX4_changeSetting_33 rfl rfl ?_
        refine x_icmp_neT 40 dX4_changeSetting_34 (by decide) (h3) ?_
        refine x_aload_n dX4_changeSetting_40 rfl rfl ?_
        refine x_getR fl_X4_23 dX4_changeSetting_41 hS.k0 hS.lt0 rfl hS.r2 ?_
        refine x_iload_n dX4_changeSetting_44 rfl rfl ?_
        refine x_iald (j := w) dX4_changeSetting_45 hS.k3 (hS.lt (by omega)) (nI_pos (by omega)) (nI_clamp (by omega)) (by rw [hS.l3]; omega) (x_eqtop (hJ.se (by omega)) ?_)
        refine x_istore_n dX4_changeSetting_46 rfl (by decide) ?_
        refine x_aload_n dX4_changeSetting_47 rfl rfl ?_
        refine x_getR fl_X4_23 dX4_changeSetting_48 hS.k0 hS.lt0 rfl hS.r2 ?_
        refine x_iload_n dX4_changeSetting_51 rfl rfl ?_
        refine x_iload_n dX4_changeSetting_52 rfl rfl ?_
        refine x_iast (j := w) dX4_changeSetting_53 hS.k3 (hS.lt (by omega)) (nI_pos (by omega)) (nI_clamp (by omega)) (by rw [hS.l3]; omega) (x_st (hO.tr Off.se) (hJ.use (by omega)) (fun I hO hJ => ?_))
        refine x_iload_n dX4_changeSetting_54 rfl rfl ?_
        refine x_iret dX4_changeSetting_55 rfl (by decide) (by decide) ?_
        exact ⟨rfl, rfl, rfl, hO, hJ⟩
    · rw [show pSet Z (nI w) v = (-2, Z) by unfold pSet; rw [if_pos h1, if_neg h2]]
      refine x_iload_n dX4_changeSetting_0 rfl rfl ?_
      refine x_iconst (nI 3) dX4_changeSetting_1 (by decide) ?_
      refine x_callSNd0 (mt' := mX5_isIndex) (sp_isIx _ 2 (by decide)) ktX5_isIndex wl_X4_78 (by decide) dX4_changeSetting_2 rfl rfl (Nat.le_of_ble_eq_true rfl) ⟨rfl, rfl⟩ (by decide) ?_
      refine x_if_neT 10 dX4_changeSetting_5 (by decide) (by rw [h1]; decide) ?_
      refine x_iload_n dX4_changeSetting_10 rfl rfl ?_
      refine x_iconst (nI 1) dX4_changeSetting_11 (by decide) ?_
      refine x_icmp_lt 24 dX4_changeSetting_12 (by decide) (fun c12 => ?_) (fun c12 => ?_)
      · skip
        refine x_bipush (-2) dX4_changeSetting_24 (by decide) ?_
        refine x_iret dX4_changeSetting_26 rfl (by decide) (by decide) ?_
        exact ⟨rfl, rfl, rfl, hO, hJ⟩
      · skip
        refine x_iload_n dX4_changeSetting_15 rfl rfl ?_
        refine x_gets wn_X4_119 dX4_changeSetting_16 ?_
        refine x_iload_n dX4_changeSetting_19 rfl rfl ?_
        refine x_ialdK (by omega) dX4_changeSetting_20 (x_eqtop (most_n (by omega)) ?_)
        refine x_icmp_le 27 dX4_changeSetting_21 (by decide) (fun c21 => ?_) (fun c21 => ?_)
        · skip
          exact absurd (decide_eq_true ⟨Int32.not_lt.mp c12, c21⟩) h2
        · skip
          refine x_bipush (-2) dX4_changeSetting_24 (by decide) ?_
          refine x_iret dX4_changeSetting_26 rfl (by decide) (by decide) ?_
          exact ⟨rfl, rfl, rfl, hO, hJ⟩
  · rw [show pSet Z s v = (-1, Z) from if_neg h1]
    refine x_iload_n dX4_changeSetting_0 rfl rfl ?_
    refine x_iconst (nI 3) dX4_changeSetting_1 (by decide) ?_
    refine x_callSNd0 (mt' := mX5_isIndex) (sp_isIx _ 2 (by decide)) ktX5_isIndex wl_X4_78 (by decide) dX4_changeSetting_2 rfl rfl (Nat.le_of_ble_eq_true rfl) ⟨rfl, rfl⟩ (by decide) ?_
    refine x_if_neF dX4_changeSetting_5 (bi_0.mpr (by simpa using h1)) ?_ 10 (by decide)
    refine x_iconst (-1) dX4_changeSetting_8 (by decide) ?_
    refine x_iret dX4_changeSetting_9 rfl (by decide) (by decide) ?_
    exact ⟨rfl, rfl, rfl, hO, hJ⟩
end CL
