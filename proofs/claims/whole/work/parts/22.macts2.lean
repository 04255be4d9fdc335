/-! the reference: the acts -/
theorem bi_t {b : Bool} (h : bi b = 0) : ¬ b = true := by rw [bi_0.mp h]; decide
theorem nI_sub1 {m : Nat} (h : 1 ≤ m) : nI m - nI 1 = nI (m - 1) := nI_sub h
section ML
variable {I : MI} {R : MR} {φ α β κ τ : Nat → Int32} {Z : MI}
theorem sp_X6_says (hM : Md R) (s a w d : Int32) (hN : N5 Z) : Spd mX6_says [.ref 131, .int s, .int a, .int w, .int d] (MM I φ Z α β κ τ) R (some (.int (pSay Z s a w d).1)) (MM I φ (pSay Z s a w d).2 α β κ τ) := by
  refine Spd.mk (by decide +kernel) (by simp [Value.category]) (Nat.le_of_ble_eq_true rfl) (fun g cx => ?_)
  by_cases h1 : inr s (nI 0) (nI 3) = true
  · obtain ⟨k, -, hk, rfl⟩ := inr_of (by omega) h1 (by omega)
    obtain ⟨m, hm5, hm⟩ := hN k (by omega)
    have hkc : (nI k).toNatClampNeg = k := nI_cl (by omega)
    by_cases h2 : inr a (nI 0) (nI 127) = true ∧ inr w (nI 0) (nI 255) = true ∧ (inr d (nI 0) (nI 255) = true ∨ d = -5)
    · by_cases h3 : m = 5
      · subst h3
        have e : pSay Z (nI k) a w d = (-3, Z) := by unfold pSay; rw [if_pos h1, if_pos h2, hkc, if_pos hm]
        rw [e]
        refine x_iload_n dX6_says_0 rfl rfl ?_
        refine x_callSd0 (mt' := mX6_isOne) (sp_X6_isOne _) ktX6_isOne wl_X6_109 (by decide) dX6_says_1 rfl rfl (Nat.le_of_ble_eq_true rfl) ⟨rfl, rfl⟩ (by decide) ?_
        refine x_if_ne 9 dX6_says_4 (by decide) (fun c4 => ?_) (fun c4 => ?_)
        · skip
          refine x_iload_n dX6_says_9 rfl rfl ?_
          refine x_iconst (nI 0) dX6_says_10 (by decide) ?_
          refine x_bipush (nI 127) dX6_says_11 (by decide) ?_
          refine x_callSd0 (mt' := mX6_in) (sp_X6_in _ _ _) ktX6_in wl_X6_36 (by decide) dX6_says_13 rfl rfl (Nat.le_of_ble_eq_true rfl) ⟨rfl, rfl⟩ (by decide) ?_
          refine x_if_eq 49 dX6_says_16 (by decide) (fun c16 => ?_) (fun c16 => ?_)
          · skip
            exact absurd h2.1 (bi_t c16)
          · skip
            refine x_iload_n dX6_says_19 rfl rfl ?_
            refine x_iconst (nI 0) dX6_says_20 (by decide) ?_
            refine x_sipush (nI 255) dX6_says_21 (by decide) ?_
            refine x_callSd0 (mt' := mX6_in) (sp_X6_in _ _ _) ktX6_in wl_X6_36 (by decide) dX6_says_24 rfl rfl (Nat.le_of_ble_eq_true rfl) ⟨rfl, rfl⟩ (by decide) ?_
            refine x_if_eq 49 dX6_says_27 (by decide) (fun c27 => ?_) (fun c27 => ?_)
            · skip
              exact absurd h2.2.1 (bi_t c27)
            · skip
              refine x_iload dX6_says_30 rfl ?_
              refine x_iconst (nI 0) dX6_says_32 (by decide) ?_
              refine x_sipush (nI 255) dX6_says_33 (by decide) ?_
              refine x_callSd0 (mt' := mX6_in) (sp_X6_in _ _ _) ktX6_in wl_X6_36 (by decide) dX6_says_36 rfl rfl (Nat.le_of_ble_eq_true rfl) ⟨rfl, rfl⟩ (by decide) ?_
              refine x_if_ne 52 dX6_says_39 (by decide) (fun c39 => ?_) (fun c39 => ?_)
              · skip
                refine x_aload_n dX6_says_52 rfl rfl ?_
                refine x_getR fl_X6_7 dX6_says_53 xk_131 (by decide) rfl (hM 0 _ rfl) ?_
                refine x_iload_n dX6_says_56 rfl rfl ?_
                refine x_iconst (nI 0) dX6_says_57 (by decide) ?_
                refine x_callSd0 (mt' := mX6_of) (sp_X6_of _ _) ktX6_of wl_X6_33 (by decide) dX6_says_58 rfl rfl (Nat.le_of_ble_eq_true rfl) ⟨rfl, rfl⟩ (by decide) ?_
                refine x_ldS dX6_says_61 (by omega) (zf_sp (by omega) (by omega)) ?_
                refine x_eqtop (y := nI 5) hm ?_
                refine x_istore dX6_says_62 (by decide) ?_
                refine x_iload dX6_says_64 rfl ?_
                refine x_iconst (nI 5) dX6_says_66 (by decide) ?_
                refine x_icmp_neN 73 dX6_says_67 (by decide) (by omega) (by omega) (fun c67 => ?_) (fun c67 => ?_)
                · skip
                  exact absurd rfl c67
                · skip
                  refine x_bipush (-3) dX6_says_70 (by decide) ?_
                  refine x_iret dX6_says_72 rfl (by decide) (by decide) ?_
                  exact ⟨rfl, rfl, rfl, rfl⟩
              · skip
                refine x_iload dX6_says_42 rfl ?_
                refine x_bipush (-5) dX6_says_44 (by decide) ?_
                refine x_icmp_eq 52 dX6_says_46 (by decide) (fun c46 => ?_) (fun c46 => ?_)
                · skip
                  refine x_aload_n dX6_says_52 rfl rfl ?_
                  refine x_getR fl_X6_7 dX6_says_53 xk_131 (by decide) rfl (hM 0 _ rfl) ?_
                  refine x_iload_n dX6_says_56 rfl rfl ?_
                  refine x_iconst (nI 0) dX6_says_57 (by decide) ?_
                  refine x_callSd0 (mt' := mX6_of) (sp_X6_of _ _) ktX6_of wl_X6_33 (by decide) dX6_says_58 rfl rfl (Nat.le_of_ble_eq_true rfl) ⟨rfl, rfl⟩ (by decide) ?_
                  refine x_ldS dX6_says_61 (by omega) (zf_sp (by omega) (by omega)) ?_
                  refine x_eqtop (y := nI 5) hm ?_
                  refine x_istore dX6_says_62 (by decide) ?_
                  refine x_iload dX6_says_64 rfl ?_
                  refine x_iconst (nI 5) dX6_says_66 (by decide) ?_
                  refine x_icmp_neN 73 dX6_says_67 (by decide) (by omega) (by omega) (fun c67 => ?_) (fun c67 => ?_)
                  · skip
                    exact absurd rfl c67
                  · skip
                    refine x_bipush (-3) dX6_says_70 (by decide) ?_
                    refine x_iret dX6_says_72 rfl (by decide) (by decide) ?_
                    exact ⟨rfl, rfl, rfl, rfl⟩
                · skip
                  exact absurd h2.2.2 (fun q => q.elim (bi_t c39) c46)
        · skip
          exact absurd h1 (bi_t c4)
      · have e : pSay Z (nI k) a w d = (nI (m + 1), pAdd Z k m a w d) := by unfold pSay; rw [if_pos h1, if_pos h2, hkc, if_neg (by rw [hm]; intro q; exact h3 ((nI_eq (by omega) (by omega)).mp q)), hm, nI_cl (by omega)]
        rw [e]
        refine x_iload_n dX6_says_0 rfl rfl ?_
        refine x_callSd0 (mt' := mX6_isOne) (sp_X6_isOne _) ktX6_isOne wl_X6_109 (by decide) dX6_says_1 rfl rfl (Nat.le_of_ble_eq_true rfl) ⟨rfl, rfl⟩ (by decide) ?_
        refine x_if_ne 9 dX6_says_4 (by decide) (fun c4 => ?_) (fun c4 => ?_)
        · skip
          refine x_iload_n dX6_says_9 rfl rfl ?_
          refine x_iconst (nI 0) dX6_says_10 (by decide) ?_
          refine x_bipush (nI 127) dX6_says_11 (by decide) ?_
          refine x_callSd0 (mt' := mX6_in) (sp_X6_in _ _ _) ktX6_in wl_X6_36 (by decide) dX6_says_13 rfl rfl (Nat.le_of_ble_eq_true rfl) ⟨rfl, rfl⟩ (by decide) ?_
          refine x_if_eq 49 dX6_says_16 (by decide) (fun c16 => ?_) (fun c16 => ?_)
          · skip
            exact absurd h2.1 (bi_t c16)
          · skip
            refine x_iload_n dX6_says_19 rfl rfl ?_
            refine x_iconst (nI 0) dX6_says_20 (by decide) ?_
            refine x_sipush (nI 255) dX6_says_21 (by decide) ?_
            refine x_callSd0 (mt' := mX6_in) (sp_X6_in _ _ _) ktX6_in wl_X6_36 (by decide) dX6_says_24 rfl rfl (Nat.le_of_ble_eq_true rfl) ⟨rfl, rfl⟩ (by decide) ?_
            refine x_if_eq 49 dX6_says_27 (by decide) (fun c27 => ?_) (fun c27 => ?_)
            · skip
              exact absurd h2.2.1 (bi_t c27)
            · skip
              refine x_iload dX6_says_30 rfl ?_
              refine x_iconst (nI 0) dX6_says_32 (by decide) ?_
              refine x_sipush (nI 255) dX6_says_33 (by decide) ?_
              refine x_callSd0 (mt' := mX6_in) (sp_X6_in _ _ _) ktX6_in wl_X6_36 (by decide) dX6_says_36 rfl rfl (Nat.le_of_ble_eq_true rfl) ⟨rfl, rfl⟩ (by decide) ?_
              refine x_if_ne 52 dX6_says_39 (by decide) (fun c39 => ?_) (fun c39 => ?_)
              · skip
                refine x_aload_n dX6_says_52 rfl rfl ?_
                refine x_getR fl_X6_7 dX6_says_53 xk_131 (by decide) rfl (hM 0 _ rfl) ?_
                refine x_iload_n dX6_says_56 rfl rfl ?_
                refine x_iconst (nI 0) dX6_says_57 (by decide) ?_
                refine x_callSd0 (mt' := mX6_of) (sp_X6_of _ _) ktX6_of wl_X6_33 (by decide) dX6_says_58 rfl rfl (Nat.le_of_ble_eq_true rfl) ⟨rfl, rfl⟩ (by decide) ?_
                refine x_ldS dX6_says_61 (by omega) (zf_sp (by omega) (by omega)) ?_
                refine x_eqtop (y := nI m) hm ?_
                refine x_istore dX6_says_62 (by decide) ?_
                refine x_iload dX6_says_64 rfl ?_
                refine x_iconst (nI 5) dX6_says_66 (by decide) ?_
                refine x_icmp_neN 73 dX6_says_67 (by decide) (by omega) (by omega) (fun c67 => ?_) (fun c67 => ?_)
                · skip
                  refine x_aload_n dX6_says_73 rfl rfl ?_
                  refine x_getR fl_X6_7 dX6_says_74 xk_131 (by decide) rfl (hM 0 _ rfl) ?_
                  refine x_iload_n dX6_says_77 rfl rfl ?_
                  refine x_bipush (nI 7) dX6_says_78 (by decide) ?_
                  refine x_iconst (nI 3) dX6_says_80 (by decide) ?_
                  refine x_iload dX6_says_81 rfl ?_
                  refine x_imulN dX6_says_83 ?_
                  refine x_iaddN dX6_says_84 ?_
                  refine x_callSd0 (mt' := mX6_of) (sp_X6_of _ _) ktX6_of wl_X6_33 (by decide) dX6_says_85 rfl rfl (Nat.le_of_ble_eq_true rfl) ⟨rfl, rfl⟩ (by decide) ?_
                  refine x_iload_n dX6_says_88 rfl rfl ?_
                  refine x_stS dX6_says_89 (by omega) (zf_usp (w := 7 + 3 * m) (by omega) (by omega)) ?_
                  refine x_aload_n dX6_says_90 rfl rfl ?_
                  refine x_getR fl_X6_7 dX6_says_91 xk_131 (by decide) rfl (hM 0 _ rfl) ?_
                  refine x_iload_n dX6_says_94 rfl rfl ?_
                  refine x_bipush (nI 7) dX6_says_95 (by decide) ?_
                  refine x_iconst (nI 3) dX6_says_97 (by decide) ?_
                  refine x_iload dX6_says_98 rfl ?_
                  refine x_imulN dX6_says_100 ?_
                  refine x_iaddN dX6_says_101 ?_
                  refine x_iconst (nI 1) dX6_says_102 (by decide) ?_
                  refine x_iaddN dX6_says_103 ?_
                  refine x_callSd0 (mt' := mX6_of) (sp_X6_of _ _) ktX6_of wl_X6_33 (by decide) dX6_says_104 rfl rfl (Nat.le_of_ble_eq_true rfl) ⟨rfl, rfl⟩ (by decide) ?_
                  refine x_iload_n dX6_says_107 rfl rfl ?_
                  refine x_stS dX6_says_108 (by omega) (zf_usp (w := 7 + 3 * m + 1) (by omega) (by omega)) ?_
                  refine x_aload_n dX6_says_109 rfl rfl ?_
                  refine x_getR fl_X6_7 dX6_says_110 xk_131 (by decide) rfl (hM 0 _ rfl) ?_
                  refine x_iload_n dX6_says_113 rfl rfl ?_
                  refine x_bipush (nI 7) dX6_says_114 (by decide) ?_
                  refine x_iconst (nI 3) dX6_says_116 (by decide) ?_
                  refine x_iload dX6_says_117 rfl ?_
                  refine x_imulN dX6_says_119 ?_
                  refine x_iaddN dX6_says_120 ?_
                  refine x_iconst (nI 2) dX6_says_121 (by decide) ?_
                  refine x_iaddN dX6_says_122 ?_
                  refine x_callSd0 (mt' := mX6_of) (sp_X6_of _ _) ktX6_of wl_X6_33 (by decide) dX6_says_123 rfl rfl (Nat.le_of_ble_eq_true rfl) ⟨rfl, rfl⟩ (by decide) ?_
                  refine x_iload dX6_says_126 rfl ?_
                  refine x_stS dX6_says_128 (by omega) (zf_usp (w := 7 + 3 * m + 2) (by omega) (by omega)) ?_
                  refine x_aload_n dX6_says_129 rfl rfl ?_
                  refine x_getR fl_X6_7 dX6_says_130 xk_131 (by decide) rfl (hM 0 _ rfl) ?_
                  refine x_iload_n dX6_says_133 rfl rfl ?_
                  refine x_iconst (nI 0) dX6_says_134 (by decide) ?_
                  refine x_callSd0 (mt' := mX6_of) (sp_X6_of _ _) ktX6_of wl_X6_33 (by decide) dX6_says_135 rfl rfl (Nat.le_of_ble_eq_true rfl) ⟨rfl, rfl⟩ (by decide) ?_
                  refine x_dup2 dX6_says_138 rfl rfl ?_
                  refine x_ldS dX6_says_139 (by omega) (zf_sp (by omega) (by omega)) ?_
                  refine x_eqtop (y := nI m) (by rw [xuI_at (by omega), xuI_at (by omega), xuI_at (by omega)]; exact hm) ?_
                  refine x_iconst (nI 1) dX6_says_140 (by decide) ?_
                  refine x_iaddN dX6_says_141 ?_
                  refine x_stS dX6_says_142 (by omega) (zf_usp (by omega) (by omega)) ?_
                  refine x_iload dX6_says_143 rfl ?_
                  refine x_iconst (nI 1) dX6_says_145 (by decide) ?_
                  refine x_iaddN dX6_says_146 ?_
                  refine x_iret dX6_says_147 rfl (by decide) (by decide) ?_
                  exact ⟨rfl, rfl, rfl, rfl⟩
                · skip
                  exact absurd c67 h3
              · skip
                refine x_iload dX6_says_42 rfl ?_
                refine x_bipush (-5) dX6_says_44 (by decide) ?_
                refine x_icmp_eq 52 dX6_says_46 (by decide) (fun c46 => ?_) (fun c46 => ?_)
                · skip
                  refine x_aload_n dX6_says_52 rfl rfl ?_
                  refine x_getR fl_X6_7 dX6_says_53 xk_131 (by decide) rfl (hM 0 _ rfl) ?_
                  refine x_iload_n dX6_says_56 rfl rfl ?_
                  refine x_iconst (nI 0) dX6_says_57 (by decide) ?_
                  refine x_callSd0 (mt' := mX6_of) (sp_X6_of _ _) ktX6_of wl_X6_33 (by decide) dX6_says_58 rfl rfl (Nat.le_of_ble_eq_true rfl) ⟨rfl, rfl⟩ (by decide) ?_
                  refine x_ldS dX6_says_61 (by omega) (zf_sp (by omega) (by omega)) ?_
                  refine x_eqtop (y := nI m) hm ?_
                  refine x_istore dX6_says_62 (by decide) ?_
                  refine x_iload dX6_says_64 rfl ?_
                  refine x_iconst (nI 5) dX6_says_66 (by decide) ?_
                  refine x_icmp_neN 73 dX6_says_67 (by decide) (by omega) (by omega) (fun c67 => ?_) (fun c67 => ?_)
                  · skip
                    refine x_aload_n dX6_says_73 rfl rfl ?_
                    refine x_getR fl_X6_7 dX6_says_74 xk_131 (by decide) rfl (hM 0 _ rfl) ?_
                    refine x_iload_n dX6_says_77 rfl rfl ?_
                    refine x_bipush (nI 7) dX6_says_78 (by decide) ?_
                    refine x_iconst (nI 3) dX6_says_80 (by decide) ?_
                    refine x_iload dX6_says_81 rfl ?_
                    refine x_imulN dX6_says_83 ?_
                    refine x_iaddN dX6_says_84 ?_
                    refine x_callSd0 (mt' := mX6_of) (sp_X6_of _ _) ktX6_of wl_X6_33 (by decide) dX6_says_85 rfl rfl (Nat.le_of_ble_eq_true rfl) ⟨rfl, rfl⟩ (by decide) ?_
                    refine x_iload_n dX6_says_88 rfl rfl ?_
                    refine x_stS dX6_says_89 (by omega) (zf_usp (w := 7 + 3 * m) (by omega) (by omega)) ?_
                    refine x_aload_n dX6_says_90 rfl rfl ?_
                    refine x_getR fl_X6_7 dX6_says_91 xk_131 (by decide) rfl (hM 0 _ rfl) ?_
                    refine x_iload_n dX6_says_94 rfl rfl ?_
                    refine x_bipush (nI 7) dX6_says_95 (by decide) ?_
                    refine x_iconst (nI 3) dX6_says_97 (by decide) ?_
                    refine x_iload dX6_says_98 rfl ?_
                    refine x_imulN dX6_says_100 ?_
                    refine x_iaddN dX6_says_101 ?_
                    refine x_iconst (nI 1) dX6_says_102 (by decide) ?_
                    refine x_iaddN dX6_says_103 ?_
                    refine x_callSd0 (mt' := mX6_of) (sp_X6_of _ _) ktX6_of wl_X6_33 (by decide) dX6_says_104 rfl rfl (Nat.le_of_ble_eq_true rfl) ⟨rfl, rfl⟩ (by decide) ?_
                    refine x_iload_n dX6_says_107 rfl rfl ?_
                    refine x_stS dX6_says_108 (by omega) (zf_usp (w := 7 + 3 * m + 1) (by omega) (by omega)) ?_
                    refine x_aload_n dX6_says_109 rfl rfl ?_
                    refine x_getR fl_X6_7 dX6_says_110 xk_131 (by decide) rfl (hM 0 _ rfl) ?_
                    refine x_iload_n dX6_says_113 rfl rfl ?_
                    refine x_bipush (nI 7) dX6_says_114 (by decide) ?_
                    refine x_iconst (nI 3) dX6_says_116 (by decide) ?_
                    refine x_iload dX6_says_117 rfl ?_
                    refine x_imulN dX6_says_119 ?_
                    refine x_iaddN dX6_says_120 ?_
                    refine x_iconst (nI 2) dX6_says_121 (by decide) ?_
                    refine x_iaddN dX6_says_122 ?_
                    refine x_callSd0 (mt' := mX6_of) (sp_X6_of _ _) ktX6_of wl_X6_33 (by decide) dX6_says_123 rfl rfl (Nat.le_of_ble_eq_true rfl) ⟨rfl, rfl⟩ (by decide) ?_
                    refine x_iload dX6_says_126 rfl ?_
                    refine x_stS dX6_says_128 (by omega) (zf_usp (w := 7 + 3 * m + 2) (by omega) (by omega)) ?_
                    refine x_aload_n dX6_says_129 rfl rfl ?_
                    refine x_getR fl_X6_7 dX6_says_130 xk_131 (by decide) rfl (hM 0 _ rfl) ?_
                    refine x_iload_n dX6_says_133 rfl rfl ?_
                    refine x_iconst (nI 0) dX6_says_134 (by decide) ?_
                    refine x_callSd0 (mt' := mX6_of) (sp_X6_of _ _) ktX6_of wl_X6_33 (by decide) dX6_says_135 rfl rfl (Nat.le_of_ble_eq_true rfl) ⟨rfl, rfl⟩ (by decide) ?_
                    refine x_dup2 dX6_says_138 rfl rfl ?_
                    refine x_ldS dX6_says_139 (by omega) (zf_sp (by omega) (by omega)) ?_
                    refine x_eqtop (y := nI m) (by rw [xuI_at (by omega), xuI_at (by omega), xuI_at (by omega)]; exact hm) ?_
                    refine x_iconst (nI 1) dX6_says_140 (by decide) ?_
                    refine x_iaddN dX6_says_141 ?_
                    refine x_stS dX6_says_142 (by omega) (zf_usp (by omega) (by omega)) ?_
                    refine x_iload dX6_says_143 rfl ?_
                    refine x_iconst (nI 1) dX6_says_145 (by decide) ?_
                    refine x_iaddN dX6_says_146 ?_
                    refine x_iret dX6_says_147 rfl (by decide) (by decide) ?_
                    exact ⟨rfl, rfl, rfl, rfl⟩
                  · skip
                    exact absurd c67 h3
                · skip
                  exact absurd h2.2.2 (fun q => q.elim (bi_t c39) c46)
        · skip
          exact absurd h1 (bi_t c4)
    · have e : pSay Z (nI k) a w d = (-2, Z) := by unfold pSay; rw [if_pos h1, if_neg h2]
      rw [e]
      refine x_iload_n dX6_says_0 rfl rfl ?_
      refine x_callSd0 (mt' := mX6_isOne) (sp_X6_isOne _) ktX6_isOne wl_X6_109 (by decide) dX6_says_1 rfl rfl (Nat.le_of_ble_eq_true rfl) ⟨rfl, rfl⟩ (by decide) ?_
      refine x_if_ne 9 dX6_says_4 (by decide) (fun c4 => ?_) (fun c4 => ?_)
      · skip
        refine x_iload_n dX6_says_9 rfl rfl ?_
        refine x_iconst (nI 0) dX6_says_10 (by decide) ?_
        refine x_bipush (nI 127) dX6_says_11 (by decide) ?_
        refine x_callSd0 (mt' := mX6_in) (sp_X6_in _ _ _) ktX6_in wl_X6_36 (by decide) dX6_says_13 rfl rfl (Nat.le_of_ble_eq_true rfl) ⟨rfl, rfl⟩ (by decide) ?_
        refine x_if_eq 49 dX6_says_16 (by decide) (fun c16 => ?_) (fun c16 => ?_)
        · skip
          refine x_bipush (-2) dX6_says_49 (by decide) ?_
          refine x_iret dX6_says_51 rfl (by decide) (by decide) ?_
          exact ⟨rfl, rfl, rfl, rfl⟩
        · skip
          refine x_iload_n dX6_says_19 rfl rfl ?_
          refine x_iconst (nI 0) dX6_says_20 (by decide) ?_
          refine x_sipush (nI 255) dX6_says_21 (by decide) ?_
          refine x_callSd0 (mt' := mX6_in) (sp_X6_in _ _ _) ktX6_in wl_X6_36 (by decide) dX6_says_24 rfl rfl (Nat.le_of_ble_eq_true rfl) ⟨rfl, rfl⟩ (by decide) ?_
          refine x_if_eq 49 dX6_says_27 (by decide) (fun c27 => ?_) (fun c27 => ?_)
          · skip
            refine x_bipush (-2) dX6_says_49 (by decide) ?_
            refine x_iret dX6_says_51 rfl (by decide) (by decide) ?_
            exact ⟨rfl, rfl, rfl, rfl⟩
          · skip
            refine x_iload dX6_says_30 rfl ?_
            refine x_iconst (nI 0) dX6_says_32 (by decide) ?_
            refine x_sipush (nI 255) dX6_says_33 (by decide) ?_
            refine x_callSd0 (mt' := mX6_in) (sp_X6_in _ _ _) ktX6_in wl_X6_36 (by decide) dX6_says_36 rfl rfl (Nat.le_of_ble_eq_true rfl) ⟨rfl, rfl⟩ (by decide) ?_
            refine x_if_ne 52 dX6_says_39 (by decide) (fun c39 => ?_) (fun c39 => ?_)
            · skip
              exact absurd ⟨bi_nt c16, bi_nt c27, Or.inl (bi_nt c39)⟩ h2
            · skip
              refine x_iload dX6_says_42 rfl ?_
              refine x_bipush (-5) dX6_says_44 (by decide) ?_
              refine x_icmp_eq 52 dX6_says_46 (by decide) (fun c46 => ?_) (fun c46 => ?_)
              · skip
                exact absurd ⟨bi_nt c16, bi_nt c27, Or.inr c46⟩ h2
              · skip
                refine x_bipush (-2) dX6_says_49 (by decide) ?_
                refine x_iret dX6_says_51 rfl (by decide) (by decide) ?_
                exact ⟨rfl, rfl, rfl, rfl⟩
      · skip
        exact absurd h1 (bi_t c4)
  · have e : pSay Z s a w d = (-1, Z) := by unfold pSay; rw [if_neg h1]
    rw [e]
    refine x_iload_n dX6_says_0 rfl rfl ?_
    refine x_callSd0 (mt' := mX6_isOne) (sp_X6_isOne _) ktX6_isOne wl_X6_109 (by decide) dX6_says_1 rfl rfl (Nat.le_of_ble_eq_true rfl) ⟨rfl, rfl⟩ (by decide) ?_
    refine x_if_ne 9 dX6_says_4 (by decide) (fun c4 => ?_) (fun c4 => ?_)
    · skip
      exact absurd (bi_nt c4) h1
    · skip
      refine x_iconst (-1) dX6_says_7 (by decide) ?_
      refine x_iret dX6_says_8 rfl (by decide) (by decide) ?_
      exact ⟨rfl, rfl, rfl, rfl⟩
theorem sp_X6_takesBack (hM : Md R) (s : Int32) (hN : N5 Z) : Spd mX6_takesBack [.ref 131, .int s] (MM I φ Z α β κ τ) R (some (.int (pTake Z s).1)) (MM I φ (pTake Z s).2 α β κ τ) := by
  refine Spd.mk (by decide +kernel) (by simp [Value.category]) (Nat.le_of_ble_eq_true rfl) (fun g cx => ?_)
  by_cases h1 : inr s (nI 0) (nI 3) = true
  · obtain ⟨k, -, hk, rfl⟩ := inr_of (by omega) h1 (by omega)
    obtain ⟨m, hm5, hm⟩ := hN k (by omega)
    have hkc : (nI k).toNatClampNeg = k := nI_cl (by omega)
    by_cases h2 : Z k 0 = nI 1 ∧ tk Z k = true
    · have e : pTake Z (nI k) = (-4, Z) := by unfold pTake; rw [if_pos h1, hkc, if_pos h2]
      rw [e]
      refine x_iload_n dX6_takesBack_0 rfl rfl ?_
      refine x_callSd0 (mt' := mX6_isOne) (sp_X6_isOne _) ktX6_isOne wl_X6_109 (by decide) dX6_takesBack_1 rfl rfl (Nat.le_of_ble_eq_true rfl) ⟨rfl, rfl⟩ (by decide) ?_
      refine x_if_ne 9 dX6_takesBack_4 (by decide) (fun c4 => ?_) (fun c4 => ?_)
      · skip
        refine x_aload_n dX6_takesBack_9 rfl rfl ?_
        refine x_getR fl_X6_7 dX6_takesBack_10 xk_131 (by decide) rfl (hM 0 _ rfl) ?_
        refine x_iload_n dX6_takesBack_13 rfl rfl ?_
        refine x_iconst (nI 0) dX6_takesBack_14 (by decide) ?_
        refine x_callSd0 (mt' := mX6_of) (sp_X6_of _ _) ktX6_of wl_X6_33 (by decide) dX6_takesBack_15 rfl rfl (Nat.le_of_ble_eq_true rfl) ⟨rfl, rfl⟩ (by decide) ?_
        refine x_ldS dX6_takesBack_18 (by omega) (zf_sp (by omega) (by omega)) ?_
        refine x_istore_n dX6_takesBack_19 rfl (by decide) ?_
        refine x_iload_n dX6_takesBack_20 rfl rfl ?_
        refine x_iconst (nI 1) dX6_takesBack_21 (by decide) ?_
        refine x_icmp_ne 36 dX6_takesBack_22 (by decide) (fun c22 => ?_) (fun c22 => ?_)
        · skip
          exact absurd h2.1 c22
        · skip
          refine x_aload_n dX6_takesBack_25 rfl rfl ?_
          refine x_iload_n dX6_takesBack_26 rfl rfl ?_
          refine x_callVd0 (mt' := mX6_isTalking) (sp_X6_isTalking hM (by omega)) kvX6_isTalking wl_X6_47 (by decide) dX6_takesBack_27 xk_131 (by decide) rfl rfl (Nat.le_of_ble_eq_true rfl) ⟨rfl, rfl⟩ (by decide) ?_
          refine x_if_eq 36 dX6_takesBack_30 (by decide) (fun c30 => ?_) (fun c30 => ?_)
          · skip
            exact absurd h2.2 (bi_t c30)
          · skip
            refine x_bipush (-4) dX6_takesBack_33 (by decide) ?_
            refine x_iret dX6_takesBack_35 rfl (by decide) (by decide) ?_
            exact ⟨rfl, rfl, rfl, rfl⟩
      · skip
        exact absurd h1 (bi_t c4)
    · by_cases h3 : Z k 0 = 0
      · have e : pTake Z (nI k) = (-5, Z) := by unfold pTake; rw [if_pos h1, hkc, if_neg h2, if_pos h3]
        rw [e]
        refine x_iload_n dX6_takesBack_0 rfl rfl ?_
        refine x_callSd0 (mt' := mX6_isOne) (sp_X6_isOne _) ktX6_isOne wl_X6_109 (by decide) dX6_takesBack_1 rfl rfl (Nat.le_of_ble_eq_true rfl) ⟨rfl, rfl⟩ (by decide) ?_
        refine x_if_ne 9 dX6_takesBack_4 (by decide) (fun c4 => ?_) (fun c4 => ?_)
        · skip
          refine x_aload_n dX6_takesBack_9 rfl rfl ?_
          refine x_getR fl_X6_7 dX6_takesBack_10 xk_131 (by decide) rfl (hM 0 _ rfl) ?_
          refine x_iload_n dX6_takesBack_13 rfl rfl ?_
          refine x_iconst (nI 0) dX6_takesBack_14 (by decide) ?_
          refine x_callSd0 (mt' := mX6_of) (sp_X6_of _ _) ktX6_of wl_X6_33 (by decide) dX6_takesBack_15 rfl rfl (Nat.le_of_ble_eq_true rfl) ⟨rfl, rfl⟩ (by decide) ?_
          refine x_ldS dX6_takesBack_18 (by omega) (zf_sp (by omega) (by omega)) ?_
          refine x_istore_n dX6_takesBack_19 rfl (by decide) ?_
          refine x_iload_n dX6_takesBack_20 rfl rfl ?_
          refine x_iconst (nI 1) dX6_takesBack_21 (by decide) ?_
          refine x_icmp_ne 36 dX6_takesBack_22 (by decide) (fun c22 => ?_) (fun c22 => ?_)
          · skip
            refine x_iload_n dX6_takesBack_36 rfl rfl ?_
            refine x_if_ne 43 dX6_takesBack_37 (by decide) (fun c37 => ?_) (fun c37 => ?_)
            · skip
              exact absurd h3 c37
            · skip
              refine x_bipush (-5) dX6_takesBack_40 (by decide) ?_
              refine x_iret dX6_takesBack_42 rfl (by decide) (by decide) ?_
              exact ⟨rfl, rfl, rfl, rfl⟩
          · skip
            refine x_aload_n dX6_takesBack_25 rfl rfl ?_
            refine x_iload_n dX6_takesBack_26 rfl rfl ?_
            refine x_callVd0 (mt' := mX6_isTalking) (sp_X6_isTalking hM (by omega)) kvX6_isTalking wl_X6_47 (by decide) dX6_takesBack_27 xk_131 (by decide) rfl rfl (Nat.le_of_ble_eq_true rfl) ⟨rfl, rfl⟩ (by decide) ?_
            refine x_if_eq 36 dX6_takesBack_30 (by decide) (fun c30 => ?_) (fun c30 => ?_)
            · skip
              refine x_iload_n dX6_takesBack_36 rfl rfl ?_
              refine x_if_ne 43 dX6_takesBack_37 (by decide) (fun c37 => ?_) (fun c37 => ?_)
              · skip
                exact absurd h3 c37
              · skip
                refine x_bipush (-5) dX6_takesBack_40 (by decide) ?_
                refine x_iret dX6_takesBack_42 rfl (by decide) (by decide) ?_
                exact ⟨rfl, rfl, rfl, rfl⟩
            · skip
              exact absurd ⟨c22, bi_nt c30⟩ h2
        · skip
          exact absurd h1 (bi_t c4)
      · have e : pTake Z (nI k) = (Z k 0 - nI 1, xuI (xuI Z k 0 (Z k 0 - nI 1)) k 6 (if Z k 0 = nI 1 then nI 0 else Z k 6)) := by unfold pTake; rw [if_pos h1, hkc, if_neg h2, if_neg h3]
        rw [e]
        refine x_iload_n dX6_takesBack_0 rfl rfl ?_
        refine x_callSd0 (mt' := mX6_isOne) (sp_X6_isOne _) ktX6_isOne wl_X6_109 (by decide) dX6_takesBack_1 rfl rfl (Nat.le_of_ble_eq_true rfl) ⟨rfl, rfl⟩ (by decide) ?_
        refine x_if_ne 9 dX6_takesBack_4 (by decide) (fun c4 => ?_) (fun c4 => ?_)
        · skip
          refine x_aload_n dX6_takesBack_9 rfl rfl ?_
          refine x_getR fl_X6_7 dX6_takesBack_10 xk_131 (by decide) rfl (hM 0 _ rfl) ?_
          refine x_iload_n dX6_takesBack_13 rfl rfl ?_
          refine x_iconst (nI 0) dX6_takesBack_14 (by decide) ?_
          refine x_callSd0 (mt' := mX6_of) (sp_X6_of _ _) ktX6_of wl_X6_33 (by decide) dX6_takesBack_15 rfl rfl (Nat.le_of_ble_eq_true rfl) ⟨rfl, rfl⟩ (by decide) ?_
          refine x_ldS dX6_takesBack_18 (by omega) (zf_sp (by omega) (by omega)) ?_
          refine x_istore_n dX6_takesBack_19 rfl (by decide) ?_
          refine x_iload_n dX6_takesBack_20 rfl rfl ?_
          refine x_iconst (nI 1) dX6_takesBack_21 (by decide) ?_
          refine x_icmp_ne 36 dX6_takesBack_22 (by decide) (fun c22 => ?_) (fun c22 => ?_)
          · skip
            refine x_iload_n dX6_takesBack_36 rfl rfl ?_
            refine x_if_ne 43 dX6_takesBack_37 (by decide) (fun c37 => ?_) (fun c37 => ?_)
            · skip
              refine x_aload_n dX6_takesBack_43 rfl rfl ?_
              refine x_getR fl_X6_7 dX6_takesBack_44 xk_131 (by decide) rfl (hM 0 _ rfl) ?_
              refine x_iload_n dX6_takesBack_47 rfl rfl ?_
              refine x_iconst (nI 0) dX6_takesBack_48 (by decide) ?_
              refine x_callSd0 (mt' := mX6_of) (sp_X6_of _ _) ktX6_of wl_X6_33 (by decide) dX6_takesBack_49 rfl rfl (Nat.le_of_ble_eq_true rfl) ⟨rfl, rfl⟩ (by decide) ?_
              refine x_dup2 dX6_takesBack_52 rfl rfl ?_
              refine x_ldS dX6_takesBack_53 (by omega) (zf_sp (by omega) (by omega)) ?_
              refine x_iconst (nI 1) dX6_takesBack_54 (by decide) ?_
              refine x_isub dX6_takesBack_55 ?_
              refine x_stS dX6_takesBack_56 (by omega) (zf_usp (by omega) (by omega)) ?_
              refine x_aload_n dX6_takesBack_57 rfl rfl ?_
              refine x_getR fl_X6_7 dX6_takesBack_58 xk_131 (by decide) rfl (hM 0 _ rfl) ?_
              refine x_iload_n dX6_takesBack_61 rfl rfl ?_
              refine x_bipush (nI 6) dX6_takesBack_62 (by decide) ?_
              refine x_callSd0 (mt' := mX6_of) (sp_X6_of _ _) ktX6_of wl_X6_33 (by decide) dX6_takesBack_64 rfl rfl (Nat.le_of_ble_eq_true rfl) ⟨rfl, rfl⟩ (by decide) ?_
              refine x_iload_n dX6_takesBack_67 rfl rfl ?_
              refine x_iconst (nI 1) dX6_takesBack_68 (by decide) ?_
              refine' x_dia_icmp_ne 76 87 dX6_takesBack_69 (by decide) ?_ ?_ ?_; rotate_left 2
              · intro c69 k69
                refine x_iconst (nI 0) dX6_takesBack_72 (by decide) ?_
                refine x_goto 87 dX6_takesBack_73 (by decide) ?_
                exact k69
              · intro c69 k69
                refine x_aload_n dX6_takesBack_76 rfl rfl ?_
                refine x_getR fl_X6_7 dX6_takesBack_77 xk_131 (by decide) rfl (hM 0 _ rfl) ?_
                refine x_iload_n dX6_takesBack_80 rfl rfl ?_
                refine x_bipush (nI 6) dX6_takesBack_81 (by decide) ?_
                refine x_callSd0 (mt' := mX6_of) (sp_X6_of _ _) ktX6_of wl_X6_33 (by decide) dX6_takesBack_83 rfl rfl (Nat.le_of_ble_eq_true rfl) ⟨rfl, rfl⟩ (by decide) ?_
                refine x_ldS dX6_takesBack_86 (by omega) (zf_sp (by omega) (by omega)) ?_
                refine x_eqtop (y := Z k 6) (by rw [xuI_at (by omega)]) ?_
                exact k69
              refine x_stS dX6_takesBack_87 (by omega) (zf_usp (by omega) (by omega)) ?_
              refine x_iload_n dX6_takesBack_88 rfl rfl ?_
              refine x_iconst (nI 1) dX6_takesBack_89 (by decide) ?_
              refine x_isub dX6_takesBack_90 ?_
              refine x_iret dX6_takesBack_91 rfl (by decide) (by decide) ?_
              exact ⟨rfl, rfl, rfl, rfl⟩
            · skip
              exact absurd c37 h3
          · skip
            refine x_aload_n dX6_takesBack_25 rfl rfl ?_
            refine x_iload_n dX6_takesBack_26 rfl rfl ?_
            refine x_callVd0 (mt' := mX6_isTalking) (sp_X6_isTalking hM (by omega)) kvX6_isTalking wl_X6_47 (by decide) dX6_takesBack_27 xk_131 (by decide) rfl rfl (Nat.le_of_ble_eq_true rfl) ⟨rfl, rfl⟩ (by decide) ?_
            refine x_if_eq 36 dX6_takesBack_30 (by decide) (fun c30 => ?_) (fun c30 => ?_)
            · skip
              refine x_iload_n dX6_takesBack_36 rfl rfl ?_
              refine x_if_ne 43 dX6_takesBack_37 (by decide) (fun c37 => ?_) (fun c37 => ?_)
              · skip
                refine x_aload_n dX6_takesBack_43 rfl rfl ?_
                refine x_getR fl_X6_7 dX6_takesBack_44 xk_131 (by decide) rfl (hM 0 _ rfl) ?_
                refine x_iload_n dX6_takesBack_47 rfl rfl ?_
                refine x_iconst (nI 0) dX6_takesBack_48 (by decide) ?_
                refine x_callSd0 (mt' := mX6_of) (sp_X6_of _ _) ktX6_of wl_X6_33 (by decide) dX6_takesBack_49 rfl rfl (Nat.le_of_ble_eq_true rfl) ⟨rfl, rfl⟩ (by decide) ?_
                refine x_dup2 dX6_takesBack_52 rfl rfl ?_
                refine x_ldS dX6_takesBack_53 (by omega) (zf_sp (by omega) (by omega)) ?_
                refine x_iconst (nI 1) dX6_takesBack_54 (by decide) ?_
                refine x_isub dX6_takesBack_55 ?_
                refine x_stS dX6_takesBack_56 (by omega) (zf_usp (by omega) (by omega)) ?_
                refine x_aload_n dX6_takesBack_57 rfl rfl ?_
                refine x_getR fl_X6_7 dX6_takesBack_58 xk_131 (by decide) rfl (hM 0 _ rfl) ?_
                refine x_iload_n dX6_takesBack_61 rfl rfl ?_
                refine x_bipush (nI 6) dX6_takesBack_62 (by decide) ?_
                refine x_callSd0 (mt' := mX6_of) (sp_X6_of _ _) ktX6_of wl_X6_33 (by decide) dX6_takesBack_64 rfl rfl (Nat.le_of_ble_eq_true rfl) ⟨rfl, rfl⟩ (by decide) ?_
                refine x_iload_n dX6_takesBack_67 rfl rfl ?_
                refine x_iconst (nI 1) dX6_takesBack_68 (by decide) ?_
                refine' x_dia_icmp_ne 76 87 dX6_takesBack_69 (by decide) ?_ ?_ ?_; rotate_left 2
                · intro c69 k69
                  refine x_iconst (nI 0) dX6_takesBack_72 (by decide) ?_
                  refine x_goto 87 dX6_takesBack_73 (by decide) ?_
                  exact k69
                · intro c69 k69
                  refine x_aload_n dX6_takesBack_76 rfl rfl ?_
                  refine x_getR fl_X6_7 dX6_takesBack_77 xk_131 (by decide) rfl (hM 0 _ rfl) ?_
                  refine x_iload_n dX6_takesBack_80 rfl rfl ?_
                  refine x_bipush (nI 6) dX6_takesBack_81 (by decide) ?_
                  refine x_callSd0 (mt' := mX6_of) (sp_X6_of _ _) ktX6_of wl_X6_33 (by decide) dX6_takesBack_83 rfl rfl (Nat.le_of_ble_eq_true rfl) ⟨rfl, rfl⟩ (by decide) ?_
                  refine x_ldS dX6_takesBack_86 (by omega) (zf_sp (by omega) (by omega)) ?_
                  refine x_eqtop (y := Z k 6) (by rw [xuI_at (by omega)]) ?_
                  exact k69
                refine x_stS dX6_takesBack_87 (by omega) (zf_usp (by omega) (by omega)) ?_
                refine x_iload_n dX6_takesBack_88 rfl rfl ?_
                refine x_iconst (nI 1) dX6_takesBack_89 (by decide) ?_
                refine x_isub dX6_takesBack_90 ?_
                refine x_iret dX6_takesBack_91 rfl (by decide) (by decide) ?_
                exact ⟨rfl, rfl, rfl, rfl⟩
              · skip
                exact absurd c37 h3
            · skip
              exact absurd ⟨c22, bi_nt c30⟩ h2
        · skip
          exact absurd h1 (bi_t c4)
  · have e : pTake Z s = (-1, Z) := by unfold pTake; rw [if_neg h1]
    rw [e]
    refine x_iload_n dX6_takesBack_0 rfl rfl ?_
    refine x_callSd0 (mt' := mX6_isOne) (sp_X6_isOne _) ktX6_isOne wl_X6_109 (by decide) dX6_takesBack_1 rfl rfl (Nat.le_of_ble_eq_true rfl) ⟨rfl, rfl⟩ (by decide) ?_
    refine x_if_ne 9 dX6_takesBack_4 (by decide) (fun c4 => ?_) (fun c4 => ?_)
    · skip
      exact absurd (bi_nt c4) h1
    · skip
      refine x_iconst (-1) dX6_takesBack_7 (by decide) ?_
      refine x_iret dX6_takesBack_8 rfl (by decide) (by decide) ?_
      exact ⟨rfl, rfl, rfl, rfl⟩
theorem sp_X6_holds (hM : Md R) (s t : Int32) : Spd mX6_holds [.ref 131, .int s, .int t] (MM I φ Z α β κ τ) R (some (.int (pHold Z s t).1)) (MM I φ (pHold Z s t).2 α β κ τ) := by
  refine Spd.mk (by decide +kernel) (by simp [Value.category]) (Nat.le_of_ble_eq_true rfl) (fun g cx => ?_)
  by_cases h1 : inr s (nI 0) (nI 3) = true
  · obtain ⟨k, -, hk, rfl⟩ := inr_of (by omega) h1 (by omega)
    have hkc : (nI k).toNatClampNeg = k := nI_cl (by omega)
    by_cases h2 : inr t (nI 0) (nI 9) = true
    · have e : pHold Z (nI k) t = (if Z (4 + k) 1 = t then -5 else Z (4 + k) 1, xuI Z (4 + k) 1 t) := by unfold pHold; rw [if_pos h1, hkc, if_pos h2]
      rw [e]
      refine x_iload_n dX6_holds_0 rfl rfl ?_
      refine x_callSd0 (mt' := mX6_isOne) (sp_X6_isOne _) ktX6_isOne wl_X6_109 (by decide) dX6_holds_1 rfl rfl (Nat.le_of_ble_eq_true rfl) ⟨rfl, rfl⟩ (by decide) ?_
      refine x_if_ne 9 dX6_holds_4 (by decide) (fun c4 => ?_) (fun c4 => ?_)
      · skip
        refine x_iload_n dX6_holds_9 rfl rfl ?_
        refine x_iconst (nI 0) dX6_holds_10 (by decide) ?_
        refine x_bipush (nI 9) dX6_holds_11 (by decide) ?_
        refine x_callSd0 (mt' := mX6_in) (sp_X6_in _ _ _) ktX6_in wl_X6_36 (by decide) dX6_holds_13 rfl rfl (Nat.le_of_ble_eq_true rfl) ⟨rfl, rfl⟩ (by decide) ?_
        refine x_if_ne 22 dX6_holds_16 (by decide) (fun c16 => ?_) (fun c16 => ?_)
        · skip
          refine x_aload_n dX6_holds_22 rfl rfl ?_
          refine x_getR fl_X6_7 dX6_holds_23 xk_131 (by decide) rfl (hM 0 _ rfl) ?_
          refine x_iload_n dX6_holds_26 rfl rfl ?_
          refine x_iconst (nI 1) dX6_holds_27 (by decide) ?_
          refine x_callSd0 (mt' := mX6_ofListener) (sp_X6_ofListener _ _) ktX6_ofListener wl_X6_29 (by decide) dX6_holds_28 rfl rfl (Nat.le_of_ble_eq_true rfl) ⟨rfl, rfl⟩ (by decide) ?_
          refine x_ldS dX6_holds_31 (by omega) (zf_li (by omega) (by omega)) ?_
          refine x_istore_n dX6_holds_32 rfl (by decide) ?_
          refine x_aload_n dX6_holds_33 rfl rfl ?_
          refine x_getR fl_X6_7 dX6_holds_34 xk_131 (by decide) rfl (hM 0 _ rfl) ?_
          refine x_iload_n dX6_holds_37 rfl rfl ?_
          refine x_iconst (nI 1) dX6_holds_38 (by decide) ?_
          refine x_callSd0 (mt' := mX6_ofListener) (sp_X6_ofListener _ _) ktX6_ofListener wl_X6_29 (by decide) dX6_holds_39 rfl rfl (Nat.le_of_ble_eq_true rfl) ⟨rfl, rfl⟩ (by decide) ?_
          refine x_iload_n dX6_holds_42 rfl rfl ?_
          refine x_stS dX6_holds_43 (by omega) (zf_uli (by omega) (by omega)) ?_
          refine x_iload_n dX6_holds_44 rfl rfl ?_
          refine x_iload_n dX6_holds_45 rfl rfl ?_
          refine' x_dia_icmp_ne 54 55 dX6_holds_46 (by decide) ?_ ?_ ?_; rotate_left 2
          · intro c46 k46
            refine x_bipush (-5) dX6_holds_49 (by decide) ?_
            refine x_goto 55 dX6_holds_51 (by decide) ?_
            exact k46
          · intro c46 k46
            refine x_iload_n dX6_holds_54 rfl rfl ?_
            exact k46
          refine x_iret dX6_holds_55 rfl (by decide) (by decide) ?_
          exact ⟨rfl, rfl, rfl, rfl⟩
        · skip
          exact absurd h2 (bi_t c16)
      · skip
        exact absurd h1 (bi_t c4)
    · have e : pHold Z (nI k) t = (-2, Z) := by unfold pHold; rw [if_pos h1, if_neg h2]
      rw [e]
      refine x_iload_n dX6_holds_0 rfl rfl ?_
      refine x_callSd0 (mt' := mX6_isOne) (sp_X6_isOne _) ktX6_isOne wl_X6_109 (by decide) dX6_holds_1 rfl rfl (Nat.le_of_ble_eq_true rfl) ⟨rfl, rfl⟩ (by decide) ?_
      refine x_if_ne 9 dX6_holds_4 (by decide) (fun c4 => ?_) (fun c4 => ?_)
      · skip
        refine x_iload_n dX6_holds_9 rfl rfl ?_
        refine x_iconst (nI 0) dX6_holds_10 (by decide) ?_
        refine x_bipush (nI 9) dX6_holds_11 (by decide) ?_
        refine x_callSd0 (mt' := mX6_in) (sp_X6_in _ _ _) ktX6_in wl_X6_36 (by decide) dX6_holds_13 rfl rfl (Nat.le_of_ble_eq_true rfl) ⟨rfl, rfl⟩ (by decide) ?_
        refine x_if_ne 22 dX6_holds_16 (by decide) (fun c16 => ?_) (fun c16 => ?_)
        · skip
          exact absurd (bi_nt c16) h2
        · skip
          refine x_bipush (-2) dX6_holds_19 (by decide) ?_
          refine x_iret dX6_holds_21 rfl (by decide) (by decide) ?_
          exact ⟨rfl, rfl, rfl, rfl⟩
      · skip
        exact absurd h1 (bi_t c4)
  · have e : pHold Z s t = (-1, Z) := by unfold pHold; rw [if_neg h1]
    rw [e]
    refine x_iload_n dX6_holds_0 rfl rfl ?_
    refine x_callSd0 (mt' := mX6_isOne) (sp_X6_isOne _) ktX6_isOne wl_X6_109 (by decide) dX6_holds_1 rfl rfl (Nat.le_of_ble_eq_true rfl) ⟨rfl, rfl⟩ (by decide) ?_
    refine x_if_ne 9 dX6_holds_4 (by decide) (fun c4 => ?_) (fun c4 => ?_)
    · skip
      exact absurd (bi_nt c4) h1
    · skip
      refine x_iconst (-1) dX6_holds_7 (by decide) ?_
      refine x_iret dX6_holds_8 rfl (by decide) (by decide) ?_
      exact ⟨rfl, rfl, rfl, rfl⟩
theorem sp_X6_sticks (hM : Md R) (s t : Int32) : Spd mX6_sticks [.ref 131, .int s, .int t] (MM I φ Z α β κ τ) R (some (.int (pStick Z s t).1)) (MM I φ (pStick Z s t).2 α β κ τ) := by
  refine Spd.mk (by decide +kernel) (by simp [Value.category]) (Nat.le_of_ble_eq_true rfl) (fun g cx => ?_)
  by_cases h1 : inr s (nI 0) (nI 3) = true
  · obtain ⟨k, -, hk, rfl⟩ := inr_of (by omega) h1 (by omega)
    have hkc : (nI k).toNatClampNeg = k := nI_cl (by omega)
    by_cases h2 : inr t (nI 1) (nI 99) = true
    · have e : pStick Z (nI k) t = (nI (cn (stu (xuI Z (4 + k) 2 t)) 4), xuI Z (4 + k) 2 t) := by unfold pStick; rw [if_pos h1, hkc, if_pos h2]
      rw [e]
      refine x_iload_n dX6_sticks_0 rfl rfl ?_
      refine x_callSd0 (mt' := mX6_isOne) (sp_X6_isOne _) ktX6_isOne wl_X6_109 (by decide) dX6_sticks_1 rfl rfl (Nat.le_of_ble_eq_true rfl) ⟨rfl, rfl⟩ (by decide) ?_
      refine x_if_ne 9 dX6_sticks_4 (by decide) (fun c4 => ?_) (fun c4 => ?_)
      · skip
        refine x_iload_n dX6_sticks_9 rfl rfl ?_
        refine x_iconst (nI 1) dX6_sticks_10 (by decide) ?_
        refine x_bipush (nI 99) dX6_sticks_11 (by decide) ?_
        refine x_callSd0 (mt' := mX6_in) (sp_X6_in _ _ _) ktX6_in wl_X6_36 (by decide) dX6_sticks_13 rfl rfl (Nat.le_of_ble_eq_true rfl) ⟨rfl, rfl⟩ (by decide) ?_
        refine x_if_ne 22 dX6_sticks_16 (by decide) (fun c16 => ?_) (fun c16 => ?_)
        · skip
          refine x_aload_n dX6_sticks_22 rfl rfl ?_
          refine x_getR fl_X6_7 dX6_sticks_23 xk_131 (by decide) rfl (hM 0 _ rfl) ?_
          refine x_iload_n dX6_sticks_26 rfl rfl ?_
          refine x_iconst (nI 2) dX6_sticks_27 (by decide) ?_
          refine x_callSd0 (mt' := mX6_ofListener) (sp_X6_ofListener _ _) ktX6_ofListener wl_X6_29 (by decide) dX6_sticks_28 rfl rfl (Nat.le_of_ble_eq_true rfl) ⟨rfl, rfl⟩ (by decide) ?_
          refine x_iload_n dX6_sticks_31 rfl rfl ?_
          refine x_stS dX6_sticks_32 (by omega) (zf_uli (by omega) (by omega)) ?_
          refine x_aload_n dX6_sticks_33 rfl rfl ?_
          refine x_callVd0 (mt' := mX6_stuck) (sp_X6_stuck hM) kvX6_stuck wl_X6_88 (by decide) dX6_sticks_34 xk_131 (by decide) rfl rfl (Nat.le_of_ble_eq_true rfl) ⟨rfl, rfl⟩ (by decide) ?_
          refine x_iret dX6_sticks_37 rfl (by decide) (by decide) ?_
          exact ⟨rfl, rfl, rfl, rfl⟩
        · skip
          exact absurd h2 (bi_t c16)
      · skip
        exact absurd h1 (bi_t c4)
    · have e : pStick Z (nI k) t = (-2, Z) := by unfold pStick; rw [if_pos h1, if_neg h2]
      rw [e]
      refine x_iload_n dX6_sticks_0 rfl rfl ?_
      refine x_callSd0 (mt' := mX6_isOne) (sp_X6_isOne _) ktX6_isOne wl_X6_109 (by decide) dX6_sticks_1 rfl rfl (Nat.le_of_ble_eq_true rfl) ⟨rfl, rfl⟩ (by decide) ?_
      refine x_if_ne 9 dX6_sticks_4 (by decide) (fun c4 => ?_) (fun c4 => ?_)
      · skip
        refine x_iload_n dX6_sticks_9 rfl rfl ?_
        refine x_iconst (nI 1) dX6_sticks_10 (by decide) ?_
        refine x_bipush (nI 99) dX6_sticks_11 (by decide) ?_
        refine x_callSd0 (mt' := mX6_in) (sp_X6_in _ _ _) ktX6_in wl_X6_36 (by decide) dX6_sticks_13 rfl rfl (Nat.le_of_ble_eq_true rfl) ⟨rfl, rfl⟩ (by decide) ?_
        refine x_if_ne 22 dX6_sticks_16 (by decide) (fun c16 => ?_) (fun c16 => ?_)
        · skip
          exact absurd (bi_nt c16) h2
        · skip
          refine x_bipush (-2) dX6_sticks_19 (by decide) ?_
          refine x_iret dX6_sticks_21 rfl (by decide) (by decide) ?_
          exact ⟨rfl, rfl, rfl, rfl⟩
      · skip
        exact absurd h1 (bi_t c4)
  · have e : pStick Z s t = (-1, Z) := by unfold pStick; rw [if_neg h1]
    rw [e]
    refine x_iload_n dX6_sticks_0 rfl rfl ?_
    refine x_callSd0 (mt' := mX6_isOne) (sp_X6_isOne _) ktX6_isOne wl_X6_109 (by decide) dX6_sticks_1 rfl rfl (Nat.le_of_ble_eq_true rfl) ⟨rfl, rfl⟩ (by decide) ?_
    refine x_if_ne 9 dX6_sticks_4 (by decide) (fun c4 => ?_) (fun c4 => ?_)
    · skip
      exact absurd (bi_nt c4) h1
    · skip
      refine x_iconst (-1) dX6_sticks_7 (by decide) ?_
      refine x_iret dX6_sticks_8 rfl (by decide) (by decide) ?_
      exact ⟨rfl, rfl, rfl, rfl⟩
theorem sp_X6_sets (hM : Md R) (s t : Int32) : Spd mX6_sets [.ref 131, .int s, .int t] (MM I φ Z α β κ τ) R (some (.int (pSet Z s t).1)) (MM I φ (pSet Z s t).2 α β κ τ) := by
  refine Spd.mk (by decide +kernel) (by simp [Value.category]) (Nat.le_of_ble_eq_true rfl) (fun g cx => ?_)
  by_cases h1 : inr s (nI 0) (nI 2) = true
  · obtain ⟨k, -, hk, rfl⟩ := inr_of (by omega) h1 (by omega)
    have hkc : (nI k).toNatClampNeg = k := nI_cl (by omega)
    by_cases h2 : inr t (nI 1) (pMost (nI k)) = true
    · have e : pSet Z (nI k) t = (if Z 8 k = t then -5 else Z 8 k, xuI Z 8 k t) := by unfold pSet; rw [if_pos h1, hkc, if_pos h2]
      rw [e]
      refine x_iload_n dX6_sets_0 rfl rfl ?_
      refine x_iconst (nI 0) dX6_sets_1 (by decide) ?_
      refine x_iconst (nI 2) dX6_sets_2 (by decide) ?_
      refine x_callSd0 (mt' := mX6_in) (sp_X6_in _ _ _) ktX6_in wl_X6_36 (by decide) dX6_sets_3 rfl rfl (Nat.le_of_ble_eq_true rfl) ⟨rfl, rfl⟩ (by decide) ?_
      refine x_if_ne 11 dX6_sets_6 (by decide) (fun c6 => ?_) (fun c6 => ?_)
      · skip
        refine x_iload_n dX6_sets_11 rfl rfl ?_
        refine x_iconst (nI 1) dX6_sets_12 (by decide) ?_
        refine x_iload_n dX6_sets_13 rfl rfl ?_
        refine x_callSd0 (mt' := mX6_most) (sp_X6_most _) ktX6_most wl_X6_119 (by decide) dX6_sets_14 rfl rfl (Nat.le_of_ble_eq_true rfl) ⟨rfl, rfl⟩ (by decide) ?_
        refine x_callSd0 (mt' := mX6_in) (sp_X6_in _ _ _) ktX6_in wl_X6_36 (by decide) dX6_sets_17 rfl rfl (Nat.le_of_ble_eq_true rfl) ⟨rfl, rfl⟩ (by decide) ?_
        refine x_if_ne 26 dX6_sets_20 (by decide) (fun c20 => ?_) (fun c20 => ?_)
        · skip
          refine x_aload_n dX6_sets_26 rfl rfl ?_
          refine x_getR fl_X6_7 dX6_sets_27 xk_131 (by decide) rfl (hM 0 _ rfl) ?_
          refine x_iload_n dX6_sets_30 rfl rfl ?_
          refine x_ldS dX6_sets_31 (by omega) (zf_se (by omega)) ?_
          refine x_istore_n dX6_sets_32 rfl (by decide) ?_
          refine x_aload_n dX6_sets_33 rfl rfl ?_
          refine x_getR fl_X6_7 dX6_sets_34 xk_131 (by decide) rfl (hM 0 _ rfl) ?_
          refine x_iload_n dX6_sets_37 rfl rfl ?_
          refine x_iload_n dX6_sets_38 rfl rfl ?_
          refine x_stS dX6_sets_39 (by omega) (zf_use (by omega)) ?_
          refine x_iload_n dX6_sets_40 rfl rfl ?_
          refine x_iload_n dX6_sets_41 rfl rfl ?_
          refine' x_dia_icmp_ne 50 51 dX6_sets_42 (by decide) ?_ ?_ ?_; rotate_left 2
          · intro c42 k42
            refine x_bipush (-5) dX6_sets_45 (by decide) ?_
            refine x_goto 51 dX6_sets_47 (by decide) ?_
            exact k42
          · intro c42 k42
            refine x_iload_n dX6_sets_50 rfl rfl ?_
            exact k42
          refine x_iret dX6_sets_51 rfl (by decide) (by decide) ?_
          exact ⟨rfl, rfl, rfl, rfl⟩
        · skip
          exact absurd h2 (bi_t c20)
      · skip
        exact absurd h1 (bi_t c6)
    · have e : pSet Z (nI k) t = (-2, Z) := by unfold pSet; rw [if_pos h1, if_neg h2]
      rw [e]
      refine x_iload_n dX6_sets_0 rfl rfl ?_
      refine x_iconst (nI 0) dX6_sets_1 (by decide) ?_
      refine x_iconst (nI 2) dX6_sets_2 (by decide) ?_
      refine x_callSd0 (mt' := mX6_in) (sp_X6_in _ _ _) ktX6_in wl_X6_36 (by decide) dX6_sets_3 rfl rfl (Nat.le_of_ble_eq_true rfl) ⟨rfl, rfl⟩ (by decide) ?_
      refine x_if_ne 11 dX6_sets_6 (by decide) (fun c6 => ?_) (fun c6 => ?_)
      · skip
        refine x_iload_n dX6_sets_11 rfl rfl ?_
        refine x_iconst (nI 1) dX6_sets_12 (by decide) ?_
        refine x_iload_n dX6_sets_13 rfl rfl ?_
        refine x_callSd0 (mt' := mX6_most) (sp_X6_most _) ktX6_most wl_X6_119 (by decide) dX6_sets_14 rfl rfl (Nat.le_of_ble_eq_true rfl) ⟨rfl, rfl⟩ (by decide) ?_
        refine x_callSd0 (mt' := mX6_in) (sp_X6_in _ _ _) ktX6_in wl_X6_36 (by decide) dX6_sets_17 rfl rfl (Nat.le_of_ble_eq_true rfl) ⟨rfl, rfl⟩ (by decide) ?_
        refine x_if_ne 26 dX6_sets_20 (by decide) (fun c20 => ?_) (fun c20 => ?_)
        · skip
          exact absurd (bi_nt c20) h2
        · skip
          refine x_bipush (-2) dX6_sets_23 (by decide) ?_
          refine x_iret dX6_sets_25 rfl (by decide) (by decide) ?_
          exact ⟨rfl, rfl, rfl, rfl⟩
      · skip
        exact absurd h1 (bi_t c6)
  · have e : pSet Z s t = (-1, Z) := by unfold pSet; rw [if_neg h1]
    rw [e]
    refine x_iload_n dX6_sets_0 rfl rfl ?_
    refine x_iconst (nI 0) dX6_sets_1 (by decide) ?_
    refine x_iconst (nI 2) dX6_sets_2 (by decide) ?_
    refine x_callSd0 (mt' := mX6_in) (sp_X6_in _ _ _) ktX6_in wl_X6_36 (by decide) dX6_sets_3 rfl rfl (Nat.le_of_ble_eq_true rfl) ⟨rfl, rfl⟩ (by decide) ?_
    refine x_if_ne 11 dX6_sets_6 (by decide) (fun c6 => ?_) (fun c6 => ?_)
    · skip
      exact absurd (bi_nt c6) h1
    · skip
      refine x_iconst (-1) dX6_sets_9 (by decide) ?_
      refine x_iret dX6_sets_10 rfl (by decide) (by decide) ?_
      exact ⟨rfl, rfl, rfl, rfl⟩
end ML
