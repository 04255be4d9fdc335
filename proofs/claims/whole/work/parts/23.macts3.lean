/-! the reference: hears, runs, and the public acts -/
theorem ad_add (Z : MI) (k n : Nat) : nI n + (if Z (4 + k) 0 = -5 then nI 0 else nI 1) = nI (n + if ads Z k = true then 1 else 0) := by
  unfold ads
  by_cases h : Z (4 + k) 0 = -5
  · rw [if_pos h, if_neg (by simpa using h), nI_add]
  · rw [if_neg h, if_pos (by simpa using h), nI_add]
section ML
variable {I : MI} {R : MR} {φ α β κ τ : Nat → Int32} {Z : MI}
theorem lp_X6_hears (hM : Md R) {s a v : Int32} {g : GX} {cx : CX} {F : State → Prop} : ∀ (m k : Nat), k + m = 4 → X g cx mX6_hears F (0, 0) 131 [some (.ref 131), some (.int s), some (.int a), some (.int v), some (.int (nI (cn (ads Z) 4))), some (.int (nI 4))] [] 137 (MM I φ Z α β κ τ) R → X g cx mX6_hears F (0, 0) 93 [some (.ref 131), some (.int s), some (.int a), some (.int v), some (.int (nI (cn (ads Z) k))), some (.int (nI k))] [] 137 (MM I φ Z α β κ τ) R := by
  intro m
  induction m with
  | zero =>
    intro k hk hx
    obtain rfl : k = 4 := by omega
    refine x_iload dX6_hears_93 rfl ?_
    refine x_iconst (nI 4) dX6_hears_95 (by decide) ?_
    refine x_icmp_geN 131 dX6_hears_96 (by decide) (by omega) (by omega) (fun c96 => ?_) (fun c96 => ?_)
    · skip
      exact hx
    · skip
      exact absurd c96 (by omega)
  | succ m ih =>
    intro k hk hx
    refine x_iload dX6_hears_93 rfl ?_
    refine x_iconst (nI 4) dX6_hears_95 (by decide) ?_
    refine x_icmp_geN 131 dX6_hears_96 (by decide) (by omega) (by omega) (fun c96 => ?_) (fun c96 => ?_)
    · skip
      exact absurd c96 (by omega)
    · skip
      refine x_iload dX6_hears_99 rfl ?_
      refine x_aload_n dX6_hears_101 rfl rfl ?_
      refine x_getR fl_X6_7 dX6_hears_102 xk_131 (by decide) rfl (hM 0 _ rfl) ?_
      refine x_iload dX6_hears_105 rfl ?_
      refine x_iconst (nI 0) dX6_hears_107 (by decide) ?_
      refine x_callSd0 (mt' := mX6_ofListener) (sp_X6_ofListener _ _) ktX6_ofListener wl_X6_29 (by decide) dX6_hears_108 rfl rfl (Nat.le_of_ble_eq_true rfl) ⟨rfl, rfl⟩ (by decide) ?_
      refine x_ldS dX6_hears_111 (by omega) (zf_li (by omega) (by omega)) ?_
      refine x_bipush (-5) dX6_hears_112 (by decide) ?_
      refine' x_dia_icmp_eq 121 122 dX6_hears_114 (by decide) ?_ ?_ ?_; rotate_left 2
      · intro c114 k114
        refine x_iconst (nI 1) dX6_hears_117 (by decide) ?_
        refine x_goto 122 dX6_hears_118 (by decide) ?_
        exact k114
      · intro c114 k114
        refine x_iconst (nI 0) dX6_hears_121 (by decide) ?_
        exact k114
      refine x_iadd dX6_hears_122 ?_
      refine x_eqtop (y := nI (cn (ads Z) (k + 1))) (ad_add _ _ _) ?_
      refine x_istore dX6_hears_123 (by decide) ?_
      refine x_iincN 1 dX6_hears_125 rfl (by decide) (by decide) ?_
      refine x_goto 93 dX6_hears_128 (by decide) ?_
      exact ih (k + 1) (by omega) hx
theorem lp_X6_runs (hM : Md R) {t : Nat} (ht : t ≤ 300) {v : Int32} (hW : ∀ j, j < t → WT (pTk Z j)) {g : GX} {cx : CX} {F : State → Prop} : ∀ (m k : Nat), k + m = t → X g cx mX6_runs F (0, 0) 52 [some (.ref 131), some (.int (nI t)), some (.int v), some (.int (nI t))] [] 137 (MM I φ (pTk Z t) α β κ τ) R → X g cx mX6_runs F (0, 0) 37 [some (.ref 131), some (.int (nI t)), some (.int v), some (.int (nI k))] [] 137 (MM I φ (pTk Z k) α β κ τ) R := by
  intro m
  induction m with
  | zero =>
    intro k hk hx
    obtain rfl : k = t := by omega
    refine x_iload_n dX6_runs_37 rfl rfl ?_
    refine x_iload_n dX6_runs_38 rfl rfl ?_
    refine x_icmp_geN 52 dX6_runs_39 (by decide) (by omega) (by omega) (fun c39 => ?_) (fun c39 => ?_)
    · skip
      exact hx
    · skip
      exact absurd c39 (by omega)
  | succ m ih =>
    intro k hk hx
    refine x_iload_n dX6_runs_37 rfl rfl ?_
    refine x_iload_n dX6_runs_38 rfl rfl ?_
    refine x_icmp_geN 52 dX6_runs_39 (by decide) (by omega) (by omega) (fun c39 => ?_) (fun c39 => ?_)
    · skip
      exact absurd c39 (by omega)
    · skip
      refine x_aload_n dX6_runs_42 rfl rfl ?_
      refine x_callVd0 (mt' := mX6_tick) (sp_X6_tick hM (hW k (by omega))) kvX6_tick wl_X6_116 (by decide) dX6_runs_43 xk_131 (by decide) rfl rfl (Nat.le_of_ble_eq_true rfl) ⟨rfl, rfl⟩ (by decide) ?_
      refine x_iincN 1 dX6_runs_46 rfl (by decide) (by decide) ?_
      refine x_goto 37 dX6_runs_49 (by decide) ?_
      exact ih (k + 1) (by omega) hx
theorem sp_X6_hears (hM : Md R) (s a : Int32) : Spd mX6_hears [.ref 131, .int s, .int a] (MM I φ Z α β κ τ) R (some (.int (pHear Z s a).1)) (MM I φ (pHear Z s a).2 α β κ τ) := by
  refine Spd.mk (by decide +kernel) (by simp [Value.category]) (Nat.le_of_ble_eq_true rfl) (fun g cx => ?_)
  by_cases h1 : inr s (nI 0) (nI 3) = true
  · obtain ⟨k, -, hk, rfl⟩ := inr_of (by omega) h1 (by omega)
    have hkc : (nI k).toNatClampNeg = k := nI_cl (by omega)
    by_cases h2 : inr a (nI 0) (nI 127) = true ∨ a = -5
    · by_cases h3 : ¬ a = -5 ∧ ¬ pLr (pLi Z a) = -5 ∧ ¬ pLr (pLi Z a) = nI k
      · have e : pHear Z (nI k) a = (-4, Z) := by unfold pHear; rw [if_pos h1, if_pos h2, if_pos h3]
        rw [e]
        refine x_iload_n dX6_hears_0 rfl rfl ?_
        refine x_callSd0 (mt' := mX6_isOne) (sp_X6_isOne _) ktX6_isOne wl_X6_109 (by decide) dX6_hears_1 rfl rfl (Nat.le_of_ble_eq_true rfl) ⟨rfl, rfl⟩ (by decide) ?_
        refine x_if_ne 9 dX6_hears_4 (by decide) (fun c4 => ?_) (fun c4 => ?_)
        · skip
          refine x_iload_n dX6_hears_9 rfl rfl ?_
          refine x_iconst (nI 0) dX6_hears_10 (by decide) ?_
          refine x_bipush (nI 127) dX6_hears_11 (by decide) ?_
          refine x_callSd0 (mt' := mX6_in) (sp_X6_in _ _ _) ktX6_in wl_X6_36 (by decide) dX6_hears_13 rfl rfl (Nat.le_of_ble_eq_true rfl) ⟨rfl, rfl⟩ (by decide) ?_
          refine x_if_ne 28 dX6_hears_16 (by decide) (fun c16 => ?_) (fun c16 => ?_)
          · skip
            refine x_iload_n dX6_hears_28 rfl rfl ?_
            refine x_bipush (-5) dX6_hears_29 (by decide) ?_
            refine' x_dia_icmp_ne 39 44 dX6_hears_31 (by decide) ?_ ?_ ?_; rotate_left 2
            · intro c31 k31
              refine x_bipush (-5) dX6_hears_34 (by decide) ?_
              refine x_goto 44 dX6_hears_36 (by decide) ?_
              exact k31
            · intro c31 k31
              refine x_aload_n dX6_hears_39 rfl rfl ?_
              refine x_iload_n dX6_hears_40 rfl rfl ?_
              refine x_callVd0 (mt' := mX6_listenerOf) (sp_X6_listenerOf hM _) kvX6_listenerOf wl_X6_74 (by decide) dX6_hears_41 xk_131 (by decide) rfl rfl (Nat.le_of_ble_eq_true rfl) ⟨rfl, rfl⟩ (by decide) ?_
              exact k31
            refine x_eqtop (y := pLr (pLi Z a)) (by rw [if_neg h3.1]) ?_
            refine x_istore_n dX6_hears_44 rfl (by decide) ?_
            refine x_iload_n dX6_hears_45 rfl rfl ?_
            refine x_bipush (-5) dX6_hears_46 (by decide) ?_
            refine x_icmp_eq 59 dX6_hears_48 (by decide) (fun c48 => ?_) (fun c48 => ?_)
            · skip
              exact absurd c48 h3.2.1
            · skip
              refine x_iload_n dX6_hears_51 rfl rfl ?_
              refine x_iload_n dX6_hears_52 rfl rfl ?_
              refine x_icmp_eq 59 dX6_hears_53 (by decide) (fun c53 => ?_) (fun c53 => ?_)
              · skip
                exact absurd c53 h3.2.2
              · skip
                refine x_bipush (-4) dX6_hears_56 (by decide) ?_
                refine x_iret dX6_hears_58 rfl (by decide) (by decide) ?_
                exact ⟨rfl, rfl, rfl, rfl⟩
          · skip
            refine x_iload_n dX6_hears_19 rfl rfl ?_
            refine x_bipush (-5) dX6_hears_20 (by decide) ?_
            refine x_icmp_eq 28 dX6_hears_22 (by decide) (fun c22 => ?_) (fun c22 => ?_)
            · skip
              refine x_iload_n dX6_hears_28 rfl rfl ?_
              refine x_bipush (-5) dX6_hears_29 (by decide) ?_
              refine' x_dia_icmp_ne 39 44 dX6_hears_31 (by decide) ?_ ?_ ?_; rotate_left 2
              · intro c31 k31
                refine x_bipush (-5) dX6_hears_34 (by decide) ?_
                refine x_goto 44 dX6_hears_36 (by decide) ?_
                exact k31
              · intro c31 k31
                refine x_aload_n dX6_hears_39 rfl rfl ?_
                refine x_iload_n dX6_hears_40 rfl rfl ?_
                refine x_callVd0 (mt' := mX6_listenerOf) (sp_X6_listenerOf hM _) kvX6_listenerOf wl_X6_74 (by decide) dX6_hears_41 xk_131 (by decide) rfl rfl (Nat.le_of_ble_eq_true rfl) ⟨rfl, rfl⟩ (by decide) ?_
                exact k31
              refine x_eqtop (y := pLr (pLi Z a)) (by rw [if_neg h3.1]) ?_
              refine x_istore_n dX6_hears_44 rfl (by decide) ?_
              refine x_iload_n dX6_hears_45 rfl rfl ?_
              refine x_bipush (-5) dX6_hears_46 (by decide) ?_
              refine x_icmp_eq 59 dX6_hears_48 (by decide) (fun c48 => ?_) (fun c48 => ?_)
              · skip
                exact absurd c48 h3.2.1
              · skip
                refine x_iload_n dX6_hears_51 rfl rfl ?_
                refine x_iload_n dX6_hears_52 rfl rfl ?_
                refine x_icmp_eq 59 dX6_hears_53 (by decide) (fun c53 => ?_) (fun c53 => ?_)
                · skip
                  exact absurd c53 h3.2.2
                · skip
                  refine x_bipush (-4) dX6_hears_56 (by decide) ?_
                  refine x_iret dX6_hears_58 rfl (by decide) (by decide) ?_
                  exact ⟨rfl, rfl, rfl, rfl⟩
            · skip
              exact absurd h2 (fun q => q.elim (bi_t c16) c22)
        · skip
          exact absurd h1 (bi_t c4)
      · have hv : ¬ (if a = -5 then -5 else pLr (pLi Z a)) = -5 → (if a = -5 then -5 else pLr (pLi Z a)) = nI k := fun q => by
          by_cases ha : a = -5
          · rw [if_pos ha] at q; exact absurd rfl q
          · rw [if_neg ha] at q ⊢
            exact Decidable.byContradiction (fun z => h3 ⟨ha, q, z⟩)
        by_cases h4 : Z (4 + k) 0 = a
        · have e : pHear Z (nI k) a = (-5, Z) := by unfold pHear; rw [if_pos h1, if_pos h2, if_neg h3, hkc, if_pos h4]
          rw [e]
          refine x_iload_n dX6_hears_0 rfl rfl ?_
          refine x_callSd0 (mt' := mX6_isOne) (sp_X6_isOne _) ktX6_isOne wl_X6_109 (by decide) dX6_hears_1 rfl rfl (Nat.le_of_ble_eq_true rfl) ⟨rfl, rfl⟩ (by decide) ?_
          refine x_if_ne 9 dX6_hears_4 (by decide) (fun c4 => ?_) (fun c4 => ?_)
          · skip
            refine x_iload_n dX6_hears_9 rfl rfl ?_
            refine x_iconst (nI 0) dX6_hears_10 (by decide) ?_
            refine x_bipush (nI 127) dX6_hears_11 (by decide) ?_
            refine x_callSd0 (mt' := mX6_in) (sp_X6_in _ _ _) ktX6_in wl_X6_36 (by decide) dX6_hears_13 rfl rfl (Nat.le_of_ble_eq_true rfl) ⟨rfl, rfl⟩ (by decide) ?_
            refine x_if_ne 28 dX6_hears_16 (by decide) (fun c16 => ?_) (fun c16 => ?_)
            · skip
              refine x_iload_n dX6_hears_28 rfl rfl ?_
              refine x_bipush (-5) dX6_hears_29 (by decide) ?_
              refine' x_dia_icmp_ne 39 44 dX6_hears_31 (by decide) ?_ ?_ ?_; rotate_left 2
              · intro c31 k31
                refine x_bipush (-5) dX6_hears_34 (by decide) ?_
                refine x_goto 44 dX6_hears_36 (by decide) ?_
                exact k31
              · intro c31 k31
                refine x_aload_n dX6_hears_39 rfl rfl ?_
                refine x_iload_n dX6_hears_40 rfl rfl ?_
                refine x_callVd0 (mt' := mX6_listenerOf) (sp_X6_listenerOf hM _) kvX6_listenerOf wl_X6_74 (by decide) dX6_hears_41 xk_131 (by decide) rfl rfl (Nat.le_of_ble_eq_true rfl) ⟨rfl, rfl⟩ (by decide) ?_
                exact k31
              refine x_istore_n dX6_hears_44 rfl (by decide) ?_
              refine x_iload_n dX6_hears_45 rfl rfl ?_
              refine x_bipush (-5) dX6_hears_46 (by decide) ?_
              refine x_icmp_eq 59 dX6_hears_48 (by decide) (fun c48 => ?_) (fun c48 => ?_)
              · skip
                refine x_aload_n dX6_hears_59 rfl rfl ?_
                refine x_getR fl_X6_7 dX6_hears_60 xk_131 (by decide) rfl (hM 0 _ rfl) ?_
                refine x_iload_n dX6_hears_63 rfl rfl ?_
                refine x_iconst (nI 0) dX6_hears_64 (by decide) ?_
                refine x_callSd0 (mt' := mX6_ofListener) (sp_X6_ofListener _ _) ktX6_ofListener wl_X6_29 (by decide) dX6_hears_65 rfl rfl (Nat.le_of_ble_eq_true rfl) ⟨rfl, rfl⟩ (by decide) ?_
                refine x_ldS dX6_hears_68 (by omega) (zf_li (by omega) (by omega)) ?_
                refine x_iload_n dX6_hears_69 rfl rfl ?_
                refine x_icmp_ne 76 dX6_hears_70 (by decide) (fun c70 => ?_) (fun c70 => ?_)
                · skip
                  exact absurd h4 c70
                · skip
                  refine x_bipush (-5) dX6_hears_73 (by decide) ?_
                  refine x_iret dX6_hears_75 rfl (by decide) (by decide) ?_
                  exact ⟨rfl, rfl, rfl, rfl⟩
              · skip
                refine x_iload_n dX6_hears_51 rfl rfl ?_
                refine x_iload_n dX6_hears_52 rfl rfl ?_
                refine x_icmp_eq 59 dX6_hears_53 (by decide) (fun c53 => ?_) (fun c53 => ?_)
                · skip
                  refine x_aload_n dX6_hears_59 rfl rfl ?_
                  refine x_getR fl_X6_7 dX6_hears_60 xk_131 (by decide) rfl (hM 0 _ rfl) ?_
                  refine x_iload_n dX6_hears_63 rfl rfl ?_
                  refine x_iconst (nI 0) dX6_hears_64 (by decide) ?_
                  refine x_callSd0 (mt' := mX6_ofListener) (sp_X6_ofListener _ _) ktX6_ofListener wl_X6_29 (by decide) dX6_hears_65 rfl rfl (Nat.le_of_ble_eq_true rfl) ⟨rfl, rfl⟩ (by decide) ?_
                  refine x_ldS dX6_hears_68 (by omega) (zf_li (by omega) (by omega)) ?_
                  refine x_iload_n dX6_hears_69 rfl rfl ?_
                  refine x_icmp_ne 76 dX6_hears_70 (by decide) (fun c70 => ?_) (fun c70 => ?_)
                  · skip
                    exact absurd h4 c70
                  · skip
                    refine x_bipush (-5) dX6_hears_73 (by decide) ?_
                    refine x_iret dX6_hears_75 rfl (by decide) (by decide) ?_
                    exact ⟨rfl, rfl, rfl, rfl⟩
                · skip
                  exact absurd (hv c48) c53
            · skip
              refine x_iload_n dX6_hears_19 rfl rfl ?_
              refine x_bipush (-5) dX6_hears_20 (by decide) ?_
              refine x_icmp_eq 28 dX6_hears_22 (by decide) (fun c22 => ?_) (fun c22 => ?_)
              · skip
                refine x_iload_n dX6_hears_28 rfl rfl ?_
                refine x_bipush (-5) dX6_hears_29 (by decide) ?_
                refine' x_dia_icmp_ne 39 44 dX6_hears_31 (by decide) ?_ ?_ ?_; rotate_left 2
                · intro c31 k31
                  refine x_bipush (-5) dX6_hears_34 (by decide) ?_
                  refine x_goto 44 dX6_hears_36 (by decide) ?_
                  exact k31
                · intro c31 k31
                  refine x_aload_n dX6_hears_39 rfl rfl ?_
                  refine x_iload_n dX6_hears_40 rfl rfl ?_
                  refine x_callVd0 (mt' := mX6_listenerOf) (sp_X6_listenerOf hM _) kvX6_listenerOf wl_X6_74 (by decide) dX6_hears_41 xk_131 (by decide) rfl rfl (Nat.le_of_ble_eq_true rfl) ⟨rfl, rfl⟩ (by decide) ?_
                  exact k31
                refine x_istore_n dX6_hears_44 rfl (by decide) ?_
                refine x_iload_n dX6_hears_45 rfl rfl ?_
                refine x_bipush (-5) dX6_hears_46 (by decide) ?_
                refine x_icmp_eq 59 dX6_hears_48 (by decide) (fun c48 => ?_) (fun c48 => ?_)
                · skip
                  refine x_aload_n dX6_hears_59 rfl rfl ?_
                  refine x_getR fl_X6_7 dX6_hears_60 xk_131 (by decide) rfl (hM 0 _ rfl) ?_
                  refine x_iload_n dX6_hears_63 rfl rfl ?_
                  refine x_iconst (nI 0) dX6_hears_64 (by decide) ?_
                  refine x_callSd0 (mt' := mX6_ofListener) (sp_X6_ofListener _ _) ktX6_ofListener wl_X6_29 (by decide) dX6_hears_65 rfl rfl (Nat.le_of_ble_eq_true rfl) ⟨rfl, rfl⟩ (by decide) ?_
                  refine x_ldS dX6_hears_68 (by omega) (zf_li (by omega) (by omega)) ?_
                  refine x_iload_n dX6_hears_69 rfl rfl ?_
                  refine x_icmp_ne 76 dX6_hears_70 (by decide) (fun c70 => ?_) (fun c70 => ?_)
                  · skip
                    exact absurd h4 c70
                  · skip
                    refine x_bipush (-5) dX6_hears_73 (by decide) ?_
                    refine x_iret dX6_hears_75 rfl (by decide) (by decide) ?_
                    exact ⟨rfl, rfl, rfl, rfl⟩
                · skip
                  refine x_iload_n dX6_hears_51 rfl rfl ?_
                  refine x_iload_n dX6_hears_52 rfl rfl ?_
                  refine x_icmp_eq 59 dX6_hears_53 (by decide) (fun c53 => ?_) (fun c53 => ?_)
                  · skip
                    refine x_aload_n dX6_hears_59 rfl rfl ?_
                    refine x_getR fl_X6_7 dX6_hears_60 xk_131 (by decide) rfl (hM 0 _ rfl) ?_
                    refine x_iload_n dX6_hears_63 rfl rfl ?_
                    refine x_iconst (nI 0) dX6_hears_64 (by decide) ?_
                    refine x_callSd0 (mt' := mX6_ofListener) (sp_X6_ofListener _ _) ktX6_ofListener wl_X6_29 (by decide) dX6_hears_65 rfl rfl (Nat.le_of_ble_eq_true rfl) ⟨rfl, rfl⟩ (by decide) ?_
                    refine x_ldS dX6_hears_68 (by omega) (zf_li (by omega) (by omega)) ?_
                    refine x_iload_n dX6_hears_69 rfl rfl ?_
                    refine x_icmp_ne 76 dX6_hears_70 (by decide) (fun c70 => ?_) (fun c70 => ?_)
                    · skip
                      exact absurd h4 c70
                    · skip
                      refine x_bipush (-5) dX6_hears_73 (by decide) ?_
                      refine x_iret dX6_hears_75 rfl (by decide) (by decide) ?_
                      exact ⟨rfl, rfl, rfl, rfl⟩
                  · skip
                    exact absurd (hv c48) c53
              · skip
                exact absurd h2 (fun q => q.elim (bi_t c16) c22)
          · skip
            exact absurd h1 (bi_t c4)
        · have e : pHear Z (nI k) a = (nI (cn (ads (xuI Z (4 + k) 0 a)) 4), xuI Z (4 + k) 0 a) := by unfold pHear; rw [if_pos h1, if_pos h2, if_neg h3, hkc, if_neg h4]
          rw [e]
          refine x_iload_n dX6_hears_0 rfl rfl ?_
          refine x_callSd0 (mt' := mX6_isOne) (sp_X6_isOne _) ktX6_isOne wl_X6_109 (by decide) dX6_hears_1 rfl rfl (Nat.le_of_ble_eq_true rfl) ⟨rfl, rfl⟩ (by decide) ?_
          refine x_if_ne 9 dX6_hears_4 (by decide) (fun c4 => ?_) (fun c4 => ?_)
          · skip
            refine x_iload_n dX6_hears_9 rfl rfl ?_
            refine x_iconst (nI 0) dX6_hears_10 (by decide) ?_
            refine x_bipush (nI 127) dX6_hears_11 (by decide) ?_
            refine x_callSd0 (mt' := mX6_in) (sp_X6_in _ _ _) ktX6_in wl_X6_36 (by decide) dX6_hears_13 rfl rfl (Nat.le_of_ble_eq_true rfl) ⟨rfl, rfl⟩ (by decide) ?_
            refine x_if_ne 28 dX6_hears_16 (by decide) (fun c16 => ?_) (fun c16 => ?_)
            · skip
              refine x_iload_n dX6_hears_28 rfl rfl ?_
              refine x_bipush (-5) dX6_hears_29 (by decide) ?_
              refine' x_dia_icmp_ne 39 44 dX6_hears_31 (by decide) ?_ ?_ ?_; rotate_left 2
              · intro c31 k31
                refine x_bipush (-5) dX6_hears_34 (by decide) ?_
                refine x_goto 44 dX6_hears_36 (by decide) ?_
                exact k31
              · intro c31 k31
                refine x_aload_n dX6_hears_39 rfl rfl ?_
                refine x_iload_n dX6_hears_40 rfl rfl ?_
                refine x_callVd0 (mt' := mX6_listenerOf) (sp_X6_listenerOf hM _) kvX6_listenerOf wl_X6_74 (by decide) dX6_hears_41 xk_131 (by decide) rfl rfl (Nat.le_of_ble_eq_true rfl) ⟨rfl, rfl⟩ (by decide) ?_
                exact k31
              refine x_istore_n dX6_hears_44 rfl (by decide) ?_
              refine x_iload_n dX6_hears_45 rfl rfl ?_
              refine x_bipush (-5) dX6_hears_46 (by decide) ?_
              refine x_icmp_eq 59 dX6_hears_48 (by decide) (fun c48 => ?_) (fun c48 => ?_)
              · skip
                refine x_aload_n dX6_hears_59 rfl rfl ?_
                refine x_getR fl_X6_7 dX6_hears_60 xk_131 (by decide) rfl (hM 0 _ rfl) ?_
                refine x_iload_n dX6_hears_63 rfl rfl ?_
                refine x_iconst (nI 0) dX6_hears_64 (by decide) ?_
                refine x_callSd0 (mt' := mX6_ofListener) (sp_X6_ofListener _ _) ktX6_ofListener wl_X6_29 (by decide) dX6_hears_65 rfl rfl (Nat.le_of_ble_eq_true rfl) ⟨rfl, rfl⟩ (by decide) ?_
                refine x_ldS dX6_hears_68 (by omega) (zf_li (by omega) (by omega)) ?_
                refine x_iload_n dX6_hears_69 rfl rfl ?_
                refine x_icmp_ne 76 dX6_hears_70 (by decide) (fun c70 => ?_) (fun c70 => ?_)
                · skip
                  refine x_aload_n dX6_hears_76 rfl rfl ?_
                  refine x_getR fl_X6_7 dX6_hears_77 xk_131 (by decide) rfl (hM 0 _ rfl) ?_
                  refine x_iload_n dX6_hears_80 rfl rfl ?_
                  refine x_iconst (nI 0) dX6_hears_81 (by decide) ?_
                  refine x_callSd0 (mt' := mX6_ofListener) (sp_X6_ofListener _ _) ktX6_ofListener wl_X6_29 (by decide) dX6_hears_82 rfl rfl (Nat.le_of_ble_eq_true rfl) ⟨rfl, rfl⟩ (by decide) ?_
                  refine x_iload_n dX6_hears_85 rfl rfl ?_
                  refine x_stS dX6_hears_86 (by omega) (zf_uli (by omega) (by omega)) ?_
                  refine x_iconst (nI 0) dX6_hears_87 (by decide) ?_
                  refine x_istore dX6_hears_88 (by decide) ?_
                  refine x_iconst (nI 0) dX6_hears_90 (by decide) ?_
                  refine x_istore dX6_hears_91 (by decide) ?_
                  refine lp_X6_hears hM 4 0 rfl ?_
                  refine x_iload dX6_hears_131 rfl ?_
                  refine x_iret dX6_hears_133 rfl (by decide) (by decide) ?_
                  exact ⟨rfl, rfl, rfl, rfl⟩
                · skip
                  exact absurd c70 h4
              · skip
                refine x_iload_n dX6_hears_51 rfl rfl ?_
                refine x_iload_n dX6_hears_52 rfl rfl ?_
                refine x_icmp_eq 59 dX6_hears_53 (by decide) (fun c53 => ?_) (fun c53 => ?_)
                · skip
                  refine x_aload_n dX6_hears_59 rfl rfl ?_
                  refine x_getR fl_X6_7 dX6_hears_60 xk_131 (by decide) rfl (hM 0 _ rfl) ?_
                  refine x_iload_n dX6_hears_63 rfl rfl ?_
                  refine x_iconst (nI 0) dX6_hears_64 (by decide) ?_
                  refine x_callSd0 (mt' := mX6_ofListener) (sp_X6_ofListener _ _) ktX6_ofListener wl_X6_29 (by decide) dX6_hears_65 rfl rfl (Nat.le_of_ble_eq_true rfl) ⟨rfl, rfl⟩ (by decide) ?_
                  refine x_ldS dX6_hears_68 (by omega) (zf_li (by omega) (by omega)) ?_
                  refine x_iload_n dX6_hears_69 rfl rfl ?_
                  refine x_icmp_ne 76 dX6_hears_70 (by decide) (fun c70 => ?_) (fun c70 => ?_)
                  · skip
                    refine x_aload_n dX6_hears_76 rfl rfl ?_
                    refine x_getR fl_X6_7 dX6_hears_77 xk_131 (by decide) rfl (hM 0 _ rfl) ?_
                    refine x_iload_n dX6_hears_80 rfl rfl ?_
                    refine x_iconst (nI 0) dX6_hears_81 (by decide) ?_
                    refine x_callSd0 (mt' := mX6_ofListener) (sp_X6_ofListener _ _) ktX6_ofListener wl_X6_29 (by decide) dX6_hears_82 rfl rfl (Nat.le_of_ble_eq_true rfl) ⟨rfl, rfl⟩ (by decide) ?_
                    refine x_iload_n dX6_hears_85 rfl rfl ?_
                    refine x_stS dX6_hears_86 (by omega) (zf_uli (by omega) (by omega)) ?_
                    refine x_iconst (nI 0) dX6_hears_87 (by decide) ?_
                    refine x_istore dX6_hears_88 (by decide) ?_
                    refine x_iconst (nI 0) dX6_hears_90 (by decide) ?_
                    refine x_istore dX6_hears_91 (by decide) ?_
                    refine lp_X6_hears hM 4 0 rfl ?_
                    refine x_iload dX6_hears_131 rfl ?_
                    refine x_iret dX6_hears_133 rfl (by decide) (by decide) ?_
                    exact ⟨rfl, rfl, rfl, rfl⟩
                  · skip
                    exact absurd c70 h4
                · skip
                  exact absurd (hv c48) c53
            · skip
              refine x_iload_n dX6_hears_19 rfl rfl ?_
              refine x_bipush (-5) dX6_hears_20 (by decide) ?_
              refine x_icmp_eq 28 dX6_hears_22 (by decide) (fun c22 => ?_) (fun c22 => ?_)
              · skip
                refine x_iload_n dX6_hears_28 rfl rfl ?_
                refine x_bipush (-5) dX6_hears_29 (by decide) ?_
                refine' x_dia_icmp_ne 39 44 dX6_hears_31 (by decide) ?_ ?_ ?_; rotate_left 2
                · intro c31 k31
                  refine x_bipush (-5) dX6_hears_34 (by decide) ?_
                  refine x_goto 44 dX6_hears_36 (by decide) ?_
                  exact k31
                · intro c31 k31
                  refine x_aload_n dX6_hears_39 rfl rfl ?_
                  refine x_iload_n dX6_hears_40 rfl rfl ?_
                  refine x_callVd0 (mt' := mX6_listenerOf) (sp_X6_listenerOf hM _) kvX6_listenerOf wl_X6_74 (by decide) dX6_hears_41 xk_131 (by decide) rfl rfl (Nat.le_of_ble_eq_true rfl) ⟨rfl, rfl⟩ (by decide) ?_
                  exact k31
                refine x_istore_n dX6_hears_44 rfl (by decide) ?_
                refine x_iload_n dX6_hears_45 rfl rfl ?_
                refine x_bipush (-5) dX6_hears_46 (by decide) ?_
                refine x_icmp_eq 59 dX6_hears_48 (by decide) (fun c48 => ?_) (fun c48 => ?_)
                · skip
                  refine x_aload_n dX6_hears_59 rfl rfl ?_
                  refine x_getR fl_X6_7 dX6_hears_60 xk_131 (by decide) rfl (hM 0 _ rfl) ?_
                  refine x_iload_n dX6_hears_63 rfl rfl ?_
                  refine x_iconst (nI 0) dX6_hears_64 (by decide) ?_
                  refine x_callSd0 (mt' := mX6_ofListener) (sp_X6_ofListener _ _) ktX6_ofListener wl_X6_29 (by decide) dX6_hears_65 rfl rfl (Nat.le_of_ble_eq_true rfl) ⟨rfl, rfl⟩ (by decide) ?_
                  refine x_ldS dX6_hears_68 (by omega) (zf_li (by omega) (by omega)) ?_
                  refine x_iload_n dX6_hears_69 rfl rfl ?_
                  refine x_icmp_ne 76 dX6_hears_70 (by decide) (fun c70 => ?_) (fun c70 => ?_)
                  · skip
                    refine x_aload_n dX6_hears_76 rfl rfl ?_
                    refine x_getR fl_X6_7 dX6_hears_77 xk_131 (by decide) rfl (hM 0 _ rfl) ?_
                    refine x_iload_n dX6_hears_80 rfl rfl ?_
                    refine x_iconst (nI 0) dX6_hears_81 (by decide) ?_
                    refine x_callSd0 (mt' := mX6_ofListener) (sp_X6_ofListener _ _) ktX6_ofListener wl_X6_29 (by decide) dX6_hears_82 rfl rfl (Nat.le_of_ble_eq_true rfl) ⟨rfl, rfl⟩ (by decide) ?_
                    refine x_iload_n dX6_hears_85 rfl rfl ?_
                    refine x_stS dX6_hears_86 (by omega) (zf_uli (by omega) (by omega)) ?_
                    refine x_iconst (nI 0) dX6_hears_87 (by decide) ?_
                    refine x_istore dX6_hears_88 (by decide) ?_
                    refine x_iconst (nI 0) dX6_hears_90 (by decide) ?_
                    refine x_istore dX6_hears_91 (by decide) ?_
                    refine lp_X6_hears hM 4 0 rfl ?_
                    refine x_iload dX6_hears_131 rfl ?_
                    refine x_iret dX6_hears_133 rfl (by decide) (by decide) ?_
                    exact ⟨rfl, rfl, rfl, rfl⟩
                  · skip
                    exact absurd c70 h4
                · skip
                  refine x_iload_n dX6_hears_51 rfl rfl ?_
                  refine x_iload_n dX6_hears_52 rfl rfl ?_
                  refine x_icmp_eq 59 dX6_hears_53 (by decide) (fun c53 => ?_) (fun c53 => ?_)
                  · skip
                    refine x_aload_n dX6_hears_59 rfl rfl ?_
                    refine x_getR fl_X6_7 dX6_hears_60 xk_131 (by decide) rfl (hM 0 _ rfl) ?_
                    refine x_iload_n dX6_hears_63 rfl rfl ?_
                    refine x_iconst (nI 0) dX6_hears_64 (by decide) ?_
                    refine x_callSd0 (mt' := mX6_ofListener) (sp_X6_ofListener _ _) ktX6_ofListener wl_X6_29 (by decide) dX6_hears_65 rfl rfl (Nat.le_of_ble_eq_true rfl) ⟨rfl, rfl⟩ (by decide) ?_
                    refine x_ldS dX6_hears_68 (by omega) (zf_li (by omega) (by omega)) ?_
                    refine x_iload_n dX6_hears_69 rfl rfl ?_
                    refine x_icmp_ne 76 dX6_hears_70 (by decide) (fun c70 => ?_) (fun c70 => ?_)
                    · skip
                      refine x_aload_n dX6_hears_76 rfl rfl ?_
                      refine x_getR fl_X6_7 dX6_hears_77 xk_131 (by decide) rfl (hM 0 _ rfl) ?_
                      refine x_iload_n dX6_hears_80 rfl rfl ?_
                      refine x_iconst (nI 0) dX6_hears_81 (by decide) ?_
                      refine x_callSd0 (mt' := mX6_ofListener) (sp_X6_ofListener _ _) ktX6_ofListener wl_X6_29 (by decide) dX6_hears_82 rfl rfl (Nat.le_of_ble_eq_true rfl) ⟨rfl, rfl⟩ (by decide) ?_
                      refine x_iload_n dX6_hears_85 rfl rfl ?_
                      refine x_stS dX6_hears_86 (by omega) (zf_uli (by omega) (by omega)) ?_
                      refine x_iconst (nI 0) dX6_hears_87 (by decide) ?_
                      refine x_istore dX6_hears_88 (by decide) ?_
                      refine x_iconst (nI 0) dX6_hears_90 (by decide) ?_
                      refine x_istore dX6_hears_91 (by decide) ?_
                      refine lp_X6_hears hM 4 0 rfl ?_
                      refine x_iload dX6_hears_131 rfl ?_
                      refine x_iret dX6_hears_133 rfl (by decide) (by decide) ?_
                      exact ⟨rfl, rfl, rfl, rfl⟩
                    · skip
                      exact absurd c70 h4
                  · skip
                    exact absurd (hv c48) c53
              · skip
                exact absurd h2 (fun q => q.elim (bi_t c16) c22)
          · skip
            exact absurd h1 (bi_t c4)
    · have e : pHear Z (nI k) a = (-2, Z) := by unfold pHear; rw [if_pos h1, if_neg h2]
      rw [e]
      refine x_iload_n dX6_hears_0 rfl rfl ?_
      refine x_callSd0 (mt' := mX6_isOne) (sp_X6_isOne _) ktX6_isOne wl_X6_109 (by decide) dX6_hears_1 rfl rfl (Nat.le_of_ble_eq_true rfl) ⟨rfl, rfl⟩ (by decide) ?_
      refine x_if_ne 9 dX6_hears_4 (by decide) (fun c4 => ?_) (fun c4 => ?_)
      · skip
        refine x_iload_n dX6_hears_9 rfl rfl ?_
        refine x_iconst (nI 0) dX6_hears_10 (by decide) ?_
        refine x_bipush (nI 127) dX6_hears_11 (by decide) ?_
        refine x_callSd0 (mt' := mX6_in) (sp_X6_in _ _ _) ktX6_in wl_X6_36 (by decide) dX6_hears_13 rfl rfl (Nat.le_of_ble_eq_true rfl) ⟨rfl, rfl⟩ (by decide) ?_
        refine x_if_ne 28 dX6_hears_16 (by decide) (fun c16 => ?_) (fun c16 => ?_)
        · skip
          exact absurd (Or.inl (bi_nt c16)) h2
        · skip
          refine x_iload_n dX6_hears_19 rfl rfl ?_
          refine x_bipush (-5) dX6_hears_20 (by decide) ?_
          refine x_icmp_eq 28 dX6_hears_22 (by decide) (fun c22 => ?_) (fun c22 => ?_)
          · skip
            exact absurd (Or.inr c22) h2
          · skip
            refine x_bipush (-2) dX6_hears_25 (by decide) ?_
            refine x_iret dX6_hears_27 rfl (by decide) (by decide) ?_
            exact ⟨rfl, rfl, rfl, rfl⟩
      · skip
        exact absurd h1 (bi_t c4)
  · have e : pHear Z s a = (-1, Z) := by unfold pHear; rw [if_neg h1]
    rw [e]
    refine x_iload_n dX6_hears_0 rfl rfl ?_
    refine x_callSd0 (mt' := mX6_isOne) (sp_X6_isOne _) ktX6_isOne wl_X6_109 (by decide) dX6_hears_1 rfl rfl (Nat.le_of_ble_eq_true rfl) ⟨rfl, rfl⟩ (by decide) ?_
    refine x_if_ne 9 dX6_hears_4 (by decide) (fun c4 => ?_) (fun c4 => ?_)
    · skip
      exact absurd (bi_nt c4) h1
    · skip
      refine x_iconst (-1) dX6_hears_7 (by decide) ?_
      refine x_iret dX6_hears_8 rfl (by decide) (by decide) ?_
      exact ⟨rfl, rfl, rfl, rfl⟩
theorem sp_X6_runs (hM : Md R) (t : Int32) (hW : ∀ j, WT (pTk Z j)) : Spd mX6_runs [.ref 131, .int t] (MM I φ Z α β κ τ) R (some (.int (pRun Z t).1)) (MM I φ (pRun Z t).2 α β κ τ) := by
  refine Spd.mk (by decide +kernel) (by simp [Value.category]) (Nat.le_of_ble_eq_true rfl) (fun g cx => ?_)
  by_cases h1 : inr t (nI 1) (nI 300) = true
  · obtain ⟨k, hk1, hk, rfl⟩ := inr_of (by omega) h1 (by omega)
    have hkc : (nI k).toNatClampNeg = k := nI_cl (by omega)
    by_cases h2 : Z 8 3 + nI k ≤ nI 99999
    · have e : pRun Z (nI k) = (pCame (pTk Z k) - pCame Z, pTk Z k) := by unfold pRun; rw [if_pos h1, if_pos h2, hkc]
      rw [e]
      refine x_iload_n dX6_runs_0 rfl rfl ?_
      refine x_iconst (nI 1) dX6_runs_1 (by decide) ?_
      refine x_sipush (nI 300) dX6_runs_2 (by decide) ?_
      refine x_callSd0 (mt' := mX6_in) (sp_X6_in _ _ _) ktX6_in wl_X6_36 (by decide) dX6_runs_5 rfl rfl (Nat.le_of_ble_eq_true rfl) ⟨rfl, rfl⟩ (by decide) ?_
      refine x_if_ne 14 dX6_runs_8 (by decide) (fun c8 => ?_) (fun c8 => ?_)
      · skip
        refine x_aload_n dX6_runs_14 rfl rfl ?_
        refine x_getR fl_X6_7 dX6_runs_15 xk_131 (by decide) rfl (hM 0 _ rfl) ?_
        refine x_iconst (nI 3) dX6_runs_18 (by decide) ?_
        refine x_ldS dX6_runs_19 (by omega) zf_3 ?_
        refine x_iload_n dX6_runs_20 rfl rfl ?_
        refine x_iadd dX6_runs_21 ?_
        refine x_ldc (nI 99999) wx_X6_112 dX6_runs_22 ?_
        refine x_icmp_le 30 dX6_runs_24 (by decide) (fun c24 => ?_) (fun c24 => ?_)
        · skip
          refine x_aload_n dX6_runs_30 rfl rfl ?_
          refine x_callVd0 (mt' := mX6_came) (sp_X6_came hM) kvX6_came wl_X6_113 (by decide) dX6_runs_31 xk_131 (by decide) rfl rfl (Nat.le_of_ble_eq_true rfl) ⟨rfl, rfl⟩ (by decide) ?_
          refine x_istore_n dX6_runs_34 rfl (by decide) ?_
          refine x_iconst (nI 0) dX6_runs_35 (by decide) ?_
          refine x_istore_n dX6_runs_36 rfl (by decide) ?_
          refine x_eqI (I' := MM I φ (pTk Z 0) α β κ τ) rfl ?_
          refine lp_X6_runs hM hk (fun j _ => hW j) k 0 (by omega) ?_
          refine x_aload_n dX6_runs_52 rfl rfl ?_
          refine x_callVd0 (mt' := mX6_came) (sp_X6_came hM) kvX6_came wl_X6_113 (by decide) dX6_runs_53 xk_131 (by decide) rfl rfl (Nat.le_of_ble_eq_true rfl) ⟨rfl, rfl⟩ (by decide) ?_
          refine x_iload_n dX6_runs_56 rfl rfl ?_
          refine x_isub dX6_runs_57 ?_
          refine x_iret dX6_runs_58 rfl (by decide) (by decide) ?_
          exact ⟨rfl, rfl, rfl, rfl⟩
        · skip
          exact absurd h2 c24
      · skip
        exact absurd h1 (bi_t c8)
    · have e : pRun Z (nI k) = (-3, Z) := by unfold pRun; rw [if_pos h1, if_neg h2]
      rw [e]
      refine x_iload_n dX6_runs_0 rfl rfl ?_
      refine x_iconst (nI 1) dX6_runs_1 (by decide) ?_
      refine x_sipush (nI 300) dX6_runs_2 (by decide) ?_
      refine x_callSd0 (mt' := mX6_in) (sp_X6_in _ _ _) ktX6_in wl_X6_36 (by decide) dX6_runs_5 rfl rfl (Nat.le_of_ble_eq_true rfl) ⟨rfl, rfl⟩ (by decide) ?_
      refine x_if_ne 14 dX6_runs_8 (by decide) (fun c8 => ?_) (fun c8 => ?_)
      · skip
        refine x_aload_n dX6_runs_14 rfl rfl ?_
        refine x_getR fl_X6_7 dX6_runs_15 xk_131 (by decide) rfl (hM 0 _ rfl) ?_
        refine x_iconst (nI 3) dX6_runs_18 (by decide) ?_
        refine x_ldS dX6_runs_19 (by omega) zf_3 ?_
        refine x_iload_n dX6_runs_20 rfl rfl ?_
        refine x_iadd dX6_runs_21 ?_
        refine x_ldc (nI 99999) wx_X6_112 dX6_runs_22 ?_
        refine x_icmp_le 30 dX6_runs_24 (by decide) (fun c24 => ?_) (fun c24 => ?_)
        · skip
          exact absurd c24 h2
        · skip
          refine x_bipush (-3) dX6_runs_27 (by decide) ?_
          refine x_iret dX6_runs_29 rfl (by decide) (by decide) ?_
          exact ⟨rfl, rfl, rfl, rfl⟩
      · skip
        exact absurd h1 (bi_t c8)
  · have e : pRun Z t = (-2, Z) := by unfold pRun; rw [if_neg h1]
    rw [e]
    refine x_iload_n dX6_runs_0 rfl rfl ?_
    refine x_iconst (nI 1) dX6_runs_1 (by decide) ?_
    refine x_sipush (nI 300) dX6_runs_2 (by decide) ?_
    refine x_callSd0 (mt' := mX6_in) (sp_X6_in _ _ _) ktX6_in wl_X6_36 (by decide) dX6_runs_5 rfl rfl (Nat.le_of_ble_eq_true rfl) ⟨rfl, rfl⟩ (by decide) ?_
    refine x_if_ne 14 dX6_runs_8 (by decide) (fun c8 => ?_) (fun c8 => ?_)
    · skip
      exact absurd (bi_nt c8) h1
    · skip
      refine x_bipush (-2) dX6_runs_11 (by decide) ?_
      refine x_iret dX6_runs_13 rfl (by decide) (by decide) ?_
      exact ⟨rfl, rfl, rfl, rfl⟩
/-- an act's end: the row that is left; what was before it into the history, if it answers no error -/
def aM (I : MI) (φ : Nat → Int32) (Z : MI) (α β κ τ : Nat → Int32) (h : Nat) (p : Int32 × MI) : MI := if p.1 < 0 then MM I φ p.2 (cpA (zf Z) α 375) β κ τ else MM I (pRecF φ h) p.2 (cpA (zf Z) α 375) (pRecB β (cpA (zf Z) α 375) h) κ τ
theorem sp_X6_say (hM : Md R) (s a w d : Int32) {h : Nat} (hh : φ 3 = nI h) (hh4 : h ≤ 4) (hN : N5 Z) : Spd mX6_say [.ref 131, .int s, .int a, .int w, .int d] (MM I φ Z α β κ τ) R (some (.int (pSay Z s a w d).1)) (aM I φ Z α β κ τ h (pSay Z s a w d)) := by
  refine Spd.mk (by decide +kernel) (by simp [Value.category]) (Nat.le_of_ble_eq_true rfl) (fun g cx => ?_)
  refine x_aload_n dX6_say_0 rfl rfl ?_
  refine x_callVd0 (mt' := mX6_putAside) (sp_X6_putAside hM) kvX6_putAside wl_X6_122 (by decide) dX6_say_1 xk_131 (by decide) rfl rfl (Nat.le_of_ble_eq_true rfl) ⟨rfl, rfl⟩ (by decide) ?_
  refine x_aload_n dX6_say_4 rfl rfl ?_
  refine x_aload_n dX6_say_5 rfl rfl ?_
  refine x_iload_n dX6_say_6 rfl rfl ?_
  refine x_iload_n dX6_say_7 rfl rfl ?_
  refine x_iload_n dX6_say_8 rfl rfl ?_
  refine x_iload dX6_say_9 rfl ?_
  refine x_callVd0 (mt' := mX6_says) (sp_X6_says hM _ _ _ _ hN) kvX6_says wl_X6_125 (by decide) dX6_say_11 xk_131 (by decide) rfl rfl (Nat.le_of_ble_eq_true rfl) ⟨rfl, rfl⟩ (by decide) ?_
  refine x_callVd0 (mt' := mX6_act) (sp_X6_act hM _ hh hh4) kvX6_act wl_X6_129 (by decide) dX6_say_14 xk_131 (by decide) rfl rfl (Nat.le_of_ble_eq_true rfl) ⟨rfl, rfl⟩ (by decide) ?_
  refine x_iret dX6_say_17 rfl (by decide) (by decide) ?_
  exact ⟨rfl, rfl, rfl, rfl⟩
theorem sp_X6_takeBack (hM : Md R) (s : Int32) {h : Nat} (hh : φ 3 = nI h) (hh4 : h ≤ 4) (hN : N5 Z) : Spd mX6_takeBack [.ref 131, .int s] (MM I φ Z α β κ τ) R (some (.int (pTake Z s).1)) (aM I φ Z α β κ τ h (pTake Z s)) := by
  refine Spd.mk (by decide +kernel) (by simp [Value.category]) (Nat.le_of_ble_eq_true rfl) (fun g cx => ?_)
  refine x_aload_n dX6_takeBack_0 rfl rfl ?_
  refine x_callVd0 (mt' := mX6_putAside) (sp_X6_putAside hM) kvX6_putAside wl_X6_122 (by decide) dX6_takeBack_1 xk_131 (by decide) rfl rfl (Nat.le_of_ble_eq_true rfl) ⟨rfl, rfl⟩ (by decide) ?_
  refine x_aload_n dX6_takeBack_4 rfl rfl ?_
  refine x_aload_n dX6_takeBack_5 rfl rfl ?_
  refine x_iload_n dX6_takeBack_6 rfl rfl ?_
  refine x_callVd0 (mt' := mX6_takesBack) (sp_X6_takesBack hM _ hN) kvX6_takesBack wl_X6_132 (by decide) dX6_takeBack_7 xk_131 (by decide) rfl rfl (Nat.le_of_ble_eq_true rfl) ⟨rfl, rfl⟩ (by decide) ?_
  refine x_callVd0 (mt' := mX6_act) (sp_X6_act hM _ hh hh4) kvX6_act wl_X6_129 (by decide) dX6_takeBack_10 xk_131 (by decide) rfl rfl (Nat.le_of_ble_eq_true rfl) ⟨rfl, rfl⟩ (by decide) ?_
  refine x_iret dX6_takeBack_13 rfl (by decide) (by decide) ?_
  exact ⟨rfl, rfl, rfl, rfl⟩
theorem sp_X6_hear (hM : Md R) (s a : Int32) {h : Nat} (hh : φ 3 = nI h) (hh4 : h ≤ 4) : Spd mX6_hear [.ref 131, .int s, .int a] (MM I φ Z α β κ τ) R (some (.int (pHear Z s a).1)) (aM I φ Z α β κ τ h (pHear Z s a)) := by
  refine Spd.mk (by decide +kernel) (by simp [Value.category]) (Nat.le_of_ble_eq_true rfl) (fun g cx => ?_)
  refine x_aload_n dX6_hear_0 rfl rfl ?_
  refine x_callVd0 (mt' := mX6_putAside) (sp_X6_putAside hM) kvX6_putAside wl_X6_122 (by decide) dX6_hear_1 xk_131 (by decide) rfl rfl (Nat.le_of_ble_eq_true rfl) ⟨rfl, rfl⟩ (by decide) ?_
  refine x_aload_n dX6_hear_4 rfl rfl ?_
  refine x_aload_n dX6_hear_5 rfl rfl ?_
  refine x_iload_n dX6_hear_6 rfl rfl ?_
  refine x_iload_n dX6_hear_7 rfl rfl ?_
  refine x_callVd0 (mt' := mX6_hears) (sp_X6_hears hM _ _) kvX6_hears wl_X6_135 (by decide) dX6_hear_8 xk_131 (by decide) rfl rfl (Nat.le_of_ble_eq_true rfl) ⟨rfl, rfl⟩ (by decide) ?_
  refine x_callVd0 (mt' := mX6_act) (sp_X6_act hM _ hh hh4) kvX6_act wl_X6_129 (by decide) dX6_hear_11 xk_131 (by decide) rfl rfl (Nat.le_of_ble_eq_true rfl) ⟨rfl, rfl⟩ (by decide) ?_
  refine x_iret dX6_hear_14 rfl (by decide) (by decide) ?_
  exact ⟨rfl, rfl, rfl, rfl⟩
theorem sp_X6_hold (hM : Md R) (s t : Int32) {h : Nat} (hh : φ 3 = nI h) (hh4 : h ≤ 4) : Spd mX6_hold [.ref 131, .int s, .int t] (MM I φ Z α β κ τ) R (some (.int (pHold Z s t).1)) (aM I φ Z α β κ τ h (pHold Z s t)) := by
  refine Spd.mk (by decide +kernel) (by simp [Value.category]) (Nat.le_of_ble_eq_true rfl) (fun g cx => ?_)
  refine x_aload_n dX6_hold_0 rfl rfl ?_
  refine x_callVd0 (mt' := mX6_putAside) (sp_X6_putAside hM) kvX6_putAside wl_X6_122 (by decide) dX6_hold_1 xk_131 (by decide) rfl rfl (Nat.le_of_ble_eq_true rfl) ⟨rfl, rfl⟩ (by decide) ?_
  refine x_aload_n dX6_hold_4 rfl rfl ?_
  refine x_aload_n dX6_hold_5 rfl rfl ?_
  refine x_iload_n dX6_hold_6 rfl rfl ?_
  refine x_iload_n dX6_hold_7 rfl rfl ?_
  refine x_callVd0 (mt' := mX6_holds) (sp_X6_holds hM _ _) kvX6_holds wl_X6_138 (by decide) dX6_hold_8 xk_131 (by decide) rfl rfl (Nat.le_of_ble_eq_true rfl) ⟨rfl, rfl⟩ (by decide) ?_
  refine x_callVd0 (mt' := mX6_act) (sp_X6_act hM _ hh hh4) kvX6_act wl_X6_129 (by decide) dX6_hold_11 xk_131 (by decide) rfl rfl (Nat.le_of_ble_eq_true rfl) ⟨rfl, rfl⟩ (by decide) ?_
  refine x_iret dX6_hold_14 rfl (by decide) (by decide) ?_
  exact ⟨rfl, rfl, rfl, rfl⟩
theorem sp_X6_stick (hM : Md R) (s t : Int32) {h : Nat} (hh : φ 3 = nI h) (hh4 : h ≤ 4) : Spd mX6_stick [.ref 131, .int s, .int t] (MM I φ Z α β κ τ) R (some (.int (pStick Z s t).1)) (aM I φ Z α β κ τ h (pStick Z s t)) := by
  refine Spd.mk (by decide +kernel) (by simp [Value.category]) (Nat.le_of_ble_eq_true rfl) (fun g cx => ?_)
  refine x_aload_n dX6_stick_0 rfl rfl ?_
  refine x_callVd0 (mt' := mX6_putAside) (sp_X6_putAside hM) kvX6_putAside wl_X6_122 (by decide) dX6_stick_1 xk_131 (by decide) rfl rfl (Nat.le_of_ble_eq_true rfl) ⟨rfl, rfl⟩ (by decide) ?_
  refine x_aload_n dX6_stick_4 rfl rfl ?_
  refine x_aload_n dX6_stick_5 rfl rfl ?_
  refine x_iload_n dX6_stick_6 rfl rfl ?_
  refine x_iload_n dX6_stick_7 rfl rfl ?_
  refine x_callVd0 (mt' := mX6_sticks) (sp_X6_sticks hM _ _) kvX6_sticks wl_X6_141 (by decide) dX6_stick_8 xk_131 (by decide) rfl rfl (Nat.le_of_ble_eq_true rfl) ⟨rfl, rfl⟩ (by decide) ?_
  refine x_callVd0 (mt' := mX6_act) (sp_X6_act hM _ hh hh4) kvX6_act wl_X6_129 (by decide) dX6_stick_11 xk_131 (by decide) rfl rfl (Nat.le_of_ble_eq_true rfl) ⟨rfl, rfl⟩ (by decide) ?_
  refine x_iret dX6_stick_14 rfl (by decide) (by decide) ?_
  exact ⟨rfl, rfl, rfl, rfl⟩
theorem sp_X6_set (hM : Md R) (s t : Int32) {h : Nat} (hh : φ 3 = nI h) (hh4 : h ≤ 4) : Spd mX6_set [.ref 131, .int s, .int t] (MM I φ Z α β κ τ) R (some (.int (pSet Z s t).1)) (aM I φ Z α β κ τ h (pSet Z s t)) := by
  refine Spd.mk (by decide +kernel) (by simp [Value.category]) (Nat.le_of_ble_eq_true rfl) (fun g cx => ?_)
  refine x_aload_n dX6_set_0 rfl rfl ?_
  refine x_callVd0 (mt' := mX6_putAside) (sp_X6_putAside hM) kvX6_putAside wl_X6_122 (by decide) dX6_set_1 xk_131 (by decide) rfl rfl (Nat.le_of_ble_eq_true rfl) ⟨rfl, rfl⟩ (by decide) ?_
  refine x_aload_n dX6_set_4 rfl rfl ?_
  refine x_aload_n dX6_set_5 rfl rfl ?_
  refine x_iload_n dX6_set_6 rfl rfl ?_
  refine x_iload_n dX6_set_7 rfl rfl ?_
  refine x_callVd0 (mt' := mX6_sets) (sp_X6_sets hM _ _) kvX6_sets wl_X6_144 (by decide) dX6_set_8 xk_131 (by decide) rfl rfl (Nat.le_of_ble_eq_true rfl) ⟨rfl, rfl⟩ (by decide) ?_
  refine x_callVd0 (mt' := mX6_act) (sp_X6_act hM _ hh hh4) kvX6_act wl_X6_129 (by decide) dX6_set_11 xk_131 (by decide) rfl rfl (Nat.le_of_ble_eq_true rfl) ⟨rfl, rfl⟩ (by decide) ?_
  refine x_iret dX6_set_14 rfl (by decide) (by decide) ?_
  exact ⟨rfl, rfl, rfl, rfl⟩
theorem sp_X6_run (hM : Md R) (t : Int32) {h : Nat} (hh : φ 3 = nI h) (hh4 : h ≤ 4) (hW : ∀ j, WT (pTk Z j)) : Spd mX6_run [.ref 131, .int t] (MM I φ Z α β κ τ) R (some (.int (pRun Z t).1)) (aM I φ Z α β κ τ h (pRun Z t)) := by
  refine Spd.mk (by decide +kernel) (by simp [Value.category]) (Nat.le_of_ble_eq_true rfl) (fun g cx => ?_)
  refine x_aload_n dX6_run_0 rfl rfl ?_
  refine x_callVd0 (mt' := mX6_putAside) (sp_X6_putAside hM) kvX6_putAside wl_X6_122 (by decide) dX6_run_1 xk_131 (by decide) rfl rfl (Nat.le_of_ble_eq_true rfl) ⟨rfl, rfl⟩ (by decide) ?_
  refine x_aload_n dX6_run_4 rfl rfl ?_
  refine x_aload_n dX6_run_5 rfl rfl ?_
  refine x_iload_n dX6_run_6 rfl rfl ?_
  refine x_callVd0 (mt' := mX6_runs) (sp_X6_runs hM _ hW) kvX6_runs wl_X6_147 (by decide) dX6_run_7 xk_131 (by decide) rfl rfl (Nat.le_of_ble_eq_true rfl) ⟨rfl, rfl⟩ (by decide) ?_
  refine x_callVd0 (mt' := mX6_act) (sp_X6_act hM _ hh hh4) kvX6_act wl_X6_129 (by decide) dX6_run_10 xk_131 (by decide) rfl rfl (Nat.le_of_ble_eq_true rfl) ⟨rfl, rfl⟩ (by decide) ?_
  refine x_iret dX6_run_13 rfl (by decide) (by decide) ?_
  exact ⟨rfl, rfl, rfl, rfl⟩
end ML
