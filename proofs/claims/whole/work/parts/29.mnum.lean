/-! the reference: numbers and orders of a text -/
theorem dg_lt {t : Nat → Int32} {n : Nat} {s : Nat × Bool} (h : dg t n s = true) : s.1 < n := by
  unfold dg at h
  simp at h
  omega
section ML
variable {I : MI} {R : MR} {φ α β κ τ : Nat → Int32} {Z : MI} {s : Nat × Bool} {l a b c d : Int32} {n : Nat}
theorem lp_X6_number (hM : Md R) (hn : φ 7 = nI n) (hn80 : n ≤ 80) {lo hi : Int32} {g : GX} {cx : CX} {F : State → Prop} : ∀ (f p : Nat) (v : Int32), n ≤ p + f → p ≤ n → X g cx mX6_number F (0, 0) 156 [some (.ref 131), some (.int lo), some (.int hi), some (.int (nmL τ n hi f p v).1)] [] 137 (MM I (PF φ ((nmL τ n hi f p v).2, false) l a b c d) Z α β κ τ) R → X g cx mX6_number F (0, 0) 93 [some (.ref 131), some (.int lo), some (.int hi), some (.int v)] [] 137 (MM I (PF φ (p, false) l a b c d) Z α β κ τ) R := by
  intro f
  induction f with
  | zero =>
    intro p v hf hp hx
    refine x_iload_n dX6_number_93 rfl rfl ?_
    refine x_if_le 156 dX6_number_94 (by decide) (fun c94 => ?_) (fun c94 => ?_)
    · skip
      exact hx
    · skip
      refine x_aload_n dX6_number_97 rfl rfl ?_
      refine x_callVd0 (mt' := mX6_isDigit) (sp_X6_isDigit hM hn hn80 hp) kvX6_isDigit wl_X6_163 (by decide) dX6_number_98 xk_131 (by decide) rfl rfl (Nat.le_of_ble_eq_true rfl) ⟨rfl, rfl⟩ (by decide) ?_
      refine x_if_eq 156 dX6_number_101 (by decide) (fun c101 => ?_) (fun c101 => ?_)
      · skip
        exact hx
      · skip
        have := dg_lt (bi_nt c101)
        exact absurd this (by show ¬ p < n; omega)
  | succ f ih =>
    intro p v hf hp hx
    refine x_iload_n dX6_number_93 rfl rfl ?_
    refine x_if_le 156 dX6_number_94 (by decide) (fun c94 => ?_) (fun c94 => ?_)
    · skip
      have e : nmL τ n hi (f + 1) p v = (v, p) := if_pos c94
      rw [e] at hx
      exact hx
    · skip
      refine x_aload_n dX6_number_97 rfl rfl ?_
      refine x_callVd0 (mt' := mX6_isDigit) (sp_X6_isDigit hM hn hn80 hp) kvX6_isDigit wl_X6_163 (by decide) dX6_number_98 xk_131 (by decide) rfl rfl (Nat.le_of_ble_eq_true rfl) ⟨rfl, rfl⟩ (by decide) ?_
      refine x_if_eq 156 dX6_number_101 (by decide) (fun c101 => ?_) (fun c101 => ?_)
      · skip
        have e : nmL τ n hi (f + 1) p v = (v, p) := by unfold nmL; rw [if_neg c94, if_pos (bi_0.mp c101)]
        rw [e] at hx
        exact hx
      · skip
        have hlt : p < n := dg_lt (bi_nt c101)
        refine x_bipush (nI 10) dX6_number_104 (by decide) ?_
        refine x_iload_n dX6_number_106 rfl rfl ?_
        refine x_imul dX6_number_107 ?_
        refine x_aload_n dX6_number_108 rfl rfl ?_
        refine x_getR fl_X6_22 dX6_number_109 xk_131 (by decide) rfl (hM 6 _ rfl) ?_
        refine x_aload_n dX6_number_112 rfl rfl ?_
        refine x_getM fl_X6_157 dX6_number_113 rfl (x_eqtop PF_10 ?_)
        refine x_ldT dX6_number_116 (by omega) ?_
        refine x_iadd dX6_number_117 ?_
        refine x_bipush (nI 48) dX6_number_118 (by decide) ?_
        refine x_isub dX6_number_120 ?_
        refine x_iload_n dX6_number_121 rfl rfl ?_
        refine x_icmp_gt 156 dX6_number_122 (by decide) (fun c122 => ?_) (fun c122 => ?_)
        · skip
          have e : nmL τ n hi (f + 1) p v = (v, p) := by unfold nmL; rw [if_neg c94, if_neg (by rw [bi_nt c101]; decide), if_pos c122]
          rw [e] at hx
          exact hx
        · skip
          have e : nmL τ n hi (f + 1) p v = nmL τ n hi f (p + 1) (nI 10 * v + τ p - nI 48) := by rw [nmL, if_neg c94, if_neg (by rw [bi_nt c101]; decide), if_neg c122]
          rw [e] at hx
          refine x_bipush (nI 10) dX6_number_125 (by decide) ?_
          refine x_iload_n dX6_number_127 rfl rfl ?_
          refine x_imul dX6_number_128 ?_
          refine x_aload_n dX6_number_129 rfl rfl ?_
          refine x_getR fl_X6_22 dX6_number_130 xk_131 (by decide) rfl (hM 6 _ rfl) ?_
          refine x_aload_n dX6_number_133 rfl rfl ?_
          refine x_getM fl_X6_157 dX6_number_134 rfl (x_eqtop PF_10 ?_)
          refine x_ldT dX6_number_137 (by omega) ?_
          refine x_iadd dX6_number_138 ?_
          refine x_bipush (nI 48) dX6_number_139 (by decide) ?_
          refine x_isub dX6_number_141 ?_
          refine x_istore_n dX6_number_142 rfl (by decide) ?_
          refine x_aload_n dX6_number_143 rfl rfl ?_
          refine x_dup dX6_number_144 rfl ?_
          refine x_getM fl_X6_157 dX6_number_145 rfl (x_eqtop PF_10 ?_)
          refine x_iconst (nI 1) dX6_number_148 (by decide) ?_
          refine x_iaddN dX6_number_149 ?_
          refine x_putM fl_X6_157 fp_6_10 dX6_number_150 rfl rfl rfl (x_eqI MM_u10 ?_)
          refine x_goto 93 dX6_number_153 (by decide) ?_
          exact ih (p + 1) _ (by omega) (by omega) hx
theorem nm_no {t : Nat → Int32} {n : Nat} {lo hi : Int32} {s : Nat × Bool} (h : nmR t n lo hi (sg t n (nI 32) s) = false) : nm t n lo hi s = (nI 0, ((sg t n (nI 32) s).1, true)) := by unfold nm; rw [if_neg (by rw [h]; decide)]
theorem nm_yes {t : Nat → Int32} {n : Nat} {lo hi : Int32} {s : Nat × Bool} (h : nmR t n lo hi (sg t n (nI 32) s) = true) : nm t n lo hi s = ((nmL t n hi 80 ((sg t n (nI 32) s).1 + 1) (t (sg t n (nI 32) s).1 - nI 48)).1, ((nmL t n hi 80 ((sg t n (nI 32) s).1 + 1) (t (sg t n (nI 32) s).1 - nI 48)).2, false)) := by unfold nm; rw [if_pos h]
theorem nmR_1 {t : Nat → Int32} {n : Nat} {lo hi : Int32} {s : Nat × Bool} (h : s.2 = true) : nmR t n lo hi s = false := by unfold nmR; rw [h]; rfl
theorem nmR_2 {t : Nat → Int32} {n : Nat} {lo hi : Int32} {s : Nat × Bool} (h : dg t n s = false) : nmR t n lo hi s = false := by unfold nmR; rw [h]; simp
theorem nmR_3 {t : Nat → Int32} {n : Nat} {lo hi : Int32} {s : Nat × Bool} (h : t s.1 - nI 48 < lo) : nmR t n lo hi s = false := by unfold nmR; rw [decide_eq_false (fun q => q h)]; simp
theorem nmR_4 {t : Nat → Int32} {n : Nat} {lo hi : Int32} {s : Nat × Bool} (h : ¬ t s.1 - nI 48 ≤ hi) : nmR t n lo hi s = false := by unfold nmR; rw [decide_eq_false h]; simp
theorem nmR_5 {t : Nat → Int32} {n : Nat} {lo hi : Int32} {s : Nat × Bool} (h1 : s.2 = false) (h2 : dg t n s = true) (h3 : ¬ t s.1 - nI 48 < lo) (h4 : t s.1 - nI 48 ≤ hi) : nmR t n lo hi s = true := by unfold nmR; rw [h1, h2, decide_eq_true h3, decide_eq_true h4]; rfl
theorem sp_X6_number (hM : Md R) (hn : φ 7 = nI n) (hn80 : n ≤ 80) (hs : s.1 ≤ n) (lo hi : Int32) : Spd mX6_number [.ref 131, .int lo, .int hi] (MM I (PF φ s l a b c d) Z α β κ τ) R (some (.int (nm τ n lo hi s).1)) (MM I (PF φ (nm τ n lo hi s).2 l a b c d) Z α β κ τ) := by
  refine Spd.mk (by decide +kernel) (by simp [Value.category]) (Nat.le_of_ble_eq_true rfl) (fun g cx => ?_)
  have hs1 : (sg τ n (nI 32) s).1 ≤ n := sg_le hs
  refine x_aload_n dX6_number_0 rfl rfl ?_
  refine x_bipush (nI 32) dX6_number_1 (by decide) ?_
  refine x_callVd0 (mt' := mX6_sign) (sp_X6_sign hM hn hn80 hs _) kvX6_sign wl_X6_160 (by decide) dX6_number_3 xk_131 (by decide) rfl rfl (Nat.le_of_ble_eq_true rfl) ⟨rfl, rfl⟩ (by decide) ?_
  refine x_aload_n dX6_number_6 rfl rfl ?_
  refine x_aload_n dX6_number_7 rfl rfl ?_
  refine x_getM fl_X6_153 dX6_number_8 rfl (x_eqtop PF_11 ?_)
  refine x_if_ne 53 dX6_number_11 (by decide) (fun c11 => ?_) (fun c11 => ?_)
  · skip
    rw [nm_no (nmR_1 (bi_nt c11))]
    refine x_iconst (nI 1) dX6_number_53 (by decide) ?_
    refine x_goto 58 dX6_number_54 (by decide) ?_
    first | refine x_eqtop (y := bi true) rfl ?_ | refine x_eqtop (y := bi false) rfl ?_
    refine x_putM fl_X6_153 fp_6_11 dX6_number_58 rfl (bi_n _) (bi_f _) (x_eqI MM_u11 ?_)
    refine x_aload_n dX6_number_61 rfl rfl ?_
    refine x_getM fl_X6_153 dX6_number_62 rfl (x_eqtop PF_11 ?_)
    refine x_if_eq 70 dX6_number_65 (by decide) (fun c65 => ?_) (fun c65 => ?_)
    · skip
      exact absurd c65 (show ¬ bi true = 0 by decide)
    · skip
      refine x_iconst (nI 0) dX6_number_68 (by decide) ?_
      refine x_iret dX6_number_69 rfl (by decide) (by decide) ?_
      exact ⟨rfl, rfl, rfl, rfl⟩
  · skip
    refine x_aload_n dX6_number_14 rfl rfl ?_
    refine x_callVd0 (mt' := mX6_isDigit) (sp_X6_isDigit hM hn hn80 hs1) kvX6_isDigit wl_X6_163 (by decide) dX6_number_15 xk_131 (by decide) rfl rfl (Nat.le_of_ble_eq_true rfl) ⟨rfl, rfl⟩ (by decide) ?_
    refine x_if_eq 53 dX6_number_18 (by decide) (fun c18 => ?_) (fun c18 => ?_)
    · skip
      rw [nm_no (nmR_2 (bi_0.mp c18))]
      refine x_iconst (nI 1) dX6_number_53 (by decide) ?_
      refine x_goto 58 dX6_number_54 (by decide) ?_
      first | refine x_eqtop (y := bi true) rfl ?_ | refine x_eqtop (y := bi false) rfl ?_
      refine x_putM fl_X6_153 fp_6_11 dX6_number_58 rfl (bi_n _) (bi_f _) (x_eqI MM_u11 ?_)
      refine x_aload_n dX6_number_61 rfl rfl ?_
      refine x_getM fl_X6_153 dX6_number_62 rfl (x_eqtop PF_11 ?_)
      refine x_if_eq 70 dX6_number_65 (by decide) (fun c65 => ?_) (fun c65 => ?_)
      · skip
        exact absurd c65 (show ¬ bi true = 0 by decide)
      · skip
        refine x_iconst (nI 0) dX6_number_68 (by decide) ?_
        refine x_iret dX6_number_69 rfl (by decide) (by decide) ?_
        exact ⟨rfl, rfl, rfl, rfl⟩
    · skip
      have hlt : (sg τ n (nI 32) s).1 < n := dg_lt (bi_nt c18)
      refine x_aload_n dX6_number_21 rfl rfl ?_
      refine x_getR fl_X6_22 dX6_number_22 xk_131 (by decide) rfl (hM 6 _ rfl) ?_
      refine x_aload_n dX6_number_25 rfl rfl ?_
      refine x_getM fl_X6_157 dX6_number_26 rfl (x_eqtop PF_10 ?_)
      refine x_ldT dX6_number_29 (by omega) ?_
      refine x_bipush (nI 48) dX6_number_30 (by decide) ?_
      refine x_isub dX6_number_32 ?_
      refine x_iload_n dX6_number_33 rfl rfl ?_
      refine x_icmp_lt 53 dX6_number_34 (by decide) (fun c34 => ?_) (fun c34 => ?_)
      · skip
        rw [nm_no (nmR_3 c34)]
        refine x_iconst (nI 1) dX6_number_53 (by decide) ?_
        refine x_goto 58 dX6_number_54 (by decide) ?_
        first | refine x_eqtop (y := bi true) rfl ?_ | refine x_eqtop (y := bi false) rfl ?_
        refine x_putM fl_X6_153 fp_6_11 dX6_number_58 rfl (bi_n _) (bi_f _) (x_eqI MM_u11 ?_)
        refine x_aload_n dX6_number_61 rfl rfl ?_
        refine x_getM fl_X6_153 dX6_number_62 rfl (x_eqtop PF_11 ?_)
        refine x_if_eq 70 dX6_number_65 (by decide) (fun c65 => ?_) (fun c65 => ?_)
        · skip
          exact absurd c65 (show ¬ bi true = 0 by decide)
        · skip
          refine x_iconst (nI 0) dX6_number_68 (by decide) ?_
          refine x_iret dX6_number_69 rfl (by decide) (by decide) ?_
          exact ⟨rfl, rfl, rfl, rfl⟩
      · skip
        refine x_aload_n dX6_number_37 rfl rfl ?_
        refine x_getR fl_X6_22 dX6_number_38 xk_131 (by decide) rfl (hM 6 _ rfl) ?_
        refine x_aload_n dX6_number_41 rfl rfl ?_
        refine x_getM fl_X6_157 dX6_number_42 rfl (x_eqtop PF_10 ?_)
        refine x_ldT dX6_number_45 (by omega) ?_
        refine x_bipush (nI 48) dX6_number_46 (by decide) ?_
        refine x_isub dX6_number_48 ?_
        refine x_iload_n dX6_number_49 rfl rfl ?_
        refine x_icmp_le 57 dX6_number_50 (by decide) (fun c50 => ?_) (fun c50 => ?_)
        · skip
          rw [nm_yes (nmR_5 (bi_0.mp c11) (bi_nt c18) c34 c50)]
          refine x_iconst (nI 0) dX6_number_57 (by decide) ?_
          first | refine x_eqtop (y := bi true) rfl ?_ | refine x_eqtop (y := bi false) rfl ?_
          refine x_putM fl_X6_153 fp_6_11 dX6_number_58 rfl (bi_n _) (bi_f _) (x_eqI MM_u11 ?_)
          refine x_aload_n dX6_number_61 rfl rfl ?_
          refine x_getM fl_X6_153 dX6_number_62 rfl (x_eqtop PF_11 ?_)
          refine x_if_eq 70 dX6_number_65 (by decide) (fun c65 => ?_) (fun c65 => ?_)
          · skip
            refine x_aload_n dX6_number_70 rfl rfl ?_
            refine x_getR fl_X6_22 dX6_number_71 xk_131 (by decide) rfl (hM 6 _ rfl) ?_
            refine x_aload_n dX6_number_74 rfl rfl ?_
            refine x_getM fl_X6_157 dX6_number_75 rfl (x_eqtop PF_10 ?_)
            refine x_ldT dX6_number_78 (by omega) ?_
            refine x_bipush (nI 48) dX6_number_79 (by decide) ?_
            refine x_isub dX6_number_81 ?_
            refine x_istore_n dX6_number_82 rfl (by decide) ?_
            refine x_aload_n dX6_number_83 rfl rfl ?_
            refine x_dup dX6_number_84 rfl ?_
            refine x_getM fl_X6_157 dX6_number_85 rfl (x_eqtop PF_10 ?_)
            refine x_iconst (nI 1) dX6_number_88 (by decide) ?_
            refine x_iaddN dX6_number_89 ?_
            refine x_putM fl_X6_157 fp_6_10 dX6_number_90 rfl rfl rfl (x_eqI MM_u10 ?_)
            refine lp_X6_number hM hn hn80 80 _ _ (by omega) (by omega) ?_
            refine x_iload_n dX6_number_156 rfl rfl ?_
            refine x_iret dX6_number_157 rfl (by decide) (by decide) ?_
            exact ⟨rfl, rfl, rfl, rfl⟩
          · skip
            exact absurd rfl c65
        · skip
          rw [nm_no (nmR_4 c50)]
          refine x_iconst (nI 1) dX6_number_53 (by decide) ?_
          refine x_goto 58 dX6_number_54 (by decide) ?_
          first | refine x_eqtop (y := bi true) rfl ?_ | refine x_eqtop (y := bi false) rfl ?_
          refine x_putM fl_X6_153 fp_6_11 dX6_number_58 rfl (bi_n _) (bi_f _) (x_eqI MM_u11 ?_)
          refine x_aload_n dX6_number_61 rfl rfl ?_
          refine x_getM fl_X6_153 dX6_number_62 rfl (x_eqtop PF_11 ?_)
          refine x_if_eq 70 dX6_number_65 (by decide) (fun c65 => ?_) (fun c65 => ?_)
          · skip
            exact absurd c65 (show ¬ bi true = 0 by decide)
          · skip
            refine x_iconst (nI 0) dX6_number_68 (by decide) ?_
            refine x_iret dX6_number_69 rfl (by decide) (by decide) ?_
            exact ⟨rfl, rfl, rfl, rfl⟩
end ML
