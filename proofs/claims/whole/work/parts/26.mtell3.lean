/-! the reference: count, the text's letters, history, snapshot, the latest stop -/
theorem pCnt_out {Z : MI} {h l w : Int32} (ho : w.toInt < 0 ∨ ((15 : Nat) : Int) < w.toInt) : pCnt Z h l w = -2 := by
  unfold pCnt
  have q : ∀ j, j ≤ 15 → ¬ w = nI j := fun j hj => tab_ne (n := 15) (by omega) ho hj
  rw [if_neg (q 0 (by omega)), if_neg (q 1 (by omega)), if_neg (q 2 (by omega)), if_neg (q 3 (by omega)), if_neg (q 4 (by omega)), if_neg (q 5 (by omega)), if_neg (q 6 (by omega)), if_neg (q 7 (by omega)), if_neg (q 8 (by omega)), if_neg (q 9 (by omega)), if_neg (q 10 (by omega)), if_neg (q 11 (by omega)), if_neg (q 12 (by omega)), if_neg (q 13 (by omega)), if_neg (q 14 (by omega)), if_neg (q 15 (by omega))]
section ML
variable {I : MI} {R : MR} {φ α β κ τ : Nat → Int32} {Z : MI}
theorem sp_X6_count (hM : Md R) (w : Int32) (hz : Z 8 7 = nI (ps Z)) (hp : ps Z < 27) : Spd mX6_count [.ref 131, .int w] (MM I φ Z α β κ τ) R (some (.int (pCnt Z (φ 3) (φ 7) w))) (MM I φ Z α β κ τ) := by
  refine Spd.mk (by decide +kernel) (by simp [Value.category]) (Nat.le_of_ble_eq_true rfl) (fun g cx => ?_)
  rcases tab_split w 15 (by omega) with ⟨i, hi, rfl⟩ | hout
  · rcases (show i = 0 ∨ i = 1 ∨ i = 2 ∨ i = 3 ∨ i = 4 ∨ i = 5 ∨ i = 6 ∨ i = 7 ∨ i = 8 ∨ i = 9 ∨ i = 10 ∨ i = 11 ∨ i = 12 ∨ i = 13 ∨ i = 14 ∨ i = 15 by omega) with rfl | rfl | rfl | rfl | rfl | rfl | rfl | rfl | rfl | rfl | rfl | rfl | rfl | rfl | rfl | rfl
    · skip
      refine x_iload_n dX6_count_0 rfl rfl ?_
      refine x_tableIn (off := 79) 80 dX6_count_1 (by decide) (by decide) (by decide) (by decide) ?_
      refine x_aload_n dX6_count_80 rfl rfl ?_
      refine x_getR fl_X6_7 dX6_count_81 xk_131 (by decide) rfl (hM 0 _ rfl) ?_
      refine x_iconst (nI 3) dX6_count_84 (by decide) ?_
      refine x_ldS dX6_count_85 (by omega) zf_3 ?_
      refine x_iret dX6_count_86 rfl (by decide) (by decide) ?_
      exact ⟨rfl, rfl, rfl, rfl⟩
    · skip
      refine x_iload_n dX6_count_0 rfl rfl ?_
      refine x_tableIn (off := 86) 87 dX6_count_1 (by decide) (by decide) (by decide) (by decide) ?_
      refine x_aload_n dX6_count_87 rfl rfl ?_
      refine x_callVd0 (mt' := mX6_talking) (sp_X6_talking hM) kvX6_talking wl_X6_54 (by decide) dX6_count_88 xk_131 (by decide) rfl rfl (Nat.le_of_ble_eq_true rfl) ⟨rfl, rfl⟩ (by decide) ?_
      refine x_iret dX6_count_91 rfl (by decide) (by decide) ?_
      exact ⟨rfl, rfl, rfl, rfl⟩
    · skip
      refine x_iload_n dX6_count_0 rfl rfl ?_
      refine x_tableIn (off := 91) 92 dX6_count_1 (by decide) (by decide) (by decide) (by decide) ?_
      refine x_aload_n dX6_count_92 rfl rfl ?_
      refine x_callVd0 (mt' := mX6_next) (sp_X6_next hM hz hp) kvX6_next wl_X6_91 (by decide) dX6_count_93 xk_131 (by decide) rfl rfl (Nat.le_of_ble_eq_true rfl) ⟨rfl, rfl⟩ (by decide) ?_
      refine x_iret dX6_count_96 rfl (by decide) (by decide) ?_
      exact ⟨rfl, rfl, rfl, rfl⟩
    · skip
      refine x_iload_n dX6_count_0 rfl rfl ?_
      refine x_tableIn (off := 96) 97 dX6_count_1 (by decide) (by decide) (by decide) (by decide) ?_
      refine x_aload_n dX6_count_97 rfl rfl ?_
      refine x_getR fl_X6_7 dX6_count_98 xk_131 (by decide) rfl (hM 0 _ rfl) ?_
      refine x_bipush (nI 112) dX6_count_101 (by decide) ?_
      refine x_ldS dX6_count_103 (by omega) zf_112 ?_
      refine x_iret dX6_count_104 rfl (by decide) (by decide) ?_
      exact ⟨rfl, rfl, rfl, rfl⟩
    · skip
      refine x_iload_n dX6_count_0 rfl rfl ?_
      refine x_tableIn (off := 104) 105 dX6_count_1 (by decide) (by decide) (by decide) (by decide) ?_
      refine x_aload_n dX6_count_105 rfl rfl ?_
      refine x_getR fl_X6_7 dX6_count_106 xk_131 (by decide) rfl (hM 0 _ rfl) ?_
      refine x_bipush (nI 113) dX6_count_109 (by decide) ?_
      refine x_ldS dX6_count_111 (by omega) zf_113 ?_
      refine x_iret dX6_count_112 rfl (by decide) (by decide) ?_
      exact ⟨rfl, rfl, rfl, rfl⟩
    · skip
      refine x_iload_n dX6_count_0 rfl rfl ?_
      refine x_tableIn (off := 112) 113 dX6_count_1 (by decide) (by decide) (by decide) (by decide) ?_
      refine x_aload_n dX6_count_113 rfl rfl ?_
      refine x_getR fl_X6_7 dX6_count_114 xk_131 (by decide) rfl (hM 0 _ rfl) ?_
      refine x_bipush (nI 114) dX6_count_117 (by decide) ?_
      refine x_ldS dX6_count_119 (by omega) zf_114 ?_
      refine x_iret dX6_count_120 rfl (by decide) (by decide) ?_
      exact ⟨rfl, rfl, rfl, rfl⟩
    · skip
      refine x_iload_n dX6_count_0 rfl rfl ?_
      refine x_tableIn (off := 120) 121 dX6_count_1 (by decide) (by decide) (by decide) (by decide) ?_
      refine x_aload_n dX6_count_121 rfl rfl ?_
      refine x_getR fl_X6_7 dX6_count_122 xk_131 (by decide) rfl (hM 0 _ rfl) ?_
      refine x_bipush (nI 115) dX6_count_125 (by decide) ?_
      refine x_ldS dX6_count_127 (by omega) zf_115 ?_
      refine x_iret dX6_count_128 rfl (by decide) (by decide) ?_
      exact ⟨rfl, rfl, rfl, rfl⟩
    · skip
      refine x_iload_n dX6_count_0 rfl rfl ?_
      refine x_tableIn (off := 128) 129 dX6_count_1 (by decide) (by decide) (by decide) (by decide) ?_
      refine x_aload_n dX6_count_129 rfl rfl ?_
      refine x_callVd0 (mt' := mX6_messages) (sp_X6_messages hM) kvX6_messages wl_X6_85 (by decide) dX6_count_130 xk_131 (by decide) rfl rfl (Nat.le_of_ble_eq_true rfl) ⟨rfl, rfl⟩ (by decide) ?_
      refine x_iret dX6_count_133 rfl (by decide) (by decide) ?_
      exact ⟨rfl, rfl, rfl, rfl⟩
    · skip
      refine x_iload_n dX6_count_0 rfl rfl ?_
      refine x_tableIn (off := 133) 134 dX6_count_1 (by decide) (by decide) (by decide) (by decide) ?_
      refine x_aload_n dX6_count_134 rfl rfl ?_
      refine x_callVd0 (mt' := mX6_came) (sp_X6_came hM) kvX6_came wl_X6_113 (by decide) dX6_count_135 xk_131 (by decide) rfl rfl (Nat.le_of_ble_eq_true rfl) ⟨rfl, rfl⟩ (by decide) ?_
      refine x_iret dX6_count_138 rfl (by decide) (by decide) ?_
      exact ⟨rfl, rfl, rfl, rfl⟩
    · skip
      refine x_iload_n dX6_count_0 rfl rfl ?_
      refine x_tableIn (off := 138) 139 dX6_count_1 (by decide) (by decide) (by decide) (by decide) ?_
      refine x_aload_n dX6_count_139 rfl rfl ?_
      refine x_getR fl_X6_7 dX6_count_140 xk_131 (by decide) rfl (hM 0 _ rfl) ?_
      refine x_bipush (nI 116) dX6_count_143 (by decide) ?_
      refine x_ldS dX6_count_145 (by omega) zf_116 ?_
      refine x_iret dX6_count_146 rfl (by decide) (by decide) ?_
      exact ⟨rfl, rfl, rfl, rfl⟩
    · skip
      refine x_iload_n dX6_count_0 rfl rfl ?_
      refine x_tableIn (off := 146) 147 dX6_count_1 (by decide) (by decide) (by decide) (by decide) ?_
      refine x_aload_n dX6_count_147 rfl rfl ?_
      refine x_getR fl_X6_7 dX6_count_148 xk_131 (by decide) rfl (hM 0 _ rfl) ?_
      refine x_bipush (nI 117) dX6_count_151 (by decide) ?_
      refine x_ldS dX6_count_153 (by omega) zf_117 ?_
      refine x_iret dX6_count_154 rfl (by decide) (by decide) ?_
      exact ⟨rfl, rfl, rfl, rfl⟩
    · skip
      refine x_iload_n dX6_count_0 rfl rfl ?_
      refine x_tableIn (off := 154) 155 dX6_count_1 (by decide) (by decide) (by decide) (by decide) ?_
      refine x_aload_n dX6_count_155 rfl rfl ?_
      refine x_getR fl_X6_7 dX6_count_156 xk_131 (by decide) rfl (hM 0 _ rfl) ?_
      refine x_iload_n dX6_count_159 rfl rfl ?_
      refine x_bipush (nI 11) dX6_count_160 (by decide) ?_
      refine x_isubN dX6_count_162 (by omega) ?_
      refine x_ldS dX6_count_163 (by omega) (zf_se (by omega)) ?_
      refine x_iret dX6_count_164 rfl (by decide) (by decide) ?_
      exact ⟨rfl, rfl, rfl, rfl⟩
    · skip
      refine x_iload_n dX6_count_0 rfl rfl ?_
      refine x_tableIn (off := 154) 155 dX6_count_1 (by decide) (by decide) (by decide) (by decide) ?_
      refine x_aload_n dX6_count_155 rfl rfl ?_
      refine x_getR fl_X6_7 dX6_count_156 xk_131 (by decide) rfl (hM 0 _ rfl) ?_
      refine x_iload_n dX6_count_159 rfl rfl ?_
      refine x_bipush (nI 11) dX6_count_160 (by decide) ?_
      refine x_isubN dX6_count_162 (by omega) ?_
      refine x_ldS dX6_count_163 (by omega) (zf_se (by omega)) ?_
      refine x_iret dX6_count_164 rfl (by decide) (by decide) ?_
      exact ⟨rfl, rfl, rfl, rfl⟩
    · skip
      refine x_iload_n dX6_count_0 rfl rfl ?_
      refine x_tableIn (off := 154) 155 dX6_count_1 (by decide) (by decide) (by decide) (by decide) ?_
      refine x_aload_n dX6_count_155 rfl rfl ?_
      refine x_getR fl_X6_7 dX6_count_156 xk_131 (by decide) rfl (hM 0 _ rfl) ?_
      refine x_iload_n dX6_count_159 rfl rfl ?_
      refine x_bipush (nI 11) dX6_count_160 (by decide) ?_
      refine x_isubN dX6_count_162 (by omega) ?_
      refine x_ldS dX6_count_163 (by omega) (zf_se (by omega)) ?_
      refine x_iret dX6_count_164 rfl (by decide) (by decide) ?_
      exact ⟨rfl, rfl, rfl, rfl⟩
    · skip
      refine x_iload_n dX6_count_0 rfl rfl ?_
      refine x_tableIn (off := 164) 165 dX6_count_1 (by decide) (by decide) (by decide) (by decide) ?_
      refine x_aload_n dX6_count_165 rfl rfl ?_
      refine x_getM fl_X6_40 dX6_count_166 rfl ?_
      refine x_iret dX6_count_169 rfl (by decide) (by decide) ?_
      exact ⟨rfl, rfl, rfl, rfl⟩
    · skip
      refine x_iload_n dX6_count_0 rfl rfl ?_
      refine x_tableIn (off := 169) 170 dX6_count_1 (by decide) (by decide) (by decide) (by decide) ?_
      refine x_aload_n dX6_count_170 rfl rfl ?_
      refine x_getM fl_X6_150 dX6_count_171 rfl ?_
      refine x_iret dX6_count_174 rfl (by decide) (by decide) ?_
      exact ⟨rfl, rfl, rfl, rfl⟩
  · rw [pCnt_out hout]
    refine x_iload_n dX6_count_0 rfl rfl ?_
    refine x_tableOut 175 dX6_count_1 (by simpa using hout) (by decide) ?_
    refine x_bipush (-2) dX6_count_175 (by decide) ?_
    refine x_iret dX6_count_177 rfl (by decide) (by decide) ?_
    exact ⟨rfl, rfl, rfl, rfl⟩
theorem sp_X6_type (c : Int32) (hM : Md R) {l : Nat} (hl : φ 7 = nI l) (hl80 : l ≤ 80) : Spd mX6_type [.ref 131, .int c] (MM I φ Z α β κ τ) R (some (.int (if l = 80 then -3 else nI (l + 1)))) (if l = 80 then MM I φ Z α β κ τ else MM I (upd φ 7 (nI (l + 1))) Z α β κ (upd τ l c)) := by
  refine Spd.mk (by decide +kernel) (by simp [Value.category]) (Nat.le_of_ble_eq_true rfl) (fun g cx => ?_)
  refine x_aload_n dX6_type_0 rfl rfl ?_
  refine x_getM fl_X6_150 dX6_type_1 rfl ?_
  refine x_eqtop (y := nI l) hl ?_
  refine x_bipush (nI 80) dX6_type_4 (by decide) ?_
  refine x_icmp_neN 12 dX6_type_6 (by decide) (by omega) (by omega) (fun c6 => ?_) (fun c6 => ?_)
  · skip
    rw [if_neg c6, if_neg c6]
    refine x_aload_n dX6_type_12 rfl rfl ?_
    refine x_getR fl_X6_22 dX6_type_13 xk_131 (by decide) rfl (hM 6 _ rfl) ?_
    refine x_aload_n dX6_type_16 rfl rfl ?_
    refine x_getM fl_X6_150 dX6_type_17 rfl ?_
    refine x_eqtop (y := nI l) hl ?_
    refine x_iload_n dX6_type_20 rfl rfl ?_
    refine x_stT dX6_type_21 (by omega) ?_
    refine x_aload_n dX6_type_22 rfl rfl ?_
    refine x_dup dX6_type_23 rfl ?_
    refine x_getM fl_X6_150 dX6_type_24 rfl ?_
    refine x_eqtop (y := nI l) hl ?_
    refine x_iconst (nI 1) dX6_type_27 (by decide) ?_
    refine x_iaddN dX6_type_28 ?_
    refine x_putM fl_X6_150 fp_6_7 dX6_type_29 rfl rfl rfl ?_
    refine x_aload_n dX6_type_32 rfl rfl ?_
    refine x_getM fl_X6_150 dX6_type_33 rfl ?_
    refine x_eqtop (y := nI (l + 1)) (by simp [upd]) ?_
    refine x_iret dX6_type_36 rfl (by decide) (by decide) ?_
    exact ⟨rfl, rfl, rfl, rfl⟩
  · skip
    rw [if_pos c6, if_pos c6]
    refine x_bipush (-3) dX6_type_9 (by decide) ?_
    refine x_iret dX6_type_11 rfl (by decide) (by decide) ?_
    exact ⟨rfl, rfl, rfl, rfl⟩
theorem sp_X6_clearText (hM : Md R) : Spd mX6_clearText [.ref 131] (MM I φ Z α β κ τ) R (some (.int (φ 7))) (MM I (upd φ 7 (nI 0)) Z α β κ τ) := by
  refine Spd.mk (by decide +kernel) (by simp [Value.category]) (Nat.le_of_ble_eq_true rfl) (fun g cx => ?_)
  refine x_aload_n dX6_clearText_0 rfl rfl ?_
  refine x_getM fl_X6_150 dX6_clearText_1 rfl ?_
  refine x_istore_n dX6_clearText_4 rfl (by decide) ?_
  refine x_aload_n dX6_clearText_5 rfl rfl ?_
  refine x_iconst (nI 0) dX6_clearText_6 (by decide) ?_
  refine x_putM fl_X6_150 fp_6_7 dX6_clearText_7 rfl rfl rfl ?_
  refine x_iload_n dX6_clearText_10 rfl rfl ?_
  refine x_iret dX6_clearText_11 rfl (by decide) (by decide) ?_
  exact ⟨rfl, rfl, rfl, rfl⟩
theorem sp_X6_stopped (hM : Md R) (w : Int32) : Spd mX6_stopped [.ref 131, .int w] (MM I φ Z α β κ τ) R (some (.int (pStp (φ 8) (φ 9) w))) (MM I φ Z α β κ τ) := by
  refine Spd.mk (by decide +kernel) (by simp [Value.category]) (Nat.le_of_ble_eq_true rfl) (fun g cx => ?_)
  by_cases h1 : inr w (nI 0) (nI 1) = true
  · have e : pStp (φ 8) (φ 9) w = if φ 8 = -5 then -5 else if w = 0 then φ 8 else φ 9 := by unfold pStp; rw [if_pos h1]
    rw [e]
    refine x_iload_n dX6_stopped_0 rfl rfl ?_
    refine x_iconst (nI 0) dX6_stopped_1 (by decide) ?_
    refine x_iconst (nI 1) dX6_stopped_2 (by decide) ?_
    refine x_callSd0 (mt' := mX6_in) (sp_X6_in _ _ _) ktX6_in wl_X6_36 (by decide) dX6_stopped_3 rfl rfl (Nat.le_of_ble_eq_true rfl) ⟨rfl, rfl⟩ (by decide) ?_
    refine x_if_ne 14 dX6_stopped_6 (by decide) (fun c6 => ?_) (fun c6 => ?_)
    · skip
      refine x_aload_n dX6_stopped_14 rfl rfl ?_
      refine x_getM fl_X6_25 dX6_stopped_15 rfl ?_
      refine x_bipush (-5) dX6_stopped_18 (by decide) ?_
      refine' x_dia_icmp_ne 28 43 dX6_stopped_20 (by decide) ?_ ?_ ?_; rotate_left 2
      · intro c20 k20
        refine x_bipush (-5) dX6_stopped_23 (by decide) ?_
        refine x_goto 43 dX6_stopped_25 (by decide) ?_
        exact k20
      · intro c20 k20
        refine x_iload_n dX6_stopped_28 rfl rfl ?_
        refine' x_dia_if_ne 39 43 dX6_stopped_29 (by decide) ?_ ?_ ?_; rotate_left 2
        · intro c29 k29
          refine x_aload_n dX6_stopped_32 rfl rfl ?_
          refine x_getM fl_X6_25 dX6_stopped_33 rfl ?_
          refine x_goto 43 dX6_stopped_36 (by decide) ?_
          exact k29
        · intro c29 k29
          refine x_aload_n dX6_stopped_39 rfl rfl ?_
          refine x_getM fl_X6_194 dX6_stopped_40 rfl ?_
          exact k29
        exact k20
      refine x_iret dX6_stopped_43 rfl (by decide) (by decide) ?_
      exact ⟨rfl, rfl, rfl, rfl⟩
    · skip
      exact absurd h1 (bi_t c6)
  · have e : pStp (φ 8) (φ 9) w = -2 := by unfold pStp; rw [if_neg h1]
    rw [e]
    refine x_iload_n dX6_stopped_0 rfl rfl ?_
    refine x_iconst (nI 0) dX6_stopped_1 (by decide) ?_
    refine x_iconst (nI 1) dX6_stopped_2 (by decide) ?_
    refine x_callSd0 (mt' := mX6_in) (sp_X6_in _ _ _) ktX6_in wl_X6_36 (by decide) dX6_stopped_3 rfl rfl (Nat.le_of_ble_eq_true rfl) ⟨rfl, rfl⟩ (by decide) ?_
    refine x_if_ne 14 dX6_stopped_6 (by decide) (fun c6 => ?_) (fun c6 => ?_)
    · skip
      exact absurd (bi_nt c6) h1
    · skip
      refine x_bipush (-2) dX6_stopped_9 (by decide) ?_
      refine x_goto 43 dX6_stopped_11 (by decide) ?_
      refine x_iret dX6_stopped_43 rfl (by decide) (by decide) ?_
      exact ⟨rfl, rfl, rfl, rfl⟩
theorem lp_X6_undo (hM : Md R) {h : Nat} (hh : φ 3 = nI h) (hh3 : h ≤ 3) {g : GX} {cx : CX} {F : State → Prop} : ∀ (m k : Nat), k + m = 375 → X g cx mX6_undo F (0, 0) 56 [some (.ref 131), some (.int (nI 375))] [] 137 (MM I φ (uz (cpA (fun i => β (375 * h + i)) (zf Z) 375)) α β κ τ) R → X g cx mX6_undo F (0, 0) 22 [some (.ref 131), some (.int (nI k))] [] 137 (MM I φ (uz (cpA (fun i => β (375 * h + i)) (zf Z) k)) α β κ τ) R := by
  intro m
  induction m with
  | zero =>
    intro k hk hx
    obtain rfl : k = 375 := by omega
    refine x_iload_n dX6_undo_22 rfl rfl ?_
    refine x_sipush (nI 375) dX6_undo_23 (by decide) ?_
    refine x_icmp_geN 56 dX6_undo_26 (by decide) (by omega) (by omega) (fun c26 => ?_) (fun c26 => ?_)
    · skip
      exact hx
    · skip
      exact absurd c26 (by omega)
  | succ m ih =>
    intro k hk hx
    refine x_iload_n dX6_undo_22 rfl rfl ?_
    refine x_sipush (nI 375) dX6_undo_23 (by decide) ?_
    refine x_icmp_geN 56 dX6_undo_26 (by decide) (by omega) (by omega) (fun c26 => ?_) (fun c26 => ?_)
    · skip
      exact absurd c26 (by omega)
    · skip
      refine x_aload_n dX6_undo_29 rfl rfl ?_
      refine x_getR fl_X6_7 dX6_undo_30 xk_131 (by decide) rfl (hM 0 _ rfl) ?_
      refine x_iload_n dX6_undo_33 rfl rfl ?_
      refine x_aload_n dX6_undo_34 rfl rfl ?_
      refine x_getR fl_X6_16 dX6_undo_35 xk_131 (by decide) rfl (hM 2 _ rfl) ?_
      refine x_sipush (nI 375) dX6_undo_38 (by decide) ?_
      refine x_aload_n dX6_undo_41 rfl rfl ?_
      refine x_getM fl_X6_40 dX6_undo_42 rfl ?_
      refine x_eqtop (y := nI h) hh ?_
      refine x_imulN dX6_undo_45 ?_
      refine x_iload_n dX6_undo_46 rfl rfl ?_
      refine x_iaddN dX6_undo_47 ?_
      refine x_ldB dX6_undo_48 (by omega) ?_
      refine x_stS (Z' := uz (cpA (fun i => β (375 * h + i)) (zf Z) (k + 1))) dX6_undo_49 (by omega) (by rw [zf_uz, zf_uz]; exact cpA_step) ?_
      refine x_iincN 1 dX6_undo_50 rfl (by decide) (by decide) ?_
      refine x_goto 22 dX6_undo_53 (by decide) ?_
      exact ih (k + 1) (by omega) hx
theorem lp_X6_keep (hM : Md R) {g : GX} {cx : CX} {F : State → Prop} : ∀ (m k : Nat), k + m = 375 → X g cx mX6_keep F (0, 0) 27 [some (.ref 131), some (.int (nI 375))] [] 137 (MM I φ Z α β (cpA (zf Z) κ 375) τ) R → X g cx mX6_keep F (0, 0) 2 [some (.ref 131), some (.int (nI k))] [] 137 (MM I φ Z α β (cpA (zf Z) κ k) τ) R := by
  intro m
  induction m with
  | zero =>
    intro k hk hx
    obtain rfl : k = 375 := by omega
    refine x_iload_n dX6_keep_2 rfl rfl ?_
    refine x_sipush (nI 375) dX6_keep_3 (by decide) ?_
    refine x_icmp_geN 27 dX6_keep_6 (by decide) (by omega) (by omega) (fun c6 => ?_) (fun c6 => ?_)
    · skip
      exact hx
    · skip
      exact absurd c6 (by omega)
  | succ m ih =>
    intro k hk hx
    refine x_iload_n dX6_keep_2 rfl rfl ?_
    refine x_sipush (nI 375) dX6_keep_3 (by decide) ?_
    refine x_icmp_geN 27 dX6_keep_6 (by decide) (by omega) (by omega) (fun c6 => ?_) (fun c6 => ?_)
    · skip
      exact absurd c6 (by omega)
    · skip
      refine x_aload_n dX6_keep_9 rfl rfl ?_
      refine x_getR fl_X6_19 dX6_keep_10 xk_131 (by decide) rfl (hM 4 _ rfl) ?_
      refine x_iload_n dX6_keep_13 rfl rfl ?_
      refine x_aload_n dX6_keep_14 rfl rfl ?_
      refine x_getR fl_X6_7 dX6_keep_15 xk_131 (by decide) rfl (hM 0 _ rfl) ?_
      refine x_iload_n dX6_keep_18 rfl rfl ?_
      refine x_ldS dX6_keep_19 (by omega) rfl ?_
      refine x_stK dX6_keep_20 (by omega) ?_
      refine x_eqI (I' := MM I φ Z α β (cpA (zf Z) κ (k + 1)) τ) (by rw [cpA_step]) ?_
      refine x_iincN 1 dX6_keep_21 rfl (by decide) (by decide) ?_
      refine x_goto 2 dX6_keep_24 (by decide) ?_
      exact ih (k + 1) (by omega) hx
theorem lp_X6_restore (hM : Md R) {g : GX} {cx : CX} {F : State → Prop} : ∀ (m k : Nat), k + m = 375 → X g cx mX6_restore F (0, 0) 41 [some (.ref 131), some (.int (nI 375))] [] 137 (MM I φ (uz (cpA κ (zf Z) 375)) α β κ τ) R → X g cx mX6_restore F (0, 0) 16 [some (.ref 131), some (.int (nI k))] [] 137 (MM I φ (uz (cpA κ (zf Z) k)) α β κ τ) R := by
  intro m
  induction m with
  | zero =>
    intro k hk hx
    obtain rfl : k = 375 := by omega
    refine x_iload_n dX6_restore_16 rfl rfl ?_
    refine x_sipush (nI 375) dX6_restore_17 (by decide) ?_
    refine x_icmp_geN 41 dX6_restore_20 (by decide) (by omega) (by omega) (fun c20 => ?_) (fun c20 => ?_)
    · skip
      exact hx
    · skip
      exact absurd c20 (by omega)
  | succ m ih =>
    intro k hk hx
    refine x_iload_n dX6_restore_16 rfl rfl ?_
    refine x_sipush (nI 375) dX6_restore_17 (by decide) ?_
    refine x_icmp_geN 41 dX6_restore_20 (by decide) (by omega) (by omega) (fun c20 => ?_) (fun c20 => ?_)
    · skip
      exact absurd c20 (by omega)
    · skip
      refine x_aload_n dX6_restore_23 rfl rfl ?_
      refine x_getR fl_X6_7 dX6_restore_24 xk_131 (by decide) rfl (hM 0 _ rfl) ?_
      refine x_iload_n dX6_restore_27 rfl rfl ?_
      refine x_aload_n dX6_restore_28 rfl rfl ?_
      refine x_getR fl_X6_19 dX6_restore_29 xk_131 (by decide) rfl (hM 4 _ rfl) ?_
      refine x_iload_n dX6_restore_32 rfl rfl ?_
      refine x_ldK dX6_restore_33 (by omega) ?_
      refine x_stS (Z' := uz (cpA κ (zf Z) (k + 1))) dX6_restore_34 (by omega) (by rw [zf_uz, zf_uz, cpA_step]) ?_
      refine x_iincN 1 dX6_restore_35 rfl (by decide) (by decide) ?_
      refine x_goto 16 dX6_restore_38 (by decide) ?_
      exact ih (k + 1) (by omega) hx
theorem sp_X6_undo (hM : Md R) {h : Nat} (hh : φ 3 = nI h) (hh4 : h ≤ 4) : Spd mX6_undo [.ref 131] (MM I φ Z α β κ τ) R (some (.int (if h = 0 then -5 else nI (h - 1)))) (if h = 0 then MM I φ Z α β κ τ else MM I (upd φ 3 (nI (h - 1))) (uz (cpA (fun i => β (375 * (h - 1) + i)) (zf Z) 375)) α β κ τ) := by
  refine Spd.mk (by decide +kernel) (by simp [Value.category]) (Nat.le_of_ble_eq_true rfl) (fun g cx => ?_)
  refine x_aload_n dX6_undo_0 rfl rfl ?_
  refine x_getM fl_X6_40 dX6_undo_1 rfl ?_
  refine x_eqtop (y := nI h) hh ?_
  refine x_if_neN 10 dX6_undo_4 (by decide) (by omega) (fun c4 => ?_) (fun c4 => ?_)
  · skip
    rw [if_neg c4, if_neg c4]
    refine x_aload_n dX6_undo_10 rfl rfl ?_
    refine x_dup dX6_undo_11 rfl ?_
    refine x_getM fl_X6_40 dX6_undo_12 rfl ?_
    refine x_eqtop (y := nI h) hh ?_
    refine x_iconst (nI 1) dX6_undo_15 (by decide) ?_
    refine x_isubN dX6_undo_16 (by omega) ?_
    refine x_putM fl_X6_40 fp_6_3 dX6_undo_17 rfl rfl rfl ?_
    refine x_iconst (nI 0) dX6_undo_20 (by decide) ?_
    refine x_istore_n dX6_undo_21 rfl (by decide) ?_
    refine x_eqI (I' := MM I (upd φ 3 (nI (h - 1))) (uz (cpA (fun i => β (375 * (h - 1) + i)) (zf Z) 0)) α β κ τ) (by rw [cpA_0]; unfold MM; rw [zf_uz]) ?_
    refine lp_X6_undo hM (φ := upd φ 3 (nI (h - 1))) (h := h - 1) (by simp [upd]) (by omega) 375 0 rfl ?_
    refine x_aload_n dX6_undo_56 rfl rfl ?_
    refine x_getM fl_X6_40 dX6_undo_57 rfl ?_
    refine x_eqtop (y := nI (h - 1)) (by simp [upd]) ?_
    refine x_iret dX6_undo_60 rfl (by decide) (by decide) ?_
    exact ⟨rfl, rfl, rfl, rfl⟩
  · skip
    rw [if_pos c4, if_pos c4]
    refine x_bipush (-5) dX6_undo_7 (by decide) ?_
    refine x_iret dX6_undo_9 rfl (by decide) (by decide) ?_
    exact ⟨rfl, rfl, rfl, rfl⟩
theorem sp_X6_keep (hM : Md R) : Spd mX6_keep [.ref 131] (MM I φ Z α β κ τ) R (some (.int (Z 8 3))) (MM I (upd φ 5 (nI 1)) Z α β (cpA (zf Z) κ 375) τ) := by
  refine Spd.mk (by decide +kernel) (by simp [Value.category]) (Nat.le_of_ble_eq_true rfl) (fun g cx => ?_)
  refine x_iconst (nI 0) dX6_keep_0 (by decide) ?_
  refine x_istore_n dX6_keep_1 rfl (by decide) ?_
  refine x_eqI (I' := MM I φ Z α β (cpA (zf Z) κ 0) τ) (by rw [cpA_0]) ?_
  refine lp_X6_keep hM 375 0 rfl ?_
  refine x_aload_n dX6_keep_27 rfl rfl ?_
  refine x_iconst (nI 1) dX6_keep_28 (by decide) ?_
  refine x_putM fl_X6_204 fp_6_5 dX6_keep_29 rfl rfl rfl ?_
  refine x_aload_n dX6_keep_32 rfl rfl ?_
  refine x_getR fl_X6_7 dX6_keep_33 xk_131 (by decide) rfl (hM 0 _ rfl) ?_
  refine x_iconst (nI 3) dX6_keep_36 (by decide) ?_
  refine x_ldS dX6_keep_37 (by omega) zf_3 ?_
  refine x_iret dX6_keep_38 rfl (by decide) (by decide) ?_
  exact ⟨rfl, rfl, rfl, rfl⟩
/-- the row that restore brings -/
def pRs (κ : Nat → Int32) (Z : MI) : MI := uz (cpA κ (zf Z) 375)
theorem sp_X6_restore (hM : Md R) {h : Nat} (hh : φ 3 = nI h) (hh4 : h ≤ 4) : Spd mX6_restore [.ref 131] (MM I φ Z α β κ τ) R (some (.int (if φ 5 = 0 then -5 else pRs κ Z 8 3))) (if φ 5 = 0 then MM I φ Z α β κ τ else aM I φ Z α β κ τ h (pRs κ Z 8 3, pRs κ Z)) := by
  refine Spd.mk (by decide +kernel) (by simp [Value.category]) (Nat.le_of_ble_eq_true rfl) (fun g cx => ?_)
  refine x_aload_n dX6_restore_0 rfl rfl ?_
  refine x_getM fl_X6_204 dX6_restore_1 rfl ?_
  refine x_if_ne 10 dX6_restore_4 (by decide) (fun c4 => ?_) (fun c4 => ?_)
  · skip
    rw [if_neg c4, if_neg c4]
    refine x_aload_n dX6_restore_10 rfl rfl ?_
    refine x_callVd0 (mt' := mX6_putAside) (sp_X6_putAside hM) kvX6_putAside wl_X6_122 (by decide) dX6_restore_11 xk_131 (by decide) rfl rfl (Nat.le_of_ble_eq_true rfl) ⟨rfl, rfl⟩ (by decide) ?_
    refine x_iconst (nI 0) dX6_restore_14 (by decide) ?_
    refine x_istore_n dX6_restore_15 rfl (by decide) ?_
    refine x_eqI (I' := MM I φ (uz (cpA κ (zf Z) 0)) (cpA (zf Z) α 375) β κ τ) (by rw [cpA_0]; unfold MM; rw [zf_uz]) ?_
    refine lp_X6_restore hM 375 0 rfl ?_
    refine x_aload_n dX6_restore_41 rfl rfl ?_
    refine x_aload_n dX6_restore_42 rfl rfl ?_
    refine x_getR fl_X6_7 dX6_restore_43 xk_131 (by decide) rfl (hM 0 _ rfl) ?_
    refine x_iconst (nI 3) dX6_restore_46 (by decide) ?_
    refine x_ldS dX6_restore_47 (by omega) zf_3 ?_
    refine x_callVd0 (mt' := mX6_act) (sp_X6_act hM _ hh hh4) kvX6_act wl_X6_129 (by decide) dX6_restore_48 xk_131 (by decide) rfl rfl (Nat.le_of_ble_eq_true rfl) ⟨rfl, rfl⟩ (by decide) ?_
    refine x_iret dX6_restore_51 rfl (by decide) (by decide) ?_
    exact ⟨rfl, rfl, rfl, rfl⟩
  · skip
    rw [if_pos c4, if_pos c4]
    refine x_bipush (-5) dX6_restore_7 (by decide) ?_
    refine x_iret dX6_restore_9 rfl (by decide) (by decide) ?_
    exact ⟨rfl, rfl, rfl, rfl⟩
end ML
