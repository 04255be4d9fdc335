/-! the reference: what the next tick is, and the stuck tick -/
theorem nI_le0 {c : Nat} (h : c < 2 ^ 31) : nI c ≤ 0 ↔ c = 0 := by
  rw [show (0 : Int32) = nI 0 from rfl, nI_leI h (by omega)]; omega
theorem nI_eq0 {c : Nat} (h : c < 2 ^ 31) : nI c = 0 ↔ c = 0 := by
  rw [show (0 : Int32) = nI 0 from rfl, nI_eq h (by omega)]
theorem pNx_eq {Z : MI} {p : Nat} : (if nI (cn (stu Z) 4) ≤ 0 then if Z 8 4 ≤ 0 then if nI (cn (tk Z) 4) = 0 then nI 0 else if bi (decide (p % 9 = 8)) = 0 then nI 1 else nI 2 else nI 3 else nI 4) = nI (pNx Z p) := by
  have h1 := cn_le (stu Z) 4
  have h2 := cn_le (tk Z) 4
  unfold pNx
  by_cases a : cn (stu Z) 4 = 0
  · rw [if_pos ((nI_le0 (by omega)).mpr a), if_neg (show ¬ (cn (stu Z) 4 ≠ 0) from fun q => q a)]
    by_cases b : Z 8 4 ≤ 0
    · rw [if_pos b, if_neg (show ¬ 0 < Z 8 4 by simpa using b)]
      by_cases c : cn (tk Z) 4 = 0
      · rw [if_pos ((nI_eq0 (by omega)).mpr c), if_pos c]
      · rw [if_neg (fun q => c ((nI_eq0 (by omega)).mp q)), if_neg c]
        by_cases d : p % 9 = 8
        · rw [if_pos d, if_neg (by simp [bi, d])]
        · rw [if_neg d, if_pos (by simp [bi, d])]
    · rw [if_neg b, if_pos (show 0 < Z 8 4 by simpa using b)]
  · rw [if_neg (fun q => a ((nI_le0 (by omega)).mp q)), if_pos (show cn (stu Z) 4 ≠ 0 from a)]
/-- listeners behind a stuck tick -/
def pUs (Z : MI) (sh : Bool) (k : Nat) : MI := fun a b => if 4 ≤ a ∧ a < 4 + k ∧ b = 2 then (if sh = true ∨ Z a 2 = 0 then 0 else Z a 2 - 1) else Z a b
theorem pUs_0 {Z : MI} {sh : Bool} : pUs Z sh 0 = Z := by funext a b; simp only [pUs]; rw [if_neg (by omega)]
theorem pUs_ge {Z : MI} {sh : Bool} {k a : Nat} (h : 4 + k ≤ a) : pUs Z sh k a = Z a := by funext b; simp only [pUs]; rw [if_neg (by omega)]
theorem pUs_step {Z : MI} {sh : Bool} {k : Nat} {v : Int32} (h : v = if sh = true ∨ Z (4 + k) 2 = 0 then 0 else Z (4 + k) 2 - 1) : xuI (pUs Z sh k) (4 + k) 2 v = pUs Z sh (k + 1) := by
  subst h
  funext a b
  by_cases h : a = 4 + k ∧ b = 2
  · obtain ⟨rfl, rfl⟩ := h
    rw [xuI_self]
    show _ = (if 4 ≤ 4 + k ∧ 4 + k < 4 + (k + 1) ∧ 2 = 2 then _ else _)
    rw [if_pos (show 4 ≤ 4 + k ∧ 4 + k < 4 + (k + 1) ∧ 2 = 2 from ⟨by omega, by omega, rfl⟩)]
  · rw [xuI_at h]
    simp only [pUs]
    by_cases h2 : 4 ≤ a ∧ a < 4 + k ∧ b = 2
    · rw [if_pos h2, if_pos (show 4 ≤ a ∧ a < 4 + (k + 1) ∧ b = 2 by omega)]
    · rw [if_neg h2, if_neg (show ¬ (4 ≤ a ∧ a < 4 + (k + 1) ∧ b = 2) by omega)]
/-- the end of a stuck tick -/
def pStC (Z : MI) (sh : Bool) : MI := xuI (xuI (pUs Z sh 4) 8 9 (Z 8 9 + (if bi sh = 0 then nI 0 else nI 1))) 8 6 (if bi sh = 0 then Z 8 6 else nI 0)
def pStB (Z : MI) : MI := pStC (xuI Z 8 6 (Z 8 6 + nI 1)) (decide (Z 8 2 ≤ Z 8 6 + nI 1))
def pStA (Z : MI) (p : Nat) : MI := if cn (tk Z) 4 = 0 then xuI Z 8 5 (nI 0) else if Z 8 4 = 0 ∧ ¬ p % 9 = 8 then pEn (pLo Z p 4) else Z
def pSt (Z : MI) (p : Nat) : MI := pStB (pStA Z p)
theorem us_v {x : Int32} {sh : Bool} (h : sh = false) : (if x = 0 then nI 0 else x - nI 1) = if sh = true ∨ x = 0 then 0 else x - 1 := by
  subst h
  by_cases hx : x = 0
  · rw [if_pos hx, if_pos (Or.inr hx)]; rfl
  · rw [if_neg hx, if_neg (by simp [hx])]; rfl
theorem bi_nt {b : Bool} (h : ¬ bi b = 0) : b = true := by cases b with | true => rfl | false => exact absurd rfl h
section ML
variable {I : MI} {R : MR} {φ α β κ τ : Nat → Int32} {Z : MI}
theorem sp_X6_next (hM : Md R) {p : Nat} (hz : Z 8 7 = nI p) (hp : p < 27) : Spd mX6_next [.ref 131] (MM I φ Z α β κ τ) R (some (.int (nI (pNx Z p)))) (MM I φ Z α β κ τ) := by
  refine Spd.mk (by decide +kernel) (by simp [Value.category]) (Nat.le_of_ble_eq_true rfl) (fun g cx => ?_)
  refine x_aload_n dX6_next_0 rfl rfl ?_
  refine x_callVd0 (mt' := mX6_stuck) (sp_X6_stuck hM) kvX6_stuck wl_X6_88 (by decide) dX6_next_1 xk_131 (by decide) rfl rfl (Nat.le_of_ble_eq_true rfl) ⟨rfl, rfl⟩ (by decide) ?_
  refine' x_dia_if_le 11 54 dX6_next_4 (by decide) ?_ ?_ ?_; rotate_left 2
  · intro c4 k4
    refine x_iconst (nI 4) dX6_next_7 (by decide) ?_
    refine x_goto 54 dX6_next_8 (by decide) ?_
    exact k4
  · intro c4 k4
    refine x_aload_n dX6_next_11 rfl rfl ?_
    refine x_getR fl_X6_7 dX6_next_12 xk_131 (by decide) rfl (hM 0 _ rfl) ?_
    refine x_bipush (nI 112) dX6_next_15 (by decide) ?_
    refine x_ldS dX6_next_17 (by omega) zf_112 ?_
    refine' x_dia_if_le 25 54 dX6_next_18 (by decide) ?_ ?_ ?_; rotate_left 2
    · intro c18 k18
      refine x_iconst (nI 3) dX6_next_21 (by decide) ?_
      refine x_goto 54 dX6_next_22 (by decide) ?_
      exact k18
    · intro c18 k18
      refine x_aload_n dX6_next_25 rfl rfl ?_
      refine x_callVd0 (mt' := mX6_talking) (sp_X6_talking hM) kvX6_talking wl_X6_54 (by decide) dX6_next_26 xk_131 (by decide) rfl rfl (Nat.le_of_ble_eq_true rfl) ⟨rfl, rfl⟩ (by decide) ?_
      refine' x_dia_if_ne 36 54 dX6_next_29 (by decide) ?_ ?_ ?_; rotate_left 2
      · intro c29 k29
        refine x_iconst (nI 0) dX6_next_32 (by decide) ?_
        refine x_goto 54 dX6_next_33 (by decide) ?_
        exact k29
      · intro c29 k29
        refine x_aload_n dX6_next_36 rfl rfl ?_
        refine x_getR fl_X6_7 dX6_next_37 xk_131 (by decide) rfl (hM 0 _ rfl) ?_
        refine x_bipush (nI 115) dX6_next_40 (by decide) ?_
        refine x_ldS dX6_next_42 (by omega) zf_115 ?_
        refine x_eqtop (y := nI p) hz ?_
        refine x_callSd0 (mt' := mX6_isAnswer) (sp_X6_isAnswer (by omega)) ktX6_isAnswer wl_X6_58 (by decide) dX6_next_43 rfl rfl (Nat.le_of_ble_eq_true rfl) ⟨rfl, rfl⟩ (by decide) ?_
        refine' x_dia_if_eq 53 54 dX6_next_46 (by decide) ?_ ?_ ?_; rotate_left 2
        · intro c46 k46
          refine x_iconst (nI 2) dX6_next_49 (by decide) ?_
          refine x_goto 54 dX6_next_50 (by decide) ?_
          exact k46
        · intro c46 k46
          refine x_iconst (nI 1) dX6_next_53 (by decide) ?_
          exact k46
        exact k29
      exact k18
    exact k4
  refine x_eqtop pNx_eq ?_
  refine x_iret dX6_next_54 rfl (by decide) (by decide) ?_
  exact ⟨rfl, rfl, rfl, rfl⟩
theorem lp_X6_tickStuck (hM : Md R) {sh : Bool} {g : GX} {cx : CX} {F : State → Prop} : ∀ (m k : Nat), k + m = 4 → X g cx mX6_tickStuck F (0, 0) 132 [some (.ref 131), some (.int (bi sh)), some (.int (nI 4)), none] [] 137 (MM I φ (pUs Z sh 4) α β κ τ) R → X g cx mX6_tickStuck F (0, 0) 85 [some (.ref 131), some (.int (bi sh)), some (.int (nI k)), none] [] 137 (MM I φ (pUs Z sh k) α β κ τ) R := by
  intro m
  induction m with
  | zero =>
    intro k hk hx
    obtain rfl : k = 4 := by omega
    refine x_iload_n dX6_tickStuck_85 rfl rfl ?_
    refine x_iconst (nI 4) dX6_tickStuck_86 (by decide) ?_
    refine x_icmp_geN 132 dX6_tickStuck_87 (by decide) (by omega) (by omega) (fun c87 => ?_) (fun c87 => ?_)
    · skip
      exact hx
    · skip
      exact absurd c87 (by omega)
  | succ m ih =>
    intro k hk hx
    refine x_iload_n dX6_tickStuck_85 rfl rfl ?_
    refine x_iconst (nI 4) dX6_tickStuck_86 (by decide) ?_
    refine x_icmp_geN 132 dX6_tickStuck_87 (by decide) (by omega) (by omega) (fun c87 => ?_) (fun c87 => ?_)
    · skip
      exact absurd c87 (by omega)
    · skip
      refine x_aload_n dX6_tickStuck_90 rfl rfl ?_
      refine x_getR fl_X6_7 dX6_tickStuck_91 xk_131 (by decide) rfl (hM 0 _ rfl) ?_
      refine x_iload_n dX6_tickStuck_94 rfl rfl ?_
      refine x_iconst (nI 2) dX6_tickStuck_95 (by decide) ?_
      refine x_callSd0 (mt' := mX6_ofListener) (sp_X6_ofListener _ _) ktX6_ofListener wl_X6_29 (by decide) dX6_tickStuck_96 rfl rfl (Nat.le_of_ble_eq_true rfl) ⟨rfl, rfl⟩ (by decide) ?_
      refine x_ldS dX6_tickStuck_99 (by omega) (zf_li (by omega) (by omega)) ?_
      refine x_eqtop (y := Z (4 + k) 2) (by rw [pUs_ge (Nat.le_refl _)]) ?_
      refine x_istore_n dX6_tickStuck_100 rfl (by decide) ?_
      refine x_aload_n dX6_tickStuck_101 rfl rfl ?_
      refine x_getR fl_X6_7 dX6_tickStuck_102 xk_131 (by decide) rfl (hM 0 _ rfl) ?_
      refine x_iload_n dX6_tickStuck_105 rfl rfl ?_
      refine x_iconst (nI 2) dX6_tickStuck_106 (by decide) ?_
      refine x_callSd0 (mt' := mX6_ofListener) (sp_X6_ofListener _ _) ktX6_ofListener wl_X6_29 (by decide) dX6_tickStuck_107 rfl rfl (Nat.le_of_ble_eq_true rfl) ⟨rfl, rfl⟩ (by decide) ?_
      refine x_iload_n dX6_tickStuck_110 rfl rfl ?_
      refine x_if_ne 118 dX6_tickStuck_111 (by decide) (fun c111 => ?_) (fun c111 => ?_)
      · skip
        refine x_iconst (nI 0) dX6_tickStuck_118 (by decide) ?_
        refine x_goto 125 dX6_tickStuck_119 (by decide) ?_
        refine x_stS dX6_tickStuck_125 (by omega) (zf_uli (by omega) (by omega)) ?_
        refine x_eqI (I' := MM I φ (pUs Z sh (k + 1)) α β κ τ) (by first | rw [pUs_step (show nI 0 = _ by rw [if_pos (Or.inl (bi_nt c111))]; rfl)] | rw [pUs_step (us_v (bi_0.mp c111))]) ?_
        refine x_iincN 1 dX6_tickStuck_126 rfl (by decide) (by decide) ?_
        refine x_goto 85 dX6_tickStuck_129 (by decide) ?_
        refine x_weak [some (.ref 131), some (.int (bi sh)), some (.int (nI (k + 1))), none] rfl (fun i v h => ?_) (ih (k + 1) (by omega) hx)
        rcases i with _ | _ | _ | _ | i <;> first | exact h | (simp at h)
      · skip
        refine x_iload_n dX6_tickStuck_114 rfl rfl ?_
        refine' x_dia_if_ne 122 125 dX6_tickStuck_115 (by decide) ?_ ?_ ?_; rotate_left 2
        · intro c115 k115
          refine x_iconst (nI 0) dX6_tickStuck_118 (by decide) ?_
          refine x_goto 125 dX6_tickStuck_119 (by decide) ?_
          exact k115
        · intro c115 k115
          refine x_iload_n dX6_tickStuck_122 rfl rfl ?_
          refine x_iconst (nI 1) dX6_tickStuck_123 (by decide) ?_
          refine x_isub dX6_tickStuck_124 ?_
          exact k115
        refine x_stS dX6_tickStuck_125 (by omega) (zf_uli (by omega) (by omega)) ?_
        refine x_eqI (I' := MM I φ (pUs Z sh (k + 1)) α β κ τ) (by first | rw [pUs_step (show nI 0 = _ by rw [if_pos (Or.inl (bi_nt c111))]; rfl)] | rw [pUs_step (us_v (bi_0.mp c111))]) ?_
        refine x_iincN 1 dX6_tickStuck_126 rfl (by decide) (by decide) ?_
        refine x_goto 85 dX6_tickStuck_129 (by decide) ?_
        refine x_weak [some (.ref 131), some (.int (bi sh)), some (.int (nI (k + 1))), none] rfl (fun i v h => ?_) (ih (k + 1) (by omega) hx)
        rcases i with _ | _ | _ | _ | i <;> first | exact h | (simp at h)
theorem st_sh (x y : Int32) : (if x < y then nI 0 else nI 1) = bi (decide (y ≤ x)) := by
  unfold bi
  by_cases h : x < y
  · rw [if_pos h, if_neg (by simpa using h)]; rfl
  · rw [if_neg h, if_pos (by simpa using h)]; rfl
theorem tl_X6_tickStuck (hM : Md R) {v w u : Option Value} {g : GX} {cx : CX} : X g cx mX6_tickStuck (xF g cx mX6_tickStuck (fun r n I2 R2 => r = none ∧ n = 137 ∧ I2 = MM I φ (pStB Z) α β κ τ ∧ R2 = R)) (0, 0) 50 [some (.ref 131), v, w, u] [] 137 (MM I φ Z α β κ τ) R := by
  refine x_aload_n dX6_tickStuck_50 rfl rfl ?_
  refine x_getR fl_X6_7 dX6_tickStuck_51 xk_131 (by decide) rfl (hM 0 _ rfl) ?_
  refine x_bipush (nI 114) dX6_tickStuck_54 (by decide) ?_
  refine x_dup2 dX6_tickStuck_56 rfl rfl ?_
  refine x_ldS dX6_tickStuck_57 (by omega) zf_114 ?_
  refine x_iconst (nI 1) dX6_tickStuck_58 (by decide) ?_
  refine x_iadd dX6_tickStuck_59 ?_
  refine x_stS dX6_tickStuck_60 (by omega) zf_u114 ?_
  refine x_aload_n dX6_tickStuck_61 rfl rfl ?_
  refine x_getR fl_X6_7 dX6_tickStuck_62 xk_131 (by decide) rfl (hM 0 _ rfl) ?_
  refine x_bipush (nI 114) dX6_tickStuck_65 (by decide) ?_
  refine x_ldS dX6_tickStuck_67 (by omega) zf_114 ?_
  refine x_eqtop (y := Z 8 6 + nI 1) (by rw [xuI_self]) ?_
  refine x_aload_n dX6_tickStuck_68 rfl rfl ?_
  refine x_getR fl_X6_7 dX6_tickStuck_69 xk_131 (by decide) rfl (hM 0 _ rfl) ?_
  refine x_iconst (nI 2) dX6_tickStuck_72 (by decide) ?_
  refine x_ldS dX6_tickStuck_73 (by omega) (zf_se (by omega)) ?_
  refine x_eqtop (y := Z 8 2) (by simp [xuI]) ?_
  refine' x_dia_icmp_lt 81 82 dX6_tickStuck_74 (by decide) ?_ ?_ ?_; rotate_left 2
  · intro c74 k74
    refine x_iconst (nI 1) dX6_tickStuck_77 (by decide) ?_
    refine x_goto 82 dX6_tickStuck_78 (by decide) ?_
    exact k74
  · intro c74 k74
    refine x_iconst (nI 0) dX6_tickStuck_81 (by decide) ?_
    exact k74
  refine x_eqtop (y := bi (decide (Z 8 2 ≤ Z 8 6 + nI 1))) (st_sh _ _) ?_
  refine x_istore_n dX6_tickStuck_82 rfl (by decide) ?_
  refine x_iconst (nI 0) dX6_tickStuck_83 (by decide) ?_
  refine x_istore_n dX6_tickStuck_84 rfl (by decide) ?_
  generalize hS : decide (Z 8 2 ≤ Z 8 6 + nI 1) = sh
  generalize hY : xuI Z 8 6 (Z 8 6 + nI 1) = Y
  have hB : pStB Z = pStC Y sh := by unfold pStB; rw [hS, hY]
  rw [hB]
  refine x_weak [some (.ref 131), some (.int (bi sh)), some (.int (nI 0)), none] rfl (fun i v h => by rcases i with _ | _ | _ | _ | i <;> first | exact h | (simp at h)) ?_
  refine x_eqI (I' := MM I φ (pUs Y sh 0) α β κ τ) (by rw [pUs_0]) ?_
  refine lp_X6_tickStuck hM 4 0 rfl ?_
  refine x_aload_n dX6_tickStuck_132 rfl rfl ?_
  refine x_getR fl_X6_7 dX6_tickStuck_133 xk_131 (by decide) rfl (hM 0 _ rfl) ?_
  refine x_bipush (nI 117) dX6_tickStuck_136 (by decide) ?_
  refine x_dup2 dX6_tickStuck_138 rfl rfl ?_
  refine x_ldS dX6_tickStuck_139 (by omega) zf_117 ?_
  refine x_iload_n dX6_tickStuck_140 rfl rfl ?_
  refine' x_dia_if_eq 148 149 dX6_tickStuck_141 (by decide) ?_ ?_ ?_; rotate_left 2
  · intro c141 k141
    refine x_iconst (nI 1) dX6_tickStuck_144 (by decide) ?_
    refine x_goto 149 dX6_tickStuck_145 (by decide) ?_
    exact k141
  · intro c141 k141
    refine x_iconst (nI 0) dX6_tickStuck_148 (by decide) ?_
    exact k141
  refine x_iadd dX6_tickStuck_149 ?_
  refine x_stS dX6_tickStuck_150 (by omega) zf_u117 ?_
  refine x_aload_n dX6_tickStuck_151 rfl rfl ?_
  refine x_getR fl_X6_7 dX6_tickStuck_152 xk_131 (by decide) rfl (hM 0 _ rfl) ?_
  refine x_bipush (nI 114) dX6_tickStuck_155 (by decide) ?_
  refine x_iload_n dX6_tickStuck_157 rfl rfl ?_
  refine' x_dia_if_eq 165 172 dX6_tickStuck_158 (by decide) ?_ ?_ ?_; rotate_left 2
  · intro c158 k158
    refine x_iconst (nI 0) dX6_tickStuck_161 (by decide) ?_
    refine x_goto 172 dX6_tickStuck_162 (by decide) ?_
    exact k158
  · intro c158 k158
    refine x_aload_n dX6_tickStuck_165 rfl rfl ?_
    refine x_getR fl_X6_7 dX6_tickStuck_166 xk_131 (by decide) rfl (hM 0 _ rfl) ?_
    refine x_bipush (nI 114) dX6_tickStuck_169 (by decide) ?_
    refine x_ldS dX6_tickStuck_171 (by omega) zf_114 ?_
    exact k158
  refine x_stS dX6_tickStuck_172 (by omega) zf_u114 ?_
  refine x_vret dX6_tickStuck_173 rfl (by decide) (by decide) ?_
  exact ⟨rfl, rfl, rfl, rfl⟩
theorem sp_X6_tickStuck (hM : Md R) {p : Nat} (hz : Z 8 7 = nI p) (hp : p < 27) : Spd mX6_tickStuck [.ref 131] (MM I φ Z α β κ τ) R none (MM I φ (pSt Z p) α β κ τ) := by
  refine Spd.mk (by decide +kernel) (by simp [Value.category]) (Nat.le_of_ble_eq_true rfl) (fun g cx => ?_)
  have hb := cn_le (tk Z) 4
  refine x_aload_n dX6_tickStuck_0 rfl rfl ?_
  refine x_callVd0 (mt' := mX6_talking) (sp_X6_talking hM) kvX6_talking wl_X6_54 (by decide) dX6_tickStuck_1 xk_131 (by decide) rfl rfl (Nat.le_of_ble_eq_true rfl) ⟨rfl, rfl⟩ (by decide) ?_
  refine x_if_neN 18 dX6_tickStuck_4 (by decide) (by omega) (fun c4 => ?_) (fun c4 => ?_)
  · skip
    refine x_aload_n dX6_tickStuck_18 rfl rfl ?_
    refine x_getR fl_X6_7 dX6_tickStuck_19 xk_131 (by decide) rfl (hM 0 _ rfl) ?_
    refine x_bipush (nI 112) dX6_tickStuck_22 (by decide) ?_
    refine x_ldS dX6_tickStuck_24 (by omega) zf_112 ?_
    refine x_if_ne 50 dX6_tickStuck_25 (by decide) (fun c25 => ?_) (fun c25 => ?_)
    · skip
      refine x_eqI (I' := MM I φ (pStA Z p) α β κ τ) ?_ (tl_X6_tickStuck hM)
      congr 1
      unfold pStA
      first | rw [if_pos c4] | (rw [if_neg c4, if_neg (fun q => c25 q.1)]) | (rw [if_neg c4, if_neg (fun q => q.2 (by simpa [bi] using c38))]) | (rw [if_neg c4, if_pos ⟨c25, by simpa [bi] using c38⟩])
    · skip
      refine x_aload_n dX6_tickStuck_28 rfl rfl ?_
      refine x_getR fl_X6_7 dX6_tickStuck_29 xk_131 (by decide) rfl (hM 0 _ rfl) ?_
      refine x_bipush (nI 115) dX6_tickStuck_32 (by decide) ?_
      refine x_ldS dX6_tickStuck_34 (by omega) zf_115 ?_
      refine x_eqtop (y := nI p) hz ?_
      refine x_callSd0 (mt' := mX6_isAnswer) (sp_X6_isAnswer (by omega)) ktX6_isAnswer wl_X6_58 (by decide) dX6_tickStuck_35 rfl rfl (Nat.le_of_ble_eq_true rfl) ⟨rfl, rfl⟩ (by decide) ?_
      refine x_if_ne 50 dX6_tickStuck_38 (by decide) (fun c38 => ?_) (fun c38 => ?_)
      · skip
        refine x_eqI (I' := MM I φ (pStA Z p) α β κ τ) ?_ (tl_X6_tickStuck hM)
        congr 1
        unfold pStA
        first | rw [if_pos c4] | (rw [if_neg c4, if_neg (fun q => c25 q.1)]) | (rw [if_neg c4, if_neg (fun q => q.2 (by simpa [bi] using c38))]) | (rw [if_neg c4, if_pos ⟨c25, by simpa [bi] using c38⟩])
      · skip
        refine x_aload_n dX6_tickStuck_41 rfl rfl ?_
        refine x_callVd0 (mt' := mX6_lose) (sp_X6_lose hM (by assumption) (by omega)) kvX6_lose wl_X6_61 (by decide) dX6_tickStuck_42 xk_131 (by decide) rfl rfl (Nat.le_of_ble_eq_true rfl) ⟨rfl, rfl⟩ (by decide) ?_
        refine x_istore_n dX6_tickStuck_45 rfl (by decide) ?_
        refine x_aload_n dX6_tickStuck_46 rfl rfl ?_
        refine x_callVd0 (mt' := mX6_endsIfEmpty) (sp_X6_endsIfEmpty hM) kvX6_endsIfEmpty wl_X6_64 (by decide) dX6_tickStuck_47 xk_131 (by decide) rfl rfl (Nat.le_of_ble_eq_true rfl) ⟨rfl, rfl⟩ (by decide) ?_
        refine x_eqI (I' := MM I φ (pStA Z p) α β κ τ) ?_ (tl_X6_tickStuck hM)
        congr 1
        unfold pStA
        first | rw [if_pos c4] | (rw [if_neg c4, if_neg (fun q => c25 q.1)]) | (rw [if_neg c4, if_neg (fun q => q.2 (by simpa [bi] using c38))]) | (rw [if_neg c4, if_pos ⟨c25, by simpa [bi] using c38⟩])
  · skip
    refine x_aload_n dX6_tickStuck_7 rfl rfl ?_
    refine x_getR fl_X6_7 dX6_tickStuck_8 xk_131 (by decide) rfl (hM 0 _ rfl) ?_
    refine x_bipush (nI 113) dX6_tickStuck_11 (by decide) ?_
    refine x_iconst (nI 0) dX6_tickStuck_13 (by decide) ?_
    refine x_stS dX6_tickStuck_14 (by omega) zf_u113 ?_
    refine x_goto 50 dX6_tickStuck_15 (by decide) ?_
    refine x_eqI (I' := MM I φ (pStA Z p) α β κ τ) ?_ (tl_X6_tickStuck hM)
    congr 1
    unfold pStA
    first | rw [if_pos c4] | (rw [if_neg c4, if_neg (fun q => c25 q.1)]) | (rw [if_neg c4, if_neg (fun q => q.2 (by simpa [bi] using c38))]) | (rw [if_neg c4, if_pos ⟨c25, by simpa [bi] using c38⟩])
end ML
