/-! the reference: winners. Sets of speakers as masks -/
def mk (p : Nat → Bool) : Nat → Int32
  | 0 => nI 0
  | k + 1 => mk p k ||| (if p k = true then nI 1 <<< (nI k &&& 31) else nI 0)
def m4 (a b c d : Bool) : Int32 := (((nI 0 ||| (if a = true then nI 1 <<< (nI 0 &&& 31) else nI 0)) ||| (if b = true then nI 1 <<< (nI 1 &&& 31) else nI 0)) ||| (if c = true then nI 1 <<< (nI 2 &&& 31) else nI 0)) ||| (if d = true then nI 1 <<< (nI 3 &&& 31) else nI 0)
theorem mk_m4 (p : Nat → Bool) : mk p 4 = m4 (p 0) (p 1) (p 2) (p 3) := rfl
theorem m4_bit : ∀ a b c d : Bool, (m4 a b c d >>> (nI 0 &&& 31) &&& nI 1 = bi a) ∧ (m4 a b c d >>> (nI 1 &&& 31) &&& nI 1 = bi b) ∧ (m4 a b c d >>> (nI 2 &&& 31) &&& nI 1 = bi c) ∧ (m4 a b c d >>> (nI 3 &&& 31) &&& nI 1 = bi d) := by decide +kernel
theorem mk_bit (p : Nat → Bool) {k : Nat} (hk : k < 4) : mk p 4 >>> (nI k &&& 31) &&& nI 1 = bi (p k) := by
  rw [mk_m4]
  obtain ⟨h0, h1, h2, h3⟩ := m4_bit (p 0) (p 1) (p 2) (p 3)
  rcases (show k = 0 ∨ k = 1 ∨ k = 2 ∨ k = 3 by omega) with rfl | rfl | rfl | rfl
  · exact h0
  · exact h1
  · exact h2
  · exact h3
theorem m4_zero : ∀ a b c d : Bool, m4 a b c d = 0 ↔ (a || b || c || d) = false := by decide +kernel
def any4 (p : Nat → Bool) : Bool := p 0 || p 1 || p 2 || p 3
theorem mk_zero (p : Nat → Bool) : mk p 4 = 0 ↔ any4 p = false := m4_zero _ _ _ _
theorem m4_not : ∀ a b c d e f g h : Bool, m4 a b c d &&& (m4 e f g h ^^^ -1) = m4 (a && !e) (b && !f) (c && !g) (d && !h) := by decide +kernel
theorem mk_not (p q : Nat → Bool) : mk p 4 &&& (mk q 4 ^^^ -1) = mk (fun k => p k && !q k) 4 := by rw [mk_m4, mk_m4, mk_m4]; exact m4_not _ _ _ _ _ _ _ _
theorem m4_and1 : ∀ a b c d : Bool, m4 a b c d &&& (-1) = m4 a b c d := by decide +kernel
theorem mk_and1 (p : Nat → Bool) : mk p 4 &&& (-1) = mk p 4 := by rw [mk_m4]; exact m4_and1 _ _ _ _
theorem mk_congr {p q : Nat → Bool} {n : Nat} (h : ∀ j, j < n → p j = q j) : mk p n = mk q n := by
  induction n with
  | zero => rfl
  | succ n ih => show mk p n ||| _ = mk q n ||| _; rw [ih (fun j hj => h j (by omega)), h n (by omega)]
def hasM (Z : MI) (k : Nat) : Bool := decide (¬ Z k 0 ≤ 0)
def wIs (Z : MI) (p : Nat) (b : Nat → Bool) (k : Nat) : Bool := b k && (!decide (p % 9 = 8) && decide (p < pBits (Z k 9)))
def wLo (Z : MI) (p : Nat) (b : Nat → Bool) (k : Nat) : Bool := wIs Z p b k && decide (pBit Z k p = 0)
def wHi (Z : MI) (p : Nat) (b : Nat → Bool) (k : Nat) : Bool := wIs Z p b k && decide (pBit Z k p = 1)
def pWs (Z : MI) : Nat → Nat → Bool
  | 0 => hasM Z
  | p + 1 => if any4 (wLo Z p (pWs Z p)) = true then (fun k => pWs Z p k && !wHi Z p (pWs Z p) k) else pWs Z p
theorem wIs_eq {Z : MI} {p k : Nat} {b : Nat → Bool} (hk : k < 4) : (if mk b 4 >>> (nI k &&& 31) &&& nI 1 = nI 1 then if bi (decide (p % 9 = 8)) = 0 then if pBits (Z k 9) ≤ p then nI 0 else nI 1 else nI 0 else nI 0) = bi (wIs Z p b k) := by
  rw [mk_bit b hk]
  unfold wIs
  cases hb : b k with
  | false => rw [if_neg (by decide)]; rfl
  | true =>
    rw [if_pos (by decide), Bool.true_and]
    by_cases h9 : p % 9 = 8
    · rw [if_neg (by rw [decide_eq_true h9]; decide), decide_eq_true h9]; rfl
    · rw [if_pos (by rw [decide_eq_false h9]; rfl), decide_eq_false h9]
      by_cases h : pBits (Z k 9) ≤ p
      · rw [if_pos h, decide_eq_false (by omega)]; rfl
      · rw [if_neg h, decide_eq_true (by omega)]; rfl
theorem wLo_eq {Z : MI} {p k : Nat} {b : Nat → Bool} {v : Int32} : (if bi (wIs Z p b k) = 0 then nI 0 else if pBit Z k p = 0 then v else nI 0) = if wLo Z p b k = true then v else nI 0 := by
  unfold wLo
  cases wIs Z p b k with
  | false => rfl
  | true =>
    rw [if_neg (by decide), Bool.true_and]
    by_cases h : pBit Z k p = 0
    · rw [if_pos h, if_pos (decide_eq_true h)]
    · rw [if_neg h, if_neg (by simpa using h)]
theorem wHi_eq {Z : MI} {p k : Nat} {b : Nat → Bool} {v : Int32} : (if bi (wIs Z p b k) = 0 then nI 0 else if pBit Z k p = nI 1 then v else nI 0) = if wHi Z p b k = true then v else nI 0 := by
  unfold wHi
  cases wIs Z p b k with
  | false => rfl
  | true =>
    rw [if_neg (by decide), Bool.true_and]
    by_cases h : pBit Z k p = 1
    · rw [if_pos (show pBit Z k p = nI 1 from h), if_pos (decide_eq_true h)]
    · rw [if_neg (show ¬ pBit Z k p = nI 1 from h), if_neg (by simpa using h)]
theorem hM_eq {Z : MI} {k : Nat} {v : Int32} : (if Z k 0 ≤ 0 then nI 0 else v) = if hasM Z k = true then v else nI 0 := by
  unfold hasM
  by_cases h : Z k 0 ≤ 0
  · rw [if_pos h, if_neg (by simpa using h)]
  · rw [if_neg h, if_pos (by simpa using h)]
theorem pWs_step {Z : MI} {p : Nat} : mk (pWs Z p) 4 &&& (if mk (wLo Z p (pWs Z p)) 4 = 0 then -1 else mk (wHi Z p (pWs Z p)) 4 ^^^ -1) = mk (pWs Z (p + 1)) 4 := by
  show _ = mk (if any4 (wLo Z p (pWs Z p)) = true then (fun k => pWs Z p k && !wHi Z p (pWs Z p) k) else pWs Z p) 4
  by_cases h : mk (wLo Z p (pWs Z p)) 4 = 0
  · rw [if_pos h, mk_and1, if_neg (by rw [(mk_zero _).mp h]; decide)]
  · rw [if_neg h, mk_not, if_pos (by cases e : any4 (wLo Z p (pWs Z p)) with | true => rfl | false => exact absurd ((mk_zero _).mpr e) h)]
section ML
variable {I : MI} {R : MR} {φ α β κ τ : Nat → Int32} {Z : MI}
theorem lp_X6_win1 (hM : Md R) {g : GX} {cx : CX} {F : State → Prop} : ∀ (m k : Nat), k + m = 4 → X g cx mX6_winners F (0, 0) 38 [some (.ref 131), some (.int (mk (hasM Z) 4)), some (.int (nI 4)), none, none, none, none] [] 137 (MM I φ Z α β κ τ) R → X g cx mX6_winners F (0, 0) 4 [some (.ref 131), some (.int (mk (hasM Z) k)), some (.int (nI k)), none, none, none, none] [] 137 (MM I φ Z α β κ τ) R := by
  intro m
  induction m with
  | zero =>
    intro k hk hx
    obtain rfl : k = 4 := by omega
    refine x_iload_n dX6_winners_4 rfl rfl ?_
    refine x_iconst (nI 4) dX6_winners_5 (by decide) ?_
    refine x_icmp_geN 38 dX6_winners_6 (by decide) (by omega) (by omega) (fun c6 => ?_) (fun c6 => ?_)
    · skip
      exact hx
    · skip
      exact absurd c6 (by omega)
  | succ m ih =>
    intro k hk hx
    refine x_iload_n dX6_winners_4 rfl rfl ?_
    refine x_iconst (nI 4) dX6_winners_5 (by decide) ?_
    refine x_icmp_geN 38 dX6_winners_6 (by decide) (by omega) (by omega) (fun c6 => ?_) (fun c6 => ?_)
    · skip
      exact absurd c6 (by omega)
    · skip
      refine x_iload_n dX6_winners_9 rfl rfl ?_
      refine x_aload_n dX6_winners_10 rfl rfl ?_
      refine x_getR fl_X6_7 dX6_winners_11 xk_131 (by decide) rfl (hM 0 _ rfl) ?_
      refine x_iload_n dX6_winners_14 rfl rfl ?_
      refine x_iconst (nI 0) dX6_winners_15 (by decide) ?_
      refine x_callSd0 (mt' := mX6_of) (sp_X6_of _ _) ktX6_of wl_X6_33 (by decide) dX6_winners_16 rfl rfl (Nat.le_of_ble_eq_true rfl) ⟨rfl, rfl⟩ (by decide) ?_
      refine x_ldS dX6_winners_19 (by omega) (zf_sp (by omega) (by omega)) ?_
      refine' x_dia_if_le 29 30 dX6_winners_20 (by decide) ?_ ?_ ?_; rotate_left 2
      · intro c20 k20
        refine x_iconst (nI 1) dX6_winners_23 (by decide) ?_
        refine x_iload_n dX6_winners_24 rfl rfl ?_
        refine x_ishl dX6_winners_25 ?_
        refine x_goto 30 dX6_winners_26 (by decide) ?_
        exact k20
      · intro c20 k20
        refine x_iconst (nI 0) dX6_winners_29 (by decide) ?_
        exact k20
      refine x_eqtop hM_eq ?_
      refine x_ior dX6_winners_30 ?_
      refine x_istore_n dX6_winners_31 rfl (by decide) ?_
      refine x_iincN 1 dX6_winners_32 rfl (by decide) (by decide) ?_
      refine x_goto 4 dX6_winners_35 (by decide) ?_
      exact ih (k + 1) (by omega) hx
theorem lp_X6_win2 (hM : Md R) {p : Nat} (hp : p < 27) {b : Nat → Bool} {g : GX} {cx : CX} {F : State → Prop} : ∀ (m k : Nat), k + m = 4 → X g cx mX6_winners F (0, 0) 160 [some (.ref 131), some (.int (mk b 4)), some (.int (nI p)), some (.int (mk (wLo Z p b) 4)), some (.int (mk (wHi Z p b) 4)), some (.int (nI 4)), none] [] 137 (MM I φ Z α β κ τ) R → X g cx mX6_winners F (0, 0) 54 [some (.ref 131), some (.int (mk b 4)), some (.int (nI p)), some (.int (mk (wLo Z p b) k)), some (.int (mk (wHi Z p b) k)), some (.int (nI k)), none] [] 137 (MM I φ Z α β κ τ) R := by
  intro m
  induction m with
  | zero =>
    intro k hk hx
    obtain rfl : k = 4 := by omega
    refine x_iload dX6_winners_54 rfl ?_
    refine x_iconst (nI 4) dX6_winners_56 (by decide) ?_
    refine x_icmp_geN 160 dX6_winners_57 (by decide) (by omega) (by omega) (fun c57 => ?_) (fun c57 => ?_)
    · skip
      exact hx
    · skip
      exact absurd c57 (by omega)
  | succ m ih =>
    intro k hk hx
    refine x_iload dX6_winners_54 rfl ?_
    refine x_iconst (nI 4) dX6_winners_56 (by decide) ?_
    refine x_icmp_geN 160 dX6_winners_57 (by decide) (by omega) (by omega) (fun c57 => ?_) (fun c57 => ?_)
    · skip
      exact absurd c57 (by omega)
    · skip
      refine x_iload_n dX6_winners_60 rfl rfl ?_
      refine x_iload dX6_winners_61 rfl ?_
      refine x_ishr dX6_winners_63 ?_
      refine x_iconst (nI 1) dX6_winners_64 (by decide) ?_
      refine x_iand dX6_winners_65 ?_
      refine x_iconst (nI 1) dX6_winners_66 (by decide) ?_
      refine' x_dia_icmp_ne 96 97 dX6_winners_67 (by decide) ?_ ?_ ?_; rotate_left 2
      · intro c67 k67
        have hbb := pBits_le (Z k (7 + 3 * 0 + 2))
        refine x_iload_n dX6_winners_70 rfl rfl ?_
        refine x_callSd0 (mt' := mX6_isAnswer) (sp_X6_isAnswer (by omega)) ktX6_isAnswer wl_X6_58 (by decide) dX6_winners_71 rfl rfl (Nat.le_of_ble_eq_true rfl) ⟨rfl, rfl⟩ (by decide) ?_
        refine' x_dia_if_ne 96 97 dX6_winners_74 (by decide) ?_ ?_ ?_; rotate_left 2
        · intro c74 k74
          refine x_iload_n dX6_winners_77 rfl rfl ?_
          refine x_aload_n dX6_winners_78 rfl rfl ?_
          refine x_iload dX6_winners_79 rfl ?_
          refine x_iconst (nI 0) dX6_winners_81 (by decide) ?_
          refine x_iconst (nI 2) dX6_winners_82 (by decide) ?_
          refine x_callVd0 (mt' := mX6_inMessage) (sp_X6_inMessage hM (by omega) (by omega)) kvX6_inMessage wl_X6_43 (by decide) dX6_winners_83 xk_131 (by decide) rfl rfl (Nat.le_of_ble_eq_true rfl) ⟨rfl, rfl⟩ (by decide) ?_
          refine x_callSd0 (mt' := mX6_bitsOf) (sp_X6_bitsOf _) ktX6_bitsOf wl_X6_78 (by decide) dX6_winners_86 rfl rfl (Nat.le_of_ble_eq_true rfl) ⟨rfl, rfl⟩ (by decide) ?_
          refine' x_dia_icmp_geN 96 97 dX6_winners_89 (by decide) (by omega) (by omega) ?_ ?_ ?_; rotate_left 2
          · intro c89 k89
            refine x_iconst (nI 1) dX6_winners_92 (by decide) ?_
            refine x_goto 97 dX6_winners_93 (by decide) ?_
            exact k89
          · intro c89 k89
            refine x_iconst (nI 0) dX6_winners_96 (by decide) ?_
            exact k89
          exact k74
        · intro c74 k74
          refine x_iconst (nI 0) dX6_winners_96 (by decide) ?_
          exact k74
        exact k67
      · intro c67 k67
        refine x_iconst (nI 0) dX6_winners_96 (by decide) ?_
        exact k67
      refine x_eqtop (wIs_eq (by omega)) ?_
      refine x_istore dX6_winners_97 (by decide) ?_
      refine x_iload_n dX6_winners_99 rfl rfl ?_
      refine x_iload dX6_winners_100 rfl ?_
      refine' x_dia_if_eq 122 123 dX6_winners_102 (by decide) ?_ ?_ ?_; rotate_left 2
      · intro c102 k102
        refine x_aload_n dX6_winners_105 rfl rfl ?_
        refine x_iload dX6_winners_106 rfl ?_
        refine x_iload_n dX6_winners_108 rfl rfl ?_
        refine x_callVd0 (mt' := mX6_bitAt) (sp_X6_bitAt hM (by omega) (by omega)) kvX6_bitAt wl_X6_51 (by decide) dX6_winners_109 xk_131 (by decide) rfl rfl (Nat.le_of_ble_eq_true rfl) ⟨rfl, rfl⟩ (by decide) ?_
        refine' x_dia_if_ne 122 123 dX6_winners_112 (by decide) ?_ ?_ ?_; rotate_left 2
        · intro c112 k112
          refine x_iconst (nI 1) dX6_winners_115 (by decide) ?_
          refine x_iload dX6_winners_116 rfl ?_
          refine x_ishl dX6_winners_118 ?_
          refine x_goto 123 dX6_winners_119 (by decide) ?_
          exact k112
        · intro c112 k112
          refine x_iconst (nI 0) dX6_winners_122 (by decide) ?_
          exact k112
        exact k102
      · intro c102 k102
        refine x_iconst (nI 0) dX6_winners_122 (by decide) ?_
        exact k102
      refine x_eqtop wLo_eq ?_
      refine x_ior dX6_winners_123 ?_
      refine x_istore_n dX6_winners_124 rfl (by decide) ?_
      refine x_iload dX6_winners_125 rfl ?_
      refine x_iload dX6_winners_127 rfl ?_
      refine' x_dia_if_eq 150 151 dX6_winners_129 (by decide) ?_ ?_ ?_; rotate_left 2
      · intro c129 k129
        refine x_aload_n dX6_winners_132 rfl rfl ?_
        refine x_iload dX6_winners_133 rfl ?_
        refine x_iload_n dX6_winners_135 rfl rfl ?_
        refine x_callVd0 (mt' := mX6_bitAt) (sp_X6_bitAt hM (by omega) (by omega)) kvX6_bitAt wl_X6_51 (by decide) dX6_winners_136 xk_131 (by decide) rfl rfl (Nat.le_of_ble_eq_true rfl) ⟨rfl, rfl⟩ (by decide) ?_
        refine x_iconst (nI 1) dX6_winners_139 (by decide) ?_
        refine' x_dia_icmp_ne 150 151 dX6_winners_140 (by decide) ?_ ?_ ?_; rotate_left 2
        · intro c140 k140
          refine x_iconst (nI 1) dX6_winners_143 (by decide) ?_
          refine x_iload dX6_winners_144 rfl ?_
          refine x_ishl dX6_winners_146 ?_
          refine x_goto 151 dX6_winners_147 (by decide) ?_
          exact k140
        · intro c140 k140
          refine x_iconst (nI 0) dX6_winners_150 (by decide) ?_
          exact k140
        exact k129
      · intro c129 k129
        refine x_iconst (nI 0) dX6_winners_150 (by decide) ?_
        exact k129
      refine x_eqtop wHi_eq ?_
      refine x_ior dX6_winners_151 ?_
      refine x_istore dX6_winners_152 (by decide) ?_
      refine x_iincN 1 dX6_winners_154 rfl (by decide) (by decide) ?_
      refine x_goto 54 dX6_winners_157 (by decide) ?_
      refine x_weak [some (.ref 131), some (.int (mk b 4)), some (.int (nI p)), some (.int (mk (wLo Z p b) (k + 1))), some (.int (mk (wHi Z p b) (k + 1))), some (.int (nI (k + 1))), none] rfl (fun i v h => by rcases i with _ | _ | _ | _ | _ | _ | _ | i <;> first | exact h | (simp at h)) (ih (k + 1) (by omega) hx)
theorem lp_X6_win3 (hM : Md R) {g : GX} {cx : CX} {F : State → Prop} : ∀ (m k : Nat), k + m = 27 → X g cx mX6_winners F (0, 0) 181 [some (.ref 131), some (.int (mk (pWs Z 27) 4)), some (.int (nI 27)), none, none, none, none] [] 137 (MM I φ Z α β κ τ) R → X g cx mX6_winners F (0, 0) 40 [some (.ref 131), some (.int (mk (pWs Z k) 4)), some (.int (nI k)), none, none, none, none] [] 137 (MM I φ Z α β κ τ) R := by
  intro m
  induction m with
  | zero =>
    intro k hk hx
    obtain rfl : k = 27 := by omega
    refine x_iload_n dX6_winners_40 rfl rfl ?_
    refine x_bipush (nI 27) dX6_winners_41 (by decide) ?_
    refine x_icmp_geN 181 dX6_winners_43 (by decide) (by omega) (by omega) (fun c43 => ?_) (fun c43 => ?_)
    · skip
      exact hx
    · skip
      exact absurd c43 (by omega)
  | succ m ih =>
    intro k hk hx
    refine x_iload_n dX6_winners_40 rfl rfl ?_
    refine x_bipush (nI 27) dX6_winners_41 (by decide) ?_
    refine x_icmp_geN 181 dX6_winners_43 (by decide) (by omega) (by omega) (fun c43 => ?_) (fun c43 => ?_)
    · skip
      exact absurd c43 (by omega)
    · skip
      refine x_iconst (nI 0) dX6_winners_46 (by decide) ?_
      refine x_istore_n dX6_winners_47 rfl (by decide) ?_
      refine x_iconst (nI 0) dX6_winners_48 (by decide) ?_
      refine x_istore dX6_winners_49 (by decide) ?_
      refine x_iconst (nI 0) dX6_winners_51 (by decide) ?_
      refine x_istore dX6_winners_52 (by decide) ?_
      refine x_weak [some (.ref 131), some (.int (mk (pWs Z k) 4)), some (.int (nI k)), some (.int (mk (wLo Z k (pWs Z k)) 0)), some (.int (mk (wHi Z k (pWs Z k)) 0)), some (.int (nI 0)), none] rfl (fun i v h => by rcases i with _ | _ | _ | _ | _ | _ | _ | i <;> first | exact h | (simp at h)) ?_
      refine lp_X6_win2 hM (by omega) 4 0 rfl ?_
      refine x_iload_n dX6_winners_160 rfl rfl ?_
      refine x_iload_n dX6_winners_161 rfl rfl ?_
      refine' x_dia_if_eq 172 173 dX6_winners_162 (by decide) ?_ ?_ ?_; rotate_left 2
      · intro c162 k162
        refine x_iload dX6_winners_165 rfl ?_
        refine x_iconst (-1) dX6_winners_167 (by decide) ?_
        refine x_ixor dX6_winners_168 ?_
        refine x_goto 173 dX6_winners_169 (by decide) ?_
        exact k162
      · intro c162 k162
        refine x_iconst (-1) dX6_winners_172 (by decide) ?_
        exact k162
      refine x_iand dX6_winners_173 ?_
      refine x_eqtop pWs_step ?_
      refine x_istore_n dX6_winners_174 rfl (by decide) ?_
      refine x_iincN 1 dX6_winners_175 rfl (by decide) (by decide) ?_
      refine x_goto 40 dX6_winners_178 (by decide) ?_
      refine x_weak [some (.ref 131), some (.int (mk (pWs Z (k + 1)) 4)), some (.int (nI (k + 1))), none, none, none, none] rfl (fun i v h => by rcases i with _ | _ | _ | _ | _ | _ | _ | i <;> first | exact h | (simp at h)) (ih (k + 1) (by omega) hx)
theorem sp_X6_winners (hM : Md R) : Spd mX6_winners [.ref 131] (MM I φ Z α β κ τ) R (some (.int (mk (pWs Z 27) 4))) (MM I φ Z α β κ τ) := by
  refine Spd.mk (by decide +kernel) (by simp [Value.category]) (Nat.le_of_ble_eq_true rfl) (fun g cx => ?_)
  refine x_iconst (nI 0) dX6_winners_0 (by decide) ?_
  refine x_istore_n dX6_winners_1 rfl (by decide) ?_
  refine x_iconst (nI 0) dX6_winners_2 (by decide) ?_
  refine x_istore_n dX6_winners_3 rfl (by decide) ?_
  refine lp_X6_win1 hM 4 0 rfl ?_
  refine x_iconst (nI 0) dX6_winners_38 (by decide) ?_
  refine x_istore_n dX6_winners_39 rfl (by decide) ?_
  refine lp_X6_win3 hM 27 0 rfl ?_
  refine x_iload_n dX6_winners_181 rfl rfl ?_
  refine x_iret dX6_winners_182 rfl (by decide) (by decide) ?_
  exact ⟨rfl, rfl, rfl, rfl⟩
end ML
