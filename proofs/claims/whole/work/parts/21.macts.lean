/-! the reference: acts on the row of numbers; each answers and tells the row that is left -/
def inr (v l h : Int32) : Bool := decide (l ≤ v ∧ v ≤ h)
theorem inr_of {v : Int32} {a b : Nat} (hb : b < 2 ^ 31) (h : inr v (nI a) (nI b) = true) (ha : a ≤ b) : ∃ j, a ≤ j ∧ j ≤ b ∧ v = nI j := by
  unfold inr at h
  rw [decide_eq_true_eq] at h
  obtain ⟨h1, h2⟩ := h
  have h0 : ¬ v < 0 := fun q => by
    have q1 := Int32.le_iff_toInt_le.mp h1
    have q2 := Int32.lt_iff_toInt_lt.mp q
    rw [nI_toInt (by omega)] at q1
    have : (0 : Int32).toInt = 0 := rfl
    omega
  obtain ⟨j, hj, rfl⟩ := nI_of h0
  exact ⟨j, (nI_leI (by omega) (by omega)).mp h1, (nI_leI (by omega) (by omega)).mp h2, rfl⟩
theorem inr_nat {a b j : Nat} (hj : j < 2 ^ 31) (hb : b < 2 ^ 31) (h1 : a ≤ j) (h2 : j ≤ b) : inr (nI j) (nI a) (nI b) = true := by
  unfold inr
  rw [decide_eq_true_eq]
  exact ⟨(nI_leI (by omega) (by omega)).mpr h1, (nI_leI (by omega) (by omega)).mpr h2⟩
/-- lines of at most five -/
def N5 (Z : MI) : Prop := ∀ k, k < 4 → ∃ m, m ≤ 5 ∧ Z k 0 = nI m
def pAdd (Z : MI) (k m : Nat) (a w d : Int32) : MI := xuI (xuI (xuI (xuI Z k (7 + 3 * m) a) k (7 + 3 * m + 1) w) k (7 + 3 * m + 2) d) k 0 (nI (m + 1))
def pSay (Z : MI) (s a w d : Int32) : Int32 × MI :=
  if inr s (nI 0) (nI 3) = true then
    if inr a (nI 0) (nI 127) = true ∧ inr w (nI 0) (nI 255) = true ∧ (inr d (nI 0) (nI 255) = true ∨ d = -5) then
      if Z s.toNatClampNeg 0 = nI 5 then (-3, Z)
      else (nI ((Z s.toNatClampNeg 0).toNatClampNeg + 1), pAdd Z s.toNatClampNeg (Z s.toNatClampNeg 0).toNatClampNeg a w d)
    else (-2, Z)
  else (-1, Z)
def pTake (Z : MI) (s : Int32) : Int32 × MI :=
  if inr s (nI 0) (nI 3) = true then
    if Z s.toNatClampNeg 0 = nI 1 ∧ tk Z s.toNatClampNeg = true then (-4, Z)
    else if Z s.toNatClampNeg 0 = 0 then (-5, Z)
    else (Z s.toNatClampNeg 0 - nI 1, xuI (xuI Z s.toNatClampNeg 0 (Z s.toNatClampNeg 0 - nI 1)) s.toNatClampNeg 6 (if Z s.toNatClampNeg 0 = nI 1 then nI 0 else Z s.toNatClampNeg 6))
  else (-1, Z)
def ads (Z : MI) (k : Nat) : Bool := decide (¬ Z (4 + k) 0 = -5)
def pHear (Z : MI) (s a : Int32) : Int32 × MI :=
  if inr s (nI 0) (nI 3) = true then
    if inr a (nI 0) (nI 127) = true ∨ a = -5 then
      if ¬ a = -5 ∧ ¬ pLr (pLi Z a) = -5 ∧ ¬ pLr (pLi Z a) = s then (-4, Z)
      else if Z (4 + s.toNatClampNeg) 0 = a then (-5, Z)
      else (nI (cn (ads (xuI Z (4 + s.toNatClampNeg) 0 a)) 4), xuI Z (4 + s.toNatClampNeg) 0 a)
    else (-2, Z)
  else (-1, Z)
def pHold (Z : MI) (s t : Int32) : Int32 × MI :=
  if inr s (nI 0) (nI 3) = true then
    if inr t (nI 0) (nI 9) = true then
      (if Z (4 + s.toNatClampNeg) 1 = t then -5 else Z (4 + s.toNatClampNeg) 1, xuI Z (4 + s.toNatClampNeg) 1 t)
    else (-2, Z)
  else (-1, Z)
def pStick (Z : MI) (s t : Int32) : Int32 × MI :=
  if inr s (nI 0) (nI 3) = true then
    if inr t (nI 1) (nI 99) = true then (nI (cn (stu (xuI Z (4 + s.toNatClampNeg) 2 t)) 4), xuI Z (4 + s.toNatClampNeg) 2 t)
    else (-2, Z)
  else (-1, Z)
def pMost (v : Int32) : Int32 := if v = 0 then nI 20 else if v = nI 1 then nI 9 else nI 99
def pSet (Z : MI) (w v : Int32) : Int32 × MI :=
  if inr w (nI 0) (nI 2) = true then
    if inr v (nI 1) (pMost w) = true then (if Z 8 w.toNatClampNeg = v then -5 else Z 8 w.toNatClampNeg, xuI Z 8 w.toNatClampNeg v)
    else (-2, Z)
  else (-1, Z)
def pTk (Z : MI) : Nat → MI
  | 0 => Z
  | j + 1 => pTick (pTk Z j)
def pCame (Z : MI) : Int32 := sm (fun j => Z j 2) 4
def pRun (Z : MI) (t : Int32) : Int32 × MI :=
  if inr t (nI 1) (nI 300) = true then
    if Z 8 3 + t ≤ nI 99999 then (pCame (pTk Z t.toNatClampNeg) - pCame Z, pTk Z t.toNatClampNeg)
    else (-3, Z)
  else (-2, Z)
/-- a row that is copied up to a place -/
def cpA (f h : Nat → Int32) (j : Nat) : Nat → Int32 := fun i => if i < j then f i else h i
theorem cpA_0 {f h : Nat → Int32} : cpA f h 0 = h := by funext i; simp [cpA]
theorem cpA_step {f h : Nat → Int32} {j : Nat} : upd (cpA f h j) j (f j) = cpA f h (j + 1) := by
  funext i
  by_cases hi : i = j
  · subst hi; simp [upd, cpA]
  · simp only [upd, cpA, if_neg hi]
    by_cases h2 : i < j
    · rw [if_pos h2, if_pos (by omega)]
    · rw [if_neg h2, if_neg (by omega)]
/-- the history: rows one behind the other -/
def bS (β : Nat → Int32) (j : Nat) : Nat → Int32 := fun i => if i < j then β (375 + i) else β i
theorem bS_0 {β : Nat → Int32} : bS β 0 = β := by funext i; simp [bS]
theorem bS_step {β : Nat → Int32} {j : Nat} : upd (bS β j) j (bS β j (375 + j)) = bS β (j + 1) := by
  funext i
  by_cases hi : i = j
  · subst hi; simp only [upd, if_true, bS]; rw [if_neg (by omega), if_pos (by omega)]
  · simp only [upd, bS, if_neg hi]
    by_cases h2 : i < j
    · rw [if_pos h2, if_pos (by omega)]
    · rw [if_neg h2, if_neg (by omega)]
def bP (β α : Nat → Int32) (h j : Nat) : Nat → Int32 := fun i => if 375 * h ≤ i ∧ i < 375 * h + j then α (i - 375 * h) else β i
theorem bP_0 {β α : Nat → Int32} {h : Nat} : bP β α h 0 = β := by funext i; simp only [bP]; rw [if_neg (by omega)]
theorem bP_step {β α : Nat → Int32} {h j : Nat} : upd (bP β α h j) (375 * h + j) (α j) = bP β α h (j + 1) := by
  funext i
  by_cases hi : i = 375 * h + j
  · subst hi; simp only [upd, if_true, bP]; rw [if_pos (by omega)]; congr 1; omega
  · simp only [upd, bP, if_neg hi]
    by_cases h2 : 375 * h ≤ i ∧ i < 375 * h + j
    · rw [if_pos h2, if_pos (by omega)]
    · rw [if_neg h2, if_neg (by omega)]
def pRecB (β α : Nat → Int32) (h : Nat) : Nat → Int32 := if h = 4 then bP (bS β 1125) α 3 375 else bP β α h 375
def pRecF (φ : Nat → Int32) (h : Nat) : Nat → Int32 := if h = 4 then upd (upd φ 3 (nI 3)) 3 (nI (3 + 1)) else upd φ 3 (nI (h + 1))
section ML
variable {I : MI} {R : MR} {φ α β κ τ : Nat → Int32} {Z : MI}
theorem lp_X6_putAside (hM : Md R) {g : GX} {cx : CX} {F : State → Prop} : ∀ (m k : Nat), k + m = 375 → X g cx mX6_putAside F (0, 0) 27 [some (.ref 131), some (.int (nI 375))] [] 137 (MM I φ Z (cpA (zf Z) α 375) β κ τ) R → X g cx mX6_putAside F (0, 0) 2 [some (.ref 131), some (.int (nI k))] [] 137 (MM I φ Z (cpA (zf Z) α k) β κ τ) R := by
  intro m
  induction m with
  | zero =>
    intro k hk hx
    obtain rfl : k = 375 := by omega
    refine x_iload_n dX6_putAside_2 rfl rfl ?_
    refine x_sipush (nI 375) dX6_putAside_3 (by decide) ?_
    refine x_icmp_geN 27 dX6_putAside_6 (by decide) (by omega) (by omega) (fun c6 => ?_) (fun c6 => ?_)
    · skip
      exact hx
    · skip
      exact absurd c6 (by omega)
  | succ m ih =>
    intro k hk hx
    refine x_iload_n dX6_putAside_2 rfl rfl ?_
    refine x_sipush (nI 375) dX6_putAside_3 (by decide) ?_
    refine x_icmp_geN 27 dX6_putAside_6 (by decide) (by omega) (by omega) (fun c6 => ?_) (fun c6 => ?_)
    · skip
      exact absurd c6 (by omega)
    · skip
      refine x_aload_n dX6_putAside_9 rfl rfl ?_
      refine x_getR fl_X6_13 dX6_putAside_10 xk_131 (by decide) rfl (hM 1 _ rfl) ?_
      refine x_iload_n dX6_putAside_13 rfl rfl ?_
      refine x_aload_n dX6_putAside_14 rfl rfl ?_
      refine x_getR fl_X6_7 dX6_putAside_15 xk_131 (by decide) rfl (hM 0 _ rfl) ?_
      refine x_iload_n dX6_putAside_18 rfl rfl ?_
      refine x_ldS dX6_putAside_19 (by omega) rfl ?_
      refine x_stA dX6_putAside_20 (by omega) ?_
      refine x_eqI (I' := MM I φ Z (cpA (zf Z) α (k + 1)) β κ τ) (by rw [cpA_step]) ?_
      refine x_iincN 1 dX6_putAside_21 rfl (by decide) (by decide) ?_
      refine x_goto 2 dX6_putAside_24 (by decide) ?_
      exact ih (k + 1) (by omega) hx
theorem lp_X6_putBack (hM : Md R) {g : GX} {cx : CX} {F : State → Prop} : ∀ (m k : Nat), k + m = 375 → X g cx mX6_putBack F (0, 0) 27 [some (.ref 131), some (.int (nI 375))] [] 137 (MM I φ (uz (cpA α (zf Z) 375)) α β κ τ) R → X g cx mX6_putBack F (0, 0) 2 [some (.ref 131), some (.int (nI k))] [] 137 (MM I φ (uz (cpA α (zf Z) k)) α β κ τ) R := by
  intro m
  induction m with
  | zero =>
    intro k hk hx
    obtain rfl : k = 375 := by omega
    refine x_iload_n dX6_putBack_2 rfl rfl ?_
    refine x_sipush (nI 375) dX6_putBack_3 (by decide) ?_
    refine x_icmp_geN 27 dX6_putBack_6 (by decide) (by omega) (by omega) (fun c6 => ?_) (fun c6 => ?_)
    · skip
      exact hx
    · skip
      exact absurd c6 (by omega)
  | succ m ih =>
    intro k hk hx
    refine x_iload_n dX6_putBack_2 rfl rfl ?_
    refine x_sipush (nI 375) dX6_putBack_3 (by decide) ?_
    refine x_icmp_geN 27 dX6_putBack_6 (by decide) (by omega) (by omega) (fun c6 => ?_) (fun c6 => ?_)
    · skip
      exact absurd c6 (by omega)
    · skip
      refine x_aload_n dX6_putBack_9 rfl rfl ?_
      refine x_getR fl_X6_7 dX6_putBack_10 xk_131 (by decide) rfl (hM 0 _ rfl) ?_
      refine x_iload_n dX6_putBack_13 rfl rfl ?_
      refine x_aload_n dX6_putBack_14 rfl rfl ?_
      refine x_getR fl_X6_13 dX6_putBack_15 xk_131 (by decide) rfl (hM 1 _ rfl) ?_
      refine x_iload_n dX6_putBack_18 rfl rfl ?_
      refine x_ldA dX6_putBack_19 (by omega) ?_
      refine x_stS (Z' := uz (cpA α (zf Z) (k + 1))) dX6_putBack_20 (by omega) (by rw [zf_uz, zf_uz, cpA_step]) ?_
      refine x_iincN 1 dX6_putBack_21 rfl (by decide) (by decide) ?_
      refine x_goto 2 dX6_putBack_24 (by decide) ?_
      exact ih (k + 1) (by omega) hx
theorem sp_X6_putAside (hM : Md R) : Spd mX6_putAside [.ref 131] (MM I φ Z α β κ τ) R none (MM I φ Z (cpA (zf Z) α 375) β κ τ) := by
  refine Spd.mk (by decide +kernel) (by simp [Value.category]) (Nat.le_of_ble_eq_true rfl) (fun g cx => ?_)
  refine x_iconst (nI 0) dX6_putAside_0 (by decide) ?_
  refine x_istore_n dX6_putAside_1 rfl (by decide) ?_
  refine x_eqI (I' := MM I φ Z (cpA (zf Z) α 0) β κ τ) (by rw [cpA_0]) ?_
  refine lp_X6_putAside hM 375 0 rfl ?_
  refine x_vret dX6_putAside_27 rfl (by decide) (by decide) ?_
  exact ⟨rfl, rfl, rfl, rfl⟩
theorem sp_X6_putBack (hM : Md R) : Spd mX6_putBack [.ref 131] (MM I φ Z α β κ τ) R none (MM I φ (uz (cpA α (zf Z) 375)) α β κ τ) := by
  refine Spd.mk (by decide +kernel) (by simp [Value.category]) (Nat.le_of_ble_eq_true rfl) (fun g cx => ?_)
  refine x_iconst (nI 0) dX6_putBack_0 (by decide) ?_
  refine x_istore_n dX6_putBack_1 rfl (by decide) ?_
  refine x_eqI (I' := MM I φ (uz (cpA α (zf Z) 0)) α β κ τ) (by rw [cpA_0]; unfold MM; rw [zf_uz]) ?_
  refine lp_X6_putBack hM 375 0 rfl ?_
  refine x_vret dX6_putBack_27 rfl (by decide) (by decide) ?_
  exact ⟨rfl, rfl, rfl, rfl⟩
theorem lp_X6_act1 (hM : Md R) {v : Int32} {g : GX} {cx : CX} {F : State → Prop} : ∀ (m k : Nat), k + m = 1125 → X g cx mX6_act F (0, 0) 45 [some (.ref 131), some (.int v), some (.int (nI 1125))] [] 137 (MM I φ Z α (bS β 1125) κ τ) R → X g cx mX6_act F (0, 0) 16 [some (.ref 131), some (.int v), some (.int (nI k))] [] 137 (MM I φ Z α (bS β k) κ τ) R := by
  intro m
  induction m with
  | zero =>
    intro k hk hx
    obtain rfl : k = 1125 := by omega
    refine x_iload_n dX6_act_16 rfl rfl ?_
    refine x_sipush (nI 1125) dX6_act_17 (by decide) ?_
    refine x_icmp_geN 45 dX6_act_20 (by decide) (by omega) (by omega) (fun c20 => ?_) (fun c20 => ?_)
    · skip
      exact hx
    · skip
      exact absurd c20 (by omega)
  | succ m ih =>
    intro k hk hx
    refine x_iload_n dX6_act_16 rfl rfl ?_
    refine x_sipush (nI 1125) dX6_act_17 (by decide) ?_
    refine x_icmp_geN 45 dX6_act_20 (by decide) (by omega) (by omega) (fun c20 => ?_) (fun c20 => ?_)
    · skip
      exact absurd c20 (by omega)
    · skip
      refine x_aload_n dX6_act_23 rfl rfl ?_
      refine x_getR fl_X6_16 dX6_act_24 xk_131 (by decide) rfl (hM 2 _ rfl) ?_
      refine x_iload_n dX6_act_27 rfl rfl ?_
      refine x_aload_n dX6_act_28 rfl rfl ?_
      refine x_getR fl_X6_16 dX6_act_29 xk_131 (by decide) rfl (hM 2 _ rfl) ?_
      refine x_sipush (nI 375) dX6_act_32 (by decide) ?_
      refine x_iload_n dX6_act_35 rfl rfl ?_
      refine x_iaddN dX6_act_36 ?_
      refine x_ldB dX6_act_37 (by omega) ?_
      refine x_stB dX6_act_38 (by omega) ?_
      refine x_eqI (I' := MM I φ Z α (bS β (k + 1)) κ τ) (by rw [bS_step]) ?_
      refine x_iincN 1 dX6_act_39 rfl (by decide) (by decide) ?_
      refine x_goto 16 dX6_act_42 (by decide) ?_
      exact ih (k + 1) (by omega) hx
theorem lp_X6_act2 (hM : Md R) {v : Int32} {h : Nat} (hh : φ 3 = nI h) (hh3 : h ≤ 3) {g : GX} {cx : CX} {F : State → Prop} : ∀ (m k : Nat), k + m = 375 → X g cx mX6_act F (0, 0) 91 [some (.ref 131), some (.int v), some (.int (nI 375))] [] 137 (MM I φ Z α (bP β α h 375) κ τ) R → X g cx mX6_act F (0, 0) 57 [some (.ref 131), some (.int v), some (.int (nI k))] [] 137 (MM I φ Z α (bP β α h k) κ τ) R := by
  intro m
  induction m with
  | zero =>
    intro k hk hx
    obtain rfl : k = 375 := by omega
    refine x_iload_n dX6_act_57 rfl rfl ?_
    refine x_sipush (nI 375) dX6_act_58 (by decide) ?_
    refine x_icmp_geN 91 dX6_act_61 (by decide) (by omega) (by omega) (fun c61 => ?_) (fun c61 => ?_)
    · skip
      exact hx
    · skip
      exact absurd c61 (by omega)
  | succ m ih =>
    intro k hk hx
    refine x_iload_n dX6_act_57 rfl rfl ?_
    refine x_sipush (nI 375) dX6_act_58 (by decide) ?_
    refine x_icmp_geN 91 dX6_act_61 (by decide) (by omega) (by omega) (fun c61 => ?_) (fun c61 => ?_)
    · skip
      exact absurd c61 (by omega)
    · skip
      refine x_aload_n dX6_act_64 rfl rfl ?_
      refine x_getR fl_X6_16 dX6_act_65 xk_131 (by decide) rfl (hM 2 _ rfl) ?_
      refine x_sipush (nI 375) dX6_act_68 (by decide) ?_
      refine x_aload_n dX6_act_71 rfl rfl ?_
      refine x_getM fl_X6_40 dX6_act_72 rfl ?_
      refine x_eqtop (y := nI h) hh ?_
      refine x_imulN dX6_act_75 ?_
      refine x_iload_n dX6_act_76 rfl rfl ?_
      refine x_iaddN dX6_act_77 ?_
      refine x_aload_n dX6_act_78 rfl rfl ?_
      refine x_getR fl_X6_13 dX6_act_79 xk_131 (by decide) rfl (hM 1 _ rfl) ?_
      refine x_iload_n dX6_act_82 rfl rfl ?_
      refine x_ldA dX6_act_83 (by omega) ?_
      refine x_stB dX6_act_84 (by omega) ?_
      refine x_eqI (I' := MM I φ Z α (bP β α h (k + 1)) κ τ) (by rw [bP_step]) ?_
      refine x_iincN 1 dX6_act_85 rfl (by decide) (by decide) ?_
      refine x_goto 57 dX6_act_88 (by decide) ?_
      exact ih (k + 1) (by omega) hx
theorem tl_X6_act (hM : Md R) {v : Int32} {h : Nat} (hh : φ 3 = nI h) (hh3 : h ≤ 3) {u : Option Value} {g : GX} {cx : CX} : X g cx mX6_act (xF g cx mX6_act (fun r n I2 R2 => r = some (.int v) ∧ n = 137 ∧ I2 = MM I (upd φ 3 (nI (h + 1))) Z α (bP β α h 375) κ τ ∧ R2 = R)) (0, 0) 55 [some (.ref 131), some (.int v), u] [] 137 (MM I φ Z α β κ τ) R := by
  refine x_iconst (nI 0) dX6_act_55 (by decide) ?_
  refine x_istore_n dX6_act_56 rfl (by decide) ?_
  refine x_eqI (I' := MM I φ Z α (bP β α h 0) κ τ) (by rw [bP_0]) ?_
  refine lp_X6_act2 hM hh hh3 375 0 rfl ?_
  refine x_aload_n dX6_act_91 rfl rfl ?_
  refine x_dup dX6_act_92 rfl ?_
  refine x_getM fl_X6_40 dX6_act_93 rfl ?_
  refine x_eqtop (y := nI h) hh ?_
  refine x_iconst (nI 1) dX6_act_96 (by decide) ?_
  refine x_iaddN dX6_act_97 ?_
  refine x_putM fl_X6_40 fp_6_3 dX6_act_98 rfl rfl rfl ?_
  refine x_iload_n dX6_act_101 rfl rfl ?_
  refine x_iret dX6_act_102 rfl (by decide) (by decide) ?_
  exact ⟨rfl, rfl, rfl, rfl⟩
theorem sp_X6_act (hM : Md R) (v : Int32) {h : Nat} (hh : φ 3 = nI h) (hh4 : h ≤ 4) : Spd mX6_act [.ref 131, .int v] (MM I φ Z α β κ τ) R (some (.int v)) (if v < 0 then MM I φ Z α β κ τ else MM I (pRecF φ h) Z α (pRecB β α h) κ τ) := by
  refine Spd.mk (by decide +kernel) (by simp [Value.category]) (Nat.le_of_ble_eq_true rfl) (fun g cx => ?_)
  refine x_iload_n dX6_act_0 rfl rfl ?_
  refine x_if_ge 6 dX6_act_1 (by decide) (fun c1 => ?_) (fun c1 => ?_)
  · skip
    rw [if_neg (by simpa using c1)]
    refine x_aload_n dX6_act_6 rfl rfl ?_
    refine x_getM fl_X6_40 dX6_act_7 rfl ?_
    refine x_eqtop (y := nI h) hh ?_
    refine x_iconst (nI 4) dX6_act_10 (by decide) ?_
    refine x_icmp_neN 55 dX6_act_11 (by decide) (by omega) (by omega) (fun c11 => ?_) (fun c11 => ?_)
    · skip
      have e1 : pRecF φ h = upd φ 3 (nI (h + 1)) := by unfold pRecF; rw [if_neg c11]
      have e2 : pRecB β α h = bP β α h 375 := by unfold pRecB; rw [if_neg c11]
      rw [e1, e2]
      exact tl_X6_act hM hh (by omega)
    · skip
      have e1 : pRecF φ h = upd (upd φ 3 (nI 3)) 3 (nI (3 + 1)) := by unfold pRecF; rw [if_pos c11]
      have e2 : pRecB β α h = bP (bS β 1125) α 3 375 := by unfold pRecB; rw [if_pos c11]
      rw [e1, e2]
      refine x_iconst (nI 0) dX6_act_14 (by decide) ?_
      refine x_istore_n dX6_act_15 rfl (by decide) ?_
      refine x_eqI (I' := MM I φ Z α (bS β 0) κ τ) (by rw [bS_0]) ?_
      refine lp_X6_act1 hM 1125 0 rfl ?_
      refine x_aload_n dX6_act_45 rfl rfl ?_
      refine x_dup dX6_act_46 rfl ?_
      refine x_getM fl_X6_40 dX6_act_47 rfl ?_
      refine x_eqtop (y := nI 4) (by rw [hh, c11]) ?_
      refine x_iconst (nI 1) dX6_act_50 (by decide) ?_
      refine x_isubN dX6_act_51 (by omega) ?_
      refine x_putM fl_X6_40 fp_6_3 dX6_act_52 rfl rfl rfl ?_
      exact tl_X6_act (φ := upd φ 3 (nI 3)) (h := 3) hM (by simp [upd]) (by omega)
  · skip
    rw [if_pos (by simpa using c1)]
    refine x_iload_n dX6_act_4 rfl rfl ?_
    refine x_iret dX6_act_5 rfl (by decide) (by decide) ?_
    exact ⟨rfl, rfl, rfl, rfl⟩
end ML
