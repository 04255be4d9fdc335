/-! the reference: orders carried out -/
def pDo (Z : MI) (l a b c d : Int32) : Int32 × MI := if l = nI 114 then pRun Z a else if l = nI 104 then pHear Z a b else if l = nI 111 then pHold Z a b else if l = nI 116 then pStick Z a b else pSay Z a b c d
def lt5 (l : Int32) : Prop := l = nI 114 ∨ l = nI 104 ∨ l = nI 111 ∨ l = nI 116 ∨ l = nI 115
theorem pOrd_l (t : Nat → Int32) (n p : Nat) (b c : Int32) : lt5 (pOrd t n p b c).2.1 := by
  unfold pOrd lt5
  dsimp only
  generalize (if n ≤ p then nI 0 else t p) = l0
  generalize (if l0 = nI 104 then nI 104 else nI 115) = x0
  split
  · exact Or.inl (by assumption)
  · split
    · split
      · exact Or.inr (Or.inr (Or.inl rfl))
      · exact Or.inr (Or.inl rfl)
    · split
      · exact Or.inr (Or.inr (Or.inr (Or.inl rfl)))
      · split
        · exact Or.inr (Or.inr (Or.inr (Or.inr rfl)))
        · exact Or.inr (Or.inr (Or.inr (Or.inr rfl)))
theorem sg_ge {t : Nat → Int32} {n : Nat} {c : Int32} {s : Nat × Bool} {p : Nat} (h : p ≤ s.1) : p ≤ (sg t n c s).1 := by
  unfold sg
  split
  · exact h
  · split
    · show p ≤ s.1 + 1; omega
    · exact h
theorem nmL_ge {t : Nat → Int32} {n q : Nat} {hi : Int32} : ∀ (f p : Nat) (v : Int32), q ≤ p → q ≤ (nmL t n hi f p v).2 := by
  intro f
  induction f with
  | zero => intro p v h; exact h
  | succ f ih =>
    intro p v h
    unfold nmL
    split
    · exact h
    · split
      · exact h
      · split
        · exact h
        · exact ih _ _ (by omega)
theorem nm_ge {t : Nat → Int32} {n : Nat} {lo hi : Int32} {s : Nat × Bool} {p : Nat} (h : p ≤ s.1) : p ≤ (nm t n lo hi s).2.1 := by
  unfold nm
  split
  · exact nmL_ge _ _ _ (by have := sg_ge (t := t) (n := n) (c := nI 32) h; omega)
  · exact sg_ge h
theorem pOrd_ge {t : Nat → Int32} {n p : Nat} {b c : Int32} : p ≤ (pOrd t n p b c).1.1 := by
  have h0 : p ≤ ((p, false) : Nat × Bool).1 := Nat.le_refl p
  unfold pOrd
  dsimp only
  generalize (if n ≤ p then nI 0 else t p) = l0
  generalize (if l0 = nI 104 then nI 104 else nI 115) = x0
  split
  · exact nm_ge (sg_ge (sg_ge (sg_ge h0)))
  · split
    · split
      · exact nm_ge (nm_ge (sg_ge (sg_ge (sg_ge (sg_ge h0)))))
      · exact nm_ge (nm_ge (sg_ge (sg_ge (sg_ge (sg_ge h0)))))
    · split
      · exact nm_ge (nm_ge (sg_ge (sg_ge (sg_ge (sg_ge (sg_ge h0))))))
      · split
        · exact nm_ge (nm_ge (nm_ge (nm_ge (sg_ge (sg_ge (sg_ge h0))))))
        · exact nm_ge (nm_ge (nm_ge (sg_ge (sg_ge (sg_ge h0)))))
abbrev TO : Type := (Nat × Bool) × Int32 × Int32 × Int32 × Int32 × Int32
/-- the text gone through, nothing carried out: how many orders, and the fields behind -/
def gP (t : Nat → Int32) (n : Nat) : Nat → Nat → Nat → Int32 → Int32 → Nat × TO
  | 0, k, p, b, c => (k + 1, pOrd t n p b c)
  | f + 1, k, p, b, c =>
    if (pOrd t n p b c).1.2 = true then (k + 1, pOrd t n p b c)
    else if n ≤ (pOrd t n p b c).1.1 then (k + 1, pOrd t n p b c)
    else if (sg t n (nI 59) (pOrd t n p b c).1).2 = true then (k + 1, (sg t n (nI 59) (pOrd t n p b c).1, (pOrd t n p b c).2))
    else gP t n f (k + 1) (sg t n (nI 59) (pOrd t n p b c).1).1 (pOrd t n p b c).2.2.2.1 (pOrd t n p b c).2.2.2.2.1
def doO (Z : MI) (o : TO) : Int32 × MI := pDo Z o.2.1 o.2.2.1 o.2.2.2.1 o.2.2.2.2.1 o.2.2.2.2.2
/-- the text gone through, its orders carried out -/
def gD (t : Nat → Int32) (n : Nat) : Nat → Nat → Nat → MI → Int32 → Int32 → Int32 × MI × Option (Int32 × Int32) × TO
  | 0, k, p, Z, b, c => (nI (k + 1), (doO Z (pOrd t n p b c)).2, none, pOrd t n p b c)
  | f + 1, k, p, Z, b, c =>
    if (doO Z (pOrd t n p b c)).1 < 0 ∧ ¬ (doO Z (pOrd t n p b c)).1 = -5 then (-4, (doO Z (pOrd t n p b c)).2, some (nI k, (doO Z (pOrd t n p b c)).1), pOrd t n p b c)
    else if (pOrd t n p b c).1.2 = true then (nI (k + 1), (doO Z (pOrd t n p b c)).2, none, pOrd t n p b c)
    else if n ≤ (pOrd t n p b c).1.1 then (nI (k + 1), (doO Z (pOrd t n p b c)).2, none, pOrd t n p b c)
    else if (sg t n (nI 59) (pOrd t n p b c).1).2 = true then (nI (k + 1), (doO Z (pOrd t n p b c)).2, none, (sg t n (nI 59) (pOrd t n p b c).1, (pOrd t n p b c).2))
    else gD t n f (k + 1) (sg t n (nI 59) (pOrd t n p b c).1).1 (doO Z (pOrd t n p b c)).2 (pOrd t n p b c).2.2.2.1 (pOrd t n p b c).2.2.2.2.1
def stF (φ : Nat → Int32) (o : Option (Int32 × Int32)) : Nat → Int32 := match o with
  | none => φ
  | some q => upd (upd φ 8 q.1) 9 q.2
theorem PF_u8 {φ : Nat → Int32} {s : Nat × Bool} {l a b c d v : Int32} {j : Nat} (h : j < 10) : upd (PF φ s l a b c d) j v = PF (upd φ j v) s l a b c d := by
  funext i
  by_cases hi : i = j
  · subst hi; rw [PF_lo h]; simp [upd]
  · simp only [upd, PF, if_neg hi]
theorem sg_gt {t : Nat → Int32} {n : Nat} {c : Int32} {s : Nat × Bool} (h : (sg t n c s).2 = false) : (sg t n c s).1 = s.1 + 1 := by
  unfold sg at h ⊢
  split at h
  · cases h
  · split at h
    · rename_i h1 h2; rw [if_neg h1, if_pos h2]
    · cases h
section ML
variable {I : MI} {R : MR} {φ α β κ τ : Nat → Int32} {Z : MI} {s : Nat × Bool} {l a b c d : Int32} {n p : Nat}
theorem MM_u8 {v : Int32} : MM I (upd (PF φ s l a b c d) 8 v) Z α β κ τ = MM I (PF (upd φ 8 v) s l a b c d) Z α β κ τ := by rw [PF_u8 (by omega)]
theorem MM_u9 {v : Int32} : MM I (upd (PF φ s l a b c d) 9 v) Z α β κ τ = MM I (PF (upd φ 9 v) s l a b c d) Z α β κ τ := by rw [PF_u8 (by omega)]
theorem sp_X6_does (hM : Md R) (hl : lt5 l) (hN : N5 Z) (hW : ∀ j, WT (pTk Z j)) : Spd mX6_does [.ref 131] (MM I (PF φ s l a b c d) Z α β κ τ) R (some (.int (pDo Z l a b c d).1)) (MM I (PF φ s l a b c d) (pDo Z l a b c d).2 α β κ τ) := by
  refine Spd.mk (by decide +kernel) (by simp [Value.category]) (Nat.le_of_ble_eq_true rfl) (fun g cx => ?_)
  rcases hl with rfl | rfl | rfl | rfl | rfl
  · skip
    have e : pDo Z (nI 114) a b c d = pRun Z a := by unfold pDo; rw [if_pos rfl]
    rw [e]
    refine x_aload_n dX6_does_0 rfl rfl ?_
    refine x_getM fl_X6_167 dX6_does_1 rfl (x_eqtop PF_12 ?_)
    refine x_lookup (off := 44) 48 dX6_does_4 (by decide) (by decide) (by decide) ?_
    refine x_aload_n dX6_does_48 rfl rfl ?_
    refine x_aload_n dX6_does_49 rfl rfl ?_
    refine x_getM fl_X6_176 dX6_does_50 rfl (x_eqtop PF_13 ?_)
    refine x_callVd0 (mt' := mX6_runs) (sp_X6_runs hM _ hW) kvX6_runs wl_X6_147 (by decide) dX6_does_53 xk_131 (by decide) rfl rfl (Nat.le_of_ble_eq_true rfl) ⟨rfl, rfl⟩ (by decide) ?_
    refine x_iret dX6_does_56 rfl (by decide) (by decide) ?_
    exact ⟨rfl, rfl, rfl, rfl⟩
  · skip
    have e : pDo Z (nI 104) a b c d = pHear Z a b := by unfold pDo; rw [if_neg (by decide), if_pos rfl]
    rw [e]
    refine x_aload_n dX6_does_0 rfl rfl ?_
    refine x_getM fl_X6_167 dX6_does_1 rfl (x_eqtop PF_12 ?_)
    refine x_lookup (off := 53) 57 dX6_does_4 (by decide) (by decide) (by decide) ?_
    refine x_aload_n dX6_does_57 rfl rfl ?_
    refine x_aload_n dX6_does_58 rfl rfl ?_
    refine x_getM fl_X6_176 dX6_does_59 rfl (x_eqtop PF_13 ?_)
    refine x_aload_n dX6_does_62 rfl rfl ?_
    refine x_getM fl_X6_182 dX6_does_63 rfl (x_eqtop PF_14 ?_)
    refine x_callVd0 (mt' := mX6_hears) (sp_X6_hears hM _ _) kvX6_hears wl_X6_135 (by decide) dX6_does_66 xk_131 (by decide) rfl rfl (Nat.le_of_ble_eq_true rfl) ⟨rfl, rfl⟩ (by decide) ?_
    refine x_iret dX6_does_69 rfl (by decide) (by decide) ?_
    exact ⟨rfl, rfl, rfl, rfl⟩
  · skip
    have e : pDo Z (nI 111) a b c d = pHold Z a b := by unfold pDo; rw [if_neg (by decide), if_neg (by decide), if_pos rfl]
    rw [e]
    refine x_aload_n dX6_does_0 rfl rfl ?_
    refine x_getM fl_X6_167 dX6_does_1 rfl (x_eqtop PF_12 ?_)
    refine x_lookup (off := 66) 70 dX6_does_4 (by decide) (by decide) (by decide) ?_
    refine x_aload_n dX6_does_70 rfl rfl ?_
    refine x_aload_n dX6_does_71 rfl rfl ?_
    refine x_getM fl_X6_176 dX6_does_72 rfl (x_eqtop PF_13 ?_)
    refine x_aload_n dX6_does_75 rfl rfl ?_
    refine x_getM fl_X6_182 dX6_does_76 rfl (x_eqtop PF_14 ?_)
    refine x_callVd0 (mt' := mX6_holds) (sp_X6_holds hM _ _) kvX6_holds wl_X6_138 (by decide) dX6_does_79 xk_131 (by decide) rfl rfl (Nat.le_of_ble_eq_true rfl) ⟨rfl, rfl⟩ (by decide) ?_
    refine x_iret dX6_does_82 rfl (by decide) (by decide) ?_
    exact ⟨rfl, rfl, rfl, rfl⟩
  · skip
    have e : pDo Z (nI 116) a b c d = pStick Z a b := by unfold pDo; rw [if_neg (by decide), if_neg (by decide), if_neg (by decide), if_pos rfl]
    rw [e]
    refine x_aload_n dX6_does_0 rfl rfl ?_
    refine x_getM fl_X6_167 dX6_does_1 rfl (x_eqtop PF_12 ?_)
    refine x_lookup (off := 79) 83 dX6_does_4 (by decide) (by decide) (by decide) ?_
    refine x_aload_n dX6_does_83 rfl rfl ?_
    refine x_aload_n dX6_does_84 rfl rfl ?_
    refine x_getM fl_X6_176 dX6_does_85 rfl (x_eqtop PF_13 ?_)
    refine x_aload_n dX6_does_88 rfl rfl ?_
    refine x_getM fl_X6_182 dX6_does_89 rfl (x_eqtop PF_14 ?_)
    refine x_callVd0 (mt' := mX6_sticks) (sp_X6_sticks hM _ _) kvX6_sticks wl_X6_141 (by decide) dX6_does_92 xk_131 (by decide) rfl rfl (Nat.le_of_ble_eq_true rfl) ⟨rfl, rfl⟩ (by decide) ?_
    refine x_iret dX6_does_95 rfl (by decide) (by decide) ?_
    exact ⟨rfl, rfl, rfl, rfl⟩
  · skip
    have e : pDo Z (nI 115) a b c d = pSay Z a b c d := by unfold pDo; rw [if_neg (by decide), if_neg (by decide), if_neg (by decide), if_neg (by decide)]
    rw [e]
    refine x_aload_n dX6_does_0 rfl rfl ?_
    refine x_getM fl_X6_167 dX6_does_1 rfl (x_eqtop PF_12 ?_)
    refine x_lookup (off := 92) 96 dX6_does_4 (by decide) (by decide) (by decide) ?_
    refine x_aload_n dX6_does_96 rfl rfl ?_
    refine x_aload_n dX6_does_97 rfl rfl ?_
    refine x_getM fl_X6_176 dX6_does_98 rfl (x_eqtop PF_13 ?_)
    refine x_aload_n dX6_does_101 rfl rfl ?_
    refine x_getM fl_X6_182 dX6_does_102 rfl (x_eqtop PF_14 ?_)
    refine x_aload_n dX6_does_105 rfl rfl ?_
    refine x_getM fl_X6_185 dX6_does_106 rfl (x_eqtop PF_15 ?_)
    refine x_aload_n dX6_does_109 rfl rfl ?_
    refine x_getM fl_X6_170 dX6_does_110 rfl (x_eqtop PF_16 ?_)
    refine x_callVd0 (mt' := mX6_says) (sp_X6_says hM _ _ _ _ hN) kvX6_says wl_X6_125 (by decide) dX6_does_113 xk_131 (by decide) rfl rfl (Nat.le_of_ble_eq_true rfl) ⟨rfl, rfl⟩ (by decide) ?_
    refine x_iret dX6_does_116 rfl (by decide) (by decide) ?_
    exact ⟨rfl, rfl, rfl, rfl⟩
theorem lp_X6_goP (hM : Md R) (hn : φ 7 = nI n) (hn80 : n ≤ 80) {g : GX} {cx : CX} {F : State → Prop} : ∀ (f k p : Nat) (l a b c d : Int32) (u v : Option Value), n < p + f → p ≤ n → (∀ l0 : List (Option Value), X g cx mX6_go F (0, 0) 127 (some (.ref 131) :: some (.int (bi false)) :: some (.int (nI (gP τ n f k p b c).1)) :: l0) [] 137 (MM I (PO φ (gP τ n f k p b c).2) Z α β κ τ) R) → X g cx mX6_go F (0, 0) 14 [some (.ref 131), some (.int (bi false)), some (.int (nI k)), some (.int (nI 1)), u, v] [] 137 (MM I (PF φ (p, false) l a b c d) Z α β κ τ) R := by
  intro f
  induction f with
  | zero => intro k p l a b c d u v h1 h2; omega
  | succ f ih =>
    intro k p l a b c d u v h1 h2 hx
    have hle := pOrd_le (t := τ) (b := b) (c := c) h2
    have hge := pOrd_ge (t := τ) (n := n) (p := p) (b := b) (c := c)
    generalize ho : pOrd τ n p b c = o at hle hge
    refine x_iload_n dX6_go_14 rfl rfl ?_
    refine x_if_eqF dX6_go_15 (by decide) ?_ 127 (by decide)
    refine x_aload_n dX6_go_18 rfl rfl ?_
    refine x_callVd0 (mt' := mX6_order) (sp_X6_order hM hn hn80 h2) kvX6_order wl_X6_188 (by decide) dX6_go_19 xk_131 (by decide) rfl rfl (Nat.le_of_ble_eq_true rfl) ⟨rfl, rfl⟩ (by decide) ?_
    rw [ho]
    unfold PO
    refine x_iload_n dX6_go_22 rfl rfl ?_
    refine x_if_eqT 33 dX6_go_23 (by decide) (rfl) ?_
    refine x_iconst (nI 0) dX6_go_33 (by decide) ?_
    refine x_istore dX6_go_34 (by decide) ?_
    refine x_iload dX6_go_36 rfl ?_
    refine x_if_geT 52 dX6_go_38 (by decide) (by decide) ?_
    refine x_iconst (nI 0) dX6_go_52 (by decide) ?_
    refine x_istore dX6_go_53 (by decide) ?_
    refine x_iload dX6_go_55 rfl ?_
    refine x_if_eqT 74 dX6_go_57 (by decide) (rfl) ?_
    refine x_iincN 1 dX6_go_74 rfl (by decide) (by decide) ?_
    refine x_aload_n dX6_go_77 rfl rfl ?_
    refine x_getM fl_X6_153 dX6_go_78 rfl (x_eqtop PF_11 ?_)
    refine x_if_ne 99 dX6_go_81 (by decide) (fun c81 => ?_) (fun c81 => ?_)
    · skip
      have e : gP τ n (f + 1) k p b c = (k + 1, o) := by rw [gP, ho, if_pos (bi_nt c81)]
      rw [e] at hx
      refine x_iconst (nI 0) dX6_go_99 (by decide) ?_
      refine x_istore_n dX6_go_100 rfl (by decide) ?_
      refine x_iload_n dX6_go_101 rfl rfl ?_
      refine x_if_eqT 124 dX6_go_102 (by decide) (rfl) ?_
      refine x_goto 14 dX6_go_124 (by decide) ?_
      refine x_iload_n dX6_go_14 rfl rfl ?_
      refine x_if_eqT 127 dX6_go_15 (by decide) (rfl) ?_
      exact hx _
    · skip
      refine x_aload_n dX6_go_84 rfl rfl ?_
      refine x_getM fl_X6_157 dX6_go_85 rfl (x_eqtop PF_10 ?_)
      refine x_aload_n dX6_go_88 rfl rfl ?_
      refine x_getM fl_X6_150 dX6_go_89 rfl (x_eqtop ((PF_lo (by omega)).trans hn) ?_)
      refine x_icmp_geN 99 dX6_go_92 (by decide) (by omega) (by omega) (fun c92 => ?_) (fun c92 => ?_)
      · skip
        have e : gP τ n (f + 1) k p b c = (k + 1, o) := by rw [gP, ho, if_neg (bi_t c81), if_pos c92]
        rw [e] at hx
        refine x_iconst (nI 0) dX6_go_99 (by decide) ?_
        refine x_istore_n dX6_go_100 rfl (by decide) ?_
        refine x_iload_n dX6_go_101 rfl rfl ?_
        refine x_if_eqT 124 dX6_go_102 (by decide) (rfl) ?_
        refine x_goto 14 dX6_go_124 (by decide) ?_
        refine x_iload_n dX6_go_14 rfl rfl ?_
        refine x_if_eqT 127 dX6_go_15 (by decide) (rfl) ?_
        exact hx _
      · skip
        refine x_iconst (nI 1) dX6_go_95 (by decide) ?_
        refine x_goto 100 dX6_go_96 (by decide) ?_
        refine x_istore_n dX6_go_100 rfl (by decide) ?_
        refine x_iload_n dX6_go_101 rfl rfl ?_
        refine x_if_eqF dX6_go_102 (by decide) ?_ 124 (by decide)
        refine x_aload_n dX6_go_105 rfl rfl ?_
        refine x_bipush (nI 59) dX6_go_106 (by decide) ?_
        refine x_callVd0 (mt' := mX6_sign) (sp_X6_sign hM hn hn80 hle _) kvX6_sign wl_X6_160 (by decide) dX6_go_108 xk_131 (by decide) rfl rfl (Nat.le_of_ble_eq_true rfl) ⟨rfl, rfl⟩ (by decide) ?_
        refine x_aload_n dX6_go_111 rfl rfl ?_
        refine x_getM fl_X6_153 dX6_go_112 rfl (x_eqtop PF_11 ?_)
        refine x_if_ne 122 dX6_go_115 (by decide) (fun c115 => ?_) (fun c115 => ?_)
        · skip
          have e : gP τ n (f + 1) k p b c = (k + 1, (sg τ n (nI 59) o.1, o.2)) := by rw [gP, ho, if_neg (bi_t c81), if_neg c92, if_pos (bi_nt c115)]
          rw [e] at hx
          refine x_iconst (nI 0) dX6_go_122 (by decide) ?_
          refine x_istore_n dX6_go_123 rfl (by decide) ?_
          refine x_goto 14 dX6_go_124 (by decide) ?_
          refine x_iload_n dX6_go_14 rfl rfl ?_
          refine x_if_eqT 127 dX6_go_15 (by decide) (rfl) ?_
          exact hx _
        · skip
          have e : gP τ n (f + 1) k p b c = gP τ n f (k + 1) (sg τ n (nI 59) o.1).1 o.2.2.2.1 o.2.2.2.2.1 := by rw [gP, ho, if_neg (bi_t c81), if_neg c92, if_neg (bi_t c115)]
          rw [e] at hx
          have hs2 := bi_0.mp c115
          have hs1 := sg_gt hs2
          have hs3 := sg_le (t := τ) (c := nI 59) hle
          refine x_iconst (nI 1) dX6_go_118 (by decide) ?_
          refine x_goto 123 dX6_go_119 (by decide) ?_
          refine x_istore_n dX6_go_123 rfl (by decide) ?_
          refine x_goto 14 dX6_go_124 (by decide) ?_
          refine x_eqI (I' := MM I (PF φ ((sg τ n (nI 59) o.1).1, false) o.2.1 o.2.2.1 o.2.2.2.1 o.2.2.2.2.1 o.2.2.2.2.2) Z α β κ τ) (by rw [← hs2]) ?_
          exact ih (k + 1) _ _ _ _ _ _ _ _ (by omega) (by omega) hx
end ML
