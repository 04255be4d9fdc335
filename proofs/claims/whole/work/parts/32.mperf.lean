/-! the reference: perform -/
def goQ (I : MI) (R : MR) (φ α β κ τ : Nat → Int32) (G : Int32 × MI × Option (Int32 × Int32) × TO) : XQ := fun r n I2 R2 => r = some (.int G.1) ∧ n = 137 ∧ I2 = MM I (PO (stF φ G.2.2.1) G.2.2.2) G.2.1 α β κ τ ∧ R2 = R
theorem PF_any (φ : Nat → Int32) : φ = PF φ ((φ 10).toNatClampNeg, decide (¬ φ 11 = 0)) (φ 12) (φ 13) (φ 14) (φ 15) (φ 16) ∨ True := Or.inr trivial
section ML
variable {I : MI} {R : MR} {φ α β κ τ : Nat → Int32} {Z : MI} {s : Nat × Bool} {l a b c d : Int32} {n p : Nat}
theorem lp_X6_goD (hM : Md R) (hn : φ 7 = nI n) (hn80 : n ≤ 80) (Iv : MI → Prop) (hI : ∀ Z, Iv Z → N5 Z ∧ ∀ j, WT (pTk Z j)) (hD : ∀ Z l a b c d, Iv Z → Iv (pDo Z l a b c d).2) {g : GX} {cx : CX} : ∀ (f k p : Nat) (Z : MI) (l a b c d : Int32) (u v : Option Value) (G : Int32 × MI × Option (Int32 × Int32) × TO), n < p + f → p ≤ n → Iv Z → gD τ n f k p Z b c = G → X g cx mX6_go (xF g cx mX6_go (goQ I R φ α β κ τ G)) (0, 0) 14 [some (.ref 131), some (.int (bi true)), some (.int (nI k)), some (.int (nI 1)), u, v] [] 137 (MM I (PF φ (p, false) l a b c d) Z α β κ τ) R := by
  intro f
  induction f with
  | zero => intro k p Z l a b c d u v G h1 h2; omega
  | succ f ih =>
    intro k p Z l a b c d u v G h1 h2 hZ hG
    have hle := pOrd_le (t := τ) (b := b) (c := c) h2
    have hge := pOrd_ge (t := τ) (n := n) (p := p) (b := b) (c := c)
    have hl5 := pOrd_l τ n p b c
    generalize ho : pOrd τ n p b c = o at hle hge hl5
    obtain ⟨hN, hW⟩ := hI Z hZ
    have hZ2 : Iv (doO Z o).2 := hD Z _ _ _ _ _ hZ
    rw [gD, ho] at hG
    refine x_iload_n dX6_go_14 rfl rfl ?_
    refine x_if_eqF dX6_go_15 (by decide) ?_ 127 (by decide)
    refine x_aload_n dX6_go_18 rfl rfl ?_
    refine x_callVd0 (mt' := mX6_order) (sp_X6_order hM hn hn80 h2) kvX6_order wl_X6_188 (by decide) dX6_go_19 xk_131 (by decide) rfl rfl (Nat.le_of_ble_eq_true rfl) ⟨rfl, rfl⟩ (by decide) ?_
    rw [ho]
    unfold PO
    refine x_iload_n dX6_go_22 rfl rfl ?_
    refine x_if_eqF dX6_go_23 (by decide) ?_ 33 (by decide)
    refine x_aload_n dX6_go_26 rfl rfl ?_
    refine x_callVd0 (mt' := mX6_does) (sp_X6_does hM hl5 hN hW) kvX6_does wl_X6_191 (by decide) dX6_go_27 xk_131 (by decide) rfl rfl (Nat.le_of_ble_eq_true rfl) ⟨rfl, rfl⟩ (by decide) ?_
    refine x_eqI (I' := MM I (PF φ o.1 o.2.1 o.2.2.1 o.2.2.2.1 o.2.2.2.2.1 o.2.2.2.2.2) (doO Z o).2 α β κ τ) rfl ?_
    refine x_eqtop (y := (doO Z o).1) rfl ?_
    refine x_goto 34 dX6_go_30 (by decide) ?_
    refine x_istore dX6_go_34 (by decide) ?_
    refine x_iload dX6_go_36 rfl ?_
    refine x_if_ge 52 dX6_go_38 (by decide) (fun c38 => ?_) (fun c38 => ?_)
    · skip
      rw [if_neg (fun q => Int32.not_lt.mpr c38 q.1)] at hG
      refine x_iconst (nI 0) dX6_go_52 (by decide) ?_
      refine x_istore dX6_go_53 (by decide) ?_
      refine x_iload dX6_go_55 rfl ?_
      refine x_if_eqT 74 dX6_go_57 (by decide) (rfl) ?_
      refine x_iincN 1 dX6_go_74 rfl (by decide) (by decide) ?_
      refine x_aload_n dX6_go_77 rfl rfl ?_
      refine x_getM fl_X6_153 dX6_go_78 rfl (x_eqtop PF_11 ?_)
      refine x_if_ne 99 dX6_go_81 (by decide) (fun c81 => ?_) (fun c81 => ?_)
      · skip
        rw [if_pos (bi_nt c81)] at hG
        subst hG
        refine x_iconst (nI 0) dX6_go_99 (by decide) ?_
        refine x_istore_n dX6_go_100 rfl (by decide) ?_
        refine x_iload_n dX6_go_101 rfl rfl ?_
        refine x_if_eqT 124 dX6_go_102 (by decide) (rfl) ?_
        refine x_goto 14 dX6_go_124 (by decide) ?_
        refine x_iload_n dX6_go_14 rfl rfl ?_
        refine x_if_eqT 127 dX6_go_15 (by decide) (rfl) ?_
        refine x_iload_n dX6_go_127 rfl rfl ?_
        refine x_iret dX6_go_128 rfl (by decide) (by decide) ?_
        exact ⟨rfl, rfl, rfl, rfl⟩
      · skip
        refine x_aload_n dX6_go_84 rfl rfl ?_
        refine x_getM fl_X6_157 dX6_go_85 rfl (x_eqtop PF_10 ?_)
        refine x_aload_n dX6_go_88 rfl rfl ?_
        refine x_getM fl_X6_150 dX6_go_89 rfl (x_eqtop ((PF_lo (by omega)).trans hn) ?_)
        refine x_icmp_geN 99 dX6_go_92 (by decide) (by omega) (by omega) (fun c92 => ?_) (fun c92 => ?_)
        · skip
          rw [if_neg (bi_t c81), if_pos c92] at hG
          subst hG
          refine x_iconst (nI 0) dX6_go_99 (by decide) ?_
          refine x_istore_n dX6_go_100 rfl (by decide) ?_
          refine x_iload_n dX6_go_101 rfl rfl ?_
          refine x_if_eqT 124 dX6_go_102 (by decide) (rfl) ?_
          refine x_goto 14 dX6_go_124 (by decide) ?_
          refine x_iload_n dX6_go_14 rfl rfl ?_
          refine x_if_eqT 127 dX6_go_15 (by decide) (rfl) ?_
          refine x_iload_n dX6_go_127 rfl rfl ?_
          refine x_iret dX6_go_128 rfl (by decide) (by decide) ?_
          exact ⟨rfl, rfl, rfl, rfl⟩
        · skip
          refine x_iconst (nI 1) dX6_go_95 (by decide) ?_
          refine x_goto 100 dX6_go_96 (by decide) ?_
          refine x_istore_n dX6_go_100 rfl (by decide) ?_
          refine x_iload_n dX6_go_101 rfl rfl ?_
          refine x_if_eqF dX6_go_102 (by decide) ?_ 124 (by decide)
          refine x_aload_n dX6_go_105 rfl rfl ?_
          refine x_bipush (nI 59) dX6_go_106 (by decide) ?_
          refine x_callVd0 (mt' := mX6_sign) (sp_X6_sign hM hn hn80 hle _) kvX6_sign wl_X6_160 (by decide) dX6_go_108 xk_131 (by decide) rfl rfl (Nat.le_of_ble_eq_true rfl) ⟨rfl, rfl⟩ (by decide) ?_
          refine x_aload_n dX6_go_111 rfl rfl ?_
          refine x_getM fl_X6_153 dX6_go_112 rfl (x_eqtop PF_11 ?_)
          refine x_if_ne 122 dX6_go_115 (by decide) (fun c115 => ?_) (fun c115 => ?_)
          · skip
            rw [if_neg (bi_t c81), if_neg c92, if_pos (bi_nt c115)] at hG
            subst hG
            refine x_iconst (nI 0) dX6_go_122 (by decide) ?_
            refine x_istore_n dX6_go_123 rfl (by decide) ?_
            refine x_goto 14 dX6_go_124 (by decide) ?_
            refine x_iload_n dX6_go_14 rfl rfl ?_
            refine x_if_eqT 127 dX6_go_15 (by decide) (rfl) ?_
            refine x_iload_n dX6_go_127 rfl rfl ?_
            refine x_iret dX6_go_128 rfl (by decide) (by decide) ?_
            exact ⟨rfl, rfl, rfl, rfl⟩
          · skip
            rw [if_neg (bi_t c81), if_neg c92, if_neg (bi_t c115)] at hG
            have hs2 := bi_0.mp c115
            have hs1 := sg_gt hs2
            have hs3 := sg_le (t := τ) (c := nI 59) hle
            refine x_iconst (nI 1) dX6_go_118 (by decide) ?_
            refine x_goto 123 dX6_go_119 (by decide) ?_
            refine x_istore_n dX6_go_123 rfl (by decide) ?_
            refine x_goto 14 dX6_go_124 (by decide) ?_
            refine x_eqI (I' := MM I (PF φ ((sg τ n (nI 59) o.1).1, false) o.2.1 o.2.2.1 o.2.2.2.1 o.2.2.2.2.1 o.2.2.2.2.2) (doO Z o).2 α β κ τ) (by rw [← hs2]) ?_
            exact ih (k + 1) _ _ _ _ _ _ _ _ _ G (by omega) (by omega) hZ2 hG
    · skip
      refine x_iload dX6_go_41 rfl ?_
      refine x_bipush (-5) dX6_go_43 (by decide) ?_
      refine x_icmp_eq 52 dX6_go_45 (by decide) (fun c45 => ?_) (fun c45 => ?_)
      · skip
        rw [if_neg (fun q => q.2 c45)] at hG
        refine x_iconst (nI 0) dX6_go_52 (by decide) ?_
        refine x_istore dX6_go_53 (by decide) ?_
        refine x_iload dX6_go_55 rfl ?_
        refine x_if_eqT 74 dX6_go_57 (by decide) (rfl) ?_
        refine x_iincN 1 dX6_go_74 rfl (by decide) (by decide) ?_
        refine x_aload_n dX6_go_77 rfl rfl ?_
        refine x_getM fl_X6_153 dX6_go_78 rfl (x_eqtop PF_11 ?_)
        refine x_if_ne 99 dX6_go_81 (by decide) (fun c81 => ?_) (fun c81 => ?_)
        · skip
          rw [if_pos (bi_nt c81)] at hG
          subst hG
          refine x_iconst (nI 0) dX6_go_99 (by decide) ?_
          refine x_istore_n dX6_go_100 rfl (by decide) ?_
          refine x_iload_n dX6_go_101 rfl rfl ?_
          refine x_if_eqT 124 dX6_go_102 (by decide) (rfl) ?_
          refine x_goto 14 dX6_go_124 (by decide) ?_
          refine x_iload_n dX6_go_14 rfl rfl ?_
          refine x_if_eqT 127 dX6_go_15 (by decide) (rfl) ?_
          refine x_iload_n dX6_go_127 rfl rfl ?_
          refine x_iret dX6_go_128 rfl (by decide) (by decide) ?_
          exact ⟨rfl, rfl, rfl, rfl⟩
        · skip
          refine x_aload_n dX6_go_84 rfl rfl ?_
          refine x_getM fl_X6_157 dX6_go_85 rfl (x_eqtop PF_10 ?_)
          refine x_aload_n dX6_go_88 rfl rfl ?_
          refine x_getM fl_X6_150 dX6_go_89 rfl (x_eqtop ((PF_lo (by omega)).trans hn) ?_)
          refine x_icmp_geN 99 dX6_go_92 (by decide) (by omega) (by omega) (fun c92 => ?_) (fun c92 => ?_)
          · skip
            rw [if_neg (bi_t c81), if_pos c92] at hG
            subst hG
            refine x_iconst (nI 0) dX6_go_99 (by decide) ?_
            refine x_istore_n dX6_go_100 rfl (by decide) ?_
            refine x_iload_n dX6_go_101 rfl rfl ?_
            refine x_if_eqT 124 dX6_go_102 (by decide) (rfl) ?_
            refine x_goto 14 dX6_go_124 (by decide) ?_
            refine x_iload_n dX6_go_14 rfl rfl ?_
            refine x_if_eqT 127 dX6_go_15 (by decide) (rfl) ?_
            refine x_iload_n dX6_go_127 rfl rfl ?_
            refine x_iret dX6_go_128 rfl (by decide) (by decide) ?_
            exact ⟨rfl, rfl, rfl, rfl⟩
          · skip
            refine x_iconst (nI 1) dX6_go_95 (by decide) ?_
            refine x_goto 100 dX6_go_96 (by decide) ?_
            refine x_istore_n dX6_go_100 rfl (by decide) ?_
            refine x_iload_n dX6_go_101 rfl rfl ?_
            refine x_if_eqF dX6_go_102 (by decide) ?_ 124 (by decide)
            refine x_aload_n dX6_go_105 rfl rfl ?_
            refine x_bipush (nI 59) dX6_go_106 (by decide) ?_
            refine x_callVd0 (mt' := mX6_sign) (sp_X6_sign hM hn hn80 hle _) kvX6_sign wl_X6_160 (by decide) dX6_go_108 xk_131 (by decide) rfl rfl (Nat.le_of_ble_eq_true rfl) ⟨rfl, rfl⟩ (by decide) ?_
            refine x_aload_n dX6_go_111 rfl rfl ?_
            refine x_getM fl_X6_153 dX6_go_112 rfl (x_eqtop PF_11 ?_)
            refine x_if_ne 122 dX6_go_115 (by decide) (fun c115 => ?_) (fun c115 => ?_)
            · skip
              rw [if_neg (bi_t c81), if_neg c92, if_pos (bi_nt c115)] at hG
              subst hG
              refine x_iconst (nI 0) dX6_go_122 (by decide) ?_
              refine x_istore_n dX6_go_123 rfl (by decide) ?_
              refine x_goto 14 dX6_go_124 (by decide) ?_
              refine x_iload_n dX6_go_14 rfl rfl ?_
              refine x_if_eqT 127 dX6_go_15 (by decide) (rfl) ?_
              refine x_iload_n dX6_go_127 rfl rfl ?_
              refine x_iret dX6_go_128 rfl (by decide) (by decide) ?_
              exact ⟨rfl, rfl, rfl, rfl⟩
            · skip
              rw [if_neg (bi_t c81), if_neg c92, if_neg (bi_t c115)] at hG
              have hs2 := bi_0.mp c115
              have hs1 := sg_gt hs2
              have hs3 := sg_le (t := τ) (c := nI 59) hle
              refine x_iconst (nI 1) dX6_go_118 (by decide) ?_
              refine x_goto 123 dX6_go_119 (by decide) ?_
              refine x_istore_n dX6_go_123 rfl (by decide) ?_
              refine x_goto 14 dX6_go_124 (by decide) ?_
              refine x_eqI (I' := MM I (PF φ ((sg τ n (nI 59) o.1).1, false) o.2.1 o.2.2.1 o.2.2.2.1 o.2.2.2.2.1 o.2.2.2.2.2) (doO Z o).2 α β κ τ) (by rw [← hs2]) ?_
              exact ih (k + 1) _ _ _ _ _ _ _ _ _ G (by omega) (by omega) hZ2 hG
      · skip
        rw [if_pos ⟨Int32.not_le.mp c38, c45⟩] at hG
        subst hG
        refine x_iconst (nI 1) dX6_go_48 (by decide) ?_
        refine x_goto 53 dX6_go_49 (by decide) ?_
        refine x_istore dX6_go_53 (by decide) ?_
        refine x_iload dX6_go_55 rfl ?_
        refine x_if_eqF dX6_go_57 (by decide) ?_ 74 (by decide)
        refine x_aload_n dX6_go_60 rfl rfl ?_
        refine x_iload_n dX6_go_61 rfl rfl ?_
        refine x_putM fl_X6_25 fp_6_8 dX6_go_62 rfl rfl rfl (x_eqI MM_u8 ?_)
        refine x_aload_n dX6_go_65 rfl rfl ?_
        refine x_iload dX6_go_66 rfl ?_
        refine x_putM fl_X6_194 fp_6_9 dX6_go_68 rfl rfl rfl (x_eqI MM_u9 ?_)
        refine x_bipush (-4) dX6_go_71 (by decide) ?_
        refine x_iret dX6_go_73 rfl (by decide) (by decide) ?_
        exact ⟨rfl, rfl, rfl, rfl⟩
theorem sp_X6_goP (hM : Md R) (hn : φ 7 = nI n) (hn80 : n ≤ 80) : Spd mX6_go [.ref 131, .int (bi false)] (MM I (PF φ s l a b c d) Z α β κ τ) R (some (.int (nI (gP τ n 81 0 0 b c).1))) (MM I (PO φ (gP τ n 81 0 0 b c).2) Z α β κ τ) := by
  refine Spd.mk (by decide +kernel) (by simp [Value.category]) (Nat.le_of_ble_eq_true rfl) (fun g cx => ?_)
  refine x_aload_n dX6_go_0 rfl rfl ?_
  refine x_iconst (nI 0) dX6_go_1 (by decide) ?_
  refine x_putM fl_X6_157 fp_6_10 dX6_go_2 rfl rfl rfl (x_eqI MM_u10 ?_)
  refine x_aload_n dX6_go_5 rfl rfl ?_
  refine x_iconst (nI 0) dX6_go_6 (by decide) ?_
  refine x_putM fl_X6_153 fp_6_11 dX6_go_7 rfl rfl rfl (x_eqI (MM_u11 (w := false)) ?_)
  refine x_iconst (nI 0) dX6_go_10 (by decide) ?_
  refine x_istore_n dX6_go_11 rfl (by decide) ?_
  refine x_iconst (nI 1) dX6_go_12 (by decide) ?_
  refine x_istore_n dX6_go_13 rfl (by decide) ?_
  refine lp_X6_goP hM hn hn80 81 0 0 _ _ _ _ _ _ _ (by omega) (by omega) (fun l0 => ?_)
  refine x_iload_n dX6_go_127 rfl rfl ?_
  refine x_iret dX6_go_128 rfl (by decide) (by decide) ?_
  exact ⟨rfl, rfl, rfl, rfl⟩
theorem sp_X6_goD (hM : Md R) (hn : φ 7 = nI n) (hn80 : n ≤ 80) (Iv : MI → Prop) (hI : ∀ Z, Iv Z → N5 Z ∧ ∀ j, WT (pTk Z j)) (hD : ∀ Z l a b c d, Iv Z → Iv (pDo Z l a b c d).2) (hZ : Iv Z) : Sp mX6_go [.ref 131, .int (bi true)] 137 (MM I (PF φ s l a b c d) Z α β κ τ) R (goQ I R φ α β κ τ (gD τ n 81 0 0 Z b c)) := by
  refine Sp.mk (by decide +kernel) (by simp [Value.category]) (Nat.le_of_ble_eq_true rfl) (fun g cx => ?_)
  refine x_aload_n dX6_go_0 rfl rfl ?_
  refine x_iconst (nI 0) dX6_go_1 (by decide) ?_
  refine x_putM fl_X6_157 fp_6_10 dX6_go_2 rfl rfl rfl (x_eqI MM_u10 ?_)
  refine x_aload_n dX6_go_5 rfl rfl ?_
  refine x_iconst (nI 0) dX6_go_6 (by decide) ?_
  refine x_putM fl_X6_153 fp_6_11 dX6_go_7 rfl rfl rfl (x_eqI (MM_u11 (w := false)) ?_)
  refine x_iconst (nI 0) dX6_go_10 (by decide) ?_
  refine x_istore_n dX6_go_11 rfl (by decide) ?_
  refine x_iconst (nI 1) dX6_go_12 (by decide) ?_
  refine x_istore_n dX6_go_13 rfl (by decide) ?_
  exact lp_X6_goD hM hn hn80 Iv hI hD 81 0 0 Z _ _ _ _ _ _ _ _ (by omega) (by omega) hZ rfl
/-- what perform answers, and what it leaves -/
def pfG (τ : Nat → Int32) (n : Nat) (Z : MI) (b c : Int32) : Int32 × MI × Option (Int32 × Int32) × TO := gD τ n 81 0 0 Z (gP τ n 81 0 0 b c).2.2.2.2.1 (gP τ n 81 0 0 b c).2.2.2.2.2.1
theorem sp_X6_perform (hM : Md R) (hn : φ 7 = nI n) (hn80 : n ≤ 80) (Iv : MI → Prop) (hI : ∀ Z, Iv Z → N5 Z ∧ ∀ j, WT (pTk Z j)) (hD : ∀ Z l a b c d, Iv Z → Iv (pDo Z l a b c d).2) (hZ : Iv Z) {h : Nat} (hh : φ 3 = nI h) (hh4 : h ≤ 4) : Sp mX6_perform [.ref 131] 137 (MM I (PF φ s l a b c d) Z α β κ τ) R (fun r n' I2 R2 => n' = 137 ∧ R2 = R ∧
    (((gP τ n 81 0 0 b c).2.1.2 = true ∧ r = some (.int (-100 - nI (gP τ n 81 0 0 b c).2.1.1)) ∧ I2 = MM I (PO φ (gP τ n 81 0 0 b c).2) Z α β κ τ) ∨
     ((gP τ n 81 0 0 b c).2.1.2 = false ∧ r = some (.int (pfG τ n Z b c).1) ∧ ((¬ (pfG τ n Z b c).1 < 0 ∧ I2 = MM I (pRecF (PO (stF φ (pfG τ n Z b c).2.2.1) (pfG τ n Z b c).2.2.2) h) (pfG τ n Z b c).2.1 (cpA (zf Z) α 375) (pRecB β (cpA (zf Z) α 375) h) κ τ) ∨ ((pfG τ n Z b c).1 < 0 ∧ I2 = MM I (PO (stF φ (pfG τ n Z b c).2.2.1) (pfG τ n Z b c).2.2.2) (pBk Z (pfG τ n Z b c).2.1) (cpA (zf Z) α 375) β κ τ))))) := by
  refine Sp.mk (by decide +kernel) (by simp [Value.category]) (Nat.le_of_ble_eq_true rfl) (fun g cx => ?_)
  have key : ∀ (v : Option Value) (G : Int32 × MI × Option (Int32 × Int32) × TO), G = pfG τ n Z b c → (gP τ n 81 0 0 b c).2.1.2 = false → X g cx mX6_perform (xF g cx mX6_perform (fun r n' I2 R2 => n' = 137 ∧ R2 = R ∧
    (((gP τ n 81 0 0 b c).2.1.2 = true ∧ r = some (.int (-100 - nI (gP τ n 81 0 0 b c).2.1.1)) ∧ I2 = MM I (PO φ (gP τ n 81 0 0 b c).2) Z α β κ τ) ∨
     ((gP τ n 81 0 0 b c).2.1.2 = false ∧ r = some (.int (pfG τ n Z b c).1) ∧ ((¬ (pfG τ n Z b c).1 < 0 ∧ I2 = MM I (pRecF (PO (stF φ (pfG τ n Z b c).2.2.1) (pfG τ n Z b c).2.2.2) h) (pfG τ n Z b c).2.1 (cpA (zf Z) α 375) (pRecB β (cpA (zf Z) α 375) h) κ τ) ∨ ((pfG τ n Z b c).1 < 0 ∧ I2 = MM I (PO (stF φ (pfG τ n Z b c).2.2.1) (pfG τ n Z b c).2.2.2) (pBk Z (pfG τ n Z b c).2.1) (cpA (zf Z) α 375) β κ τ)))))) (0, 0) 30 [some (.ref 131), v, none] [.int G.1] 137 (MM I (PO (stF φ G.2.2.1) G.2.2.2) G.2.1 (cpA (zf Z) α 375) β κ τ) R := by
    intro v G hG hw
    have hh2 : PO (stF φ G.2.2.1) G.2.2.2 3 = nI h := by
      unfold PO
      rw [PF_lo (by omega)]
      cases G.2.2.1 with
      | none => exact hh
      | some q => simp [stF, upd, hh]
    rw [← hG]
    refine x_istore_n dX6_perform_30 rfl (by decide) ?_
    refine x_iload_n dX6_perform_31 rfl rfl ?_
    refine x_if_ge 39 dX6_perform_32 (by decide) (fun c32 => ?_) (fun c32 => ?_)
    · skip
      have hneg : ¬ G.1 < 0 := by simpa using c32
      have e : ∀ A B : MI, (if G.1 < 0 then A else B) = B := fun A B => if_neg hneg
      refine x_aload_n dX6_perform_39 rfl rfl ?_
      refine x_iload_n dX6_perform_40 rfl rfl ?_
      refine x_callVd0 (mt' := mX6_act) (sp_X6_act hM _ hh2 hh4) kvX6_act wl_X6_129 (by decide) dX6_perform_41 xk_131 (by decide) rfl rfl (Nat.le_of_ble_eq_true rfl) ⟨rfl, rfl⟩ (by decide) ?_
      refine x_iret dX6_perform_44 rfl (by decide) (by decide) ?_
      rw [e]
      first
        | exact ⟨rfl, rfl, Or.inr ⟨hw, rfl, Or.inl ⟨hneg, rfl⟩⟩⟩
        | exact ⟨rfl, rfl, Or.inr ⟨hw, rfl, Or.inr ⟨hneg, by unfold pBk; rw [cpA_cpA]⟩⟩⟩
    · skip
      have hneg : G.1 < 0 := by simpa using c32
      have e : ∀ A B : MI, (if G.1 < 0 then A else B) = A := fun A B => if_pos hneg
      refine x_aload_n dX6_perform_35 rfl rfl ?_
      refine x_callVd0 (mt' := mX6_putBack) (sp_X6_putBack hM) kvX6_putBack wl_X6_201 (by decide) dX6_perform_36 xk_131 (by decide) rfl rfl (Nat.le_of_ble_eq_true rfl) ⟨rfl, rfl⟩ (by decide) ?_
      refine x_aload_n dX6_perform_39 rfl rfl ?_
      refine x_iload_n dX6_perform_40 rfl rfl ?_
      refine x_callVd0 (mt' := mX6_act) (sp_X6_act hM _ hh2 hh4) kvX6_act wl_X6_129 (by decide) dX6_perform_41 xk_131 (by decide) rfl rfl (Nat.le_of_ble_eq_true rfl) ⟨rfl, rfl⟩ (by decide) ?_
      refine x_iret dX6_perform_44 rfl (by decide) (by decide) ?_
      rw [e]
      first
        | exact ⟨rfl, rfl, Or.inr ⟨hw, rfl, Or.inl ⟨hneg, rfl⟩⟩⟩
        | exact ⟨rfl, rfl, Or.inr ⟨hw, rfl, Or.inr ⟨hneg, by unfold pBk; rw [cpA_cpA]⟩⟩⟩
  refine x_aload_n dX6_perform_0 rfl rfl ?_
  refine x_iconst (nI 0) dX6_perform_1 (by decide) ?_
  refine x_callVd0 (mt' := mX6_go) (sp_X6_goP hM hn hn80) kvX6_go wl_X6_197 (by decide) dX6_perform_2 xk_131 (by decide) rfl rfl (Nat.le_of_ble_eq_true rfl) ⟨rfl, rfl⟩ (by decide) ?_
  refine x_istore_n dX6_perform_5 rfl (by decide) ?_
  refine x_aload_n dX6_perform_6 rfl rfl ?_
  refine x_getM fl_X6_153 dX6_perform_7 rfl (x_eqtop (show PO φ (gP τ n 81 0 0 b c).2 11 = bi (gP τ n 81 0 0 b c).2.1.2 from PF_11) ?_)
  refine x_if_eq 21 dX6_perform_10 (by decide) (fun c10 => ?_) (fun c10 => ?_)
  · skip
    refine x_aload_n dX6_perform_21 rfl rfl ?_
    refine x_callVd0 (mt' := mX6_putAside) (sp_X6_putAside hM) kvX6_putAside wl_X6_122 (by decide) dX6_perform_22 xk_131 (by decide) rfl rfl (Nat.le_of_ble_eq_true rfl) ⟨rfl, rfl⟩ (by decide) ?_
    refine x_aload_n dX6_perform_25 rfl rfl ?_
    refine x_iconst (nI 1) dX6_perform_26 (by decide) ?_
    refine x_callV (mt' := mX6_go) (sp_X6_goD hM hn hn80 Iv hI hD hZ) kvX6_go wl_X6_197 (by decide) dX6_perform_27 xk_131 (by decide) rfl rfl (Nat.le_of_ble_eq_true rfl) (fun r n' I' R' h => ?_)
    obtain ⟨rfl, rfl, rfl, rfl⟩ := h
    exact key _ _ rfl (bi_0.mp c10)
  · skip
    refine x_bipush (-100) dX6_perform_13 (by decide) ?_
    refine x_aload_n dX6_perform_15 rfl rfl ?_
    refine x_getM fl_X6_157 dX6_perform_16 rfl (x_eqtop (show PO φ (gP τ n 81 0 0 b c).2 10 = nI (gP τ n 81 0 0 b c).2.1.1 from PF_10) ?_)
    refine x_isub dX6_perform_19 ?_
    refine x_iret dX6_perform_20 rfl (by decide) (by decide) ?_
    exact ⟨rfl, rfl, Or.inl ⟨bi_nt c10, rfl, rfl⟩⟩
end ML
