/-! the class: a number of the text *)
-/
theorem num_st {x c : Nat} (h : 48 ≤ c) : nI 10 * nI x + nI c - nI 48 = nI (10 * x + (c - 48)) := by
  rw [pk_mul, nI_add, pk_sub (by omega)]
  congr 1
  omega
theorem nmL_0 {t : Nat → Int32} {n p f : Nat} {hi : Int32} : nmL t n hi f p (nI 0) = (nI 0, p) := by
  cases f with
  | zero => rfl
  | succ f => unfold nmL; exact if_pos (by decide)
theorem nmL_d {t : Nat → Int32} {n p f x : Nat} {hi : Int32} (h : dg t n (p, false) = false) : nmL t n hi f p (nI x) = (nI x, p) := by
  cases f with
  | zero => rfl
  | succ f =>
    unfold nmL
    split
    · rfl
    · first | rfl | exact if_pos h
theorem nmL_b {t : Nat → Int32} {n p f x c m : Nat} (h48 : 48 ≤ c) (hc : t p = nI c) (hx : x < 1000) (hc2 : c ≤ 57) (hm : m ≤ 255) (h : m < 10 * x + (c - 48)) : nmL t n (nI m) f p (nI x) = (nI x, p) := by
  cases f with
  | zero => rfl
  | succ f =>
    unfold nmL
    split
    · rfl
    · split
      · rfl
      · rw [hc, num_st h48]
        exact if_pos ((nI_ltI (by omega) (by omega)).mpr h)
theorem nmL_y {t : Nat → Int32} {n p f x c m : Nat} (h1 : 1 ≤ x) (hd : dg t n (p, false) = true) (h48 : 48 ≤ c) (hc : t p = nI c) (hx : x < 1000) (hc2 : c ≤ 57) (hm : m ≤ 255) (h : ¬ m < 10 * x + (c - 48)) : nmL t n (nI m) (f + 1) p (nI x) = nmL t n (nI m) f (p + 1) (nI (10 * x + (c - 48))) := by
  rw [nmL, if_neg (fun q => absurd ((nI_le0 (by omega)).mp q) (by omega)), if_neg (by rw [hd]; decide), hc, num_st h48, if_neg (fun q => h ((nI_ltI (by omega) (by omega)).mp q))]
theorem nmL_100 {t : Nat → Int32} {n p f x m : Nat} (h1 : 100 ≤ x) (hx : x ≤ 255) (hm : m ≤ 255) : nmL t n (nI m) f p (nI x) = (nI x, p) := by
  cases e : dg t n (p, false) with
  | false => exact nmL_d e
  | true =>
    obtain ⟨-, c, q1, q2, q3⟩ := dg_c e
    exact nmL_b q1 q3 (by omega) q2 hm (by omega)
theorem nmL_10 {t : Nat → Int32} {n p f x m : Nat} (h1 : 10 ≤ x) (hx : x ≤ 255) (hm : m ≤ 255) : nmL t n (nI m) (f + 1) p (nI x) = nmL t n (nI m) 1 p (nI x) := by
  cases e : dg t n (p, false) with
  | false => rw [nmL_d e, nmL_d e]
  | true =>
    obtain ⟨-, c, q1, q2, q3⟩ := dg_c e
    by_cases h : m < 10 * x + (c - 48)
    · rw [nmL_b q1 q3 (by omega) q2 hm h, nmL_b q1 q3 (by omega) q2 hm h]
    · rw [nmL_y (by omega) e q1 q3 (by omega) q2 hm h, nmL_y (by omega) e q1 q3 (by omega) q2 hm h, nmL_100 (by omega) (by omega) hm, nmL_100 (by omega) (by omega) hm]
theorem nmL_f {t : Nat → Int32} {n p x m : Nat} (hx : x ≤ 9) (hm : m ≤ 255) : nmL t n (nI m) 80 p (nI x) = nmL t n (nI m) 2 p (nI x) := by
  by_cases h0 : x = 0
  · subst h0; rw [nmL_0, nmL_0]
  · cases e : dg t n (p, false) with
    | false => rw [nmL_d e, nmL_d e]
    | true =>
      obtain ⟨-, c, q1, q2, q3⟩ := dg_c e
      by_cases h : m < 10 * x + (c - 48)
      · rw [nmL_b q1 q3 (by omega) q2 hm h, nmL_b q1 q3 (by omega) q2 hm h]
      · rw [show (80 : Nat) = 78 + 1 + 1 from rfl, show (2 : Nat) = 1 + 1 from rfl, nmL_y (by omega) e q1 q3 (by omega) q2 hm h, nmL_y (by omega) e q1 q3 (by omega) q2 hm h]
        exact nmL_10 (by omega) (by omega) hm
theorem nmL_v {t : Nat → Int32} {n m : Nat} (hm : m ≤ 255) : ∀ (f p x : Nat), x ≤ 255 → (x ≤ m ∨ f = 0 ∨ x = 0) → ∃ y p', nmL t n (nI m) f p (nI x) = (nI y, p') := by
  intro f
  induction f with
  | zero => intro p x _ _; exact ⟨x, p, rfl⟩
  | succ f ih =>
    intro p x hx _
    by_cases h0 : x = 0
    · subst h0; exact ⟨0, p, nmL_0⟩
    · cases e : dg t n (p, false) with
      | false => exact ⟨x, p, nmL_d e⟩
      | true =>
        obtain ⟨-, c, q1, q2, q3⟩ := dg_c e
        by_cases h : m < 10 * x + (c - 48)
        · exact ⟨x, p, nmL_b q1 q3 (by omega) q2 hm h⟩
        · rw [nmL_y (by omega) e q1 q3 (by omega) q2 hm h]
          exact ih _ _ (by omega) (Or.inl (by omega))
theorem nm_sk {t : Nat → Int32} {n p : Nat} {lo hi : Int32} (h : has t n p (nI 32) = false) : nm t n lo hi (p, false) = (nI 0, (p, true)) := by
  have e : sg t n (nI 32) (p, false) = (p, true) := by unfold sg; rw [if_neg (show ¬ false = true by decide), if_neg (by rw [h]; decide)]
  rw [nm_no (by rw [e]; exact nmR_1 rfl), e]
theorem sg_sp {t : Nat → Int32} {n p : Nat} {c : Int32} (h : has t n p c = true) : sg t n c (p, false) = (p + 1, false) := by unfold sg; rw [if_neg (show ¬ false = true by decide), if_pos h]
theorem nm_bad {t : Nat → Int32} {n p : Nat} {lo hi : Int32} (h : has t n p (nI 32) = true) (h2 : nmR t n lo hi (p + 1, false) = false) : nm t n lo hi (p, false) = (nI 0, (p + 1, true)) := by
  rw [nm_no (by rw [sg_sp h]; exact h2), sg_sp h]
theorem nm_good {t : Nat → Int32} {n p c lo m : Nat} (h : has t n p (nI 32) = true) (hd : dg t n (p + 1, false) = true) (h48 : 48 ≤ c) (hc : t (p + 1) = nI c) (hc2 : c ≤ 57) (hlo : lo ≤ c - 48) (hhi : c - 48 ≤ m) (hm : m ≤ 255) : nm t n (nI lo) (nI m) (p, false) = ((nmL t n (nI m) 2 (p + 2) (nI (c - 48))).1, ((nmL t n (nI m) 2 (p + 2) (nI (c - 48))).2, false)) := by
  have e48 : nI c - nI 48 = nI (c - 48) := pk_sub h48
  have hr : nmR t n (nI lo) (nI m) (p + 1, false) = true := nmR_5 rfl hd (by show ¬ t (p + 1) - nI 48 < nI lo; rw [hc, e48]; exact fun q => absurd ((nI_ltI (by omega) (by omega)).mp q) (by omega)) (by show t (p + 1) - nI 48 ≤ nI m; rw [hc, e48]; exact (nI_leI (by omega) (by omega)).mpr hhi)
  rw [nm_yes (by rw [sg_sp h]; exact hr), sg_sp h]
  show ((nmL t n (nI m) 80 (p + 1 + 1) (t (p + 1) - nI 48)).1, ((nmL t n (nI m) 80 (p + 1 + 1) (t (p + 1) - nI 48)).2, false)) = _
  rw [hc, e48, nmL_f (by omega) hm]
section CT
variable {J : MI} {R : MR} {n : Nat} {t : Nat → Int32} {k : Int32} {N : Nat → Int32}
theorem lp_readNumber (hT : HT J R n t) {w m : Nat} (hm : m ≤ 255) {g : GX} {cx : CX} {F : State → Prop} : ∀ (f j p x : Nat) (u : Option Value), j + f = 3 → p + f < 200 → x ≤ 255 → (∀ (y p' : Nat) (a b : Option Value), nmL t n (nI m) f p (nI x) = (nI y, p') → X g cx mX2_readNumber F (0, 0) 110 [some (.ref 38), some (.int (nI w)), some (.int (nI m)), some (.int (nI y)), a, b] [] 137 (TM J (nI p') k N) R) → X g cx mX2_readNumber F (0, 0) 51 [some (.ref 38), some (.int (nI w)), some (.int (nI m)), some (.int (nI x)), some (.int (nI j)), u] [] 137 (TM J (nI p) k N) R := by
  intro f
  induction f with
  | zero =>
    intro j p x u hj hp hx hk
    obtain rfl : j = 3 := by omega
    refine x_iload dX2_readNumber_51 rfl ?_
    refine x_iconst (nI 3) dX2_readNumber_53 (by decide) ?_
    refine x_icmp_geT 110 dX2_readNumber_54 (by decide) (by decide) ?_
    exact hk _ _ _ _ rfl
  | succ f ih =>
    intro j p x u hj hp hx hk
    by_cases h0 : x = 0
    · subst h0
      refine x_iload dX2_readNumber_51 rfl ?_
      refine x_iconst (nI 3) dX2_readNumber_53 (by decide) ?_
      refine x_icmp_geF dX2_readNumber_54 (fun q => absurd ((nI_leI (by omega) (by omega)).mp q) (by omega)) ?_ 110 (by decide)
      refine x_iload_n dX2_readNumber_57 rfl rfl ?_
      refine x_if_leT 110 dX2_readNumber_58 (by decide) (by decide) ?_
      exact hk _ _ _ _ nmL_0
    · have hx0 : ¬ nI x ≤ 0 := fun q => absurd ((nI_le0 (by omega)).mp q) (by omega)
      cases e : dg t n (p, false) with
      | false =>
        have ed : dgv t n p = -1 := if_neg (by rw [e]; decide)
        refine x_iload dX2_readNumber_51 rfl ?_
        refine x_iconst (nI 3) dX2_readNumber_53 (by decide) ?_
        refine x_icmp_geF dX2_readNumber_54 (fun q => absurd ((nI_leI (by omega) (by omega)).mp q) (by omega)) ?_ 110 (by decide)
        refine x_iload_n dX2_readNumber_57 rfl rfl ?_
        refine x_if_leF dX2_readNumber_58 (hx0) ?_ 110 (by decide)
        refine x_aload_n dX2_readNumber_61 rfl rfl ?_
        refine x_callVd0 (mt' := mX2_digitHere) (sp_digitHere hT (by omega)) kvX2_digitHere wl_X2_88 (by decide) dX2_readNumber_62 xk_38 (by decide) rfl rfl (Nat.le_of_ble_eq_true rfl) ⟨rfl, rfl⟩ (by decide) ?_
        refine x_istore dX2_readNumber_65 (by decide) ?_
        refine x_iload dX2_readNumber_67 rfl ?_
        refine x_if_ltT 110 dX2_readNumber_69 (by decide) (by rw [ed]; decide) ?_
        exact hk _ _ _ _ (nmL_d e)
      | true =>
        obtain ⟨-, c, q1, q2, q3⟩ := dg_c e
        have ed : dgv t n p = nI (c - 48) := by unfold dgv; rw [if_pos e, q3, pk_sub q1]
        by_cases h : m < 10 * x + (c - 48)
        · skip
          refine x_iload dX2_readNumber_51 rfl ?_
          refine x_iconst (nI 3) dX2_readNumber_53 (by decide) ?_
          refine x_icmp_geF dX2_readNumber_54 (fun q => absurd ((nI_leI (by omega) (by omega)).mp q) (by omega)) ?_ 110 (by decide)
          refine x_iload_n dX2_readNumber_57 rfl rfl ?_
          refine x_if_leF dX2_readNumber_58 (hx0) ?_ 110 (by decide)
          refine x_aload_n dX2_readNumber_61 rfl rfl ?_
          refine x_callVd0 (mt' := mX2_digitHere) (sp_digitHere hT (by omega)) kvX2_digitHere wl_X2_88 (by decide) dX2_readNumber_62 xk_38 (by decide) rfl rfl (Nat.le_of_ble_eq_true rfl) ⟨rfl, rfl⟩ (by decide) ?_
          refine x_eqtop ed ?_
          refine x_istore dX2_readNumber_65 (by decide) ?_
          refine x_iload dX2_readNumber_67 rfl ?_
          refine x_if_ltF dX2_readNumber_69 (nI_pos (by omega)) ?_ 110 (by decide)
          refine x_iload_n dX2_readNumber_72 rfl rfl ?_
          refine x_bipush (nI 10) dX2_readNumber_73 (by decide) ?_
          refine x_imulN dX2_readNumber_75 ?_
          refine x_iload dX2_readNumber_76 rfl ?_
          refine x_iaddN dX2_readNumber_78 ?_
          refine x_iload_n dX2_readNumber_79 rfl rfl ?_
          refine x_icmp_leF dX2_readNumber_80 (fun q => absurd ((nI_leI (by omega) (by omega)).mp q) (by omega)) ?_ 86 (by decide)
          refine x_goto 110 dX2_readNumber_83 (by decide) ?_
          exact hk _ _ _ _ (nmL_b q1 q3 (by omega) q2 hm h)
        · have ey := nmL_y (f := f) (by omega) e q1 q3 (by omega) q2 hm h
          refine x_iload dX2_readNumber_51 rfl ?_
          refine x_iconst (nI 3) dX2_readNumber_53 (by decide) ?_
          refine x_icmp_geF dX2_readNumber_54 (fun q => absurd ((nI_leI (by omega) (by omega)).mp q) (by omega)) ?_ 110 (by decide)
          refine x_iload_n dX2_readNumber_57 rfl rfl ?_
          refine x_if_leF dX2_readNumber_58 (hx0) ?_ 110 (by decide)
          refine x_aload_n dX2_readNumber_61 rfl rfl ?_
          refine x_callVd0 (mt' := mX2_digitHere) (sp_digitHere hT (by omega)) kvX2_digitHere wl_X2_88 (by decide) dX2_readNumber_62 xk_38 (by decide) rfl rfl (Nat.le_of_ble_eq_true rfl) ⟨rfl, rfl⟩ (by decide) ?_
          refine x_eqtop ed ?_
          refine x_istore dX2_readNumber_65 (by decide) ?_
          refine x_iload dX2_readNumber_67 rfl ?_
          refine x_if_ltF dX2_readNumber_69 (nI_pos (by omega)) ?_ 110 (by decide)
          refine x_iload_n dX2_readNumber_72 rfl rfl ?_
          refine x_bipush (nI 10) dX2_readNumber_73 (by decide) ?_
          refine x_imulN dX2_readNumber_75 ?_
          refine x_iload dX2_readNumber_76 rfl ?_
          refine x_iaddN dX2_readNumber_78 ?_
          refine x_iload_n dX2_readNumber_79 rfl rfl ?_
          refine x_icmp_leT 86 dX2_readNumber_80 (by decide) ((nI_leI (by omega) (by omega)).mpr (by omega)) ?_
          refine x_iload_n dX2_readNumber_86 rfl rfl ?_
          refine x_bipush (nI 10) dX2_readNumber_87 (by decide) ?_
          refine x_imulN dX2_readNumber_89 ?_
          refine x_iload dX2_readNumber_90 rfl ?_
          refine x_iaddN dX2_readNumber_92 ?_
          refine x_eqtop (y := nI (10 * x + (c - 48))) (by rw [Nat.mul_comm x 10]) ?_
          refine x_istore_n dX2_readNumber_93 rfl (by decide) ?_
          refine x_aload_n dX2_readNumber_94 rfl rfl ?_
          refine x_dup dX2_readNumber_95 rfl ?_
          refine x_getI fl_X2_30 dX2_readNumber_96 xk_38 (by decide) rfl (x_eqtop TM_3 ?_)
          refine x_iconst (nI 1) dX2_readNumber_99 (by decide) ?_
          refine x_iaddN dX2_readNumber_100 ?_
          refine x_putI fl_X2_30 fp_2_3 dX2_readNumber_101 xk_38 (by decide) rfl rfl rfl (x_eqI TM_u3 ?_)
          refine x_iincN 1 dX2_readNumber_104 rfl (by decide) (by decide) ?_
          refine x_goto 51 dX2_readNumber_107 (by decide) ?_
          exact ih (j + 1) (p + 1) _ _ (by omega) (by omega) (by omega) (fun y p' a b z => hk y p' a b (ey.trans z))
theorem sp_readNumber (hT : HT J R n t) {kd w p : Nat} (hp : p < 150) (hk : kd < 5) (hw : w < 4) : Spd mX2_readNumber [.ref 38, .int (nI w)] (TM J (nI p) (nI kd) N) R (some (.int (bi (!(nm t n (nI (loN kd w)) (nI (hiN kd w)) (p, false)).2.2)))) (TM J (nI (nm t n (nI (loN kd w)) (nI (hiN kd w)) (p, false)).2.1) (nI kd) (if (nm t n (nI (loN kd w)) (nI (hiN kd w)) (p, false)).2.2 = true then N else upd N w (nm t n (nI (loN kd w)) (nI (hiN kd w)) (p, false)).1)) := by
  refine Spd.mk (by decide +kernel) (by simp [Value.category]) (Nat.le_of_ble_eq_true rfl) (fun g cx => ?_)
  have hm := hiN_le kd w
  have hl := loN_le kd w
  cases hs : has t n p (nI 32) with
  | false =>
    rw [nm_sk hs, show (if ((nI 0, (p, true)) : Int32 × (Nat × Bool)).2.2 = true then N else upd N w ((nI 0, (p, true)) : Int32 × (Nat × Bool)).1) = N from if_pos rfl]
    refine x_aload_n dX2_readNumber_0 rfl rfl ?_
    refine x_bipush (nI 32) dX2_readNumber_1 (by decide) ?_
    refine x_callVd0 (mt' := mX2_skip) (sp_skip hT (by omega) _) kvX2_skip wl_X2_49 (by decide) dX2_readNumber_3 xk_38 (by decide) rfl rfl (Nat.le_of_ble_eq_true rfl) ⟨rfl, rfl⟩ (by decide) ?_
    rw [hs, if_neg (by decide)]
    refine x_if_neF dX2_readNumber_6 (rfl) ?_ 11 (by decide)
    refine x_iconst (nI 0) dX2_readNumber_9 (by decide) ?_
    refine x_zret dX2_readNumber_10 rfl (by first | rfl | (split <;> rfl) | (repeat (first | rfl | split))) (by decide) (by decide) ?_
    exact ⟨rfl, rfl, rfl, rfl⟩
  | true =>
    have hbad : nmR t n (nI (loN kd w)) (nI (hiN kd w)) (p + 1, false) = false → (dgv t n (p + 1) < nI (loN kd w) ∨ ¬ dgv t n (p + 1) ≤ nI (hiN kd w)) := fun q => by
      cases e : dg t n (p + 1, false) with
      | false =>
        left
        rw [show dgv t n (p + 1) = -1 from if_neg (by rw [e]; decide)]
        rcases (show loN kd w = 0 ∨ loN kd w = 1 by omega) with z | z <;> rw [z] <;> decide
      | true =>
        rw [show dgv t n (p + 1) = t (p + 1) - nI 48 from if_pos e]
        refine Decidable.byContradiction fun z => ?_
        have z1 : ¬ t (p + 1) - nI 48 < nI (loN kd w) := fun y => z (Or.inl y)
        have z2 : t (p + 1) - nI 48 ≤ nI (hiN kd w) := Decidable.byContradiction fun y => z (Or.inr y)
        rw [nmR_5 rfl e z1 z2] at q
        cases q
    cases hr : nmR t n (nI (loN kd w)) (nI (hiN kd w)) (p + 1, false) with
    | false =>
      rw [nm_bad hs hr, show (if ((nI 0, (p + 1, true)) : Int32 × (Nat × Bool)).2.2 = true then N else upd N w ((nI 0, (p + 1, true)) : Int32 × (Nat × Bool)).1) = N from if_pos rfl]
      by_cases hv : dgv t n (p + 1) < nI (loN kd w)
      · skip
        refine x_aload_n dX2_readNumber_0 rfl rfl ?_
        refine x_bipush (nI 32) dX2_readNumber_1 (by decide) ?_
        refine x_callVd0 (mt' := mX2_skip) (sp_skip hT (by omega) _) kvX2_skip wl_X2_49 (by decide) dX2_readNumber_3 xk_38 (by decide) rfl rfl (Nat.le_of_ble_eq_true rfl) ⟨rfl, rfl⟩ (by decide) ?_
        rw [hs, if_pos rfl]
        refine x_if_neT 11 dX2_readNumber_6 (by decide) (by decide) ?_
        refine x_aload_n dX2_readNumber_11 rfl rfl ?_
        refine x_iload_n dX2_readNumber_12 rfl rfl ?_
        refine x_callVd0 (mt' := mX2_mostOf) (sp_mostOf hk hw) kvX2_mostOf wl_X2_84 (by decide) dX2_readNumber_13 xk_38 (by decide) rfl rfl (Nat.le_of_ble_eq_true rfl) ⟨rfl, rfl⟩ (by decide) ?_
        refine x_istore_n dX2_readNumber_16 rfl (by decide) ?_
        refine x_aload_n dX2_readNumber_17 rfl rfl ?_
        refine x_callVd0 (mt' := mX2_digitHere) (sp_digitHere hT (by omega)) kvX2_digitHere wl_X2_88 (by decide) dX2_readNumber_18 xk_38 (by decide) rfl rfl (Nat.le_of_ble_eq_true rfl) ⟨rfl, rfl⟩ (by decide) ?_
        refine x_istore_n dX2_readNumber_21 rfl (by decide) ?_
        refine x_iload_n dX2_readNumber_22 rfl rfl ?_
        refine x_aload_n dX2_readNumber_23 rfl rfl ?_
        refine x_iload_n dX2_readNumber_24 rfl rfl ?_
        refine x_callVd0 (mt' := mX2_leastOf) (sp_leastOf hk hw) kvX2_leastOf wl_X2_91 (by decide) dX2_readNumber_25 xk_38 (by decide) rfl rfl (Nat.le_of_ble_eq_true rfl) ⟨rfl, rfl⟩ (by decide) ?_
        refine x_icmp_ltT 36 dX2_readNumber_28 (by decide) (hv) ?_
        refine x_iconst (nI 0) dX2_readNumber_36 (by decide) ?_
        refine x_zret dX2_readNumber_37 rfl (by first | rfl | (split <;> rfl) | (repeat (first | rfl | split))) (by decide) (by decide) ?_
        exact ⟨rfl, rfl, rfl, rfl⟩
      · have hv2 := (hbad hr).resolve_left hv
        refine x_aload_n dX2_readNumber_0 rfl rfl ?_
        refine x_bipush (nI 32) dX2_readNumber_1 (by decide) ?_
        refine x_callVd0 (mt' := mX2_skip) (sp_skip hT (by omega) _) kvX2_skip wl_X2_49 (by decide) dX2_readNumber_3 xk_38 (by decide) rfl rfl (Nat.le_of_ble_eq_true rfl) ⟨rfl, rfl⟩ (by decide) ?_
        rw [hs, if_pos rfl]
        refine x_if_neT 11 dX2_readNumber_6 (by decide) (by decide) ?_
        refine x_aload_n dX2_readNumber_11 rfl rfl ?_
        refine x_iload_n dX2_readNumber_12 rfl rfl ?_
        refine x_callVd0 (mt' := mX2_mostOf) (sp_mostOf hk hw) kvX2_mostOf wl_X2_84 (by decide) dX2_readNumber_13 xk_38 (by decide) rfl rfl (Nat.le_of_ble_eq_true rfl) ⟨rfl, rfl⟩ (by decide) ?_
        refine x_istore_n dX2_readNumber_16 rfl (by decide) ?_
        refine x_aload_n dX2_readNumber_17 rfl rfl ?_
        refine x_callVd0 (mt' := mX2_digitHere) (sp_digitHere hT (by omega)) kvX2_digitHere wl_X2_88 (by decide) dX2_readNumber_18 xk_38 (by decide) rfl rfl (Nat.le_of_ble_eq_true rfl) ⟨rfl, rfl⟩ (by decide) ?_
        refine x_istore_n dX2_readNumber_21 rfl (by decide) ?_
        refine x_iload_n dX2_readNumber_22 rfl rfl ?_
        refine x_aload_n dX2_readNumber_23 rfl rfl ?_
        refine x_iload_n dX2_readNumber_24 rfl rfl ?_
        refine x_callVd0 (mt' := mX2_leastOf) (sp_leastOf hk hw) kvX2_leastOf wl_X2_91 (by decide) dX2_readNumber_25 xk_38 (by decide) rfl rfl (Nat.le_of_ble_eq_true rfl) ⟨rfl, rfl⟩ (by decide) ?_
        refine x_icmp_ltF dX2_readNumber_28 (hv) ?_ 36 (by decide)
        refine x_iload_n dX2_readNumber_31 rfl rfl ?_
        refine x_iload_n dX2_readNumber_32 rfl rfl ?_
        refine x_icmp_leF dX2_readNumber_33 (hv2) ?_ 38 (by decide)
        refine x_iconst (nI 0) dX2_readNumber_36 (by decide) ?_
        refine x_zret dX2_readNumber_37 rfl (by first | rfl | (split <;> rfl) | (repeat (first | rfl | split))) (by decide) (by decide) ?_
        exact ⟨rfl, rfl, rfl, rfl⟩
    | true =>
      have hd : dg t n (p + 1, false) = true := by
        cases e : dg t n (p + 1, false) with
        | true => rfl
        | false => rw [nmR_2 e] at hr; cases hr
      obtain ⟨-, c, q1, q2, q3⟩ := dg_c hd
      have ed : dgv t n (p + 1) = nI (c - 48) := by unfold dgv; rw [if_pos hd, q3, pk_sub q1]
      have e48 : t (p + 1) - nI 48 = nI (c - 48) := by rw [q3, pk_sub q1]
      have c1 : loN kd w ≤ c - 48 := by
        refine Decidable.byContradiction fun z => ?_
        have : nmR t n (nI (loN kd w)) (nI (hiN kd w)) (p + 1, false) = false := nmR_3 (by show t (p + 1) - nI 48 < _; rw [e48]; exact (nI_ltI (by omega) (by omega)).mpr (by omega))
        rw [hr] at this
        cases this
      have c2 : c - 48 ≤ hiN kd w := by
        refine Decidable.byContradiction fun z => ?_
        have : nmR t n (nI (loN kd w)) (nI (hiN kd w)) (p + 1, false) = false := nmR_4 (by show ¬ t (p + 1) - nI 48 ≤ _; rw [e48]; exact fun y => z ((nI_leI (by omega) (by omega)).mp y))
        rw [hr] at this
        cases this
      rw [nm_good hs hd q1 q3 q2 c1 c2 hm]
      have eN : ∀ z : Int32 × Nat, (if ((z.1, (z.2, false)) : Int32 × (Nat × Bool)).2.2 = true then N else upd N w ((z.1, (z.2, false)) : Int32 × (Nat × Bool)).1) = upd N w z.1 := fun z => if_neg (show ¬ false = true by decide)
      rw [eN]
      refine x_aload_n dX2_readNumber_0 rfl rfl ?_
      refine x_bipush (nI 32) dX2_readNumber_1 (by decide) ?_
      refine x_callVd0 (mt' := mX2_skip) (sp_skip hT (by omega) _) kvX2_skip wl_X2_49 (by decide) dX2_readNumber_3 xk_38 (by decide) rfl rfl (Nat.le_of_ble_eq_true rfl) ⟨rfl, rfl⟩ (by decide) ?_
      rw [hs, if_pos rfl]
      refine x_if_neT 11 dX2_readNumber_6 (by decide) (by decide) ?_
      refine x_aload_n dX2_readNumber_11 rfl rfl ?_
      refine x_iload_n dX2_readNumber_12 rfl rfl ?_
      refine x_callVd0 (mt' := mX2_mostOf) (sp_mostOf hk hw) kvX2_mostOf wl_X2_84 (by decide) dX2_readNumber_13 xk_38 (by decide) rfl rfl (Nat.le_of_ble_eq_true rfl) ⟨rfl, rfl⟩ (by decide) ?_
      refine x_istore_n dX2_readNumber_16 rfl (by decide) ?_
      refine x_aload_n dX2_readNumber_17 rfl rfl ?_
      refine x_callVd0 (mt' := mX2_digitHere) (sp_digitHere hT (by omega)) kvX2_digitHere wl_X2_88 (by decide) dX2_readNumber_18 xk_38 (by decide) rfl rfl (Nat.le_of_ble_eq_true rfl) ⟨rfl, rfl⟩ (by decide) ?_
      refine x_eqtop ed ?_
      refine x_istore_n dX2_readNumber_21 rfl (by decide) ?_
      refine x_iload_n dX2_readNumber_22 rfl rfl ?_
      refine x_aload_n dX2_readNumber_23 rfl rfl ?_
      refine x_iload_n dX2_readNumber_24 rfl rfl ?_
      refine x_callVd0 (mt' := mX2_leastOf) (sp_leastOf hk hw) kvX2_leastOf wl_X2_91 (by decide) dX2_readNumber_25 xk_38 (by decide) rfl rfl (Nat.le_of_ble_eq_true rfl) ⟨rfl, rfl⟩ (by decide) ?_
      refine x_icmp_ltF dX2_readNumber_28 (fun q => absurd ((nI_ltI (by omega) (by omega)).mp q) (by omega)) ?_ 36 (by decide)
      refine x_iload_n dX2_readNumber_31 rfl rfl ?_
      refine x_iload_n dX2_readNumber_32 rfl rfl ?_
      refine x_icmp_leT 38 dX2_readNumber_33 (by decide) ((nI_leI (by omega) (by omega)).mpr c2) ?_
      refine x_aload_n dX2_readNumber_38 rfl rfl ?_
      refine x_dup dX2_readNumber_39 rfl ?_
      refine x_getI fl_X2_30 dX2_readNumber_40 xk_38 (by decide) rfl (x_eqtop TM_3 ?_)
      refine x_iconst (nI 1) dX2_readNumber_43 (by decide) ?_
      refine x_iaddN dX2_readNumber_44 ?_
      refine x_putI fl_X2_30 fp_2_3 dX2_readNumber_45 xk_38 (by decide) rfl rfl rfl (x_eqI TM_u3 ?_)
      refine x_iconst (nI 1) dX2_readNumber_48 (by decide) ?_
      refine x_istore dX2_readNumber_49 (by decide) ?_
      refine lp_readNumber hT hm 2 1 (p + 2) _ _ rfl (by omega) (by omega) (fun y p' a b ey => ?_)
      rw [ey]
      show X g cx mX2_readNumber (xF g cx mX2_readNumber (fun r' n' I2 R2 => r' = some (.int (bi true)) ∧ n' = 137 ∧ I2 = TM J (nI p') (nI kd) (upd N w (nI y)) ∧ R2 = R)) _ _ _ _ _ _ _
      refine x_iload_n dX2_readNumber_110 rfl rfl ?_
      refine x_iconst (nI 4) dX2_readNumber_111 (by decide) ?_
      refine x_callSNd0 (mt' := mX5_isIndex) (sp_isIx _ 3 (by decide)) ktX5_isIndex wl_X2_26 (by decide) dX2_readNumber_112 rfl rfl (Nat.le_of_ble_eq_true rfl) ⟨rfl, rfl⟩ (by decide) ?_
      refine x_if_eqF dX2_readNumber_115 (fun q => bi_t q (inr_nat (by omega) (by omega) (by omega) (by omega))) ?_ 125 (by decide)
      refine x_aload_n dX2_readNumber_118 rfl rfl ?_
      refine x_getR (j := 40) fl_X2_15 dX2_readNumber_119 xk_38 (by decide) rfl hT.2.2 ?_
      refine x_iload_n dX2_readNumber_122 rfl rfl ?_
      refine x_iload_n dX2_readNumber_123 rfl rfl ?_
      refine x_iast (j := w) dX2_readNumber_124 xk_40 (by decide) (nI_pos (by omega)) (nI_clamp (by omega)) (by rw [xl_40]; omega) (x_eqI TM_u40 ?_)
      refine x_iconst (nI 1) dX2_readNumber_125 (by decide) ?_
      refine x_zret dX2_readNumber_126 rfl (by first | rfl | (split <;> rfl) | (repeat (first | rfl | split))) (by decide) (by decide) ?_
      exact ⟨rfl, rfl, rfl, rfl⟩
end CT
