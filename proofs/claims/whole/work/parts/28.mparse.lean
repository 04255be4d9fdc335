/-! the reference: how a text is read. s: the place, and whether it is wrong -/
def has (t : Nat → Int32) (n p : Nat) (c : Int32) : Bool := decide (p < n) && decide (t p = c)
def sg (t : Nat → Int32) (n : Nat) (c : Int32) (s : Nat × Bool) : Nat × Bool := if s.2 = true then (s.1, true) else if has t n s.1 c = true then (s.1 + 1, false) else (s.1, true)
def nx (t : Nat → Int32) (n : Nat) (c : Int32) (s : Nat × Bool) : Bool := !s.2 && has t n s.1 c
def dg (t : Nat → Int32) (n : Nat) (s : Nat × Bool) : Bool := !s.2 && (decide (s.1 < n) && inr (t s.1) (nI 48) (nI 57))
def nmL (t : Nat → Int32) (n : Nat) (hi : Int32) : Nat → Nat → Int32 → Int32 × Nat
  | 0, p, v => (v, p)
  | f + 1, p, v => if v ≤ 0 then (v, p) else if dg t n (p, false) = false then (v, p) else if hi < nI 10 * v + t p - nI 48 then (v, p) else nmL t n hi f (p + 1) (nI 10 * v + t p - nI 48)
def nmR (t : Nat → Int32) (n : Nat) (lo hi : Int32) (s : Nat × Bool) : Bool := !s.2 && (dg t n s && (decide (¬ t s.1 - nI 48 < lo) && decide (t s.1 - nI 48 ≤ hi)))
def nm (t : Nat → Int32) (n : Nat) (lo hi : Int32) (s : Nat × Bool) : Int32 × (Nat × Bool) :=
  if nmR t n lo hi (sg t n (nI 32) s) = true then ((nmL t n hi 80 ((sg t n (nI 32) s).1 + 1) (t (sg t n (nI 32) s).1 - nI 48)).1, ((nmL t n hi 80 ((sg t n (nI 32) s).1 + 1) (t (sg t n (nI 32) s).1 - nI 48)).2, false))
  else (nI 0, ((sg t n (nI 32) s).1, true))
theorem sg_le {t : Nat → Int32} {n : Nat} {c : Int32} {s : Nat × Bool} (h : s.1 ≤ n) : (sg t n c s).1 ≤ n := by
  unfold sg
  split
  · exact h
  · split
    · rename_i h2
      unfold has at h2
      rw [Bool.and_eq_true, decide_eq_true_eq] at h2
      show s.1 + 1 ≤ n
      omega
    · exact h
theorem nmL_le {t : Nat → Int32} {n : Nat} {hi : Int32} : ∀ (f p : Nat) (v : Int32), p ≤ n → (nmL t n hi f p v).2 ≤ n := by
  intro f
  induction f with
  | zero => intro p v h; exact h
  | succ f ih =>
    intro p v h
    unfold nmL
    split
    · exact h
    · split
      · exact h
      · rename_i h2
        split
        · exact h
        · refine ih _ _ ?_
          unfold dg at h2
          simp at h2
          omega
theorem nmR_lt {t : Nat → Int32} {n : Nat} {lo hi : Int32} {s : Nat × Bool} (h : nmR t n lo hi s = true) : s.1 < n := by
  unfold nmR dg at h
  simp at h
  omega
theorem nm_le {t : Nat → Int32} {n : Nat} {lo hi : Int32} {s : Nat × Bool} (h : s.1 ≤ n) : (nm t n lo hi s).2.1 ≤ n := by
  unfold nm
  split
  · rename_i h2
    have := nmR_lt h2
    exact nmL_le _ _ _ (by omega)
  · exact sg_le h
def PF (φ : Nat → Int32) (s : Nat × Bool) (l a b c d : Int32) : Nat → Int32 := fun j => if j = 10 then nI s.1 else if j = 11 then bi s.2 else if j = 12 then l else if j = 13 then a else if j = 14 then b else if j = 15 then c else if j = 16 then d else φ j
section PFR
variable {I : MI} {φ α β κ τ : Nat → Int32} {Z : MI} {s : Nat × Bool} {l a b c d : Int32}
theorem PF_10 : PF φ s l a b c d 10 = nI s.1 := rfl
theorem PF_11 : PF φ s l a b c d 11 = bi s.2 := rfl
theorem PF_12 : PF φ s l a b c d 12 = l := rfl
theorem PF_13 : PF φ s l a b c d 13 = a := rfl
theorem PF_14 : PF φ s l a b c d 14 = b := rfl
theorem PF_15 : PF φ s l a b c d 15 = c := rfl
theorem PF_16 : PF φ s l a b c d 16 = d := rfl
theorem PF_lo {j : Nat} (h : j < 10) : PF φ s l a b c d j = φ j := by unfold PF; rw [if_neg (by omega), if_neg (by omega), if_neg (by omega), if_neg (by omega), if_neg (by omega), if_neg (by omega), if_neg (by omega)]
theorem PF_set {j : Nat} {v : Int32} {s' : Nat × Bool} {l' a' b' c' d' : Int32} (hj : PF φ s' l' a' b' c' d' j = v) (ho : ∀ i, i ≠ j → PF φ s' l' a' b' c' d' i = PF φ s l a b c d i) : upd (PF φ s l a b c d) j v = PF φ s' l' a' b' c' d' := by
  funext i
  by_cases hi : i = j
  · subst hi; simp [upd, hj]
  · simp [upd, hi, ho i hi]
theorem MM_u10 {p : Nat} : MM I (upd (PF φ s l a b c d) 10 (nI p)) Z α β κ τ = MM I (PF φ (p, s.2) l a b c d) Z α β κ τ := congrArg (fun q => MM I q Z α β κ τ) (PF_set (s' := (p, s.2)) (l' := l) (a' := a) (b' := b) (c' := c) (d' := d) rfl (fun i hi => by simp only [PF, if_neg hi]))
theorem MM_u11 {w : Bool} : MM I (upd (PF φ s l a b c d) 11 (bi w)) Z α β κ τ = MM I (PF φ (s.1, w) l a b c d) Z α β κ τ := congrArg (fun q => MM I q Z α β κ τ) (PF_set (s' := (s.1, w)) (l' := l) (a' := a) (b' := b) (c' := c) (d' := d) rfl (fun i hi => by simp only [PF, if_neg hi]))
theorem MM_u12 {v : Int32} : MM I (upd (PF φ s l a b c d) 12 v) Z α β κ τ = MM I (PF φ s v a b c d) Z α β κ τ := congrArg (fun q => MM I q Z α β κ τ) (PF_set (s' := s) (l' := v) (a' := a) (b' := b) (c' := c) (d' := d) rfl (fun i hi => by simp only [PF, if_neg hi]))
theorem MM_u13 {v : Int32} : MM I (upd (PF φ s l a b c d) 13 v) Z α β κ τ = MM I (PF φ s l v b c d) Z α β κ τ := congrArg (fun q => MM I q Z α β κ τ) (PF_set (s' := s) (l' := l) (a' := v) (b' := b) (c' := c) (d' := d) rfl (fun i hi => by simp only [PF, if_neg hi]))
theorem MM_u14 {v : Int32} : MM I (upd (PF φ s l a b c d) 14 v) Z α β κ τ = MM I (PF φ s l a v c d) Z α β κ τ := congrArg (fun q => MM I q Z α β κ τ) (PF_set (s' := s) (l' := l) (a' := a) (b' := v) (c' := c) (d' := d) rfl (fun i hi => by simp only [PF, if_neg hi]))
theorem MM_u15 {v : Int32} : MM I (upd (PF φ s l a b c d) 15 v) Z α β κ τ = MM I (PF φ s l a b v d) Z α β κ τ := congrArg (fun q => MM I q Z α β κ τ) (PF_set (s' := s) (l' := l) (a' := a) (b' := b) (c' := v) (d' := d) rfl (fun i hi => by simp only [PF, if_neg hi]))
theorem MM_u16 {v : Int32} : MM I (upd (PF φ s l a b c d) 16 v) Z α β κ τ = MM I (PF φ s l a b c v) Z α β κ τ := congrArg (fun q => MM I q Z α β κ τ) (PF_set (s' := s) (l' := l) (a' := a) (b' := b) (c' := c) (d' := v) rfl (fun i hi => by simp only [PF, if_neg hi]))
end PFR
theorem sg_w {t : Nat → Int32} {n : Nat} {c : Int32} {s : Nat × Bool} (h : s.2 = true) : sg t n c s = (s.1, true) := by unfold sg; rw [if_pos h]
theorem sg_e {t : Nat → Int32} {n : Nat} {c : Int32} {s : Nat × Bool} (h : s.2 = false) (h2 : n ≤ s.1) : sg t n c s = (s.1, true) := by unfold sg; rw [if_neg (by rw [h]; decide), if_neg (by unfold has; rw [decide_eq_false (show ¬ s.1 < n by omega), Bool.false_and]; decide)]
theorem sg_n {t : Nat → Int32} {n : Nat} {c : Int32} {s : Nat × Bool} (h : s.2 = false) (h2 : ¬ t s.1 = c) : sg t n c s = (s.1, true) := by unfold sg; rw [if_neg (by rw [h]; decide), if_neg (by unfold has; rw [decide_eq_false h2, Bool.and_false]; decide)]
theorem sg_y {t : Nat → Int32} {n : Nat} {c : Int32} {s : Nat × Bool} (h : s.2 = false) (h1 : ¬ n ≤ s.1) (h2 : t s.1 = c) : sg t n c s = (s.1 + 1, false) := by unfold sg; rw [if_neg (by rw [h]; decide), if_pos (by unfold has; rw [decide_eq_true (by omega), decide_eq_true h2]; rfl)]
theorem nx_eq {t : Nat → Int32} {n : Nat} {c : Int32} {s : Nat × Bool} : (if bi s.2 = 0 then if n ≤ s.1 then nI 0 else if t s.1 = c then nI 1 else nI 0 else nI 0) = bi (nx t n c s) := by
  unfold nx has
  cases s.2 with
  | true => rw [if_neg (by decide)]; rfl
  | false =>
    rw [if_pos (by decide)]
    by_cases h : n ≤ s.1
    · rw [if_pos h, decide_eq_false (show ¬ s.1 < n by omega)]; rfl
    · rw [if_neg h, decide_eq_true (show s.1 < n by omega)]
      by_cases h2 : t s.1 = c
      · rw [if_pos h2, decide_eq_true h2]; rfl
      · rw [if_neg h2, decide_eq_false h2]; rfl
theorem dg_eq {t : Nat → Int32} {n : Nat} {s : Nat × Bool} : (if bi s.2 = 0 then if n ≤ s.1 then nI 0 else if bi (decide (nI 48 ≤ t s.1 ∧ t s.1 ≤ nI 57)) = 0 then nI 0 else nI 1 else nI 0) = bi (dg t n s) := by
  unfold dg inr
  cases s.2 with
  | true => rw [if_neg (by decide)]; rfl
  | false =>
    rw [if_pos (by decide)]
    by_cases h : n ≤ s.1
    · rw [if_pos h, decide_eq_false (show ¬ s.1 < n by omega)]; rfl
    · rw [if_neg h, decide_eq_true (show s.1 < n by omega)]
      by_cases h2 : nI 48 ≤ t s.1 ∧ t s.1 ≤ nI 57
      · rw [decide_eq_true h2, if_neg (by decide)]; rfl
      · rw [decide_eq_false h2, if_pos (by decide)]; rfl
section ML
variable {I : MI} {R : MR} {φ α β κ τ : Nat → Int32} {Z : MI} {s : Nat × Bool} {l a b c d : Int32} {n : Nat}
theorem sp_X6_sign (hM : Md R) (hn : φ 7 = nI n) (hn80 : n ≤ 80) (hs : s.1 ≤ n) (x : Int32) : Spd mX6_sign [.ref 131, .int x] (MM I (PF φ s l a b c d) Z α β κ τ) R none (MM I (PF φ (sg τ n x s) l a b c d) Z α β κ τ) := by
  refine Spd.mk (by decide +kernel) (by simp [Value.category]) (Nat.le_of_ble_eq_true rfl) (fun g cx => ?_)
  refine x_aload_n dX6_sign_0 rfl rfl ?_
  refine x_aload_n dX6_sign_1 rfl rfl ?_
  refine x_getM fl_X6_153 dX6_sign_2 rfl (x_eqtop PF_11 ?_)
  refine x_if_ne 32 dX6_sign_5 (by decide) (fun c5 => ?_) (fun c5 => ?_)
  · skip
    have hg : sg τ n x s = (s.1, true) := sg_w (bi_nt c5)
    refine x_iconst (nI 1) dX6_sign_32 (by decide) ?_
    refine x_goto 37 dX6_sign_33 (by decide) ?_
    refine x_eqtop (y := bi (sg τ n x s).2) (by rw [hg]; rfl) ?_
    refine x_putM fl_X6_153 fp_6_11 dX6_sign_37 rfl (bi_n _) (bi_f _) (x_eqI MM_u11 ?_)
    refine x_aload_n dX6_sign_40 rfl rfl ?_
    refine x_dup dX6_sign_41 rfl ?_
    refine x_getM fl_X6_157 dX6_sign_42 rfl (x_eqtop PF_10 ?_)
    refine x_aload_n dX6_sign_45 rfl rfl ?_
    refine x_getM fl_X6_153 dX6_sign_46 rfl (x_eqtop PF_11 ?_)
    refine' x_dia_if_eq 56 57 dX6_sign_49 (by decide) ?_ ?_ ?_; rotate_left 2
    · intro c49 k49
      refine x_iconst (nI 0) dX6_sign_52 (by decide) ?_
      refine x_goto 57 dX6_sign_53 (by decide) ?_
      exact k49
    · intro c49 k49
      refine x_iconst (nI 1) dX6_sign_56 (by decide) ?_
      exact k49
    refine x_iadd dX6_sign_57 ?_
    refine x_eqtop (y := nI (sg τ n x s).1) (by rw [hg]; exact nI_add _ _) ?_
    refine x_putM fl_X6_157 fp_6_10 dX6_sign_58 rfl rfl rfl (x_eqI MM_u10 ?_)
    refine x_vret dX6_sign_61 rfl (by decide) (by decide) ?_
    exact ⟨rfl, rfl, rfl, rfl⟩
  · skip
    refine x_aload_n dX6_sign_8 rfl rfl ?_
    refine x_getM fl_X6_157 dX6_sign_9 rfl (x_eqtop PF_10 ?_)
    refine x_aload_n dX6_sign_12 rfl rfl ?_
    refine x_getM fl_X6_150 dX6_sign_13 rfl (x_eqtop ((PF_lo (by omega)).trans hn) ?_)
    refine x_icmp_geN 32 dX6_sign_16 (by decide) (by omega) (by omega) (fun c16 => ?_) (fun c16 => ?_)
    · skip
      have hg : sg τ n x s = (s.1, true) := sg_e (bi_0.mp c5) c16
      refine x_iconst (nI 1) dX6_sign_32 (by decide) ?_
      refine x_goto 37 dX6_sign_33 (by decide) ?_
      refine x_eqtop (y := bi (sg τ n x s).2) (by rw [hg]; rfl) ?_
      refine x_putM fl_X6_153 fp_6_11 dX6_sign_37 rfl (bi_n _) (bi_f _) (x_eqI MM_u11 ?_)
      refine x_aload_n dX6_sign_40 rfl rfl ?_
      refine x_dup dX6_sign_41 rfl ?_
      refine x_getM fl_X6_157 dX6_sign_42 rfl (x_eqtop PF_10 ?_)
      refine x_aload_n dX6_sign_45 rfl rfl ?_
      refine x_getM fl_X6_153 dX6_sign_46 rfl (x_eqtop PF_11 ?_)
      refine' x_dia_if_eq 56 57 dX6_sign_49 (by decide) ?_ ?_ ?_; rotate_left 2
      · intro c49 k49
        refine x_iconst (nI 0) dX6_sign_52 (by decide) ?_
        refine x_goto 57 dX6_sign_53 (by decide) ?_
        exact k49
      · intro c49 k49
        refine x_iconst (nI 1) dX6_sign_56 (by decide) ?_
        exact k49
      refine x_iadd dX6_sign_57 ?_
      refine x_eqtop (y := nI (sg τ n x s).1) (by rw [hg]; exact nI_add _ _) ?_
      refine x_putM fl_X6_157 fp_6_10 dX6_sign_58 rfl rfl rfl (x_eqI MM_u10 ?_)
      refine x_vret dX6_sign_61 rfl (by decide) (by decide) ?_
      exact ⟨rfl, rfl, rfl, rfl⟩
    · skip
      refine x_aload_n dX6_sign_19 rfl rfl ?_
      refine x_getR fl_X6_22 dX6_sign_20 xk_131 (by decide) rfl (hM 6 _ rfl) ?_
      refine x_aload_n dX6_sign_23 rfl rfl ?_
      refine x_getM fl_X6_157 dX6_sign_24 rfl (x_eqtop PF_10 ?_)
      refine x_ldT dX6_sign_27 (by omega) ?_
      refine x_iload_n dX6_sign_28 rfl rfl ?_
      refine x_icmp_eq 36 dX6_sign_29 (by decide) (fun c29 => ?_) (fun c29 => ?_)
      · skip
        have hg : sg τ n x s = (s.1 + 1, false) := sg_y (bi_0.mp c5) c16 c29
        refine x_iconst (nI 0) dX6_sign_36 (by decide) ?_
        refine x_eqtop (y := bi (sg τ n x s).2) (by rw [hg]; rfl) ?_
        refine x_putM fl_X6_153 fp_6_11 dX6_sign_37 rfl (bi_n _) (bi_f _) (x_eqI MM_u11 ?_)
        refine x_aload_n dX6_sign_40 rfl rfl ?_
        refine x_dup dX6_sign_41 rfl ?_
        refine x_getM fl_X6_157 dX6_sign_42 rfl (x_eqtop PF_10 ?_)
        refine x_aload_n dX6_sign_45 rfl rfl ?_
        refine x_getM fl_X6_153 dX6_sign_46 rfl (x_eqtop PF_11 ?_)
        refine' x_dia_if_eq 56 57 dX6_sign_49 (by decide) ?_ ?_ ?_; rotate_left 2
        · intro c49 k49
          refine x_iconst (nI 0) dX6_sign_52 (by decide) ?_
          refine x_goto 57 dX6_sign_53 (by decide) ?_
          exact k49
        · intro c49 k49
          refine x_iconst (nI 1) dX6_sign_56 (by decide) ?_
          exact k49
        refine x_iadd dX6_sign_57 ?_
        refine x_eqtop (y := nI (sg τ n x s).1) (by rw [hg]; exact nI_add _ _) ?_
        refine x_putM fl_X6_157 fp_6_10 dX6_sign_58 rfl rfl rfl (x_eqI MM_u10 ?_)
        refine x_vret dX6_sign_61 rfl (by decide) (by decide) ?_
        exact ⟨rfl, rfl, rfl, rfl⟩
      · skip
        have hg : sg τ n x s = (s.1, true) := sg_n (bi_0.mp c5) c29
        refine x_iconst (nI 1) dX6_sign_32 (by decide) ?_
        refine x_goto 37 dX6_sign_33 (by decide) ?_
        refine x_eqtop (y := bi (sg τ n x s).2) (by rw [hg]; rfl) ?_
        refine x_putM fl_X6_153 fp_6_11 dX6_sign_37 rfl (bi_n _) (bi_f _) (x_eqI MM_u11 ?_)
        refine x_aload_n dX6_sign_40 rfl rfl ?_
        refine x_dup dX6_sign_41 rfl ?_
        refine x_getM fl_X6_157 dX6_sign_42 rfl (x_eqtop PF_10 ?_)
        refine x_aload_n dX6_sign_45 rfl rfl ?_
        refine x_getM fl_X6_153 dX6_sign_46 rfl (x_eqtop PF_11 ?_)
        refine' x_dia_if_eq 56 57 dX6_sign_49 (by decide) ?_ ?_ ?_; rotate_left 2
        · intro c49 k49
          refine x_iconst (nI 0) dX6_sign_52 (by decide) ?_
          refine x_goto 57 dX6_sign_53 (by decide) ?_
          exact k49
        · intro c49 k49
          refine x_iconst (nI 1) dX6_sign_56 (by decide) ?_
          exact k49
        refine x_iadd dX6_sign_57 ?_
        refine x_eqtop (y := nI (sg τ n x s).1) (by rw [hg]; exact nI_add _ _) ?_
        refine x_putM fl_X6_157 fp_6_10 dX6_sign_58 rfl rfl rfl (x_eqI MM_u10 ?_)
        refine x_vret dX6_sign_61 rfl (by decide) (by decide) ?_
        exact ⟨rfl, rfl, rfl, rfl⟩
theorem sp_X6_isNext (hM : Md R) (hn : φ 7 = nI n) (hn80 : n ≤ 80) (hs : s.1 ≤ n) (x : Int32) : Spd mX6_isNext [.ref 131, .int x] (MM I (PF φ s l a b c d) Z α β κ τ) R (some (.int (bi (nx τ n x s)))) (MM I (PF φ s l a b c d) Z α β κ τ) := by
  refine Spd.mk (by decide +kernel) (by simp [Value.category]) (Nat.le_of_ble_eq_true rfl) (fun g cx => ?_)
  refine x_aload_n dX6_isNext_0 rfl rfl ?_
  refine x_getM fl_X6_153 dX6_isNext_1 rfl (x_eqtop PF_11 ?_)
  refine' x_dia_if_ne 35 36 dX6_isNext_4 (by decide) ?_ ?_ ?_; rotate_left 2
  · intro c4 k4
    refine x_aload_n dX6_isNext_7 rfl rfl ?_
    refine x_getM fl_X6_157 dX6_isNext_8 rfl (x_eqtop PF_10 ?_)
    refine x_aload_n dX6_isNext_11 rfl rfl ?_
    refine x_getM fl_X6_150 dX6_isNext_12 rfl (x_eqtop ((PF_lo (by omega)).trans hn) ?_)
    refine' x_dia_icmp_geN 35 36 dX6_isNext_15 (by decide) (by omega) (by omega) ?_ ?_ ?_; rotate_left 2
    · intro c15 k15
      refine x_aload_n dX6_isNext_18 rfl rfl ?_
      refine x_getR fl_X6_22 dX6_isNext_19 xk_131 (by decide) rfl (hM 6 _ rfl) ?_
      refine x_aload_n dX6_isNext_22 rfl rfl ?_
      refine x_getM fl_X6_157 dX6_isNext_23 rfl (x_eqtop PF_10 ?_)
      refine x_ldT dX6_isNext_26 (by omega) ?_
      refine x_iload_n dX6_isNext_27 rfl rfl ?_
      refine' x_dia_icmp_ne 35 36 dX6_isNext_28 (by decide) ?_ ?_ ?_; rotate_left 2
      · intro c28 k28
        refine x_iconst (nI 1) dX6_isNext_31 (by decide) ?_
        refine x_goto 36 dX6_isNext_32 (by decide) ?_
        exact k28
      · intro c28 k28
        refine x_iconst (nI 0) dX6_isNext_35 (by decide) ?_
        exact k28
      exact k15
    · intro c15 k15
      refine x_iconst (nI 0) dX6_isNext_35 (by decide) ?_
      exact k15
    exact k4
  · intro c4 k4
    refine x_iconst (nI 0) dX6_isNext_35 (by decide) ?_
    exact k4
  refine x_eqtop nx_eq ?_
  refine x_zret dX6_isNext_36 rfl (bi_n _) (by decide) (by decide) ?_
  exact ⟨rfl, rfl, rfl, rfl⟩
theorem sp_X6_isDigit (hM : Md R) (hn : φ 7 = nI n) (hn80 : n ≤ 80) (hs : s.1 ≤ n) : Spd mX6_isDigit [.ref 131] (MM I (PF φ s l a b c d) Z α β κ τ) R (some (.int (bi (dg τ n s)))) (MM I (PF φ s l a b c d) Z α β κ τ) := by
  refine Spd.mk (by decide +kernel) (by simp [Value.category]) (Nat.le_of_ble_eq_true rfl) (fun g cx => ?_)
  refine x_aload_n dX6_isDigit_0 rfl rfl ?_
  refine x_getM fl_X6_153 dX6_isDigit_1 rfl (x_eqtop PF_11 ?_)
  refine' x_dia_if_ne 41 42 dX6_isDigit_4 (by decide) ?_ ?_ ?_; rotate_left 2
  · intro c4 k4
    refine x_aload_n dX6_isDigit_7 rfl rfl ?_
    refine x_getM fl_X6_157 dX6_isDigit_8 rfl (x_eqtop PF_10 ?_)
    refine x_aload_n dX6_isDigit_11 rfl rfl ?_
    refine x_getM fl_X6_150 dX6_isDigit_12 rfl (x_eqtop ((PF_lo (by omega)).trans hn) ?_)
    refine' x_dia_icmp_geN 41 42 dX6_isDigit_15 (by decide) (by omega) (by omega) ?_ ?_ ?_; rotate_left 2
    · intro c15 k15
      refine x_aload_n dX6_isDigit_18 rfl rfl ?_
      refine x_getR fl_X6_22 dX6_isDigit_19 xk_131 (by decide) rfl (hM 6 _ rfl) ?_
      refine x_aload_n dX6_isDigit_22 rfl rfl ?_
      refine x_getM fl_X6_157 dX6_isDigit_23 rfl (x_eqtop PF_10 ?_)
      refine x_ldT dX6_isDigit_26 (by omega) ?_
      refine x_bipush (nI 48) dX6_isDigit_27 (by decide) ?_
      refine x_bipush (nI 57) dX6_isDigit_29 (by decide) ?_
      refine x_callSd0 (mt' := mX6_in) (sp_X6_in _ _ _) ktX6_in wl_X6_36 (by decide) dX6_isDigit_31 rfl rfl (Nat.le_of_ble_eq_true rfl) ⟨rfl, rfl⟩ (by decide) ?_
      refine' x_dia_if_eq 41 42 dX6_isDigit_34 (by decide) ?_ ?_ ?_; rotate_left 2
      · intro c34 k34
        refine x_iconst (nI 1) dX6_isDigit_37 (by decide) ?_
        refine x_goto 42 dX6_isDigit_38 (by decide) ?_
        exact k34
      · intro c34 k34
        refine x_iconst (nI 0) dX6_isDigit_41 (by decide) ?_
        exact k34
      exact k15
    · intro c15 k15
      refine x_iconst (nI 0) dX6_isDigit_41 (by decide) ?_
      exact k15
    exact k4
  · intro c4 k4
    refine x_iconst (nI 0) dX6_isDigit_41 (by decide) ?_
    exact k4
  refine x_eqtop dg_eq ?_
  refine x_zret dX6_isDigit_42 rfl (bi_n _) (by decide) (by decide) ?_
  exact ⟨rfl, rfl, rfl, rfl⟩
end ML
