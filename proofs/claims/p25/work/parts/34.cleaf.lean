
/-! the class: speakers, listeners, logs -/
/-- two objects' rows replaced -/
def SM (I : MI) (a p : Nat) (F P : Nat → Int32) : MI := fun i => if i = a then F else if i = p then P else I i
theorem nI_nge {a b : Nat} (h : b < a) (ha : a < 2 ^ 31) : ¬ nI a ≤ nI b := fun q => absurd ((nI_leI ha (by omega)).mp q) (by omega)
section SMs
variable {I : MI} {a p : Nat} {F P : Nat → Int32} {k : Nat} {v : Int32}
theorem SM_a : SM I a p F P a k = F k := by simp [SM]
theorem SM_p (h : a ≠ p) : SM I a p F P p k = P k := by simp [SM, Ne.symm h]
theorem SM_o {q : Nat} (h1 : q ≠ a) (h2 : q ≠ p) : SM I a p F P q = I q := by simp [SM, h1, h2]
theorem SM_ua : xuI (SM I a p F P) a k v = SM I a p (upd F k v) P := by
  funext i j
  by_cases h : i = a
  · subst h; simp [SM, xuI, upd]
  · simp [SM, xuI, h]
theorem SM_up (hne : a ≠ p) : xuI (SM I a p F P) p k v = SM I a p F (upd P k v) := by
  funext i j
  by_cases h : i = a
  · subst h; simp [SM, xuI, hne]
  · by_cases h2 : i = p
    · subst h2; simp [SM, xuI, upd, h]
    · simp [SM, xuI, h, h2]
theorem SM_cp (hne : a ≠ p) {s d m : Nat} : xuC (SM I a p F P) p p s d m = SM I a p F (va_cpy P P s d m) := by
  funext i
  have e : SM I a p F P p = P := by simp [SM, Ne.symm hne]
  by_cases h : i = a
  · subst h; simp [SM, xuC, hne]
  · by_cases h2 : i = p
    · subst h2; simp only [xuC, if_pos, e]; simp [SM, h]
    · simp [SM, xuC, h, h2]
theorem SM_cq (hne : a ≠ p) {q s d m : Nat} (h1 : q ≠ a) (h2 : q ≠ p) : xuC (SM I a p F P) p q s d m = SM I a p F (va_cpy (I q) P s d m) := by
  funext i
  have e : SM I a p F P p = P := by simp [SM, Ne.symm hne]
  by_cases h : i = a
  · subst h; simp [SM, xuC, hne]
  · by_cases h3 : i = p
    · subst h3; simp only [xuC, if_pos, e, SM_o h1 h2]; simp [SM, h]
    · simp [SM, xuC, h, h3]
theorem SM_self : SM I a p (I a) (I p) = I := by
  funext i
  by_cases h : i = a
  · subst h; simp [SM]
  · by_cases h2 : i = p
    · subst h2; simp [SM, h]
    · simp [SM, h, h2]
theorem rw1_u : xuI (rw1 I a F) a k v = rw1 I a (upd F k v) := by
  funext i j
  by_cases h : i = a
  · subst h; simp [rw1, xuI, upd]
  · simp [rw1, xuI, h]
theorem rw1_a : rw1 I a F a k = F k := by simp [rw1]
theorem rw1_id : rw1 I a (I a) = I := by
  funext i
  by_cases h : i = a
  · subst h; simp [rw1]
  · simp [rw1, h]
end SMs
/-- a speaker and its parts, a log and its cells -/
def Sk (R : MR) (c l a p : Nat) : Prop := xkd a = c ∧ a < 131 ∧ xkd p = 8 ∧ p < 131 ∧ xln p = l ∧ a ≠ p ∧ R a 0 = some p
section SKs
variable {R : MR} {c l a p : Nat}
theorem Sk.ka (h : Sk R c l a p) : xkd a = c := h.1
theorem Sk.la (h : Sk R c l a p) : a < 131 := h.2.1
theorem Sk.kp (h : Sk R c l a p) : xkd p = 8 := h.2.2.1
theorem Sk.lp (h : Sk R c l a p) : p < 131 := h.2.2.2.1
theorem Sk.xl (h : Sk R c l a p) : xln p = l := h.2.2.2.2.1
theorem Sk.ne (h : Sk R c l a p) : a ≠ p := h.2.2.2.2.2.1
theorem Sk.rp (h : Sk R c l a p) : R a 0 = some p := h.2.2.2.2.2.2
end SKs
section CL
variable {I : MI} {R : MR} {a p b q : Nat} {F P : Nat → Int32}
def skLose (F : Nat → Int32) : Nat → Int32 := upd (upd F 2 (nI 0)) 4 (F 4 + nI 1)
def skCame (F : Nat → Int32) : Nat → Int32 := upd (upd F 2 (nI 0)) 3 (F 3 + nI 1)
def skFail (F : Nat → Int32) : Nat → Int32 := upd (upd (upd F 2 (nI 0)) 5 (F 5 + nI 1)) 7 (F 7 + nI 1)
theorem sp_X3_lose (hs : Sk R 3 15 a p) : Spd mX3_lose [.ref a] (SM I a p F P) R none (SM I a p (skLose F) P) := by
  refine Spd.mk (by decide +kernel) (by simp [Value.category]) (Nat.le_of_ble_eq_true rfl) (fun g cx => ?_)
  refine x_aload_n dX3_lose_0 rfl rfl ?_
  refine x_iconst (nI 0) dX3_lose_1 (by decide) ?_
  refine x_putI fl_X3_25 fp_3_2 dX3_lose_2 hs.ka hs.la rfl rfl rfl (x_eqI SM_ua ?_)
  refine x_aload_n dX3_lose_5 rfl rfl ?_
  refine x_dup dX3_lose_6 rfl ?_
  refine x_getI fl_X3_32 dX3_lose_7 hs.ka hs.la rfl (x_eqtop SM_a ?_)
  refine x_iconst (nI 1) dX3_lose_10 (by decide) ?_
  refine x_iadd dX3_lose_11 ?_
  refine x_putI fl_X3_32 fp_3_4 dX3_lose_12 hs.ka hs.la rfl rfl rfl (x_eqI SM_ua ?_)
  refine x_vret dX3_lose_15 rfl (by decide) (by decide) ?_
  exact ⟨rfl, rfl, rfl, rfl⟩
def skRem (F : Nat → Int32) (m : Nat) : Nat → Int32 := upd (upd F 1 (nI (m - 1))) 7 (nI 0)
theorem sp_X3_removeFirst (hs : Sk R 3 15 a p) {m : Nat} (h1 : 1 ≤ m) (h5 : m ≤ 5) (hm : F 1 = nI m) : Spd mX3_removeFirst [.ref a] (SM I a p F P) R none (SM I a p (skRem F m) (va_cpy P P 3 0 12)) := by
  refine Spd.mk (by decide +kernel) (by simp [Value.category]) (Nat.le_of_ble_eq_true rfl) (fun g cx => ?_)
  refine x_aload_n dX3_removeFirst_0 rfl rfl ?_
  refine x_getR fl_X3_9 dX3_removeFirst_1 hs.ka hs.la rfl hs.rp ?_
  refine x_iconst (nI 3) dX3_removeFirst_4 (by decide) ?_
  refine x_aload_n dX3_removeFirst_5 rfl rfl ?_
  refine x_getR fl_X3_9 dX3_removeFirst_6 hs.ka hs.la rfl hs.rp ?_
  refine x_iconst (nI 0) dX3_removeFirst_9 (by decide) ?_
  refine x_bipush (nI 12) dX3_removeFirst_10 (by decide) ?_
  refine x_copy (jsp := 3) (jdp := 0) (jn := 12) wl_X3_15 wv_ACP wt_ACP wz_J10 hs.kp hs.kp hs.lp hs.lp (nI_pos (by omega)) (nI_pos (by omega)) (nI_pos (by omega)) rfl rfl rfl (by rw [hs.xl]; decide) (by rw [hs.xl]; decide) (by decide) (Nat.le_of_ble_eq_true rfl) (by decide) rfl dX3_removeFirst_12 (x_eqI (SM_cp hs.ne) ?_)
  refine x_aload_n dX3_removeFirst_15 rfl rfl ?_
  refine x_getI fl_X3_21 dX3_removeFirst_16 hs.ka hs.la rfl (x_eqtop (SM_a.trans hm) ?_)
  refine x_if_leF dX3_removeFirst_19 (fun q => absurd ((nI_le0 (by omega)).mp q) (by omega)) ?_ 32 (by decide)
  refine x_aload_n dX3_removeFirst_22 rfl rfl ?_
  refine x_dup dX3_removeFirst_23 rfl ?_
  refine x_getI fl_X3_21 dX3_removeFirst_24 hs.ka hs.la rfl (x_eqtop (SM_a.trans hm) ?_)
  refine x_iconst (nI 1) dX3_removeFirst_27 (by decide) ?_
  refine x_isubN dX3_removeFirst_28 (by omega) ?_
  refine x_putI fl_X3_21 fp_3_1 dX3_removeFirst_29 hs.ka hs.la rfl rfl rfl (x_eqI SM_ua ?_)
  refine x_aload_n dX3_removeFirst_32 rfl rfl ?_
  refine x_iconst (nI 0) dX3_removeFirst_33 (by decide) ?_
  refine x_putI fl_X3_41 fp_3_7 dX3_removeFirst_34 hs.ka hs.la rfl rfl rfl (x_eqI SM_ua ?_)
  refine x_vret dX3_removeFirst_37 rfl (by decide) (by decide) ?_
  exact ⟨rfl, rfl, rfl, rfl⟩
theorem sp_X3_bringMessage (hs : Sk R 3 15 a p) {m : Nat} (h1 : 1 ≤ m) (h5 : m ≤ 5) (hm : F 1 = nI m) : Spd mX3_bringMessage [.ref a] (SM I a p F P) R none (SM I a p (skRem (skCame F) m) (va_cpy P P 3 0 12)) := by
  refine Spd.mk (by decide +kernel) (by simp [Value.category]) (Nat.le_of_ble_eq_true rfl) (fun g cx => ?_)
  refine x_aload_n dX3_bringMessage_0 rfl rfl ?_
  refine x_iconst (nI 0) dX3_bringMessage_1 (by decide) ?_
  refine x_putI fl_X3_25 fp_3_2 dX3_bringMessage_2 hs.ka hs.la rfl rfl rfl (x_eqI SM_ua ?_)
  refine x_aload_n dX3_bringMessage_5 rfl rfl ?_
  refine x_dup dX3_bringMessage_6 rfl ?_
  refine x_getI fl_X3_29 dX3_bringMessage_7 hs.ka hs.la rfl (x_eqtop SM_a ?_)
  refine x_iconst (nI 1) dX3_bringMessage_10 (by decide) ?_
  refine x_iadd dX3_bringMessage_11 ?_
  refine x_putI fl_X3_29 fp_3_3 dX3_bringMessage_12 hs.ka hs.la rfl rfl rfl (x_eqI SM_ua ?_)
  refine x_aload_n dX3_bringMessage_15 rfl rfl ?_
  refine x_callVd0 (mt' := mX3_removeFirst) (sp_X3_removeFirst hs h1 h5 (by exact hm)) kvX3_removeFirst wl_X3_48 (by decide) dX3_bringMessage_16 hs.ka hs.la rfl rfl (Nat.le_of_ble_eq_true rfl) ⟨rfl, rfl⟩ (by decide) ?_
  refine x_vret dX3_bringMessage_19 rfl (by decide) (by decide) ?_
  exact ⟨rfl, rfl, rfl, rfl⟩
def skMiss (F P : Nat → Int32) (m : Nat) (c : Int32) : (Nat → Int32) × (Nat → Int32) := if F 7 + nI 1 < c then (skFail F, P) else (skRem (upd (skFail F) 6 (F 6 + nI 1)) m, va_cpy P P 3 0 12)
theorem sp_X3_failMessage (hs : Sk R 3 15 a p) {m : Nat} (c : Int32) (h1 : 1 ≤ m) (h5 : m ≤ 5) (hm : F 1 = nI m) : Spd mX3_failMessage [.ref a, .int c] (SM I a p F P) R none (SM I a p (skMiss F P m c).1 (skMiss F P m c).2) := by
  refine Spd.mk (by decide +kernel) (by simp [Value.category]) (Nat.le_of_ble_eq_true rfl) (fun g cx => ?_)
  refine x_aload_n dX3_failMessage_0 rfl rfl ?_
  refine x_iconst (nI 0) dX3_failMessage_1 (by decide) ?_
  refine x_putI fl_X3_25 fp_3_2 dX3_failMessage_2 hs.ka hs.la rfl rfl rfl (x_eqI SM_ua ?_)
  refine x_aload_n dX3_failMessage_5 rfl rfl ?_
  refine x_dup dX3_failMessage_6 rfl ?_
  refine x_getI fl_X3_35 dX3_failMessage_7 hs.ka hs.la rfl (x_eqtop SM_a ?_)
  refine x_iconst (nI 1) dX3_failMessage_10 (by decide) ?_
  refine x_iadd dX3_failMessage_11 ?_
  refine x_putI fl_X3_35 fp_3_5 dX3_failMessage_12 hs.ka hs.la rfl rfl rfl (x_eqI SM_ua ?_)
  refine x_aload_n dX3_failMessage_15 rfl rfl ?_
  refine x_dup dX3_failMessage_16 rfl ?_
  refine x_getI fl_X3_41 dX3_failMessage_17 hs.ka hs.la rfl (x_eqtop SM_a ?_)
  refine x_iconst (nI 1) dX3_failMessage_20 (by decide) ?_
  refine x_iadd dX3_failMessage_21 ?_
  refine x_putI fl_X3_41 fp_3_7 dX3_failMessage_22 hs.ka hs.la rfl rfl rfl (x_eqI SM_ua ?_)
  refine x_aload_n dX3_failMessage_25 rfl rfl ?_
  refine x_getI fl_X3_41 dX3_failMessage_26 hs.ka hs.la rfl (x_eqtop SM_a ?_)
  refine x_iload_n dX3_failMessage_29 rfl rfl ?_
  refine x_icmp_lt 47 dX3_failMessage_30 (by decide) (fun c30 => ?_) (fun c30 => ?_)
  · skip
    rw [show skMiss F P m c = (skFail F, P) from if_pos c30]
    refine x_vret dX3_failMessage_47 rfl (by decide) (by decide) ?_
    exact ⟨rfl, rfl, rfl, rfl⟩
  · skip
    rw [show skMiss F P m c = (skRem (upd (skFail F) 6 (F 6 + nI 1)) m, va_cpy P P 3 0 12) from if_neg c30]
    refine x_aload_n dX3_failMessage_33 rfl rfl ?_
    refine x_dup dX3_failMessage_34 rfl ?_
    refine x_getI fl_X3_38 dX3_failMessage_35 hs.ka hs.la rfl (x_eqtop SM_a ?_)
    refine x_iconst (nI 1) dX3_failMessage_38 (by decide) ?_
    refine x_iadd dX3_failMessage_39 ?_
    refine x_putI fl_X3_38 fp_3_6 dX3_failMessage_40 hs.ka hs.la rfl rfl rfl (x_eqI SM_ua ?_)
    refine x_aload_n dX3_failMessage_43 rfl rfl ?_
    refine x_callVd0 (mt' := mX3_removeFirst) (sp_X3_removeFirst hs h1 h5 (by exact hm)) kvX3_removeFirst wl_X3_48 (by decide) dX3_failMessage_44 hs.ka hs.la rfl rfl (Nat.le_of_ble_eq_true rfl) ⟨rfl, rfl⟩ (by decide) ?_
    refine x_vret dX3_failMessage_47 rfl (by decide) (by decide) ?_
    exact ⟨rfl, rfl, rfl, rfl⟩
theorem sp_X3_part (hs : Sk R 3 15 a p) {j w : Nat} (hj : j < 5) (hw : w < 3) : Spd mX3_part [.ref a, .int (nI j), .int (nI w)] (SM I a p F P) R (some (.int (P (j * 3 + w)))) (SM I a p F P) := by
  refine Spd.mk (by decide +kernel) (by simp [Value.category]) (Nat.le_of_ble_eq_true rfl) (fun g cx => ?_)
  refine x_iload_n dX3_part_0 rfl rfl ?_
  refine x_if_ltF dX3_part_1 (nI_pos (by omega)) ?_ 22 (by decide)
  refine x_iload_n dX3_part_4 rfl rfl ?_
  refine x_iconst (nI 5) dX3_part_5 (by decide) ?_
  refine x_icmp_geF dX3_part_6 (nI_nge (by omega) (by omega)) ?_ 22 (by decide)
  refine x_iload_n dX3_part_9 rfl rfl ?_
  refine x_if_ltF dX3_part_10 (nI_pos (by omega)) ?_ 22 (by decide)
  refine x_iload_n dX3_part_13 rfl rfl ?_
  refine x_iconst (nI 3) dX3_part_14 (by decide) ?_
  refine x_icmp_geF dX3_part_15 (nI_nge (by omega) (by omega)) ?_ 22 (by decide)
  refine x_iconst (nI 1) dX3_part_18 (by decide) ?_
  refine x_goto 23 dX3_part_19 (by decide) ?_
  refine x_istore_n dX3_part_23 rfl (by decide) ?_
  refine x_iload_n dX3_part_24 rfl rfl ?_
  refine x_if_eqF dX3_part_25 (by decide) ?_ 41 (by decide)
  refine x_aload_n dX3_part_28 rfl rfl ?_
  refine x_getR fl_X3_9 dX3_part_29 hs.ka hs.la rfl hs.rp ?_
  refine x_iload_n dX3_part_32 rfl rfl ?_
  refine x_iconst (nI 3) dX3_part_33 (by decide) ?_
  refine x_imulN dX3_part_34 ?_
  refine x_iload_n dX3_part_35 rfl rfl ?_
  refine x_iaddN dX3_part_36 ?_
  refine x_iald (j := j * 3 + w) dX3_part_37 hs.kp hs.lp (nI_pos (by omega)) (nI_clamp (by omega)) (by rw [hs.xl]; omega) (x_eqtop (SM_p hs.ne) ?_)
  refine x_goto 43 dX3_part_38 (by decide) ?_
  refine x_iret dX3_part_43 rfl (by decide) (by decide) ?_
  exact ⟨rfl, rfl, rfl, rfl⟩
theorem sp_X3_partsAt (hs : Sk R 3 15 a p) {j : Nat} (hj : j < 5) : Spd mX3_partsAt [.ref a, .int (nI j)] (SM I a p F P) R (some (.int (if P (j * 3 + 2) = -5 then nI 2 else nI 3))) (SM I a p F P) := by
  refine Spd.mk (by decide +kernel) (by simp [Value.category]) (Nat.le_of_ble_eq_true rfl) (fun g cx => ?_)
  refine x_aload_n dX3_partsAt_0 rfl rfl ?_
  refine x_iload_n dX3_partsAt_1 rfl rfl ?_
  refine x_iconst (nI 2) dX3_partsAt_2 (by decide) ?_
  refine x_callVd0 (mt' := mX3_part) (sp_X3_part hs (by omega) (by omega)) kvX3_part wl_X3_51 (by decide) dX3_partsAt_3 hs.ka hs.la rfl rfl (Nat.le_of_ble_eq_true rfl) ⟨rfl, rfl⟩ (by decide) ?_
  refine x_bipush (-5) dX3_partsAt_6 (by decide) ?_
  refine' x_dia_icmp_ne 15 16 dX3_partsAt_8 (by decide) ?_ ?_ ?_; rotate_left 2
  · intro c8 k8
    refine x_iconst (nI 2) dX3_partsAt_11 (by decide) ?_
    refine x_goto 16 dX3_partsAt_12 (by decide) ?_
    exact k8
  · intro c8 k8
    refine x_iconst (nI 3) dX3_partsAt_15 (by decide) ?_
    exact k8
  refine x_iret dX3_partsAt_16 rfl (by decide) (by decide) ?_
  exact ⟨rfl, rfl, rfl, rfl⟩
def skApp (P : Nat → Int32) (m : Nat) (x y z : Int32) : Nat → Int32 := upd (upd (upd P (m * 3) (x <<< 1)) (m * 3 + 1) y) (m * 3 + 2) z
theorem sp_X3_append (hs : Sk R 3 15 a p) {m : Nat} (x y z : Int32) (h5 : m < 5) (hm : F 1 = nI m) : Spd mX3_append [.ref a, .int x, .int y, .int z] (SM I a p F P) R none (SM I a p (upd F 1 (nI (m + 1))) (skApp P m x y z)) := by
  refine Spd.mk (by decide +kernel) (by simp [Value.category]) (Nat.le_of_ble_eq_true rfl) (fun g cx => ?_)
  refine x_aload_n dX3_append_0 rfl rfl ?_
  refine x_getI fl_X3_21 dX3_append_1 hs.ka hs.la rfl (x_eqtop (SM_a.trans hm) ?_)
  refine x_iconst (nI 5) dX3_append_4 (by decide) ?_
  refine x_callSNd0 (mt' := mX5_isIndex) (sp_isIndex _ _) ktX5_isIndex wl_X3_44 (by decide) dX3_append_5 rfl rfl (Nat.le_of_ble_eq_true rfl) ⟨rfl, rfl⟩ (by decide) ?_
  refine x_if_eqF dX3_append_8 (fun q => bi_t q (decide_eq_true ⟨Int32.not_lt.mp (nI_pos (by omega)), Int32.not_le.mp (nI_nge (by omega) (by omega))⟩)) ?_ 63 (by decide)
  refine x_aload_n dX3_append_11 rfl rfl ?_
  refine x_getR fl_X3_9 dX3_append_12 hs.ka hs.la rfl hs.rp ?_
  refine x_aload_n dX3_append_15 rfl rfl ?_
  refine x_getI fl_X3_21 dX3_append_16 hs.ka hs.la rfl (x_eqtop (SM_a.trans hm) ?_)
  refine x_iconst (nI 3) dX3_append_19 (by decide) ?_
  refine x_imulN dX3_append_20 ?_
  refine x_iload_n dX3_append_21 rfl rfl ?_
  refine x_iconst (nI 1) dX3_append_22 (by decide) ?_
  refine x_ishl dX3_append_23 ?_
  refine x_iast (j := m * 3) dX3_append_24 hs.kp hs.lp (nI_pos (by omega)) (nI_clamp (by omega)) (by rw [hs.xl]; omega) (x_eqI (SM_up hs.ne) ?_)
  refine x_aload_n dX3_append_25 rfl rfl ?_
  refine x_getR fl_X3_9 dX3_append_26 hs.ka hs.la rfl hs.rp ?_
  refine x_aload_n dX3_append_29 rfl rfl ?_
  refine x_getI fl_X3_21 dX3_append_30 hs.ka hs.la rfl (x_eqtop (SM_a.trans hm) ?_)
  refine x_iconst (nI 3) dX3_append_33 (by decide) ?_
  refine x_imulN dX3_append_34 ?_
  refine x_iconst (nI 1) dX3_append_35 (by decide) ?_
  refine x_iaddN dX3_append_36 ?_
  refine x_iload_n dX3_append_37 rfl rfl ?_
  refine x_iast (j := m * 3 + 1) dX3_append_38 hs.kp hs.lp (nI_pos (by omega)) (nI_clamp (by omega)) (by rw [hs.xl]; omega) (x_eqI (SM_up hs.ne) ?_)
  refine x_aload_n dX3_append_39 rfl rfl ?_
  refine x_getR fl_X3_9 dX3_append_40 hs.ka hs.la rfl hs.rp ?_
  refine x_aload_n dX3_append_43 rfl rfl ?_
  refine x_getI fl_X3_21 dX3_append_44 hs.ka hs.la rfl (x_eqtop (SM_a.trans hm) ?_)
  refine x_iconst (nI 3) dX3_append_47 (by decide) ?_
  refine x_imulN dX3_append_48 ?_
  refine x_iconst (nI 2) dX3_append_49 (by decide) ?_
  refine x_iaddN dX3_append_50 ?_
  refine x_iload_n dX3_append_51 rfl rfl ?_
  refine x_iast (j := m * 3 + 2) dX3_append_52 hs.kp hs.lp (nI_pos (by omega)) (nI_clamp (by omega)) (by rw [hs.xl]; omega) (x_eqI (SM_up hs.ne) ?_)
  refine x_aload_n dX3_append_53 rfl rfl ?_
  refine x_dup dX3_append_54 rfl ?_
  refine x_getI fl_X3_21 dX3_append_55 hs.ka hs.la rfl (x_eqtop (SM_a.trans hm) ?_)
  refine x_iconst (nI 1) dX3_append_58 (by decide) ?_
  refine x_iaddN dX3_append_59 ?_
  refine x_putI fl_X3_21 fp_3_1 dX3_append_60 hs.ka hs.la rfl rfl rfl (x_eqI SM_ua ?_)
  refine x_vret dX3_append_63 rfl (by decide) (by decide) ?_
  exact ⟨rfl, rfl, rfl, rfl⟩
theorem sp_X3_removeLast (hs : Sk R 3 15 a p) {m : Nat} (h1 : 1 ≤ m) (h5 : m ≤ 5) (hm : F 1 = nI m) : Spd mX3_removeLast [.ref a] (SM I a p F P) R none (SM I a p (if m = 1 then skRem F m else upd F 1 (nI (m - 1))) P) := by
  refine Spd.mk (by decide +kernel) (by simp [Value.category]) (Nat.le_of_ble_eq_true rfl) (fun g cx => ?_)
  refine x_aload_n dX3_removeLast_0 rfl rfl ?_
  refine x_getI fl_X3_21 dX3_removeLast_1 hs.ka hs.la rfl (x_eqtop (SM_a.trans hm) ?_)
  refine x_if_leF dX3_removeLast_4 (fun q => absurd ((nI_le0 (by omega)).mp q) (by omega)) ?_ 17 (by decide)
  refine x_aload_n dX3_removeLast_7 rfl rfl ?_
  refine x_dup dX3_removeLast_8 rfl ?_
  refine x_getI fl_X3_21 dX3_removeLast_9 hs.ka hs.la rfl (x_eqtop (SM_a.trans hm) ?_)
  refine x_iconst (nI 1) dX3_removeLast_12 (by decide) ?_
  refine x_isubN dX3_removeLast_13 (by omega) ?_
  refine x_putI fl_X3_21 fp_3_1 dX3_removeLast_14 hs.ka hs.la rfl rfl rfl (x_eqI SM_ua ?_)
  refine x_aload_n dX3_removeLast_17 rfl rfl ?_
  refine x_getI fl_X3_21 dX3_removeLast_18 hs.ka hs.la rfl (x_eqtop (y := nI (m - 1)) SM_a ?_)
  refine x_if_neN 29 dX3_removeLast_21 (by decide) (by omega) (fun c21 => ?_) (fun c21 => ?_)
  · skip
    rw [if_neg (by omega)]
    refine x_vret dX3_removeLast_29 rfl (by decide) (by decide) ?_
    exact ⟨rfl, rfl, rfl, rfl⟩
  · skip
    rw [if_pos (by omega)]
    refine x_aload_n dX3_removeLast_24 rfl rfl ?_
    refine x_iconst (nI 0) dX3_removeLast_25 (by decide) ?_
    refine x_putI fl_X3_41 fp_3_7 dX3_removeLast_26 hs.ka hs.la rfl rfl rfl (x_eqI SM_ua ?_)
    refine x_vret dX3_removeLast_29 rfl (by decide) (by decide) ?_
    exact ⟨rfl, rfl, rfl, rfl⟩
theorem sp_X3_copyFrom (hs : Sk R 3 15 a p) (hq : Sk R 3 15 b q) (hba : b ≠ a) (hbp : b ≠ p) (hqa : q ≠ a) (hqp : q ≠ p) {t : Bool} (ht : I b 2 = bi t) : Spd mX3_copyFrom [.ref a, .ref b] (SM I a p F P) R none (SM I a p (upd (upd (upd (upd (upd (upd (upd F 1 (I b 1)) 2 (I b 2)) 3 (I b 3)) 4 (I b 4)) 5 (I b 5)) 6 (I b 6)) 7 (I b 7)) (va_cpy (I q) P 0 0 15)) := by
  refine Spd.mk (by decide +kernel) (by simp [Value.category]) (Nat.le_of_ble_eq_true rfl) (fun g cx => ?_)
  have e : ∀ (F P : Nat → Int32) (k : Nat), SM I a p F P b k = I b k := fun F P k => by rw [SM_o hba hbp]
  refine x_aload_n dX3_copyFrom_0 rfl rfl ?_
  refine x_getR fl_X3_9 dX3_copyFrom_1 hq.ka hq.la rfl hq.rp ?_
  refine x_iconst (nI 0) dX3_copyFrom_4 (by decide) ?_
  refine x_aload_n dX3_copyFrom_5 rfl rfl ?_
  refine x_getR fl_X3_9 dX3_copyFrom_6 hs.ka hs.la rfl hs.rp ?_
  refine x_iconst (nI 0) dX3_copyFrom_9 (by decide) ?_
  refine x_bipush (nI 15) dX3_copyFrom_10 (by decide) ?_
  refine x_copy (jsp := 0) (jdp := 0) (jn := 15) wl_X3_15 wv_ACP wt_ACP wz_J10 hq.kp hs.kp hq.lp hs.lp (nI_pos (by omega)) (nI_pos (by omega)) (nI_pos (by omega)) rfl rfl rfl (by rw [hq.xl]; decide) (by rw [hs.xl]; decide) (by decide) (Nat.le_of_ble_eq_true rfl) (by decide) rfl dX3_copyFrom_12 (x_eqI (SM_cq hs.ne hqa hqp) ?_)
  refine x_aload_n dX3_copyFrom_15 rfl rfl ?_
  refine x_aload_n dX3_copyFrom_16 rfl rfl ?_
  refine x_getI fl_X3_21 dX3_copyFrom_17 hq.ka hq.la rfl (x_eqtop (e _ _ _) ?_)
  refine x_putI fl_X3_21 fp_3_1 dX3_copyFrom_20 hs.ka hs.la rfl rfl rfl (x_eqI SM_ua ?_)
  refine x_aload_n dX3_copyFrom_23 rfl rfl ?_
  refine x_aload_n dX3_copyFrom_24 rfl rfl ?_
  refine x_getI fl_X3_25 dX3_copyFrom_25 hq.ka hq.la rfl (x_eqtop (e _ _ _) ?_)
  refine x_putI fl_X3_25 fp_3_2 dX3_copyFrom_28 hs.ka hs.la rfl (by rw [ht]; exact bi_n _) (by rw [ht]; exact bi_f _) (x_eqI SM_ua ?_)
  refine x_aload_n dX3_copyFrom_31 rfl rfl ?_
  refine x_aload_n dX3_copyFrom_32 rfl rfl ?_
  refine x_getI fl_X3_29 dX3_copyFrom_33 hq.ka hq.la rfl (x_eqtop (e _ _ _) ?_)
  refine x_putI fl_X3_29 fp_3_3 dX3_copyFrom_36 hs.ka hs.la rfl rfl rfl (x_eqI SM_ua ?_)
  refine x_aload_n dX3_copyFrom_39 rfl rfl ?_
  refine x_aload_n dX3_copyFrom_40 rfl rfl ?_
  refine x_getI fl_X3_32 dX3_copyFrom_41 hq.ka hq.la rfl (x_eqtop (e _ _ _) ?_)
  refine x_putI fl_X3_32 fp_3_4 dX3_copyFrom_44 hs.ka hs.la rfl rfl rfl (x_eqI SM_ua ?_)
  refine x_aload_n dX3_copyFrom_47 rfl rfl ?_
  refine x_aload_n dX3_copyFrom_48 rfl rfl ?_
  refine x_getI fl_X3_35 dX3_copyFrom_49 hq.ka hq.la rfl (x_eqtop (e _ _ _) ?_)
  refine x_putI fl_X3_35 fp_3_5 dX3_copyFrom_52 hs.ka hs.la rfl rfl rfl (x_eqI SM_ua ?_)
  refine x_aload_n dX3_copyFrom_55 rfl rfl ?_
  refine x_aload_n dX3_copyFrom_56 rfl rfl ?_
  refine x_getI fl_X3_38 dX3_copyFrom_57 hq.ka hq.la rfl (x_eqtop (e _ _ _) ?_)
  refine x_putI fl_X3_38 fp_3_6 dX3_copyFrom_60 hs.ka hs.la rfl rfl rfl (x_eqI SM_ua ?_)
  refine x_aload_n dX3_copyFrom_63 rfl rfl ?_
  refine x_aload_n dX3_copyFrom_64 rfl rfl ?_
  refine x_getI fl_X3_41 dX3_copyFrom_65 hq.ka hq.la rfl (x_eqtop (e _ _ _) ?_)
  refine x_putI fl_X3_41 fp_3_7 dX3_copyFrom_68 hs.ka hs.la rfl rfl rfl (x_eqI SM_ua ?_)
  refine x_vret dX3_copyFrom_71 rfl (by decide) (by decide) ?_
  exact ⟨rfl, rfl, rfl, rfl⟩
end CL
