/-! the class: the text read. TM: place, kind and numbers put in; the rest is J's *)
-/
def TM (J : MI) (q k : Int32) (N : Nat → Int32) : MI := fun a => if a = 38 then upd (upd (J 38) 3 q) 4 k else if a = 40 then N else J a
section TMs
variable {J : MI} {q k v : Int32} {N : Nat → Int32}
theorem TM_2 : TM J q k N 38 2 = J 38 2 := by simp [TM, upd]
theorem TM_3 : TM J q k N 38 3 = q := by simp [TM, upd]
theorem TM_4 : TM J q k N 38 4 = k := by simp [TM, upd]
theorem TM_39 : TM J q k N 39 = J 39 := by simp [TM]
theorem TM_40 : TM J q k N 40 = N := by simp [TM]
theorem TM_o {a : Nat} (h : a ≠ 38) (h2 : a ≠ 40) : TM J q k N a = J a := by simp [TM, h, h2]
theorem TM_u3 : xuI (TM J q k N) 38 3 v = TM J v k N := by
  funext a b
  by_cases h : a = 38
  · subst h
    by_cases h3 : b = 3
    · subst h3; simp [xuI, TM, upd]
    · by_cases h4 : b = 4
      · subst h4; simp [xuI, TM, upd]
      · simp [xuI, TM, upd, h3, h4]
  · simp [xuI, TM, h]
theorem TM_u4 : xuI (TM J q k N) 38 4 v = TM J q v N := by
  funext a b
  by_cases h : a = 38
  · subst h
    by_cases h4 : b = 4
    · subst h4; simp [xuI, TM, upd]
    · simp [xuI, TM, upd, h4]
  · simp [xuI, TM, h]
theorem TM_u40 {i : Nat} : xuI (TM J q k N) 40 i v = TM J q k (upd N i v) := by
  funext a b
  by_cases h : a = 40
  · subst h
    simp [xuI, TM, upd]
  · simp [xuI, TM, h]
theorem TM_id : TM J (J 38 3) (J 38 4) (J 40) = J := by
  funext a b
  by_cases h : a = 38
  · subst h
    by_cases h4 : b = 4
    · subst h4; simp [TM, upd]
    · by_cases h3 : b = 3
      · subst h3; simp [TM, upd]
      · simp [TM, upd, h3, h4]
  · by_cases h2 : a = 40
    · subst h2; simp [TM]
    · simp [TM, h, h2]
end TMs
def HT (J : MI) (R : MR) (n : Nat) (t : Nat → Int32) : Prop := Tx J n t ∧ R 38 0 = some 39 ∧ R 38 1 = some 40
theorem ix_n {p n : Nat} (hp : p < 2 ^ 30) (hn : n ≤ 80) : decide (0 ≤ nI p ∧ nI p < nI n) = decide (p < n) := decide_eq_decide.mpr ⟨fun q => (nI_ltI (by omega) (by omega)).mp q.2, fun q => ⟨nI_pos' (by omega), (nI_ltI (by omega) (by omega)).mpr q⟩⟩
theorem has_e {t : Nat → Int32} {n p : Nat} {c : Int32} (h : ¬ p < n) : has t n p c = false := by unfold has; rw [decide_eq_false h]; rfl
theorem has_n {t : Nat → Int32} {n p : Nat} {c : Int32} (h : ¬ t p = c) : has t n p c = false := by unfold has; rw [decide_eq_false h, Bool.and_false]
theorem has_y {t : Nat → Int32} {n p : Nat} {c : Int32} (h : p < n) (h2 : t p = c) : has t n p c = true := by unfold has; rw [decide_eq_true h, decide_eq_true h2]; rfl
theorem has_lt {t : Nat → Int32} {n p : Nat} {c : Int32} (h : has t n p c = true) : p < n ∧ t p = c := by
  unfold has at h
  rw [Bool.and_eq_true, decide_eq_true_eq, decide_eq_true_eq] at h
  exact h
/-- the digit at a place, or -1 -/
def dgv (t : Nat → Int32) (n p : Nat) : Int32 := if dg t n (p, false) = true then t p - nI 48 else -1
theorem dg_c {t : Nat → Int32} {n p : Nat} (h : dg t n (p, false) = true) : p < n ∧ ∃ c, 48 ≤ c ∧ c ≤ 57 ∧ t p = nI c := by
  have hlt := dg_lt h
  unfold dg at h
  simp only [Bool.not_false, Bool.true_and, Bool.and_eq_true, decide_eq_true_eq] at h
  obtain ⟨c, h1, h2, h3⟩ := inr_of (by omega) h.2 (by omega)
  exact ⟨hlt, c, h1, h2, h3⟩
theorem dg_no1 {t : Nat → Int32} {n p : Nat} (h : ¬ p < n) : dg t n (p, false) = false := by unfold dg; rw [decide_eq_false h]; rfl
theorem dg_no2 {t : Nat → Int32} {n p : Nat} (h : ¬ inr (t p) (nI 48) (nI 57) = true) : dg t n (p, false) = false := by
  unfold dg
  cases e : inr (t p) (nI 48) (nI 57) with
  | true => exact absurd e h
  | false => simp [e]
theorem dg_yes {t : Nat → Int32} {n p : Nat} (h1 : p < n) (h : inr (t p) (nI 48) (nI 57) = true) : dg t n (p, false) = true := by unfold dg; rw [decide_eq_true h1, h]; rfl
def loN (kd w : Nat) : Nat := if (kd = 3 ∧ w = 1) ∨ kd = 4 then 1 else 0
def hiN (kd w : Nat) : Nat := if kd = 4 then 99 else if w = 0 then 3 else if kd = 0 then (if w = 1 then 127 else 255) else if kd = 1 then 127 else if kd = 2 then 9 else 99
theorem hiN_le (kd w : Nat) : hiN kd w ≤ 255 := by unfold hiN; repeat (first | omega | split)
theorem loN_le (kd w : Nat) : loN kd w ≤ 1 := by unfold loN; split <;> omega
section CT
variable {J : MI} {R : MR} {n : Nat} {t : Nat → Int32} {q k : Int32} {N : Nat → Int32} {p : Nat}
theorem sp_isCharacter (hT : HT J R n t) (hp30 : p < 2 ^ 30) (c : Int32) : Spd mX2_isCharacter [.ref 38, .int (nI p), .int c] (TM J q k N) R (some (.int (bi (has t n p c)))) (TM J q k N) := by
  refine Spd.mk (by decide +kernel) (by simp [Value.category]) (Nat.le_of_ble_eq_true rfl) (fun g cx => ?_)
  have hn80 := hT.1.1
  by_cases hp : p < n
  · by_cases hc : t p = c
    · rw [has_y hp hc]
      refine x_iload_n dX2_isCharacter_0 rfl rfl ?_
      refine x_aload_n dX2_isCharacter_1 rfl rfl ?_
      refine x_getI fl_X2_23 dX2_isCharacter_2 xk_38 (by decide) rfl (x_eqtop (y := nI n) (TM_2.trans hT.1.2.1) ?_)
      refine x_bipush (nI 80) dX2_isCharacter_5 (by decide) ?_
      refine x_callSd0 (mt' := mJ9_min_7cf53) (sp_min _ _) ktJ9_min_7cf53 wl_X2_94 (by decide) dX2_isCharacter_7 rfl rfl (Nat.le_of_ble_eq_true rfl) ⟨rfl, rfl⟩ (by decide) ?_
      refine x_eqtop (y := nI n) (if_pos ((nI_leI (by omega) (by omega)).mpr hn80)) ?_
      refine x_callSNd0 (mt' := mX5_isIndex) (sp_isIndex _ _) ktX5_isIndex wl_X2_26 (by decide) dX2_isCharacter_10 rfl rfl (Nat.le_of_ble_eq_true rfl) ⟨rfl, rfl⟩ (by decide) ?_
      refine x_eqtop (y := bi (decide (p < n))) (congrArg bi (ix_n hp30 hn80)) ?_
      refine x_if_eqF dX2_isCharacter_13 (by rw [decide_eq_true hp]; decide) ?_ 30 (by decide)
      refine x_aload_n dX2_isCharacter_16 rfl rfl ?_
      refine x_getR (j := 39) fl_X2_11 dX2_isCharacter_17 xk_38 (by decide) rfl hT.2.1 ?_
      refine x_iload_n dX2_isCharacter_20 rfl rfl ?_
      refine x_cald (j := p) dX2_isCharacter_21 xk_39 (by decide) (nI_pos (by omega)) (nI_clamp (by omega)) (by rw [xl_39]; omega) (x_eqtop (y := t p) (by rw [TM_39]; exact hT.1.2.2 p hp) ?_)
      refine x_iload_n dX2_isCharacter_22 rfl rfl ?_
      refine x_icmp_neF dX2_isCharacter_23 (hc) ?_ 30 (by decide)
      refine x_iconst (nI 1) dX2_isCharacter_26 (by decide) ?_
      refine x_goto 31 dX2_isCharacter_27 (by decide) ?_
      refine x_zret dX2_isCharacter_31 rfl (by first | rfl | (split <;> rfl) | (repeat (first | rfl | split))) (by decide) (by decide) ?_
      exact ⟨rfl, rfl, rfl, rfl⟩
    · rw [has_n hc]
      refine x_iload_n dX2_isCharacter_0 rfl rfl ?_
      refine x_aload_n dX2_isCharacter_1 rfl rfl ?_
      refine x_getI fl_X2_23 dX2_isCharacter_2 xk_38 (by decide) rfl (x_eqtop (y := nI n) (TM_2.trans hT.1.2.1) ?_)
      refine x_bipush (nI 80) dX2_isCharacter_5 (by decide) ?_
      refine x_callSd0 (mt' := mJ9_min_7cf53) (sp_min _ _) ktJ9_min_7cf53 wl_X2_94 (by decide) dX2_isCharacter_7 rfl rfl (Nat.le_of_ble_eq_true rfl) ⟨rfl, rfl⟩ (by decide) ?_
      refine x_eqtop (y := nI n) (if_pos ((nI_leI (by omega) (by omega)).mpr hn80)) ?_
      refine x_callSNd0 (mt' := mX5_isIndex) (sp_isIndex _ _) ktX5_isIndex wl_X2_26 (by decide) dX2_isCharacter_10 rfl rfl (Nat.le_of_ble_eq_true rfl) ⟨rfl, rfl⟩ (by decide) ?_
      refine x_eqtop (y := bi (decide (p < n))) (congrArg bi (ix_n hp30 hn80)) ?_
      refine x_if_eqF dX2_isCharacter_13 (by rw [decide_eq_true hp]; decide) ?_ 30 (by decide)
      refine x_aload_n dX2_isCharacter_16 rfl rfl ?_
      refine x_getR (j := 39) fl_X2_11 dX2_isCharacter_17 xk_38 (by decide) rfl hT.2.1 ?_
      refine x_iload_n dX2_isCharacter_20 rfl rfl ?_
      refine x_cald (j := p) dX2_isCharacter_21 xk_39 (by decide) (nI_pos (by omega)) (nI_clamp (by omega)) (by rw [xl_39]; omega) (x_eqtop (y := t p) (by rw [TM_39]; exact hT.1.2.2 p hp) ?_)
      refine x_iload_n dX2_isCharacter_22 rfl rfl ?_
      refine x_icmp_neT 30 dX2_isCharacter_23 (by decide) (hc) ?_
      refine x_iconst (nI 0) dX2_isCharacter_30 (by decide) ?_
      refine x_zret dX2_isCharacter_31 rfl (by first | rfl | (split <;> rfl) | (repeat (first | rfl | split))) (by decide) (by decide) ?_
      exact ⟨rfl, rfl, rfl, rfl⟩
  · rw [has_e hp]
    refine x_iload_n dX2_isCharacter_0 rfl rfl ?_
    refine x_aload_n dX2_isCharacter_1 rfl rfl ?_
    refine x_getI fl_X2_23 dX2_isCharacter_2 xk_38 (by decide) rfl (x_eqtop (y := nI n) (TM_2.trans hT.1.2.1) ?_)
    refine x_bipush (nI 80) dX2_isCharacter_5 (by decide) ?_
    refine x_callSd0 (mt' := mJ9_min_7cf53) (sp_min _ _) ktJ9_min_7cf53 wl_X2_94 (by decide) dX2_isCharacter_7 rfl rfl (Nat.le_of_ble_eq_true rfl) ⟨rfl, rfl⟩ (by decide) ?_
    refine x_eqtop (y := nI n) (if_pos ((nI_leI (by omega) (by omega)).mpr hn80)) ?_
    refine x_callSNd0 (mt' := mX5_isIndex) (sp_isIndex _ _) ktX5_isIndex wl_X2_26 (by decide) dX2_isCharacter_10 rfl rfl (Nat.le_of_ble_eq_true rfl) ⟨rfl, rfl⟩ (by decide) ?_
    refine x_eqtop (y := bi (decide (p < n))) (congrArg bi (ix_n hp30 hn80)) ?_
    refine x_if_eqT 30 dX2_isCharacter_13 (by decide) (by rw [decide_eq_false hp]; rfl) ?_
    refine x_iconst (nI 0) dX2_isCharacter_30 (by decide) ?_
    refine x_zret dX2_isCharacter_31 rfl (by first | rfl | (split <;> rfl) | (repeat (first | rfl | split))) (by decide) (by decide) ?_
    exact ⟨rfl, rfl, rfl, rfl⟩
theorem sp_skip (hT : HT J R n t) (hp30 : p < 2 ^ 30) (c : Int32) : Spd mX2_skip [.ref 38, .int c] (TM J (nI p) k N) R (some (.int (bi (has t n p c)))) (TM J (nI (if has t n p c = true then p + 1 else p)) k N) := by
  refine Spd.mk (by decide +kernel) (by simp [Value.category]) (Nat.le_of_ble_eq_true rfl) (fun g cx => ?_)
  cases h : has t n p c with
  | true =>
    rw [if_pos rfl]
    refine x_aload_n dX2_skip_0 rfl rfl ?_
    refine x_aload_n dX2_skip_1 rfl rfl ?_
    refine x_getI fl_X2_30 dX2_skip_2 xk_38 (by decide) rfl (x_eqtop TM_3 ?_)
    refine x_iload_n dX2_skip_5 rfl rfl ?_
    refine x_callVd0 (mt' := mX2_isCharacter) (sp_isCharacter hT hp30 c) kvX2_isCharacter wl_X2_76 (by decide) dX2_skip_6 xk_38 (by decide) rfl rfl (Nat.le_of_ble_eq_true rfl) ⟨rfl, rfl⟩ (by decide) ?_
    rw [h]
    refine x_if_neT 14 dX2_skip_9 (by decide) (by decide) ?_
    refine x_aload_n dX2_skip_14 rfl rfl ?_
    refine x_dup dX2_skip_15 rfl ?_
    refine x_getI fl_X2_30 dX2_skip_16 xk_38 (by decide) rfl (x_eqtop TM_3 ?_)
    refine x_iconst (nI 1) dX2_skip_19 (by decide) ?_
    refine x_iaddN dX2_skip_20 ?_
    refine x_putI fl_X2_30 fp_2_3 dX2_skip_21 xk_38 (by decide) rfl rfl rfl (x_eqI TM_u3 ?_)
    refine x_iconst (nI 1) dX2_skip_24 (by decide) ?_
    refine x_zret dX2_skip_25 rfl (by first | rfl | (split <;> rfl) | (repeat (first | rfl | split))) (by decide) (by decide) ?_
    exact ⟨rfl, rfl, rfl, rfl⟩
  | false =>
    rw [if_neg (by decide)]
    refine x_aload_n dX2_skip_0 rfl rfl ?_
    refine x_aload_n dX2_skip_1 rfl rfl ?_
    refine x_getI fl_X2_30 dX2_skip_2 xk_38 (by decide) rfl (x_eqtop TM_3 ?_)
    refine x_iload_n dX2_skip_5 rfl rfl ?_
    refine x_callVd0 (mt' := mX2_isCharacter) (sp_isCharacter hT hp30 c) kvX2_isCharacter wl_X2_76 (by decide) dX2_skip_6 xk_38 (by decide) rfl rfl (Nat.le_of_ble_eq_true rfl) ⟨rfl, rfl⟩ (by decide) ?_
    rw [h]
    refine x_if_neF dX2_skip_9 (rfl) ?_ 14 (by decide)
    refine x_iconst (nI 0) dX2_skip_12 (by decide) ?_
    refine x_zret dX2_skip_13 rfl (by first | rfl | (split <;> rfl) | (repeat (first | rfl | split))) (by decide) (by decide) ?_
    exact ⟨rfl, rfl, rfl, rfl⟩
theorem sp_skipSep (hT : HT J R n t) (hp30 : p < 2 ^ 30) : Spd mX2_skipSeparator [.ref 38] (TM J (nI p) k N) R (some (.int (bi (has t n p (nI 59))))) (TM J (nI (if has t n p (nI 59) = true then p + 1 else p)) k N) := by
  refine Spd.mk (by decide +kernel) (by simp [Value.category]) (Nat.le_of_ble_eq_true rfl) (fun g cx => ?_)
  refine x_aload_n dX2_skipSeparator_0 rfl rfl ?_
  refine x_bipush (nI 59) dX2_skipSeparator_1 (by decide) ?_
  refine x_callVd0 (mt' := mX2_skip) (sp_skip hT hp30 _) kvX2_skip wl_X2_49 (by decide) dX2_skipSeparator_3 xk_38 (by decide) rfl rfl (Nat.le_of_ble_eq_true rfl) ⟨rfl, rfl⟩ (by decide) ?_
  refine x_zret dX2_skipSeparator_6 rfl (bi_n _) (by decide) (by decide) ?_
  exact ⟨rfl, rfl, rfl, rfl⟩
theorem sp_digitHere (hT : HT J R n t) (hp30 : p < 2 ^ 30) : Spd mX2_digitHere [.ref 38] (TM J (nI p) k N) R (some (.int (dgv t n p))) (TM J (nI p) k N) := by
  refine Spd.mk (by decide +kernel) (by simp [Value.category]) (Nat.le_of_ble_eq_true rfl) (fun g cx => ?_)
  have hn80 := hT.1.1
  by_cases hp : p < n
  · by_cases hi : inr (t p) (nI 48) (nI 57) = true
    · rw [show dgv t n p = t p - nI 48 from if_pos (dg_yes hp hi)]
      have hi' := of_decide_eq_true hi
      refine x_aload_n dX2_digitHere_0 rfl rfl ?_
      refine x_getI fl_X2_30 dX2_digitHere_1 xk_38 (by decide) rfl (x_eqtop TM_3 ?_)
      refine x_aload_n dX2_digitHere_4 rfl rfl ?_
      refine x_getI fl_X2_23 dX2_digitHere_5 xk_38 (by decide) rfl (x_eqtop (y := nI n) (TM_2.trans hT.1.2.1) ?_)
      refine x_bipush (nI 80) dX2_digitHere_8 (by decide) ?_
      refine x_callSd0 (mt' := mJ9_min_7cf53) (sp_min _ _) ktJ9_min_7cf53 wl_X2_94 (by decide) dX2_digitHere_10 rfl rfl (Nat.le_of_ble_eq_true rfl) ⟨rfl, rfl⟩ (by decide) ?_
      refine x_eqtop (y := nI n) (if_pos ((nI_leI (by omega) (by omega)).mpr hn80)) ?_
      refine x_callSNd0 (mt' := mX5_isIndex) (sp_isIndex _ _) ktX5_isIndex wl_X2_26 (by decide) dX2_digitHere_13 rfl rfl (Nat.le_of_ble_eq_true rfl) ⟨rfl, rfl⟩ (by decide) ?_
      refine x_eqtop (y := bi (decide (p < n))) (congrArg bi (ix_n hp30 hn80)) ?_
      refine x_if_eqF dX2_digitHere_16 (by rw [decide_eq_true hp]; decide) ?_ 47 (by decide)
      refine x_aload_n dX2_digitHere_19 rfl rfl ?_
      refine x_getR (j := 39) fl_X2_11 dX2_digitHere_20 xk_38 (by decide) rfl hT.2.1 ?_
      refine x_aload_n dX2_digitHere_23 rfl rfl ?_
      refine x_getI fl_X2_30 dX2_digitHere_24 xk_38 (by decide) rfl (x_eqtop TM_3 ?_)
      refine x_cald (j := p) dX2_digitHere_27 xk_39 (by decide) (nI_pos (by omega)) (nI_clamp (by omega)) (by rw [xl_39]; omega) (x_eqtop (y := t p) (by rw [TM_39]; exact hT.1.2.2 p hp) ?_)
      refine x_bipush (nI 48) dX2_digitHere_28 (by decide) ?_
      refine x_icmp_ltF dX2_digitHere_30 (Int32.not_lt.mpr hi'.1) ?_ 47 (by decide)
      refine x_aload_n dX2_digitHere_33 rfl rfl ?_
      refine x_getR (j := 39) fl_X2_11 dX2_digitHere_34 xk_38 (by decide) rfl hT.2.1 ?_
      refine x_aload_n dX2_digitHere_37 rfl rfl ?_
      refine x_getI fl_X2_30 dX2_digitHere_38 xk_38 (by decide) rfl (x_eqtop TM_3 ?_)
      refine x_cald (j := p) dX2_digitHere_41 xk_39 (by decide) (nI_pos (by omega)) (nI_clamp (by omega)) (by rw [xl_39]; omega) (x_eqtop (y := t p) (by rw [TM_39]; exact hT.1.2.2 p hp) ?_)
      refine x_bipush (nI 57) dX2_digitHere_42 (by decide) ?_
      refine x_icmp_leT 49 dX2_digitHere_44 (by decide) (hi'.2) ?_
      refine x_aload_n dX2_digitHere_49 rfl rfl ?_
      refine x_getR (j := 39) fl_X2_11 dX2_digitHere_50 xk_38 (by decide) rfl hT.2.1 ?_
      refine x_aload_n dX2_digitHere_53 rfl rfl ?_
      refine x_getI fl_X2_30 dX2_digitHere_54 xk_38 (by decide) rfl (x_eqtop TM_3 ?_)
      refine x_cald (j := p) dX2_digitHere_57 xk_39 (by decide) (nI_pos (by omega)) (nI_clamp (by omega)) (by rw [xl_39]; omega) (x_eqtop (y := t p) (by rw [TM_39]; exact hT.1.2.2 p hp) ?_)
      refine x_bipush (nI 48) dX2_digitHere_58 (by decide) ?_
      refine x_isub dX2_digitHere_60 ?_
      refine x_iret dX2_digitHere_61 rfl (by decide) (by decide) ?_
      exact ⟨rfl, rfl, rfl, rfl⟩
    · rw [show dgv t n p = -1 from if_neg (by rw [dg_no2 hi]; decide)]
      refine x_aload_n dX2_digitHere_0 rfl rfl ?_
      refine x_getI fl_X2_30 dX2_digitHere_1 xk_38 (by decide) rfl (x_eqtop TM_3 ?_)
      refine x_aload_n dX2_digitHere_4 rfl rfl ?_
      refine x_getI fl_X2_23 dX2_digitHere_5 xk_38 (by decide) rfl (x_eqtop (y := nI n) (TM_2.trans hT.1.2.1) ?_)
      refine x_bipush (nI 80) dX2_digitHere_8 (by decide) ?_
      refine x_callSd0 (mt' := mJ9_min_7cf53) (sp_min _ _) ktJ9_min_7cf53 wl_X2_94 (by decide) dX2_digitHere_10 rfl rfl (Nat.le_of_ble_eq_true rfl) ⟨rfl, rfl⟩ (by decide) ?_
      refine x_eqtop (y := nI n) (if_pos ((nI_leI (by omega) (by omega)).mpr hn80)) ?_
      refine x_callSNd0 (mt' := mX5_isIndex) (sp_isIndex _ _) ktX5_isIndex wl_X2_26 (by decide) dX2_digitHere_13 rfl rfl (Nat.le_of_ble_eq_true rfl) ⟨rfl, rfl⟩ (by decide) ?_
      refine x_eqtop (y := bi (decide (p < n))) (congrArg bi (ix_n hp30 hn80)) ?_
      refine x_if_eqF dX2_digitHere_16 (by rw [decide_eq_true hp]; decide) ?_ 47 (by decide)
      refine x_aload_n dX2_digitHere_19 rfl rfl ?_
      refine x_getR (j := 39) fl_X2_11 dX2_digitHere_20 xk_38 (by decide) rfl hT.2.1 ?_
      refine x_aload_n dX2_digitHere_23 rfl rfl ?_
      refine x_getI fl_X2_30 dX2_digitHere_24 xk_38 (by decide) rfl (x_eqtop TM_3 ?_)
      refine x_cald (j := p) dX2_digitHere_27 xk_39 (by decide) (nI_pos (by omega)) (nI_clamp (by omega)) (by rw [xl_39]; omega) (x_eqtop (y := t p) (by rw [TM_39]; exact hT.1.2.2 p hp) ?_)
      refine x_bipush (nI 48) dX2_digitHere_28 (by decide) ?_
      refine x_icmp_lt 47 dX2_digitHere_30 (by decide) (fun c30 => ?_) (fun c30 => ?_)
      · skip
        refine x_iconst (-1) dX2_digitHere_47 (by decide) ?_
        refine x_iret dX2_digitHere_48 rfl (by decide) (by decide) ?_
        exact ⟨rfl, rfl, rfl, rfl⟩
      · skip
        refine x_aload_n dX2_digitHere_33 rfl rfl ?_
        refine x_getR (j := 39) fl_X2_11 dX2_digitHere_34 xk_38 (by decide) rfl hT.2.1 ?_
        refine x_aload_n dX2_digitHere_37 rfl rfl ?_
        refine x_getI fl_X2_30 dX2_digitHere_38 xk_38 (by decide) rfl (x_eqtop TM_3 ?_)
        refine x_cald (j := p) dX2_digitHere_41 xk_39 (by decide) (nI_pos (by omega)) (nI_clamp (by omega)) (by rw [xl_39]; omega) (x_eqtop (y := t p) (by rw [TM_39]; exact hT.1.2.2 p hp) ?_)
        refine x_bipush (nI 57) dX2_digitHere_42 (by decide) ?_
        refine x_icmp_le 49 dX2_digitHere_44 (by decide) (fun c44 => ?_) (fun c44 => ?_)
        · skip
          exact absurd (decide_eq_true ⟨Int32.not_lt.mp c30, c44⟩) hi
        · skip
          refine x_iconst (-1) dX2_digitHere_47 (by decide) ?_
          refine x_iret dX2_digitHere_48 rfl (by decide) (by decide) ?_
          exact ⟨rfl, rfl, rfl, rfl⟩
  · rw [show dgv t n p = -1 from if_neg (by rw [dg_no1 hp]; decide)]
    refine x_aload_n dX2_digitHere_0 rfl rfl ?_
    refine x_getI fl_X2_30 dX2_digitHere_1 xk_38 (by decide) rfl (x_eqtop TM_3 ?_)
    refine x_aload_n dX2_digitHere_4 rfl rfl ?_
    refine x_getI fl_X2_23 dX2_digitHere_5 xk_38 (by decide) rfl (x_eqtop (y := nI n) (TM_2.trans hT.1.2.1) ?_)
    refine x_bipush (nI 80) dX2_digitHere_8 (by decide) ?_
    refine x_callSd0 (mt' := mJ9_min_7cf53) (sp_min _ _) ktJ9_min_7cf53 wl_X2_94 (by decide) dX2_digitHere_10 rfl rfl (Nat.le_of_ble_eq_true rfl) ⟨rfl, rfl⟩ (by decide) ?_
    refine x_eqtop (y := nI n) (if_pos ((nI_leI (by omega) (by omega)).mpr hn80)) ?_
    refine x_callSNd0 (mt' := mX5_isIndex) (sp_isIndex _ _) ktX5_isIndex wl_X2_26 (by decide) dX2_digitHere_13 rfl rfl (Nat.le_of_ble_eq_true rfl) ⟨rfl, rfl⟩ (by decide) ?_
    refine x_eqtop (y := bi (decide (p < n))) (congrArg bi (ix_n hp30 hn80)) ?_
    refine x_if_eqT 47 dX2_digitHere_16 (by decide) (by rw [decide_eq_false hp]; rfl) ?_
    refine x_iconst (-1) dX2_digitHere_47 (by decide) ?_
    refine x_iret dX2_digitHere_48 rfl (by decide) (by decide) ?_
    exact ⟨rfl, rfl, rfl, rfl⟩
theorem sp_leastOf {kd w : Nat} (hk : kd < 5) (hw : w < 4) : Spd mX2_leastOf [.ref 38, .int (nI w)] (TM J q (nI kd) N) R (some (.int (nI (loN kd w)))) (TM J q (nI kd) N) := by
  refine Spd.mk (by decide +kernel) (by simp [Value.category]) (Nat.le_of_ble_eq_true rfl) (fun g cx => ?_)
  refine x_aload_n dX2_leastOf_0 rfl rfl ?_
  refine x_getI fl_X2_19 dX2_leastOf_1 xk_38 (by decide) rfl (x_eqtop TM_4 ?_)
  refine x_iconst (nI 3) dX2_leastOf_4 (by decide) ?_
  refine x_icmp_neN 17 dX2_leastOf_5 (by decide) (by omega) (by omega) (fun c5 => ?_) (fun c5 => ?_)
  · skip
    refine x_iconst (nI 0) dX2_leastOf_17 (by decide) ?_
    refine x_istore_n dX2_leastOf_18 rfl (by decide) ?_
    refine x_iload_n dX2_leastOf_19 rfl rfl ?_
    refine x_if_neF dX2_leastOf_20 (rfl) ?_ 31 (by decide)
    refine x_aload_n dX2_leastOf_23 rfl rfl ?_
    refine x_getI fl_X2_19 dX2_leastOf_24 xk_38 (by decide) rfl (x_eqtop TM_4 ?_)
    refine x_iconst (nI 4) dX2_leastOf_27 (by decide) ?_
    refine x_icmp_neN 35 dX2_leastOf_28 (by decide) (by omega) (by omega) (fun c28 => ?_) (fun c28 => ?_)
    · skip
      refine x_iconst (nI 0) dX2_leastOf_35 (by decide) ?_
      refine x_iret dX2_leastOf_36 rfl (by decide) (by decide) ?_
      exact ⟨by unfold loN; repeat (first | rfl | omega | split), rfl, rfl, rfl⟩
    · skip
      refine x_iconst (nI 1) dX2_leastOf_31 (by decide) ?_
      refine x_goto 36 dX2_leastOf_32 (by decide) ?_
      refine x_iret dX2_leastOf_36 rfl (by decide) (by decide) ?_
      exact ⟨by unfold loN; repeat (first | rfl | omega | split), rfl, rfl, rfl⟩
  · skip
    refine x_iload_n dX2_leastOf_8 rfl rfl ?_
    refine x_iconst (nI 1) dX2_leastOf_9 (by decide) ?_
    refine x_icmp_neN 17 dX2_leastOf_10 (by decide) (by omega) (by omega) (fun c10 => ?_) (fun c10 => ?_)
    · skip
      refine x_iconst (nI 0) dX2_leastOf_17 (by decide) ?_
      refine x_istore_n dX2_leastOf_18 rfl (by decide) ?_
      refine x_iload_n dX2_leastOf_19 rfl rfl ?_
      refine x_if_neF dX2_leastOf_20 (rfl) ?_ 31 (by decide)
      refine x_aload_n dX2_leastOf_23 rfl rfl ?_
      refine x_getI fl_X2_19 dX2_leastOf_24 xk_38 (by decide) rfl (x_eqtop TM_4 ?_)
      refine x_iconst (nI 4) dX2_leastOf_27 (by decide) ?_
      refine x_icmp_neN 35 dX2_leastOf_28 (by decide) (by omega) (by omega) (fun c28 => ?_) (fun c28 => ?_)
      · skip
        refine x_iconst (nI 0) dX2_leastOf_35 (by decide) ?_
        refine x_iret dX2_leastOf_36 rfl (by decide) (by decide) ?_
        exact ⟨by unfold loN; repeat (first | rfl | omega | split), rfl, rfl, rfl⟩
      · skip
        refine x_iconst (nI 1) dX2_leastOf_31 (by decide) ?_
        refine x_goto 36 dX2_leastOf_32 (by decide) ?_
        refine x_iret dX2_leastOf_36 rfl (by decide) (by decide) ?_
        exact ⟨by unfold loN; repeat (first | rfl | omega | split), rfl, rfl, rfl⟩
    · skip
      refine x_iconst (nI 1) dX2_leastOf_13 (by decide) ?_
      refine x_goto 18 dX2_leastOf_14 (by decide) ?_
      refine x_istore_n dX2_leastOf_18 rfl (by decide) ?_
      refine x_iload_n dX2_leastOf_19 rfl rfl ?_
      refine x_if_neT 31 dX2_leastOf_20 (by decide) (by decide) ?_
      refine x_iconst (nI 1) dX2_leastOf_31 (by decide) ?_
      refine x_goto 36 dX2_leastOf_32 (by decide) ?_
      refine x_iret dX2_leastOf_36 rfl (by decide) (by decide) ?_
      exact ⟨by unfold loN; repeat (first | rfl | omega | split), rfl, rfl, rfl⟩
theorem sp_mostOf {kd w : Nat} (hk : kd < 5) (hw : w < 4) : Spd mX2_mostOf [.ref 38, .int (nI w)] (TM J q (nI kd) N) R (some (.int (nI (hiN kd w)))) (TM J q (nI kd) N) := by
  refine Spd.mk (by decide +kernel) (by simp [Value.category]) (Nat.le_of_ble_eq_true rfl) (fun g cx => ?_)
  rcases (show kd = 0 ∨ kd = 1 ∨ kd = 2 ∨ kd = 3 ∨ kd = 4 by omega) with rfl | rfl | rfl | rfl | rfl
  · skip
    refine x_aload_n dX2_mostOf_0 rfl rfl ?_
    refine x_getI fl_X2_19 dX2_mostOf_1 xk_38 (by decide) rfl (x_eqtop TM_4 ?_)
    refine x_iconst (nI 4) dX2_mostOf_4 (by decide) ?_
    refine x_icmp_neT 11 dX2_mostOf_5 (by decide) (by decide) ?_
    refine x_iload_n dX2_mostOf_11 rfl rfl ?_
    refine x_if_neN 28 dX2_mostOf_12 (by decide) (by omega) (fun c12 => ?_) (fun c12 => ?_)
    · skip
      refine x_aload_n dX2_mostOf_28 rfl rfl ?_
      refine x_getI fl_X2_19 dX2_mostOf_29 xk_38 (by decide) rfl (x_eqtop TM_4 ?_)
      refine x_tableIn (off := 28) 60 dX2_mostOf_32 (by decide) (by decide) (by decide) (by decide) ?_
      refine x_iload_n dX2_mostOf_60 rfl rfl ?_
      refine x_iconst (nI 1) dX2_mostOf_61 (by decide) ?_
      refine x_icmp_neN 70 dX2_mostOf_62 (by decide) (by omega) (by omega) (fun c62 => ?_) (fun c62 => ?_)
      · skip
        refine x_sipush (nI 255) dX2_mostOf_70 (by decide) ?_
        refine x_iret dX2_mostOf_73 rfl (by decide) (by decide) ?_
        exact ⟨by unfold hiN; repeat (first | rfl | omega | split), rfl, rfl, rfl⟩
      · skip
        refine x_bipush (nI 127) dX2_mostOf_65 (by decide) ?_
        refine x_goto 73 dX2_mostOf_67 (by decide) ?_
        refine x_iret dX2_mostOf_73 rfl (by decide) (by decide) ?_
        exact ⟨by unfold hiN; repeat (first | rfl | omega | split), rfl, rfl, rfl⟩
    · skip
      refine x_aload_n dX2_mostOf_15 rfl rfl ?_
      refine x_getI fl_X2_19 dX2_mostOf_16 xk_38 (by decide) rfl (x_eqtop TM_4 ?_)
      refine x_if_neF dX2_mostOf_19 (rfl) ?_ 26 (by decide)
      refine x_iconst (nI 3) dX2_mostOf_22 (by decide) ?_
      refine x_goto 27 dX2_mostOf_23 (by decide) ?_
      refine x_iret dX2_mostOf_27 rfl (by decide) (by decide) ?_
      exact ⟨by unfold hiN; repeat (first | rfl | omega | split), rfl, rfl, rfl⟩
  · skip
    refine x_aload_n dX2_mostOf_0 rfl rfl ?_
    refine x_getI fl_X2_19 dX2_mostOf_1 xk_38 (by decide) rfl (x_eqtop TM_4 ?_)
    refine x_iconst (nI 4) dX2_mostOf_4 (by decide) ?_
    refine x_icmp_neT 11 dX2_mostOf_5 (by decide) (by decide) ?_
    refine x_iload_n dX2_mostOf_11 rfl rfl ?_
    refine x_if_neN 28 dX2_mostOf_12 (by decide) (by omega) (fun c12 => ?_) (fun c12 => ?_)
    · skip
      refine x_aload_n dX2_mostOf_28 rfl rfl ?_
      refine x_getI fl_X2_19 dX2_mostOf_29 xk_38 (by decide) rfl (x_eqtop TM_4 ?_)
      refine x_tableIn (off := 42) 74 dX2_mostOf_32 (by decide) (by decide) (by decide) (by decide) ?_
      refine x_bipush (nI 127) dX2_mostOf_74 (by decide) ?_
      refine x_iret dX2_mostOf_76 rfl (by decide) (by decide) ?_
      exact ⟨by unfold hiN; repeat (first | rfl | omega | split), rfl, rfl, rfl⟩
    · skip
      refine x_aload_n dX2_mostOf_15 rfl rfl ?_
      refine x_getI fl_X2_19 dX2_mostOf_16 xk_38 (by decide) rfl (x_eqtop TM_4 ?_)
      refine x_if_neT 26 dX2_mostOf_19 (by decide) (by decide) ?_
      refine x_iconst (nI 3) dX2_mostOf_26 (by decide) ?_
      refine x_iret dX2_mostOf_27 rfl (by decide) (by decide) ?_
      exact ⟨by unfold hiN; repeat (first | rfl | omega | split), rfl, rfl, rfl⟩
  · skip
    refine x_aload_n dX2_mostOf_0 rfl rfl ?_
    refine x_getI fl_X2_19 dX2_mostOf_1 xk_38 (by decide) rfl (x_eqtop TM_4 ?_)
    refine x_iconst (nI 4) dX2_mostOf_4 (by decide) ?_
    refine x_icmp_neT 11 dX2_mostOf_5 (by decide) (by decide) ?_
    refine x_iload_n dX2_mostOf_11 rfl rfl ?_
    refine x_if_neN 28 dX2_mostOf_12 (by decide) (by omega) (fun c12 => ?_) (fun c12 => ?_)
    · skip
      refine x_aload_n dX2_mostOf_28 rfl rfl ?_
      refine x_getI fl_X2_19 dX2_mostOf_29 xk_38 (by decide) rfl (x_eqtop TM_4 ?_)
      refine x_tableIn (off := 45) 77 dX2_mostOf_32 (by decide) (by decide) (by decide) (by decide) ?_
      refine x_bipush (nI 9) dX2_mostOf_77 (by decide) ?_
      refine x_iret dX2_mostOf_79 rfl (by decide) (by decide) ?_
      exact ⟨by unfold hiN; repeat (first | rfl | omega | split), rfl, rfl, rfl⟩
    · skip
      refine x_aload_n dX2_mostOf_15 rfl rfl ?_
      refine x_getI fl_X2_19 dX2_mostOf_16 xk_38 (by decide) rfl (x_eqtop TM_4 ?_)
      refine x_if_neT 26 dX2_mostOf_19 (by decide) (by decide) ?_
      refine x_iconst (nI 3) dX2_mostOf_26 (by decide) ?_
      refine x_iret dX2_mostOf_27 rfl (by decide) (by decide) ?_
      exact ⟨by unfold hiN; repeat (first | rfl | omega | split), rfl, rfl, rfl⟩
  · skip
    refine x_aload_n dX2_mostOf_0 rfl rfl ?_
    refine x_getI fl_X2_19 dX2_mostOf_1 xk_38 (by decide) rfl (x_eqtop TM_4 ?_)
    refine x_iconst (nI 4) dX2_mostOf_4 (by decide) ?_
    refine x_icmp_neT 11 dX2_mostOf_5 (by decide) (by decide) ?_
    refine x_iload_n dX2_mostOf_11 rfl rfl ?_
    refine x_if_neN 28 dX2_mostOf_12 (by decide) (by omega) (fun c12 => ?_) (fun c12 => ?_)
    · skip
      refine x_aload_n dX2_mostOf_28 rfl rfl ?_
      refine x_getI fl_X2_19 dX2_mostOf_29 xk_38 (by decide) rfl (x_eqtop TM_4 ?_)
      refine x_tableOut 80 dX2_mostOf_32 ((by decide)) (by decide) ?_
      refine x_bipush (nI 99) dX2_mostOf_80 (by decide) ?_
      refine x_iret dX2_mostOf_82 rfl (by decide) (by decide) ?_
      exact ⟨by unfold hiN; repeat (first | rfl | omega | split), rfl, rfl, rfl⟩
    · skip
      refine x_aload_n dX2_mostOf_15 rfl rfl ?_
      refine x_getI fl_X2_19 dX2_mostOf_16 xk_38 (by decide) rfl (x_eqtop TM_4 ?_)
      refine x_if_neT 26 dX2_mostOf_19 (by decide) (by decide) ?_
      refine x_iconst (nI 3) dX2_mostOf_26 (by decide) ?_
      refine x_iret dX2_mostOf_27 rfl (by decide) (by decide) ?_
      exact ⟨by unfold hiN; repeat (first | rfl | omega | split), rfl, rfl, rfl⟩
  · skip
    refine x_aload_n dX2_mostOf_0 rfl rfl ?_
    refine x_getI fl_X2_19 dX2_mostOf_1 xk_38 (by decide) rfl (x_eqtop TM_4 ?_)
    refine x_iconst (nI 4) dX2_mostOf_4 (by decide) ?_
    refine x_icmp_neF dX2_mostOf_5 (rfl) ?_ 11 (by decide)
    refine x_bipush (nI 99) dX2_mostOf_8 (by decide) ?_
    refine x_iret dX2_mostOf_10 rfl (by decide) (by decide) ?_
    exact ⟨by unfold hiN; repeat (first | rfl | omega | split), rfl, rfl, rfl⟩
end CT
