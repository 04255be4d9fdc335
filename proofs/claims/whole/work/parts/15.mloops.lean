/-! the reference: loops over four -/
def cn (p : Nat → Bool) : Nat → Nat
  | 0 => 0
  | k + 1 => cn p k + (if p k = true then 1 else 0)
theorem cn_le (p : Nat → Bool) (k : Nat) : cn p k ≤ k := by
  induction k with
  | zero => exact Nat.le_refl 0
  | succ k ih => show cn p k + _ ≤ k + 1; split <;> omega
def sm (p : Nat → Int32) : Nat → Int32
  | 0 => nI 0
  | k + 1 => sm p k + p k
def stu (Z : MI) (k : Nat) : Bool := decide (0 < Z (4 + k) 2)
def pLi (Z : MI) (a : Int32) : Option Nat := if Z 4 0 = a then some 0 else if Z 5 0 = a then some 1 else if Z 6 0 = a then some 2 else if Z 7 0 = a then some 3 else none
def pLr (o : Option Nat) : Int32 := match o with
  | some k => nI k
  | none => -5
theorem pLi_some {Z : MI} {a : Int32} {k : Nat} (hk : k < 4) (h : ∀ j, j < k → ¬ Z (4 + j) 0 = a) (e : Z (4 + k) 0 = a) : pLi Z a = some k := by
  unfold pLi
  rcases (show k = 0 ∨ k = 1 ∨ k = 2 ∨ k = 3 by omega) with rfl | rfl | rfl | rfl
  · rw [if_pos e]
  · rw [if_neg (h 0 (by omega)), if_pos e]
  · rw [if_neg (h 0 (by omega)), if_neg (h 1 (by omega)), if_pos e]
  · rw [if_neg (h 0 (by omega)), if_neg (h 1 (by omega)), if_neg (h 2 (by omega)), if_pos e]
theorem pLi_none {Z : MI} {a : Int32} (h : ∀ j, j < 4 → ¬ Z (4 + j) 0 = a) : pLi Z a = none := by
  unfold pLi
  rw [if_neg (h 0 (by omega)), if_neg (h 1 (by omega)), if_neg (h 2 (by omega)), if_neg (h 3 (by omega))]
theorem pLi_spec {Z : MI} {a : Int32} {k : Nat} (h : pLi Z a = some k) : k < 4 ∧ Z (4 + k) 0 = a := by
  unfold pLi at h
  split at h
  · cases h; exact ⟨by omega, by assumption⟩
  split at h
  · cases h; exact ⟨by omega, by assumption⟩
  split at h
  · cases h; exact ⟨by omega, by assumption⟩
  split at h
  · cases h; exact ⟨by omega, by assumption⟩
  · cases h
def pFi (Z : MI) : Nat := if tk Z 0 = true then 0 else if tk Z 1 = true then 1 else if tk Z 2 = true then 2 else 3
theorem pFi_lt (Z : MI) : pFi Z < 4 := by unfold pFi; split; omega; split; omega; split <;> omega
theorem pFi_of {Z : MI} {k : Nat} (hk : k < 4) (h : ∀ j, j < k → tk Z j = false) (e : tk Z k = true) : pFi Z = k := by
  unfold pFi
  rcases (show k = 0 ∨ k = 1 ∨ k = 2 ∨ k = 3 by omega) with rfl | rfl | rfl | rfl
  · rw [if_pos e]
  · rw [if_neg (by simp [h 0 (by omega)]), if_pos e]
  · rw [if_neg (by simp [h 0 (by omega)]), if_neg (by simp [h 1 (by omega)]), if_pos e]
  · rw [if_neg (by simp [h 0 (by omega)]), if_neg (by simp [h 1 (by omega)]), if_neg (by simp [h 2 (by omega)])]
section ML
variable {I : MI} {R : MR} {φ α β κ τ : Nat → Int32} {Z : MI}
theorem sp_X6_bitsOf (v : Int32) : Spd mX6_bitsOf [.int v] I R (some (.int (nI (pBits v)))) I := by
  refine Spd.mk (by decide +kernel) (by simp [Value.category]) (Nat.le_of_ble_eq_true rfl) (fun g cx => ?_)
  refine x_iload_n dX6_bitsOf_0 rfl rfl ?_
  refine x_bipush (-5) dX6_bitsOf_1 (by decide) ?_
  refine' x_dia_icmp_ne 11 13 dX6_bitsOf_3 (by decide) ?_ ?_ ?_; rotate_left 2
  · intro c3 k3
    refine x_bipush (nI 18) dX6_bitsOf_6 (by decide) ?_
    refine x_goto 13 dX6_bitsOf_8 (by decide) ?_
    exact k3
  · intro c3 k3
    refine x_bipush (nI 27) dX6_bitsOf_11 (by decide) ?_
    exact k3
  refine x_eqtop (y := nI (pBits v)) (by unfold pBits; by_cases h : v = -5 <;> simp [h]) ?_
  refine x_iret dX6_bitsOf_13 rfl (by decide) (by decide) ?_
  exact ⟨rfl, rfl, rfl, rfl⟩
theorem sp_X6_isAnswer {p : Nat} (hp : p < 2 ^ 31) : Spd mX6_isAnswer [.int (nI p)] I R (some (.int (bi (decide (p % 9 = 8))))) I := by
  refine Spd.mk (by decide +kernel) (by simp [Value.category]) (Nat.le_of_ble_eq_true rfl) (fun g cx => ?_)
  refine x_iload_n dX6_isAnswer_0 rfl rfl ?_
  refine x_bipush (nI 9) dX6_isAnswer_1 (by decide) ?_
  refine x_iremN dX6_isAnswer_3 (by omega) (by omega) (by omega) ?_
  refine x_bipush (nI 8) dX6_isAnswer_4 (by decide) ?_
  refine' x_dia_icmp_neN 13 14 dX6_isAnswer_6 (by decide) (by omega) (by omega) ?_ ?_ ?_; rotate_left 2
  · intro c6 k6
    refine x_iconst (nI 1) dX6_isAnswer_9 (by decide) ?_
    refine x_goto 14 dX6_isAnswer_10 (by decide) ?_
    exact k6
  · intro c6 k6
    refine x_iconst (nI 0) dX6_isAnswer_13 (by decide) ?_
    exact k6
  refine x_eqtop (y := bi (decide (p % 9 = 8))) (bi_ite _) ?_
  refine x_zret dX6_isAnswer_14 rfl (bi_n _) (by decide) (by decide) ?_
  exact ⟨rfl, rfl, rfl, rfl⟩
theorem sp_X6_most (v : Int32) : Spd mX6_most [.int v] I R (some (.int (if v = 0 then nI 20 else if v = nI 1 then nI 9 else nI 99))) I := by
  refine Spd.mk (by decide +kernel) (by simp [Value.category]) (Nat.le_of_ble_eq_true rfl) (fun g cx => ?_)
  refine x_iload_n dX6_most_0 rfl rfl ?_
  refine' x_dia_if_ne 9 21 dX6_most_1 (by decide) ?_ ?_ ?_; rotate_left 2
  · intro c1 k1
    refine x_bipush (nI 20) dX6_most_4 (by decide) ?_
    refine x_goto 21 dX6_most_6 (by decide) ?_
    exact k1
  · intro c1 k1
    refine x_iload_n dX6_most_9 rfl rfl ?_
    refine x_iconst (nI 1) dX6_most_10 (by decide) ?_
    refine' x_dia_icmp_ne 19 21 dX6_most_11 (by decide) ?_ ?_ ?_; rotate_left 2
    · intro c11 k11
      refine x_bipush (nI 9) dX6_most_14 (by decide) ?_
      refine x_goto 21 dX6_most_16 (by decide) ?_
      exact k11
    · intro c11 k11
      refine x_bipush (nI 99) dX6_most_19 (by decide) ?_
      exact k11
    exact k1
  refine x_iret dX6_most_21 rfl (by decide) (by decide) ?_
  exact ⟨rfl, rfl, rfl, rfl⟩
theorem sp_X6_inMessage (hM : Md R) {k j w : Nat} (hk : k < 4) (hw : 7 + 3 * j + w < 22) : Spd mX6_inMessage [.ref 131, .int (nI k), .int (nI j), .int (nI w)] (MM I φ Z α β κ τ) R (some (.int (Z k (7 + 3 * j + w)))) (MM I φ Z α β κ τ) := by
  refine Spd.mk (by decide +kernel) (by simp [Value.category]) (Nat.le_of_ble_eq_true rfl) (fun g cx => ?_)
  refine x_aload_n dX6_inMessage_0 rfl rfl ?_
  refine x_getR fl_X6_7 dX6_inMessage_1 xk_131 (by decide) rfl (hM 0 _ rfl) ?_
  refine x_iload_n dX6_inMessage_4 rfl rfl ?_
  refine x_bipush (nI 7) dX6_inMessage_5 (by decide) ?_
  refine x_iconst (nI 3) dX6_inMessage_7 (by decide) ?_
  refine x_iload_n dX6_inMessage_8 rfl rfl ?_
  refine x_imulN dX6_inMessage_9 ?_
  refine x_iaddN dX6_inMessage_10 ?_
  refine x_iload_n dX6_inMessage_11 rfl rfl ?_
  refine x_iaddN dX6_inMessage_12 ?_
  refine x_callSd0 (mt' := mX6_of) (sp_X6_of _ _) ktX6_of wl_X6_33 (by decide) dX6_inMessage_13 rfl rfl (Nat.le_of_ble_eq_true rfl) ⟨rfl, rfl⟩ (by decide) ?_
  refine x_ldS dX6_inMessage_16 (by omega) (zf_sp (by omega) (by omega)) ?_
  refine x_iret dX6_inMessage_17 rfl (by decide) (by decide) ?_
  exact ⟨rfl, rfl, rfl, rfl⟩
theorem pVal_eq {k p : Nat} (hp : p < 27) : (if nI (p / 9) = 0 then nI 2 * Z k (7 + 3 * 0 + 0) else Z k (7 + 3 * 0 + p / 9)) = pVal Z k (p / 9) := by
  unfold pVal
  by_cases h : p / 9 = 0
  · rw [if_pos h, if_pos (by rw [h]; rfl)]; rfl
  · rw [if_neg h, if_neg (nI_ne0 (by omega) (by omega))]
theorem sp_X6_bitAt (hM : Md R) {k p : Nat} (hk : k < 4) (hp : p < 27) : Spd mX6_bitAt [.ref 131, .int (nI k), .int (nI p)] (MM I φ Z α β κ τ) R (some (.int (pBit Z k p))) (MM I φ Z α β κ τ) := by
  refine Spd.mk (by decide +kernel) (by simp [Value.category]) (Nat.le_of_ble_eq_true rfl) (fun g cx => ?_)
  refine x_iload_n dX6_bitAt_0 rfl rfl ?_
  refine x_bipush (nI 9) dX6_bitAt_1 (by decide) ?_
  refine x_idivN dX6_bitAt_3 (by omega) (by omega) (by omega) ?_
  refine x_istore_n dX6_bitAt_4 rfl (by decide) ?_
  refine x_iload_n dX6_bitAt_5 rfl rfl ?_
  refine' x_dia_if_ne 21 28 dX6_bitAt_6 (by decide) ?_ ?_ ?_; rotate_left 2
  · intro c6 k6
    refine x_iconst (nI 2) dX6_bitAt_9 (by decide) ?_
    refine x_aload_n dX6_bitAt_10 rfl rfl ?_
    refine x_iload_n dX6_bitAt_11 rfl rfl ?_
    refine x_iconst (nI 0) dX6_bitAt_12 (by decide) ?_
    refine x_iconst (nI 0) dX6_bitAt_13 (by decide) ?_
    refine x_callVd0 (mt' := mX6_inMessage) (sp_X6_inMessage hM (by omega) (by omega)) kvX6_inMessage wl_X6_43 (by decide) dX6_bitAt_14 xk_131 (by decide) rfl rfl (Nat.le_of_ble_eq_true rfl) ⟨rfl, rfl⟩ (by decide) ?_
    refine x_imul dX6_bitAt_17 ?_
    refine x_goto 28 dX6_bitAt_18 (by decide) ?_
    exact k6
  · intro c6 k6
    refine x_aload_n dX6_bitAt_21 rfl rfl ?_
    refine x_iload_n dX6_bitAt_22 rfl rfl ?_
    refine x_iconst (nI 0) dX6_bitAt_23 (by decide) ?_
    refine x_iload_n dX6_bitAt_24 rfl rfl ?_
    refine x_callVd0 (mt' := mX6_inMessage) (sp_X6_inMessage hM (by omega) (by omega)) kvX6_inMessage wl_X6_43 (by decide) dX6_bitAt_25 xk_131 (by decide) rfl rfl (Nat.le_of_ble_eq_true rfl) ⟨rfl, rfl⟩ (by decide) ?_
    exact k6
  refine x_eqtop (pVal_eq hp) ?_
  refine x_istore dX6_bitAt_28 (by decide) ?_
  refine x_iload dX6_bitAt_30 rfl ?_
  refine x_bipush (nI 7) dX6_bitAt_32 (by decide) ?_
  refine x_iload_n dX6_bitAt_34 rfl rfl ?_
  refine x_bipush (nI 9) dX6_bitAt_35 (by decide) ?_
  refine x_iremN dX6_bitAt_37 (by omega) (by omega) (by omega) ?_
  refine x_isub dX6_bitAt_38 ?_
  refine x_ishr dX6_bitAt_39 ?_
  refine x_iconst (nI 1) dX6_bitAt_40 (by decide) ?_
  refine x_iand dX6_bitAt_41 ?_
  refine x_iret dX6_bitAt_42 rfl (by decide) (by decide) ?_
  exact ⟨rfl, rfl, rfl, rfl⟩
theorem lp_X6_talking (hM : Md R) {g : GX} {cx : CX} {F : State → Prop} : ∀ (m k : Nat), k + m = 4 → X g cx mX6_talking F (0, 0) 31 [some (.ref 131), some (.int (nI (cn (tk Z) 4))), some (.int (nI 4))] [] 137 (MM I φ Z α β κ τ) R → X g cx mX6_talking F (0, 0) 4 [some (.ref 131), some (.int (nI (cn (tk Z) k))), some (.int (nI k))] [] 137 (MM I φ Z α β κ τ) R := by
  intro m
  induction m with
  | zero =>
    intro k hk hx
    obtain rfl : k = 4 := by omega
    refine x_iload_n dX6_talking_4 rfl rfl ?_
    refine x_iconst (nI 4) dX6_talking_5 (by decide) ?_
    refine x_icmp_geN 31 dX6_talking_6 (by decide) (by omega) (by omega) (fun c6 => ?_) (fun c6 => ?_)
    · skip
      exact hx
    · skip
      exact absurd c6 (by omega)
  | succ m ih =>
    intro k hk hx
    refine x_iload_n dX6_talking_4 rfl rfl ?_
    refine x_iconst (nI 4) dX6_talking_5 (by decide) ?_
    refine x_icmp_geN 31 dX6_talking_6 (by decide) (by omega) (by omega) (fun c6 => ?_) (fun c6 => ?_)
    · skip
      exact absurd c6 (by omega)
    · skip
      refine x_iload_n dX6_talking_9 rfl rfl ?_
      refine x_aload_n dX6_talking_10 rfl rfl ?_
      refine x_iload_n dX6_talking_11 rfl rfl ?_
      refine x_callVd0 (mt' := mX6_isTalking) (sp_X6_isTalking hM (by omega)) kvX6_isTalking wl_X6_47 (by decide) dX6_talking_12 xk_131 (by decide) rfl rfl (Nat.le_of_ble_eq_true rfl) ⟨rfl, rfl⟩ (by decide) ?_
      refine' x_dia_if_eq 22 23 dX6_talking_15 (by decide) ?_ ?_ ?_; rotate_left 2
      · intro c15 k15
        refine x_iconst (nI 1) dX6_talking_18 (by decide) ?_
        refine x_goto 23 dX6_talking_19 (by decide) ?_
        exact k15
      · intro c15 k15
        refine x_iconst (nI 0) dX6_talking_22 (by decide) ?_
        exact k15
      refine x_iadd dX6_talking_23 ?_
      refine x_eqtop (y := nI (cn (tk Z) (k + 1))) bi_add ?_
      refine x_istore_n dX6_talking_24 rfl (by decide) ?_
      refine x_iincN 1 dX6_talking_25 rfl (by decide) (by decide) ?_
      refine x_goto 4 dX6_talking_28 (by decide) ?_
      exact ih (k + 1) (by omega) hx
theorem sp_X6_talking (hM : Md R) : Spd mX6_talking [.ref 131] (MM I φ Z α β κ τ) R (some (.int (nI (cn (tk Z) 4)))) (MM I φ Z α β κ τ) := by
  refine Spd.mk (by decide +kernel) (by simp [Value.category]) (Nat.le_of_ble_eq_true rfl) (fun g cx => ?_)
  refine x_iconst (nI 0) dX6_talking_0 (by decide) ?_
  refine x_istore_n dX6_talking_1 rfl (by decide) ?_
  refine x_iconst (nI 0) dX6_talking_2 (by decide) ?_
  refine x_istore_n dX6_talking_3 rfl (by decide) ?_
  refine lp_X6_talking hM 4 0 rfl ?_
  refine x_iload_n dX6_talking_31 rfl rfl ?_
  refine x_iret dX6_talking_32 rfl (by decide) (by decide) ?_
  exact ⟨rfl, rfl, rfl, rfl⟩
theorem st_add (k n : Nat) : nI n + (if Z (4 + k) 2 ≤ 0 then nI 0 else nI 1) = nI (n + if stu Z k = true then 1 else 0) := by
  unfold stu
  by_cases h : Z (4 + k) 2 ≤ 0
  · rw [if_pos h, if_neg (by simpa using h), nI_add]
  · rw [if_neg h, if_pos (by simpa using h), nI_add]
theorem lp_X6_stuck (hM : Md R) {g : GX} {cx : CX} {F : State → Prop} : ∀ (m k : Nat), k + m = 4 → X g cx mX6_stuck F (0, 0) 36 [some (.ref 131), some (.int (nI (cn (stu Z) 4))), some (.int (nI 4))] [] 137 (MM I φ Z α β κ τ) R → X g cx mX6_stuck F (0, 0) 4 [some (.ref 131), some (.int (nI (cn (stu Z) k))), some (.int (nI k))] [] 137 (MM I φ Z α β κ τ) R := by
  intro m
  induction m with
  | zero =>
    intro k hk hx
    obtain rfl : k = 4 := by omega
    refine x_iload_n dX6_stuck_4 rfl rfl ?_
    refine x_iconst (nI 4) dX6_stuck_5 (by decide) ?_
    refine x_icmp_geN 36 dX6_stuck_6 (by decide) (by omega) (by omega) (fun c6 => ?_) (fun c6 => ?_)
    · skip
      exact hx
    · skip
      exact absurd c6 (by omega)
  | succ m ih =>
    intro k hk hx
    refine x_iload_n dX6_stuck_4 rfl rfl ?_
    refine x_iconst (nI 4) dX6_stuck_5 (by decide) ?_
    refine x_icmp_geN 36 dX6_stuck_6 (by decide) (by omega) (by omega) (fun c6 => ?_) (fun c6 => ?_)
    · skip
      exact absurd c6 (by omega)
    · skip
      refine x_iload_n dX6_stuck_9 rfl rfl ?_
      refine x_aload_n dX6_stuck_10 rfl rfl ?_
      refine x_getR fl_X6_7 dX6_stuck_11 xk_131 (by decide) rfl (hM 0 _ rfl) ?_
      refine x_iload_n dX6_stuck_14 rfl rfl ?_
      refine x_iconst (nI 2) dX6_stuck_15 (by decide) ?_
      refine x_callSd0 (mt' := mX6_ofListener) (sp_X6_ofListener _ _) ktX6_ofListener wl_X6_29 (by decide) dX6_stuck_16 rfl rfl (Nat.le_of_ble_eq_true rfl) ⟨rfl, rfl⟩ (by decide) ?_
      refine x_ldS dX6_stuck_19 (by omega) (zf_li (by omega) (by omega)) ?_
      refine' x_dia_if_le 27 28 dX6_stuck_20 (by decide) ?_ ?_ ?_; rotate_left 2
      · intro c20 k20
        refine x_iconst (nI 1) dX6_stuck_23 (by decide) ?_
        refine x_goto 28 dX6_stuck_24 (by decide) ?_
        exact k20
      · intro c20 k20
        refine x_iconst (nI 0) dX6_stuck_27 (by decide) ?_
        exact k20
      refine x_iadd dX6_stuck_28 ?_
      refine x_eqtop (y := nI (cn (stu Z) (k + 1))) (st_add _ _) ?_
      refine x_istore_n dX6_stuck_29 rfl (by decide) ?_
      refine x_iincN 1 dX6_stuck_30 rfl (by decide) (by decide) ?_
      refine x_goto 4 dX6_stuck_33 (by decide) ?_
      exact ih (k + 1) (by omega) hx
theorem sp_X6_stuck (hM : Md R) : Spd mX6_stuck [.ref 131] (MM I φ Z α β κ τ) R (some (.int (nI (cn (stu Z) 4)))) (MM I φ Z α β κ τ) := by
  refine Spd.mk (by decide +kernel) (by simp [Value.category]) (Nat.le_of_ble_eq_true rfl) (fun g cx => ?_)
  refine x_iconst (nI 0) dX6_stuck_0 (by decide) ?_
  refine x_istore_n dX6_stuck_1 rfl (by decide) ?_
  refine x_iconst (nI 0) dX6_stuck_2 (by decide) ?_
  refine x_istore_n dX6_stuck_3 rfl (by decide) ?_
  refine lp_X6_stuck hM 4 0 rfl ?_
  refine x_iload_n dX6_stuck_36 rfl rfl ?_
  refine x_iret dX6_stuck_37 rfl (by decide) (by decide) ?_
  exact ⟨rfl, rfl, rfl, rfl⟩
theorem lp_X6_messages (hM : Md R) {g : GX} {cx : CX} {F : State → Prop} : ∀ (m k : Nat), k + m = 4 → X g cx mX6_messages F (0, 0) 28 [some (.ref 131), some (.int (sm (fun j => Z j 0) 4)), some (.int (nI 4))] [] 137 (MM I φ Z α β κ τ) R → X g cx mX6_messages F (0, 0) 4 [some (.ref 131), some (.int (sm (fun j => Z j 0) k)), some (.int (nI k))] [] 137 (MM I φ Z α β κ τ) R := by
  intro m
  induction m with
  | zero =>
    intro k hk hx
    obtain rfl : k = 4 := by omega
    refine x_iload_n dX6_messages_4 rfl rfl ?_
    refine x_iconst (nI 4) dX6_messages_5 (by decide) ?_
    refine x_icmp_geN 28 dX6_messages_6 (by decide) (by omega) (by omega) (fun c6 => ?_) (fun c6 => ?_)
    · skip
      exact hx
    · skip
      exact absurd c6 (by omega)
  | succ m ih =>
    intro k hk hx
    refine x_iload_n dX6_messages_4 rfl rfl ?_
    refine x_iconst (nI 4) dX6_messages_5 (by decide) ?_
    refine x_icmp_geN 28 dX6_messages_6 (by decide) (by omega) (by omega) (fun c6 => ?_) (fun c6 => ?_)
    · skip
      exact absurd c6 (by omega)
    · skip
      refine x_iload_n dX6_messages_9 rfl rfl ?_
      refine x_aload_n dX6_messages_10 rfl rfl ?_
      refine x_getR fl_X6_7 dX6_messages_11 xk_131 (by decide) rfl (hM 0 _ rfl) ?_
      refine x_iload_n dX6_messages_14 rfl rfl ?_
      refine x_iconst (nI 0) dX6_messages_15 (by decide) ?_
      refine x_callSd0 (mt' := mX6_of) (sp_X6_of _ _) ktX6_of wl_X6_33 (by decide) dX6_messages_16 rfl rfl (Nat.le_of_ble_eq_true rfl) ⟨rfl, rfl⟩ (by decide) ?_
      refine x_ldS dX6_messages_19 (by omega) (zf_sp (by omega) (by omega)) ?_
      refine x_iadd dX6_messages_20 ?_
      refine x_istore_n dX6_messages_21 rfl (by decide) ?_
      refine x_iincN 1 dX6_messages_22 rfl (by decide) (by decide) ?_
      refine x_goto 4 dX6_messages_25 (by decide) ?_
      exact ih (k + 1) (by omega) hx
theorem lp_X6_came (hM : Md R) {g : GX} {cx : CX} {F : State → Prop} : ∀ (m k : Nat), k + m = 4 → X g cx mX6_came F (0, 0) 28 [some (.ref 131), some (.int (sm (fun j => Z j 2) 4)), some (.int (nI 4))] [] 137 (MM I φ Z α β κ τ) R → X g cx mX6_came F (0, 0) 4 [some (.ref 131), some (.int (sm (fun j => Z j 2) k)), some (.int (nI k))] [] 137 (MM I φ Z α β κ τ) R := by
  intro m
  induction m with
  | zero =>
    intro k hk hx
    obtain rfl : k = 4 := by omega
    refine x_iload_n dX6_came_4 rfl rfl ?_
    refine x_iconst (nI 4) dX6_came_5 (by decide) ?_
    refine x_icmp_geN 28 dX6_came_6 (by decide) (by omega) (by omega) (fun c6 => ?_) (fun c6 => ?_)
    · skip
      exact hx
    · skip
      exact absurd c6 (by omega)
  | succ m ih =>
    intro k hk hx
    refine x_iload_n dX6_came_4 rfl rfl ?_
    refine x_iconst (nI 4) dX6_came_5 (by decide) ?_
    refine x_icmp_geN 28 dX6_came_6 (by decide) (by omega) (by omega) (fun c6 => ?_) (fun c6 => ?_)
    · skip
      exact absurd c6 (by omega)
    · skip
      refine x_iload_n dX6_came_9 rfl rfl ?_
      refine x_aload_n dX6_came_10 rfl rfl ?_
      refine x_getR fl_X6_7 dX6_came_11 xk_131 (by decide) rfl (hM 0 _ rfl) ?_
      refine x_iload_n dX6_came_14 rfl rfl ?_
      refine x_iconst (nI 2) dX6_came_15 (by decide) ?_
      refine x_callSd0 (mt' := mX6_of) (sp_X6_of _ _) ktX6_of wl_X6_33 (by decide) dX6_came_16 rfl rfl (Nat.le_of_ble_eq_true rfl) ⟨rfl, rfl⟩ (by decide) ?_
      refine x_ldS dX6_came_19 (by omega) (zf_sp (by omega) (by omega)) ?_
      refine x_iadd dX6_came_20 ?_
      refine x_istore_n dX6_came_21 rfl (by decide) ?_
      refine x_iincN 1 dX6_came_22 rfl (by decide) (by decide) ?_
      refine x_goto 4 dX6_came_25 (by decide) ?_
      exact ih (k + 1) (by omega) hx
theorem sp_X6_messages (hM : Md R) : Spd mX6_messages [.ref 131] (MM I φ Z α β κ τ) R (some (.int (sm (fun j => Z j 0) 4))) (MM I φ Z α β κ τ) := by
  refine Spd.mk (by decide +kernel) (by simp [Value.category]) (Nat.le_of_ble_eq_true rfl) (fun g cx => ?_)
  refine x_iconst (nI 0) dX6_messages_0 (by decide) ?_
  refine x_istore_n dX6_messages_1 rfl (by decide) ?_
  refine x_iconst (nI 0) dX6_messages_2 (by decide) ?_
  refine x_istore_n dX6_messages_3 rfl (by decide) ?_
  refine lp_X6_messages hM 4 0 rfl ?_
  refine x_iload_n dX6_messages_28 rfl rfl ?_
  refine x_iret dX6_messages_29 rfl (by decide) (by decide) ?_
  exact ⟨rfl, rfl, rfl, rfl⟩
theorem sp_X6_came (hM : Md R) : Spd mX6_came [.ref 131] (MM I φ Z α β κ τ) R (some (.int (sm (fun j => Z j 2) 4))) (MM I φ Z α β κ τ) := by
  refine Spd.mk (by decide +kernel) (by simp [Value.category]) (Nat.le_of_ble_eq_true rfl) (fun g cx => ?_)
  refine x_iconst (nI 0) dX6_came_0 (by decide) ?_
  refine x_istore_n dX6_came_1 rfl (by decide) ?_
  refine x_iconst (nI 0) dX6_came_2 (by decide) ?_
  refine x_istore_n dX6_came_3 rfl (by decide) ?_
  refine lp_X6_came hM 4 0 rfl ?_
  refine x_iload_n dX6_came_28 rfl rfl ?_
  refine x_iret dX6_came_29 rfl (by decide) (by decide) ?_
  exact ⟨rfl, rfl, rfl, rfl⟩
theorem sp_X6_listenerOf (hM : Md R) (a : Int32) : Spd mX6_listenerOf [.ref 131, .int a] (MM I φ Z α β κ τ) R (some (.int (pLr (pLi Z a)))) (MM I φ Z α β κ τ) := by
  refine Spd.mk (by decide +kernel) (by simp [Value.category]) (Nat.le_of_ble_eq_true rfl) (fun g cx => ?_)
  refine x_iconst (nI 0) dX6_listenerOf_0 (by decide) ?_
  refine x_istore_n dX6_listenerOf_1 rfl (by decide) ?_
  have key : ∀ (m k : Nat), k + m = 4 → (∀ j, j < k → ¬ Z (4 + j) 0 = a) → X g cx mX6_listenerOf (xF g cx mX6_listenerOf (fun r n I2 R2 => r = some (.int (pLr (pLi Z a))) ∧ n = 137 ∧ I2 = MM I φ Z α β κ τ ∧ R2 = R)) (0, 0) 2 [some (.ref 131), some (.int a), some (.int (nI k))] [] 137 (MM I φ Z α β κ τ) R := ?_
  · exact key 4 0 rfl (fun j h => absurd h (Nat.not_lt_zero j))
  intro m
  induction m with
  | zero =>
    intro k hk hn
    obtain rfl : k = 4 := by omega
    refine x_iload_n dX6_listenerOf_2 rfl rfl ?_
    refine x_iconst (nI 4) dX6_listenerOf_3 (by decide) ?_
    refine x_icmp_geN 29 dX6_listenerOf_4 (by decide) (by omega) (by omega) (fun c4 => ?_) (fun c4 => ?_)
    · skip
      refine x_bipush (-5) dX6_listenerOf_29 (by decide) ?_
      refine x_iret dX6_listenerOf_31 rfl (by decide) (by decide) ?_
      exact ⟨by rw [pLi_none hn]; rfl, rfl, rfl, rfl⟩
    · skip
      exact absurd c4 (by omega)
  | succ m ih =>
    intro k hk hn
    refine x_iload_n dX6_listenerOf_2 rfl rfl ?_
    refine x_iconst (nI 4) dX6_listenerOf_3 (by decide) ?_
    refine x_icmp_geN 29 dX6_listenerOf_4 (by decide) (by omega) (by omega) (fun c4 => ?_) (fun c4 => ?_)
    · skip
      exact absurd c4 (by omega)
    · skip
      refine x_aload_n dX6_listenerOf_7 rfl rfl ?_
      refine x_getR fl_X6_7 dX6_listenerOf_8 xk_131 (by decide) rfl (hM 0 _ rfl) ?_
      refine x_iload_n dX6_listenerOf_11 rfl rfl ?_
      refine x_iconst (nI 0) dX6_listenerOf_12 (by decide) ?_
      refine x_callSd0 (mt' := mX6_ofListener) (sp_X6_ofListener _ _) ktX6_ofListener wl_X6_29 (by decide) dX6_listenerOf_13 rfl rfl (Nat.le_of_ble_eq_true rfl) ⟨rfl, rfl⟩ (by decide) ?_
      refine x_ldS dX6_listenerOf_16 (by omega) (zf_li (by omega) (by omega)) ?_
      refine x_iload_n dX6_listenerOf_17 rfl rfl ?_
      refine x_icmp_ne 23 dX6_listenerOf_18 (by decide) (fun c18 => ?_) (fun c18 => ?_)
      · skip
        refine x_iincN 1 dX6_listenerOf_23 rfl (by decide) (by decide) ?_
        refine x_goto 2 dX6_listenerOf_26 (by decide) ?_
        exact ih (k + 1) (by omega) (fun j hj => by rcases (show j < k ∨ j = k by omega) with h | rfl; exact hn j h; exact c18)
      · skip
        refine x_iload_n dX6_listenerOf_21 rfl rfl ?_
        refine x_iret dX6_listenerOf_22 rfl (by decide) (by decide) ?_
        exact ⟨by rw [pLi_some (by omega) hn c18]; rfl, rfl, rfl, rfl⟩
theorem sp_X6_firstTalking (hM : Md R) (hT : ∃ j, j < 4 ∧ tk Z j = true) : Spd mX6_firstTalking [.ref 131] (MM I φ Z α β κ τ) R (some (.int (nI (pFi Z)))) (MM I φ Z α β κ τ) := by
  refine Spd.mk (by decide +kernel) (by simp [Value.category]) (Nat.le_of_ble_eq_true rfl) (fun g cx => ?_)
  refine x_iconst (nI 0) dX6_firstTalking_0 (by decide) ?_
  refine x_istore_n dX6_firstTalking_1 rfl (by decide) ?_
  have key : ∀ (m k : Nat), k + m = 4 → (∀ j, j < k → tk Z j = false) → X g cx mX6_firstTalking (xF g cx mX6_firstTalking (fun r n I2 R2 => r = some (.int (nI (pFi Z))) ∧ n = 137 ∧ I2 = MM I φ Z α β κ τ ∧ R2 = R)) (0, 0) 2 [some (.ref 131), some (.int (nI k))] [] 137 (MM I φ Z α β κ τ) R := ?_
  · exact key 4 0 rfl (fun j h => absurd h (Nat.not_lt_zero j))
  intro m
  induction m with
  | zero =>
    intro k hk hn
    obtain ⟨j, h1, h2⟩ := hT
    rw [hn j (by omega)] at h2
    cases h2
  | succ m ih =>
    intro k hk hn
    refine x_aload_n dX6_firstTalking_2 rfl rfl ?_
    refine x_iload_n dX6_firstTalking_3 rfl rfl ?_
    refine x_callVd0 (mt' := mX6_isTalking) (sp_X6_isTalking hM (by omega)) kvX6_isTalking wl_X6_47 (by decide) dX6_firstTalking_4 xk_131 (by decide) rfl rfl (Nat.le_of_ble_eq_true rfl) ⟨rfl, rfl⟩ (by decide) ?_
    refine x_if_ne 16 dX6_firstTalking_7 (by decide) (fun c7 => ?_) (fun c7 => ?_)
    · skip
      refine x_iload_n dX6_firstTalking_16 rfl rfl ?_
      refine x_iret dX6_firstTalking_17 rfl (by decide) (by decide) ?_
      exact ⟨by rw [pFi_of (by omega) hn (by cases h : tk Z k with | true => rfl | false => rw [h] at c7; exact absurd rfl c7)], rfl, rfl, rfl⟩
    · skip
      refine x_iincN 1 dX6_firstTalking_10 rfl (by decide) (by decide) ?_
      refine x_goto 2 dX6_firstTalking_13 (by decide) ?_
      exact ih (k + 1) (by omega) (fun j hj => by rcases (show j < k ∨ j = k by omega) with h | rfl; exact hn j h; exact bi_0.mp c7)
end ML
