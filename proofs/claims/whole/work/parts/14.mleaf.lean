/-! the reference: leaves -/
def pBits (v : Int32) : Nat := if v = -5 then 18 else 27
def tk (Z : MI) (k : Nat) : Bool := decide (Z k 1 = 1)
/-- the value of a part of a speaker's first message -/
def pVal (Z : MI) (k q : Nat) : Int32 := if q = 0 then 2 * Z k 7 else Z k (7 + q)
def pBit (Z : MI) (k p : Nat) : Int32 := (pVal Z k (p / 9)) >>> ((nI 7 - nI (p % 9)) &&& 31) &&& 1
section ML
variable {I : MI} {R : MR} {φ α β κ τ : Nat → Int32} {Z : MI}
set_option maxHeartbeats 1000000 in
theorem sp_X6_in (v l h : Int32) : Spd mX6_in [.int v, .int l, .int h] I R (some (.int (bi (decide (l ≤ v ∧ v ≤ h))))) I := by
  refine Spd.mk (by decide +kernel) (by simp [Value.category]) (Nat.le_of_ble_eq_true rfl) (fun g cx => ?_)
  refine x_iload_n dX6_in_0 rfl rfl ?_
  refine x_iload_n dX6_in_1 rfl rfl ?_
  refine' x_dia_icmp_lt 14 15 dX6_in_2 (by decide) ?_ ?_ ?_; rotate_left 2
  · intro c2 k2
    refine x_iload_n dX6_in_5 rfl rfl ?_
    refine x_iload_n dX6_in_6 rfl rfl ?_
    refine' x_dia_icmp_gt 14 15 dX6_in_7 (by decide) ?_ ?_ ?_; rotate_left 2
    · intro c7 k7
      refine x_iconst (nI 1) dX6_in_10 (by decide) ?_
      refine x_goto 15 dX6_in_11 (by decide) ?_
      exact k7
    · intro c7 k7
      refine x_iconst (nI 0) dX6_in_14 (by decide) ?_
      exact k7
    exact k2
  · intro c2 k2
    refine x_iconst (nI 0) dX6_in_14 (by decide) ?_
    exact k2
  refine x_eqtop (y := bi (decide (l ≤ v ∧ v ≤ h))) (by simp only [bi, nI]; by_cases h1 : v < l <;> by_cases h2 : h < v <;> simp [h1, h2, Int32.not_lt, Int32.not_le, Int32.not_lt.mp] <;> simp_all [Int32.not_lt, Int32.not_le]) ?_
  refine x_zret dX6_in_15 rfl (bi_n _) (by decide) (by decide) ?_
  exact ⟨rfl, rfl, rfl, rfl⟩
theorem sp_X6_of (k w : Nat) : Spd mX6_of [.int (nI k), .int (nI w)] I R (some (.int (nI (4 + 22 * k + w)))) I := by
  refine Spd.mk (by decide +kernel) (by simp [Value.category]) (Nat.le_of_ble_eq_true rfl) (fun g cx => ?_)
  refine x_iconst (nI 4) dX6_of_0 (by decide) ?_
  refine x_bipush (nI 22) dX6_of_1 (by decide) ?_
  refine x_iload_n dX6_of_3 rfl rfl ?_
  refine x_imulN dX6_of_4 ?_
  refine x_iaddN dX6_of_5 ?_
  refine x_iload_n dX6_of_6 rfl rfl ?_
  refine x_iaddN dX6_of_7 ?_
  refine x_iret dX6_of_8 rfl (by decide) (by decide) ?_
  exact ⟨rfl, rfl, rfl, rfl⟩
theorem sp_X6_ofListener (k w : Nat) : Spd mX6_ofListener [.int (nI k), .int (nI w)] I R (some (.int (nI (92 + 5 * k + w)))) I := by
  refine Spd.mk (by decide +kernel) (by simp [Value.category]) (Nat.le_of_ble_eq_true rfl) (fun g cx => ?_)
  refine x_bipush (nI 92) dX6_ofListener_0 (by decide) ?_
  refine x_iconst (nI 5) dX6_ofListener_2 (by decide) ?_
  refine x_iload_n dX6_ofListener_3 rfl rfl ?_
  refine x_imulN dX6_ofListener_4 ?_
  refine x_iaddN dX6_ofListener_5 ?_
  refine x_iload_n dX6_ofListener_6 rfl rfl ?_
  refine x_iaddN dX6_ofListener_7 ?_
  refine x_iret dX6_ofListener_8 rfl (by decide) (by decide) ?_
  exact ⟨rfl, rfl, rfl, rfl⟩
theorem sp_X6_isOne (v : Int32) : Spd mX6_isOne [.int v] I R (some (.int (bi (decide (nI 0 ≤ v ∧ v ≤ nI 3))))) I := by
  refine Spd.mk (by decide +kernel) (by simp [Value.category]) (Nat.le_of_ble_eq_true rfl) (fun g cx => ?_)
  refine x_iload_n dX6_isOne_0 rfl rfl ?_
  refine x_iconst (nI 0) dX6_isOne_1 (by decide) ?_
  refine x_iconst (nI 3) dX6_isOne_2 (by decide) ?_
  refine x_callSd0 (mt' := mX6_in) (sp_X6_in _ _ _) ktX6_in wl_X6_36 (by decide) dX6_isOne_3 rfl rfl (Nat.le_of_ble_eq_true rfl) ⟨rfl, rfl⟩ (by decide) ?_
  refine x_zret dX6_isOne_6 rfl (bi_n _) (by decide) (by decide) ?_
  exact ⟨rfl, rfl, rfl, rfl⟩
theorem sp_X6_isTalking (hM : Md R) {k : Nat} (hk : k < 4) : Spd mX6_isTalking [.ref 131, .int (nI k)] (MM I φ Z α β κ τ) R (some (.int (bi (tk Z k)))) (MM I φ Z α β κ τ) := by
  refine Spd.mk (by decide +kernel) (by simp [Value.category]) (Nat.le_of_ble_eq_true rfl) (fun g cx => ?_)
  refine x_aload_n dX6_isTalking_0 rfl rfl ?_
  refine x_getR fl_X6_7 dX6_isTalking_1 xk_131 (by decide) rfl (hM 0 _ rfl) ?_
  refine x_iload_n dX6_isTalking_4 rfl rfl ?_
  refine x_iconst (nI 1) dX6_isTalking_5 (by decide) ?_
  refine x_callSd0 (mt' := mX6_of) (sp_X6_of _ _) ktX6_of wl_X6_33 (by decide) dX6_isTalking_6 rfl rfl (Nat.le_of_ble_eq_true rfl) ⟨rfl, rfl⟩ (by decide) ?_
  refine x_ldS dX6_isTalking_9 (by omega) (zf_sp (by omega) (by omega)) ?_
  refine x_iconst (nI 1) dX6_isTalking_10 (by decide) ?_
  refine' x_dia_icmp_ne 18 19 dX6_isTalking_11 (by decide) ?_ ?_ ?_; rotate_left 2
  · intro c11 k11
    refine x_iconst (nI 1) dX6_isTalking_14 (by decide) ?_
    refine x_goto 19 dX6_isTalking_15 (by decide) ?_
    exact k11
  · intro c11 k11
    refine x_iconst (nI 0) dX6_isTalking_18 (by decide) ?_
    exact k11
  refine x_eqtop (y := bi (tk Z k)) (bi_ite _) ?_
  refine x_zret dX6_isTalking_19 rfl (bi_n _) (by decide) (by decide) ?_
  exact ⟨rfl, rfl, rfl, rfl⟩
end ML
