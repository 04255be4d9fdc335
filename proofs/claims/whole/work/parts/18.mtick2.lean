/-! the reference: a bit -/
def zer (Z : MI) (p k : Nat) : Bool := tk Z k && decide (pBit Z k p = 0)
def wr (Z : MI) (p : Nat) : Nat → Int32
  | 0 => nI 1
  | k + 1 => if zer Z p k = true then nI 0 else wr Z p k
theorem wr_step {Z : MI} {p k : Nat} {w : Int32} : (if bi (tk Z k) = 0 then w else if pBit Z k p = 0 then nI 0 else w) = if zer Z p k = true then nI 0 else w := by
  unfold zer
  cases h : tk Z k with
  | true =>
    rw [if_neg (show ¬ bi true = 0 by decide), Bool.true_and]
    by_cases h2 : pBit Z k p = 0
    · rw [if_pos h2, if_pos (decide_eq_true h2)]
    · rw [if_neg h2, if_neg (by simpa using h2)]
  | false => rw [if_pos (show bi false = 0 by decide), Bool.false_and, if_neg (by decide)]
theorem wr_0 {Z : MI} {p k : Nat} (h : wr Z p k = 0) : ∃ j, j < k ∧ zer Z p j = true := by
  induction k with
  | zero => exact absurd (show nI 1 = 0 from h) (by decide)
  | succ k ih =>
    by_cases hz : zer Z p k = true
    · exact ⟨k, by omega, hz⟩
    · have h' : (if zer Z p k = true then nI 0 else wr Z p k) = 0 := h
      rw [if_neg hz] at h'
      obtain ⟨j, h1, h2⟩ := ih h'
      exact ⟨j, by omega, h2⟩
theorem zer_stays {Z : MI} {p k j : Nat} (h : zer Z p k = true) : tk (pLo Z p j) k = true := by
  unfold zer at h
  rw [Bool.and_eq_true] at h
  have h0 : pBit Z k p = 0 := by simpa using h.2
  have hl : lsr Z p k = false := by unfold lsr; rw [h0]; rw [show decide ((0 : Int32) = 1) = false by decide, Bool.and_false]
  have : pLo Z p j k = Z k := by funext b; simp only [pLo]; rw [if_neg (fun q => by rw [hl] at q; cases q.2)]
  unfold tk at h ⊢
  rw [this]; exact h.1
def pHo (Z : MI) (o : Option Nat) : Int32 := match o with
  | some l => Z (4 + l) 1
  | none => nI 0
theorem nI_ne5 {l : Nat} (h : l < 2 ^ 31) : ¬ nI l = -5 := fun q => by
  have := congrArg Int32.toInt q
  rw [nI_toInt h] at this
  have h5 : (-5 : Int32).toInt = -5 := by decide
  rw [h5] at this
  omega
theorem pLr_ne {Z : MI} {a : Int32} (h : ¬ pLr (pLi Z a) = -5) : ∃ l, l < 4 ∧ pLi Z a = some l := by
  cases e : pLi Z a with
  | none => rw [e] at h; exact absurd rfl h
  | some l => exact ⟨l, (pLi_spec e).1, rfl⟩
theorem pHo_eq {Z : MI} {a : Int32} : (if pLr (pLi Z a) = -5 then nI 0 else pHo Z (pLi Z a)) = pHo Z (pLi Z a) := by
  cases e : pLi Z a with
  | none => exact if_pos rfl
  | some l => exact if_neg (show ¬ nI l = -5 from nI_ne5 (by have := (pLi_spec e).1; omega))
theorem pLa_ne {Z : MI} {L a b : Nat} {w i c l : Int32} (h : a ≠ 9) (h2 : ¬ (a = 8 ∧ b = 10)) : pLa Z L w i c l a b = Z a b := by simp [pLa, xuI, h, h2]
theorem pLog_ne {Z : MI} {L a b : Nat} {w i l : Int32} (h : a ≠ 9) (h2 : ¬ (a = 8 ∧ b = 10)) : pLog Z L w i l a b = Z a b := by
  unfold pLog
  split
  · rw [pLa_ne h h2]; simp [xuI, pSh, h, h2]
  · exact pLa_ne h h2
theorem pLog_row {Z : MI} {L a : Nat} {w i l : Int32} (h : a < 8) : pLog Z L w i l a = Z a := by funext b; exact pLog_ne (by omega) (by omega)
theorem xuI_row {Z : MI} {a k w : Nat} {v : Int32} (h : a ≠ k) : xuI Z k w v a = Z a := xuI_ne h
theorem tk_row {Z Z' : MI} {k : Nat} (h : Z k = Z' k) : tk Z k = tk Z' k := by simp only [tk, h]
/-- a bit is logged, and the place behind it prepared -/
def pB3 (Z : MI) (L p : Nat) (w l : Int32) : MI := xuI (pLog Z L w (nI 0) l) 8 7 (nI (p + 1))
def pBt (Z : MI) (L p : Nat) (w l : Int32) : MI := if (p + 1) % 9 = 8 then xuI (pB3 Z L p w l) 8 4 (pHo (pB3 Z L p w l) (pLi (pB3 Z L p w l) (pB3 Z L p w l (pFi (pB3 Z L p w l)) 7))) else pB3 Z L p w l
def pTb (Z : MI) (L p : Nat) : MI := if wr Z p 4 = 0 then pBt (pLo Z p 4) L p (wr Z p 4) (nI (cn (lsr Z p) 4)) else pBt Z L p (wr Z p 4) (nI 0)
section ML
variable {I : MI} {R : MR} {φ α β κ τ : Nat → Int32} {Z : MI}
theorem lp_X6_tickBit (hM : Md R) {p : Nat} (hz : Z 8 7 = nI p) (hp : p < 27) {g : GX} {cx : CX} {F : State → Prop} : ∀ (m k : Nat), k + m = 4 → X g cx mX6_tickBit F (0, 0) 44 [some (.ref 131), some (.int (wr Z p 4)), some (.int (nI 4)), none] [] 137 (MM I φ Z α β κ τ) R → X g cx mX6_tickBit F (0, 0) 4 [some (.ref 131), some (.int (wr Z p k)), some (.int (nI k)), none] [] 137 (MM I φ Z α β κ τ) R := by
  intro m
  induction m with
  | zero =>
    intro k hk hx
    obtain rfl : k = 4 := by omega
    refine x_iload_n dX6_tickBit_4 rfl rfl ?_
    refine x_iconst (nI 4) dX6_tickBit_5 (by decide) ?_
    refine x_icmp_geN 44 dX6_tickBit_6 (by decide) (by omega) (by omega) (fun c6 => ?_) (fun c6 => ?_)
    · skip
      exact hx
    · skip
      exact absurd c6 (by omega)
  | succ m ih =>
    intro k hk hx
    refine x_iload_n dX6_tickBit_4 rfl rfl ?_
    refine x_iconst (nI 4) dX6_tickBit_5 (by decide) ?_
    refine x_icmp_geN 44 dX6_tickBit_6 (by decide) (by omega) (by omega) (fun c6 => ?_) (fun c6 => ?_)
    · skip
      exact absurd c6 (by omega)
    · skip
      refine x_aload_n dX6_tickBit_9 rfl rfl ?_
      refine x_iload_n dX6_tickBit_10 rfl rfl ?_
      refine x_callVd0 (mt' := mX6_isTalking) (sp_X6_isTalking hM (by omega)) kvX6_isTalking wl_X6_47 (by decide) dX6_tickBit_11 xk_131 (by decide) rfl rfl (Nat.le_of_ble_eq_true rfl) ⟨rfl, rfl⟩ (by decide) ?_
      refine' x_dia_if_eq 36 37 dX6_tickBit_14 (by decide) ?_ ?_ ?_; rotate_left 2
      · intro c14 k14
        refine x_aload_n dX6_tickBit_17 rfl rfl ?_
        refine x_iload_n dX6_tickBit_18 rfl rfl ?_
        refine x_aload_n dX6_tickBit_19 rfl rfl ?_
        refine x_getR fl_X6_7 dX6_tickBit_20 xk_131 (by decide) rfl (hM 0 _ rfl) ?_
        refine x_bipush (nI 115) dX6_tickBit_23 (by decide) ?_
        refine x_ldS dX6_tickBit_25 (by omega) zf_115 ?_
        refine x_eqtop (y := nI p) hz ?_
        refine x_callVd0 (mt' := mX6_bitAt) (sp_X6_bitAt hM (by omega) (by omega)) kvX6_bitAt wl_X6_51 (by decide) dX6_tickBit_26 xk_131 (by decide) rfl rfl (Nat.le_of_ble_eq_true rfl) ⟨rfl, rfl⟩ (by decide) ?_
        refine' x_dia_if_ne 36 37 dX6_tickBit_29 (by decide) ?_ ?_ ?_; rotate_left 2
        · intro c29 k29
          refine x_iconst (nI 0) dX6_tickBit_32 (by decide) ?_
          refine x_goto 37 dX6_tickBit_33 (by decide) ?_
          exact k29
        · intro c29 k29
          refine x_iload_n dX6_tickBit_36 rfl rfl ?_
          exact k29
        exact k14
      · intro c14 k14
        refine x_iload_n dX6_tickBit_36 rfl rfl ?_
        exact k14
      refine x_eqtop (y := wr Z p (k + 1)) wr_step ?_
      refine x_istore_n dX6_tickBit_37 rfl (by decide) ?_
      refine x_iincN 1 dX6_tickBit_38 rfl (by decide) (by decide) ?_
      refine x_goto 4 dX6_tickBit_41 (by decide) ?_
      exact ih (k + 1) (by omega) hx
theorem tl_X6_tickBit (hM : Md R) {w l : Int32} {p L : Nat} (hp : p < 27) (hL : L ≤ 64) (hz : Z 8 7 = nI p) (hz10 : Z 8 10 = nI L) (hT : ∃ j, j < 4 ∧ tk Z j = true) {u : Option Value} {g : GX} {cx : CX} : X g cx mX6_tickBit (xF g cx mX6_tickBit (fun r n I2 R2 => r = none ∧ n = 137 ∧ I2 = MM I φ (pBt Z L p w l) α β κ τ ∧ R2 = R)) (0, 0) 57 [some (.ref 131), some (.int w), some (.int l), u] [] 137 (MM I φ Z α β κ τ) R := by
  have hT3 : ∃ j, j < 4 ∧ tk (pB3 Z L p w l) j = true := by
    obtain ⟨j, h1, h2⟩ := hT
    exact ⟨j, h1, by rw [← h2]; exact tk_row (by unfold pB3; rw [xuI_row (by omega), pLog_row (by omega)])⟩
  have hF := pFi_lt (pB3 Z L p w l)
  refine x_aload_n dX6_tickBit_57 rfl rfl ?_
  refine x_iload_n dX6_tickBit_58 rfl rfl ?_
  refine x_iconst (nI 0) dX6_tickBit_59 (by decide) ?_
  refine x_iload_n dX6_tickBit_60 rfl rfl ?_
  refine x_callVd0 (mt' := mX6_logs) (sp_X6_logs hM hL hz10) kvX6_logs wl_X6_67 (by decide) dX6_tickBit_61 xk_131 (by decide) rfl rfl (Nat.le_of_ble_eq_true rfl) ⟨rfl, rfl⟩ (by decide) ?_
  refine x_aload_n dX6_tickBit_64 rfl rfl ?_
  refine x_getR fl_X6_7 dX6_tickBit_65 xk_131 (by decide) rfl (hM 0 _ rfl) ?_
  refine x_bipush (nI 115) dX6_tickBit_68 (by decide) ?_
  refine x_dup2 dX6_tickBit_70 rfl rfl ?_
  refine x_ldS dX6_tickBit_71 (by omega) zf_115 ?_
  refine x_eqtop (y := nI p) (by rw [pLog_ne (by omega) (by omega), hz]) ?_
  refine x_iconst (nI 1) dX6_tickBit_72 (by decide) ?_
  refine x_iaddN dX6_tickBit_73 ?_
  refine x_stS dX6_tickBit_74 (by omega) zf_u115 ?_
  refine x_eqI (I' := MM I φ (pB3 Z L p w l) α β κ τ) rfl ?_
  refine x_aload_n dX6_tickBit_75 rfl rfl ?_
  refine x_getR fl_X6_7 dX6_tickBit_76 xk_131 (by decide) rfl (hM 0 _ rfl) ?_
  refine x_bipush (nI 115) dX6_tickBit_79 (by decide) ?_
  refine x_ldS dX6_tickBit_81 (by omega) zf_115 ?_
  refine x_eqtop (y := nI (p + 1)) (by unfold pB3; rw [xuI_self]) ?_
  refine x_callSd0 (mt' := mX6_isAnswer) (sp_X6_isAnswer (by omega)) ktX6_isAnswer wl_X6_58 (by decide) dX6_tickBit_82 rfl rfl (Nat.le_of_ble_eq_true rfl) ⟨rfl, rfl⟩ (by decide) ?_
  refine x_if_eq 130 dX6_tickBit_85 (by decide) (fun c85 => ?_) (fun c85 => ?_)
  · skip
    have e : pBt Z L p w l = pB3 Z L p w l := by unfold pBt; rw [if_neg (by simpa [bi] using c85)]
    refine x_vret dX6_tickBit_130 rfl (by decide) (by decide) ?_
    exact ⟨rfl, rfl, by rw [e], rfl⟩
  · skip
    have e : pBt Z L p w l = xuI (pB3 Z L p w l) 8 4 (pHo (pB3 Z L p w l) (pLi (pB3 Z L p w l) (pB3 Z L p w l (pFi (pB3 Z L p w l)) 7))) := by unfold pBt; rw [if_pos (by simpa [bi] using c85)]
    refine x_aload_n dX6_tickBit_88 rfl rfl ?_
    refine x_aload_n dX6_tickBit_89 rfl rfl ?_
    refine x_aload_n dX6_tickBit_90 rfl rfl ?_
    refine x_callVd0 (mt' := mX6_firstTalking) (sp_X6_firstTalking hM hT3) kvX6_firstTalking wl_X6_71 (by decide) dX6_tickBit_91 xk_131 (by decide) rfl rfl (Nat.le_of_ble_eq_true rfl) ⟨rfl, rfl⟩ (by decide) ?_
    refine x_iconst (nI 0) dX6_tickBit_94 (by decide) ?_
    refine x_iconst (nI 0) dX6_tickBit_95 (by decide) ?_
    refine x_callVd0 (mt' := mX6_inMessage) (sp_X6_inMessage hM (j := 0) (w := 0) hF (by omega)) kvX6_inMessage wl_X6_43 (by decide) dX6_tickBit_96 xk_131 (by decide) rfl rfl (Nat.le_of_ble_eq_true rfl) ⟨rfl, rfl⟩ (by decide) ?_
    refine x_callVd0 (mt' := mX6_listenerOf) (sp_X6_listenerOf hM _) kvX6_listenerOf wl_X6_74 (by decide) dX6_tickBit_99 xk_131 (by decide) rfl rfl (Nat.le_of_ble_eq_true rfl) ⟨rfl, rfl⟩ (by decide) ?_
    refine x_istore_n dX6_tickBit_102 rfl (by decide) ?_
    refine x_aload_n dX6_tickBit_103 rfl rfl ?_
    refine x_getR fl_X6_7 dX6_tickBit_104 xk_131 (by decide) rfl (hM 0 _ rfl) ?_
    refine x_bipush (nI 112) dX6_tickBit_107 (by decide) ?_
    refine x_iload_n dX6_tickBit_109 rfl rfl ?_
    refine x_bipush (-5) dX6_tickBit_110 (by decide) ?_
    refine' x_dia_icmp_ne 119 129 dX6_tickBit_112 (by decide) ?_ ?_ ?_; rotate_left 2
    · intro c112 k112
      refine x_iconst (nI 0) dX6_tickBit_115 (by decide) ?_
      refine x_goto 129 dX6_tickBit_116 (by decide) ?_
      exact k112
    · intro c112 k112
      obtain ⟨lx, hlx4, hlx⟩ := pLr_ne c112
      refine x_aload_n dX6_tickBit_119 rfl rfl ?_
      refine x_getR fl_X6_7 dX6_tickBit_120 xk_131 (by decide) rfl (hM 0 _ rfl) ?_
      refine x_iload_n dX6_tickBit_123 rfl rfl ?_
      refine x_eqtop (y := nI lx) (by rw [hlx]; rfl) ?_
      refine x_iconst (nI 1) dX6_tickBit_124 (by decide) ?_
      refine x_callSd0 (mt' := mX6_ofListener) (sp_X6_ofListener _ _) ktX6_ofListener wl_X6_29 (by decide) dX6_tickBit_125 rfl rfl (Nat.le_of_ble_eq_true rfl) ⟨rfl, rfl⟩ (by decide) ?_
      refine x_ldS dX6_tickBit_128 (by omega) (zf_li (by omega) (by omega)) ?_
      refine x_eqtop (y := pHo (pB3 Z L p w l) (pLi (pB3 Z L p w l) (pB3 Z L p w l (pFi (pB3 Z L p w l)) 7))) (by rw [show pLi (pB3 Z L p w l) (pB3 Z L p w l (pFi (pB3 Z L p w l)) 7) = some lx from hlx]; rfl) ?_
      exact k112
    refine x_eqtop pHo_eq ?_
    refine x_stS dX6_tickBit_129 (by omega) zf_u112 ?_
    refine x_vret dX6_tickBit_130 rfl (by decide) (by decide) ?_
    exact ⟨rfl, rfl, by rw [e], rfl⟩
theorem sp_X6_tickBit (hM : Md R) {p L : Nat} (hp : p < 27) (hL : L ≤ 64) (hz : Z 8 7 = nI p) (hz10 : Z 8 10 = nI L) (hT : ∃ j, j < 4 ∧ tk Z j = true) : Spd mX6_tickBit [.ref 131] (MM I φ Z α β κ τ) R none (MM I φ (pTb Z L p) α β κ τ) := by
  refine Spd.mk (by decide +kernel) (by simp [Value.category]) (Nat.le_of_ble_eq_true rfl) (fun g cx => ?_)
  refine x_iconst (nI 1) dX6_tickBit_0 (by decide) ?_
  refine x_istore_n dX6_tickBit_1 rfl (by decide) ?_
  refine x_iconst (nI 0) dX6_tickBit_2 (by decide) ?_
  refine x_istore_n dX6_tickBit_3 rfl (by decide) ?_
  refine lp_X6_tickBit hM hz hp 4 0 rfl ?_
  refine x_iload_n dX6_tickBit_44 rfl rfl ?_
  refine x_if_ne 55 dX6_tickBit_45 (by decide) (fun c45 => ?_) (fun c45 => ?_)
  · skip
    have e : pTb Z L p = pBt Z L p (wr Z p 4) (nI 0) := by unfold pTb; rw [if_neg c45]
    rw [e]
    refine x_iconst (nI 0) dX6_tickBit_55 (by decide) ?_
    refine x_istore_n dX6_tickBit_56 rfl (by decide) ?_
    exact tl_X6_tickBit hM hp hL hz hz10 hT
  · skip
    have e : pTb Z L p = pBt (pLo Z p 4) L p (wr Z p 4) (nI (cn (lsr Z p) 4)) := by unfold pTb; rw [if_pos c45]
    rw [e]
    refine x_aload_n dX6_tickBit_48 rfl rfl ?_
    refine x_callVd0 (mt' := mX6_lose) (sp_X6_lose hM (by assumption) (by omega)) kvX6_lose wl_X6_61 (by decide) dX6_tickBit_49 xk_131 (by decide) rfl rfl (Nat.le_of_ble_eq_true rfl) ⟨rfl, rfl⟩ (by decide) ?_
    refine x_goto 56 dX6_tickBit_52 (by decide) ?_
    refine x_istore_n dX6_tickBit_56 rfl (by decide) ?_
    exact tl_X6_tickBit (Z := pLo Z p 4) hM hp hL (by rw [pLo_ge (by omega)]; exact hz) (by rw [pLo_ge (by omega)]; exact hz10) (by obtain ⟨j, h1, h2⟩ := wr_0 c45; exact ⟨j, h1, zer_stays h2⟩)
end ML
