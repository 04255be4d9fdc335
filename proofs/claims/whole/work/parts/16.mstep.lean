/-! the reference: pieces of a tick -/
def rw1 (Z : MI) (k : Nat) (f : Nat → Int32) : MI := fun a => if a = k then f else Z a
theorem rw1_self {Z : MI} {k : Nat} {f : Nat → Int32} : rw1 Z k f k = f := by simp [rw1]
theorem rw1_ne {Z : MI} {k a : Nat} {f : Nat → Int32} (h : a ≠ k) : rw1 Z k f a = Z a := by simp [rw1, h]
/-- a line without its first message; m are left -/
def dRow (r : Nat → Int32) (m : Nat) : Nat → Int32 := fun b => if b = 0 then nI m else if b = 6 then 0 else if 7 ≤ b ∧ b < 7 + 3 * m then r (b + 3) else r b
def pDr (Z : MI) (k j : Nat) : MI := fun a b => if a = k ∧ 7 ≤ b ∧ b < 7 + j then Z k (b + 3) else Z a b
theorem xuI_self {Z : MI} {k w : Nat} {v : Int32} : xuI Z k w v k w = v := by simp [xuI]
theorem pDr_step {Z : MI} {k j : Nat} : xuI (pDr Z k j) k (7 + j) (pDr Z k j k (7 + j + 3)) = pDr Z k (j + 1) := by
  funext a b
  by_cases h : a = k ∧ b = 7 + j
  · obtain ⟨rfl, rfl⟩ := h
    rw [xuI_self]
    show (if a = a ∧ 7 ≤ 7 + j + 3 ∧ 7 + j + 3 < 7 + j then Z a (7 + j + 3 + 3) else Z a (7 + j + 3)) = (if a = a ∧ 7 ≤ 7 + j ∧ 7 + j < 7 + (j + 1) then Z a (7 + j + 3) else Z a (7 + j))
    rw [if_neg (by omega), if_pos ⟨rfl, by omega, by omega⟩]
  · rw [xuI_at h]
    simp only [pDr]
    by_cases h2 : a = k ∧ 7 ≤ b ∧ b < 7 + j
    · rw [if_pos h2, if_pos (by omega)]
    · rw [if_neg h2, if_neg (by omega)]
theorem pDr_0 {Z : MI} {k : Nat} : pDr Z k 0 = Z := by funext a b; simp only [pDr]; rw [if_neg (by omega)]
theorem pDr_end {Z : MI} {k m : Nat} : xuI (pDr (xuI Z k 0 (nI m)) k (3 * m)) k 6 (nI 0) = rw1 Z k (dRow (Z k) m) := by
  funext a b
  by_cases ha : a = k
  · subst ha
    rw [rw1_self]
    by_cases h6 : b = 6
    · subst h6; simp [xuI, dRow]; rfl
    · by_cases h0 : b = 0
      · subst h0; simp [xuI, dRow, pDr]
      · by_cases h7 : 7 ≤ b ∧ b < 7 + 3 * m
        · simp [xuI, dRow, pDr, h6, h0, h7]
        · have h8 : ¬ (7 ≤ b ∧ b < 7 + 3 * m) := h7
          simp only [xuI, dRow, pDr, h6, h0, and_false, if_false, true_and, if_neg h8]
  · rw [rw1_ne ha]
    simp [xuI, pDr, ha]
def lsr (Z : MI) (p k : Nat) : Bool := tk Z k && decide (pBit Z k p = 1)
def pLo (Z : MI) (p k : Nat) : MI := fun a b => if a < k ∧ lsr Z p a = true then (if b = 1 then 0 else if b = 3 then Z a 3 + 1 else Z a b) else Z a b
theorem pLo_ge {Z : MI} {p k a : Nat} (h : k ≤ a) : pLo Z p k a = Z a := by funext b; simp only [pLo]; rw [if_neg (by omega)]
theorem pLo_0 {Z : MI} {p : Nat} : pLo Z p 0 = Z := by funext a b; simp only [pLo]; rw [if_neg (by omega)]
theorem pLo_tk {Z : MI} {p k : Nat} : tk (pLo Z p k) k = tk Z k := by simp only [tk, pLo_ge (Nat.le_refl k)]
theorem pBit_row {Z Z' : MI} {k p : Nat} (h : Z k = Z' k) : pBit Z k p = pBit Z' k p := by simp only [pBit, pVal, h]
theorem pLo_yes {Z : MI} {p k : Nat} (h : lsr Z p k = true) : xuI (xuI (pLo Z p k) k 1 (nI 0)) k 3 (xuI (pLo Z p k) k 1 (nI 0) k 3 + nI 1) = pLo Z p (k + 1) := by
  funext a b
  by_cases ha : a = k
  · subst ha
    by_cases h3 : b = 3
    · subst h3; simp [xuI, pLo, h]; rfl
    · by_cases h1 : b = 1
      · subst h1; simp [xuI, pLo, h]; rfl
      · simp [xuI, pLo, h, h1, h3]
  · simp only [xuI, pLo, ha, false_and, if_false]
    by_cases h2 : a < k ∧ lsr Z p a = true
    · rw [if_pos h2, if_pos (show a < k + 1 ∧ lsr Z p a = true from ⟨by omega, h2.2⟩)]
    · rw [if_neg h2, if_neg (fun q => h2 ⟨by omega, q.2⟩)]
theorem pLo_no {Z : MI} {p k : Nat} (h : lsr Z p k = false) : pLo Z p k = pLo Z p (k + 1) := by
  funext a b
  simp only [pLo]
  by_cases h2 : a < k ∧ lsr Z p a = true
  · rw [if_pos h2, if_pos (show a < k + 1 ∧ lsr Z p a = true from ⟨by omega, h2.2⟩)]
  · rw [if_neg h2, if_neg (fun q => ?_)]
    by_cases ha : a = k
    · subst ha; rw [h] at q; cases q.2
    · exact h2 ⟨by omega, q.2⟩
theorem cn_yes {p : Nat → Bool} {k : Nat} (h : p k = true) : cn p (k + 1) = cn p k + 1 := by show cn p k + _ = _; rw [if_pos h]
theorem cn_no {p : Nat → Bool} {k : Nat} (h : p k = false) : cn p (k + 1) = cn p k := by show cn p k + _ = _; rw [if_neg (by rw [h]; decide)]; rfl
theorem lsr_t {Z : MI} {p k : Nat} (h1 : ¬ bi (tk Z k) = 0) (h2 : pBit Z k p = nI 1) : lsr Z p k = true := by
  unfold lsr
  have : tk Z k = true := by cases h : tk Z k with | true => rfl | false => rw [h] at h1; exact absurd rfl h1
  rw [this, Bool.true_and]
  exact decide_eq_true h2
theorem lsr_f1 {Z : MI} {p k : Nat} (h1 : bi (tk Z k) = 0) : lsr Z p k = false := by unfold lsr; rw [bi_0.mp h1]; rfl
theorem lsr_f2 {Z : MI} {p k : Nat} (h2 : ¬ pBit Z k p = nI 1) : lsr Z p k = false := by unfold lsr; rw [decide_eq_false (show ¬ pBit Z k p = 1 from h2), Bool.and_false]
def pEn (Z : MI) : MI := if cn (tk Z) 4 = 0 then xuI (xuI (xuI Z 8 7 (nI 0)) 8 4 (nI 0)) 8 5 (nI 0) else Z
def pSh (Z : MI) (j : Nat) : MI := fun a b => if a = 9 ∧ b < j then Z 9 (b + 4) else Z a b
theorem pSh_step {Z : MI} {j : Nat} : xuI (pSh Z j) 9 j (pSh Z j 9 (j + 4)) = pSh Z (j + 1) := by
  funext a b
  by_cases h : a = 9 ∧ b = j
  · obtain ⟨rfl, rfl⟩ := h
    rw [xuI_self]
    show (if 9 = 9 ∧ b + 4 < b then Z 9 (b + 4 + 4) else Z 9 (b + 4)) = (if 9 = 9 ∧ b < b + 1 then Z 9 (b + 4) else Z 9 b)
    rw [if_neg (by omega), if_pos ⟨rfl, by omega⟩]
  · rw [xuI_at h]
    simp only [pSh]
    by_cases h2 : a = 9 ∧ b < j
    · rw [if_pos h2, if_pos (by omega)]
    · rw [if_neg h2, if_neg (by omega)]
theorem pSh_0 {Z : MI} : pSh Z 0 = Z := by funext a b; simp only [pSh]; rw [if_neg (by omega)]
/-- one more row of the log; L rows there -/
def pLa (Z : MI) (L : Nat) (w i c l : Int32) : MI := xuI (xuI (xuI (xuI (xuI Z 9 (4 * L) w) 9 (4 * L + 1) i) 9 (4 * L + 2) c) 9 (4 * L + 3) l) 8 10 (nI (L + 1))
def pLog (Z : MI) (L : Nat) (w i l : Int32) : MI := if L = 64 then pLa (xuI (pSh Z 252) 8 10 (nI 63)) 63 w i (Z 8 3) l else pLa Z L w i (Z 8 3) l
def pNx (Z : MI) (p : Nat) : Nat := if cn (stu Z) 4 ≠ 0 then 4 else if 0 < Z 8 4 then 3 else if cn (tk Z) 4 = 0 then 0 else if p % 9 = 8 then 2 else 1
section XK
variable {g : GX} {cx : CX} {mt : MT} {F : State → Prop} {cs : Nat × Nat} {pc : Nat} {st : List Value} {n : Nat} {I : MI} {R : MR}
theorem x_keep1 {a : Option Value} {t : List (Option Value)} (k : X g cx mt F cs pc (a :: List.replicate t.length none) st n I R) : X g cx mt F cs pc (a :: t) st n I R :=
  x_weak _ (by simp) (fun i v h => by
    cases i with
    | zero => exact h
    | succ i =>
      have h' : (List.replicate t.length (none : Option Value))[i]? = some (some v) := by simpa using h
      have := List.mem_of_getElem? h'
      simp [List.mem_replicate] at this) k
theorem x_keep2 {a b : Option Value} {t : List (Option Value)} (k : X g cx mt F cs pc (a :: b :: List.replicate t.length none) st n I R) : X g cx mt F cs pc (a :: b :: t) st n I R :=
  x_weak _ (by simp) (fun i v h => by
    cases i with
    | zero => exact h
    | succ i =>
      cases i with
      | zero => exact h
      | succ i =>
        have h' : (List.replicate t.length (none : Option Value))[i]? = some (some v) := by simpa using h
        have := List.mem_of_getElem? h'
        simp [List.mem_replicate] at this) k
end XK
section ML
variable {I : MI} {R : MR} {φ α β κ τ : Nat → Int32} {Z : MI}
theorem lp_X6_dropFirst (hM : Md R) {k0 m0 : Nat} (hk0 : k0 < 4) (hm0 : m0 ≤ 4) {g : GX} {cx : CX} {F : State → Prop} : ∀ (m k : Nat), k + m = 3 * m0 → X g cx mX6_dropFirst F (0, 0) 66 [some (.ref 131), some (.int (nI k0)), some (.int (nI (3 * m0)))] [] 137 (MM I φ (pDr (xuI Z k0 0 (nI m0)) k0 (3 * m0)) α β κ τ) R → X g cx mX6_dropFirst F (0, 0) 16 [some (.ref 131), some (.int (nI k0)), some (.int (nI (k)))] [] 137 (MM I φ (pDr (xuI Z k0 0 (nI m0)) k0 (k)) α β κ τ) R := by
  intro m
  induction m with
  | zero =>
    intro k hk hx
    obtain rfl : k = 3 * m0 := by omega
    refine x_iload_n dX6_dropFirst_16 rfl rfl ?_
    refine x_iconst (nI 3) dX6_dropFirst_17 (by decide) ?_
    refine x_aload_n dX6_dropFirst_18 rfl rfl ?_
    refine x_getR fl_X6_7 dX6_dropFirst_19 xk_131 (by decide) rfl (hM 0 _ rfl) ?_
    refine x_iload_n dX6_dropFirst_22 rfl rfl ?_
    refine x_iconst (nI 0) dX6_dropFirst_23 (by decide) ?_
    refine x_callSd0 (mt' := mX6_of) (sp_X6_of _ _) ktX6_of wl_X6_33 (by decide) dX6_dropFirst_24 rfl rfl (Nat.le_of_ble_eq_true rfl) ⟨rfl, rfl⟩ (by decide) ?_
    refine x_ldS dX6_dropFirst_27 (by omega) (zf_sp (by omega) (by omega)) ?_
    refine x_eqtop (y := nI m0) (by simp [pDr, xuI]) ?_
    refine x_imulN dX6_dropFirst_28 ?_
    refine x_icmp_geN 66 dX6_dropFirst_29 (by decide) (by omega) (by omega) (fun c29 => ?_) (fun c29 => ?_)
    · skip
      exact hx
    · skip
      exact absurd c29 (by omega)
  | succ m ih =>
    intro k hk hx
    refine x_iload_n dX6_dropFirst_16 rfl rfl ?_
    refine x_iconst (nI 3) dX6_dropFirst_17 (by decide) ?_
    refine x_aload_n dX6_dropFirst_18 rfl rfl ?_
    refine x_getR fl_X6_7 dX6_dropFirst_19 xk_131 (by decide) rfl (hM 0 _ rfl) ?_
    refine x_iload_n dX6_dropFirst_22 rfl rfl ?_
    refine x_iconst (nI 0) dX6_dropFirst_23 (by decide) ?_
    refine x_callSd0 (mt' := mX6_of) (sp_X6_of _ _) ktX6_of wl_X6_33 (by decide) dX6_dropFirst_24 rfl rfl (Nat.le_of_ble_eq_true rfl) ⟨rfl, rfl⟩ (by decide) ?_
    refine x_ldS dX6_dropFirst_27 (by omega) (zf_sp (by omega) (by omega)) ?_
    refine x_eqtop (y := nI m0) (by simp [pDr, xuI]) ?_
    refine x_imulN dX6_dropFirst_28 ?_
    refine x_icmp_geN 66 dX6_dropFirst_29 (by decide) (by omega) (by omega) (fun c29 => ?_) (fun c29 => ?_)
    · skip
      exact absurd c29 (by omega)
    · skip
      refine x_aload_n dX6_dropFirst_32 rfl rfl ?_
      refine x_getR fl_X6_7 dX6_dropFirst_33 xk_131 (by decide) rfl (hM 0 _ rfl) ?_
      refine x_iload_n dX6_dropFirst_36 rfl rfl ?_
      refine x_bipush (nI 7) dX6_dropFirst_37 (by decide) ?_
      refine x_iload_n dX6_dropFirst_39 rfl rfl ?_
      refine x_iaddN dX6_dropFirst_40 ?_
      refine x_callSd0 (mt' := mX6_of) (sp_X6_of _ _) ktX6_of wl_X6_33 (by decide) dX6_dropFirst_41 rfl rfl (Nat.le_of_ble_eq_true rfl) ⟨rfl, rfl⟩ (by decide) ?_
      refine x_aload_n dX6_dropFirst_44 rfl rfl ?_
      refine x_getR fl_X6_7 dX6_dropFirst_45 xk_131 (by decide) rfl (hM 0 _ rfl) ?_
      refine x_iload_n dX6_dropFirst_48 rfl rfl ?_
      refine x_bipush (nI 7) dX6_dropFirst_49 (by decide) ?_
      refine x_iload_n dX6_dropFirst_51 rfl rfl ?_
      refine x_iaddN dX6_dropFirst_52 ?_
      refine x_iconst (nI 3) dX6_dropFirst_53 (by decide) ?_
      refine x_iaddN dX6_dropFirst_54 ?_
      refine x_callSd0 (mt' := mX6_of) (sp_X6_of _ _) ktX6_of wl_X6_33 (by decide) dX6_dropFirst_55 rfl rfl (Nat.le_of_ble_eq_true rfl) ⟨rfl, rfl⟩ (by decide) ?_
      refine x_ldS dX6_dropFirst_58 (by omega) (zf_sp (w := 7 + k + 3) (by omega) (by omega)) ?_
      refine x_stS dX6_dropFirst_59 (by omega) (zf_usp (w := 7 + k) (by omega) (by omega)) ?_
      refine x_iincN 1 dX6_dropFirst_60 rfl (by decide) (by decide) ?_
      refine x_goto 16 dX6_dropFirst_63 (by decide) ?_
      refine x_eqI (I' := MM I φ (pDr (xuI Z k0 0 (nI m0)) k0 (k + 1)) α β κ τ) (by rw [← pDr_step]) ?_
      exact ih (k + 1) (by omega) hx
theorem sp_X6_dropFirst (hM : Md R) {k0 m0 : Nat} (hk0 : k0 < 4) (hm0 : m0 ≤ 4) (hz : Z k0 0 = nI (m0 + 1)) : Spd mX6_dropFirst [.ref 131, .int (nI k0)] (MM I φ Z α β κ τ) R none (MM I φ (rw1 Z k0 (dRow (Z k0) m0)) α β κ τ) := by
  refine Spd.mk (by decide +kernel) (by simp [Value.category]) (Nat.le_of_ble_eq_true rfl) (fun g cx => ?_)
  refine x_aload_n dX6_dropFirst_0 rfl rfl ?_
  refine x_getR fl_X6_7 dX6_dropFirst_1 xk_131 (by decide) rfl (hM 0 _ rfl) ?_
  refine x_iload_n dX6_dropFirst_4 rfl rfl ?_
  refine x_iconst (nI 0) dX6_dropFirst_5 (by decide) ?_
  refine x_callSd0 (mt' := mX6_of) (sp_X6_of _ _) ktX6_of wl_X6_33 (by decide) dX6_dropFirst_6 rfl rfl (Nat.le_of_ble_eq_true rfl) ⟨rfl, rfl⟩ (by decide) ?_
  refine x_dup2 dX6_dropFirst_9 rfl rfl ?_
  refine x_ldS dX6_dropFirst_10 (by omega) (zf_sp (by omega) (by omega)) ?_
  refine x_iconst (nI 1) dX6_dropFirst_11 (by decide) ?_
  refine x_isub dX6_dropFirst_12 ?_
  refine x_eqtop (y := nI m0) (by rw [hz]; exact nI_pred m0) ?_
  refine x_stS dX6_dropFirst_13 (by omega) (zf_usp (by omega) (by omega)) ?_
  refine x_iconst (nI 0) dX6_dropFirst_14 (by decide) ?_
  refine x_istore_n dX6_dropFirst_15 rfl (by decide) ?_
  refine x_eqI (I' := MM I φ (pDr (xuI Z k0 0 (nI m0)) k0 0) α β κ τ) (by rw [pDr_0]) ?_
  refine lp_X6_dropFirst hM hk0 hm0 (3 * m0) 0 (by omega) ?_
  refine x_aload_n dX6_dropFirst_66 rfl rfl ?_
  refine x_getR fl_X6_7 dX6_dropFirst_67 xk_131 (by decide) rfl (hM 0 _ rfl) ?_
  refine x_iload_n dX6_dropFirst_70 rfl rfl ?_
  refine x_bipush (nI 6) dX6_dropFirst_71 (by decide) ?_
  refine x_callSd0 (mt' := mX6_of) (sp_X6_of _ _) ktX6_of wl_X6_33 (by decide) dX6_dropFirst_73 rfl rfl (Nat.le_of_ble_eq_true rfl) ⟨rfl, rfl⟩ (by decide) ?_
  refine x_iconst (nI 0) dX6_dropFirst_76 (by decide) ?_
  refine x_stS dX6_dropFirst_77 (by omega) (zf_usp (by omega) (by omega)) ?_
  refine x_vret dX6_dropFirst_78 rfl (by decide) (by decide) ?_
  exact ⟨rfl, rfl, by rw [pDr_end], rfl⟩
theorem lp_X6_lose (hM : Md R) {p : Nat} (hz : Z 8 7 = nI p) (hp : p < 27) {g : GX} {cx : CX} {F : State → Prop} : ∀ (m k : Nat), k + m = 4 → X g cx mX6_lose F (0, 0) 67 [some (.ref 131), some (.int (nI (cn (lsr Z p) 4))), some (.int (nI 4))] [] 137 (MM I φ (pLo Z p (4)) α β κ τ) R → X g cx mX6_lose F (0, 0) 4 [some (.ref 131), some (.int (nI (cn (lsr Z p) k))), some (.int (nI k))] [] 137 (MM I φ (pLo Z p (k)) α β κ τ) R := by
  intro m
  induction m with
  | zero =>
    intro k hk hx
    obtain rfl : k = 4 := by omega
    refine x_iload_n dX6_lose_4 rfl rfl ?_
    refine x_iconst (nI 4) dX6_lose_5 (by decide) ?_
    refine x_icmp_geN 67 dX6_lose_6 (by decide) (by omega) (by omega) (fun c6 => ?_) (fun c6 => ?_)
    · skip
      exact hx
    · skip
      exact absurd c6 (by omega)
  | succ m ih =>
    intro k hk hx
    refine x_iload_n dX6_lose_4 rfl rfl ?_
    refine x_iconst (nI 4) dX6_lose_5 (by decide) ?_
    refine x_icmp_geN 67 dX6_lose_6 (by decide) (by omega) (by omega) (fun c6 => ?_) (fun c6 => ?_)
    · skip
      exact absurd c6 (by omega)
    · skip
      refine x_aload_n dX6_lose_9 rfl rfl ?_
      refine x_iload_n dX6_lose_10 rfl rfl ?_
      refine x_callVd0 (mt' := mX6_isTalking) (sp_X6_isTalking hM (by omega)) kvX6_isTalking wl_X6_47 (by decide) dX6_lose_11 xk_131 (by decide) rfl rfl (Nat.le_of_ble_eq_true rfl) ⟨rfl, rfl⟩ (by decide) ?_
      refine x_eqtop (y := bi (tk Z k)) (by rw [pLo_tk]) ?_
      refine x_if_eq 61 dX6_lose_14 (by decide) (fun c14 => ?_) (fun c14 => ?_)
      · skip
        have hL : lsr Z p k = false := lsr_f1 c14
        refine x_iincN 1 dX6_lose_61 rfl (by decide) (by decide) ?_
        refine x_goto 4 dX6_lose_64 (by decide) ?_
        first
          | exact x_eqI (by rw [← pLo_yes hL]) (x_eqls (by rw [cn_yes hL]; rfl) (ih (k + 1) (by omega) hx))
          | exact x_eqI (by rw [← pLo_no hL]) (x_eqls (by rw [cn_no hL]; rfl) (ih (k + 1) (by omega) hx))
      · skip
        refine x_aload_n dX6_lose_17 rfl rfl ?_
        refine x_iload_n dX6_lose_18 rfl rfl ?_
        refine x_aload_n dX6_lose_19 rfl rfl ?_
        refine x_getR fl_X6_7 dX6_lose_20 xk_131 (by decide) rfl (hM 0 _ rfl) ?_
        refine x_bipush (nI 115) dX6_lose_23 (by decide) ?_
        refine x_ldS dX6_lose_25 (by omega) zf_115 ?_
        refine x_eqtop (y := nI p) (by rw [pLo_ge (by omega), hz]) ?_
        refine x_callVd0 (mt' := mX6_bitAt) (sp_X6_bitAt hM (by omega) (by omega)) kvX6_bitAt wl_X6_51 (by decide) dX6_lose_26 xk_131 (by decide) rfl rfl (Nat.le_of_ble_eq_true rfl) ⟨rfl, rfl⟩ (by decide) ?_
        refine x_eqtop (y := pBit Z k p) (pBit_row (pLo_ge (Nat.le_refl k))) ?_
        refine x_iconst (nI 1) dX6_lose_29 (by decide) ?_
        refine x_icmp_ne 61 dX6_lose_30 (by decide) (fun c30 => ?_) (fun c30 => ?_)
        · skip
          have hL : lsr Z p k = false := lsr_f2 c30
          refine x_iincN 1 dX6_lose_61 rfl (by decide) (by decide) ?_
          refine x_goto 4 dX6_lose_64 (by decide) ?_
          first
            | exact x_eqI (by rw [← pLo_yes hL]) (x_eqls (by rw [cn_yes hL]; rfl) (ih (k + 1) (by omega) hx))
            | exact x_eqI (by rw [← pLo_no hL]) (x_eqls (by rw [cn_no hL]; rfl) (ih (k + 1) (by omega) hx))
        · skip
          have hL : lsr Z p k = true := lsr_t c14 c30
          refine x_aload_n dX6_lose_33 rfl rfl ?_
          refine x_getR fl_X6_7 dX6_lose_34 xk_131 (by decide) rfl (hM 0 _ rfl) ?_
          refine x_iload_n dX6_lose_37 rfl rfl ?_
          refine x_iconst (nI 1) dX6_lose_38 (by decide) ?_
          refine x_callSd0 (mt' := mX6_of) (sp_X6_of _ _) ktX6_of wl_X6_33 (by decide) dX6_lose_39 rfl rfl (Nat.le_of_ble_eq_true rfl) ⟨rfl, rfl⟩ (by decide) ?_
          refine x_iconst (nI 0) dX6_lose_42 (by decide) ?_
          refine x_stS dX6_lose_43 (by omega) (zf_usp (by omega) (by omega)) ?_
          refine x_aload_n dX6_lose_44 rfl rfl ?_
          refine x_getR fl_X6_7 dX6_lose_45 xk_131 (by decide) rfl (hM 0 _ rfl) ?_
          refine x_iload_n dX6_lose_48 rfl rfl ?_
          refine x_iconst (nI 3) dX6_lose_49 (by decide) ?_
          refine x_callSd0 (mt' := mX6_of) (sp_X6_of _ _) ktX6_of wl_X6_33 (by decide) dX6_lose_50 rfl rfl (Nat.le_of_ble_eq_true rfl) ⟨rfl, rfl⟩ (by decide) ?_
          refine x_dup2 dX6_lose_53 rfl rfl ?_
          refine x_ldS dX6_lose_54 (by omega) (zf_sp (by omega) (by omega)) ?_
          refine x_iconst (nI 1) dX6_lose_55 (by decide) ?_
          refine x_iadd dX6_lose_56 ?_
          refine x_stS dX6_lose_57 (by omega) (zf_usp (by omega) (by omega)) ?_
          refine x_iincN 1 dX6_lose_58 rfl (by decide) (by decide) ?_
          refine x_iincN 1 dX6_lose_61 rfl (by decide) (by decide) ?_
          refine x_goto 4 dX6_lose_64 (by decide) ?_
          first
            | exact x_eqI (by rw [← pLo_yes hL]) (x_eqls (by rw [cn_yes hL]; rfl) (ih (k + 1) (by omega) hx))
            | exact x_eqI (by rw [← pLo_no hL]) (x_eqls (by rw [cn_no hL]; rfl) (ih (k + 1) (by omega) hx))
theorem sp_X6_lose (hM : Md R) {p : Nat} (hz : Z 8 7 = nI p) (hp : p < 27) : Spd mX6_lose [.ref 131] (MM I φ Z α β κ τ) R (some (.int (nI (cn (lsr Z p) 4)))) (MM I φ (pLo Z p 4) α β κ τ) := by
  refine Spd.mk (by decide +kernel) (by simp [Value.category]) (Nat.le_of_ble_eq_true rfl) (fun g cx => ?_)
  refine x_iconst (nI 0) dX6_lose_0 (by decide) ?_
  refine x_istore_n dX6_lose_1 rfl (by decide) ?_
  refine x_iconst (nI 0) dX6_lose_2 (by decide) ?_
  refine x_istore_n dX6_lose_3 rfl (by decide) ?_
  refine x_eqI (I' := MM I φ (pLo Z p 0) α β κ τ) (by rw [pLo_0]) ?_
  refine lp_X6_lose hM hz hp 4 0 rfl ?_
  refine x_iload_n dX6_lose_67 rfl rfl ?_
  refine x_iret dX6_lose_68 rfl (by decide) (by decide) ?_
  exact ⟨rfl, rfl, rfl, rfl⟩
theorem sp_X6_endsIfEmpty (hM : Md R) : Spd mX6_endsIfEmpty [.ref 131] (MM I φ Z α β κ τ) R none (MM I φ (pEn Z) α β κ τ) := by
  refine Spd.mk (by decide +kernel) (by simp [Value.category]) (Nat.le_of_ble_eq_true rfl) (fun g cx => ?_)
  have hb := cn_le (tk Z) 4
  refine x_aload_n dX6_endsIfEmpty_0 rfl rfl ?_
  refine x_callVd0 (mt' := mX6_talking) (sp_X6_talking hM) kvX6_talking wl_X6_54 (by decide) dX6_endsIfEmpty_1 xk_131 (by decide) rfl rfl (Nat.le_of_ble_eq_true rfl) ⟨rfl, rfl⟩ (by decide) ?_
  refine x_if_neN 31 dX6_endsIfEmpty_4 (by decide) (by omega) (fun c4 => ?_) (fun c4 => ?_)
  · skip
    have e : pEn Z = Z := by unfold pEn; rw [if_neg c4]
    refine x_vret dX6_endsIfEmpty_31 rfl (by decide) (by decide) ?_
    exact ⟨rfl, rfl, by rw [e], rfl⟩
  · skip
    have e : pEn Z = xuI (xuI (xuI Z 8 7 (nI 0)) 8 4 (nI 0)) 8 5 (nI 0) := by unfold pEn; rw [if_pos c4]
    refine x_aload_n dX6_endsIfEmpty_7 rfl rfl ?_
    refine x_getR fl_X6_7 dX6_endsIfEmpty_8 xk_131 (by decide) rfl (hM 0 _ rfl) ?_
    refine x_bipush (nI 115) dX6_endsIfEmpty_11 (by decide) ?_
    refine x_iconst (nI 0) dX6_endsIfEmpty_13 (by decide) ?_
    refine x_stS dX6_endsIfEmpty_14 (by omega) zf_u115 ?_
    refine x_aload_n dX6_endsIfEmpty_15 rfl rfl ?_
    refine x_getR fl_X6_7 dX6_endsIfEmpty_16 xk_131 (by decide) rfl (hM 0 _ rfl) ?_
    refine x_bipush (nI 112) dX6_endsIfEmpty_19 (by decide) ?_
    refine x_iconst (nI 0) dX6_endsIfEmpty_21 (by decide) ?_
    refine x_stS dX6_endsIfEmpty_22 (by omega) zf_u112 ?_
    refine x_aload_n dX6_endsIfEmpty_23 rfl rfl ?_
    refine x_getR fl_X6_7 dX6_endsIfEmpty_24 xk_131 (by decide) rfl (hM 0 _ rfl) ?_
    refine x_bipush (nI 113) dX6_endsIfEmpty_27 (by decide) ?_
    refine x_iconst (nI 0) dX6_endsIfEmpty_29 (by decide) ?_
    refine x_stS dX6_endsIfEmpty_30 (by omega) zf_u113 ?_
    refine x_vret dX6_endsIfEmpty_31 rfl (by decide) (by decide) ?_
    exact ⟨rfl, rfl, by rw [e], rfl⟩
theorem lp_X6_logs (hM : Md R) {w i0 l0 : Int32} {g : GX} {cx : CX} {F : State → Prop} : ∀ (m k : Nat), k + m = 252 → X g cx mX6_logs F (0, 0) 46 [some (.ref 131), some (.int w), some (.int i0), some (.int l0), some (.int (nI (119 + 252)))] [] 137 (MM I φ (pSh Z 252) α β κ τ) R → X g cx mX6_logs F (0, 0) 16 [some (.ref 131), some (.int w), some (.int i0), some (.int l0), some (.int (nI (119 + k)))] [] 137 (MM I φ (pSh Z k) α β κ τ) R := by
  intro m
  induction m with
  | zero =>
    intro k hk hx
    obtain rfl : k = 252 := by omega
    refine x_iload dX6_logs_16 rfl ?_
    refine x_sipush (nI 371) dX6_logs_18 (by decide) ?_
    refine x_icmp_geN 46 dX6_logs_21 (by decide) (by omega) (by omega) (fun c21 => ?_) (fun c21 => ?_)
    · skip
      exact hx
    · skip
      exact absurd c21 (by omega)
  | succ m ih =>
    intro k hk hx
    refine x_iload dX6_logs_16 rfl ?_
    refine x_sipush (nI 371) dX6_logs_18 (by decide) ?_
    refine x_icmp_geN 46 dX6_logs_21 (by decide) (by omega) (by omega) (fun c21 => ?_) (fun c21 => ?_)
    · skip
      exact absurd c21 (by omega)
    · skip
      refine x_aload_n dX6_logs_24 rfl rfl ?_
      refine x_getR fl_X6_7 dX6_logs_25 xk_131 (by decide) rfl (hM 0 _ rfl) ?_
      refine x_iload dX6_logs_28 rfl ?_
      refine x_aload_n dX6_logs_30 rfl rfl ?_
      refine x_getR fl_X6_7 dX6_logs_31 xk_131 (by decide) rfl (hM 0 _ rfl) ?_
      refine x_iload dX6_logs_34 rfl ?_
      refine x_iconst (nI 4) dX6_logs_36 (by decide) ?_
      refine x_iaddN dX6_logs_37 ?_
      refine x_ldS dX6_logs_38 (by omega) (v := pSh Z k 9 (k + 4)) (by rw [Nat.add_assoc]; exact zf_lg) ?_
      refine x_stS dX6_logs_39 (by omega) zf_ulg ?_
      refine x_iincN 1 dX6_logs_40 rfl (by decide) (by decide) ?_
      refine x_goto 16 dX6_logs_43 (by decide) ?_
      refine x_eqI (I' := MM I φ (pSh Z (k + 1)) α β κ τ) (by rw [← pSh_step]) ?_
      exact ih (k + 1) (by omega) hx
theorem tl_X6_logs (hM : Md R) {w i0 l0 : Int32} {L : Nat} (hL : L ≤ 63) (hz : Z 8 10 = nI L) {v : Option Value} {g : GX} {cx : CX} : X g cx mX6_logs (xF g cx mX6_logs (fun r n I2 R2 => r = none ∧ n = 137 ∧ I2 = MM I φ (pLa Z L w i0 (Z 8 3) l0) α β κ τ ∧ R2 = R)) (0, 0) 57 [some (.ref 131), some (.int w), some (.int i0), some (.int l0), v] [] 137 (MM I φ Z α β κ τ) R := by
  refine x_bipush (nI 119) dX6_logs_57 (by decide) ?_
  refine x_iconst (nI 4) dX6_logs_59 (by decide) ?_
  refine x_aload_n dX6_logs_60 rfl rfl ?_
  refine x_getR fl_X6_7 dX6_logs_61 xk_131 (by decide) rfl (hM 0 _ rfl) ?_
  refine x_bipush (nI 118) dX6_logs_64 (by decide) ?_
  refine x_ldS dX6_logs_66 (by omega) zf_118 ?_
  refine x_eqtop (y := nI L) hz ?_
  refine x_imulN dX6_logs_67 ?_
  refine x_iaddN dX6_logs_68 ?_
  refine x_istore dX6_logs_69 (by decide) ?_
  refine x_aload_n dX6_logs_71 rfl rfl ?_
  refine x_getR fl_X6_7 dX6_logs_72 xk_131 (by decide) rfl (hM 0 _ rfl) ?_
  refine x_iload dX6_logs_75 rfl ?_
  refine x_iload_n dX6_logs_77 rfl rfl ?_
  refine x_stS dX6_logs_78 (by omega) zf_ulg ?_
  refine x_aload_n dX6_logs_79 rfl rfl ?_
  refine x_getR fl_X6_7 dX6_logs_80 xk_131 (by decide) rfl (hM 0 _ rfl) ?_
  refine x_iload dX6_logs_83 rfl ?_
  refine x_iconst (nI 1) dX6_logs_85 (by decide) ?_
  refine x_iaddN dX6_logs_86 ?_
  refine x_iload_n dX6_logs_87 rfl rfl ?_
  refine x_stS dX6_logs_88 (by omega) (by rw [Nat.add_assoc]; exact zf_ulg) ?_
  refine x_aload_n dX6_logs_89 rfl rfl ?_
  refine x_getR fl_X6_7 dX6_logs_90 xk_131 (by decide) rfl (hM 0 _ rfl) ?_
  refine x_iload dX6_logs_93 rfl ?_
  refine x_iconst (nI 2) dX6_logs_95 (by decide) ?_
  refine x_iaddN dX6_logs_96 ?_
  refine x_aload_n dX6_logs_97 rfl rfl ?_
  refine x_getR fl_X6_7 dX6_logs_98 xk_131 (by decide) rfl (hM 0 _ rfl) ?_
  refine x_iconst (nI 3) dX6_logs_101 (by decide) ?_
  refine x_ldS dX6_logs_102 (by omega) zf_3 ?_
  refine x_eqtop (y := Z 8 3) (by simp [xuI]) ?_
  refine x_stS dX6_logs_103 (by omega) (by rw [Nat.add_assoc]; exact zf_ulg) ?_
  refine x_aload_n dX6_logs_104 rfl rfl ?_
  refine x_getR fl_X6_7 dX6_logs_105 xk_131 (by decide) rfl (hM 0 _ rfl) ?_
  refine x_iload dX6_logs_108 rfl ?_
  refine x_iconst (nI 3) dX6_logs_110 (by decide) ?_
  refine x_iaddN dX6_logs_111 ?_
  refine x_iload_n dX6_logs_112 rfl rfl ?_
  refine x_stS dX6_logs_113 (by omega) (by rw [Nat.add_assoc]; exact zf_ulg) ?_
  refine x_aload_n dX6_logs_114 rfl rfl ?_
  refine x_getR fl_X6_7 dX6_logs_115 xk_131 (by decide) rfl (hM 0 _ rfl) ?_
  refine x_bipush (nI 118) dX6_logs_118 (by decide) ?_
  refine x_dup2 dX6_logs_120 rfl rfl ?_
  refine x_ldS dX6_logs_121 (by omega) zf_118 ?_
  refine x_eqtop (y := nI L) (by simp [xuI, hz]) ?_
  refine x_iconst (nI 1) dX6_logs_122 (by decide) ?_
  refine x_iaddN dX6_logs_123 ?_
  refine x_stS dX6_logs_124 (by omega) zf_u118 ?_
  refine x_vret dX6_logs_125 rfl (by decide) (by decide) ?_
  exact ⟨rfl, rfl, rfl, rfl⟩
theorem sp_X6_logs (hM : Md R) {w i0 l0 : Int32} {L : Nat} (hL : L ≤ 64) (hz : Z 8 10 = nI L) : Spd mX6_logs [.ref 131, .int w, .int i0, .int l0] (MM I φ Z α β κ τ) R none (MM I φ (pLog Z L w i0 l0) α β κ τ) := by
  refine Spd.mk (by decide +kernel) (by simp [Value.category]) (Nat.le_of_ble_eq_true rfl) (fun g cx => ?_)
  refine x_aload_n dX6_logs_0 rfl rfl ?_
  refine x_getR fl_X6_7 dX6_logs_1 xk_131 (by decide) rfl (hM 0 _ rfl) ?_
  refine x_bipush (nI 118) dX6_logs_4 (by decide) ?_
  refine x_ldS dX6_logs_6 (by omega) zf_118 ?_
  refine x_eqtop (y := nI L) hz ?_
  refine x_bipush (nI 64) dX6_logs_7 (by decide) ?_
  refine x_icmp_neN 57 dX6_logs_9 (by decide) (by omega) (by omega) (fun c9 => ?_) (fun c9 => ?_)
  · skip
    have e : pLog Z L w i0 l0 = pLa Z L w i0 (Z 8 3) l0 := by unfold pLog; rw [if_neg c9]
    rw [e]
    exact tl_X6_logs hM (by omega) hz
  · skip
    have e : pLog Z L w i0 l0 = pLa (xuI (pSh Z 252) 8 10 (nI 63)) 63 w i0 (Z 8 3) l0 := by unfold pLog; rw [if_pos c9]
    rw [e]
    refine x_bipush (nI 119) dX6_logs_12 (by decide) ?_
    refine x_istore dX6_logs_14 (by decide) ?_
    refine x_eqI (I' := MM I φ (pSh Z 0) α β κ τ) (by rw [pSh_0]) ?_
    refine lp_X6_logs hM 252 0 rfl ?_
    clear e
    refine x_aload_n dX6_logs_46 rfl rfl ?_
    refine x_getR fl_X6_7 dX6_logs_47 xk_131 (by decide) rfl (hM 0 _ rfl) ?_
    refine x_bipush (nI 118) dX6_logs_50 (by decide) ?_
    refine x_dup2 dX6_logs_52 rfl rfl ?_
    refine x_ldS dX6_logs_53 (by omega) zf_118 ?_
    refine x_eqtop (y := nI 64) (by simp [pSh, hz, c9]) ?_
    refine x_iconst (nI 1) dX6_logs_54 (by decide) ?_
    refine x_isubN dX6_logs_55 (by omega) ?_
    refine x_stS dX6_logs_56 (by omega) zf_u118 ?_
    have e2 : xuI (pSh Z 252) 8 10 (nI 63) 8 3 = Z 8 3 := by simp [xuI, pSh]
    rw [← e2]
    exact tl_X6_logs hM (L := 63) (Z := xuI (pSh Z 252) 8 10 (nI 63)) (by omega) (by simp [xuI])
end ML
