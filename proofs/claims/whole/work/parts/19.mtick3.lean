/-! the reference: answers, free ticks, a tick -/
def cRow (r : Nat → Int32) : Nat → Int32 := dRow (fun b => if b = 1 then nI 0 else if b = 2 then r 2 + nI 1 else r b) ((r 0).toNatClampNeg - 1)
def sel (Z : MI) (P k : Nat) : Bool := tk Z k && decide (nI P = nI (pBits (Z k 9)))
def pCm (Z : MI) (P k : Nat) : MI := fun a => if a < k ∧ sel Z P a = true then cRow (Z a) else Z a
theorem pCm_0 {Z : MI} {P : Nat} : pCm Z P 0 = Z := by funext a; simp only [pCm]; rw [if_neg (by omega)]
theorem pCm_ge {Z : MI} {P k a : Nat} (h : k ≤ a) : pCm Z P k a = Z a := by simp only [pCm]; rw [if_neg (by omega)]
theorem pCm_no {Z : MI} {P k : Nat} (h : sel Z P k = false) : pCm Z P k = pCm Z P (k + 1) := by
  funext a
  simp only [pCm]
  by_cases h2 : a < k ∧ sel Z P a = true
  · rw [if_pos h2, if_pos (show a < k + 1 ∧ sel Z P a = true from ⟨by omega, h2.2⟩)]
  · rw [if_neg h2, if_neg (fun q => ?_)]
    by_cases ha : a = k
    · subst ha; rw [h] at q; cases q.2
    · exact h2 ⟨by omega, q.2⟩
theorem nI_cl {m : Nat} (h : m < 2 ^ 31) : (nI m).toNatClampNeg = m := nI_clamp h
theorem pCm_yes {Z : MI} {P k m : Nat} (h : sel Z P k = true) (hm : Z k 0 = nI (m + 1)) (hm4 : m ≤ 4) : rw1 (xuI (xuI (pCm Z P k) k 1 (nI 0)) k 2 (xuI (pCm Z P k) k 1 (nI 0) k 2 + nI 1)) k (dRow (xuI (xuI (pCm Z P k) k 1 (nI 0)) k 2 (xuI (pCm Z P k) k 1 (nI 0) k 2 + nI 1) k) m) = pCm Z P (k + 1) := by
  funext a
  by_cases ha : a = k
  · subst ha
    rw [rw1_self]
    simp only [pCm]
    rw [if_pos (show a < a + 1 ∧ sel Z P a = true from ⟨by omega, h⟩)]
    unfold cRow
    rw [hm, nI_cl (by omega)]
    show dRow _ m = dRow _ m
    congr 1
    funext b
    by_cases h1 : b = 1
    · subst h1; simp [xuI]
    · by_cases h2 : b = 2
      · subst h2; simp [xuI, pCm_ge (Nat.le_refl a)]
      · simp [xuI, h1, h2, pCm_ge (Nat.le_refl a)]
  · rw [rw1_ne ha, xuI_ne ha, xuI_ne ha]
    simp only [pCm]
    by_cases h2 : a < k ∧ sel Z P a = true
    · rw [if_pos h2, if_pos (show a < k + 1 ∧ sel Z P a = true from ⟨by omega, h2.2⟩)]
    · rw [if_neg h2, if_neg (fun q => h2 ⟨by omega, q.2⟩)]
theorem sel_t {Z : MI} {P k : Nat} (h1 : ¬ bi (tk Z k) = 0) (h2 : nI P = nI (pBits (Z k 9))) : sel Z P k = true := by unfold sel; rw [bi_nt h1, Bool.true_and]; exact decide_eq_true h2
theorem sel_f1 {Z : MI} {P k : Nat} (h1 : bi (tk Z k) = 0) : sel Z P k = false := by unfold sel; rw [bi_0.mp h1]; rfl
theorem sel_f2 {Z : MI} {P k : Nat} (h2 : ¬ nI P = nI (pBits (Z k 9))) : sel Z P k = false := by unfold sel; rw [decide_eq_false h2, Bool.and_false]
/-- a word is taken -/
def pAw (Z : MI) (l q : Nat) : MI := if q = 0 then Z else xuI (xuI Z (4 + l) 3 (Z (4 + l) 3 + nI 1)) (4 + l) 4 (Z (pFi Z) (7 + q))
def pAn (Z : MI) (L p l : Nat) : MI := pEn (pCm (xuI (pLog (pAw Z l (p / 9)) L (nI 0) (nI 1) (nI 0)) 8 7 (nI (p + 1))) (p + 1) 4)
/-- how many messages a line has, as far as talkers need it -/
def Lns (Z : MI) : Prop := ∀ k, k < 4 → tk Z k = true → ∃ m, m ≤ 4 ∧ Z k 0 = nI (m + 1)
theorem Lns_row {Z Z' : MI} (h : ∀ k, k < 4 → Z' k = Z k) (hl : Lns Z) : Lns Z' := fun k hk ht => by
  rw [h k hk]
  exact hl k hk (by rw [← ht]; exact tk_row (h k hk).symm)
/-- a message that failed -/
def uRow (r : Nat → Int32) (s1 : Int32) : Nat → Int32 :=
  if r 6 + nI 1 < s1 then (fun b => if b = 1 then nI 0 else if b = 4 then r 4 + nI 1 else if b = 6 then r 6 + nI 1 else r b)
  else dRow (fun b => if b = 1 then nI 0 else if b = 4 then r 4 + nI 1 else if b = 5 then r 5 + nI 1 else if b = 6 then r 6 + nI 1 else r b) ((r 0).toNatClampNeg - 1)
def pUn (Z : MI) (k : Nat) : MI := fun a => if a < k ∧ tk Z a = true then uRow (Z a) (Z 8 1) else Z a
theorem pUn_0 {Z : MI} : pUn Z 0 = Z := by funext a; simp only [pUn]; rw [if_neg (by omega)]
theorem pUn_ge {Z : MI} {k a : Nat} (h : k ≤ a) : pUn Z k a = Z a := by simp only [pUn]; rw [if_neg (by omega)]
theorem pUn_no {Z : MI} {k : Nat} (h : tk Z k = false) : pUn Z k = pUn Z (k + 1) := by
  funext a
  simp only [pUn]
  by_cases h2 : a < k ∧ tk Z a = true
  · rw [if_pos h2, if_pos (show a < k + 1 ∧ tk Z a = true from ⟨by omega, h2.2⟩)]
  · rw [if_neg h2, if_neg (fun q => ?_)]
    by_cases ha : a = k
    · subst ha; rw [h] at q; cases q.2
    · exact h2 ⟨by omega, q.2⟩
theorem pUn_one {Z : MI} {k : Nat} {f : Nat → Int32} (h : tk Z k = true) (hf : f = uRow (Z k) (Z 8 1)) : rw1 (pUn Z k) k f = pUn Z (k + 1) := by
  funext a
  by_cases ha : a = k
  · subst ha
    rw [rw1_self, hf]
    simp only [pUn]
    rw [if_pos (show a < a + 1 ∧ tk Z a = true from ⟨by omega, h⟩)]
  · rw [rw1_ne ha]
    simp only [pUn]
    by_cases h2 : a < k ∧ tk Z a = true
    · rw [if_pos h2, if_pos (show a < k + 1 ∧ tk Z a = true from ⟨by omega, h2.2⟩)]
    · rw [if_neg h2, if_neg (fun q => h2 ⟨by omega, q.2⟩)]
theorem rw1_xuI {Z : MI} {k w : Nat} {v : Int32} {f : Nat → Int32} : rw1 (xuI Z k w v) k f = rw1 Z k f := by
  funext a
  by_cases ha : a = k
  · subst ha; rw [rw1_self, rw1_self]
  · rw [rw1_ne ha, rw1_ne ha, xuI_ne ha]
theorem xuI_rw1 {Z : MI} {k w : Nat} {v : Int32} : xuI Z k w v = rw1 Z k (upd (Z k) w v) := by
  funext a b
  by_cases ha : a = k
  · subst ha; rw [rw1_self]; simp [xuI, upd]
  · rw [rw1_ne ha, xuI_ne ha]
def pUa (Z : MI) (L p : Nat) : MI := pEn (pUn (pLog Z L (nI 1) (nI 1) (nI 0)) 4)
def pFr (Z : MI) (k : Nat) : MI := fun a b => if a < k ∧ b = 1 then (if Z a 0 ≤ 0 then nI 0 else nI 1) else Z a b
theorem pFr_0 {Z : MI} : pFr Z 0 = Z := by funext a b; simp only [pFr]; rw [if_neg (by omega)]
theorem pFr_ge {Z : MI} {k a : Nat} (h : k ≤ a) : pFr Z k a = Z a := by funext b; simp only [pFr]; rw [if_neg (by omega)]
theorem pFr_step {Z : MI} {k : Nat} : xuI (pFr Z k) k 1 (if Z k 0 ≤ 0 then nI 0 else nI 1) = pFr Z (k + 1) := by
  funext a b
  by_cases h : a = k ∧ b = 1
  · obtain ⟨rfl, rfl⟩ := h
    rw [xuI_self]
    simp only [pFr]
    rw [if_pos (show a < a + 1 ∧ True from ⟨by omega, trivial⟩)]
  · rw [xuI_at h]
    simp only [pFr]
    by_cases h2 : a < k ∧ b = 1
    · rw [if_pos h2, if_pos (show a < k + 1 ∧ b = 1 by omega)]
    · rw [if_neg h2, if_neg (show ¬ (a < k + 1 ∧ b = 1) by omega)]
def pTf (Z : MI) : MI := if Z 8 5 + nI 1 < Z 8 0 then xuI Z 8 5 (Z 8 5 + nI 1) else if sm (fun j => Z j 0) 4 ≤ 0 then xuI Z 8 5 (Z 8 5 + nI 1) else xuI (xuI (xuI (pFr (xuI Z 8 5 (Z 8 5 + nI 1)) 4) 8 5 (nI 0)) 8 7 (nI 0)) 8 8 (Z 8 8 + nI 1)
theorem sm_congr {p q : Nat → Int32} {n : Nat} (h : ∀ j, j < n → p j = q j) : sm p n = sm q n := by
  induction n with
  | zero => rfl
  | succ n ih => show sm p n + p n = sm q n + q n; rw [ih (fun j hj => h j (by omega)), h n (by omega)]
theorem un_a {Y : MI} {k : Nat} {v4 v6 : Int32} : xuI (xuI (xuI Y k 1 (nI 0)) k 4 v4) k 6 v6 = rw1 Y k (fun b => if b = 1 then nI 0 else if b = 4 then v4 else if b = 6 then v6 else Y k b) := by
  funext a b
  by_cases ha : a = k
  · subst ha
    rw [rw1_self]
    by_cases h6 : b = 6
    · subst h6; simp [xuI]
    · by_cases h4 : b = 4
      · subst h4; simp [xuI]
      · simp [xuI, h4, h6]
  · rw [rw1_ne ha]; simp [xuI, ha]
theorem un_b {Y : MI} {k : Nat} {v4 v5 v6 : Int32} : xuI (xuI (xuI (xuI Y k 1 (nI 0)) k 4 v4) k 6 v6) k 5 v5 k = (fun b => if b = 1 then nI 0 else if b = 4 then v4 else if b = 5 then v5 else if b = 6 then v6 else Y k b) := by
  funext b
  by_cases h5 : b = 5
  · subst h5; simp [xuI]
  · by_cases h6 : b = 6
    · subst h6; simp [xuI]
    · by_cases h4 : b = 4
      · subst h4; simp [xuI]
      · simp [xuI, h4, h5, h6]
theorem pUn_a {Z : MI} {k : Nat} (h : tk Z k = true) (hs : Z k 6 + nI 1 < Z 8 1) : xuI (xuI (xuI (pUn Z k) k 1 (nI 0)) k 4 (Z k 4 + nI 1)) k 6 (Z k 6 + nI 1) = pUn Z (k + 1) := by
  rw [un_a]
  refine pUn_one h ?_
  unfold uRow
  rw [if_pos hs, pUn_ge (Nat.le_refl k)]
theorem pUn_b {Z : MI} {k m : Nat} (h : tk Z k = true) (hm : Z k 0 = nI (m + 1)) (hm4 : m ≤ 4) (hs : ¬ Z k 6 + nI 1 < Z 8 1) : rw1 (xuI (xuI (xuI (xuI (pUn Z k) k 1 (nI 0)) k 4 (Z k 4 + nI 1)) k 6 (Z k 6 + nI 1)) k 5 (Z k 5 + nI 1)) k (dRow (xuI (xuI (xuI (xuI (pUn Z k) k 1 (nI 0)) k 4 (Z k 4 + nI 1)) k 6 (Z k 6 + nI 1)) k 5 (Z k 5 + nI 1) k) m) = pUn Z (k + 1) := by
  rw [un_b, rw1_xuI, rw1_xuI, rw1_xuI, rw1_xuI]
  refine pUn_one h ?_
  unfold uRow
  rw [if_neg hs, pUn_ge (Nat.le_refl k), hm, nI_cl (by omega)]
  rfl
section ML
variable {I : MI} {R : MR} {φ α β κ τ : Nat → Int32} {Z : MI}
theorem lp_X6_tickAnswered (hM : Md R) {P : Nat} (hz : Z 8 7 = nI P) (hln : Lns Z) {g : GX} {cx : CX} {F : State → Prop} : ∀ (m k : Nat), k + m = 4 → X g cx mX6_tickAnswered F (0, 0) 138 [some (.ref 131), none, none, some (.int (nI 4))] [] 137 (MM I φ (pCm Z P 4) α β κ τ) R → X g cx mX6_tickAnswered F (0, 0) 69 [some (.ref 131), none, none, some (.int (nI k))] [] 137 (MM I φ (pCm Z P k) α β κ τ) R := by
  intro m
  induction m with
  | zero =>
    intro k hk hx
    obtain rfl : k = 4 := by omega
    refine x_iload_n dX6_tickAnswered_69 rfl rfl ?_
    refine x_iconst (nI 4) dX6_tickAnswered_70 (by decide) ?_
    refine x_icmp_geN 138 dX6_tickAnswered_71 (by decide) (by omega) (by omega) (fun c71 => ?_) (fun c71 => ?_)
    · skip
      exact hx
    · skip
      exact absurd c71 (by omega)
  | succ m ih =>
    intro k hk hx
    refine x_iload_n dX6_tickAnswered_69 rfl rfl ?_
    refine x_iconst (nI 4) dX6_tickAnswered_70 (by decide) ?_
    refine x_icmp_geN 138 dX6_tickAnswered_71 (by decide) (by omega) (by omega) (fun c71 => ?_) (fun c71 => ?_)
    · skip
      exact absurd c71 (by omega)
    · skip
      refine x_aload_n dX6_tickAnswered_74 rfl rfl ?_
      refine x_iload_n dX6_tickAnswered_75 rfl rfl ?_
      refine x_callVd0 (mt' := mX6_isTalking) (sp_X6_isTalking hM (by omega)) kvX6_isTalking wl_X6_47 (by decide) dX6_tickAnswered_76 xk_131 (by decide) rfl rfl (Nat.le_of_ble_eq_true rfl) ⟨rfl, rfl⟩ (by decide) ?_
      refine x_eqtop (y := bi (tk Z k)) (congrArg bi (tk_row (pCm_ge (Nat.le_refl k)))) ?_
      refine x_if_eq 132 dX6_tickAnswered_79 (by decide) (fun c79 => ?_) (fun c79 => ?_)
      · skip
        have hL : sel Z P k = false := sel_f1 c79
        refine x_iincN 1 dX6_tickAnswered_132 rfl (by decide) (by decide) ?_
        refine x_goto 69 dX6_tickAnswered_135 (by decide) ?_
        first
          | exact x_eqI (by rw [pCm_yes hL hm hm4]) (ih (k + 1) (by omega) hx)
          | exact x_eqI (by rw [← pCm_no hL]) (ih (k + 1) (by omega) hx)
      · skip
        refine x_aload_n dX6_tickAnswered_82 rfl rfl ?_
        refine x_getR fl_X6_7 dX6_tickAnswered_83 xk_131 (by decide) rfl (hM 0 _ rfl) ?_
        refine x_bipush (nI 115) dX6_tickAnswered_86 (by decide) ?_
        refine x_ldS dX6_tickAnswered_88 (by omega) zf_115 ?_
        refine x_eqtop (y := nI P) (by rw [pCm_ge (by omega), hz]) ?_
        refine x_aload_n dX6_tickAnswered_89 rfl rfl ?_
        refine x_iload_n dX6_tickAnswered_90 rfl rfl ?_
        refine x_iconst (nI 0) dX6_tickAnswered_91 (by decide) ?_
        refine x_iconst (nI 2) dX6_tickAnswered_92 (by decide) ?_
        refine x_callVd0 (mt' := mX6_inMessage) (sp_X6_inMessage hM (by omega) (by omega)) kvX6_inMessage wl_X6_43 (by decide) dX6_tickAnswered_93 xk_131 (by decide) rfl rfl (Nat.le_of_ble_eq_true rfl) ⟨rfl, rfl⟩ (by decide) ?_
        refine x_eqtop (y := Z k 9) (by rw [pCm_ge (Nat.le_refl k)]) ?_
        refine x_callSd0 (mt' := mX6_bitsOf) (sp_X6_bitsOf _) ktX6_bitsOf wl_X6_78 (by decide) dX6_tickAnswered_96 rfl rfl (Nat.le_of_ble_eq_true rfl) ⟨rfl, rfl⟩ (by decide) ?_
        refine x_icmp_ne 132 dX6_tickAnswered_99 (by decide) (fun c99 => ?_) (fun c99 => ?_)
        · skip
          have hL : sel Z P k = false := sel_f2 c99
          refine x_iincN 1 dX6_tickAnswered_132 rfl (by decide) (by decide) ?_
          refine x_goto 69 dX6_tickAnswered_135 (by decide) ?_
          first
            | exact x_eqI (by rw [pCm_yes hL hm hm4]) (ih (k + 1) (by omega) hx)
            | exact x_eqI (by rw [← pCm_no hL]) (ih (k + 1) (by omega) hx)
        · skip
          have hL : sel Z P k = true := sel_t c79 c99
          obtain ⟨m1, hm4, hm⟩ := hln k (by omega) (bi_nt c79)
          refine x_aload_n dX6_tickAnswered_102 rfl rfl ?_
          refine x_getR fl_X6_7 dX6_tickAnswered_103 xk_131 (by decide) rfl (hM 0 _ rfl) ?_
          refine x_iload_n dX6_tickAnswered_106 rfl rfl ?_
          refine x_iconst (nI 1) dX6_tickAnswered_107 (by decide) ?_
          refine x_callSd0 (mt' := mX6_of) (sp_X6_of _ _) ktX6_of wl_X6_33 (by decide) dX6_tickAnswered_108 rfl rfl (Nat.le_of_ble_eq_true rfl) ⟨rfl, rfl⟩ (by decide) ?_
          refine x_iconst (nI 0) dX6_tickAnswered_111 (by decide) ?_
          refine x_stS dX6_tickAnswered_112 (by omega) (zf_usp (by omega) (by omega)) ?_
          refine x_aload_n dX6_tickAnswered_113 rfl rfl ?_
          refine x_getR fl_X6_7 dX6_tickAnswered_114 xk_131 (by decide) rfl (hM 0 _ rfl) ?_
          refine x_iload_n dX6_tickAnswered_117 rfl rfl ?_
          refine x_iconst (nI 2) dX6_tickAnswered_118 (by decide) ?_
          refine x_callSd0 (mt' := mX6_of) (sp_X6_of _ _) ktX6_of wl_X6_33 (by decide) dX6_tickAnswered_119 rfl rfl (Nat.le_of_ble_eq_true rfl) ⟨rfl, rfl⟩ (by decide) ?_
          refine x_dup2 dX6_tickAnswered_122 rfl rfl ?_
          refine x_ldS dX6_tickAnswered_123 (by omega) (zf_sp (by omega) (by omega)) ?_
          refine x_iconst (nI 1) dX6_tickAnswered_124 (by decide) ?_
          refine x_iadd dX6_tickAnswered_125 ?_
          refine x_stS dX6_tickAnswered_126 (by omega) (zf_usp (by omega) (by omega)) ?_
          refine x_aload_n dX6_tickAnswered_127 rfl rfl ?_
          refine x_iload_n dX6_tickAnswered_128 rfl rfl ?_
          refine x_callVd0 (mt' := mX6_dropFirst) (sp_X6_dropFirst (m0 := m1) hM (by omega) hm4 (by simp [xuI, pCm_ge (Nat.le_refl k), hm])) kvX6_dropFirst wl_X6_81 (by decide) dX6_tickAnswered_129 xk_131 (by decide) rfl rfl (Nat.le_of_ble_eq_true rfl) ⟨rfl, rfl⟩ (by decide) ?_
          refine x_iincN 1 dX6_tickAnswered_132 rfl (by decide) (by decide) ?_
          refine x_goto 69 dX6_tickAnswered_135 (by decide) ?_
          first
            | exact x_eqI (by rw [pCm_yes hL hm hm4]) (ih (k + 1) (by omega) hx)
            | exact x_eqI (by rw [← pCm_no hL]) (ih (k + 1) (by omega) hx)
theorem tl_X6_tickAnswered (hM : Md R) {p L : Nat} (hp : p < 27) (hL : L ≤ 64) (hz : Z 8 7 = nI p) (hz10 : Z 8 10 = nI L) (hln : Lns Z) {v w u : Option Value} {g : GX} {cx : CX} : X g cx mX6_tickAnswered (xF g cx mX6_tickAnswered (fun r n I2 R2 => r = none ∧ n = 137 ∧ I2 = MM I φ (pEn (pCm (xuI (pLog Z L (nI 0) (nI 1) (nI 0)) 8 7 (nI (p + 1))) (p + 1) 4)) α β κ τ ∧ R2 = R)) (0, 0) 49 [some (.ref 131), v, w, u] [] 137 (MM I φ Z α β κ τ) R := by
  have hr : ∀ k, k < 4 → xuI (pLog Z L (nI 0) (nI 1) (nI 0)) 8 7 (nI (p + 1)) k = Z k := fun k hk => by rw [xuI_row (by omega), pLog_row (by omega)]
  refine x_aload_n dX6_tickAnswered_49 rfl rfl ?_
  refine x_iconst (nI 0) dX6_tickAnswered_50 (by decide) ?_
  refine x_iconst (nI 1) dX6_tickAnswered_51 (by decide) ?_
  refine x_iconst (nI 0) dX6_tickAnswered_52 (by decide) ?_
  refine x_callVd0 (mt' := mX6_logs) (sp_X6_logs hM hL hz10) kvX6_logs wl_X6_67 (by decide) dX6_tickAnswered_53 xk_131 (by decide) rfl rfl (Nat.le_of_ble_eq_true rfl) ⟨rfl, rfl⟩ (by decide) ?_
  refine x_aload_n dX6_tickAnswered_56 rfl rfl ?_
  refine x_getR fl_X6_7 dX6_tickAnswered_57 xk_131 (by decide) rfl (hM 0 _ rfl) ?_
  refine x_bipush (nI 115) dX6_tickAnswered_60 (by decide) ?_
  refine x_dup2 dX6_tickAnswered_62 rfl rfl ?_
  refine x_ldS dX6_tickAnswered_63 (by omega) zf_115 ?_
  refine x_eqtop (y := nI p) (by rw [pLog_ne (by omega) (by omega), hz]) ?_
  refine x_iconst (nI 1) dX6_tickAnswered_64 (by decide) ?_
  refine x_iaddN dX6_tickAnswered_65 ?_
  refine x_stS dX6_tickAnswered_66 (by omega) zf_u115 ?_
  refine x_iconst (nI 0) dX6_tickAnswered_67 (by decide) ?_
  refine x_istore_n dX6_tickAnswered_68 rfl (by decide) ?_
  generalize hY : xuI (pLog Z L (nI 0) (nI 1) (nI 0)) 8 7 (nI (p + 1)) = Y at hr
  have hY7 : Y 8 7 = nI (p + 1) := by rw [← hY, xuI_self]
  refine x_weak [some (.ref 131), none, none, some (.int (nI 0))] rfl (fun i v h => by rcases i with _ | _ | _ | _ | i <;> first | exact h | (simp at h)) ?_
  refine x_eqI (I' := MM I φ (pCm Y (p + 1) 0) α β κ τ) (by rw [pCm_0]) ?_
  refine lp_X6_tickAnswered hM hY7 (Lns_row hr hln) 4 0 rfl ?_
  refine x_aload_n dX6_tickAnswered_138 rfl rfl ?_
  refine x_callVd0 (mt' := mX6_endsIfEmpty) (sp_X6_endsIfEmpty hM) kvX6_endsIfEmpty wl_X6_64 (by decide) dX6_tickAnswered_139 xk_131 (by decide) rfl rfl (Nat.le_of_ble_eq_true rfl) ⟨rfl, rfl⟩ (by decide) ?_
  refine x_vret dX6_tickAnswered_142 rfl (by decide) (by decide) ?_
  exact ⟨rfl, rfl, rfl, rfl⟩
theorem sp_X6_tickAnswered (hM : Md R) {p L l : Nat} (hp : p < 27) (hL : L ≤ 64) (hl : l < 4) (hz : Z 8 7 = nI p) (hz10 : Z 8 10 = nI L) (hln : Lns Z) (hT : ∃ j, j < 4 ∧ tk Z j = true) : Spd mX6_tickAnswered [.ref 131, .int (nI l)] (MM I φ Z α β κ τ) R none (MM I φ (pAn Z L p l) α β κ τ) := by
  refine Spd.mk (by decide +kernel) (by simp [Value.category]) (Nat.le_of_ble_eq_true rfl) (fun g cx => ?_)
  have hF := pFi_lt Z
  have hrow : ∀ k, k < 4 → xuI Z (4 + l) 3 (Z (4 + l) 3 + nI 1) k = Z k := fun k hk => xuI_row (by omega)
  have hFe : pFi (xuI Z (4 + l) 3 (Z (4 + l) 3 + nI 1)) = pFi Z := by unfold pFi; rw [tk_row (hrow 0 (by omega)), tk_row (hrow 1 (by omega)), tk_row (hrow 2 (by omega))]
  have hT2 : ∃ j, j < 4 ∧ tk (xuI Z (4 + l) 3 (Z (4 + l) 3 + nI 1)) j = true := by
    obtain ⟨j, h1, h2⟩ := hT
    exact ⟨j, h1, by rw [tk_row (hrow j h1)]; exact h2⟩
  refine x_aload_n dX6_tickAnswered_0 rfl rfl ?_
  refine x_getR fl_X6_7 dX6_tickAnswered_1 xk_131 (by decide) rfl (hM 0 _ rfl) ?_
  refine x_bipush (nI 115) dX6_tickAnswered_4 (by decide) ?_
  refine x_ldS dX6_tickAnswered_6 (by omega) zf_115 ?_
  refine x_eqtop (y := nI p) hz ?_
  refine x_bipush (nI 9) dX6_tickAnswered_7 (by decide) ?_
  refine x_idivN dX6_tickAnswered_9 (by omega) (by omega) (by omega) ?_
  refine x_istore_n dX6_tickAnswered_10 rfl (by decide) ?_
  refine x_iload_n dX6_tickAnswered_11 rfl rfl ?_
  refine x_if_le 49 dX6_tickAnswered_12 (by decide) (fun c12 => ?_) (fun c12 => ?_)
  · skip
    have e : pAn Z L p l = pEn (pCm (xuI (pLog Z L (nI 0) (nI 1) (nI 0)) 8 7 (nI (p + 1))) (p + 1) 4) := by unfold pAn pAw; rw [if_pos ((nI_le0 (by omega)).mp c12)]
    rw [e]
    exact tl_X6_tickAnswered hM hp hL hz hz10 hln
  · skip
    have e : pAn Z L p l = pEn (pCm (xuI (pLog (xuI (xuI Z (4 + l) 3 (Z (4 + l) 3 + nI 1)) (4 + l) 4 (Z (pFi Z) (7 + p / 9))) L (nI 0) (nI 1) (nI 0)) 8 7 (nI (p + 1))) (p + 1) 4) := by unfold pAn pAw; rw [if_neg (fun q => c12 ((nI_le0 (by omega)).mpr q))]
    rw [e]
    refine x_aload_n dX6_tickAnswered_15 rfl rfl ?_
    refine x_getR fl_X6_7 dX6_tickAnswered_16 xk_131 (by decide) rfl (hM 0 _ rfl) ?_
    refine x_iload_n dX6_tickAnswered_19 rfl rfl ?_
    refine x_iconst (nI 3) dX6_tickAnswered_20 (by decide) ?_
    refine x_callSd0 (mt' := mX6_ofListener) (sp_X6_ofListener _ _) ktX6_ofListener wl_X6_29 (by decide) dX6_tickAnswered_21 rfl rfl (Nat.le_of_ble_eq_true rfl) ⟨rfl, rfl⟩ (by decide) ?_
    refine x_dup2 dX6_tickAnswered_24 rfl rfl ?_
    refine x_ldS dX6_tickAnswered_25 (by omega) (zf_li (by omega) (by omega)) ?_
    refine x_iconst (nI 1) dX6_tickAnswered_26 (by decide) ?_
    refine x_iadd dX6_tickAnswered_27 ?_
    refine x_stS dX6_tickAnswered_28 (by omega) (zf_uli (by omega) (by omega)) ?_
    refine x_aload_n dX6_tickAnswered_29 rfl rfl ?_
    refine x_getR fl_X6_7 dX6_tickAnswered_30 xk_131 (by decide) rfl (hM 0 _ rfl) ?_
    refine x_iload_n dX6_tickAnswered_33 rfl rfl ?_
    refine x_iconst (nI 4) dX6_tickAnswered_34 (by decide) ?_
    refine x_callSd0 (mt' := mX6_ofListener) (sp_X6_ofListener _ _) ktX6_ofListener wl_X6_29 (by decide) dX6_tickAnswered_35 rfl rfl (Nat.le_of_ble_eq_true rfl) ⟨rfl, rfl⟩ (by decide) ?_
    refine x_aload_n dX6_tickAnswered_38 rfl rfl ?_
    refine x_aload_n dX6_tickAnswered_39 rfl rfl ?_
    refine x_callVd0 (mt' := mX6_firstTalking) (sp_X6_firstTalking hM hT2) kvX6_firstTalking wl_X6_71 (by decide) dX6_tickAnswered_40 xk_131 (by decide) rfl rfl (Nat.le_of_ble_eq_true rfl) ⟨rfl, rfl⟩ (by decide) ?_
    refine x_eqtop (y := nI (pFi Z)) (by rw [hFe]) ?_
    refine x_iconst (nI 0) dX6_tickAnswered_43 (by decide) ?_
    refine x_iload_n dX6_tickAnswered_44 rfl rfl ?_
    refine x_callVd0 (mt' := mX6_inMessage) (sp_X6_inMessage hM (k := pFi Z) (j := 0) (w := p / 9) hF (by omega)) kvX6_inMessage wl_X6_43 (by decide) dX6_tickAnswered_45 xk_131 (by decide) rfl rfl (Nat.le_of_ble_eq_true rfl) ⟨rfl, rfl⟩ (by decide) ?_
    refine x_eqtop (y := Z (pFi Z) (7 + p / 9)) (by rw [hrow _ hF]) ?_
    refine x_stS dX6_tickAnswered_48 (by omega) (zf_uli (by omega) (by omega)) ?_
    exact tl_X6_tickAnswered (Z := xuI (xuI Z (4 + l) 3 (Z (4 + l) 3 + nI 1)) (4 + l) 4 (Z (pFi Z) (7 + p / 9))) hM hp hL (by rw [xuI_row (by omega), xuI_row (by omega)]; exact hz) (by rw [xuI_row (by omega), xuI_row (by omega)]; exact hz10) (Lns_row (fun k hk => by rw [xuI_row (by omega)]; exact hrow k hk) hln)
theorem lp_X6_tickUnanswered (hM : Md R) (hln : Lns Z) {g : GX} {cx : CX} {F : State → Prop} : ∀ (m k : Nat), k + m = 4 → X g cx mX6_tickUnanswered F (0, 0) 107 [some (.ref 131), some (.int (nI 4))] [] 137 (MM I φ (pUn Z 4) α β κ τ) R → X g cx mX6_tickUnanswered F (0, 0) 9 [some (.ref 131), some (.int (nI k))] [] 137 (MM I φ (pUn Z k) α β κ τ) R := by
  intro m
  induction m with
  | zero =>
    intro k hk hx
    obtain rfl : k = 4 := by omega
    refine x_iload_n dX6_tickUnanswered_9 rfl rfl ?_
    refine x_iconst (nI 4) dX6_tickUnanswered_10 (by decide) ?_
    refine x_icmp_geN 107 dX6_tickUnanswered_11 (by decide) (by omega) (by omega) (fun c11 => ?_) (fun c11 => ?_)
    · skip
      exact hx
    · skip
      exact absurd c11 (by omega)
  | succ m ih =>
    intro k hk hx
    refine x_iload_n dX6_tickUnanswered_9 rfl rfl ?_
    refine x_iconst (nI 4) dX6_tickUnanswered_10 (by decide) ?_
    refine x_icmp_geN 107 dX6_tickUnanswered_11 (by decide) (by omega) (by omega) (fun c11 => ?_) (fun c11 => ?_)
    · skip
      exact absurd c11 (by omega)
    · skip
      refine x_aload_n dX6_tickUnanswered_14 rfl rfl ?_
      refine x_iload_n dX6_tickUnanswered_15 rfl rfl ?_
      refine x_callVd0 (mt' := mX6_isTalking) (sp_X6_isTalking hM (by omega)) kvX6_isTalking wl_X6_47 (by decide) dX6_tickUnanswered_16 xk_131 (by decide) rfl rfl (Nat.le_of_ble_eq_true rfl) ⟨rfl, rfl⟩ (by decide) ?_
      refine x_eqtop (y := bi (tk Z k)) (congrArg bi (tk_row (pUn_ge (Nat.le_refl k)))) ?_
      refine x_if_eq 101 dX6_tickUnanswered_19 (by decide) (fun c19 => ?_) (fun c19 => ?_)
      · skip
        have hL : tk Z k = false := bi_0.mp c19
        refine x_iincN 1 dX6_tickUnanswered_101 rfl (by decide) (by decide) ?_
        refine x_goto 9 dX6_tickUnanswered_104 (by decide) ?_
        exact x_eqI (by rw [← pUn_no hL]) (ih (k + 1) (by omega) hx)
      · skip
        have hL : tk Z k = true := bi_nt c19
        refine x_aload_n dX6_tickUnanswered_22 rfl rfl ?_
        refine x_getR fl_X6_7 dX6_tickUnanswered_23 xk_131 (by decide) rfl (hM 0 _ rfl) ?_
        refine x_iload_n dX6_tickUnanswered_26 rfl rfl ?_
        refine x_iconst (nI 1) dX6_tickUnanswered_27 (by decide) ?_
        refine x_callSd0 (mt' := mX6_of) (sp_X6_of _ _) ktX6_of wl_X6_33 (by decide) dX6_tickUnanswered_28 rfl rfl (Nat.le_of_ble_eq_true rfl) ⟨rfl, rfl⟩ (by decide) ?_
        refine x_iconst (nI 0) dX6_tickUnanswered_31 (by decide) ?_
        refine x_stS dX6_tickUnanswered_32 (by omega) (zf_usp (by omega) (by omega)) ?_
        refine x_aload_n dX6_tickUnanswered_33 rfl rfl ?_
        refine x_getR fl_X6_7 dX6_tickUnanswered_34 xk_131 (by decide) rfl (hM 0 _ rfl) ?_
        refine x_iload_n dX6_tickUnanswered_37 rfl rfl ?_
        refine x_iconst (nI 4) dX6_tickUnanswered_38 (by decide) ?_
        refine x_callSd0 (mt' := mX6_of) (sp_X6_of _ _) ktX6_of wl_X6_33 (by decide) dX6_tickUnanswered_39 rfl rfl (Nat.le_of_ble_eq_true rfl) ⟨rfl, rfl⟩ (by decide) ?_
        refine x_dup2 dX6_tickUnanswered_42 rfl rfl ?_
        refine x_ldS dX6_tickUnanswered_43 (by omega) (zf_sp (by omega) (by omega)) ?_
        refine x_eqtop (y := Z k 4) (by simp [xuI, pUn_ge (Nat.le_refl k)]) ?_
        refine x_iconst (nI 1) dX6_tickUnanswered_44 (by decide) ?_
        refine x_iadd dX6_tickUnanswered_45 ?_
        refine x_stS dX6_tickUnanswered_46 (by omega) (zf_usp (by omega) (by omega)) ?_
        refine x_aload_n dX6_tickUnanswered_47 rfl rfl ?_
        refine x_getR fl_X6_7 dX6_tickUnanswered_48 xk_131 (by decide) rfl (hM 0 _ rfl) ?_
        refine x_iload_n dX6_tickUnanswered_51 rfl rfl ?_
        refine x_bipush (nI 6) dX6_tickUnanswered_52 (by decide) ?_
        refine x_callSd0 (mt' := mX6_of) (sp_X6_of _ _) ktX6_of wl_X6_33 (by decide) dX6_tickUnanswered_54 rfl rfl (Nat.le_of_ble_eq_true rfl) ⟨rfl, rfl⟩ (by decide) ?_
        refine x_dup2 dX6_tickUnanswered_57 rfl rfl ?_
        refine x_ldS dX6_tickUnanswered_58 (by omega) (zf_sp (by omega) (by omega)) ?_
        refine x_eqtop (y := Z k 6) (by simp [xuI, pUn_ge (Nat.le_refl k)]) ?_
        refine x_iconst (nI 1) dX6_tickUnanswered_59 (by decide) ?_
        refine x_iadd dX6_tickUnanswered_60 ?_
        refine x_stS dX6_tickUnanswered_61 (by omega) (zf_usp (by omega) (by omega)) ?_
        refine x_aload_n dX6_tickUnanswered_62 rfl rfl ?_
        refine x_getR fl_X6_7 dX6_tickUnanswered_63 xk_131 (by decide) rfl (hM 0 _ rfl) ?_
        refine x_iload_n dX6_tickUnanswered_66 rfl rfl ?_
        refine x_bipush (nI 6) dX6_tickUnanswered_67 (by decide) ?_
        refine x_callSd0 (mt' := mX6_of) (sp_X6_of _ _) ktX6_of wl_X6_33 (by decide) dX6_tickUnanswered_69 rfl rfl (Nat.le_of_ble_eq_true rfl) ⟨rfl, rfl⟩ (by decide) ?_
        refine x_ldS dX6_tickUnanswered_72 (by omega) (zf_sp (by omega) (by omega)) ?_
        refine x_eqtop (y := Z k 6 + nI 1) (by simp [xuI]) ?_
        refine x_aload_n dX6_tickUnanswered_73 rfl rfl ?_
        refine x_getR fl_X6_7 dX6_tickUnanswered_74 xk_131 (by decide) rfl (hM 0 _ rfl) ?_
        refine x_iconst (nI 1) dX6_tickUnanswered_77 (by decide) ?_
        refine x_ldS dX6_tickUnanswered_78 (by omega) (zf_se (by omega)) ?_
        refine x_eqtop (y := Z 8 1) (by rw [xuI_at (by omega), xuI_at (by omega), xuI_at (by omega), pUn_ge (by omega)]) ?_
        refine x_icmp_lt 101 dX6_tickUnanswered_79 (by decide) (fun c79 => ?_) (fun c79 => ?_)
        · skip
          refine x_iincN 1 dX6_tickUnanswered_101 rfl (by decide) (by decide) ?_
          refine x_goto 9 dX6_tickUnanswered_104 (by decide) ?_
          exact x_eqI (by rw [pUn_a hL c79]) (ih (k + 1) (by omega) hx)
        · skip
          obtain ⟨m1, hm4, hm⟩ := hln k (by omega) hL
          refine x_aload_n dX6_tickUnanswered_82 rfl rfl ?_
          refine x_getR fl_X6_7 dX6_tickUnanswered_83 xk_131 (by decide) rfl (hM 0 _ rfl) ?_
          refine x_iload_n dX6_tickUnanswered_86 rfl rfl ?_
          refine x_iconst (nI 5) dX6_tickUnanswered_87 (by decide) ?_
          refine x_callSd0 (mt' := mX6_of) (sp_X6_of _ _) ktX6_of wl_X6_33 (by decide) dX6_tickUnanswered_88 rfl rfl (Nat.le_of_ble_eq_true rfl) ⟨rfl, rfl⟩ (by decide) ?_
          refine x_dup2 dX6_tickUnanswered_91 rfl rfl ?_
          refine x_ldS dX6_tickUnanswered_92 (by omega) (zf_sp (by omega) (by omega)) ?_
          refine x_eqtop (y := Z k 5) (by simp [xuI, pUn_ge (Nat.le_refl k)]) ?_
          refine x_iconst (nI 1) dX6_tickUnanswered_93 (by decide) ?_
          refine x_iadd dX6_tickUnanswered_94 ?_
          refine x_stS dX6_tickUnanswered_95 (by omega) (zf_usp (by omega) (by omega)) ?_
          refine x_aload_n dX6_tickUnanswered_96 rfl rfl ?_
          refine x_iload_n dX6_tickUnanswered_97 rfl rfl ?_
          refine x_callVd0 (mt' := mX6_dropFirst) (sp_X6_dropFirst (m0 := m1) hM (by omega) hm4 (by simp [xuI, pUn_ge (Nat.le_refl k), hm])) kvX6_dropFirst wl_X6_81 (by decide) dX6_tickUnanswered_98 xk_131 (by decide) rfl rfl (Nat.le_of_ble_eq_true rfl) ⟨rfl, rfl⟩ (by decide) ?_
          refine x_iincN 1 dX6_tickUnanswered_101 rfl (by decide) (by decide) ?_
          refine x_goto 9 dX6_tickUnanswered_104 (by decide) ?_
          exact x_eqI (by rw [pUn_b hL hm hm4 c79]) (ih (k + 1) (by omega) hx)
theorem lp_X6_tickFree (hM : Md R) {g : GX} {cx : CX} {F : State → Prop} : ∀ (m k : Nat), k + m = 4 → X g cx mX6_tickFree F (0, 0) 75 [some (.ref 131), some (.int (nI 4))] [] 137 (MM I φ (pFr Z 4) α β κ τ) R → X g cx mX6_tickFree F (0, 0) 36 [some (.ref 131), some (.int (nI k))] [] 137 (MM I φ (pFr Z k) α β κ τ) R := by
  intro m
  induction m with
  | zero =>
    intro k hk hx
    obtain rfl : k = 4 := by omega
    refine x_iload_n dX6_tickFree_36 rfl rfl ?_
    refine x_iconst (nI 4) dX6_tickFree_37 (by decide) ?_
    refine x_icmp_geN 75 dX6_tickFree_38 (by decide) (by omega) (by omega) (fun c38 => ?_) (fun c38 => ?_)
    · skip
      exact hx
    · skip
      exact absurd c38 (by omega)
  | succ m ih =>
    intro k hk hx
    refine x_iload_n dX6_tickFree_36 rfl rfl ?_
    refine x_iconst (nI 4) dX6_tickFree_37 (by decide) ?_
    refine x_icmp_geN 75 dX6_tickFree_38 (by decide) (by omega) (by omega) (fun c38 => ?_) (fun c38 => ?_)
    · skip
      exact absurd c38 (by omega)
    · skip
      refine x_aload_n dX6_tickFree_41 rfl rfl ?_
      refine x_getR fl_X6_7 dX6_tickFree_42 xk_131 (by decide) rfl (hM 0 _ rfl) ?_
      refine x_iload_n dX6_tickFree_45 rfl rfl ?_
      refine x_iconst (nI 1) dX6_tickFree_46 (by decide) ?_
      refine x_callSd0 (mt' := mX6_of) (sp_X6_of _ _) ktX6_of wl_X6_33 (by decide) dX6_tickFree_47 rfl rfl (Nat.le_of_ble_eq_true rfl) ⟨rfl, rfl⟩ (by decide) ?_
      refine x_aload_n dX6_tickFree_50 rfl rfl ?_
      refine x_getR fl_X6_7 dX6_tickFree_51 xk_131 (by decide) rfl (hM 0 _ rfl) ?_
      refine x_iload_n dX6_tickFree_54 rfl rfl ?_
      refine x_iconst (nI 0) dX6_tickFree_55 (by decide) ?_
      refine x_callSd0 (mt' := mX6_of) (sp_X6_of _ _) ktX6_of wl_X6_33 (by decide) dX6_tickFree_56 rfl rfl (Nat.le_of_ble_eq_true rfl) ⟨rfl, rfl⟩ (by decide) ?_
      refine x_ldS dX6_tickFree_59 (by omega) (zf_sp (by omega) (by omega)) ?_
      refine x_eqtop (y := Z k 0) (by rw [pFr_ge (Nat.le_refl k)]) ?_
      refine' x_dia_if_le 67 68 dX6_tickFree_60 (by decide) ?_ ?_ ?_; rotate_left 2
      · intro c60 k60
        refine x_iconst (nI 1) dX6_tickFree_63 (by decide) ?_
        refine x_goto 68 dX6_tickFree_64 (by decide) ?_
        exact k60
      · intro c60 k60
        refine x_iconst (nI 0) dX6_tickFree_67 (by decide) ?_
        exact k60
      refine x_stS dX6_tickFree_68 (by omega) (zf_usp (by omega) (by omega)) ?_
      refine x_eqI (I' := MM I φ (pFr Z (k + 1)) α β κ τ) (by rw [pFr_step]) ?_
      refine x_iincN 1 dX6_tickFree_69 rfl (by decide) (by decide) ?_
      refine x_goto 36 dX6_tickFree_72 (by decide) ?_
      exact ih (k + 1) (by omega) hx
theorem sp_X6_tickUnanswered (hM : Md R) {p L : Nat} (hL : L ≤ 64) (hz10 : Z 8 10 = nI L) (hln : Lns Z) : Spd mX6_tickUnanswered [.ref 131] (MM I φ Z α β κ τ) R none (MM I φ (pUa Z L p) α β κ τ) := by
  refine Spd.mk (by decide +kernel) (by simp [Value.category]) (Nat.le_of_ble_eq_true rfl) (fun g cx => ?_)
  have hr : ∀ k, k < 4 → pLog Z L (nI 1) (nI 1) (nI 0) k = Z k := fun k hk => pLog_row (by omega)
  refine x_aload_n dX6_tickUnanswered_0 rfl rfl ?_
  refine x_iconst (nI 1) dX6_tickUnanswered_1 (by decide) ?_
  refine x_iconst (nI 1) dX6_tickUnanswered_2 (by decide) ?_
  refine x_iconst (nI 0) dX6_tickUnanswered_3 (by decide) ?_
  refine x_callVd0 (mt' := mX6_logs) (sp_X6_logs hM hL hz10) kvX6_logs wl_X6_67 (by decide) dX6_tickUnanswered_4 xk_131 (by decide) rfl rfl (Nat.le_of_ble_eq_true rfl) ⟨rfl, rfl⟩ (by decide) ?_
  refine x_iconst (nI 0) dX6_tickUnanswered_7 (by decide) ?_
  refine x_istore_n dX6_tickUnanswered_8 rfl (by decide) ?_
  have hE : pUa Z L p = pEn (pUn (pLog Z L (nI 1) (nI 1) (nI 0)) 4) := rfl
  rw [hE]
  generalize hY : pLog Z L (nI 1) (nI 1) (nI 0) = Y at hr
  refine x_eqI (I' := MM I φ (pUn Y 0) α β κ τ) (by rw [pUn_0]) ?_
  refine lp_X6_tickUnanswered hM (Lns_row hr hln) 4 0 rfl ?_
  refine x_aload_n dX6_tickUnanswered_107 rfl rfl ?_
  refine x_callVd0 (mt' := mX6_endsIfEmpty) (sp_X6_endsIfEmpty hM) kvX6_endsIfEmpty wl_X6_64 (by decide) dX6_tickUnanswered_108 xk_131 (by decide) rfl rfl (Nat.le_of_ble_eq_true rfl) ⟨rfl, rfl⟩ (by decide) ?_
  refine x_vret dX6_tickUnanswered_111 rfl (by decide) (by decide) ?_
  exact ⟨rfl, rfl, rfl, rfl⟩
theorem sp_X6_tickFree (hM : Md R) : Spd mX6_tickFree [.ref 131] (MM I φ Z α β κ τ) R none (MM I φ (pTf Z) α β κ τ) := by
  refine Spd.mk (by decide +kernel) (by simp [Value.category]) (Nat.le_of_ble_eq_true rfl) (fun g cx => ?_)
  refine x_aload_n dX6_tickFree_0 rfl rfl ?_
  refine x_getR fl_X6_7 dX6_tickFree_1 xk_131 (by decide) rfl (hM 0 _ rfl) ?_
  refine x_bipush (nI 113) dX6_tickFree_4 (by decide) ?_
  refine x_dup2 dX6_tickFree_6 rfl rfl ?_
  refine x_ldS dX6_tickFree_7 (by omega) zf_113 ?_
  refine x_iconst (nI 1) dX6_tickFree_8 (by decide) ?_
  refine x_iadd dX6_tickFree_9 ?_
  refine x_stS dX6_tickFree_10 (by omega) zf_u113 ?_
  refine x_aload_n dX6_tickFree_11 rfl rfl ?_
  refine x_getR fl_X6_7 dX6_tickFree_12 xk_131 (by decide) rfl (hM 0 _ rfl) ?_
  refine x_bipush (nI 113) dX6_tickFree_15 (by decide) ?_
  refine x_ldS dX6_tickFree_17 (by omega) zf_113 ?_
  refine x_eqtop (y := Z 8 5 + nI 1) (by rw [xuI_self]) ?_
  refine x_aload_n dX6_tickFree_18 rfl rfl ?_
  refine x_getR fl_X6_7 dX6_tickFree_19 xk_131 (by decide) rfl (hM 0 _ rfl) ?_
  refine x_iconst (nI 0) dX6_tickFree_22 (by decide) ?_
  refine x_ldS dX6_tickFree_23 (by omega) (zf_se (by omega)) ?_
  refine x_eqtop (y := Z 8 0) (by simp [xuI]) ?_
  refine x_icmp_lt 102 dX6_tickFree_24 (by decide) (fun c24 => ?_) (fun c24 => ?_)
  · skip
    have e : pTf Z = xuI Z 8 5 (Z 8 5 + nI 1) := by unfold pTf; rw [if_pos c24]
    refine x_vret dX6_tickFree_102 rfl (by decide) (by decide) ?_
    exact ⟨rfl, rfl, by rw [e], rfl⟩
  · skip
    refine x_aload_n dX6_tickFree_27 rfl rfl ?_
    refine x_callVd0 (mt' := mX6_messages) (sp_X6_messages hM) kvX6_messages wl_X6_85 (by decide) dX6_tickFree_28 xk_131 (by decide) rfl rfl (Nat.le_of_ble_eq_true rfl) ⟨rfl, rfl⟩ (by decide) ?_
    refine x_eqtop (y := sm (fun j => Z j 0) 4) (sm_congr (fun j hj => by rw [xuI_at (by omega)])) ?_
    refine x_if_le 102 dX6_tickFree_31 (by decide) (fun c31 => ?_) (fun c31 => ?_)
    · skip
      have e : pTf Z = xuI Z 8 5 (Z 8 5 + nI 1) := by unfold pTf; rw [if_neg c24, if_pos c31]
      refine x_vret dX6_tickFree_102 rfl (by decide) (by decide) ?_
      exact ⟨rfl, rfl, by rw [e], rfl⟩
    · skip
      have e : pTf Z = xuI (xuI (xuI (pFr (xuI Z 8 5 (Z 8 5 + nI 1)) 4) 8 5 (nI 0)) 8 7 (nI 0)) 8 8 (Z 8 8 + nI 1) := by unfold pTf; rw [if_neg c24, if_neg c31]
      refine x_iconst (nI 0) dX6_tickFree_34 (by decide) ?_
      refine x_istore_n dX6_tickFree_35 rfl (by decide) ?_
      refine x_eqI (I' := MM I φ (pFr (xuI Z 8 5 (Z 8 5 + nI 1)) 0) α β κ τ) (by rw [pFr_0]) ?_
      refine lp_X6_tickFree hM 4 0 rfl ?_
      refine x_aload_n dX6_tickFree_75 rfl rfl ?_
      refine x_getR fl_X6_7 dX6_tickFree_76 xk_131 (by decide) rfl (hM 0 _ rfl) ?_
      refine x_bipush (nI 113) dX6_tickFree_79 (by decide) ?_
      refine x_iconst (nI 0) dX6_tickFree_81 (by decide) ?_
      refine x_stS dX6_tickFree_82 (by omega) zf_u113 ?_
      refine x_aload_n dX6_tickFree_83 rfl rfl ?_
      refine x_getR fl_X6_7 dX6_tickFree_84 xk_131 (by decide) rfl (hM 0 _ rfl) ?_
      refine x_bipush (nI 115) dX6_tickFree_87 (by decide) ?_
      refine x_iconst (nI 0) dX6_tickFree_89 (by decide) ?_
      refine x_stS dX6_tickFree_90 (by omega) zf_u115 ?_
      refine x_aload_n dX6_tickFree_91 rfl rfl ?_
      refine x_getR fl_X6_7 dX6_tickFree_92 xk_131 (by decide) rfl (hM 0 _ rfl) ?_
      refine x_bipush (nI 116) dX6_tickFree_95 (by decide) ?_
      refine x_dup2 dX6_tickFree_97 rfl rfl ?_
      refine x_ldS dX6_tickFree_98 (by omega) zf_116 ?_
      refine x_eqtop (y := Z 8 8) (by simp [xuI, pFr_ge]) ?_
      refine x_iconst (nI 1) dX6_tickFree_99 (by decide) ?_
      refine x_iadd dX6_tickFree_100 ?_
      refine x_stS dX6_tickFree_101 (by omega) zf_u116 ?_
      refine x_vret dX6_tickFree_102 rfl (by decide) (by decide) ?_
      exact ⟨rfl, rfl, by rw [e], rfl⟩
end ML
