
/-! THE REFERENCE'S MEMORY: object 131, its arrays 132 .. 136. The row of numbers is told by Z: Z k w, k < 4: speaker k; Z (4 + k) w: listener k; Z 8: settings, clock and the like; Z 9: the log. -/
def zf (Z : MI) (i : Nat) : Int32 := if i < 4 then Z 8 i else if i < 92 then Z ((i - 4) / 22) ((i - 4) % 22) else if i < 112 then Z (4 + (i - 92) / 5) ((i - 92) % 5) else if i < 119 then Z 8 (i - 108) else Z 9 (i - 119)
theorem zf_sp {Z : MI} {k w : Nat} (hk : k < 4) (hw : w < 22) : zf Z (4 + 22 * k + w) = Z k w := by
  unfold zf
  rw [if_neg (by omega), if_pos (by omega)]
  have h1 : (4 + 22 * k + w - 4) / 22 = k := by omega
  have h2 : (4 + 22 * k + w - 4) % 22 = w := by omega
  rw [h1, h2]
theorem zf_li {Z : MI} {k w : Nat} (hk : k < 4) (hw : w < 5) : zf Z (92 + 5 * k + w) = Z (4 + k) w := by
  unfold zf
  rw [if_neg (by omega), if_neg (by omega), if_pos (by omega)]
  have h1 : (92 + 5 * k + w - 92) / 5 = k := by omega
  have h2 : (92 + 5 * k + w - 92) % 5 = w := by omega
  rw [h1, h2]
theorem zf_lg {Z : MI} {j : Nat} : zf Z (119 + j) = Z 9 j := by
  unfold zf
  rw [if_neg (by omega), if_neg (by omega), if_neg (by omega), if_neg (by omega)]
  have h1 : 119 + j - 119 = j := by omega
  rw [h1]
theorem zf_se {Z : MI} {j : Nat} (h : j < 4) : zf Z j = Z 8 j := by unfold zf; rw [if_pos h]
theorem zf_sc {Z : MI} {i : Nat} (h1 : 112 ≤ i) (h2 : i < 119) : zf Z i = Z 8 (i - 108) := by
  unfold zf
  rw [if_neg (by omega), if_neg (by omega), if_neg (by omega), if_pos h2]
theorem zf_3 {Z : MI} : zf Z 3 = Z 8 3 := zf_se (by omega)
theorem zf_112 {Z : MI} : zf Z 112 = Z 8 4 := zf_sc (by omega) (by omega)
theorem zf_113 {Z : MI} : zf Z 113 = Z 8 5 := zf_sc (by omega) (by omega)
theorem zf_114 {Z : MI} : zf Z 114 = Z 8 6 := zf_sc (by omega) (by omega)
theorem zf_115 {Z : MI} : zf Z 115 = Z 8 7 := zf_sc (by omega) (by omega)
theorem zf_116 {Z : MI} : zf Z 116 = Z 8 8 := zf_sc (by omega) (by omega)
theorem zf_117 {Z : MI} : zf Z 117 = Z 8 9 := zf_sc (by omega) (by omega)
theorem zf_118 {Z : MI} : zf Z 118 = Z 8 10 := zf_sc (by omega) (by omega)
theorem xuI_at {Z : MI} {k w a b : Nat} {v : Int32} (h : ¬ (a = k ∧ b = w)) : xuI Z k w v a b = Z a b := by simp only [xuI, if_neg h]
theorem zf_set {Z : MI} {j k w : Nat} {v : Int32} (hj : zf (xuI Z k w v) j = v) (ho : ∀ i, i ≠ j → zf (xuI Z k w v) i = zf Z i) : upd (zf Z) j v = zf (xuI Z k w v) := by
  funext i
  by_cases hi : i = j
  · subst hi; simp [upd, hj]
  · simp [upd, hi, ho i hi]
theorem zf_usp {Z : MI} {k w : Nat} {v : Int32} (hk : k < 4) (hw : w < 22) : upd (zf Z) (4 + 22 * k + w) v = zf (xuI Z k w v) := by
  refine zf_set (by rw [zf_sp hk hw]; simp [xuI]) (fun i hi => ?_)
  unfold zf
  split
  · exact xuI_at (by omega)
  split
  · exact xuI_at (by omega)
  split
  · exact xuI_at (by omega)
  split
  · exact xuI_at (by omega)
  · exact xuI_at (by omega)
theorem zf_uli {Z : MI} {k w : Nat} {v : Int32} (hk : k < 4) (hw : w < 5) : upd (zf Z) (92 + 5 * k + w) v = zf (xuI Z (4 + k) w v) := by
  refine zf_set (by rw [zf_li hk hw]; simp [xuI]) (fun i hi => ?_)
  unfold zf
  split
  · exact xuI_at (by omega)
  split
  · exact xuI_at (by omega)
  split
  · exact xuI_at (by omega)
  split
  · exact xuI_at (by omega)
  · exact xuI_at (by omega)
theorem zf_ulg {Z : MI} {j : Nat} {v : Int32} : upd (zf Z) (119 + j) v = zf (xuI Z 9 j v) := by
  refine zf_set (by rw [zf_lg]; simp [xuI]) (fun i hi => ?_)
  unfold zf
  split
  · exact xuI_at (by omega)
  split
  · exact xuI_at (by omega)
  split
  · exact xuI_at (by omega)
  split
  · exact xuI_at (by omega)
  · exact xuI_at (by omega)
theorem zf_use {Z : MI} {j : Nat} {v : Int32} (h : j < 4) : upd (zf Z) j v = zf (xuI Z 8 j v) := by
  refine zf_set (by rw [zf_se h]; simp [xuI]) (fun i hi => ?_)
  unfold zf
  split
  · exact xuI_at (by omega)
  split
  · exact xuI_at (by omega)
  split
  · exact xuI_at (by omega)
  split
  · exact xuI_at (by omega)
  · exact xuI_at (by omega)
theorem zf_usc {Z : MI} {j : Nat} {v : Int32} (h1 : 112 ≤ j) (h2 : j < 119) : upd (zf Z) j v = zf (xuI Z 8 (j - 108) v) := by
  refine zf_set (by rw [zf_sc h1 h2]; simp [xuI]) (fun i hi => ?_)
  unfold zf
  split
  · exact xuI_at (by omega)
  split
  · exact xuI_at (by omega)
  split
  · exact xuI_at (by omega)
  split
  · exact xuI_at (by omega)
  · exact xuI_at (by omega)
theorem zf_u3 {Z : MI} {v : Int32} : upd (zf Z) 3 v = zf (xuI Z 8 3 v) := zf_use (by omega)
theorem zf_u112 {Z : MI} {v : Int32} : upd (zf Z) 112 v = zf (xuI Z 8 4 v) := zf_usc (by omega) (by omega)
theorem zf_u113 {Z : MI} {v : Int32} : upd (zf Z) 113 v = zf (xuI Z 8 5 v) := zf_usc (by omega) (by omega)
theorem zf_u114 {Z : MI} {v : Int32} : upd (zf Z) 114 v = zf (xuI Z 8 6 v) := zf_usc (by omega) (by omega)
theorem zf_u115 {Z : MI} {v : Int32} : upd (zf Z) 115 v = zf (xuI Z 8 7 v) := zf_usc (by omega) (by omega)
theorem zf_u116 {Z : MI} {v : Int32} : upd (zf Z) 116 v = zf (xuI Z 8 8 v) := zf_usc (by omega) (by omega)
theorem zf_u117 {Z : MI} {v : Int32} : upd (zf Z) 117 v = zf (xuI Z 8 9 v) := zf_usc (by omega) (by omega)
theorem zf_u118 {Z : MI} {v : Int32} : upd (zf Z) 118 v = zf (xuI Z 8 10 v) := zf_usc (by omega) (by omega)
/-- any row is told so -/
def uz (f : Nat → Int32) : MI := fun k w => if k < 4 then f (4 + 22 * k + w) else if k < 8 then f (92 + 5 * (k - 4) + w) else if k = 8 then (if w < 4 then f w else f (108 + w)) else f (119 + w)
theorem zf_uz (f : Nat → Int32) : zf (uz f) = f := by
  funext i
  unfold zf
  split
  · rename_i h; simp only [uz]; rw [if_neg (by omega), if_neg (by omega), if_pos trivial, if_pos h]
  split
  · simp only [uz]; rw [if_pos (by omega)]; congr 1; omega
  split
  · simp only [uz]; rw [if_neg (by omega), if_pos (by omega)]; congr 1; omega
  split
  · simp only [uz]; rw [if_neg (by omega), if_neg (by omega), if_pos trivial, if_neg (by omega)]; congr 1; omega
  · simp only [uz]; rw [if_neg (by omega), if_neg (by omega), if_neg (by omega)]; congr 1; omega
def MM (I : MI) (φ : Nat → Int32) (Z : MI) (α β κ τ : Nat → Int32) : MI := fun a => if a = 131 then φ else if a = 132 then zf Z else if a = 133 then α else if a = 134 then β else if a = 135 then κ else if a = 136 then τ else I a
section MMR
variable {I : MI} {φ α β κ τ : Nat → Int32} {Z : MI}
theorem MM_131 : MM I φ Z α β κ τ 131 = φ := rfl
theorem MM_132 : MM I φ Z α β κ τ 132 = zf Z := rfl
theorem MM_133 : MM I φ Z α β κ τ 133 = α := rfl
theorem MM_134 : MM I φ Z α β κ τ 134 = β := rfl
theorem MM_135 : MM I φ Z α β κ τ 135 = κ := rfl
theorem MM_136 : MM I φ Z α β κ τ 136 = τ := rfl
theorem MM_u131 {k : Nat} {v : Int32} : xuI (MM I φ Z α β κ τ) 131 k v = MM I (upd φ k v) Z α β κ τ := by
  funext a b
  by_cases h : a = 131
  · subst h; simp [xuI, MM, upd]
  · simp [xuI, MM, h]
theorem MM_u132 {k : Nat} {v : Int32} {Z' : MI} (h : upd (zf Z) k v = zf Z') : xuI (MM I φ Z α β κ τ) 132 k v = MM I φ Z' α β κ τ := by
  funext a b
  by_cases ha : a = 132
  · subst ha
    have := congrFun h b
    simp only [upd] at this
    simp [xuI, MM, this]
  · simp [xuI, MM, ha]
theorem MM_u133 {k : Nat} {v : Int32} : xuI (MM I φ Z α β κ τ) 133 k v = MM I φ Z (upd α k v) β κ τ := by
  funext a b
  by_cases h : a = 133
  · subst h; simp [xuI, MM, upd]
  · simp [xuI, MM, h]
theorem MM_u134 {k : Nat} {v : Int32} : xuI (MM I φ Z α β κ τ) 134 k v = MM I φ Z α (upd β k v) κ τ := by
  funext a b
  by_cases h : a = 134
  · subst h; simp [xuI, MM, upd]
  · simp [xuI, MM, h]
theorem MM_u135 {k : Nat} {v : Int32} : xuI (MM I φ Z α β κ τ) 135 k v = MM I φ Z α β (upd κ k v) τ := by
  funext a b
  by_cases h : a = 135
  · subst h; simp [xuI, MM, upd]
  · simp [xuI, MM, h]
theorem MM_u136 {k : Nat} {v : Int32} : xuI (MM I φ Z α β κ τ) 136 k v = MM I φ Z α β κ (upd τ k v) := by
  funext a b
  by_cases h : a = 136
  · subst h; simp [xuI, MM, upd]
  · simp [xuI, MM, h]
end MMR
def mdR : Nat → Option Nat
  | 0 => some 132
  | 1 => some 133
  | 2 => some 134
  | 4 => some 135
  | 6 => some 136
  | _ => none
def Md (R : MR) : Prop := ∀ k j, mdR k = some j → R 131 k = some j
/-- 1 or 0 -/
def bi (b : Bool) : Int32 := if b = true then 1 else 0
theorem bi_T : bi true = 1 := rfl
theorem bi_F : bi false = 0 := rfl
theorem bi_0 {b : Bool} : bi b = 0 ↔ b = false := by cases b <;> decide
theorem bi_n (b : Bool) : narrow .boolean (.int (bi b)) = .int (bi b) := by cases b <;> rfl
theorem bi_f (b : Bool) : fits .boolean (.int (bi b)) = true := by cases b <;> rfl
theorem bi_ite {c : Prop} (h : Decidable c) : (@ite Int32 c h 1 0) = bi (decide c) := by by_cases hc : c <;> simp [bi, hc]
theorem bi_add {n : Nat} {b : Bool} : nI n + (if bi b = 0 then nI 0 else nI 1) = nI (n + if b = true then 1 else 0) := by
  cases b
  · rw [if_pos bi_F, nI_add]; rfl
  · rw [if_neg (by decide), nI_add]; rfl
section MX
variable {g : GX} {cx : CX} {mt : MT} {F : State → Prop} {cs : Nat × Nat} {pc : Nat} {ls : List (Option Value)} {st : List Value} {I : MI} {R : MR} {Q : XQ} {φ α β κ τ : Nat → Int32} {Z : MI}
end MX
