/-! THE REFERENCE'S MEMORY: object 131, its arrays 132 .. 136. The row of numbers is told by Z: Z k w, k < 4: speaker k; Z (4 + k) w: listener k; Z 8: settings, clock and the like; Z 9: the log. -/
def zf (Z : MI) (i : Nat) : Int32 := if i < 4 then Z 8 i else if i < 92 then Z ((i - 4) / 22) ((i - 4) % 22) else if i < 112 then Z (4 + (i - 92) / 5) ((i - 92) % 5) else if i < 119 then Z 8 (i - 108) else Z 9 (i - 119)
theorem zf_sp {Z : MI} {k w : Nat} (hk : k < 4) (hw : w < 22) : zf Z (4 + 22 * k + w) = Z k w := by
  unfold zf
  rw [if_neg (by omega), if_pos (by omega)]
  have h1 : (4 + 22 * k + w - 4) / 22 = k := by omega
  have h2 : (4 + 22 * k + w - 4) % 22 = w := by omega
  rw [h1, h2]
theorem zf_li {Z : MI} {k w : Nat} (hk : k < 4) (hw : w < 5) : zf Z (92 + 5 * k + w) = Z (4 + k) w := by
  unfold zf
  rw [if_neg (by omega), if_neg (by omega), if_pos (by omega)]
  have h1 : (92 + 5 * k + w - 92) / 5 = k := by omega
  have h2 : (92 + 5 * k + w - 92) % 5 = w := by omega
  rw [h1, h2]
theorem zf_lg {Z : MI} {j : Nat} : zf Z (119 + j) = Z 9 j := by
  unfold zf
  rw [if_neg (by omega), if_neg (by omega), if_neg (by omega), if_neg (by omega)]
  have h1 : 119 + j - 119 = j := by omega
  rw [h1]
theorem zf_se {Z : MI} {j : Nat} (h : j < 4) : zf Z j = Z 8 j := by unfold zf; rw [if_pos h]
theorem zf_sc {Z : MI} {i : Nat} (h1 : 112 ≤ i) (h2 : i < 119) : zf Z i = Z 8 (i - 108) := by
  unfold zf
  rw [if_neg (by omega), if_neg (by omega), if_neg (by omega), if_pos h2]
theorem zf_3 {Z : MI} : zf Z 3 = Z 8 3 := zf_se (by omega)
theorem zf_112 {Z : MI} : zf Z 112 = Z 8 4 := zf_sc (by omega) (by omega)
theorem zf_113 {Z : MI} : zf Z 113 = Z 8 5 := zf_sc (by omega) (by omega)
theorem zf_114 {Z : MI} : zf Z 114 = Z 8 6 := zf_sc (by omega) (by omega)
theorem zf_115 {Z : MI} : zf Z 115 = Z 8 7 := zf_sc (by omega) (by omega)
theorem zf_116 {Z : MI} : zf Z 116 = Z 8 8 := zf_sc (by omega) (by omega)
theorem zf_117 {Z : MI} : zf Z 117 = Z 8 9 := zf_sc (by omega) (by omega)
theorem zf_118 {Z : MI} : zf Z 118 = Z 8 10 := zf_sc (by omega) (by omega)
theorem xuI_at {Z : MI} {k w a b : Nat} {v : Int32} (h : ¬ (a = k ∧ b = w)) : xuI Z k w v a b = Z a b := by simp only [xuI, if_neg h]
theorem zf_set {Z : MI} {j k w : Nat} {v : Int32} (hj : zf (xuI Z k w v) j = v) (ho : ∀ i, i ≠ j → zf (xuI Z k w v) i = zf Z i) : upd (zf Z) j v = zf (xuI Z k w v) := by
  funext i
  by_cases hi : i = j
  · subst hi; simp [upd, hj]
  · simp [upd, hi, ho i hi]
theorem zf_usp {Z : MI} {k w : Nat} {v : Int32} (hk : k < 4) (hw : w < 22) : upd (zf Z) (4 + 22 * k + w) v = zf (xuI Z k w v) := by
  refine zf_set (by rw [zf_sp hk hw]; simp [xuI]) (fun i hi => ?_)
  unfold zf
  split
  · exact xuI_at (by omega)
  split
  · exact xuI_at (by omega)
  split
  · exact xuI_at (by omega)
  split
  · exact xuI_at (by omega)
  · exact xuI_at (by omega)
theorem zf_uli {Z : MI} {k w : Nat} {v : Int32} (hk : k < 4) (hw : w < 5) : upd (zf Z) (92 + 5 * k + w) v = zf (xuI Z (4 + k) w v) := by
  refine zf_set (by rw [zf_li hk hw]; simp [xuI]) (fun i hi => ?_)
  unfold zf
  split
  · exact xuI_at (by omega)
  split
  · exact xuI_at (by omega)
  split
  · exact xuI_at (by omega)
  split
  · exact xuI_at (by omega)
  · exact xuI_at (by omega)
theorem zf_ulg {Z : MI} {j : Nat} {v : Int32} : upd (zf Z) (119 + j) v = zf (xuI Z 9 j v) := by
  refine zf_set (by rw [zf_lg]; simp [xuI]) (fun i hi => ?_)
  unfold zf
  split
  · exact xuI_at (by omega)
  split
  · exact xuI_at (by omega)
  split
  · exact xuI_at (by omega)
  split
  · exact xuI_at (by omega)
  · exact xuI_at (by omega)
theorem zf_use {Z : MI} {j : Nat} {v : Int32} (h : j < 4) : upd (zf Z) j v = zf (xuI Z 8 j v) := by
  refine zf_set (by rw [zf_se h]; simp [xuI]) (fun i hi => ?_)
  unfold zf
  split
  · exact xuI_at (by omega)
  split
  · exact xuI_at (by omega)
  split
  · exact xuI_at (by omega)
  split
  · exact xuI_at (by omega)
  · exact xuI_at (by omega)
theorem zf_usc {Z : MI} {j : Nat} {v : Int32} (h1 : 112 ≤ j) (h2 : j < 119) : upd (zf Z) j v = zf (xuI Z 8 (j - 108) v) := by
  refine zf_set (by rw [zf_sc h1 h2]; simp [xuI]) (fun i hi => ?_)
  unfold zf
  split
  · exact xuI_at (by omega)
  split
  · exact xuI_at (by omega)
  split
  · exact xuI_at (by omega)
  split
  · exact xuI_at (by omega)
  · exact xuI_at (by omega)
theorem zf_u3 {Z : MI} {v : Int32} : upd (zf Z) 3 v = zf (xuI Z 8 3 v) := zf_use (by omega)
theorem zf_u112 {Z : MI} {v : Int32} : upd (zf Z) 112 v = zf (xuI Z 8 4 v) := zf_usc (by omega) (by omega)
theorem zf_u113 {Z : MI} {v : Int32} : upd (zf Z) 113 v = zf (xuI Z 8 5 v) := zf_usc (by omega) (by omega)
theorem zf_u114 {Z : MI} {v : Int32} : upd (zf Z) 114 v = zf (xuI Z 8 6 v) := zf_usc (by omega) (by omega)
theorem zf_u115 {Z : MI} {v : Int32} : upd (zf Z) 115 v = zf (xuI Z 8 7 v) := zf_usc (by omega) (by omega)
theorem zf_u116 {Z : MI} {v : Int32} : upd (zf Z) 116 v = zf (xuI Z 8 8 v) := zf_usc (by omega) (by omega)
theorem zf_u117 {Z : MI} {v : Int32} : upd (zf Z) 117 v = zf (xuI Z 8 9 v) := zf_usc (by omega) (by omega)
theorem zf_u118 {Z : MI} {v : Int32} : upd (zf Z) 118 v = zf (xuI Z 8 10 v) := zf_usc (by omega) (by omega)
/-- any row is told so -/
def uz (f : Nat → Int32) : MI := fun k w => if k < 4 then f (4 + 22 * k + w) else if k < 8 then f (92 + 5 * (k - 4) + w) else if k = 8 then (if w < 4 then f w else f (108 + w)) else f (119 + w)
theorem zf_uz (f : Nat → Int32) : zf (uz f) = f := by
  funext i
  unfold zf
  split
  · rename_i h; simp only [uz]; rw [if_neg (by omega), if_neg (by omega), if_pos trivial, if_pos h]
  split
  · simp only [uz]; rw [if_pos (by omega)]; congr 1; omega
  split
  · simp only [uz]; rw [if_neg (by omega), if_pos (by omega)]; congr 1; omega
  split
  · simp only [uz]; rw [if_neg (by omega), if_neg (by omega), if_pos trivial, if_neg (by omega)]; congr 1; omega
  · simp only [uz]; rw [if_neg (by omega), if_neg (by omega), if_neg (by omega)]; congr 1; omega
def MM (I : MI) (φ : Nat → Int32) (Z : MI) (α β κ τ : Nat → Int32) : MI := fun a => if a = 131 then φ else if a = 132 then zf Z else if a = 133 then α else if a = 134 then β else if a = 135 then κ else if a = 136 then τ else I a
section MMR
variable {I : MI} {φ α β κ τ : Nat → Int32} {Z : MI}
theorem MM_131 : MM I φ Z α β κ τ 131 = φ := rfl
theorem MM_132 : MM I φ Z α β κ τ 132 = zf Z := rfl
theorem MM_133 : MM I φ Z α β κ τ 133 = α := rfl
theorem MM_134 : MM I φ Z α β κ τ 134 = β := rfl
theorem MM_135 : MM I φ Z α β κ τ 135 = κ := rfl
theorem MM_136 : MM I φ Z α β κ τ 136 = τ := rfl
theorem MM_u131 {k : Nat} {v : Int32} : xuI (MM I φ Z α β κ τ) 131 k v = MM I (upd φ k v) Z α β κ τ := by
  funext a b
  by_cases h : a = 131
  · subst h; simp [xuI, MM, upd]
  · simp [xuI, MM, h]
theorem MM_u132 {k : Nat} {v : Int32} {Z' : MI} (h : upd (zf Z) k v = zf Z') : xuI (MM I φ Z α β κ τ) 132 k v = MM I φ Z' α β κ τ := by
  funext a b
  by_cases ha : a = 132
  · subst ha
    have := congrFun h b
    simp only [upd] at this
    simp [xuI, MM, this]
  · simp [xuI, MM, ha]
theorem MM_u133 {k : Nat} {v : Int32} : xuI (MM I φ Z α β κ τ) 133 k v = MM I φ Z (upd α k v) β κ τ := by
  funext a b
  by_cases h : a = 133
  · subst h; simp [xuI, MM, upd]
  · simp [xuI, MM, h]
theorem MM_u134 {k : Nat} {v : Int32} : xuI (MM I φ Z α β κ τ) 134 k v = MM I φ Z α (upd β k v) κ τ := by
  funext a b
  by_cases h : a = 134
  · subst h; simp [xuI, MM, upd]
  · simp [xuI, MM, h]
theorem MM_u135 {k : Nat} {v : Int32} : xuI (MM I φ Z α β κ τ) 135 k v = MM I φ Z α β (upd κ k v) τ := by
  funext a b
  by_cases h : a = 135
  · subst h; simp [xuI, MM, upd]
  · simp [xuI, MM, h]
theorem MM_u136 {k : Nat} {v : Int32} : xuI (MM I φ Z α β κ τ) 136 k v = MM I φ Z α β κ (upd τ k v) := by
  funext a b
  by_cases h : a = 136
  · subst h; simp [xuI, MM, upd]
  · simp [xuI, MM, h]
end MMR
theorem xk_131 : xkd 131 = 6 := by decide +kernel
theorem xk_132 : xkd 132 = 8 := by decide +kernel
theorem xk_133 : xkd 133 = 8 := by decide +kernel
theorem xk_134 : xkd 134 = 8 := by decide +kernel
theorem xk_135 : xkd 135 = 8 := by decide +kernel
theorem xk_136 : xkd 136 = 8 := by decide +kernel
theorem xl_132 : xln 132 = 375 := by decide +kernel
theorem xl_133 : xln 133 = 375 := by decide +kernel
theorem xl_134 : xln 134 = 1500 := by decide +kernel
theorem xl_135 : xln 135 = 375 := by decide +kernel
theorem xl_136 : xln 136 = 80 := by decide +kernel
def mdR : Nat → Option Nat
  | 0 => some 132
  | 1 => some 133
  | 2 => some 134
  | 4 => some 135
  | 6 => some 136
  | _ => none
def Md (R : MR) : Prop := ∀ k j, mdR k = some j → R 131 k = some j
/-- 1 or 0 -/
def bi (b : Bool) : Int32 := if b = true then 1 else 0
theorem bi_T : bi true = 1 := rfl
theorem bi_F : bi false = 0 := rfl
theorem bi_0 {b : Bool} : bi b = 0 ↔ b = false := by cases b <;> decide
theorem bi_n (b : Bool) : narrow .boolean (.int (bi b)) = .int (bi b) := by cases b <;> rfl
theorem bi_f (b : Bool) : fits .boolean (.int (bi b)) = true := by cases b <;> rfl
theorem bi_ite {c : Prop} (h : Decidable c) : (@ite Int32 c h 1 0) = bi (decide c) := by by_cases hc : c <;> simp [bi, hc]
theorem bi_add {n : Nat} {b : Bool} : nI n + (if bi b = 0 then nI 0 else nI 1) = nI (n + if b = true then 1 else 0) := by
  cases b
  · rw [if_pos bi_F, nI_add]; rfl
  · rw [if_neg (by decide), nI_add]; rfl
section MX
variable {g : GX} {cx : CX} {mt : MT} {F : State → Prop} {cs : Nat × Nat} {pc : Nat} {ls : List (Option Value)} {st : List Value} {I : MI} {R : MR} {Q : XQ} {φ α β κ τ : Nat → Int32} {Z : MI}
theorem x_getM {idx k : Nat} (fl : FL mt.1.cls idx 6 k) (hd : decode mt.2.1 pc = .ok (.getfield idx, 3)) (hr : xrf 6 k = false) (kk : X g cx mt F cs (pc + 3) ls (.int (φ k) :: st) 137 (MM I φ Z α β κ τ) R) : X g cx mt F cs pc ls (.ref 131 :: st) 137 (MM I φ Z α β κ τ) R :=
  x_getI fl hd xk_131 (by decide) hr (by rw [MM_131]; exact kk)
theorem x_putM {idx k : Nat} {v : Int32} {ty : FieldType} (fl : FL mt.1.cls idx 6 k) (fp : FP 6 k false ty) (hd : decode mt.2.1 pc = .ok (.putfield idx, 3)) (hr : xrf 6 k = false) (hn : narrow ty (.int v) = .int v) (hf : fits ty (.int v) = true) (kk : X g cx mt F cs (pc + 3) ls st 137 (MM I (upd φ k v) Z α β κ τ) R) : X g cx mt F cs pc ls (.int v :: .ref 131 :: st) 137 (MM I φ Z α β κ τ) R :=
  x_putI fl fp hd xk_131 (by decide) hr hn hf (by rw [MM_u131]; exact kk)
theorem x_ldS {j : Nat} {v : Int32} (hd : decode mt.2.1 pc = .ok (.iaload, 1)) (hj : j < 375) (hv : zf Z j = v) (kk : X g cx mt F cs (pc + 1) ls (.int v :: st) 137 (MM I φ Z α β κ τ) R) : X g cx mt F cs pc ls (.int (nI j) :: .ref 132 :: st) 137 (MM I φ Z α β κ τ) R :=
  x_iald (j := j) hd xk_132 (by decide) (nI_pos (by omega)) (nI_clamp (by omega)) (by rw [xl_132]; exact hj) (by rw [MM_132, hv]; exact kk)
theorem x_stS {j : Nat} {v : Int32} {Z' : MI} (hd : decode mt.2.1 pc = .ok (.iastore, 1)) (hj : j < 375) (hz : upd (zf Z) j v = zf Z') (kk : X g cx mt F cs (pc + 1) ls st 137 (MM I φ Z' α β κ τ) R) : X g cx mt F cs pc ls (.int v :: .int (nI j) :: .ref 132 :: st) 137 (MM I φ Z α β κ τ) R :=
  x_iast (j := j) hd xk_132 (by decide) (nI_pos (by omega)) (nI_clamp (by omega)) (by rw [xl_132]; exact hj) (by rw [MM_u132 hz]; exact kk)
theorem x_ldA {j : Nat} (hd : decode mt.2.1 pc = .ok (.iaload, 1)) (hj : j < 375) (kk : X g cx mt F cs (pc + 1) ls (.int (α j) :: st) 137 (MM I φ Z α β κ τ) R) : X g cx mt F cs pc ls (.int (nI j) :: .ref 133 :: st) 137 (MM I φ Z α β κ τ) R :=
  x_iald (j := j) hd xk_133 (by decide) (nI_pos (by omega)) (nI_clamp (by omega)) (by rw [xl_133]; exact hj) (by rw [MM_133]; exact kk)
theorem x_stA {j : Nat} {v : Int32} (hd : decode mt.2.1 pc = .ok (.iastore, 1)) (hj : j < 375) (kk : X g cx mt F cs (pc + 1) ls st 137 (MM I φ Z (upd α j v) β κ τ) R) : X g cx mt F cs pc ls (.int v :: .int (nI j) :: .ref 133 :: st) 137 (MM I φ Z α β κ τ) R :=
  x_iast (j := j) hd xk_133 (by decide) (nI_pos (by omega)) (nI_clamp (by omega)) (by rw [xl_133]; exact hj) (by rw [MM_u133]; exact kk)
theorem x_ldB {j : Nat} (hd : decode mt.2.1 pc = .ok (.iaload, 1)) (hj : j < 1500) (kk : X g cx mt F cs (pc + 1) ls (.int (β j) :: st) 137 (MM I φ Z α β κ τ) R) : X g cx mt F cs pc ls (.int (nI j) :: .ref 134 :: st) 137 (MM I φ Z α β κ τ) R :=
  x_iald (j := j) hd xk_134 (by decide) (nI_pos (by omega)) (nI_clamp (by omega)) (by rw [xl_134]; exact hj) (by rw [MM_134]; exact kk)
theorem x_stB {j : Nat} {v : Int32} (hd : decode mt.2.1 pc = .ok (.iastore, 1)) (hj : j < 1500) (kk : X g cx mt F cs (pc + 1) ls st 137 (MM I φ Z α (upd β j v) κ τ) R) : X g cx mt F cs pc ls (.int v :: .int (nI j) :: .ref 134 :: st) 137 (MM I φ Z α β κ τ) R :=
  x_iast (j := j) hd xk_134 (by decide) (nI_pos (by omega)) (nI_clamp (by omega)) (by rw [xl_134]; exact hj) (by rw [MM_u134]; exact kk)
theorem x_ldK {j : Nat} (hd : decode mt.2.1 pc = .ok (.iaload, 1)) (hj : j < 375) (kk : X g cx mt F cs (pc + 1) ls (.int (κ j) :: st) 137 (MM I φ Z α β κ τ) R) : X g cx mt F cs pc ls (.int (nI j) :: .ref 135 :: st) 137 (MM I φ Z α β κ τ) R :=
  x_iald (j := j) hd xk_135 (by decide) (nI_pos (by omega)) (nI_clamp (by omega)) (by rw [xl_135]; exact hj) (by rw [MM_135]; exact kk)
theorem x_stK {j : Nat} {v : Int32} (hd : decode mt.2.1 pc = .ok (.iastore, 1)) (hj : j < 375) (kk : X g cx mt F cs (pc + 1) ls st 137 (MM I φ Z α β (upd κ j v) τ) R) : X g cx mt F cs pc ls (.int v :: .int (nI j) :: .ref 135 :: st) 137 (MM I φ Z α β κ τ) R :=
  x_iast (j := j) hd xk_135 (by decide) (nI_pos (by omega)) (nI_clamp (by omega)) (by rw [xl_135]; exact hj) (by rw [MM_u135]; exact kk)
theorem x_ldT {j : Nat} (hd : decode mt.2.1 pc = .ok (.iaload, 1)) (hj : j < 80) (kk : X g cx mt F cs (pc + 1) ls (.int (τ j) :: st) 137 (MM I φ Z α β κ τ) R) : X g cx mt F cs pc ls (.int (nI j) :: .ref 136 :: st) 137 (MM I φ Z α β κ τ) R :=
  x_iald (j := j) hd xk_136 (by decide) (nI_pos (by omega)) (nI_clamp (by omega)) (by rw [xl_136]; exact hj) (by rw [MM_136]; exact kk)
theorem x_stT {j : Nat} {v : Int32} (hd : decode mt.2.1 pc = .ok (.iastore, 1)) (hj : j < 80) (kk : X g cx mt F cs (pc + 1) ls st 137 (MM I φ Z α β κ (upd τ j v)) R) : X g cx mt F cs pc ls (.int v :: .int (nI j) :: .ref 136 :: st) 137 (MM I φ Z α β κ τ) R :=
  x_iast (j := j) hd xk_136 (by decide) (nI_pos (by omega)) (nI_clamp (by omega)) (by rw [xl_136]; exact hj) (by rw [MM_u136]; exact kk)
end MX
