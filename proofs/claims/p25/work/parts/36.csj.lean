
/-! the class: how a state of it stands to a row of numbers -/
def Ost (o : Nat) : Prop := o ∈ [1, 19, 41, 59, 77, 95, 113]
theorem Ost_k {o : Nat} (h : Ost o) : xkd o = 4 ∧ xkd (o + 1) = 10 ∧ xkd (o + 2) = 9 ∧ xkd (o + 3) = 8 ∧ xkd (o + 4) = 0 ∧ xkd (o + 5) = 8 ∧ xln (o + 1) = 4 ∧ xln (o + 2) = 4 ∧ xln (o + 3) = 3 ∧ xln (o + 5) = 256 ∧ o + 18 ≤ 131 := by
  have key : ∀ o ∈ [1, 19, 41, 59, 77, 95, 113], xkd o = 4 ∧ xkd (o + 1) = 10 ∧ xkd (o + 2) = 9 ∧ xkd (o + 3) = 8 ∧ xkd (o + 4) = 0 ∧ xkd (o + 5) = 8 ∧ xln (o + 1) = 4 ∧ xln (o + 2) = 4 ∧ xln (o + 3) = 3 ∧ xln (o + 5) = 256 ∧ o + 18 ≤ 131 := by decide +kernel
  exact key o h
theorem Ost_s {o k : Nat} (h : Ost o) (hk : k < 4) : xkd (o + 6 + 2 * k) = 3 ∧ xkd (o + 7 + 2 * k) = 8 ∧ xln (o + 7 + 2 * k) = 15 ∧ xkd (o + 14 + k) = 1 := by
  have key : ∀ o ∈ [1, 19, 41, 59, 77, 95, 113], ∀ k, k < 4 → xkd (o + 6 + 2 * k) = 3 ∧ xkd (o + 7 + 2 * k) = 8 ∧ xln (o + 7 + 2 * k) = 15 ∧ xkd (o + 14 + k) = 1 := by decide +kernel
  exact key o h k hk
/-- a state at o, with its parts -/
def St (R : MR) (o : Nat) : Prop := Ost o ∧ (R o 0 = some (o + 1) ∧ R o 1 = some (o + 2) ∧ R o 2 = some (o + 3) ∧ R o 3 = some (o + 4) ∧ R (o + 4) 0 = some (o + 5)) ∧ ∀ k, k < 4 → R (o + 1) k = some (o + 6 + 2 * k) ∧ R (o + 2) k = some (o + 14 + k) ∧ R (o + 6 + 2 * k) 0 = some (o + 7 + 2 * k)
section Sts
variable {R : MR} {o k : Nat}
theorem St.le (h : St R o) : o + 18 ≤ 131 := (Ost_k h.1).2.2.2.2.2.2.2.2.2.2
theorem St.k0 (h : St R o) : xkd o = 4 := (Ost_k h.1).1
theorem St.k1 (h : St R o) : xkd (o + 1) = 10 := (Ost_k h.1).2.1
theorem St.k2 (h : St R o) : xkd (o + 2) = 9 := (Ost_k h.1).2.2.1
theorem St.k3 (h : St R o) : xkd (o + 3) = 8 := (Ost_k h.1).2.2.2.1
theorem St.l1 (h : St R o) : xln (o + 1) = 4 := (Ost_k h.1).2.2.2.2.2.2.1
theorem St.l2 (h : St R o) : xln (o + 2) = 4 := (Ost_k h.1).2.2.2.2.2.2.2.1
theorem St.l3 (h : St R o) : xln (o + 3) = 3 := (Ost_k h.1).2.2.2.2.2.2.2.2.1
theorem St.lt (h : St R o) {j : Nat} (hj : j < 18) : o + j < 131 := by have := h.le; omega
theorem St.lts (h : St R o) (hk : k < 4) : o + 6 + 2 * k < 131 := by have := h.le; omega
theorem St.ltl (h : St R o) (hk : k < 4) : o + 14 + k < 131 := by have := h.le; omega
theorem St.lt0 (h : St R o) : o < 131 := by have := h.le; omega
theorem St.r0 (h : St R o) : R o 0 = some (o + 1) := h.2.1.1
theorem St.r1 (h : St R o) : R o 1 = some (o + 2) := h.2.1.2.1
theorem St.r2 (h : St R o) : R o 2 = some (o + 3) := h.2.1.2.2.1
theorem St.r3 (h : St R o) : R o 3 = some (o + 4) := h.2.1.2.2.2.1
theorem St.rs (h : St R o) (hk : k < 4) : R (o + 1) k = some (o + 6 + 2 * k) := (h.2.2 k hk).1
theorem St.rl (h : St R o) (hk : k < 4) : R (o + 2) k = some (o + 14 + k) := (h.2.2 k hk).2.1
theorem St.sk (h : St R o) (hk : k < 4) : Sk R 3 15 (o + 6 + 2 * k) (o + 7 + 2 * k) := ⟨(Ost_s h.1 hk).1, h.lts hk, (Ost_s h.1 hk).2.1, by have := h.le; omega, (Ost_s h.1 hk).2.2.1, by omega, (h.2.2 k hk).2.2⟩
theorem St.ks (h : St R o) (hk : k < 4) : xkd (o + 6 + 2 * k) = 3 := (Ost_s h.1 hk).1
theorem St.kl (h : St R o) (hk : k < 4) : xkd (o + 14 + k) = 1 := (Ost_s h.1 hk).2.2.2
theorem St.lg (h : St R o) : Sk R 0 256 (o + 4) (o + 5) := ⟨(Ost_k h.1).2.2.2.2.1, h.lt (by omega), (Ost_k h.1).2.2.2.2.2.1, h.lt (by omega), (Ost_k h.1).2.2.2.2.2.2.2.2.2.1, by omega, h.2.1.2.2.2.2⟩
end Sts
/-- a speaker's row -/
def SPJ (F P z : Nat → Int32) : Prop := ∃ (m : Nat) (t : Bool), m ≤ 5 ∧ z 0 = nI m ∧ z 1 = bi t ∧ (t = true → 1 ≤ m) ∧ (∀ w, w < 7 → F (w + 1) = z w) ∧ ∀ j, j < m → (∃ x, x < 128 ∧ z (7 + 3 * j) = nI x ∧ P (j * 3) = nI (2 * x)) ∧ P (j * 3 + 1) = z (8 + 3 * j) ∧ P (j * 3 + 2) = z (9 + 3 * j)
/-- a listener's row -/
def LSJ (F z : Nat → Int32) : Prop := (∀ w, w < 5 → F w = z w) ∧ ∃ s, s ≤ 99 ∧ z 2 = nI s
def scw (f : Nat) : Nat := [0, 0, 0, 0, 3, 7, 4, 5, 6, 8, 9].getD f 0
/-- the numbers of the whole -/
def SCJ (F s z : Nat → Int32) : Prop := (∀ w, w < 3 → s w = z w) ∧ ∀ f, 4 ≤ f → f ≤ 10 → F f = z (scw f)
/-- the log -/
def LGJ (F P : Nat → Int32) (c : Int32) (z : Nat → Int32) : Prop := ∃ (x L : Nat), x < 64 ∧ L ≤ 64 ∧ F 1 = nI x ∧ F 2 = nI L ∧ c = nI L ∧ ∀ b w, b < L → w < 4 → P ((x + 63 - b) % 64 * 4 + w) = z (4 * (L - 1 - b) + w)
def SJ (o : Nat) (I Z : MI) : Prop := (∀ k, k < 4 → SPJ (I (o + 6 + 2 * k)) (I (o + 7 + 2 * k)) (Z k)) ∧ (∀ k, k < 4 → LSJ (I (o + 14 + k)) (Z (4 + k))) ∧ SCJ (I o) (I (o + 3)) (Z 8) ∧ LGJ (I (o + 4)) (I (o + 5)) (Z 8 10) (Z 9)
/-- the rest is as it was -/
def Off (o : Nat) (I I' : MI) : Prop := ∀ a, (a < o ∨ o + 18 ≤ a) → I' a = I a
theorem Off.rf {o : Nat} {I : MI} : Off o I I := fun _ _ => rfl
theorem Off.tr {o : Nat} {I I' I2 : MI} (h : Off o I I') (h2 : Off o I' I2) : Off o I I2 := fun a q => (h2 a q).trans (h a q)
theorem xuI_col {Z : MI} {k w b : Nat} {v : Int32} (h : b ≠ w) : xuI Z k w v k b = Z k b := xuI_at (fun q => h q.2)
section SJs
variable {o : Nat} {I Z : MI}
theorem SJ.sp (h : SJ o I Z) {k w : Nat} (hk : k < 4) (hw : w < 7) : I (o + 6 + 2 * k) (w + 1) = Z k w := by
  obtain ⟨m, t, -, -, -, -, h5, -⟩ := h.1 k hk
  exact h5 w hw
theorem SJ.sz (h : SJ o I Z) {k : Nat} (hk : k < 4) : ∃ m, m ≤ 5 ∧ Z k 0 = nI m := by
  obtain ⟨m, t, h1, h2, -⟩ := h.1 k hk
  exact ⟨m, h1, h2⟩
theorem SJ.tb (h : SJ o I Z) {k : Nat} (hk : k < 4) : Z k 1 = bi (tk Z k) := by
  obtain ⟨m, t, h1, h2, h3, -⟩ := h.1 k hk
  unfold tk
  rw [h3]
  cases t <;> rfl
theorem SJ.tm (h : SJ o I Z) {k : Nat} (hk : k < 4) (ht : tk Z k = true) : ∃ m, 1 ≤ m ∧ m ≤ 5 ∧ Z k 0 = nI m := by
  obtain ⟨m, t, h1, h2, h3, h4, -⟩ := h.1 k hk
  refine ⟨m, h4 ?_, h1, h2⟩
  unfold tk at ht
  rw [h3] at ht
  cases t with
  | true => rfl
  | false => exact absurd ht (by decide)
theorem SJ.ls (h : SJ o I Z) {k w : Nat} (hk : k < 4) (hw : w < 5) : I (o + 14 + k) w = Z (4 + k) w := (h.2.1 k hk).1 w hw
theorem SJ.st (h : SJ o I Z) {k : Nat} (hk : k < 4) : ∃ s, s ≤ 99 ∧ Z (4 + k) 2 = nI s := (h.2.1 k hk).2
theorem SJ.sc (h : SJ o I Z) {f : Nat} (h1 : 4 ≤ f) (h2 : f ≤ 10) : I o f = Z 8 (scw f) := h.2.2.1.2 f h1 h2
theorem SJ.se (h : SJ o I Z) {w : Nat} (hw : w < 3) : I (o + 3) w = Z 8 w := h.2.2.1.1 w hw
/-- the rows that count -/
theorem SJ.cg (h : SJ o I Z) {I' Z' : MI} (hI : ∀ a, o ≤ a → a < o + 18 → I' a = I a) (hZ : ∀ a, a < 10 → Z' a = Z a) : SJ o I' Z' := by
  refine ⟨fun k hk => ?_, fun k hk => ?_, ?_, ?_⟩
  · rw [hI _ (by omega) (by omega), hI _ (by omega) (by omega), hZ _ (by omega)]; exact h.1 k hk
  · rw [hI _ (by omega) (by omega), hZ _ (by omega)]; exact h.2.1 k hk
  · rw [hI _ (by omega) (by omega), hI _ (by omega) (by omega), hZ _ (by omega)]; exact h.2.2.1
  · rw [hI _ (by omega) (by omega), hI _ (by omega) (by omega), hZ _ (by omega), hZ _ (by omega)]; exact h.2.2.2
theorem SJ.usp (h : SJ o I Z) {k : Nat} (hk : k < 4) {F P z : Nat → Int32} (hz : SPJ F P z) : SJ o (SM I (o + 6 + 2 * k) (o + 7 + 2 * k) F P) (rw1 Z k z) := by
  refine ⟨fun j hj => ?_, fun j hj => ?_, ?_, ?_⟩
  · by_cases e : j = k
    · subst e
      rw [rw1_self]
      have e1 : SM I (o + 6 + 2 * j) (o + 7 + 2 * j) F P (o + 6 + 2 * j) = F := by simp [SM]
      have e2 : SM I (o + 6 + 2 * j) (o + 7 + 2 * j) F P (o + 7 + 2 * j) = P := by simp [SM]
      rw [e1, e2]; exact hz
    · rw [rw1_ne e, SM_o (by omega) (by omega), SM_o (by omega) (by omega)]; exact h.1 j hj
  · rw [rw1_ne (by omega), SM_o (by omega) (by omega)]; exact h.2.1 j hj
  · rw [rw1_ne (by omega), SM_o (by omega) (by omega), SM_o (by omega) (by omega)]; exact h.2.2.1
  · rw [rw1_ne (by omega), rw1_ne (by omega), SM_o (by omega) (by omega), SM_o (by omega) (by omega)]; exact h.2.2.2
theorem Off.sp {k : Nat} (hk : k < 4) {F P : Nat → Int32} : Off o I (SM I (o + 6 + 2 * k) (o + 7 + 2 * k) F P) := fun a q => by rw [SM_o (by omega) (by omega)]
theorem SJ.uls (h : SJ o I Z) {k : Nat} (hk : k < 4) {F z : Nat → Int32} (hz : LSJ F z) : SJ o (rw1 I (o + 14 + k) F) (rw1 Z (4 + k) z) := by
  refine ⟨fun j hj => ?_, fun j hj => ?_, ?_, ?_⟩
  · rw [rw1_ne (by omega), rw1_ne (by omega), rw1_ne (by omega)]; exact h.1 j hj
  · by_cases e : j = k
    · subst e
      rw [rw1_self, rw1_self]; exact hz
    · rw [rw1_ne (by omega), rw1_ne (by omega)]; exact h.2.1 j hj
  · rw [rw1_ne (by omega), rw1_ne (by omega), rw1_ne (by omega)]; exact h.2.2.1
  · rw [rw1_ne (by omega), rw1_ne (by omega), rw1_ne (by omega), rw1_ne (by omega)]; exact h.2.2.2
theorem Off.ls {k : Nat} (hk : k < 4) {F : Nat → Int32} : Off o I (rw1 I (o + 14 + k) F) := fun a q => by rw [rw1_ne (by omega)]
theorem SJ.usc (h : SJ o I Z) {f w : Nat} {v : Int32} (h1 : 4 ≤ f) (h2 : f ≤ 10) (hw : scw f = w) : SJ o (xuI I o f v) (xuI Z 8 w v) := by
  subst hw
  have hw10 : scw f ≠ 10 ∧ ¬ scw f < 3 ∧ ∀ g, 4 ≤ g → g ≤ 10 → scw g = scw f → g = f := by
    have key : ∀ f, f < 11 → 4 ≤ f → scw f ≠ 10 ∧ ¬ scw f < 3 ∧ ∀ g, g < 11 → 4 ≤ g → scw g = scw f → g = f := by decide +kernel
    obtain ⟨a, b, c⟩ := key f (by omega) h1
    exact ⟨a, b, fun g q1 q2 q3 => c g (by omega) q1 q3⟩
  refine ⟨fun j hj => ?_, fun j hj => ?_, ⟨fun w hw => ?_, fun g q1 q2 => ?_⟩, ?_⟩
  · rw [xuI_row (by omega), xuI_row (by omega), xuI_row (by omega)]; exact h.1 j hj
  · rw [xuI_row (by omega), xuI_row (by omega)]; exact h.2.1 j hj
  · rw [xuI_row (by omega), xuI_at (by omega)]; exact h.se hw
  · by_cases e : g = f
    · subst e; rw [xuI_self, xuI_self]
    · rw [xuI_col e, xuI_col (fun q => e (hw10.2.2 g q1 q2 q))]; exact h.sc q1 q2
  · rw [xuI_row (by omega), xuI_row (by omega), xuI_col (Ne.symm hw10.1), xuI_row (by omega)]; exact h.2.2.2
theorem Off.sc {f : Nat} {v : Int32} : Off o I (xuI I o f v) := fun a q => by rw [xuI_row (by omega)]
theorem SJ.use (h : SJ o I Z) {w : Nat} {v : Int32} (hw : w < 3) : SJ o (xuI I (o + 3) w v) (xuI Z 8 w v) := by
  refine ⟨fun j hj => ?_, fun j hj => ?_, ⟨fun u hu => ?_, fun g q1 q2 => ?_⟩, ?_⟩
  · rw [xuI_row (by omega), xuI_row (by omega), xuI_row (by omega)]; exact h.1 j hj
  · rw [xuI_row (by omega), xuI_row (by omega)]; exact h.2.1 j hj
  · by_cases e : u = w
    · subst e; rw [xuI_self, xuI_self]
    · rw [xuI_col e, xuI_col e]; exact h.se hu
  · have key : ∀ f, f < 11 → 4 ≤ f → ¬ scw f < 3 := by decide +kernel
    have := key g (by omega) q1
    rw [xuI_row (by omega), xuI_at (by omega)]; exact h.sc q1 q2
  · rw [xuI_row (by omega), xuI_row (by omega), xuI_at (by omega), xuI_row (by omega)]; exact h.2.2.2
theorem Off.se {w : Nat} {v : Int32} : Off o I (xuI I (o + 3) w v) := fun a q => by rw [xuI_row (by omega)]
theorem SJ.ulg (h : SJ o I Z) {F P z : Nat → Int32} {c : Int32} (hz : LGJ F P c z) : SJ o (SM I (o + 4) (o + 5) F P) (rw1 (xuI Z 8 10 c) 9 z) := by
  refine ⟨fun j hj => ?_, fun j hj => ?_, ⟨fun w hw => ?_, fun g q1 q2 => ?_⟩, ?_⟩
  · rw [rw1_ne (by omega), xuI_row (by omega), SM_o (by omega) (by omega), SM_o (by omega) (by omega)]; exact h.1 j hj
  · rw [rw1_ne (by omega), xuI_row (by omega), SM_o (by omega) (by omega)]; exact h.2.1 j hj
  · rw [rw1_ne (by omega), xuI_at (by omega), SM_o (by omega) (by omega)]; exact h.se hw
  · have key : ∀ f, f < 11 → 4 ≤ f → scw f ≠ 10 := by decide +kernel
    rw [rw1_ne (by omega), xuI_col (key g (by omega) q1), SM_o (by omega) (by omega)]; exact h.sc q1 q2
  · have e1 : SM I (o + 4) (o + 5) F P (o + 4) = F := by simp [SM]
    have e2 : SM I (o + 4) (o + 5) F P (o + 5) = P := by simp [SM]
    rw [rw1_ne (by omega), xuI_self, rw1_self, e1, e2]; exact hz
theorem Off.lg {F P : Nat → Int32} : Off o I (SM I (o + 4) (o + 5) F P) := fun a q => by rw [SM_o (by omega) (by omega)]
end SJs
