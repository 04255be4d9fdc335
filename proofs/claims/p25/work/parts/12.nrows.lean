/-! rows over small numbers, diamonds, calls of methods whose answer and end are known -/
theorem nI_sub {a b : Nat} (h : b ≤ a) : nI a - nI b = nI (a - b) := pk_sub h
def Spd (mt : MT) (av : List Value) (I : MI) (R : MR) (r : Option Value) (I' : MI) : Prop := Sp mt av 131 I R (fun r' n' I2 R2 => r' = r ∧ n' = 131 ∧ I2 = I' ∧ R2 = R)
section XN
variable {g : GX} {cx : CX} {mt : MT} {F : State → Prop} {cs : Nat × Nat} {pc : Nat} {ls : List (Option Value)} {st : List Value} {n : Nat} {I : MI} {R : MR} {Q : XQ}
theorem x_eqtop {x y : Int32} (e : x = y) (k : X g cx mt F cs pc ls (.int y :: st) n I R) : X g cx mt F cs pc ls (.int x :: st) n I R := e ▸ k
theorem x_eqI {I' : MI} (e : I = I') (k : X g cx mt F cs pc ls st n I' R) : X g cx mt F cs pc ls st n I R := e ▸ k
theorem x_eqls {ls' : List (Option Value)} (e : ls = ls') (k : X g cx mt F cs pc ls' st n I R) : X g cx mt F cs pc ls st n I R := e ▸ k

theorem x_iaddN {a b : Nat} (hd : decode mt.2.1 pc = .ok (.iadd, 1)) (k : X g cx mt F cs (pc + 1) ls (.int (nI (a + b)) :: st) n I R) : X g cx mt F cs pc ls (.int (nI b) :: .int (nI a) :: st) n I R := x_iadd hd (by rw [nI_add]; exact k)
theorem x_imulN {a b : Nat} (hd : decode mt.2.1 pc = .ok (.imul, 1)) (k : X g cx mt F cs (pc + 1) ls (.int (nI (a * b)) :: st) n I R) : X g cx mt F cs pc ls (.int (nI b) :: .int (nI a) :: st) n I R := x_imul hd (by rw [pk_mul]; exact k)
theorem x_isubN {a b : Nat} (hd : decode mt.2.1 pc = .ok (.isub, 1)) (h : b ≤ a) (k : X g cx mt F cs (pc + 1) ls (.int (nI (a - b)) :: st) n I R) : X g cx mt F cs pc ls (.int (nI b) :: .int (nI a) :: st) n I R := x_isub hd (by rw [pk_sub h]; exact k)
theorem nI_nz {b : Nat} (h0 : 0 < b) (hb : b < 2 ^ 31) : ¬ nI b = 0 := nI_ne0 h0 hb
theorem x_idivN {a b : Nat} (hd : decode mt.2.1 pc = .ok (.idiv, 1)) (ha : a < 2 ^ 31) (h0 : 0 < b) (hb : b < 2 ^ 31) (k : X g cx mt F cs (pc + 1) ls (.int (nI (a / b)) :: st) n I R) : X g cx mt F cs pc ls (.int (nI b) :: .int (nI a) :: st) n I R := x_idiv hd (nI_nz h0 hb) (by rw [pk_div ha h0 hb]; exact k)
theorem x_iremN {a b : Nat} (hd : decode mt.2.1 pc = .ok (.irem, 1)) (ha : a < 2 ^ 31) (h0 : 0 < b) (hb : b < 2 ^ 31) (k : X g cx mt F cs (pc + 1) ls (.int (nI (a % b)) :: st) n I R) : X g cx mt F cs pc ls (.int (nI b) :: .int (nI a) :: st) n I R := x_irem hd (nI_nz h0 hb) (by rw [pk_rem ha h0 hb]; exact k)
theorem x_iincN {i : Nat} {c : Int} {a : Nat} (d : Nat) (hd : decode mt.2.1 pc = .ok (.iinc i c, 3)) (hl : ls[i]? = some (some (.int (nI a)))) (hv : Int32.ofInt c = nI d) (hn : i < mt.2.2.1) (k : X g cx mt F cs (pc + 3) (ls.set i (some (.int (nI (a + d))))) st n I R) : X g cx mt F cs pc ls st n I R := x_iinc (nI (a + d)) hd hl (by rw [hv, nI_add]) hn k
theorem x_if_eqN {a : Nat} {off : Int} (tgt : Nat) (hd : decode mt.2.1 pc = .ok (.ifCond .eq off, 3)) (ht : (pc : Int) + off = (tgt : Int)) (ha : a < 2 ^ 31) (kt : a = 0 → X g cx mt F cs tgt ls (st) n I R) (kf : ¬ a = 0 → X g cx mt F cs (pc + 3) ls (st) n I R) : X g cx mt F cs pc ls (.int (nI a) :: st) n I R := x_if_eq tgt hd ht (fun q => kt ((show nI a = 0 ↔ a = 0 from ⟨fun q => Decidable.byContradiction fun z => nI_ne0 (Nat.pos_of_ne_zero z) ha q, fun q => by rw [q]; rfl⟩).mp q)) (fun q => kf (fun z => q ((show nI a = 0 ↔ a = 0 from ⟨fun q => Decidable.byContradiction fun z => nI_ne0 (Nat.pos_of_ne_zero z) ha q, fun q => by rw [q]; rfl⟩).mpr z)))
theorem x_dia_if_eq {x : Int32} {va vb : Int32} {off : Int} (tgt J : Nat) (hd : decode mt.2.1 pc = .ok (.ifCond .eq off, 3)) (ht : (pc : Int) + off = (tgt : Int)) (kf : ¬ x = 0 → X g cx mt F cs J ls (.int va :: st) n I R → X g cx mt F cs (pc + 3) ls (st) n I R) (kt : x = 0 → X g cx mt F cs J ls (.int vb :: st) n I R → X g cx mt F cs tgt ls (st) n I R) (k : X g cx mt F cs J ls (.int (if x = 0 then vb else va) :: st) n I R) : X g cx mt F cs pc ls (.int x :: st) n I R := by
  by_cases hc : x = 0
  · rw [if_pos hc] at k
    exact x_if_eq tgt hd ht (fun q => kt q k) (fun q => absurd hc q)
  · rw [if_neg hc] at k
    exact x_if_eq tgt hd ht (fun q => absurd q hc) (fun q => kf q k)
theorem x_icmp_eqN {a b : Nat} {off : Int} (tgt : Nat) (hd : decode mt.2.1 pc = .ok (.if_icmp .eq off, 3)) (ht : (pc : Int) + off = (tgt : Int)) (ha : a < 2 ^ 31) (hb : b < 2 ^ 31) (kt : a = b → X g cx mt F cs tgt ls (st) n I R) (kf : ¬ a = b → X g cx mt F cs (pc + 3) ls (st) n I R) : X g cx mt F cs pc ls (.int (nI b) :: .int (nI a) :: st) n I R := x_icmp_eq tgt hd ht (fun q => kt ((nI_eq ha hb).mp q)) (fun q => kf (fun z => q ((nI_eq ha hb).mpr z)))
theorem x_dia_icmp_eqN {a b : Nat} {va vb : Int32} {off : Int} (tgt J : Nat) (hd : decode mt.2.1 pc = .ok (.if_icmp .eq off, 3)) (ht : (pc : Int) + off = (tgt : Int)) (ha : a < 2 ^ 31) (hb : b < 2 ^ 31) (kf : ¬ a = b → X g cx mt F cs J ls (.int va :: st) n I R → X g cx mt F cs (pc + 3) ls (st) n I R) (kt : a = b → X g cx mt F cs J ls (.int vb :: st) n I R → X g cx mt F cs tgt ls (st) n I R) (k : X g cx mt F cs J ls (.int (if a = b then vb else va) :: st) n I R) : X g cx mt F cs pc ls (.int (nI b) :: .int (nI a) :: st) n I R := by
  by_cases hc : a = b
  · rw [if_pos hc] at k
    exact x_icmp_eqN tgt hd ht ha hb (fun q => kt q k) (fun q => absurd hc q)
  · rw [if_neg hc] at k
    exact x_icmp_eqN tgt hd ht ha hb (fun q => absurd q hc) (fun q => kf q k)
theorem x_dia_icmp_eq {x y : Int32} {va vb : Int32} {off : Int} (tgt J : Nat) (hd : decode mt.2.1 pc = .ok (.if_icmp .eq off, 3)) (ht : (pc : Int) + off = (tgt : Int)) (kf : ¬ x = y → X g cx mt F cs J ls (.int va :: st) n I R → X g cx mt F cs (pc + 3) ls (st) n I R) (kt : x = y → X g cx mt F cs J ls (.int vb :: st) n I R → X g cx mt F cs tgt ls (st) n I R) (k : X g cx mt F cs J ls (.int (if x = y then vb else va) :: st) n I R) : X g cx mt F cs pc ls (.int y :: .int x :: st) n I R := by
  by_cases hc : x = y
  · rw [if_pos hc] at k
    exact x_icmp_eq tgt hd ht (fun q => kt q k) (fun q => absurd hc q)
  · rw [if_neg hc] at k
    exact x_icmp_eq tgt hd ht (fun q => absurd q hc) (fun q => kf q k)
theorem x_dia_if_lt {x : Int32} {va vb : Int32} {off : Int} (tgt J : Nat) (hd : decode mt.2.1 pc = .ok (.ifCond .lt off, 3)) (ht : (pc : Int) + off = (tgt : Int)) (kf : ¬ x < 0 → X g cx mt F cs J ls (.int va :: st) n I R → X g cx mt F cs (pc + 3) ls (st) n I R) (kt : x < 0 → X g cx mt F cs J ls (.int vb :: st) n I R → X g cx mt F cs tgt ls (st) n I R) (k : X g cx mt F cs J ls (.int (if x < 0 then vb else va) :: st) n I R) : X g cx mt F cs pc ls (.int x :: st) n I R := by
  by_cases hc : x < 0
  · rw [if_pos hc] at k
    exact x_if_lt tgt hd ht (fun q => kt q k) (fun q => absurd hc q)
  · rw [if_neg hc] at k
    exact x_if_lt tgt hd ht (fun q => absurd q hc) (fun q => kf q k)
theorem x_icmp_ltN {a b : Nat} {off : Int} (tgt : Nat) (hd : decode mt.2.1 pc = .ok (.if_icmp .lt off, 3)) (ht : (pc : Int) + off = (tgt : Int)) (ha : a < 2 ^ 31) (hb : b < 2 ^ 31) (kt : a < b → X g cx mt F cs tgt ls (st) n I R) (kf : ¬ a < b → X g cx mt F cs (pc + 3) ls (st) n I R) : X g cx mt F cs pc ls (.int (nI b) :: .int (nI a) :: st) n I R := x_icmp_lt tgt hd ht (fun q => kt ((nI_ltI ha hb).mp q)) (fun q => kf (fun z => q ((nI_ltI ha hb).mpr z)))
theorem x_dia_icmp_ltN {a b : Nat} {va vb : Int32} {off : Int} (tgt J : Nat) (hd : decode mt.2.1 pc = .ok (.if_icmp .lt off, 3)) (ht : (pc : Int) + off = (tgt : Int)) (ha : a < 2 ^ 31) (hb : b < 2 ^ 31) (kf : ¬ a < b → X g cx mt F cs J ls (.int va :: st) n I R → X g cx mt F cs (pc + 3) ls (st) n I R) (kt : a < b → X g cx mt F cs J ls (.int vb :: st) n I R → X g cx mt F cs tgt ls (st) n I R) (k : X g cx mt F cs J ls (.int (if a < b then vb else va) :: st) n I R) : X g cx mt F cs pc ls (.int (nI b) :: .int (nI a) :: st) n I R := by
  by_cases hc : a < b
  · rw [if_pos hc] at k
    exact x_icmp_ltN tgt hd ht ha hb (fun q => kt q k) (fun q => absurd hc q)
  · rw [if_neg hc] at k
    exact x_icmp_ltN tgt hd ht ha hb (fun q => absurd q hc) (fun q => kf q k)
theorem x_dia_icmp_lt {x y : Int32} {va vb : Int32} {off : Int} (tgt J : Nat) (hd : decode mt.2.1 pc = .ok (.if_icmp .lt off, 3)) (ht : (pc : Int) + off = (tgt : Int)) (kf : ¬ x < y → X g cx mt F cs J ls (.int va :: st) n I R → X g cx mt F cs (pc + 3) ls (st) n I R) (kt : x < y → X g cx mt F cs J ls (.int vb :: st) n I R → X g cx mt F cs tgt ls (st) n I R) (k : X g cx mt F cs J ls (.int (if x < y then vb else va) :: st) n I R) : X g cx mt F cs pc ls (.int y :: .int x :: st) n I R := by
  by_cases hc : x < y
  · rw [if_pos hc] at k
    exact x_icmp_lt tgt hd ht (fun q => kt q k) (fun q => absurd hc q)
  · rw [if_neg hc] at k
    exact x_icmp_lt tgt hd ht (fun q => absurd q hc) (fun q => kf q k)
theorem x_dia_if_gt {x : Int32} {va vb : Int32} {off : Int} (tgt J : Nat) (hd : decode mt.2.1 pc = .ok (.ifCond .gt off, 3)) (ht : (pc : Int) + off = (tgt : Int)) (kf : ¬ 0 < x → X g cx mt F cs J ls (.int va :: st) n I R → X g cx mt F cs (pc + 3) ls (st) n I R) (kt : 0 < x → X g cx mt F cs J ls (.int vb :: st) n I R → X g cx mt F cs tgt ls (st) n I R) (k : X g cx mt F cs J ls (.int (if 0 < x then vb else va) :: st) n I R) : X g cx mt F cs pc ls (.int x :: st) n I R := by
  by_cases hc : 0 < x
  · rw [if_pos hc] at k
    exact x_if_gt tgt hd ht (fun q => kt q k) (fun q => absurd hc q)
  · rw [if_neg hc] at k
    exact x_if_gt tgt hd ht (fun q => absurd q hc) (fun q => kf q k)
theorem x_icmp_gtN {a b : Nat} {off : Int} (tgt : Nat) (hd : decode mt.2.1 pc = .ok (.if_icmp .gt off, 3)) (ht : (pc : Int) + off = (tgt : Int)) (ha : a < 2 ^ 31) (hb : b < 2 ^ 31) (kt : b < a → X g cx mt F cs tgt ls (st) n I R) (kf : ¬ b < a → X g cx mt F cs (pc + 3) ls (st) n I R) : X g cx mt F cs pc ls (.int (nI b) :: .int (nI a) :: st) n I R := x_icmp_gt tgt hd ht (fun q => kt ((nI_ltI hb ha).mp q)) (fun q => kf (fun z => q ((nI_ltI hb ha).mpr z)))
theorem x_dia_icmp_gtN {a b : Nat} {va vb : Int32} {off : Int} (tgt J : Nat) (hd : decode mt.2.1 pc = .ok (.if_icmp .gt off, 3)) (ht : (pc : Int) + off = (tgt : Int)) (ha : a < 2 ^ 31) (hb : b < 2 ^ 31) (kf : ¬ b < a → X g cx mt F cs J ls (.int va :: st) n I R → X g cx mt F cs (pc + 3) ls (st) n I R) (kt : b < a → X g cx mt F cs J ls (.int vb :: st) n I R → X g cx mt F cs tgt ls (st) n I R) (k : X g cx mt F cs J ls (.int (if b < a then vb else va) :: st) n I R) : X g cx mt F cs pc ls (.int (nI b) :: .int (nI a) :: st) n I R := by
  by_cases hc : b < a
  · rw [if_pos hc] at k
    exact x_icmp_gtN tgt hd ht ha hb (fun q => kt q k) (fun q => absurd hc q)
  · rw [if_neg hc] at k
    exact x_icmp_gtN tgt hd ht ha hb (fun q => absurd q hc) (fun q => kf q k)
theorem x_dia_icmp_gt {x y : Int32} {va vb : Int32} {off : Int} (tgt J : Nat) (hd : decode mt.2.1 pc = .ok (.if_icmp .gt off, 3)) (ht : (pc : Int) + off = (tgt : Int)) (kf : ¬ y < x → X g cx mt F cs J ls (.int va :: st) n I R → X g cx mt F cs (pc + 3) ls (st) n I R) (kt : y < x → X g cx mt F cs J ls (.int vb :: st) n I R → X g cx mt F cs tgt ls (st) n I R) (k : X g cx mt F cs J ls (.int (if y < x then vb else va) :: st) n I R) : X g cx mt F cs pc ls (.int y :: .int x :: st) n I R := by
  by_cases hc : y < x
  · rw [if_pos hc] at k
    exact x_icmp_gt tgt hd ht (fun q => kt q k) (fun q => absurd hc q)
  · rw [if_neg hc] at k
    exact x_icmp_gt tgt hd ht (fun q => absurd q hc) (fun q => kf q k)
theorem x_dia_if_le {x : Int32} {va vb : Int32} {off : Int} (tgt J : Nat) (hd : decode mt.2.1 pc = .ok (.ifCond .le off, 3)) (ht : (pc : Int) + off = (tgt : Int)) (kf : ¬ x ≤ 0 → X g cx mt F cs J ls (.int va :: st) n I R → X g cx mt F cs (pc + 3) ls (st) n I R) (kt : x ≤ 0 → X g cx mt F cs J ls (.int vb :: st) n I R → X g cx mt F cs tgt ls (st) n I R) (k : X g cx mt F cs J ls (.int (if x ≤ 0 then vb else va) :: st) n I R) : X g cx mt F cs pc ls (.int x :: st) n I R := by
  by_cases hc : x ≤ 0
  · rw [if_pos hc] at k
    exact x_if_le tgt hd ht (fun q => kt q k) (fun q => absurd hc q)
  · rw [if_neg hc] at k
    exact x_if_le tgt hd ht (fun q => absurd q hc) (fun q => kf q k)
theorem x_icmp_leN {a b : Nat} {off : Int} (tgt : Nat) (hd : decode mt.2.1 pc = .ok (.if_icmp .le off, 3)) (ht : (pc : Int) + off = (tgt : Int)) (ha : a < 2 ^ 31) (hb : b < 2 ^ 31) (kt : a ≤ b → X g cx mt F cs tgt ls (st) n I R) (kf : ¬ a ≤ b → X g cx mt F cs (pc + 3) ls (st) n I R) : X g cx mt F cs pc ls (.int (nI b) :: .int (nI a) :: st) n I R := x_icmp_le tgt hd ht (fun q => kt ((nI_leI ha hb).mp q)) (fun q => kf (fun z => q ((nI_leI ha hb).mpr z)))
theorem x_dia_icmp_leN {a b : Nat} {va vb : Int32} {off : Int} (tgt J : Nat) (hd : decode mt.2.1 pc = .ok (.if_icmp .le off, 3)) (ht : (pc : Int) + off = (tgt : Int)) (ha : a < 2 ^ 31) (hb : b < 2 ^ 31) (kf : ¬ a ≤ b → X g cx mt F cs J ls (.int va :: st) n I R → X g cx mt F cs (pc + 3) ls (st) n I R) (kt : a ≤ b → X g cx mt F cs J ls (.int vb :: st) n I R → X g cx mt F cs tgt ls (st) n I R) (k : X g cx mt F cs J ls (.int (if a ≤ b then vb else va) :: st) n I R) : X g cx mt F cs pc ls (.int (nI b) :: .int (nI a) :: st) n I R := by
  by_cases hc : a ≤ b
  · rw [if_pos hc] at k
    exact x_icmp_leN tgt hd ht ha hb (fun q => kt q k) (fun q => absurd hc q)
  · rw [if_neg hc] at k
    exact x_icmp_leN tgt hd ht ha hb (fun q => absurd q hc) (fun q => kf q k)
theorem x_dia_icmp_le {x y : Int32} {va vb : Int32} {off : Int} (tgt J : Nat) (hd : decode mt.2.1 pc = .ok (.if_icmp .le off, 3)) (ht : (pc : Int) + off = (tgt : Int)) (kf : ¬ x ≤ y → X g cx mt F cs J ls (.int va :: st) n I R → X g cx mt F cs (pc + 3) ls (st) n I R) (kt : x ≤ y → X g cx mt F cs J ls (.int vb :: st) n I R → X g cx mt F cs tgt ls (st) n I R) (k : X g cx mt F cs J ls (.int (if x ≤ y then vb else va) :: st) n I R) : X g cx mt F cs pc ls (.int y :: .int x :: st) n I R := by
  by_cases hc : x ≤ y
  · rw [if_pos hc] at k
    exact x_icmp_le tgt hd ht (fun q => kt q k) (fun q => absurd hc q)
  · rw [if_neg hc] at k
    exact x_icmp_le tgt hd ht (fun q => absurd q hc) (fun q => kf q k)
theorem x_dia_if_ge {x : Int32} {va vb : Int32} {off : Int} (tgt J : Nat) (hd : decode mt.2.1 pc = .ok (.ifCond .ge off, 3)) (ht : (pc : Int) + off = (tgt : Int)) (kf : ¬ 0 ≤ x → X g cx mt F cs J ls (.int va :: st) n I R → X g cx mt F cs (pc + 3) ls (st) n I R) (kt : 0 ≤ x → X g cx mt F cs J ls (.int vb :: st) n I R → X g cx mt F cs tgt ls (st) n I R) (k : X g cx mt F cs J ls (.int (if 0 ≤ x then vb else va) :: st) n I R) : X g cx mt F cs pc ls (.int x :: st) n I R := by
  by_cases hc : 0 ≤ x
  · rw [if_pos hc] at k
    exact x_if_ge tgt hd ht (fun q => kt q k) (fun q => absurd hc q)
  · rw [if_neg hc] at k
    exact x_if_ge tgt hd ht (fun q => absurd q hc) (fun q => kf q k)
theorem x_icmp_geN {a b : Nat} {off : Int} (tgt : Nat) (hd : decode mt.2.1 pc = .ok (.if_icmp .ge off, 3)) (ht : (pc : Int) + off = (tgt : Int)) (ha : a < 2 ^ 31) (hb : b < 2 ^ 31) (kt : b ≤ a → X g cx mt F cs tgt ls (st) n I R) (kf : ¬ b ≤ a → X g cx mt F cs (pc + 3) ls (st) n I R) : X g cx mt F cs pc ls (.int (nI b) :: .int (nI a) :: st) n I R := x_icmp_ge tgt hd ht (fun q => kt ((nI_leI hb ha).mp q)) (fun q => kf (fun z => q ((nI_leI hb ha).mpr z)))
theorem x_dia_icmp_geN {a b : Nat} {va vb : Int32} {off : Int} (tgt J : Nat) (hd : decode mt.2.1 pc = .ok (.if_icmp .ge off, 3)) (ht : (pc : Int) + off = (tgt : Int)) (ha : a < 2 ^ 31) (hb : b < 2 ^ 31) (kf : ¬ b ≤ a → X g cx mt F cs J ls (.int va :: st) n I R → X g cx mt F cs (pc + 3) ls (st) n I R) (kt : b ≤ a → X g cx mt F cs J ls (.int vb :: st) n I R → X g cx mt F cs tgt ls (st) n I R) (k : X g cx mt F cs J ls (.int (if b ≤ a then vb else va) :: st) n I R) : X g cx mt F cs pc ls (.int (nI b) :: .int (nI a) :: st) n I R := by
  by_cases hc : b ≤ a
  · rw [if_pos hc] at k
    exact x_icmp_geN tgt hd ht ha hb (fun q => kt q k) (fun q => absurd hc q)
  · rw [if_neg hc] at k
    exact x_icmp_geN tgt hd ht ha hb (fun q => absurd q hc) (fun q => kf q k)
theorem x_dia_icmp_ge {x y : Int32} {va vb : Int32} {off : Int} (tgt J : Nat) (hd : decode mt.2.1 pc = .ok (.if_icmp .ge off, 3)) (ht : (pc : Int) + off = (tgt : Int)) (kf : ¬ y ≤ x → X g cx mt F cs J ls (.int va :: st) n I R → X g cx mt F cs (pc + 3) ls (st) n I R) (kt : y ≤ x → X g cx mt F cs J ls (.int vb :: st) n I R → X g cx mt F cs tgt ls (st) n I R) (k : X g cx mt F cs J ls (.int (if y ≤ x then vb else va) :: st) n I R) : X g cx mt F cs pc ls (.int y :: .int x :: st) n I R := by
  by_cases hc : y ≤ x
  · rw [if_pos hc] at k
    exact x_icmp_ge tgt hd ht (fun q => kt q k) (fun q => absurd hc q)
  · rw [if_neg hc] at k
    exact x_icmp_ge tgt hd ht (fun q => absurd q hc) (fun q => kf q k)
theorem x_if_neN {a : Nat} {off : Int} (tgt : Nat) (hd : decode mt.2.1 pc = .ok (.ifCond .ne off, 3)) (ht : (pc : Int) + off = (tgt : Int)) (ha : a < 2 ^ 31) (kt : ¬ a = 0 → X g cx mt F cs tgt ls (st) n I R) (kf : a = 0 → X g cx mt F cs (pc + 3) ls (st) n I R) : X g cx mt F cs pc ls (.int (nI a) :: st) n I R := x_if_ne tgt hd ht (fun q => kt (fun z => q ((show nI a = 0 ↔ a = 0 from ⟨fun q => Decidable.byContradiction fun z => nI_ne0 (Nat.pos_of_ne_zero z) ha q, fun q => by rw [q]; rfl⟩).mpr z))) (fun q => kf ((show nI a = 0 ↔ a = 0 from ⟨fun q => Decidable.byContradiction fun z => nI_ne0 (Nat.pos_of_ne_zero z) ha q, fun q => by rw [q]; rfl⟩).mp q))
theorem x_dia_if_ne {x : Int32} {va vb : Int32} {off : Int} (tgt J : Nat) (hd : decode mt.2.1 pc = .ok (.ifCond .ne off, 3)) (ht : (pc : Int) + off = (tgt : Int)) (kf : x = 0 → X g cx mt F cs J ls (.int va :: st) n I R → X g cx mt F cs (pc + 3) ls (st) n I R) (kt : ¬ x = 0 → X g cx mt F cs J ls (.int vb :: st) n I R → X g cx mt F cs tgt ls (st) n I R) (k : X g cx mt F cs J ls (.int (if x = 0 then va else vb) :: st) n I R) : X g cx mt F cs pc ls (.int x :: st) n I R := by
  by_cases hc : x = 0
  · rw [if_pos hc] at k
    exact x_if_ne tgt hd ht (fun q => absurd hc q) (fun q => kf q k)
  · rw [if_neg hc] at k
    exact x_if_ne tgt hd ht (fun q => kt q k) (fun q => absurd q hc)
theorem x_icmp_neN {a b : Nat} {off : Int} (tgt : Nat) (hd : decode mt.2.1 pc = .ok (.if_icmp .ne off, 3)) (ht : (pc : Int) + off = (tgt : Int)) (ha : a < 2 ^ 31) (hb : b < 2 ^ 31) (kt : ¬ a = b → X g cx mt F cs tgt ls (st) n I R) (kf : a = b → X g cx mt F cs (pc + 3) ls (st) n I R) : X g cx mt F cs pc ls (.int (nI b) :: .int (nI a) :: st) n I R := x_icmp_ne tgt hd ht (fun q => kt (fun z => q ((nI_eq ha hb).mpr z))) (fun q => kf ((nI_eq ha hb).mp q))
theorem x_dia_icmp_neN {a b : Nat} {va vb : Int32} {off : Int} (tgt J : Nat) (hd : decode mt.2.1 pc = .ok (.if_icmp .ne off, 3)) (ht : (pc : Int) + off = (tgt : Int)) (ha : a < 2 ^ 31) (hb : b < 2 ^ 31) (kf : a = b → X g cx mt F cs J ls (.int va :: st) n I R → X g cx mt F cs (pc + 3) ls (st) n I R) (kt : ¬ a = b → X g cx mt F cs J ls (.int vb :: st) n I R → X g cx mt F cs tgt ls (st) n I R) (k : X g cx mt F cs J ls (.int (if a = b then va else vb) :: st) n I R) : X g cx mt F cs pc ls (.int (nI b) :: .int (nI a) :: st) n I R := by
  by_cases hc : a = b
  · rw [if_pos hc] at k
    exact x_icmp_neN tgt hd ht ha hb (fun q => absurd hc q) (fun q => kf q k)
  · rw [if_neg hc] at k
    exact x_icmp_neN tgt hd ht ha hb (fun q => kt q k) (fun q => absurd q hc)
theorem x_dia_icmp_ne {x y : Int32} {va vb : Int32} {off : Int} (tgt J : Nat) (hd : decode mt.2.1 pc = .ok (.if_icmp .ne off, 3)) (ht : (pc : Int) + off = (tgt : Int)) (kf : x = y → X g cx mt F cs J ls (.int va :: st) n I R → X g cx mt F cs (pc + 3) ls (st) n I R) (kt : ¬ x = y → X g cx mt F cs J ls (.int vb :: st) n I R → X g cx mt F cs tgt ls (st) n I R) (k : X g cx mt F cs J ls (.int (if x = y then va else vb) :: st) n I R) : X g cx mt F cs pc ls (.int y :: .int x :: st) n I R := by
  by_cases hc : x = y
  · rw [if_pos hc] at k
    exact x_icmp_ne tgt hd ht (fun q => absurd hc q) (fun q => kf q k)
  · rw [if_neg hc] at k
    exact x_icmp_ne tgt hd ht (fun q => kt q k) (fun q => absurd q hc)
theorem x_callSd {mt' : MT} {idx : Nat} {av : List Value} {st0 : List Value} {r : Option Value} {I' : MI} (hsp : Spd mt' av I R r I') (hm : xMS mt') (hl : Cond.methodLink mt.1.cls idx mt'.1 ∈ XT) (hroom : xRoom mt mt') (hd : decode mt.2.1 pc = .ok (.invokestatic idx, 3)) (hst : st0 = av.reverse ++ st) (hn : av.length = mt'.2.2.2.2.2) (hcat : (st.map fun v => v.category).sum ≤ 8) (hcells : cs.1 + mt'.2.2.2.2.1.cells ≤ mt.2.2.2.2.1.cells ∧ cs.2 + mt'.2.2.2.2.1.slots ≤ mt.2.2.2.2.1.slots) (k : X g cx mt F (cs.1 + mt'.2.2.2.2.1.cells, cs.2 + mt'.2.2.2.2.1.slots) (pc + 3) ls (r.toList ++ st) 131 I' R) : X g cx mt F cs pc ls st0 131 I R := x_callS hsp hm hl hroom hd hst hn hcat (fun r' n' I2 R2 h => by obtain ⟨rfl, rfl, rfl, rfl⟩ := h; exact k) hcells
theorem x_callSNd {mt' : MT} {idx : Nat} {host : String} {av : List Value} {st0 : List Value} {r : Option Value} {I' : MI} (hsp : Spd mt' av I R r I') (hm : xMS mt') (hl : Cond.methodLinkNest mt.1.cls idx mt'.1 host ∈ xNW) (hroom : xRoom mt mt') (hd : decode mt.2.1 pc = .ok (.invokestatic idx, 3)) (hst : st0 = av.reverse ++ st) (hn : av.length = mt'.2.2.2.2.2) (hcat : (st.map fun v => v.category).sum ≤ 8) (hcells : cs.1 + mt'.2.2.2.2.1.cells ≤ mt.2.2.2.2.1.cells ∧ cs.2 + mt'.2.2.2.2.1.slots ≤ mt.2.2.2.2.1.slots) (k : X g cx mt F (cs.1 + mt'.2.2.2.2.1.cells, cs.2 + mt'.2.2.2.2.1.slots) (pc + 3) ls (r.toList ++ st) 131 I' R) : X g cx mt F cs pc ls st0 131 I R := x_callSN hsp hm hl hroom hd hst hn hcat (fun r' n' I2 R2 h => by obtain ⟨rfl, rfl, rfl, rfl⟩ := h; exact k) hcells
theorem x_callVd {mt' : MT} {idx b c : Nat} {av : List Value} {st0 : List Value} {r : Option Value} {I' : MI} (hsp : Spd mt' (.ref b :: av) I R r I') (hm : xMV mt' c) (hl : Cond.methodLink mt.1.cls idx mt'.1 ∈ XT) (hroom : xRoom mt mt') (hd : decode mt.2.1 pc = .ok (.invokevirtual idx, 3)) (hk : xkd b = c) (hb : b < 131) (hst : st0 = av.reverse ++ .ref b :: st) (hn : av.length = mt'.2.2.2.2.2) (hcat : (st.map fun v => v.category).sum ≤ 8) (hcells : cs.1 + mt'.2.2.2.2.1.cells ≤ mt.2.2.2.2.1.cells ∧ cs.2 + mt'.2.2.2.2.1.slots ≤ mt.2.2.2.2.1.slots) (k : X g cx mt F (cs.1 + mt'.2.2.2.2.1.cells, cs.2 + mt'.2.2.2.2.1.slots) (pc + 3) ls (r.toList ++ st) 131 I' R) : X g cx mt F cs pc ls st0 131 I R := x_callV hsp hm hl hroom hd hk hb hst hn hcat (fun r' n' I2 R2 h => by obtain ⟨rfl, rfl, rfl, rfl⟩ := h; exact k) hcells
theorem Spd.mk {mt : MT} {av : List Value} {I I' : MI} {R : MR} {r : Option Value} (hp : plainName mt.1.cls = true) (hc : ∀ v ∈ av, v.category = 1) (hl : av.length ≤ mt.2.2.1) (h : ∀ (g : GX) (cx : CX), X g cx mt (xF g cx mt (fun r' n' I2 R2 => r' = r ∧ n' = 131 ∧ I2 = I' ∧ R2 = R)) (0, 0) 0 (xEn av mt.2.2.1) [] 131 I R) : Spd mt av I R r I' := Sp.mk hp hc hl h
end XN
