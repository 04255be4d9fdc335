/-! the law's small methods: a cell of the script, a number below another -/
section XS
variable {g : GX} {cx : CX} {mt : MT} {F : State → Prop} {cs : Nat × Nat} {pc : Nat} {ls : List (Option Value)} {st : List Value} {n : Nat} {I : MI} {R : MR}
/-- the script is known -/
def SK (g : GX) (cx : CX) (L : Nat) (xs : Nat → Int32) : Prop := va_T .int (g.1.2 7) L (fun j => .int (xs j)) (fun q => g.1.1 ≤ q) cx.2.2.2.1 cx.2.2.2.1.heap
theorem x_scr (kk : ∀ L xs, L ≤ 260 → SK g cx L xs → X g cx mt F cs pc ls st n I R) : X g cx mt F cs pc ls st n I R := by
  intro ok H locs lsA hR hS hL
  obtain ⟨L, xs, h1, h2⟩ := ok.2.2.2.2.2.2.2.2.2.2.1
  exact kk L xs h1 h2 ok H locs lsA hR hS hL
theorem x_slenK {L : Nat} {xs : Nat → Int32} (hX : SK g cx L xs) (hd : decode mt.2.1 pc = .ok (.arraylength, 1)) (kk : X g cx mt F cs (pc + 1) ls (.int (nI L) :: st) n I R) : X g cx mt F cs pc ls (.ref 1007 :: st) n I R := by
  intro ok H locs lsA hR hS hL
  obtain ⟨cell, h1, h2, h3, h4, h5, h6, h7⟩ := hX.kept hS.2.1
  exact W.alen (n := nI L) ok.1 ok.2.1 h1 h2 h5 rfl rfl hd (kk ok H locs lsA hR hS hL)
theorem x_sldK {L j : Nat} {xs : Nat → Int32} (hX : SK g cx L xs) (hL2 : L ≤ 260) (hj : j < L) (hd : decode mt.2.1 pc = .ok (.iaload, 1)) (kk : X g cx mt F cs (pc + 1) ls (.int (xs j) :: st) n I R) : X g cx mt F cs pc ls (.int (nI j) :: .ref 1007 :: st) n I R := by
  intro ok H locs lsA hR hS hL
  obtain ⟨cell, h1, h2, h3, h4, h5, h6, h7⟩ := hX.kept hS.2.1
  have hc : (nI j).toNatClampNeg = j := nI_clamp (by omega)
  exact W.iald (v := .int (xs j)) ok.1 ok.2.1 h1 h2 h3 (by
    rw [hc]
    rintro (q | q)
    · exact nI_pos (by omega) q
    · omega) (by rw [hc]; exact h6 j hj) rfl rfl hd (kk ok H locs lsA hR hS hL)
end XS
theorem ite_n {c : Prop} {hc : Decidable c} {a b N : Nat} (ha : a < N) (hb : b < N) : ∃ z, z < N ∧ (@ite Int32 c hc (nI a) (nI b)) = nI z := by
  by_cases q : c
  · exact ⟨a, ha, if_pos q⟩
  · exact ⟨b, hb, if_neg q⟩
def lw (x : Int32) (n : Nat) : Nat := (x &&& 2147483647).toNatClampNeg % n
theorem lw_small {x : Int32} {n : Nat} (hn : 0 < n) (hn2 : n < 2 ^ 31 := by omega) : lw x n < 2 ^ 31 := by have := Nat.mod_lt (x &&& 2147483647).toNatClampNeg hn; unfold lw; omega
theorem lw_lt {x : Int32} {n : Nat} (hn : 0 < n) : lw x n < n := Nat.mod_lt _ hn
section CL
variable {I : MI} {R : MR}
theorem sp_low {x : Int32} {n : Nat} (hn : 0 < n) (hn2 : n < 2 ^ 31) : Spd mL_low [.int x, .int (nI n)] I R (some (.int (nI (lw x n)))) I := by
  refine Spd.mk (by decide +kernel) (by simp [Value.category]) (Nat.le_of_ble_eq_true rfl) (fun g cx => ?_)
  obtain ⟨j, hj, e⟩ := pk_andE x (m := 2147483647) 31 (by decide)
  have el : lw x n = j % n := by unfold lw; rw [e, nI_cl hj]
  rw [el]
  refine x_iload_n dL_low_0 rfl rfl ?_
  refine x_ldc 2147483647 wx_L_7 dL_low_1 ?_
  refine x_iand dL_low_3 (x_eqtop e ?_)
  refine x_iload_n dL_low_4 rfl rfl ?_
  refine x_iremN dL_low_5 hj hn hn2 ?_
  refine x_iret dL_low_6 rfl (by decide) (by decide) ?_
  exact ⟨rfl, rfl, rfl, rfl⟩
theorem sp_cell {j : Nat} (hj : j < 56) : Sp mL_cell [.ref 1007, .int (nI j)] 131 I R (fun r n' I' R' => ∃ x : Int32, r = some (.int x) ∧ n' = 131 ∧ I' = I ∧ R' = R) := by
  refine Sp.mk (by decide +kernel) (by simp [Value.category]) (Nat.le_of_ble_eq_true rfl) (fun g cx => ?_)
  refine x_scr (fun L xs hL hX => ?_)
  refine x_iload_n dL_cell_0 rfl rfl ?_
  refine x_aload_n dL_cell_1 rfl rfl ?_
  refine x_slenK hX dL_cell_2 ?_
  refine x_icmp_geN 12 dL_cell_3 (by decide) (by omega) (by omega) (fun c3 => ?_) (fun c3 => ?_)
  · refine x_sipush (nI 7919) dL_cell_12 (by decide) ?_
    refine x_iload_n dL_cell_15 rfl rfl ?_
    refine x_iconst (nI 3) dL_cell_16 (by decide) ?_
    refine x_iadd dL_cell_17 ?_
    refine x_imul dL_cell_18 ?_
    refine x_iload_n dL_cell_19 rfl rfl ?_
    refine x_bipush (nI 11) dL_cell_20 (by decide) ?_
    refine x_iadd dL_cell_22 ?_
    refine x_imul dL_cell_23 ?_
    refine x_iret dL_cell_24 rfl (by decide) (by decide) ?_
    exact ⟨_, rfl, rfl, rfl, rfl⟩
  · refine x_aload_n dL_cell_6 rfl rfl ?_
    refine x_iload_n dL_cell_7 rfl rfl ?_
    refine x_sldK hX hL (by omega) dL_cell_8 ?_
    refine x_goto 24 dL_cell_9 (by decide) ?_
    refine x_iret dL_cell_24 rfl (by decide) (by decide) ?_
    exact ⟨_, rfl, rfl, rfl, rfl⟩
end CL
