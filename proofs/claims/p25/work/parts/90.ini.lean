/-! what holds at the law's entry, in the flat machine's words -/
theorem ht_AO1 : Cond.arrayOver (.object RX1) ∈ lw_tbl := List.mem_append_right _ (List.mem_append_left _ (List.mem_of_getElem? (i := 27) (by decide +kernel)))
theorem ht_AO3 : Cond.arrayOver (.object RX3) ∈ lw_tbl := List.mem_append_right _ (List.mem_append_left _ (List.mem_of_getElem? (i := 25) (by decide +kernel)))
theorem ht_AO4 : Cond.arrayOver (.object RX4) ∈ lw_tbl := List.mem_append_right _ (List.mem_append_left _ (List.mem_of_getElem? (i := 156) (by decide +kernel)))
theorem ht_LM : Cond.laysStatic "PulledWires" "MOST_SETTING" "[I" ∈ lw_tbl := List.mem_append_right _ (List.mem_append_right _ (List.mem_append_left _ (List.mem_of_getElem? (i := 88) (by decide +kernel))))
abbrev NAR : List Jvm.Cond := flatC (Jvm.Cond.and given_1 narrow_1)
section CL
variable {s : State} {args : Array Value}
theorem ini_C (hts : ∀ w ∈ lw_tbl, w.before args s = true) : ∃ D : va_G, ∀ (c : Nat) (q : vw_C), vwCl[c]? = some q → u_Kn s q.1 q.2.1 q.2.2 (D.1 c) (D.2 c) := by
  have hx : ∀ w ∈ XT, w.before args s = true := fun w hw => hts w (List.mem_filter.mp hw).1
  obtain ⟨c0, i0, k0⟩ := u_known (C := RX0) (T := TX0) (N := 3) (n := 3) hx wu_0 (hx _ wq_X0)
  obtain ⟨c1, i1, k1⟩ := u_known (C := RX1) (T := TX1) (N := 5) (n := 5) hx wu_1 (hx _ wq_X1)
  obtain ⟨c2, i2, k2⟩ := u_known (C := RX2) (T := TX2) (N := 5) (n := 5) hx wu_2 (hx _ wq_X2)
  obtain ⟨c3, i3, k3⟩ := u_known (C := RX3) (T := TX3) (N := 8) (n := 8) hx wu_3 (hx _ wq_X3)
  obtain ⟨c4, i4, k4⟩ := u_known (C := RX4) (T := TX4) (N := 11) (n := 11) hx wu_4 (hx _ wq_X4)
  obtain ⟨c5, i5, k5⟩ := u_known (C := RX5) (T := TX5) (N := 9) (n := 9) hx wu_5 (hx _ wq_X5)
  refine ⟨(fun k => if k = 0 then c0 else if k = 1 then c1 else if k = 2 then c2 else if k = 3 then c3 else if k = 4 then c4 else c5, fun k => if k = 0 then i0 else if k = 1 then i1 else if k = 2 then i2 else if k = 3 then i3 else if k = 4 then i4 else i5), fun c q hq => ?_⟩
  match c, hq with
  | 0, hq => cases hq; exact k0
  | 1, hq => cases hq; exact k1
  | 2, hq => cases hq; exact k2
  | 3, hq => cases hq; exact k3
  | 4, hq => cases hq; exact k4
  | 5, hq => cases hq; exact k5
  | c + 6, hq => simp [vwCl] at hq
theorem ini_P {t : FieldType} (ht : ∀ C, t ≠ .object C) (h : (Cond.arrayClass t).before args s = true) : ∃ cA : ClassId, ArrOfT s cA t ∧ va_RA s cA t := by
  obtain ⟨c, k, comp, h1, h2, h3⟩ := Cond.arrayClass_spec h
  refine ⟨c, fun n z => ⟨(fun k h => by cases h), k, h2, comp, h3⟩, ?_⟩
  cases t <;> first | exact h1 | exact absurd rfl (ht _)
theorem ini_O {C : String} (h : (Cond.arrayOver (.object C)).before args s = true) : ∃ cA : ClassId, ArrOfT s cA (.object C) ∧ va_RA s cA (.object C) := by
  obtain ⟨comp, c, k, h1, h2, h3, h4, h5⟩ := Cond.arrayOver_spec h
  exact ⟨c, fun n z => ⟨(fun k h => by cases h), k, h3, comp, h4⟩, k, comp, h3, h4, h1, h5⟩
def gar (c7 c8 c9 c10 c11 : ClassId) : Nat → ClassId := fun k => if k = 7 then c7 else if k = 8 then c8 else if k = 9 then c9 else if k = 10 then c10 else c11
theorem ini_g (hts : ∀ w ∈ lw_tbl, w.before args s = true) (hs : ∀ c ∈ NAR, c.before args s = true) {b L : Nat} {xs : Nat → Int32} (hL : L ≤ 260) (hX : va_X b L xs s s.heap) (hbl : b < s.heap.size) : ∃ g : GX, g.1.1 = s.heap.size ∧ g.1.2 7 = b ∧ g.1.2 30 = 0 ∧ xKV g s ∧ xKH g s s.heap := by
  have hx : ∀ w ∈ XT, w.before args s = true := fun w hw => hts w (List.mem_filter.mp hw).1
  have hA : ∀ a : Nat, a < s.heap.size → ¬ (fun q : Nat => s.heap.size ≤ q) a := fun a h => Nat.not_le.mpr h
  obtain ⟨D, hD⟩ := ini_C hts
  obtain ⟨c7, a7⟩ := ini_P (t := .char) (fun C q => by cases q) (hx _ wa_char)
  obtain ⟨c8, a8⟩ := ini_P (t := .int) (fun C q => by cases q) (hx _ wa_int)
  obtain ⟨c9, a9⟩ := ini_O (hts _ ht_AO1)
  obtain ⟨c10, a10⟩ := ini_O (hts _ ht_AO3)
  obtain ⟨c11, a11⟩ := ini_O (hts _ ht_AO4)
  obtain ⟨tM, hv, hM⟩ := va_Tof (args := args) (s := s) (tm := .static "PulledWires" "MOST_SETTING" "[I") (ty := .int) (N := 3) (f := fun j => .int (([20, 9, 99] : List Int32).getD j 0)) (A := fun q : Nat => s.heap.size ≤ q) (by decide) (hs (Cond.arrayOf (.static "PulledWires" "MOST_SETTING" "[I") .int) (by decide +kernel)) (va_eqt (hs (Cond.eq (.length (.static "PulledWires" "MOST_SETTING" "[I")) (.int 3)) (by decide +kernel))) (fun j hj => by
    rcases (show j = 0 ∨ j = 1 ∨ j = 2 by omega) with rfl | rfl | rfl
    · exact va_eqt (hs (Cond.eq (.elem (.static "PulledWires" "MOST_SETTING" "[I") (.int 0)) (.int 20)) (by decide +kernel))
    · exact va_eqt (hs (Cond.eq (.elem (.static "PulledWires" "MOST_SETTING" "[I") (.int 1)) (.int 9)) (by decide +kernel))
    · exact va_eqt (hs (Cond.eq (.elem (.static "PulledWires" "MOST_SETTING" "[I") (.int 2)) (.int 99)) (by decide +kernel))) hA
  have hZM := va_Zref (hts _ ht_LM) (hx _ wz_X5) hv hA
  obtain ⟨scr, h1, h2, h3, h4, h5⟩ := hX
  refine ⟨((s.heap.size, fun i => if i = 5 then tM else if i = 7 then b else 0), D, gar c7 c8 c9 c10 c11), rfl, rfl, rfl, ⟨⟨hD, fun k q hq => ?_⟩, fun w hw => ?_, ⟨va_AO.of (hts _ ht_AO1), va_AO.of (hts _ ht_AO3), va_AO.of (hts _ ht_AO4)⟩, trivial⟩, ⟨⟨L, xs, hL, scr, h1, h2, h3, Nat.le_of_eq h4.symm, by rw [h4], h5, Nat.not_le.mpr hbl⟩, trivial, hZM, hM⟩⟩
  · match k, hq with
    | 0, hq => cases hq; exact a7
    | 1, hq => cases hq; exact a8
    | 2, hq => cases hq; exact a9
    | 3, hq => cases hq; exact a10
    | 4, hq => cases hq; exact a11
    | k + 5, hq => simp [xTys] at hq
  · have h0 := hts w (List.mem_filter.mp hw).1
    have h1 := (List.mem_filter.mp hw).2
    revert h0
    split at h1
    · exact fun h0 => va_tabs rfl rfl h0
    · exact fun h0 => va_tabs rfl rfl h0
    · cases h1
end CL
