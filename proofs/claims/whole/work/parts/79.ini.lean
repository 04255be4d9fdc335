/-! what holds at the law's entry, in the flat machine's words *)
-/
theorem ht_SR0 : Cond.stringRef RX2 97 "say" ∈ lw_tbl := List.mem_append_right _ (List.mem_append_right _ (List.mem_append_right _ (List.mem_append_left _ (List.mem_of_getElem? (i := 9) (by decide +kernel)))))
theorem ht_SR1 : Cond.stringRef RX2 99 "hear" ∈ lw_tbl := List.mem_append_right _ (List.mem_append_right _ (List.mem_append_right _ (List.mem_append_left _ (List.mem_of_getElem? (i := 10) (by decide +kernel)))))
theorem ht_SR2 : Cond.stringRef RX2 101 "hold" ∈ lw_tbl := List.mem_append_right _ (List.mem_append_right _ (List.mem_append_right _ (List.mem_append_left _ (List.mem_of_getElem? (i := 11) (by decide +kernel)))))
theorem ht_SR3 : Cond.stringRef RX2 103 "stick" ∈ lw_tbl := List.mem_append_right _ (List.mem_append_right _ (List.mem_append_right _ (List.mem_append_left _ (List.mem_of_getElem? (i := 12) (by decide +kernel)))))
theorem ht_SR4 : Cond.stringRef RX2 105 "run" ∈ lw_tbl := List.mem_append_right _ (List.mem_append_right _ (List.mem_append_right _ (List.mem_append_left _ (List.mem_of_getElem? (i := 13) (by decide +kernel)))))
theorem ht_AO1 : Cond.arrayOver (.object RX1) ∈ lw_tbl := List.mem_append_right _ (List.mem_append_left _ (List.mem_of_getElem? (i := 32) (by decide +kernel)))
theorem ht_AO3 : Cond.arrayOver (.object RX3) ∈ lw_tbl := List.mem_append_right _ (List.mem_append_left _ (List.mem_of_getElem? (i := 30) (by decide +kernel)))
theorem ht_AO4 : Cond.arrayOver (.object RX4) ∈ lw_tbl := List.mem_append_right _ (List.mem_append_left _ (List.mem_of_getElem? (i := 161) (by decide +kernel)))
theorem ht_LM : Cond.laysStatic "PulledWires" "MOST_SETTING" "[I" ∈ lw_tbl := List.mem_append_right _ (List.mem_append_right _ (List.mem_append_left _ (List.mem_of_getElem? (i := 82) (by decide +kernel))))
theorem ht_LC : Cond.laysStatic "java/lang/String" "COMPACT_STRINGS" "Z" ∈ lw_tbl := List.mem_append_right _ (List.mem_append_right _ (List.mem_append_right _ (List.mem_append_left _ (List.mem_of_getElem? (i := 27) (by decide +kernel)))))
theorem ht_LF : Cond.laysStatic "jdk/internal/util/Preconditions" "SIOOBE_FORMATTER" "Ljava/util/function/BiFunction;" ∈ lw_tbl := List.mem_append_right _ (List.mem_append_right _ (List.mem_append_right _ (List.mem_append_left _ (List.mem_of_getElem? (i := 43) (by decide +kernel)))))
def tmS (i : Nat) : Term := .string RX2 (97 + 2 * i)
def lnS : List Nat := [3, 4, 4, 5, 3]
def byS : List (List Int32) := [[115, 97, 121], [104, 101, 97, 114], [104, 111, 108, 100], [115, 116, 105, 99, 107], [114, 117, 110]]
abbrev NAR : List Jvm.Cond := flatC (Jvm.Cond.and given_1 narrow_1)
theorem na_ex : ∀ i, i < 5 → Cond.exactly (tmS i) "java/lang/String" ∈ NAR := by
  intro i hi
  rcases (show i = 0 ∨ i = 1 ∨ i = 2 ∨ i = 3 ∨ i = 4 by omega) with rfl | rfl | rfl | rfl | rfl <;> decide +kernel
theorem na_co : ∀ i, i < 5 → Cond.eq (.field (tmS i) "java/lang/String" "coder" "B") (.int 0) ∈ NAR := by
  intro i hi
  rcases (show i = 0 ∨ i = 1 ∨ i = 2 ∨ i = 3 ∨ i = 4 by omega) with rfl | rfl | rfl | rfl | rfl <;> decide +kernel
theorem na_ar : ∀ i, i < 5 → Cond.arrayOf (.field (tmS i) "java/lang/String" "value" "[B") .byte ∈ NAR := by
  intro i hi
  rcases (show i = 0 ∨ i = 1 ∨ i = 2 ∨ i = 3 ∨ i = 4 by omega) with rfl | rfl | rfl | rfl | rfl <;> decide +kernel
theorem na_le : ∀ i, i < 5 → Cond.eq (.length (.field (tmS i) "java/lang/String" "value" "[B")) (.int (Int32.ofNat (lnS.getD i 0))) ∈ NAR := by
  intro i hi
  rcases (show i = 0 ∨ i = 1 ∨ i = 2 ∨ i = 3 ∨ i = 4 by omega) with rfl | rfl | rfl | rfl | rfl <;> decide +kernel
theorem na_el : ∀ i, i < 5 → ∀ j, j < lnS.getD i 0 → Cond.eq (.elem (.field (tmS i) "java/lang/String" "value" "[B") (.int (Int32.ofNat j))) (.int ((byS.getD i []).getD j 0)) ∈ NAR := by
  have key : ∀ i, i < 5 → lnS.getD i 0 ≤ 5 := by decide
  intro i hi j hj
  have hj5 : j < 5 := Nat.lt_of_lt_of_le hj (key i hi)
  rcases (show i = 0 ∨ i = 1 ∨ i = 2 ∨ i = 3 ∨ i = 4 by omega) with rfl | rfl | rfl | rfl | rfl <;> rcases (show j = 0 ∨ j = 1 ∨ j = 2 ∨ j = 3 ∨ j = 4 by omega) with rfl | rfl | rfl | rfl | rfl <;> first | exact absurd hj (by decide) | decide +kernel
theorem na_ne : ∀ i j, i < 5 → j < 5 → i ≠ j → Cond.not (Cond.eq (tmS i) (tmS j)) ∈ NAR ∨ Cond.not (Cond.eq (tmS j) (tmS i)) ∈ NAR := by
  intro i j hi hj hne
  rcases (show i = 0 ∨ i = 1 ∨ i = 2 ∨ i = 3 ∨ i = 4 by omega) with rfl | rfl | rfl | rfl | rfl <;> rcases (show j = 0 ∨ j = 1 ∨ j = 2 ∨ j = 3 ∨ j = 4 by omega) with rfl | rfl | rfl | rfl | rfl <;> first | exact absurd rfl hne | exact Or.inl (by decide +kernel) | exact Or.inr (by decide +kernel)
section CL
variable {s : State} {args : Array Value}
theorem ini_S (hs : ∀ c ∈ NAR, c.before args s = true) (A : Nat → Prop) (hA : ∀ a : Nat, a < s.heap.size → ¬ A a) : ∃ adK adV : Nat → Nat, vk_S 5 lnS byS adK adV A s s.heap ∧ ∀ i : Nat, i < 5 → (tmS i).eval args s none [] s = some (.ref (adK i)) := by
  have hN : ∀ i, i < 5 → lnS.getD i 0 < 2 ^ 31 := fun i hi => by
    have key : ∀ i, i < 5 → lnS.getD i 0 ≤ 5 := by decide
    have := key i hi
    omega
  exact vk_Sof hN (fun i hi => hs _ (na_ex i hi)) (fun i hi => hs _ (na_co i hi)) (fun i hi => hs _ (na_ar i hi)) (fun i hi => hs _ (na_le i hi)) (fun i hi j hj => hs _ (na_el i hi j hj)) (fun i j hi hj h => (na_ne i j hi hj h).imp (fun q => hs _ q) (fun q => hs _ q)) hA
theorem ini_C (hts : ∀ w ∈ lw_tbl, w.before args s = true) : ∃ D : va_G, ∀ (c : Nat) (q : vw_C), vwCl[c]? = some q → u_Kn s q.1 q.2.1 q.2.2 (D.1 c) (D.2 c) := by
  have hx : ∀ w ∈ XT, w.before args s = true := fun w hw => hts w (List.mem_filter.mp hw).1
  obtain ⟨c0, i0, k0⟩ := u_known (C := RX0) (T := TX0) (N := 3) (n := 3) hx wu_0 (hx _ wq_X0)
  obtain ⟨c1, i1, k1⟩ := u_known (C := RX1) (T := TX1) (N := 5) (n := 5) hx wu_1 (hx _ wq_X1)
  obtain ⟨c2, i2, k2⟩ := u_known (C := RX2) (T := TX2) (N := 5) (n := 5) hx wu_2 (hx _ wq_X2)
  obtain ⟨c3, i3, k3⟩ := u_known (C := RX3) (T := TX3) (N := 8) (n := 8) hx wu_3 (hx _ wq_X3)
  obtain ⟨c4, i4, k4⟩ := u_known (C := RX4) (T := TX4) (N := 11) (n := 11) hx wu_4 (hx _ wq_X4)
  obtain ⟨c5, i5, k5⟩ := u_known (C := RX5) (T := TX5) (N := 9) (n := 9) hx wu_5 (hx _ wq_X5)
  obtain ⟨c6, i6, k6⟩ := u_known (C := RX6) (T := TX6) (N := 17) (n := 17) hx wu_6 (hx _ wq_X6)
  refine ⟨(fun k => if k = 0 then c0 else if k = 1 then c1 else if k = 2 then c2 else if k = 3 then c3 else if k = 4 then c4 else if k = 5 then c5 else c6, fun k => if k = 0 then i0 else if k = 1 then i1 else if k = 2 then i2 else if k = 3 then i3 else if k = 4 then i4 else if k = 5 then i5 else i6), fun c q hq => ?_⟩
  match c, hq with
  | 0, hq => cases hq; exact k0
  | 1, hq => cases hq; exact k1
  | 2, hq => cases hq; exact k2
  | 3, hq => cases hq; exact k3
  | 4, hq => cases hq; exact k4
  | 5, hq => cases hq; exact k5
  | 6, hq => cases hq; exact k6
  | c + 7, hq => simp [vwCl] at hq
theorem ini_P {t : FieldType} (ht : ∀ C, t ≠ .object C) (h : (Cond.arrayClass t).before args s = true) : ∃ cA : ClassId, ArrOfT s cA t ∧ va_RA s cA t := by
  obtain ⟨c, k, comp, h1, h2, h3⟩ := Cond.arrayClass_spec h
  refine ⟨c, fun n z => ⟨(fun k h => by cases h), k, h2, comp, h3⟩, ?_⟩
  cases t <;> first | exact h1 | exact absurd rfl (ht _)
theorem ini_O {C : String} (h : (Cond.arrayOver (.object C)).before args s = true) : ∃ cA : ClassId, ArrOfT s cA (.object C) ∧ va_RA s cA (.object C) := by
  obtain ⟨comp, c, k, h1, h2, h3, h4, h5⟩ := Cond.arrayOver_spec h
  exact ⟨c, fun n z => ⟨(fun k h => by cases h), k, h3, comp, h4⟩, k, comp, h3, h4, h1, h5⟩
theorem vk_S.cgr {N : Nat} {len : List Nat} {byt : List (List Int32)} {adK adV adK' adV' : Nat → Nat} {A : Nat → Prop} {U : State} {H : Heap} (h : vk_S N len byt adK adV A U H) (h1 : ∀ i, i < N → adK' i = adK i) (h2 : ∀ i, i < N → adV' i = adV i) : vk_S N len byt adK' adV' A U H :=
  ⟨fun i hi => by rw [h1 i hi, h2 i hi]; exact h.1 i hi, fun i j hi hj e => h.2 i j hi hj (by rw [← h1 i hi, ← h1 j hj]; exact e)⟩
def gad (adK adV : Nat → Nat) (tM tF b : Nat) : Nat → Nat := fun i => if i < 5 then adK i else if i = 5 then tM else if i = 6 then tF else if i = 7 then b else adV (i - 10)
theorem gad_v {adK adV : Nat → Nat} {tM tF b i : Nat} : gad adK adV tM tF b (10 + i) = adV i := by
  unfold gad
  rw [if_neg (by omega), if_neg (by omega), if_neg (by omega), if_neg (by omega), show 10 + i - 10 = i by omega]
def gar (c7 c8 c9 c10 c11 : ClassId) : Nat → ClassId := fun k => if k = 7 then c7 else if k = 8 then c8 else if k = 9 then c9 else if k = 10 then c10 else c11
theorem ini_g (hts : ∀ w ∈ lw_tbl, w.before args s = true) (hs : ∀ c ∈ NAR, c.before args s = true) (b : Nat) : ∃ g : GX, g.1.1 = s.heap.size ∧ g.1.2 7 = b ∧ xKV g s ∧ xKH g s s.heap := by
  have hx : ∀ w ∈ XT, w.before args s = true := fun w hw => hts w (List.mem_filter.mp hw).1
  have hA : ∀ a : Nat, a < s.heap.size → ¬ (fun q : Nat => s.heap.size ≤ q) a := fun a h => Nat.not_le.mpr h
  obtain ⟨adK, adV, hS, hT⟩ := ini_S hs _ hA
  obtain ⟨D, hD⟩ := ini_C hts
  obtain ⟨c7, a7⟩ := ini_P (t := .char) (fun C q => by cases q) (hx _ wa_char)
  obtain ⟨c8, a8⟩ := ini_P (t := .int) (fun C q => by cases q) (hx _ wa_int)
  obtain ⟨c9, a9⟩ := ini_O (hts _ ht_AO1)
  obtain ⟨c10, a10⟩ := ini_O (hts _ ht_AO3)
  obtain ⟨c11, a11⟩ := ini_O (hts _ ht_AO4)
  have hCS : va_Z "java/lang/String" "COMPACT_STRINGS" "Z" (.int 1) (fun q : Nat => s.heap.size ≤ q) s s.heap := va_Zof (hts _ ht_LC) (hx _ wz_J0) (va_eqi (hs (Cond.eq (.static "java/lang/String" "COMPACT_STRINGS" "Z") (.int 1)) (by decide +kernel))) hA
  have hSF : va_Zq "jdk/internal/util/Preconditions" "SIOOBE_FORMATTER" "Ljava/util/function/BiFunction;" (fun q : Nat => s.heap.size ≤ q) s s.heap := va_Zqof (hts _ ht_LF) (hx _ wz_J3) (hs (Cond.isRef (.static "jdk/internal/util/Preconditions" "SIOOBE_FORMATTER" "Ljava/util/function/BiFunction;")) (by decide +kernel)) hA
  obtain ⟨tM, hv, hM⟩ := va_Tof (args := args) (s := s) (tm := .static "PulledWires" "MOST_SETTING" "[I") (ty := .int) (N := 3) (f := fun j => .int (([20, 9, 99] : List Int32).getD j 0)) (A := fun q : Nat => s.heap.size ≤ q) (by decide) (hs (Cond.arrayOf (.static "PulledWires" "MOST_SETTING" "[I") .int) (by decide +kernel)) (va_eqt (hs (Cond.eq (.length (.static "PulledWires" "MOST_SETTING" "[I")) (.int 3)) (by decide +kernel))) (fun j hj => by
    rcases (show j = 0 ∨ j = 1 ∨ j = 2 by omega) with rfl | rfl | rfl
    · exact va_eqt (hs (Cond.eq (.elem (.static "PulledWires" "MOST_SETTING" "[I") (.int 0)) (.int 20)) (by decide +kernel))
    · exact va_eqt (hs (Cond.eq (.elem (.static "PulledWires" "MOST_SETTING" "[I") (.int 1)) (.int 9)) (by decide +kernel))
    · exact va_eqt (hs (Cond.eq (.elem (.static "PulledWires" "MOST_SETTING" "[I") (.int 2)) (.int 99)) (by decide +kernel))) hA
  have hZM := va_Zref (hts _ ht_LM) (hx _ wz_X5) hv hA
  obtain ⟨tF, hF⟩ : ∃ tF : Nat, va_Z "jdk/internal/util/Preconditions" "SIOOBE_FORMATTER" "Ljava/util/function/BiFunction;" .null (fun q : Nat => s.heap.size ≤ q) s s.heap ∨ va_Z "jdk/internal/util/Preconditions" "SIOOBE_FORMATTER" "Ljava/util/function/BiFunction;" (.ref tF) (fun q : Nat => s.heap.size ≤ q) s s.heap := by
    rcases hSF with h | ⟨t, h⟩
    · exact ⟨0, Or.inl h⟩
    · exact ⟨t, Or.inr h⟩
  have hT0 : (Term.string RX2 97).eval args s none [] s = some (.ref (adK 0)) := hT 0 (by omega)
  have hT1 : (Term.string RX2 99).eval args s none [] s = some (.ref (adK 1)) := hT 1 (by omega)
  have hT2 : (Term.string RX2 101).eval args s none [] s = some (.ref (adK 2)) := hT 2 (by omega)
  have hT3 : (Term.string RX2 103).eval args s none [] s = some (.ref (adK 3)) := hT 3 (by omega)
  have hT4 : (Term.string RX2 105).eval args s none [] s = some (.ref (adK 4)) := hT 4 (by omega)
  refine ⟨((s.heap.size, gad adK adV tM tF b), D, gar c7 c8 c9 c10 c11), rfl, rfl, ⟨⟨hD, fun k q hq => ?_⟩, fun w hw => ?_, ⟨va_AO.of (hts _ ht_AO1), va_AO.of (hts _ ht_AO3), va_AO.of (hts _ ht_AO4)⟩, vk_R.of (hts _ ht_SR0) hT0, vk_R.of (hts _ ht_SR1) hT1, vk_R.of (hts _ ht_SR2) hT2, vk_R.of (hts _ ht_SR3) hT3, vk_R.of (hts _ ht_SR4) hT4⟩, ⟨?_, ⟨hCS, hF⟩, hZM, hM⟩⟩
  · match k, hq with
    | 0, hq => cases hq; exact a7
    | 1, hq => cases hq; exact a8
    | 2, hq => cases hq; exact a9
    | 3, hq => cases hq; exact a10
    | 4, hq => cases hq; exact a11
    | k + 5, hq => simp [xTys] at hq
  · have h0 := hts w (List.mem_filter.mp hw).1
    have h1 := (List.mem_filter.mp hw).2
    revert h0
    split at h1
    · exact fun h0 => va_tabs rfl rfl h0
    · exact fun h0 => va_tabs rfl rfl h0
    · cases h1
  · refine hS.cgr (fun i hi => ?_) (fun i hi => gad_v)
    show gad adK adV tM tF b i = adK i
    unfold gad
    rw [if_pos hi]
end CL
