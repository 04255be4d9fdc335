/-! THE FLAT MACHINE. Objects have numbers 0 .. 130 in the order in which the law makes them (numbers from 1000 on are the constants that were there before); what they hold is a number (I) or the number of another object (R). X says: from here the machine comes to a state with F. -/
abbrev MI : Type := Nat → Nat → Int32
abbrev MR : Type := Nat → Nat → Option Nat
abbrev GX : Type := (Nat × (Nat → Nat)) × va_G × (Nat → ClassId)
abbrev CX : Type := Program × Launch × Env × State × MethodId × Array Value × List Frame × Method × Code
abbrev MT : Type := MethodName × ByteArray × Nat × Option FieldType × Room × Nat
/-- kind and length of each object -/
def xkL : List (Nat × Nat) :=
  let sp : List (Nat × Nat) := [(3, 0), (8, 15)]
  let stt : List (Nat × Nat) := [(4, 0), (10, 4), (9, 4), (8, 3), (0, 0), (8, 256)] ++ sp ++ sp ++ sp ++ sp ++ [(1, 0), (1, 0), (1, 0), (1, 0)]
  [(5, 0)] ++ stt ++ stt ++ [(11, 4), (2, 0), (7, 80), (8, 4)] ++ stt ++ stt ++ stt ++ stt ++ stt
def xkd (i : Nat) : Nat := (xkL.getD i (99, 0)).1
def xln (i : Nat) : Nat := (xkL.getD i (99, 0)).2
/-- slot k of an object of a kind holds an object -/
def xrf (c k : Nat) : Bool := match c with
  | 0 => k == 0
  | 2 => decide (k < 2)
  | 3 => k == 0
  | 4 => decide (k < 4)
  | 5 => decide (k < 5)
  | 6 => (k == 0) || (k == 1) || (k == 2) || (k == 4) || (k == 6)
  | 9 => true
  | 10 => true
  | 11 => true
  | _ => false
def xN (c : Nat) : Nat := [3, 5, 5, 8, 11, 9, 17].getD c 0
def xad (g : GX) (i : Nat) : Nat := if i < 1000 then g.1.1 + i else g.1.2 (i - 1000)
def xv (g : GX) : Value → Value
  | .ref i => .ref (xad g i)
  | v => v
def xval (g : GX) (I : MI) (R : MR) (c i k : Nat) : Value := if xrf c k = true then va_rf ((R i k).map (xad g)) else .int (I i k)
def xat (g : GX) (I : MI) (R : MR) (H : Heap) (i : Nat) : Prop :=
  (xkd i < 7 → t_OB (xad g i) (g.2.1.1 (xkd i)) (xN (xkd i)) (g.2.1.2 (xkd i)) H (xval g I R (xkd i) i)) ∧
  (¬ xkd i < 7 → H[xad g i]? = some (arrV (g.2.2 (xkd i)) (xln i) (xval g I R (xkd i) i)))
/-- the law's own rows of four numbers, behind all objects: how many are known: g.1.2 30; where they lie: g.1.2 (20 + j); what they hold: I (1020 + j) -/
def xAr (g : GX) (I : MI) (H : Heap) : Prop := ∀ j, j < g.1.2 30 → (g.1.1 + 131 ≤ g.1.2 (20 + j) ∧ ∀ i, i < j → ¬ g.1.2 (20 + i) = g.1.2 (20 + j)) ∧ H[g.1.2 (20 + j)]? = some (arrV (g.2.2 8) 4 (fun k => .int (I (1020 + j) k)))
def xRep (g : GX) (n : Nat) (I : MI) (R : MR) (H : Heap) : Prop := n ≤ 131 ∧ g.1.1 + n ≤ H.size ∧ (n < 131 → H.size = g.1.1 + n) ∧ (∀ i, i < n → xat g I R H i) ∧ xAr g I H
/-- the words that every method may use -/
def XT : List Cond := lw_tbl.filter goodWord
/-- the words of nest mates -/
def xNW : List Cond := lw_tbl.filter (fun w => match w with
  | .methodLinkNest .. => true
  | .fieldLinkNest .. => true
  | _ => false)
/-- the array kinds' element types -/
def xTy (c : Nat) : FieldType := match c with
  | 7 => .char
  | 8 => .int
  | 9 => .object RX1
  | 10 => .object RX3
  | _ => .object RX4
def xTys (g : GX) : List (ClassId × FieldType) := [(g.2.2 7, .char), (g.2.2 8, .int), (g.2.2 9, .object RX1), (g.2.2 10, .object RX3), (g.2.2 11, .object RX4)]
/-- what is known of the machine's tables -/
def xKV (g : GX) (U : State) : Prop := va_K g.2.1 vwCl (xTys g) U ∧ (∀ w ∈ xNW, va_Nw w U) ∧ (va_AO RX1 U ∧ va_AO RX3 U ∧ va_AO RX4 U) ∧
  True
/-- what is known of the constants' cells: MOST_SETTING at 5, the script at 7 -/
def xKH (g : GX) (U : State) (H : Heap) : Prop :=
  (∃ (L : Nat) (xs : Nat → Int32), L ≤ 260 ∧ va_T .int (g.1.2 7) L (fun j => .int (xs j)) (fun q => g.1.1 ≤ q) U H) ∧ True ∧
  va_Z "PulledWires" "MOST_SETTING" "[I" (.ref (g.1.2 5)) (fun q => g.1.1 ≤ q) U H ∧
  va_T .int (g.1.2 5) 3 (fun j => .int (([20, 9, 99] : List Int32).getD j 0)) (fun q => g.1.1 ≤ q) U H
/-- locals: some values known -/
def xp (g : GX) (ls : List (Option Value)) : List (Nat × Value) := ls.zipIdx.filterMap (fun q => q.1.map (fun v => (q.2, xv g v)))
def XL (g : GX) (nL : Nat) (ls : List (Option Value)) (lsA : Array Slot) : Prop := lv_has lsA nL (xp g ls) ∧ ls.length = nL ∧ ∀ v, some v ∈ ls → v.category = 1
def xOk (g : GX) (cx : CX) (mt : MT) : Prop :=
  cx.1.tables.exec = Jvm.exec ∧ cx.2.2.2.2.2.2.2.2.code = mt.2.1 ∧ cx.2.2.2.2.2.2.2.1.sig.returnType = mt.2.2.2.1 ∧ cx.2.2.2.2.2.2.2.2.maxLocals = mt.2.2.1 ∧
  cx.2.2.2.1.vm.findClass mt.1.cls = some cx.2.2.2.2.1.cls ∧ cx.2.2.2.2.2.2.2.1.locks = false ∧ (∀ w ∈ XT, w.before cx.2.2.2.2.2.1 cx.2.2.2.1 = true) ∧ cx.2.2.2.2.2.2.2.1.name = mt.1.name ∧
  xKV g cx.2.2.2.1 ∧ g.1.1 ≤ cx.2.2.2.1.heap.size ∧ xKH g cx.2.2.2.1 cx.2.2.2.1.heap
def X (g : GX) (cx : CX) (mt : MT) (F : State → Prop) (cs : Nat × Nat) (pc : Nat) (ls : List (Option Value)) (st : List Value) (n : Nat) (I : MI) (R : MR) : Prop :=
  xOk g cx mt → ∀ (H : Heap) (locs : List Loc) (lsA : Array Slot), xRep g n I R H → va_S (fun q => g.1.1 ≤ q) cx.2.2.2.1.heap H locs → XL g mt.2.2.1 ls lsA →
    W cx.1 cx.2.1 cx.2.2.1 mt.2.2.2.2.1 cx.2.2.2.1 cx.2.2.2.2.1 cx.2.2.2.2.2.1 cx.2.2.2.2.2.2.1 cx.2.2.2.2.2.2.2.1 cx.2.2.2.2.2.2.2.2 H locs cs.1 cs.2 F (F0 cx.2.2.2.2.1 pc lsA (st.map (xv g)))
abbrev XQ : Type := Option Value → Nat → MI → MR → Prop
def xPc (g : GX) (av : List Value) (n : Nat) (I : MI) (R : MR) : Array Value → State → Prop := fun v U => v = (av.map (xv g)).toArray ∧ xRep g n I R U.heap ∧ xKV g U ∧ g.1.1 ≤ U.heap.size ∧ xKH g U U.heap
def xQc (g : GX) (Q : XQ) : Array Value → State → Outcome → State → Prop := fun _ st o t => ∃ (r : Option Value) (n : Nat) (I : MI) (R : MR), o = .returned (r.map (xv g)) ∧ Q r n I R ∧ xRep g n I R t.heap ∧ st.heap.size ≤ t.heap.size ∧ ∀ q : Nat, q < g.1.1 → t.heap[q]? = st.heap[q]?
def xF (g : GX) (cx : CX) (mt : MT) (Q : XQ) : State → Prop := MQ cx.2.2.2.2.2.2.1 (xQc g Q) cx.2.2.2.2.2.1 cx.2.2.2.1 mt.2.2.2.2.1.cells mt.2.2.2.2.1.slots (fun q => g.1.1 ≤ q)
/-- a method's contract: from these arguments and contents it returns, with Q -/
def Sp (mt : MT) (av : List Value) (n : Nat) (I : MI) (R : MR) (Q : XQ) : Prop := ∀ (g : GX) (l : Launch), Met l mt.1 (.code mt.1 mt.2.1 mt.2.2.1 mt.2.2.2.1 :: XT) mt.2.2.2.2.1 (xPc g av n I R) (xQc g Q) mt.2.2.2.2.1.cells mt.2.2.2.2.1.slots (fun q => g.1.1 ≤ q)
theorem xv_cat (g : GX) (v : Value) : (xv g v).category = v.category := by cases v <;> rfl
theorem xad_lo (g : GX) {i : Nat} (h : i < 1000) : xad g i = g.1.1 + i := by simp [xad, h]
theorem xad_inj (g : GX) {i j : Nat} (hi : i < 1000) (hj : j < 1000) (h : xad g i = xad g j) : i = j := by rw [xad_lo g hi, xad_lo g hj] at h; omega
theorem xp_mem {g : GX} {ls : List (Option Value)} {i : Nat} {v : Value} (h : ls[i]? = some (some v)) : (i, xv g v) ∈ xp g ls := by
  refine List.mem_filterMap.mpr ⟨(some v, i), ?_, rfl⟩
  exact List.mem_zipIdx_iff_getElem?.mpr h
theorem xp_of {g : GX} {ls : List (Option Value)} {q : Nat × Value} (h : q ∈ xp g ls) : ∃ v, ls[q.1]? = some (some v) ∧ q.2 = xv g v := by
  obtain ⟨⟨o, i⟩, h1, h2⟩ := List.mem_filterMap.mp h
  cases o with
  | none => cases h2
  | some v =>
    have h3 := List.mem_zipIdx_iff_getElem?.mp h1
    cases h2
    exact ⟨v, h3, rfl⟩
theorem XL.get {g : GX} {nL : Nat} {ls : List (Option Value)} {lsA : Array Slot} (h : XL g nL ls lsA) {i : Nat} {v : Value} (hi : ls[i]? = some (some v)) : lsA[i]? = some (.val (xv g v)) := h.1.2.2 _ (xp_mem hi)
theorem XL.put {g : GX} {nL : Nat} {ls : List (Option Value)} {lsA ls' : Array Slot} (h : XL g nL ls lsA) {i : Nat} {v : Value} (hc : v.category = 1)
    (h' : lv_has ls' nL ((i, xv g v) :: (xp g ls).filter (fun q => !(q.1 == i) && !(q.1 + 1 == i && q.2.category == 2)))) : XL g nL (ls.set i (some v)) ls' := by
  refine ⟨⟨h'.1, h'.2.1, fun q hq => ?_⟩, by rw [List.length_set]; exact h.2.1, fun w hw => ?_⟩
  · obtain ⟨w, h1, h2⟩ := xp_of hq
    by_cases hqi : q.1 = i
    · have hlt : i < ls.length := by
        have h3 := (List.getElem?_eq_some_iff.mp h1).1
        rw [List.length_set] at h3
        omega
      rw [hqi, List.getElem?_set_self hlt] at h1
      cases h1
      have h4 := h'.2.2 (i, xv g v) List.mem_cons_self
      rw [hqi, h2]
      exact h4
    · rw [List.getElem?_set_ne (Ne.symm hqi)] at h1
      have hw1 : w.category = 1 := h.2.2 w (List.mem_of_getElem? h1)
      refine h'.2.2 q (List.mem_cons_of_mem _ (List.mem_filter.mpr ⟨?_, ?_⟩))
      · have := xp_mem (g := g) h1
        rw [← h2] at this
        exact this
      · have hcat : q.2.category = 1 := by rw [h2, xv_cat]; exact hw1
        simp [hqi, hcat]
  · rcases List.mem_or_eq_of_mem_set hw with h1 | h1
    · exact h.2.2 w h1
    · cases h1; exact hc
theorem XL.weak {g : GX} {nL : Nat} {ls ls2 : List (Option Value)} {lsA : Array Slot} (h : XL g nL ls lsA) (hl : ls2.length = ls.length) (hw : ∀ (i : Nat) (v : Value), ls2[i]? = some (some v) → ls[i]? = some (some v)) : XL g nL ls2 lsA := by
  refine ⟨⟨h.1.1, h.1.2.1, fun q hq => ?_⟩, hl.trans h.2.1, fun v hv => ?_⟩
  · obtain ⟨v, h1, h2⟩ := xp_of hq
    rw [h2]
    exact h.get (hw _ _ h1)
  · obtain ⟨i, hi⟩ := List.getElem?_of_mem hv
    exact h.2.2 v (List.mem_of_getElem? (hw i v hi))
