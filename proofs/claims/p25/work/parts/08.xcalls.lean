theorem xNW_warm {w : Cond} (hw : w ∈ xNW) {s U : State} (hW : s.WarmedH U.vm) (h : va_Nw w s) : va_Nw w U := by
  have h1 := (List.mem_filter.mp hw).2
  revert h
  split at h1
  · exact fun h => va_Nw.warmM hW h
  · exact fun h => va_Nw.warmF hW h
  · cases h1
theorem xNW_same {w : Cond} (hw : w ∈ xNW) {u U : State} (hv : u.vm = U.vm) (h : va_Nw w u) : va_Nw w U := by
  have h1 := (List.mem_filter.mp hw).2
  revert h
  split at h1
  · exact fun h => va_Nw.same rfl hv h
  · exact fun h => va_Nw.same rfl hv h
  · cases h1
theorem xKV.warm {g : GX} {s U : State} (hW : s.WarmedH U.vm) (h : xKV g s) : xKV g U :=
  ⟨va_K.moved hW.alike h.1, fun w hw => xNW_warm hw hW (h.2.1 w hw), ⟨va_AO.moved hW.alike h.2.2.1.1, va_AO.moved hW.alike h.2.2.1.2.1, va_AO.moved hW.alike h.2.2.1.2.2⟩,
   trivial⟩
theorem x_alike {u U : State} (hv : u.vm = U.vm) : u.vm.Alike U.vm := by rw [← hv]; exact Vm.Alike.refl u.vm
theorem xKV.same {g : GX} {u U : State} (hv : u.vm = U.vm) (h : xKV g u) : xKV g U :=
  ⟨va_K.moved (x_alike hv) h.1, fun w hw => xNW_same hw hv (h.2.1 w hw), ⟨va_AO.moved (x_alike hv) h.2.2.1.1, va_AO.moved (x_alike hv) h.2.2.1.2.1, va_AO.moved (x_alike hv) h.2.2.1.2.2⟩,
   trivial⟩
theorem xKH.moved {g : GX} {u U : State} {H : Heap} (hvm : u.vm.Alike U.vm) (h : xKH g u H) : xKH g U H := ⟨h.1.imp (fun L q => q.imp (fun xs z => ⟨z.1, z.2.moved hvm⟩)), trivial, h.2.2.1.moved hvm, h.2.2.2.moved hvm⟩
theorem xKH.kept {g : GX} {U : State} {H H1 : Heap} (h : xKH g U H) (hq : ∀ a : Nat, a < H.size → ¬ g.1.1 ≤ a → H1[a]? = H[a]?) : xKH g U H1 := ⟨h.1.imp (fun L q => q.imp (fun xs z => ⟨z.1, z.2.kept hq⟩)), trivial, h.2.2.1.kept hq, h.2.2.2.kept hq⟩
theorem xPc.blind (g : GX) (av : List Value) (n : Nat) (I : MI) (R : MR) : FrameBlind (xPc g av n I R) := fun a U f mk q => ⟨q.1, q.2.1, xKV.same (u := U) (U := U.calling f mk a) rfl q.2.2.1, q.2.2.2.1, xKH.moved (u := U) (U := U.calling f mk a) (x_alike rfl) q.2.2.2.2⟩
theorem x_good : GoodIn XT XT := fun w hw => ⟨hw, good_of_word (List.mem_filter.mp hw).2⟩
theorem x_goodC {c : Cond} (hc : c ∈ XT) : GoodIn XT (c :: XT) := fun w hw => by
  rcases List.mem_cons.mp hw with rfl | h
  · exact x_good _ hc
  · exact x_good _ h
theorem lv_args_mem : ∀ (vs : List Value) (k i : Nat) (v : Value), (∀ w ∈ vs, w.category = 1) → vs[i]? = some v → (k + i, v) ∈ lv_args k vs := by
  intro vs
  induction vs with
  | nil => intro k i v _ h; simp at h
  | cons w vs ih =>
    intro k i v hc h
    have hw : w.category = 1 := hc w List.mem_cons_self
    cases i with
    | zero =>
      simp at h
      subst h
      exact List.mem_cons_self
    | succ i =>
      have h' : vs[i]? = some v := by simpa using h
      have := ih (k + 1) i v (fun z hz => hc z (List.mem_cons_of_mem _ hz)) h'
      rw [show k + (i + 1) = k + 1 + i by omega]
      show _ ∈ (k, w) :: lv_args (if w.category = 2 then k + 2 else k + 1) vs
      rw [if_neg (by omega)]
      exact List.mem_cons_of_mem _ this
theorem lg_sl1 : ∀ (vs : List Value), (∀ w ∈ vs, w.category = 1) → (lg_sl vs).length = vs.length := by
  intro vs
  induction vs with
  | nil => intro _; rfl
  | cons w vs ih =>
    intro hc
    have hw : w.category = 1 := hc w List.mem_cons_self
    have h := ih (fun z hz => hc z (List.mem_cons_of_mem _ hz))
    unfold lg_sl at h ⊢
    rw [List.flatMap_cons, List.length_append, h, if_neg (by omega)]
    simp
    omega
/-- the locals at a method's entry -/
def xEn (av : List Value) (nL : Nat) : List (Option Value) := av.map some ++ List.replicate (nL - av.length) none
theorem XL.entry (g : GX) {av : List Value} {nL : Nat} (hc : ∀ v ∈ av, v.category = 1) (hl : av.length ≤ nL) : XL g nL (xEn av nL) ((lg_sl (av.map (xv g)) ++ List.replicate (nL - (lg_sl (av.map (xv g))).length) Slot.unset).toArray) := by
  have hc' : ∀ w ∈ av.map (xv g), w.category = 1 := fun w hw => by
    obtain ⟨v, hv, rfl⟩ := List.mem_map.mp hw
    rw [xv_cat]; exact hc v hv
  have h1 := lg_sl1 _ hc'
  have h2 := lv_entry (av.map (xv g)) (n := nL) (by rw [h1, List.length_map]; exact hl)
  refine ⟨⟨h2.1, h2.2.1, fun q hq => ?_⟩, by simp [xEn]; omega, fun v hv => ?_⟩
  · obtain ⟨v, h3, h4⟩ := xp_of hq
    have h5 : av[q.1]? = some v := by
      unfold xEn at h3
      by_cases hlt : q.1 < av.length
      · rw [List.getElem?_append_left (by simpa using hlt)] at h3
        simpa using h3
      · rw [List.getElem?_append_right (by simpa using Nat.not_lt.mp hlt)] at h3
        have := List.mem_of_getElem? h3
        simp [List.mem_replicate] at this
    have h6 := lv_args_mem (av.map (xv g)) 0 q.1 (xv g v) hc' (by rw [List.getElem?_map, h5]; rfl)
    rw [Nat.zero_add] at h6
    have h7 := h2.2.2 _ h6
    rw [h4]; exact h7
  · unfold xEn at hv
    rcases List.mem_append.mp hv with h | h
    · obtain ⟨w, hw, e⟩ := List.mem_map.mp h
      cases e; exact hc _ hw
    · simp [List.mem_replicate] at h
theorem Sp.mk {mt : MT} {av : List Value} {n : Nat} {I : MI} {R : MR} {Q : XQ} (hp : plainName mt.1.cls = true) (hc : ∀ v ∈ av, v.category = 1) (hl : av.length ≤ mt.2.2.1)
    (h : ∀ (g : GX) (cx : CX), X g cx mt (xF g cx mt Q) (0, 0) 0 (xEn av mt.2.2.1) [] n I R) : Sp mt av n I R Q := by
  intro g l
  refine Met.ofW (cc := mt.2.1) (maxL := mt.2.2.1) (ret := mt.2.2.2.1) hp rfl ?_
  intro p e s m args below meth c s₁ B hml hv
  obtain ⟨rfl, hR, hKV, hb, hKH⟩ := hv
  have hts := atoms_spec (ws := Cond.code mt.1 mt.2.1 mt.2.2.1 mt.2.2.2.1 :: XT) B.pre
  rw [lg_entry_eq]
  exact h g (p, l, e, s, m, _, below, meth, c) ⟨B.exec, B.bytes, B.returns, hml, findClass_of_methodNamed B.named, B.notSynchronized, fun w hw => hts w (List.mem_cons_of_mem _ hw), (name_of_methodNamed B.named B.method).1, hKV, hb, hKH⟩ s.heap [] _ hR va_S.rf (XL.entry g hc hl)
/-- a weaker end -/
theorem Sp.imp {mt : MT} {av : List Value} {n : Nat} {I : MI} {R : MR} {Q Q' : XQ} (h : Sp mt av n I R Q) (hq : ∀ r n' I' R', Q r n' I' R' → Q' r n' I' R') : Sp mt av n I R Q' := by
  intro g l p e ha hc hk s m args below hf happ hpre hkk
  obtain ⟨k, o, h1, h2, h3, h4⟩ := h g l p e ha hc hk s m args below hf happ hpre hkk
  obtain ⟨⟨r, n', I', R', q1, q2, q3⟩, h5⟩ := h4
  exact ⟨k, o, h1, h2, h3, ⟨r, n', I', R', q1, hq _ _ _ _ q2, q3⟩, h5⟩
section XE
variable {g : GX} {cx : CX} {mt : MT} {F : State → Prop} {cs : Nat × Nat} {pc : Nat} {ls : List (Option Value)} {st : List Value} {n : Nat} {I : MI} {R : MR} {Q : XQ}
theorem xQc_of {cx : CX} {t : State} {H : Heap} {locs : List Loc} {r : Option Value} (ok : xOk g cx mt) (hR : xRep g n I R H) (hS : va_S (fun q => g.1.1 ≤ q) cx.2.2.2.1.heap H locs) (ht : t.heap = H) (hq : Q r n I R) : xQc g Q cx.2.2.2.2.2.1 cx.2.2.2.1 (.returned (r.map (xv g))) t := by
  subst ht
  exact ⟨r, n, I, R, rfl, hq, hR, hS.1, fun q h => hS.2.1 q (Nat.lt_of_lt_of_le h ok.2.2.2.2.2.2.2.2.2.1) (by omega)⟩
theorem x_iret {v : Int32} (hd : decode mt.2.1 pc = .ok (.ireturn, 1)) (hr : mt.2.2.2.1 = some .int) (hc : cs.1 ≤ mt.2.2.2.2.1.cells) (hs : cs.2 ≤ mt.2.2.2.2.1.slots) (hq : Q (some (.int v)) n I R) : X g cx mt (xF g cx mt Q) cs pc ls [.int v] n I R := by
  intro ok H locs lsA hR hS hL
  exact W.widen hc hs (W.iret (Qc := xQc g Q) ok.1 ok.2.1 (ok.2.2.1.trans hr) (fun t ht _ => xQc_of (r := some (.int v)) ok hR hS ht hq) hS.2.2 hd ok.2.2.2.2.2.1)
theorem x_zret {v : Int32} {ty : FieldType} (hd : decode mt.2.1 pc = .ok (.ireturn, 1)) (hr : mt.2.2.2.1 = some ty) (hn : narrow ty (.int v) = .int v) (hc : cs.1 ≤ mt.2.2.2.2.1.cells) (hs : cs.2 ≤ mt.2.2.2.2.1.slots) (hq : Q (some (.int v)) n I R) : X g cx mt (xF g cx mt Q) cs pc ls [.int v] n I R := by
  intro ok H locs lsA hR hS hL
  exact W.widen hc hs (W.zret (Qc := xQc g Q) ok.1 ok.2.1 (ok.2.2.1.trans hr) hn (fun t ht _ => xQc_of (r := some (.int v)) ok hR hS ht hq) hS.2.2 hd ok.2.2.2.2.2.1)
theorem x_vret (hd : decode mt.2.1 pc = .ok (.return_, 1)) (hr : mt.2.2.2.1 = none) (hc : cs.1 ≤ mt.2.2.2.2.1.cells) (hs : cs.2 ≤ mt.2.2.2.2.1.slots) (hq : Q none n I R) : X g cx mt (xF g cx mt Q) cs pc ls [] n I R := by
  intro ok H locs lsA hR hS hL
  exact W.widen hc hs (W.vret (Qc := xQc g Q) ok.1 ok.2.1 (ok.2.2.1.trans hr) (fun t ht _ => xQc_of (r := none) ok hR hS ht hq) hS.2.2 hd ok.2.2.2.2.2.1)
theorem x_aret {v : Value} {rt : FieldType} (hd : decode mt.2.1 pc = .ok (.areturn, 1)) (hr : mt.2.2.2.1 = some rt) (hrt : (∃ n, rt = .object n) ∨ ∃ t, rt = .array t) (hv : v = .null ∨ ∃ a, v = .ref a) (hc : cs.1 ≤ mt.2.2.2.2.1.cells) (hs : cs.2 ≤ mt.2.2.2.2.1.slots) (hq : Q (some v) n I R) : X g cx mt (xF g cx mt Q) cs pc ls [v] n I R := by
  intro ok H locs lsA hR hS hL
  have hv' : xv g v = .null ∨ ∃ a, xv g v = .ref a := by
    rcases hv with rfl | ⟨a, rfl⟩
    · exact Or.inl rfl
    · exact Or.inr ⟨_, rfl⟩
  exact W.widen hc hs (W.aret (Qc := xQc g Q) ok.1 ok.2.1 (ok.2.2.1.trans hr) hrt hv' (fun t ht _ => xQc_of (r := some v) ok hR hS ht hq) hS.2.2 hd ok.2.2.2.2.2.1)
/-- behind a call -/
theorem x_behind {mt' : MT} {cs' : Nat × Nat} {st0 : List Value} {Q' : XQ} {a : Array Value} (ok : xOk g cx mt) {H : Heap} {locs : List Loc} {lsA : Array Slot} (hS : va_S (fun q => g.1.1 ≤ q) cx.2.2.2.1.heap H locs) (hL : XL g mt.2.2.1 ls lsA)
    (hcs : (cs.1 + mt'.2.2.2.2.1.cells, cs.2 + mt'.2.2.2.2.1.slots) = cs')
    (hr : va_Run cx.1 cx.2.1 cx.2.2.1 mt.2.2.2.2.1 cx.2.2.2.1 cx.2.2.2.2.1 cx.2.2.2.2.2.1 cx.2.2.2.2.2.2.1 cx.2.2.2.2.2.2.2.1 cx.2.2.2.2.2.2.2.2 H locs cs.1 cs.2 mt'.2.2.2.2.1.cells mt'.2.2.2.2.1.slots (F0 cx.2.2.2.2.1 pc lsA (st0.map (xv g))) (st.map (xv g)) (xQc g Q' a) (fun q => g.1.1 ≤ q))
    (k : ∀ (r : Option Value) (n' : Nat) (I' : MI) (R' : MR), Q' r n' I' R' → X g cx mt F cs' (pc + 3) ls (r.toList ++ st) n' I' R') :
    W cx.1 cx.2.1 cx.2.2.1 mt.2.2.2.2.1 cx.2.2.2.1 cx.2.2.2.2.1 cx.2.2.2.2.2.1 cx.2.2.2.2.2.2.1 cx.2.2.2.2.2.2.2.1 cx.2.2.2.2.2.2.2.2 H locs cs.1 cs.2 F (F0 cx.2.2.2.2.1 pc lsA (st0.map (xv g))) := by
  intro T hT X0
  subst hcs
  obtain ⟨v, st₀, t, T', L, h0, X', hL', e1, e2, ⟨r, n', I', R', hv, hQ, hR', hz, hk⟩, stp⟩ := hr T hT X0
  cases hv
  rw [h0] at hz hk
  have hb := ok.2.2.2.2.2.2.2.2.2.1
  have hstk : (r.map (xv g)).toList ++ st.map (xv g) = (r.toList ++ st).map (xv g) := by cases r <;> rfl
  obtain ⟨t2, a1, b1⟩ := k r n' I' R' hQ ok T'.heap (locs ++ L) lsA (by rw [e1]; exact hR') ⟨Nat.le_trans hS.1 (by rw [e1]; exact hz), fun q h1 h2 => by
      rw [e1, hk q (Nat.not_le.mp h2)]; exact hS.2.1 q h1 h2, fun q hq => by
      rcases List.mem_append.mp hq with h | h
      · exact hS.2.2 q h
      · exact hL' q h⟩ hL T' rfl X'
  refine ⟨t2, stp t2 ?_, b1⟩
  show Steps _ _ _ (T'.setTop (F0 _ _ _ ((r.map (xv g)).toList ++ st.map (xv g)))) t2
  rw [hstk]
  exact a1
def xM (mt : MT) : Prop := Cond.code mt.1 mt.2.1 mt.2.2.1 mt.2.2.2.1 ∈ XT ∧ Cond.initialized mt.1.cls ∈ XT ∧ (mt.1.cls ≠ "java/lang/invoke/MethodHandle" ∧ mt.1.cls ≠ "java/lang/invoke/VarHandle" ∧ (parseMethodDescriptor mt.1.desc).map (fun d => d.parameters.length) = some mt.2.2.2.2.2)
def xMV (mt : MT) (c : Nat) : Prop := xM mt ∧ Cond.instanceMethod mt.1 ∈ XT ∧ Cond.selects mt.1.cls mt.1 mt.1 ∈ XT ∧ c < 7 ∧ vwCl[c]?.map (fun q => q.1) = some mt.1.cls
def xMS (mt : MT) : Prop := xM mt ∧ Cond.static mt.1 ∈ XT
def xMI (mt : MT) : Prop := xM mt ∧ Cond.instanceMethod mt.1 ∈ XT ∧ mt.1.name = "<init>" ∧ mt.2.2.2.1 = none
abbrev xRoom (mt mt' : MT) : Prop := mt'.2.2.2.2.1.frames + 1 ≤ mt.2.2.2.2.1.frames ∧ 8 + (mt'.2.2.1 + 11) + mt'.2.2.2.2.1.locals ≤ mt.2.2.2.2.1.locals
theorem xPS {cx : CX} (ok : xOk g cx mt) {H : Heap} {locs : List Loc} {av : List Value} (hR : xRep g n I R H) (hS : va_S (fun q => g.1.1 ≤ q) cx.2.2.2.1.heap H locs) : ∀ U : State, U.heap = H → cx.2.2.2.1.WarmedH U.vm → xPc g av n I R (av.map (xv g)).toArray U := by
  intro U hU hW
  subst hU
  refine ⟨rfl, hR, xKV.warm hW ok.2.2.2.2.2.2.2.2.1, by have := hR.2.1; omega, xKH.moved hW.alike (ok.2.2.2.2.2.2.2.2.2.2.kept (fun a h1 h2 => hS.2.1 a h1 h2))⟩
theorem x_cats {st : List Value} (h : (st.map fun v => v.category).sum ≤ 8) : ((st.map (xv g)).map fun v => v.category).sum ≤ 8 := by
  rw [List.map_map]
  have : (st.map ((fun v : Value => v.category) ∘ xv g)) = st.map fun v => v.category := List.map_congr_left fun v _ => xv_cat g v
  rw [this]; exact h
theorem x_recv {cx : CX} (ok : xOk g cx mt) {H : Heap} {b c : Nat} {C : String} (hR : xRep g n I R H) (hk : xkd b = c) (hb : b < n) (hc : c < 7) (hC : vwCl[c]?.map (fun q => q.1) = some C) : ∃ cellB : Cell, H[xad g b]? = some cellB ∧ cellB.vm.isStatics = false ∧ cx.2.2.2.1.vm.findClass C = some cellB.cls := by
  obtain ⟨cell, q1, q2, q3, -⟩ := hR.obj hb hk hc
  cases hq : vwCl[c]? with
  | none => rw [hq] at hC; cases hC
  | some q =>
    rw [hq] at hC
    have hK := (ok.2.2.2.2.2.2.2.2.1.1.1 c q hq).2.1
    refine ⟨cell, q1, by rw [q3]; rfl, ?_⟩
    rw [q2, ← Option.some.inj hC]
    exact hK
theorem x_callS {mt' : MT} {idx : Nat} {av : List Value} {Q' : XQ} {st0 : List Value} (hsp : Sp mt' av n I R Q') (hm : xMS mt') (hl : Cond.methodLink mt.1.cls idx mt'.1 ∈ XT) (hroom : xRoom mt mt') (hd : decode mt.2.1 pc = .ok (.invokestatic idx, 3)) (hst : st0 = av.reverse ++ st) (hn : av.length = mt'.2.2.2.2.2) (hcat : (st.map fun v => v.category).sum ≤ 8)
    (k : ∀ (r : Option Value) (n' : Nat) (I' : MI) (R' : MR), Q' r n' I' R' → X g cx mt F (cs.1 + mt'.2.2.2.2.1.cells, cs.2 + mt'.2.2.2.2.1.slots) (pc + 3) ls (r.toList ++ st) n' I' R') (hcells : cs.1 + mt'.2.2.2.2.1.cells ≤ mt.2.2.2.2.1.cells ∧ cs.2 + mt'.2.2.2.2.1.slots ≤ mt.2.2.2.2.1.slots := by decide) : X g cx mt F cs pc ls st0 n I R := by
  intro ok H locs lsA hR hS hL
  have hts := ok.2.2.2.2.2.2.1
  refine x_behind (mt' := mt') ok hS hL rfl (va_runS (Ts := XT) (nL := mt.2.2.1) (n := mt'.2.2.2.2.2) (bytes := mt'.2.1) (maxL := mt'.2.2.1) (ret := mt'.2.2.2.1) (As := av.map (xv g)) (rest := st.map (xv g)) ⟨ok.1, ok.2.1, ok.2.2.2.1, ok.2.2.2.2.1, hts⟩ (hsp g cx.2.1) ⟨callB_of _ hts (x_goodC hm.1.1) rfl rfl rfl (hts _ hm.1.2.1) (hts _ hl) hm.1.2.2 hroom, hts _ hm.2⟩ ⟨xPc.blind g av n I R, xPS ok hR hS⟩ rfl (by rw [List.length_map]; exact hn) hL.1.1 ?_ (lv_room (x_cats hcat)) hd hcells) k
  show st0.map (xv g) = _
  rw [hst, List.map_append, List.map_reverse]
theorem x_callSN {mt' : MT} {idx : Nat} {host : String} {av : List Value} {Q' : XQ} {st0 : List Value} (hsp : Sp mt' av n I R Q') (hm : xMS mt') (hl : Cond.methodLinkNest mt.1.cls idx mt'.1 host ∈ xNW) (hroom : xRoom mt mt') (hd : decode mt.2.1 pc = .ok (.invokestatic idx, 3)) (hst : st0 = av.reverse ++ st) (hn : av.length = mt'.2.2.2.2.2) (hcat : (st.map fun v => v.category).sum ≤ 8)
    (k : ∀ (r : Option Value) (n' : Nat) (I' : MI) (R' : MR), Q' r n' I' R' → X g cx mt F (cs.1 + mt'.2.2.2.2.1.cells, cs.2 + mt'.2.2.2.2.1.slots) (pc + 3) ls (r.toList ++ st) n' I' R') (hcells : cs.1 + mt'.2.2.2.2.1.cells ≤ mt.2.2.2.2.1.cells ∧ cs.2 + mt'.2.2.2.2.1.slots ≤ mt.2.2.2.2.1.slots := by decide) : X g cx mt F cs pc ls st0 n I R := by
  intro ok H locs lsA hR hS hL
  have hts := ok.2.2.2.2.2.2.1
  refine x_behind (mt' := mt') ok hS hL rfl (va_runSN (Ts := XT) (nL := mt.2.2.1) (n := mt'.2.2.2.2.2) (bytes := mt'.2.1) (maxL := mt'.2.2.1) (ret := mt'.2.2.2.1) (As := av.map (xv g)) (rest := st.map (xv g)) ⟨ok.1, ok.2.1, ok.2.2.2.1, ok.2.2.2.2.1, hts⟩ (hsp g cx.2.1) ⟨va_cnB _ hts (x_goodC hm.1.1) rfl rfl rfl (ok.2.2.2.2.2.2.2.2.1.2.1 _ hl) (hts _ hm.1.2.1) hm.1.2.2 hroom, hts _ hm.2, trivial⟩ ⟨xPc.blind g av n I R, xPS ok hR hS⟩ rfl (by rw [List.length_map]; exact hn) hL.1.1 ?_ (lv_room (x_cats hcat)) hd hcells) k
  show st0.map (xv g) = _
  rw [hst, List.map_append, List.map_reverse]
theorem x_callV {mt' : MT} {idx b c : Nat} {av : List Value} {Q' : XQ} {st0 : List Value} (hsp : Sp mt' (.ref b :: av) n I R Q') (hm : xMV mt' c) (hl : Cond.methodLink mt.1.cls idx mt'.1 ∈ XT) (hroom : xRoom mt mt') (hd : decode mt.2.1 pc = .ok (.invokevirtual idx, 3)) (hk : xkd b = c) (hb : b < n) (hst : st0 = av.reverse ++ .ref b :: st) (hn : av.length = mt'.2.2.2.2.2) (hcat : (st.map fun v => v.category).sum ≤ 8)
    (k : ∀ (r : Option Value) (n' : Nat) (I' : MI) (R' : MR), Q' r n' I' R' → X g cx mt F (cs.1 + mt'.2.2.2.2.1.cells, cs.2 + mt'.2.2.2.2.1.slots) (pc + 3) ls (r.toList ++ st) n' I' R') (hcells : cs.1 + mt'.2.2.2.2.1.cells ≤ mt.2.2.2.2.1.cells ∧ cs.2 + mt'.2.2.2.2.1.slots ≤ mt.2.2.2.2.1.slots := by decide) : X g cx mt F cs pc ls st0 n I R := by
  intro ok H locs lsA hR hS hL
  have hts := ok.2.2.2.2.2.2.1
  refine x_behind (mt' := mt') ok hS hL rfl (va_runV (Ts := XT) (C := mt'.1.cls) (b := xad g b) (nL := mt.2.2.1) (n := mt'.2.2.2.2.2) (bytes := mt'.2.1) (maxL := mt'.2.2.1) (ret := mt'.2.2.2.1) (As := av.map (xv g)) (rest := st.map (xv g)) ⟨ok.1, ok.2.1, ok.2.2.2.1, ok.2.2.2.2.1, hts⟩ (hsp g cx.2.1) ⟨callB_of _ hts (x_goodC hm.1.1) rfl rfl rfl (hts _ hm.1.2.1) (hts _ hl) hm.1.2.2 hroom, hts _ hm.2.1, hts _ hm.2.2.1⟩ ⟨xPc.blind g (.ref b :: av) n I R, x_recv ok hR hk hb hm.2.2.2.1 hm.2.2.2.2, xPS (av := .ref b :: av) ok hR hS⟩ rfl (by rw [List.length_map]; exact hn) hL.1.1 ?_ (lv_room (x_cats hcat)) hd hcells) k
  show st0.map (xv g) = _
  rw [hst, List.map_append, List.map_reverse]; rfl
theorem x_callI {mt' : MT} {idx b : Nat} {av : List Value} {Q' : XQ} {st0 : List Value} (hsp : Sp mt' (.ref b :: av) n I R Q') (hm : xMI mt') (hl : Cond.methodLink mt.1.cls idx mt'.1 ∈ XT) (hroom : xRoom mt mt') (hd : decode mt.2.1 pc = .ok (.invokespecial idx, 3)) (hst : st0 = av.reverse ++ .ref b :: st) (hn : av.length = mt'.2.2.2.2.2) (hcat : (st.map fun v => v.category).sum ≤ 8)
    (k : ∀ (r : Option Value) (n' : Nat) (I' : MI) (R' : MR), Q' r n' I' R' → X g cx mt F (cs.1 + mt'.2.2.2.2.1.cells, cs.2 + mt'.2.2.2.2.1.slots) (pc + 3) ls (r.toList ++ st) n' I' R') (hcells : cs.1 + mt'.2.2.2.2.1.cells ≤ mt.2.2.2.2.1.cells ∧ cs.2 + mt'.2.2.2.2.1.slots ≤ mt.2.2.2.2.1.slots := by decide) : X g cx mt F cs pc ls st0 n I R := by
  intro ok H locs lsA hR hS hL
  have hts := ok.2.2.2.2.2.2.1
  have hret := hm.2.2.2
  refine x_behind (mt' := mt') ok hS hL rfl (va_runI (Ts := XT) (b := xad g b) (nL := mt.2.2.1) (n := mt'.2.2.2.2.2) (bytes := mt'.2.1) (maxL := mt'.2.2.1) (As := av.map (xv g)) (rest := st.map (xv g)) ⟨ok.1, ok.2.1, ok.2.2.2.1, ok.2.2.2.2.1, hts⟩ (hsp g cx.2.1) ⟨callB_of (ret := none) _ hts (x_goodC hm.1.1) (by rw [hret]) rfl rfl (hts _ hm.1.2.1) (hts _ hl) hm.1.2.2 hroom, hm.2.2.1, hts _ hm.2.1⟩ ⟨xPc.blind g (.ref b :: av) n I R, xPS (av := .ref b :: av) ok hR hS⟩ rfl (by rw [List.length_map]; exact hn) hL.1.1 ?_ (lv_room (x_cats hcat)) hd hcells) k
  show st0.map (xv g) = _
  rw [hst, List.map_append, List.map_reverse]; rfl
theorem x_callIN {mt' : MT} {idx b : Nat} {host : String} {av : List Value} {Q' : XQ} {st0 : List Value} (hsp : Sp mt' (.ref b :: av) n I R Q') (hm : xMI mt') (hl : Cond.methodLinkNest mt.1.cls idx mt'.1 host ∈ xNW) (hroom : xRoom mt mt') (hd : decode mt.2.1 pc = .ok (.invokespecial idx, 3)) (hst : st0 = av.reverse ++ .ref b :: st) (hn : av.length = mt'.2.2.2.2.2) (hcat : (st.map fun v => v.category).sum ≤ 8)
    (k : ∀ (r : Option Value) (n' : Nat) (I' : MI) (R' : MR), Q' r n' I' R' → X g cx mt F (cs.1 + mt'.2.2.2.2.1.cells, cs.2 + mt'.2.2.2.2.1.slots) (pc + 3) ls (r.toList ++ st) n' I' R') (hcells : cs.1 + mt'.2.2.2.2.1.cells ≤ mt.2.2.2.2.1.cells ∧ cs.2 + mt'.2.2.2.2.1.slots ≤ mt.2.2.2.2.1.slots := by decide) : X g cx mt F cs pc ls st0 n I R := by
  intro ok H locs lsA hR hS hL
  have hts := ok.2.2.2.2.2.2.1
  have hret := hm.2.2.2
  refine x_behind (mt' := mt') ok hS hL rfl (va_runIN (Ts := XT) (host := host) (b := xad g b) (nL := mt.2.2.1) (n := mt'.2.2.2.2.2) (bytes := mt'.2.1) (maxL := mt'.2.2.1) (As := av.map (xv g)) (rest := st.map (xv g)) ⟨ok.1, ok.2.1, ok.2.2.2.1, ok.2.2.2.2.1, hts⟩ (hsp g cx.2.1) ⟨va_cnB (ret := none) _ hts (x_goodC hm.1.1) (by rw [hret]) rfl rfl (ok.2.2.2.2.2.2.2.2.1.2.1 _ hl) (hts _ hm.1.2.1) hm.1.2.2 hroom, hm.2.2.1, hts _ hm.2.1⟩ ⟨xPc.blind g (.ref b :: av) n I R, xPS (av := .ref b :: av) ok hR hS⟩ rfl (by rw [List.length_map]; exact hn) hL.1.1 ?_ (lv_room (x_cats hcat)) hd hcells) k
  show st0.map (xv g) = _
  rw [hst, List.map_append, List.map_reverse]; rfl
end XE
