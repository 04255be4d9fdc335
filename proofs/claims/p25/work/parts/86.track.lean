/-! the law's own rows of four numbers: how they are made, and forgotten; contracts for where none is known yet -/
theorem arrV_cg {c : ClassId} {N : Nat} {f f' : Nat → Value} (h : ∀ k, k < N → f k = f' k) : arrV c N f = arrV c N f' := by
  unfold arrV
  congr 1
  congr 1
  funext j
  exact h j.val j.isLt
/-- two tellings of where things lie that differ in the law's own rows alone -/
def gE (g g' : GX) : Prop := g'.1.1 = g.1.1 ∧ g'.2 = g.2 ∧ ∀ i, i < 20 → g'.1.2 i = g.1.2 i
theorem gE.symm {g g' : GX} (h : gE g g') : gE g' g := ⟨h.1.symm, h.2.1.symm, fun i hi => (h.2.2 i hi).symm⟩
theorem gE.tr {g g' g2 : GX} (h : gE g g') (h2 : gE g' g2) : gE g g2 := ⟨h2.1.trans h.1, h2.2.1.trans h.2.1, fun i hi => (h2.2.2 i hi).trans (h.2.2 i hi)⟩
theorem gE.kv {g g' : GX} (h : gE g g') {U : State} (q : xKV g U) : xKV g' U := by
  obtain ⟨-, e, -⟩ := h
  unfold xKV xTys at q ⊢
  rw [e]; exact q
theorem gE.kh {g g' : GX} (h : gE g g') {U : State} {H : Heap} (q : xKH g U H) : xKH g' U H := by
  unfold xKH at q ⊢
  rw [h.1, h.2.2 7 (by omega), h.2.2 5 (by omega)]; exact q
theorem gE.ok {g g' : GX} {cx : CX} {mt : MT} (h : gE g g') (q : xOk g cx mt) : xOk g' cx mt := by
  obtain ⟨q1, q2, q3, q4, q5, q6, q7, q8, q9, q10, q11⟩ := q
  exact ⟨q1, q2, q3, q4, q5, q6, q7, q8, h.kv q9, by rw [h.1]; exact q10, h.kh q11⟩
/-- what is looked at of the objects leads to objects -/
def RC (R : MR) : Prop := ∀ i, i < 131 → ∀ k, k < (if xkd i < 7 then xN (xkd i) else xln i) → xrf (xkd i) k = true → ∃ j, j < 131 ∧ R i k = some j
theorem gE.ad {g g' : GX} (h : gE g g') {i : Nat} (hi : i < 1000) : xad g' i = xad g i := by rw [xad_lo g' hi, xad_lo g hi, h.1]
theorem xval_sw {g g' : GX} (h : gE g g') {I : MI} {R : MR} (hR : RC R) {i k : Nat} (hi : i < 131) (hk : k < (if xkd i < 7 then xN (xkd i) else xln i)) : xval g' I R (xkd i) i k = xval g I R (xkd i) i k := by
  unfold xval
  by_cases q : xrf (xkd i) k = true
  · obtain ⟨j, hj, e⟩ := hR i hi k hk q
    rw [if_pos q, if_pos q, e]
    show va_rf (some (xad g' j)) = va_rf (some (xad g j))
    rw [h.ad (by omega)]
  · rw [if_neg q, if_neg q]
theorem xat.sw {g g' : GX} (h : gE g g') {I : MI} {R : MR} {H : Heap} (hR : RC R) {i : Nat} (hi : i < 131) (q : xat g I R H i) : xat g' I R H i := by
  refine ⟨fun h7 => ?_, fun h7 => ?_⟩
  · have := q.1 h7
    rw [h.ad (by omega), h.2.1]
    exact this.to (fun k hk => (xval_sw h hR hi (by rw [if_pos h7]; exact hk)).symm)
  · have := q.2 h7
    rw [h.ad (by omega), h.2.1, this]
    congr 1
    exact arrV_cg (fun k hk => (xval_sw h hR hi (by rw [if_neg h7]; exact hk)).symm)
theorem XL.sw {g g' : GX} {nL : Nat} {ls : List (Option Value)} {lsA : Array Slot} (h : XL g nL ls lsA) (hv : ∀ v, some v ∈ ls → xv g' v = xv g v) : XL g' nL ls lsA := by
  refine ⟨⟨h.1.1, h.1.2.1, fun q hq => ?_⟩, h.2⟩
  obtain ⟨v, h1, h2⟩ := xp_of hq
  rw [h2, hv v (List.mem_of_getElem? h1)]
  exact h.get h1
/-- no row of the law's from j on is in a local -/
def wcl (j : Nat) : Option Value → Bool
  | some (.ref a) => decide (a < 1020 + j)
  | _ => true
theorem wcl_a {g g' : GX} {j a : Nat} (h : gE g g') (ha : ∀ i, i < 20 + j → g'.1.2 i = g.1.2 i) (hlt : a < 1020 + j) : xad g' a = xad g a := by
  by_cases q : a < 1000
  · rw [h.ad q]
  · unfold xad
    rw [if_neg q, if_neg q, ha (a - 1000) (by omega)]
theorem wcl_v {g g' : GX} {j : Nat} (h : gE g g') (ha : ∀ i, i < 20 + j → g'.1.2 i = g.1.2 i) {v : Value} (hv : wcl j (some v) = true) : xv g' v = xv g v := by
  cases v <;> try rfl
  rename_i a
  exact congrArg Value.ref (wcl_a h ha (of_decide_eq_true hv))
section XT
variable {g : GX} {cx : CX} {mt : MT} {F : State → Prop} {cs : Nat × Nat} {pc : Nat} {ls : List (Option Value)} {I : MI} {R : MR}
theorem x_newW {j : Nat} (hj : g.1.2 30 = j) (hj2 : j < 2) (hls : ls.all (wcl j) = true) (hRC : RC R) (h1 : Cond.arrayClass .int ∈ XT) (hcl : cs.1 + 1 ≤ mt.2.2.2.2.1.cells) (hsl : cs.2 + 4 ≤ mt.2.2.2.2.1.slots) (hd : decode mt.2.1 pc = .ok (.newarray .int, 2))
    (kk : ∀ g', gE g g' → g'.1.2 30 = j + 1 → X g' cx mt F (cs.1 + 1, cs.2 + 4) (pc + 2) ls [.ref (1020 + j)] 131 (rw1 I (1020 + j) (fun _ => 0)) R) : X g cx mt F cs pc ls [.int (nI 4)] 131 I R := by
  intro ok H locs lsA hR hS hL
  have hts := ok.2.2.2.2.2.2.1
  have hsz := hR.2.1
  have hAr0 := hR.2.2.2.2
  refine va_newaK (atype := .int) (N := 4) ok.1 ok.2.1 (hts _ h1) rfl hd rfl (nI_pos (by omega)) (nI_clamp (by omega)) (by show 4 * 4 ≤ _; omega) hcl hsl rfl fun H1 cA e1 z1 o1 hAr hNm => ?_
  have hcA : cA = g.2.2 8 := Option.some.inj (hNm.symm.trans (ok.2.2.2.2.2.2.2.2.1.1.2 1 _ rfl).2)
  have hE : gE g ((g.1.1, fun i => if i = 20 + j then H.size else if i = 30 then j + 1 else g.1.2 i), g.2) := ⟨rfl, rfl, fun i hi => by
    show (if i = 20 + j then H.size else if i = 30 then j + 1 else g.1.2 i) = _
    rw [if_neg (by omega), if_neg (by omega)]⟩
  have hf : ∀ i, (((g.1.1, fun i => if i = 20 + j then H.size else if i = 30 then j + 1 else g.1.2 i), g.2) : GX).1.2 i = if i = 20 + j then H.size else if i = 30 then j + 1 else g.1.2 i := fun _ => rfl
  obtain ⟨g', hg'⟩ : ∃ g' : GX, (((g.1.1, fun i => if i = 20 + j then H.size else if i = 30 then j + 1 else g.1.2 i), g.2) : GX) = g' := ⟨_, rfl⟩
  rw [hg'] at hE hf
  have f30 : g'.1.2 30 = j + 1 := by rw [hf, if_neg (by omega), if_pos rfl]
  have flt : ∀ i, i < 20 + j → g'.1.2 i = g.1.2 i := fun i hi => by rw [hf, if_neg (by omega), if_neg (by omega)]
  have fj : g'.1.2 (20 + j) = H.size := by rw [hf, if_pos rfl]
  have had : xad g' (1020 + j) = H.size := by rw [xad_W, fj]
  have hrep : xRep g' 131 (rw1 I (1020 + j) (fun _ => 0)) R H1 := by
    refine ⟨Nat.le_refl _, by rw [hE.1]; omega, fun h => absurd h (by omega), fun i hi => ?_, fun a ha => ?_⟩
    · refine ((hR.2.2.2.1 i hi).sw hE hRC hi).kept (o1 _ (by rw [xad_lo g' (by omega), hE.1]; omega)) ?_
      funext k
      simp only [xval, rw1_ne (show i ≠ 1020 + j by omega)]
    · rw [f30] at ha
      by_cases q : a = j
      · subst q
        refine ⟨⟨by rw [fj, hE.1]; exact hsz, fun i hi => ?_⟩, ?_⟩
        · rw [fj, flt _ (by omega)]
          have := (Array.getElem?_eq_some_iff.mp (hAr0 i (by omega)).2).1
          exact Nat.ne_of_lt this
        · rw [fj, e1, hcA, hE.2.1, rw1_self]
          rfl
      · obtain ⟨⟨a1, a2⟩, a3⟩ := hAr0 a (by omega)
        have hlt := (Array.getElem?_eq_some_iff.mp a3).1
        refine ⟨⟨by rw [flt _ (by omega), hE.1]; exact a1, fun i hi => ?_⟩, ?_⟩
        · rw [flt _ (by omega), flt _ (by omega)]; exact a2 i hi
        · rw [flt _ (by omega), o1 _ hlt, hE.2.1, rw1_ne (by omega)]; exact a3
  have hS' : va_S (fun q => g'.1.1 ≤ q) cx.2.2.2.1.heap H1 locs := by rw [hE.1]; exact xS_new hS z1 o1
  have := kk g' hE f30 (hE.ok ok) H1 locs lsA hrep hS' (hL.sw (fun v hv => wcl_v hE flt (List.all_eq_true.mp hls _ hv)))
  rw [← had]
  exact this
/-- at the end the rows are forgotten -/
theorem x_backW {g' : GX} {v : Int32} (hE : gE g g') (h30 : g.1.2 30 = 0) (hRC : RC R) (hl : ls.length = mt.2.2.1) (kk : X g cx mt F cs pc (List.replicate mt.2.2.1 none) [.int v] 131 I R) : X g' cx mt F cs pc ls [.int v] 131 I R := by
  intro ok H locs lsA hR hS hL
  have hrep : xRep g 131 I R H := ⟨Nat.le_refl _, by rw [← hE.1]; exact hR.2.1, fun h => absurd h (by omega), fun i hi => (hR.2.2.2.1 i hi).sw hE.symm hRC hi, fun a ha => by rw [h30] at ha; exact absurd ha (by omega)⟩
  have hS' : va_S (fun q => g.1.1 ≤ q) cx.2.2.2.1.heap H locs := by rw [← hE.1]; exact hS
  have hL1 : XL g' mt.2.2.1 (List.replicate mt.2.2.1 none) lsA := hL.weak (by rw [List.length_replicate, hl]) (fun i w h => by
    have := List.mem_of_getElem? h
    simp [List.mem_replicate] at this)
  have hL2 : XL g mt.2.2.1 (List.replicate mt.2.2.1 none) lsA := hL1.sw (fun w hw => by simp [List.mem_replicate] at hw)
  exact kk (hE.symm.ok ok) H locs lsA hrep hS' hL2
end XT
/-- a contract for where none of the law's rows is known -/
def Sp0 (mt : MT) (av : List Value) (n : Nat) (I : MI) (R : MR) (Q : XQ) : Prop := ∀ (g : GX) (l : Launch), g.1.2 30 = 0 → Met l mt.1 (.code mt.1 mt.2.1 mt.2.2.1 mt.2.2.2.1 :: XT) mt.2.2.2.2.1 (xPc g av n I R) (xQc g Q) mt.2.2.2.2.1.cells mt.2.2.2.2.1.slots (fun q => g.1.1 ≤ q)
theorem Sp0.mk {mt : MT} {av : List Value} {n : Nat} {I : MI} {R : MR} {Q : XQ} (hp : plainName mt.1.cls = true) (hc : ∀ v ∈ av, v.category = 1) (hl : av.length ≤ mt.2.2.1)
    (h : ∀ (g : GX) (cx : CX), g.1.2 30 = 0 → X g cx mt (xF g cx mt Q) (0, 0) 0 (xEn av mt.2.2.1) [] n I R) : Sp0 mt av n I R Q := by
  intro g l hg
  refine Met.ofW (cc := mt.2.1) (maxL := mt.2.2.1) (ret := mt.2.2.2.1) hp rfl ?_
  intro p e s m args below meth c s₁ B hml hv
  obtain ⟨rfl, hR, hKV, hb, hKH⟩ := hv
  have hts := atoms_spec (ws := Cond.code mt.1 mt.2.1 mt.2.2.1 mt.2.2.2.1 :: XT) B.pre
  rw [lg_entry_eq]
  exact h g (p, l, e, s, m, _, below, meth, c) hg ⟨B.exec, B.bytes, B.returns, hml, findClass_of_methodNamed B.named, B.notSynchronized, fun w hw => hts w (List.mem_cons_of_mem _ hw), (name_of_methodNamed B.named B.method).1, hKV, hb, hKH⟩ s.heap [] _ hR va_S.rf (XL.entry g hc hl)
section XC
variable {g : GX} {cx : CX} {mt : MT} {F : State → Prop} {cs : Nat × Nat} {pc : Nat} {ls : List (Option Value)} {st : List Value} {n : Nat} {I : MI} {R : MR} {Q : XQ}
theorem x_callS0 {mt' : MT} {idx : Nat} {av : List Value} {Q' : XQ} {st0 : List Value} (hg : g.1.2 30 = 0) (hsp : Sp0 mt' av n I R Q') (hm : xMS mt') (hl : Cond.methodLink mt.1.cls idx mt'.1 ∈ XT) (hroom : xRoom mt mt') (hd : decode mt.2.1 pc = .ok (.invokestatic idx, 3)) (hst : st0 = av.reverse ++ st) (hn : av.length = mt'.2.2.2.2.2) (hcat : (st.map fun v => v.category).sum ≤ 8)
    (hcells : cs.1 + mt'.2.2.2.2.1.cells ≤ mt.2.2.2.2.1.cells ∧ cs.2 + mt'.2.2.2.2.1.slots ≤ mt.2.2.2.2.1.slots) (k : ∀ (r : Option Value) (n' : Nat) (I' : MI) (R' : MR), Q' r n' I' R' → X g cx mt F (cs.1 + mt'.2.2.2.2.1.cells, cs.2 + mt'.2.2.2.2.1.slots) (pc + 3) ls (r.toList ++ st) n' I' R') : X g cx mt F cs pc ls st0 n I R := by
  intro ok H locs lsA hR hS hL
  have hts := ok.2.2.2.2.2.2.1
  refine x_behind (mt' := mt') ok hS hL rfl (va_runS (Ts := XT) (nL := mt.2.2.1) (n := mt'.2.2.2.2.2) (bytes := mt'.2.1) (maxL := mt'.2.2.1) (ret := mt'.2.2.2.1) (As := av.map (xv g)) (rest := st.map (xv g)) ⟨ok.1, ok.2.1, ok.2.2.2.1, ok.2.2.2.2.1, hts⟩ (hsp g cx.2.1 hg) ⟨callB_of _ hts (x_goodC hm.1.1) rfl rfl rfl (hts _ hm.1.2.1) (hts _ hl) hm.1.2.2 hroom, hts _ hm.2⟩ ⟨xPc.blind g av n I R, xPS ok hR hS⟩ rfl (by rw [List.length_map]; exact hn) hL.1.1 ?_ (lv_room (x_cats hcat)) hd hcells) k
  show st0.map (xv g) = _
  rw [hst, List.map_append, List.map_reverse]
end XC
/-- the class's objects lead to objects -/
theorem St.rc {R : MR} {o d k : Nat} (h : St R o) (hd : d < 18) (hk : k < (if xkd (o + d) < 7 then xN (xkd (o + d)) else xln (o + d))) (hx : xrf (xkd (o + d)) k = true) : ∃ j, j < 131 ∧ R (o + d) k = some j := by
  have hle := h.le
  rcases (show d = 0 ∨ d = 1 ∨ d = 2 ∨ d = 3 ∨ d = 4 ∨ d = 5 ∨ (∃ s, s < 4 ∧ d = 6 + 2 * s) ∨ (∃ s, s < 4 ∧ d = 7 + 2 * s) ∨ ∃ s, s < 4 ∧ d = 14 + s by
    by_cases q : d < 6
    · omega
    · by_cases q2 : d < 14
      · by_cases q3 : d % 2 = 0
        · exact Or.inr (Or.inr (Or.inr (Or.inr (Or.inr (Or.inr (Or.inl ⟨(d - 6) / 2, by omega, by omega⟩))))))
        · exact Or.inr (Or.inr (Or.inr (Or.inr (Or.inr (Or.inr (Or.inr (Or.inl ⟨(d - 7) / 2, by omega, by omega⟩)))))))
      · exact Or.inr (Or.inr (Or.inr (Or.inr (Or.inr (Or.inr (Or.inr (Or.inr ⟨d - 14, by omega, by omega⟩)))))))) with rfl | rfl | rfl | rfl | rfl | rfl | ⟨s, hs, rfl⟩ | ⟨s, hs, rfl⟩ | ⟨s, hs, rfl⟩
  · have hk4 : k < 4 := by
      rw [Nat.add_zero, h.k0] at hx
      exact of_decide_eq_true hx
    rw [Nat.add_zero]
    rcases (show k = 0 ∨ k = 1 ∨ k = 2 ∨ k = 3 by omega) with rfl | rfl | rfl | rfl
    · exact ⟨_, by omega, h.r0⟩
    · exact ⟨_, by omega, h.r1⟩
    · exact ⟨_, by omega, h.r2⟩
    · exact ⟨_, by omega, h.r3⟩
  · rw [h.k1, if_neg (by omega), h.l1] at hk
    exact ⟨_, by omega, h.rs hk⟩
  · rw [h.k2, if_neg (by omega), h.l2] at hk
    exact ⟨_, by omega, h.rl hk⟩
  · rw [h.k3] at hx; cases hx
  · have e0 : xkd (o + 4) = 0 := (Ost_k h.1).2.2.2.2.1
    rw [e0] at hx
    have : k = 0 := by simpa [xrf] using hx
    subst this
    exact ⟨_, by omega, h.2.1.2.2.2.2⟩
  · have e0 : xkd (o + 5) = 8 := (Ost_k h.1).2.2.2.2.2.1
    rw [e0] at hx; cases hx
  · have e0 := (Ost_s h.1 hs).1
    rw [show o + (6 + 2 * s) = o + 6 + 2 * s by omega] at hx ⊢
    rw [e0] at hx
    have : k = 0 := by simpa [xrf] using hx
    subst this
    exact ⟨_, by omega, (h.2.2 s hs).2.2⟩
  · have e0 := (Ost_s h.1 hs).2.1
    rw [show o + (7 + 2 * s) = o + 7 + 2 * s by omega] at hx
    rw [e0] at hx; cases hx
  · have e0 := (Ost_s h.1 hs).2.2.2
    rw [show o + (14 + s) = o + 14 + s by omega] at hx
    rw [e0] at hx; cases hx
theorem Ob.rc {R : MR} {σ : Nat → Nat} (h : Ob R σ) : RC R := fun i hi k hk hx => by
  by_cases q0 : i = 0
  · subst q0
    rw [xk_0] at hk
    rw [if_pos (by omega)] at hk
    have hk5 : k < 5 := by
      rw [xk_0] at hx
      exact of_decide_eq_true hx
    have h4 := h.in5 (i := 4) (by omega)
    rcases (show k = 0 ∨ k = 1 ∨ k = 2 ∨ k = 3 ∨ k = 4 by omega) with rfl | rfl | rfl | rfl | rfl
    · exact ⟨_, by omega, h.1.1⟩
    · exact ⟨_, by omega, h.1.2.1⟩
    · exact ⟨_, by omega, h.1.2.2.1⟩
    · exact ⟨_, by omega, h.1.2.2.2.1⟩
    · exact ⟨_, by omega, h.1.2.2.2.2⟩
  · by_cases q37 : i = 37
    · subst q37
      rw [xk_37, if_neg (by omega), xl_37] at hk
      have h4 := h.in5 (i := k) (by omega)
      exact ⟨_, by omega, h.2.1 k hk⟩
    · by_cases q38 : i = 38
      · subst q38
        have hk2 : k < 2 := by
          rw [xk_38] at hx
          exact of_decide_eq_true hx
        rcases (show k = 0 ∨ k = 1 by omega) with rfl | rfl
        · exact ⟨39, by omega, h.2.2.2.2.2.1⟩
        · exact ⟨40, by omega, h.2.2.2.2.2.2⟩
      · by_cases q39 : i = 39
        · subst q39; rw [xk_39] at hx; cases hx
        · by_cases q40 : i = 40
          · subst q40; rw [xk_40] at hx; cases hx
          · obtain ⟨o, d, ho, hd, e⟩ : ∃ o d, Ost o ∧ d < 18 ∧ i = o + d := by
              have mk : ∀ o, o ∈ [1, 19, 41, 59, 77, 95, 113] → o ≤ i → i < o + 18 → ∃ o d, Ost o ∧ d < 18 ∧ i = o + d := fun o ho h1 h2 => ⟨o, i - o, ho, by omega, by omega⟩
              rcases (show (1 ≤ i ∧ i < 19) ∨ (19 ≤ i ∧ i < 37) ∨ (41 ≤ i ∧ i < 59) ∨ (59 ≤ i ∧ i < 77) ∨ (77 ≤ i ∧ i < 95) ∨ (95 ≤ i ∧ i < 113) ∨ (113 ≤ i ∧ i < 131) by omega) with z | z | z | z | z | z | z
              · exact mk 1 (by decide) z.1 z.2
              · exact mk 19 (by decide) z.1 z.2
              · exact mk 41 (by decide) z.1 z.2
              · exact mk 59 (by decide) z.1 z.2
              · exact mk 77 (by decide) z.1 z.2
              · exact mk 95 (by decide) z.1 z.2
              · exact mk 113 (by decide) z.1 z.2
            subst e
            exact (h.2.2.2.2.1 o ho).rc hd hk hx
/-- rows behind the objects are nobody's -/
theorem Cl.hi {σ : Nat → Nat} {J J' : MI} {R : MR} {Z : MI} {H : Nat → MI} {h : Nat} {K : MI} {e : Bool} {n : Nat} {t : Nat → Int32} {a b : Int32} (hC : Cl σ J R Z H h K e n t a b) (hJ : ∀ x, x < 131 → J' x = J x) : Cl σ J' R Z H h K e n t a b := by
  obtain ⟨hb, ⟨h1, h2⟩, ⟨h3, h4⟩, ⟨h5, h6⟩, h7, ⟨f5, f6, f7, f8⟩, hT⟩ := hC
  have key : ∀ {o : Nat} {Y : MI}, St R o → SJ o J Y → SJ o J' Y := fun {o Y} ho hY => by
    have := ho.le
    exact hY.cg (fun a q1 q2 => hJ a (by omega)) (fun _ _ => rfl)
  refine ⟨hb, ⟨key hb.s1 h1, h2⟩, ⟨h3, fun i hi => ⟨key (hb.st (by omega)) (h4 i hi).1, (h4 i hi).2⟩⟩, ⟨fun i hi => ?_, ?_⟩, fun q => ⟨key hb.s19 (h7 q).1, (h7 q).2⟩, ⟨by rw [hJ 0 (by omega)]; exact f5, by rw [hJ 0 (by omega)]; exact f6, by rw [hJ 0 (by omega)]; exact f7, by rw [hJ 0 (by omega)]; exact f8⟩, hT.cg (hJ 38 (by omega)) (hJ 39 (by omega))⟩
  · obtain ⟨Y, hY⟩ := h5 i hi
    exact ⟨Y, key (hb.st hi) hY⟩
  · obtain ⟨Y, hY⟩ := h6
    exact ⟨Y, key hb.s19 hY⟩
