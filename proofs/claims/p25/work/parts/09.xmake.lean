/-- what is not made yet is blank -/
def xBl (I : MI) (R : MR) (n : Nat) : Prop := ∀ k, I n k = 0 ∧ R n k = none
theorem xat.new {g : GX} {n : Nat} {I : MI} {R : MR} {H H' : Heap} (h : xRep g n I R H) (hn : n < 131) (hsz : H'.size = H.size + 1) (ho : ∀ q, q < H.size → H'[q]? = H[q]?) (hat : xat g I R H' n) : xRep g (n + 1) I R H' := by
  obtain ⟨h1, h2, h3, h4, h5⟩ := h
  have h3' := h3 hn
  refine ⟨by omega, by omega, fun _ => by omega, fun j hj => ?_, h5.cg (fun _ _ => rfl) (fun q _ hq => ho q hq)⟩
  by_cases hjn : j = n
  · subst hjn; exact hat
  · have hj' : j < n := by omega
    exact (h4 j hj').kept (ho _ (by rw [xad_lo g (by omega)]; omega)) rfl
theorem xS_new {g : GX} {H0 H H' : Heap} {locs : List Loc} (hS : va_S (fun q => g.1.1 ≤ q) H0 H locs) (hsz : H'.size = H.size + 1) (ho : ∀ q, q < H.size → H'[q]? = H[q]?) : va_S (fun q => g.1.1 ≤ q) H0 H' locs :=
  ⟨by have := hS.1; omega, fun q h1 h2 => by rw [ho q (Nat.lt_of_lt_of_le h1 hS.1)]; exact hS.2.1 q h1 h2, hS.2.2⟩
section XMK
variable {g : GX} {cx : CX} {mt : MT} {F : State → Prop} {cs : Nat × Nat} {pc : Nat} {ls : List (Option Value)} {st : List Value} {n : Nat} {I : MI} {R : MR} {Q : XQ}
theorem x_new {idx c : Nat} {C : String} {T : u_T} {N : Nat} (ty : Nat → FieldType) (hc : vwCl[c]? = some (C, T, N)) (hN : N = xN c) (hc7 : c < 7) (hty : ∀ k, k < N → parseFieldDescriptor (T k).2.2.1 = some (ty k)) (hdef : ∀ k, k < N → defaultValue (ty k) = if xrf c k = true then .null else .int 0)
    (hin : ∀ w ∈ u_ws C T N, w ∈ XT) (h1 : Cond.classLink mt.1.cls idx C ∈ XT) (h2 : Cond.instantiable C N ∈ XT) (h3 : Cond.initialized C ∈ XT) (hk : xkd n = c) (hn : n < 131) (hb : xBl I R n) (hcl : cs.1 + 1 ≤ mt.2.2.2.2.1.cells) (hsl : cs.2 + N ≤ mt.2.2.2.2.1.slots)
    (hd : decode mt.2.1 pc = .ok (.new idx, 3)) (kk : X g cx mt F (cs.1 + 1, cs.2 + N) (pc + 3) ls (.ref n :: st) (n + 1) I R) : X g cx mt F cs pc ls st n I R := by
  intro ok H locs lsA hR hS hL
  have hts := ok.2.2.2.2.2.2.1
  have hsz := hR.2.2.1 hn
  have had : xad g n = H.size := by rw [xad_lo g (by omega)]; omega
  have hKn := ok.2.2.2.2.2.2.2.2.1.1.1 c _ hc
  refine W.newcK ok.1 ok.2.1 ok.2.2.2.2.1 (hts _ h1) (hts _ h2) (hts _ h3) rfl hd hcl hsl hKn.2.1 rfl fun H1 kC hkC e1 z1 o1 => ?_
  have hob := u_born ty hts hin hKn hkC e1 hty
  have := kk ok H1 locs lsA (xat.new hR hn z1 o1 ⟨fun h7 => ?_, fun h7 => absurd (by rw [hk]; exact hc7) h7⟩) (xS_new hS z1 o1) hL
  · rw [← had]; exact this
  · rw [hk, had]
    subst hN
    refine hob.to fun k hkN => ?_
    rw [hdef k hkN]
    simp only [xval, (hb k).1, (hb k).2]
    rfl
theorem x_newaI {x : Int32} {N : Nat} (h1 : Cond.arrayClass .int ∈ XT) (hk : xkd n = 8) (hln : xln n = N) (hn : n < 131) (hb : xBl I R n) (h0 : ¬ x < 0) (hx : x.toNatClampNeg = N) (hN : N ≤ 2000) (hcl : cs.1 + 1 ≤ mt.2.2.2.2.1.cells) (hsl : cs.2 + N ≤ mt.2.2.2.2.1.slots)
    (hd : decode mt.2.1 pc = .ok (.newarray .int, 2)) (kk : X g cx mt F (cs.1 + 1, cs.2 + N) (pc + 2) ls (.ref n :: st) (n + 1) I R) : X g cx mt F cs pc ls (.int x :: st) n I R := by
  intro ok H locs lsA hR hS hL
  have hts := ok.2.2.2.2.2.2.1
  have hsz := hR.2.2.1 hn
  have had : xad g n = H.size := by rw [xad_lo g (by omega)]; omega
  refine va_newaK (atype := .int) ok.1 ok.2.1 (hts _ h1) rfl hd rfl h0 hx (by show N * 4 ≤ _; omega) hcl hsl rfl fun H1 cA e1 z1 o1 hAr hNm => ?_
  have hcA : cA = g.2.2 8 := Option.some.inj (hNm.symm.trans (ok.2.2.2.2.2.2.2.2.1.1.2 1 _ rfl).2)
  have := kk ok H1 locs lsA (xat.new hR hn z1 o1 ⟨fun h7 => absurd h7 (by rw [hk]; decide), fun h7 => ?_⟩) (xS_new hS z1 o1) hL
  · rw [← had]; exact this
  · rw [had, e1, hcA, hk, hln]
    congr 1
    congr 1
    funext k
    show Value.int 0 = xval g I R 8 n k
    rw [xval_I rfl, (hb k).1]
theorem x_newaC {x : Int32} {N : Nat} (h1 : Cond.arrayClass .char ∈ XT) (hk : xkd n = 7) (hln : xln n = N) (hn : n < 131) (hb : xBl I R n) (h0 : ¬ x < 0) (hx : x.toNatClampNeg = N) (hN : N ≤ 2000) (hcl : cs.1 + 1 ≤ mt.2.2.2.2.1.cells) (hsl : cs.2 + N ≤ mt.2.2.2.2.1.slots)
    (hd : decode mt.2.1 pc = .ok (.newarray .char, 2)) (kk : X g cx mt F (cs.1 + 1, cs.2 + N) (pc + 2) ls (.ref n :: st) (n + 1) I R) : X g cx mt F cs pc ls (.int x :: st) n I R := by
  intro ok H locs lsA hR hS hL
  have hts := ok.2.2.2.2.2.2.1
  have hsz := hR.2.2.1 hn
  have had : xad g n = H.size := by rw [xad_lo g (by omega)]; omega
  refine va_newaK (atype := .char) ok.1 ok.2.1 (hts _ h1) rfl hd rfl h0 hx (by show N * 2 ≤ _; omega) hcl hsl rfl fun H1 cA e1 z1 o1 hAr hNm => ?_
  have hcA : cA = g.2.2 7 := Option.some.inj (hNm.symm.trans (ok.2.2.2.2.2.2.2.2.1.1.2 0 _ rfl).2)
  have := kk ok H1 locs lsA (xat.new hR hn z1 o1 ⟨fun h7 => absurd h7 (by rw [hk]; decide), fun h7 => ?_⟩) (xS_new hS z1 o1) hL
  · rw [← had]; exact this
  · rw [had, e1, hcA, hk, hln]
    congr 1
    congr 1
    funext k
    show Value.int 0 = xval g I R 7 n k
    rw [xval_I rfl, (hb k).1]
/-- the array kinds of objects: kind, its element's kind and class -/
def xAk (c ci : Nat) (C : String) : Prop := (c = 9 ∧ ci = 1 ∧ C = RX1) ∨ (c = 10 ∧ ci = 3 ∧ C = RX3) ∨ (c = 11 ∧ ci = 4 ∧ C = RX4)
theorem xAk_facts {c ci : Nat} {C : String} (h : xAk c ci C) {cx : CX} (ok : xOk g cx mt) : 9 ≤ c ∧ c ≤ 11 ∧ ci < 7 ∧ (∀ k, xrf c k = true) ∧ va_AO C cx.2.2.2.1 ∧ ArrOfT cx.2.2.2.1 (g.2.2 c) (.object C) ∧ va_RA cx.2.2.2.1 (g.2.2 c) (.object C) ∧ ClassAt cx.2.2.2.1 C (g.2.1.1 ci) := by
  have hK := ok.2.2.2.2.2.2.2.2.1.1
  have hA := ok.2.2.2.2.2.2.2.2.1.2.2.1
  rcases h with ⟨rfl, rfl, rfl⟩ | ⟨rfl, rfl, rfl⟩ | ⟨rfl, rfl, rfl⟩
  · exact ⟨by omega, by omega, by omega, fun _ => rfl, hA.1, (hK.2 2 _ rfl).1, (hK.2 2 _ rfl).2, (hK.1 1 _ rfl).2⟩
  · exact ⟨by omega, by omega, by omega, fun _ => rfl, hA.2.1, (hK.2 3 _ rfl).1, (hK.2 3 _ rfl).2, (hK.1 3 _ rfl).2⟩
  · exact ⟨by omega, by omega, by omega, fun _ => rfl, hA.2.2, (hK.2 4 _ rfl).1, (hK.2 4 _ rfl).2, (hK.1 4 _ rfl).2⟩
theorem x_anewa {x : Int32} {N c ci idx : Nat} {C : String} (hak : xAk c ci C) (h1 : Cond.classLink mt.1.cls idx C ∈ XT) (hk : xkd n = c) (hln : xln n = N) (hn : n < 131) (hb : xBl I R n) (h0 : ¬ x < 0) (hx : x.toNatClampNeg = N) (hN : N ≤ 2000) (hcl : cs.1 + 1 ≤ mt.2.2.2.2.1.cells) (hsl : cs.2 + N ≤ mt.2.2.2.2.1.slots)
    (hd : decode mt.2.1 pc = .ok (.anewarray idx, 3)) (kk : X g cx mt F (cs.1 + 1, cs.2 + N) (pc + 3) ls (.ref n :: st) (n + 1) I R) : X g cx mt F cs pc ls (.int x :: st) n I R := by
  intro ok H locs lsA hR hS hL
  have hts := ok.2.2.2.2.2.2.1
  have hsz := hR.2.2.1 hn
  have had : xad g n = H.size := by rw [xad_lo g (by omega)]; omega
  obtain ⟨g1, g2, -, g4, g5, -, g7, -⟩ := xAk_facts hak ok
  obtain ⟨-, -, -, -, -, g9⟩ := g7
  subst hx
  refine W.anew ok.1 ok.2.1 ok.2.2.2.2.1 (hts _ h1) (va_AO.use g5) rfl hd rfl h0 (by omega) hcl hsl fun cA kA comp f1 f2 f3 f4 => ?_
  have hcA : cA = g.2.2 c := Option.some.inj (f1.symm.trans g9)
  generalize hH1 : H.push ({ cls := cA, slots := Array.replicate x.toNatClampNeg .null, vm := .none } : Cell) = H1
  have z1 : H1.size = H.size + 1 := by rw [← hH1, Array.size_push]
  have e1 : H1[H.size]? = some (arrV cA x.toNatClampNeg (fun _ => .null)) := by rw [← hH1, Array.getElem?_push_size, ← arrV_new]
  have o1 : ∀ q : Nat, q < H.size → H1[q]? = H[q]? := fun q hq => by rw [← hH1, Array.getElem?_push, if_neg (Nat.ne_of_lt hq)]
  have := kk ok H1 locs lsA (xat.new hR hn z1 o1 ⟨fun h7 => absurd h7 (by rw [hk]; omega), fun h7 => ?_⟩) (xS_new hS z1 o1) hL
  · rw [← had]; exact this
  · rw [had, e1, hcA, hk, hln]
    congr 1
    congr 1
    funext k
    rw [xval_R (g4 k), (hb k).2]; rfl
theorem x_aast {i j v c ci : Nat} {C : String} {x : Int32} (hak : xAk c ci C) (hd : decode mt.2.1 pc = .ok (.aastore, 1)) (hk : xkd i = c) (hi : i < n) (h0 : ¬ x < 0) (hj : x.toNatClampNeg = j) (hlt : j < xln i) (hv : xkd v = ci) (hvn : v < n)
    (kk : X g cx mt F cs (pc + 1) ls st n I (xuR R i j (some v))) : X g cx mt F cs pc ls (.ref v :: .int x :: .ref i :: st) n I R := by
  intro ok H locs lsA hR hS hL
  obtain ⟨g1, g2, g3, g4, g5, g6, g7, hcls⟩ := xAk_facts hak ok
  have hcell := hR.arr hi hk (by omega)
  obtain ⟨cellV, q1, q2, q3, -⟩ := hR.obj hvn hv g3
  obtain ⟨kA, comp, k1, k2, k3, -⟩ := g7
  have hcomp : comp = g.2.1.1 ci := Option.some.inj (k3.symm.trans hcls.1)
  subst hcomp
  obtain ⟨kC, hkC, hkind⟩ := id hcls.2
  have hn0 := hR.1
  refine W.aast ok.1 ok.2.1 hcell (fun q h => by cases h) (fun h => by cases h) k1 k2 rfl hkC ⟨h0, by rw [arrV_size, hj]; exact hlt⟩ q1 (fun q h => by rw [q3] at h; cases h) (by rw [q2]; exact hkC) (by rw [q2]; exact va_assign hcls) rfl rfl hd fun H1 e z oq => ?_
  refine kk ok H1 _ lsA (hR.put hi (fun _ _ => rfl) (fun _ h => xuR_ne h) z oq ⟨fun h7 => absurd h7 (by rw [hk]; omega), fun h7 => ?_⟩) (xS_put (by omega) hS z oq) hL
  rw [e, hj, arrV_store, hk, xval_uR (g4 j)]
  rfl
theorem x_objInit {idx b : Nat} (h1 : Cond.methodLink mt.1.cls idx Lib.objectInit ∈ XT) (h2 : Cond.instanceMethod Lib.objectInit ∈ XT) (h3 : Cond.code Lib.objectInit ⟨#[0xb1]⟩ 1 none ∈ XT) (hd : decode mt.2.1 pc = .ok (.invokespecial idx, 3)) (hf : 1 ≤ mt.2.2.2.2.1.frames) (hcat : (st.map fun v => v.category).sum ≤ 8) (hlo : 20 ≤ mt.2.2.2.2.1.locals)
    (kk : X g cx mt F cs (pc + 3) ls st n I R) : X g cx mt F cs pc ls (.ref b :: st) n I R := by
  intro ok H locs lsA hR hS hL
  have hts := ok.2.2.2.2.2.2.1
  have hc := x_cats (g := g) hcat
  exact W.objInit ok.1 ok.2.1 ok.2.2.2.2.1 (hts _ h1) (hts _ h2) (hts _ h3) rfl (by rw [ok.2.2.2.1]; exact hL.1.1) rfl hd hf (by show 2 * 0 + _ + 12 ≤ _; omega) (kk ok H locs lsA hR hS hL)
def xuC (I : MI) (a a0 sp dp m : Nat) : MI := fun x => if x = a then va_cpy (I a0) (I a) sp dp m else I x
theorem x_copy {idx a0 a jsp jdp jn : Nat} {sp dp len : Int32} (h1 : Cond.methodLink mt.1.cls idx arraycopyName ∈ XT) (h2 : Cond.native arraycopyName ∈ XT) (h3 : Cond.static arraycopyName ∈ XT) (h4 : Cond.initialized "java/lang/System" ∈ XT)
    (hk0 : xkd a0 = 8) (hk : xkd a = 8) (ha0 : a0 < n) (ha : a < n) (hsp : ¬ sp < 0) (hdp : ¬ dp < 0) (hlen : ¬ len < 0) (esp : sp.toNatClampNeg = jsp) (edp : dp.toNatClampNeg = jdp) (en : len.toNatClampNeg = jn) (b0 : jsp + jn ≤ xln a0) (b1 : jdp + jn ≤ xln a)
    (hf : 1 ≤ mt.2.2.2.2.1.frames) (hcat : (st.map fun v => v.category).sum ≤ 8) (hlo : 8 + (nativeFrameWords "java/lang/System" "arraycopy" 5 + 11) ≤ mt.2.2.2.2.1.locals) (hn : n = 131) (hd : decode mt.2.1 pc = .ok (.invokestatic idx, 3))
    (kk : X g cx mt F cs (pc + 3) ls st n (xuC I a a0 jsp jdp jn) R) : X g cx mt F cs pc ls (.int len :: .int dp :: .ref a :: .int sp :: .ref a0 :: st) n I R := by
  intro ok H locs lsA hR hS hL
  subst esp; subst edp; subst en
  have hts := ok.2.2.2.2.2.2.1
  have hc := x_cats (g := g) hcat
  have hK := ok.2.2.2.2.2.2.2.2.1.1
  -- the two arrays first, all others behind them
  have hent : ∀ i, i < n → xkd i = 8 → va_at g.2.1 vwCl (xad g i, .inl (g.2.2 8, (xln i, .inl (I i)))) H := fun i hi hki => by
    have := hR.arr hi hki (by decide)
    show H[xad g i]? = some (vp_cell _ _)
    rw [this, vp_cell_i]
    congr 1
  let ent : Nat → va_E := fun i => if xkd i < 7 then .inr (xkd i, (List.range (xN (xkd i))).map (xval g I R (xkd i) i)) else if xkd i = 8 then .inl (g.2.2 8, (xln i, .inl (I i))) else if xkd i = 7 then .inl (g.2.2 7, (xln i, .inl (I i))) else .inl (g.2.2 (xkd i), (xln i, .inr (.inr (.inr (.inr (fun k => (R i k).map (xad g)))))))
  have hkdd : ∀ i, i < 131 → xkd i ≤ 11 ∧ xkd i ≠ 6 := by decide +kernel
  have hxN : ∀ c, c < 6 → ∃ r, vwCl[c]? = some r ∧ r.2.2 = xN c := by
    intro c hc
    rcases (show c = 0 ∨ c = 1 ∨ c = 2 ∨ c = 3 ∨ c = 4 ∨ c = 5 by omega) with rfl | rfl | rfl | rfl | rfl | rfl <;> exact ⟨_, rfl, rfl⟩
  have hgo : ∀ (I' : MI) (H1 : Heap) (i : Nat), i < n → (va_at g.2.1 vwCl (xad g i, if xkd i < 7 then .inr (xkd i, (List.range (xN (xkd i))).map (xval g I' R (xkd i) i)) else if xkd i = 8 then .inl (g.2.2 8, (xln i, .inl (I' i))) else if xkd i = 7 then .inl (g.2.2 7, (xln i, .inl (I' i))) else .inl (g.2.2 (xkd i), (xln i, .inr (.inr (.inr (.inr (fun k => (R i k).map (xad g)))))))) H1 ↔ xat g I' R H1 i) := by
    intro I' H1 i hi
    have hkle := hkdd i (by omega)
    by_cases h7 : xkd i < 7
    · rw [if_pos h7]
      obtain ⟨r, hr1, hr2⟩ := hxN (xkd i) (by omega)
      constructor
      · rintro ⟨r', hr', hob⟩
        refine ⟨fun _ => ?_, fun h => absurd h7 h⟩
        cases hr1.symm.trans hr'
        rw [← hr2]
        refine hob.to fun k hk => ?_
        show ((List.range (xN (xkd i))).map _).getD k Value.null = _
        rw [← hr2, List.getD_eq_getElem?_getD, List.getElem?_map, List.getElem?_range hk]
        rfl
      · intro h
        refine ⟨r, hr1, ?_⟩
        have hob := h.1 h7
        rw [← hr2] at hob
        refine hob.to fun k hk => ?_
        show _ = ((List.range (xN (xkd i))).map _).getD k Value.null
        rw [← hr2, List.getD_eq_getElem?_getD, List.getElem?_map, List.getElem?_range hk]
        rfl
    · rw [if_neg h7]
      have key : ∀ x : vp_A, vp_cell (g.2.2 (xkd i)) x = arrV (g.2.2 (xkd i)) (xln i) (xval g I' R (xkd i) i) → (va_at g.2.1 vwCl (xad g i, .inl (g.2.2 (xkd i), x)) H1 ↔ xat g I' R H1 i) := by
        intro x hx
        constructor
        · intro h
          refine ⟨fun h' => absurd h' h7, fun _ => ?_⟩
          have h' : H1[xad g i]? = some (vp_cell (g.2.2 (xkd i)) x) := h
          rw [h', hx]
        · intro h
          show H1[xad g i]? = some (vp_cell (g.2.2 (xkd i)) x)
          rw [h.2 h7, hx]
      by_cases h8 : xkd i = 8
      · rw [if_pos h8, ← h8]
        refine key _ ?_
        rw [vp_cell_i]; congr 1; funext k; rw [xval_I (by rw [h8]; rfl)]
      · rw [if_neg h8]
        by_cases h77 : xkd i = 7
        · rw [if_pos h77, ← h77]
          refine key _ ?_
          rw [vp_cell_i]; congr 1; funext k; rw [xval_I (by rw [h77]; rfl)]
        · rw [if_neg h77]
          refine key _ ?_
          rw [vp_cell_q]; congr 1; funext k; rw [xval_R]
          rcases (show xkd i = 9 ∨ xkd i = 10 ∨ xkd i = 11 by omega) with e | e | e <;> rw [e] <;> rfl
  let pd : Nat → Nat := fun i => if i < n then xad g i else g.1.2 (20 + (i - n))
  let en : Nat → va_E := fun i => if i < n then ent i else .inl (g.2.2 8, (4, .inl (I (1020 + (i - n)))))
  have hAr : ∀ (I' : MI) (H1 : Heap) (j : Nat), va_at g.2.1 vwCl (g.1.2 (20 + j), .inl (g.2.2 8, (4, .inl (I' (1020 + j))))) H1 ↔ H1[g.1.2 (20 + j)]? = some (arrV (g.2.2 8) 4 (fun k => .int (I' (1020 + j) k))) := fun I' H1 j => by
    show H1[g.1.2 (20 + j)]? = some (vp_cell _ _) ↔ _
    rw [vp_cell_i]
  have hget : ∀ k, k < n + g.1.2 30 → ((List.range (n + g.1.2 30)).map fun i => (pd i, en i))[k]? = some (pd k, en k) := fun k hk' => by
    rw [List.getElem?_map, List.getElem?_range hk']; rfl
  have hnone : ∀ k, ¬ k < n + g.1.2 30 → ((List.range (n + g.1.2 30)).map fun i => (pd i, en i))[k]? = none := fun k hk' => by
    rw [List.getElem?_eq_none (by simpa using hk')]
  have pdl : ∀ i, i < n → pd i = xad g i := fun i hi => if_pos hi
  have pdr : ∀ i, ¬ i < n → pd i = g.1.2 (20 + (i - n)) := fun i hi => if_neg hi
  have enl : ∀ i, i < n → en i = ent i := fun i hi => if_pos hi
  have enr : ∀ i, ¬ i < n → en i = .inl (g.2.2 8, (4, .inl (I (1020 + (i - n))))) := fun i hi => if_neg hi
  have hP : va_P g.2.1 vwCl ((List.range (n + g.1.2 30)).map fun i => (pd i, en i)) H := fun k q hq => by
    by_cases hk' : k < n + g.1.2 30
    · rw [hget k hk'] at hq
      cases hq
      by_cases hkn : k < n
      · rw [pdl k hkn, enl k hkn]
        exact (hgo I H k hkn).mpr (hR.2.2.2.1 k hkn)
      · rw [pdr k hkn, enr k hkn]
        exact (hAr I H _).mpr (hR.2.2.2.2 (k - n) (by omega)).2
    · rw [hnone k hk'] at hq; cases hq
  have hinj : ∀ i j, i < n + g.1.2 30 → j < n + g.1.2 30 → i < j → pd i ≠ pd j := fun i j hi hj hij => by
    by_cases hjn : j < n
    · rw [pdl i (by omega), pdl j hjn]
      exact fun e => absurd (xad_inj g (by omega) (by omega) e) (by omega)
    · rw [pdr j hjn]
      have h2 := (hR.2.2.2.2 (j - n) (by omega)).1
      by_cases hin : i < n
      · rw [pdl i hin, xad_lo g (by omega)]; omega
      · rw [pdr i hin]; exact h2.2 (i - n) (by omega)
  have hD : va_D (fun q => g.1.1 ≤ q) ((List.range (n + g.1.2 30)).map fun i => (pd i, en i)) := by
    refine ⟨fun i j p q hi hj hpq => ?_, fun k q hq => ?_⟩
    · by_cases hi' : i < n + g.1.2 30
      · by_cases hj' : j < n + g.1.2 30
        · rw [hget i hi'] at hi
          rw [hget j hj'] at hj
          cases hi; cases hj
          rcases Nat.lt_trichotomy i j with z | z | z
          · exact absurd hpq (hinj i j hi' hj' z)
          · exact z
          · exact absurd hpq.symm (hinj j i hj' hi' z)
        · rw [hnone j hj'] at hj; cases hj
      · rw [hnone i hi'] at hi; cases hi
    · by_cases hk' : k < n + g.1.2 30
      · rw [hget k hk'] at hq
        cases hq
        show g.1.1 ≤ pd k
        by_cases hkn : k < n
        · rw [pdl k hkn, xad_lo g (by omega)]; omega
        · rw [pdr k hkn]; have := (hR.2.2.2.2 (k - n) (by omega)).1.1; omega
      · rw [hnone k hk'] at hq; cases hq
  have hat : ∀ i, i < n → xkd i = 8 → ((List.range (n + g.1.2 30)).map fun i => (pd i, en i))[i]? = some (xad g i, .inl (g.2.2 8, (xln i, .inl (I i)))) := fun i hi h8 => by
    rw [hget i (by omega), pdl i hi, enl i hi]
    simp only [ent]
    rw [if_neg (by omega), if_pos h8]
  refine va_copyi (A := fun q => g.1.1 ≤ q) (D := g.2.1) (cl := vwCl) (tys := xTys g) ok.1 ok.2.1 (by rw [ok.2.2.2.1]; exact hL.1.1.symm) ok.2.2.2.2.1 (hts _ h1) (hts _ h2) (hts _ h3) (hts _ h4) hK hP hD hS a0 a 1 1 (hat a0 ha0 hk0) (hat a ha hk) rfl rfl rfl hsp hdp hlen b0 b1 (fun _ _ => rfl) hf (by omega) hd (fun H1 locs1 hP1 hD1 hS1 => ?_)
  have hset : ∀ i, i < n + g.1.2 30 → i ≠ a → ((((List.range (n + g.1.2 30)).map fun i => (pd i, en i))).set a (xad g a, .inl (g.2.2 8, (xln a, .inl (va_cpy (I a0) (I a) sp.toNatClampNeg dp.toNatClampNeg len.toNatClampNeg)))))[i]? = some (pd i, en i) := fun i hi hia => by
    rw [List.getElem?_set_ne (Ne.symm hia), hget i hi]
  have hself : ((((List.range (n + g.1.2 30)).map fun i => (pd i, en i))).set a (xad g a, .inl (g.2.2 8, (xln a, .inl (va_cpy (I a0) (I a) sp.toNatClampNeg dp.toNatClampNeg len.toNatClampNeg)))))[a]? = some (xad g a, .inl (g.2.2 8, (xln a, .inl (va_cpy (I a0) (I a) sp.toNatClampNeg dp.toNatClampNeg len.toNatClampNeg)))) := by
    rw [List.getElem?_set_self (by simp; omega)]
  refine kk ok H1 locs1 lsA ⟨hR.1, ?_, fun h => by omega, fun i hi => ?_, fun j hj => ⟨(hR.2.2.2.2 j hj).1, ?_⟩⟩ hS1 hL
  · -- the heap has not become smaller
    have h130 : g.1.1 + 130 < H1.size := by
      by_cases h : a = 130
      · have := (hP1 a _ hself).lt
        rw [show ((xad g a, Sum.inl (g.2.2 8, (xln a, Sum.inl (va_cpy (I a0) (I a) sp.toNatClampNeg dp.toNatClampNeg len.toNatClampNeg)))) : Nat × va_E).1 = xad g a from rfl, xad_lo g (by omega), h] at this
        exact this
      · have := (hP1 130 _ (hset 130 (by omega) (by omega))).lt
        rw [show ((pd 130, en 130) : Nat × va_E).1 = pd 130 from rfl, pdl 130 (by omega), xad_lo g (by omega)] at this
        exact this
    omega
  · refine (hgo _ H1 i hi).mp ?_
    by_cases hia : i = a
    · subst hia
      have hq2 := hP1 i _ hself
      rw [if_neg (by omega), if_pos hk]
      simp only [xuC]
      exact hq2
    · have hq := hP1 i _ (hset i (by omega) hia)
      rw [pdl i hi, enl i hi] at hq
      have hval : xval g (xuC I a a0 sp.toNatClampNeg dp.toNatClampNeg len.toNatClampNeg) R (xkd i) i = xval g I R (xkd i) i := by
        funext k
        simp only [xval, xuC, if_neg hia]
      rw [hval]
      simp only [xuC, if_neg hia]
      exact hq
  · have hq := hP1 (n + j) _ (hset (n + j) (by omega) (by omega))
    rw [pdr (n + j) (by omega), enr (n + j) (by omega), show n + j - n = j by omega] at hq
    rw [(hAr I H1 j).mp hq]
    simp only [xuC, if_neg (show ¬ 1020 + j = a by omega)]
end XMK
