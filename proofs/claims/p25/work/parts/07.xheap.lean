def xuI (I : MI) (i k : Nat) (x : Int32) : MI := fun a b => if a = i ∧ b = k then x else I a b
def xuR (R : MR) (i k : Nat) (x : Option Nat) : MR := fun a b => if a = i ∧ b = k then x else R a b
def FL (own : String) (idx c k : Nat) : Prop := ∃ (C : String) (T : u_T) (N : Nat), vwCl[c]? = some (C, T, N) ∧ k < N ∧ N = xN c ∧ c < 7 ∧ Cond.fieldLink own idx (T k).1 (T k).2.1 (T k).2.2.1 ∈ XT ∧ ∀ w ∈ u_ws C T N, w ∈ XT
def FP (c k : Nat) (fin : Bool) (ty : FieldType) : Prop := ∃ (C : String) (T : u_T) (N : Nat) (t0 : Nat → FieldType), vwCl[c]? = some (C, T, N) ∧ (∀ k, k < N → parseFieldDescriptor (T k).2.2.1 = some (t0 k)) ∧ (∀ a, a < N → ∀ b, b < N → a ≠ b → (T a).2.1 ≠ (T b).2.1) ∧ (T k).2.2.2 = fin ∧ parseFieldDescriptor (T k).2.2.1 = some ty ∧ (T k).1 = C
theorem xval_I {g : GX} {I : MI} {R : MR} {c i k : Nat} (h : xrf c k = false) : xval g I R c i k = .int (I i k) := by simp [xval, h]
theorem xval_R {g : GX} {I : MI} {R : MR} {c i k : Nat} (h : xrf c k = true) : xval g I R c i k = va_rf ((R i k).map (xad g)) := by simp [xval, h]
theorem xval_uI {g : GX} {I : MI} {R : MR} {c i k : Nat} {x : Int32} (h : xrf c k = false) : xval g (xuI I i k x) R c i = updV (xval g I R c i) k (.int x) := by
  funext j
  by_cases hj : j = k
  · subst hj
    simp [xval, xuI, updV, h]
  · simp [xval, xuI, updV, hj]
theorem xval_uR {g : GX} {I : MI} {R : MR} {c i k : Nat} {x : Option Nat} (h : xrf c k = true) : xval g I (xuR R i k x) c i = updV (xval g I R c i) k (va_rf (x.map (xad g))) := by
  funext j
  by_cases hj : j = k
  · subst hj
    simp [xval, xuR, updV, h]
  · simp [xval, xuR, updV, hj]
theorem xat.kept {g : GX} {I I' : MI} {R R' : MR} {H H' : Heap} {j : Nat} (h : xat g I R H j) (hH : H'[xad g j]? = H[xad g j]?) (hv : xval g I' R' (xkd j) j = xval g I R (xkd j) j) : xat g I' R' H' j := by
  refine ⟨fun hk => ?_, fun hk => ?_⟩
  · rw [hv]; exact (h.1 hk).kept hH
  · rw [hv, hH]; exact h.2 hk
theorem xAr.cg {g : GX} {I I' : MI} {H H' : Heap} (h : xAr g I H) (hI : ∀ j, 1020 ≤ j → I' j = I j) (ho : ∀ q : Nat, g.1.1 + 131 ≤ q → q < H.size → H'[q]? = H[q]?) : xAr g I' H' := fun j hj => by
  obtain ⟨h1, h2⟩ := h j hj
  have hlt : g.1.2 (20 + j) < H.size := (Array.getElem?_eq_some_iff.mp h2).1
  refine ⟨h1, ?_⟩
  rw [ho _ h1.1 hlt, h2, hI _ (by omega)]
theorem xRep.put {g : GX} {n : Nat} {I I' : MI} {R R' : MR} {H H' : Heap} {i : Nat} (h : xRep g n I R H) (hi : i < n) (hI : ∀ j, j ≠ i → I' j = I j) (hR : ∀ j, j ≠ i → R' j = R j) (hsz : H'.size = H.size) (ho : ∀ q, q ≠ xad g i → H'[q]? = H[q]?) (hat : xat g I' R' H' i) : xRep g n I' R' H' := by
  obtain ⟨h1, h2, h3, h4, h5⟩ := h
  refine ⟨h1, by rw [hsz]; exact h2, fun hn => by rw [hsz]; exact h3 hn, fun j hj => ?_, h5.cg (fun j hj => hI j (by omega)) (fun q hq _ => ho q (by rw [xad_lo g (by omega)]; omega))⟩
  by_cases hji : j = i
  · subst hji; exact hat
  · refine (h4 j hj).kept (ho _ fun e => hji (xad_inj g (by omega) (by omega) e)) ?_
    funext k
    simp only [xval, hI j hji, hR j hji]
theorem xuI_ne {I : MI} {i k j : Nat} {x : Int32} (h : j ≠ i) : xuI I i k x j = I j := by funext b; simp [xuI, h]
theorem xuR_ne {R : MR} {i k j : Nat} {x : Option Nat} (h : j ≠ i) : xuR R i k x j = R j := by funext b; simp [xuR, h]
theorem xS_put {g : GX} {H0 H H' : Heap} {locs : List Loc} {i k : Nat} (hi : i < 1000) (hS : va_S (fun q => g.1.1 ≤ q) H0 H locs) (e2 : H'.size = H.size) (e3 : ∀ q, q ≠ xad g i → H'[q]? = H[q]?) : va_S (fun q => g.1.1 ≤ q) H0 H' (locs ++ [⟨xad g i, k⟩]) :=
  hS.put e2 e3 (by show g.1.1 ≤ xad g i; rw [xad_lo g hi]; omega)
section XH
variable {g : GX} {cx : CX} {mt : MT} {F : State → Prop} {cs : Nat × Nat} {pc : Nat} {ls : List (Option Value)} {st : List Value} {n : Nat} {I : MI} {R : MR}
theorem xRep.obj {H : Heap} {i c : Nat} (h : xRep g n I R H) (hi : i < n) (hk : xkd i = c) (hc : c < 7) : t_OB (xad g i) (g.2.1.1 c) (xN c) (g.2.1.2 c) H (xval g I R c i) := by
  subst hk; exact (h.2.2.2.1 i hi).1 hc
theorem xRep.arr {H : Heap} {i c : Nat} (h : xRep g n I R H) (hi : i < n) (hk : xkd i = c) (hc : ¬ c < 7) : H[xad g i]? = some (arrV (g.2.2 c) (xln i) (xval g I R c i)) := by
  subst hk; exact (h.2.2.2.1 i hi).2 hc
theorem x_get {idx c k i : Nat} {v : Value} (fl : FL mt.1.cls idx c k) (hd : decode mt.2.1 pc = .ok (.getfield idx, 3)) (hk : xkd i = c) (hi : i < n) (hv : xval g I R c i k = xv g v)
    (kk : X g cx mt F cs (pc + 3) ls (v :: st) n I R) : X g cx mt F cs pc ls (.ref i :: st) n I R := by
  intro ok H locs lsA hR hS hL
  obtain ⟨C, T, N, hc, hkN, hN, hc7, hlink, hin⟩ := fl
  subst hN
  obtain ⟨cell, q1, q2, q3, q4⟩ := hR.obj hi hk hc7
  have hts := ok.2.2.2.2.2.2.1
  obtain ⟨hSl, hfc, kC, hkC, hkind⟩ := ok.2.2.2.2.2.2.2.2.1.1.1 c _ hc
  obtain ⟨cf, kf, fi, f, hf, hsl⟩ := hSl k hkN
  refine W.getf ok.1 ok.2.1 ok.2.2.2.2.1 (hts _ hlink) hf (u_facts hfc hkC (u_lays hts hin hkN) hf).1 q1 (by rw [q3]; exact fun h => by cases h) (v := xv g v) ?_ rfl rfl hd (kk ok H locs lsA hR hS hL)
  rw [hsl, q4 k hkN, hv]
theorem x_getI {idx c k i : Nat} (fl : FL mt.1.cls idx c k) (hd : decode mt.2.1 pc = .ok (.getfield idx, 3)) (hk : xkd i = c) (hi : i < n) (hr : xrf c k = false)
    (kk : X g cx mt F cs (pc + 3) ls (.int (I i k) :: st) n I R) : X g cx mt F cs pc ls (.ref i :: st) n I R := x_get (v := .int (I i k)) fl hd hk hi (xval_I hr) kk
theorem x_getR {idx c k i j : Nat} (fl : FL mt.1.cls idx c k) (hd : decode mt.2.1 pc = .ok (.getfield idx, 3)) (hk : xkd i = c) (hi : i < n) (hr : xrf c k = true) (hj : R i k = some j)
    (kk : X g cx mt F cs (pc + 3) ls (.ref j :: st) n I R) : X g cx mt F cs pc ls (.ref i :: st) n I R := x_get (v := .ref j) fl hd hk hi (by rw [xval_R hr, hj]; rfl) kk
theorem x_put {idx c k i : Nat} {v : Value} {ty : FieldType} {I' : MI} {R' : MR} (fl : FL mt.1.cls idx c k) (fp : FP c k false ty) (hd : decode mt.2.1 pc = .ok (.putfield idx, 3)) (hk : xkd i = c) (hi : i < n)
    (hn : narrow ty (xv g v) = xv g v) (hfit : fits ty (xv g v) = true) (hI : ∀ j, j ≠ i → I' j = I j) (hRR : ∀ j, j ≠ i → R' j = R j) (hu : xval g I' R' c i = updV (xval g I R c i) k (xv g v))
    (kk : X g cx mt F cs (pc + 3) ls st n I' R') : X g cx mt F cs pc ls (v :: .ref i :: st) n I R := by
  intro ok H locs lsA hR hS hL
  obtain ⟨C, T, N, hc, hkN, hN, hc7, hlink, hin⟩ := fl
  obtain ⟨C', T', N', t0, hc', hty, hnm, hfin, hdty, -⟩ := fp
  have he := Option.some.inj (hc.symm.trans hc')
  cases he
  subst hN
  have hob := hR.obj hi hk hc7
  obtain ⟨cell, q1, q2, q3, q4⟩ := hob
  have hts := ok.2.2.2.2.2.2.1
  have hap := va_apart (own := mt.1.cls) hts hin t0 hty hnm ok.2.2.2.2.2.2.2.2.1.1 hc
  obtain ⟨hSl, hfc, kC, hkC, hkind⟩ := ok.2.2.2.2.2.2.2.2.1.1.1 c _ hc
  obtain ⟨cf, kf, fi, f, hf, hsl⟩ := hSl k hkN
  have hlay := hts _ (hin _ (u_in_lay hkN))
  unfold u_lay at hlay
  rw [if_neg (by rw [hfin]; decide)] at hlay
  have hst := (u_facts hfc hkC (u_lays hts hin hkN) hf).1
  have h6 := u_store hfc hkC hkind hlay hf hdty hn hfit
  refine W.putK ok.1 ok.2.1 (f := f) ⟨ok.2.2.2.2.1, hts _ hlink, ⟨_, _, _, hf⟩, hst⟩ (by rw [q2]; exact h6) q1 q3 (by rw [hsl]; exact k2_hasslot (q4 k hkN)) rfl rfl hd fun H' e1 e2 e3 => ?_
  rw [hsl] at e1 ⊢
  have hn0 := hR.1
  refine kk ok H' _ lsA (hR.put hi hI hRR e2 e3 ⟨fun h7 => ?_, fun h7 => absurd (by rw [hk]; exact hc7) h7⟩) (xS_put (by omega) hS e2 e3) hL
  rw [hk, hu]
  exact ⟨_, e1, q2, q3, t_set q4 hap hkN _⟩
theorem x_putI {idx c k i : Nat} {x : Int32} {ty : FieldType} (fl : FL mt.1.cls idx c k) (fp : FP c k false ty) (hd : decode mt.2.1 pc = .ok (.putfield idx, 3)) (hk : xkd i = c) (hi : i < n) (hr : xrf c k = false)
    (hn : narrow ty (.int x) = .int x) (hfit : fits ty (.int x) = true)
    (kk : X g cx mt F cs (pc + 3) ls st n (xuI I i k x) R) : X g cx mt F cs pc ls (.int x :: .ref i :: st) n I R :=
  x_put (v := .int x) fl fp hd hk hi hn hfit (fun _ h => xuI_ne h) (fun _ _ => rfl) (xval_uI hr) kk
theorem x_putR {idx c k i j : Nat} {ty : FieldType} (fl : FL mt.1.cls idx c k) (fp : FP c k false ty) (hd : decode mt.2.1 pc = .ok (.putfield idx, 3)) (hk : xkd i = c) (hi : i < n) (hr : xrf c k = true)
    (hn : ∀ a, narrow ty (.ref a) = .ref a) (hfit : ∀ a, fits ty (.ref a) = true)
    (kk : X g cx mt F cs (pc + 3) ls st n I (xuR R i k (some j))) : X g cx mt F cs pc ls (.ref j :: .ref i :: st) n I R :=
  x_put (v := .ref j) fl fp hd hk hi (hn _) (hfit _) (fun _ _ => rfl) (fun _ h => xuR_ne h) (xval_uR hr) kk
theorem x_putF {idx c k i : Nat} {v : Value} {ty : FieldType} {I' : MI} {R' : MR} (fl : FL mt.1.cls idx c k) (fp : FP c k true ty) (hini : mt.1.name = "<init>") (hcls : vwCl[c]?.map (fun q => q.1) = some mt.1.cls) (hd : decode mt.2.1 pc = .ok (.putfield idx, 3)) (hk : xkd i = c) (hi : i < n)
    (hn : narrow ty (xv g v) = xv g v) (hfit : fits ty (xv g v) = true) (hI : ∀ j, j ≠ i → I' j = I j) (hRR : ∀ j, j ≠ i → R' j = R j) (hu : xval g I' R' c i = updV (xval g I R c i) k (xv g v))
    (kk : X g cx mt F cs (pc + 3) ls st n I' R') : X g cx mt F cs pc ls (v :: .ref i :: st) n I R := by
  intro ok H locs lsA hR hS hL
  obtain ⟨C, T, N, hc, hkN, hN, hc7, hlink, hin⟩ := fl
  obtain ⟨C', T', N', t0, hc', hty, hnm, hfin, hdty, hdecl⟩ := fp
  have he := Option.some.inj (hc.symm.trans hc')
  cases he
  subst hN
  have hob := hR.obj hi hk hc7
  obtain ⟨cell, q1, q2, q3, q4⟩ := hob
  have hts := ok.2.2.2.2.2.2.1
  have hap := va_apart (own := mt.1.cls) hts hin t0 hty hnm ok.2.2.2.2.2.2.2.2.1.1 hc
  obtain ⟨hSl, hfc, kC, hkC, hkind⟩ := ok.2.2.2.2.2.2.2.2.1.1.1 c _ hc
  obtain ⟨cf, kf, fi, f, hf, hsl⟩ := hSl k hkN
  have hlay := hts _ (hin _ (u_in_lay hkN))
  unfold u_lay at hlay
  rw [if_pos hfin] at hlay
  have hst := (u_facts hfc hkC (u_lays hts hin hkN) hf).1
  have hown := ok.2.2.2.2.1
  have hC : C = mt.1.cls := by rw [hc] at hcls; exact Option.some.inj hcls
  have hcf : cx.2.2.2.2.1.cls = cf := by
    obtain ⟨_, _, c', _, _, _, -, -, hf', -, -, -, hown2, -⟩ := Cond.laysFinal_spec hlay
    have e1 : c' = cf := by have := hf.symm.trans hf'; simp at this; exact this.1.symm
    rw [hdecl, hC] at hown2
    rw [← e1]; exact Option.some.inj (hown.symm.trans hown2)
  have h6 := u_fits hfc hkC hkind (Or.inr hlay) hf hdty hn hfit
  refine W.putFinK ok.1 ok.2.1 hown (hts _ hlink) hf hst hcf (ok.2.2.2.2.2.2.2.1.trans hini) (by rw [q2]; exact h6) q1 q3 (by rw [hsl]; exact k2_hasslot (q4 k hkN)) rfl rfl hd fun H' e1 e2 e3 => ?_
  rw [hsl] at e1 ⊢
  have hn0 := hR.1
  refine kk ok H' _ lsA (hR.put hi hI hRR e2 e3 ⟨fun h7 => ?_, fun h7 => absurd (by rw [hk]; exact hc7) h7⟩) (xS_put (by omega) hS e2 e3) hL
  rw [hk, hu]
  exact ⟨_, e1, q2, q3, t_set q4 hap hkN _⟩
theorem xin {x : Int32} {j N : Nat} (h0 : ¬ x < 0) (hj : x.toNatClampNeg = j) (hlt : j < N) : ¬ (x < 0 ∨ N ≤ x.toNatClampNeg) := by
  rw [hj]
  rintro (h | h)
  · exact h0 h
  · omega
theorem x_iald {i j : Nat} {x : Int32} (hd : decode mt.2.1 pc = .ok (.iaload, 1)) (hk : xkd i = 8) (hi : i < n) (h0 : ¬ x < 0) (hj : x.toNatClampNeg = j) (hlt : j < xln i)
    (kk : X g cx mt F cs (pc + 1) ls (.int (I i j) :: st) n I R) : X g cx mt F cs pc ls (.int x :: .ref i :: st) n I R := by
  intro ok H locs lsA hR hS hL
  have hc := hR.arr hi hk (by decide)
  refine W.iald (v := .int (I i j)) ok.1 ok.2.1 hc ((ok.2.2.2.2.2.2.2.2.1.1.2 1 _ rfl).1 _ _) (fun q => by cases q) (by rw [arrV_size]; exact xin h0 hj hlt) ?_ rfl rfl hd (kk ok H locs lsA hR hS hL)
  rw [hj, arrV_read _ _ hlt]; rfl
theorem x_cald {i j : Nat} {x : Int32} (hd : decode mt.2.1 pc = .ok (.caload, 1)) (hk : xkd i = 7) (hi : i < n) (h0 : ¬ x < 0) (hj : x.toNatClampNeg = j) (hlt : j < xln i)
    (kk : X g cx mt F cs (pc + 1) ls (.int (I i j) :: st) n I R) : X g cx mt F cs pc ls (.int x :: .ref i :: st) n I R := by
  intro ok H locs lsA hR hS hL
  have hc := hR.arr hi hk (by decide)
  refine W.cald (v := .int (I i j)) ok.1 ok.2.1 hc ((ok.2.2.2.2.2.2.2.2.1.1.2 0 _ rfl).1 _ _) (fun q => by cases q) (by rw [arrV_size]; exact xin h0 hj hlt) ?_ rfl rfl hd (kk ok H locs lsA hR hS hL)
  rw [hj, arrV_read _ _ hlt]; rfl
theorem x_aald {i j a c : Nat} {x : Int32} (hc : 9 ≤ c ∧ c ≤ 11) (hd : decode mt.2.1 pc = .ok (.aaload, 1)) (hk : xkd i = c) (hi : i < n) (h0 : ¬ x < 0) (hj : x.toNatClampNeg = j) (hlt : j < xln i) (ha : R i j = some a)
    (kk : X g cx mt F cs (pc + 1) ls (.ref a :: st) n I R) : X g cx mt F cs pc ls (.int x :: .ref i :: st) n I R := by
  intro ok H locs lsA hR hS hL
  have hcell := hR.arr hi hk (by omega)
  obtain ⟨ty, hty, hA⟩ : ∃ ty : FieldType, ty.isReference = true ∧ ArrOfT cx.2.2.2.1 (g.2.2 c) ty := by
    rcases (show c = 9 ∨ c = 10 ∨ c = 11 by omega) with rfl | rfl | rfl
    · exact ⟨.object RX1, rfl, (ok.2.2.2.2.2.2.2.2.1.1.2 2 _ rfl).1⟩
    · exact ⟨.object RX3, rfl, (ok.2.2.2.2.2.2.2.2.1.1.2 3 _ rfl).1⟩
    · exact ⟨.object RX4, rfl, (ok.2.2.2.2.2.2.2.2.1.1.2 4 _ rfl).1⟩
  refine W.aald (v := .ref (xad g a)) ok.1 ok.2.1 hcell (hA _ _) hty (fun q => by cases q) (by rw [arrV_size]; exact xin h0 hj hlt) ?_ rfl rfl hd (kk ok H locs lsA hR hS hL)
  have hx : xrf c j = true := by rcases (show c = 9 ∨ c = 10 ∨ c = 11 by omega) with rfl | rfl | rfl <;> rfl
  rw [hj, arrV_read _ _ hlt, xval_R hx, ha]; rfl
theorem x_iast {i j : Nat} {x y : Int32} (hd : decode mt.2.1 pc = .ok (.iastore, 1)) (hk : xkd i = 8) (hi : i < n) (h0 : ¬ x < 0) (hj : x.toNatClampNeg = j) (hlt : j < xln i)
    (kk : X g cx mt F cs (pc + 1) ls st n (xuI I i j y) R) : X g cx mt F cs pc ls (.int y :: .int x :: .ref i :: st) n I R := by
  intro ok H locs lsA hR hS hL
  have hc := hR.arr hi hk (by decide)
  have hn0 := hR.1
  refine W.iast ok.1 ok.2.1 hc ((ok.2.2.2.2.2.2.2.2.1.1.2 1 _ rfl).1 _ _) (fun q => by cases q) (by rw [arrV_size]; exact xin h0 hj hlt) rfl rfl hd fun H1 e z oq => ?_
  refine kk ok H1 _ lsA (hR.put hi (fun _ h => xuI_ne h) (fun _ _ => rfl) z oq ⟨fun h7 => absurd h7 (by rw [hk]; decide), fun h7 => ?_⟩) (xS_put (by omega) hS z oq) hL
  rw [e, hj, arrV_store, hk, xval_uI rfl]
theorem x_cast {i j : Nat} {x y : Int32} (hd : decode mt.2.1 pc = .ok (.castore, 1)) (hk : xkd i = 7) (hi : i < n) (h0 : ¬ x < 0) (hj : x.toNatClampNeg = j) (hlt : j < xln i) (hy : narrow .char (.int y) = .int y)
    (kk : X g cx mt F cs (pc + 1) ls st n (xuI I i j y) R) : X g cx mt F cs pc ls (.int y :: .int x :: .ref i :: st) n I R := by
  intro ok H locs lsA hR hS hL
  have hc := hR.arr hi hk (by decide)
  have hn0 := hR.1
  refine W.cast ok.1 ok.2.1 hc ((ok.2.2.2.2.2.2.2.2.1.1.2 0 _ rfl).1 _ _) (fun q => by cases q) (by rw [arrV_size]; exact xin h0 hj hlt) rfl rfl hd fun H1 e z oq => ?_
  refine kk ok H1 _ lsA (hR.put hi (fun _ h => xuI_ne h) (fun _ _ => rfl) z oq ⟨fun h7 => absurd h7 (by rw [hk]; decide), fun h7 => ?_⟩) (xS_put (by omega) hS z oq) hL
  rw [e, hj, hy, arrV_store, hk, xval_uI rfl]
theorem x_alen {i c : Nat} {v : Int32} (hd : decode mt.2.1 pc = .ok (.arraylength, 1)) (hk : xkd i = c) (hc : 7 ≤ c ∧ c ≤ 11) (hi : i < n) (hv : Int32.ofNat (xln i) = v)
    (kk : X g cx mt F cs (pc + 1) ls (.int v :: st) n I R) : X g cx mt F cs pc ls (.ref i :: st) n I R := by
  intro ok H locs lsA hR hS hL
  have hcell := hR.arr hi hk (by omega)
  obtain ⟨ty, hA⟩ : ∃ ty : FieldType, ArrOfT cx.2.2.2.1 (g.2.2 c) ty := by
    rcases (show c = 7 ∨ c = 8 ∨ c = 9 ∨ c = 10 ∨ c = 11 by omega) with rfl | rfl | rfl | rfl | rfl
    · exact ⟨.char, (ok.2.2.2.2.2.2.2.2.1.1.2 0 _ rfl).1⟩
    · exact ⟨.int, (ok.2.2.2.2.2.2.2.2.1.1.2 1 _ rfl).1⟩
    · exact ⟨.object RX1, (ok.2.2.2.2.2.2.2.2.1.1.2 2 _ rfl).1⟩
    · exact ⟨.object RX3, (ok.2.2.2.2.2.2.2.2.1.1.2 3 _ rfl).1⟩
    · exact ⟨.object RX4, (ok.2.2.2.2.2.2.2.2.1.1.2 4 _ rfl).1⟩
  exact W.alen (n := v) ok.1 ok.2.1 hcell (hA _ _) (by rw [arrV_size]; exact hv) rfl rfl hd (kk ok H locs lsA hR hS hL)
theorem xad_W (g : GX) (j : Nat) : xad g (1020 + j) = g.1.2 (20 + j) := by
  have e : 1020 + j - 1000 = 20 + j := by omega
  unfold xad
  rw [if_neg (by omega), e]
/-- reading the law's own row j -/
theorem x_ildW {j k : Nat} {x : Int32} (hd : decode mt.2.1 pc = .ok (.iaload, 1)) (hg : j < g.1.2 30) (h0 : ¬ x < 0) (hj : x.toNatClampNeg = k) (hlt : k < 4)
    (kk : X g cx mt F cs (pc + 1) ls (.int (I (1020 + j) k) :: st) n I R) : X g cx mt F cs pc ls (.int x :: .ref (1020 + j) :: st) n I R := by
  intro ok H locs lsA hR hS hL
  have had : xad g (1020 + j) = g.1.2 (20 + j) := xad_W g j
  have hc := (hR.2.2.2.2 j hg).2
  rw [← had] at hc
  refine W.iald (v := .int (I (1020 + j) k)) ok.1 ok.2.1 hc ((ok.2.2.2.2.2.2.2.2.1.1.2 1 _ rfl).1 _ _) (fun q => by cases q) (by rw [arrV_size]; exact xin h0 hj hlt) ?_ rfl rfl hd (kk ok H locs lsA hR hS hL)
  rw [hj, arrV_read _ _ hlt]
/-- writing it -/
theorem x_istW {j k : Nat} {x y : Int32} (hd : decode mt.2.1 pc = .ok (.iastore, 1)) (hg : j < g.1.2 30) (h0 : ¬ x < 0) (hj : x.toNatClampNeg = k) (hlt : k < 4)
    (kk : X g cx mt F cs (pc + 1) ls st n (xuI I (1020 + j) k y) R) : X g cx mt F cs pc ls (.int y :: .int x :: .ref (1020 + j) :: st) n I R := by
  intro ok H locs lsA hR hS hL
  have had : xad g (1020 + j) = g.1.2 (20 + j) := xad_W g j
  have hW := hR.2.2.2.2 j hg
  have hc := hW.2
  rw [← had] at hc
  have hn0 := hR.1
  have hap : ∀ j' : Nat, j' < g.1.2 30 → j' ≠ j → ¬ g.1.2 (20 + j') = g.1.2 (20 + j) := fun j' h1 h2 => by
    rcases Nat.lt_or_gt_of_ne h2 with q | q
    · exact hW.1.2 j' q
    · exact fun e => (hR.2.2.2.2 j' h1).1.2 j q e.symm
  refine W.iast ok.1 ok.2.1 hc ((ok.2.2.2.2.2.2.2.2.1.1.2 1 _ rfl).1 _ _) (fun q => by cases q) (by rw [arrV_size]; exact xin h0 hj hlt) rfl rfl hd fun H1 e z oq => ?_
  refine kk ok H1 _ lsA ⟨hR.1, by rw [z]; exact hR.2.1, fun h => by rw [z]; exact hR.2.2.1 h, fun i hi => ?_, fun j' hj' => ⟨(hR.2.2.2.2 j' hj').1, ?_⟩⟩ (hS.put z oq (by rw [had]; show g.1.1 ≤ _; have := hW.1.1; omega)) hL
  · refine (hR.2.2.2.1 i hi).kept (oq _ ?_) ?_
    · rw [had, xad_lo g (by omega)]
      exact Nat.ne_of_lt (show g.1.1 + i < g.1.2 (20 + j) by have := hW.1.1; omega)
    · funext b
      simp only [xval, xuI_ne (show i ≠ 1020 + j by omega)]
  · by_cases q : j' = j
    · subst q
      rw [had] at e
      rw [e, hj, arrV_store]
      congr 2
      funext b
      by_cases hb : b = k
      · subst hb; simp [updV, xuI]
      · simp [updV, xuI, hb]
    · rw [oq _ (by rw [had]; exact hap j' hj' q), (hR.2.2.2.2 j' hj').2]
      rw [xuI_ne (by omega)]
end XH
