
/-! the class: what changes a state -/
/-- it ends with the state's row Z' -/
def SQ (o : Nat) (I : MI) (R : MR) (r : Option Value) (Z' : MI) : XQ := fun r' n' I' R' => r' = r ∧ n' = 131 ∧ R' = R ∧ Off o I I' ∧ SJ o I' Z'
section SJf
variable {o : Nat} {I Z : MI}
theorem SJ.f4 (h : SJ o I Z) : I o 4 = Z 8 3 := h.sc (by omega) (by omega)
theorem SJ.f5 (h : SJ o I Z) : I o 5 = Z 8 7 := h.sc (by omega) (by omega)
theorem SJ.f6 (h : SJ o I Z) : I o 6 = Z 8 4 := h.sc (by omega) (by omega)
theorem SJ.f7 (h : SJ o I Z) : I o 7 = Z 8 5 := h.sc (by omega) (by omega)
theorem SJ.f8 (h : SJ o I Z) : I o 8 = Z 8 6 := h.sc (by omega) (by omega)
theorem SJ.f9 (h : SJ o I Z) : I o 9 = Z 8 8 := h.sc (by omega) (by omega)
theorem SJ.f10 (h : SJ o I Z) : I o 10 = Z 8 9 := h.sc (by omega) (by omega)
variable {k : Nat}
theorem SJ.s0 (h : SJ o I Z) (hk : k < 4) : I (o + 6 + 2 * k) 1 = Z k 0 := h.sp (w := 0) hk (by omega)
theorem SJ.s1 (h : SJ o I Z) (hk : k < 4) : I (o + 6 + 2 * k) 2 = bi (tk Z k) := (h.sp (w := 1) hk (by omega)).trans (h.tb hk)
theorem SJ.s2 (h : SJ o I Z) (hk : k < 4) : I (o + 6 + 2 * k) 3 = Z k 2 := h.sp (w := 2) hk (by omega)
theorem SJ.s3 (h : SJ o I Z) (hk : k < 4) : I (o + 6 + 2 * k) 4 = Z k 3 := h.sp (w := 3) hk (by omega)
theorem SJ.s4 (h : SJ o I Z) (hk : k < 4) : I (o + 6 + 2 * k) 5 = Z k 4 := h.sp (w := 4) hk (by omega)
theorem SJ.s5 (h : SJ o I Z) (hk : k < 4) : I (o + 6 + 2 * k) 6 = Z k 5 := h.sp (w := 5) hk (by omega)
theorem SJ.s6 (h : SJ o I Z) (hk : k < 4) : I (o + 6 + 2 * k) 7 = Z k 6 := h.sp (w := 6) hk (by omega)
theorem SJ.l0 (h : SJ o I Z) (hk : k < 4) : I (o + 14 + k) 0 = Z (4 + k) 0 := h.ls (w := 0) hk (by omega)
theorem SJ.l1 (h : SJ o I Z) (hk : k < 4) : I (o + 14 + k) 1 = Z (4 + k) 1 := h.ls (w := 1) hk (by omega)
theorem SJ.l2 (h : SJ o I Z) (hk : k < 4) : I (o + 14 + k) 2 = Z (4 + k) 2 := h.ls (w := 2) hk (by omega)
theorem SJ.l3 (h : SJ o I Z) (hk : k < 4) : I (o + 14 + k) 3 = Z (4 + k) 3 := h.ls (w := 3) hk (by omega)
theorem SJ.l4 (h : SJ o I Z) (hk : k < 4) : I (o + 14 + k) 4 = Z (4 + k) 4 := h.ls (w := 4) hk (by omega)
theorem upd_self {f : Nat → Int32} {k : Nat} {v : Int32} : upd f k v k = v := by simp [upd]
theorem upd_ne {f : Nat → Int32} {k j : Nat} {v : Int32} (h : j ≠ k) : upd f k v j = f j := by simp [upd, h]
theorem SPJ.u {F P z : Nat → Int32} (h : SPJ F P z) {w : Nat} {v : Int32} (h2 : 2 ≤ w) (h7 : w < 7) : SPJ (upd F (w + 1) v) P (upd z w v) := by
  obtain ⟨m, t, a1, a2, a3, a4, a5, a6⟩ := h
  refine ⟨m, t, a1, by rw [upd_ne (by omega)]; exact a2, by rw [upd_ne (by omega)]; exact a3, a4, fun u hu => ?_, fun j hj => ?_⟩
  · by_cases e : u = w
    · subst e; rw [upd_self, upd_self]
    · rw [upd_ne (by omega), upd_ne (by omega)]; exact a5 u hu
  · rw [upd_ne (by omega), upd_ne (by omega), upd_ne (by omega)]; exact a6 j hj
theorem SPJ.ut {F P z : Nat → Int32} (h : SPJ F P z) {b : Bool} (hb : b = true → ¬ z 0 ≤ 0) : SPJ (upd F 2 (bi b)) P (upd z 1 (bi b)) := by
  obtain ⟨m, t, a1, a2, a3, a4, a5, a6⟩ := h
  refine ⟨m, b, a1, by rw [upd_ne (by omega)]; exact a2, upd_self, fun e => ?_, fun u hu => ?_, fun j hj => ?_⟩
  · have := hb e
    rw [a2] at this
    exact Nat.pos_of_ne_zero (fun q => this (by rw [q]; decide))
  · by_cases e : u = 1
    · subst e; rw [upd_self, upd_self]
    · rw [upd_ne (by omega), upd_ne (by omega)]; exact a5 u hu
  · rw [upd_ne (by omega), upd_ne (by omega), upd_ne (by omega)]; exact a6 j hj
theorem LSJ.u {F z : Nat → Int32} (h : LSJ F z) {w : Nat} {v : Int32} (h2 : w ≠ 2) : LSJ (upd F w v) (upd z w v) := by
  refine ⟨fun u hu => ?_, ?_⟩
  · by_cases e : u = w
    · subst e; rw [upd_self, upd_self]
    · rw [upd_ne e, upd_ne e]; exact h.1 u hu
  · rw [upd_ne (Ne.symm h2)]; exact h.2
theorem LSJ.us {F z : Nat → Int32} (h : LSJ F z) {s : Nat} (hs : s ≤ 99) : LSJ (upd F 2 (nI s)) (upd z 2 (nI s)) := by
  refine ⟨fun u hu => ?_, ⟨s, hs, upd_self⟩⟩
  by_cases e : u = 2
  · subst e; rw [upd_self, upd_self]
  · rw [upd_ne e, upd_ne e]; exact h.1 u hu
end SJf
section CM
variable {g : GX} {cx : CX} {mt : MT} {F : State → Prop} {cs : Nat × Nat} {pc : Nat} {ls : List (Option Value)} {st : List Value} {I I0 : MI} {R : MR} {o : Nat} {Z : MI}
theorem x_callVq {mt' : MT} {idx b c : Nat} {av : List Value} {st0 : List Value} {r : Option Value} {Z' : MI} (hO : Off o I0 I) (hsp : Sp mt' (.ref b :: av) 131 I R (SQ o I R r Z')) (hm : xMV mt' c) (hl : Cond.methodLink mt.1.cls idx mt'.1 ∈ XT) (hroom : xRoom mt mt') (hd : decode mt.2.1 pc = .ok (.invokevirtual idx, 3)) (hk : xkd b = c) (hb : b < 131) (hst : st0 = av.reverse ++ .ref b :: st) (hn : av.length = mt'.2.2.2.2.2) (hcat : (st.map fun v => v.category).sum ≤ 8) (h0 : xNo mt') (hf : xFit mt cs) (k : ∀ I', Off o I0 I' → SJ o I' Z' → X g cx mt F cs (pc + 3) ls (r.toList ++ st) 131 I' R) : X g cx mt F cs pc ls st0 131 I R :=
  x_callV hsp hm hl hroom hd hk hb hst hn hcat (fun r' n' I2 R2 h => by
    obtain ⟨rfl, rfl, rfl, h1, h2⟩ := h
    rw [xNo_cs h0]
    exact k I2 (hO.tr h1) h2) (xNo_fit h0 hf)
theorem x_putS {idx f w : Nat} {v : Int32} (hS : St R o) (hO : Off o I0 I) (hJ : SJ o I Z) (fl : FL mt.1.cls idx 4 f) (fp : FP 4 f false .int) (hd : decode mt.2.1 pc = .ok (.putfield idx, 3)) (h1 : 4 ≤ f) (h2 : f ≤ 10) (hw : scw f = w) (k : ∀ I', Off o I0 I' → SJ o I' (xuI Z 8 w v) → X g cx mt F cs (pc + 3) ls st 131 I' R) : X g cx mt F cs pc ls (.int v :: .ref o :: st) 131 I R :=
  x_putI fl fp hd hS.k0 hS.lt0 (by
    have key : ∀ f, f < 11 → 4 ≤ f → xrf 4 f = false := by decide
    exact key f (by omega) h1) rfl rfl (k _ (hO.tr Off.sc) (hJ.usc h1 h2 hw))
theorem x_st {Z' : MI} (hO : Off o I0 I) (hJ : SJ o I Z') (k : ∀ I', Off o I0 I' → SJ o I' Z' → X g cx mt F cs pc ls st 131 I' R) : X g cx mt F cs pc ls st 131 I R := k I hO hJ
/-- a call that changes a speaker -/
theorem x_callSp {mt' : MT} {idx k : Nat} {av : List Value} {st0 : List Value} {F' P' z : Nat → Int32} (hS : St R o) (hO : Off o I0 I) (hJ : SJ o I Z) (hk : k < 4) (hsp : Spd mt' (.ref (o + 6 + 2 * k) :: av) (SM I (o + 6 + 2 * k) (o + 7 + 2 * k) (I (o + 6 + 2 * k)) (I (o + 7 + 2 * k))) R none (SM I (o + 6 + 2 * k) (o + 7 + 2 * k) F' P')) (hz : SPJ F' P' z) (hm : xMV mt' 3) (hl : Cond.methodLink mt.1.cls idx mt'.1 ∈ XT) (hroom : xRoom mt mt') (hd : decode mt.2.1 pc = .ok (.invokevirtual idx, 3)) (hst : st0 = av.reverse ++ .ref (o + 6 + 2 * k) :: st) (hn : av.length = mt'.2.2.2.2.2) (hcat : (st.map fun v => v.category).sum ≤ 8) (h0 : xNo mt') (hf : xFit mt cs) (kk : ∀ I', Off o I0 I' → SJ o I' (rw1 Z k z) → X g cx mt F cs (pc + 3) ls st 131 I' R) : X g cx mt F cs pc ls st0 131 I R := by
  rw [SM_self] at hsp
  exact x_callVd0 hsp hm hl hroom hd (hS.ks hk) (hS.lts hk) hst hn hcat h0 hf (kk _ (hO.tr (Off.sp hk)) (hJ.usp hk hz))
end CM
/-- those of a set lose -/
def pLs (Z : MI) (b : Nat → Bool) (k : Nat) : MI := fun a w => if a < k ∧ b a = true then (if w = 1 then 0 else if w = 3 then Z a 3 + 1 else Z a w) else Z a w
theorem pLs_0 {Z : MI} {b : Nat → Bool} : pLs Z b 0 = Z := by funext a w; simp [pLs]
theorem pLs_ge {Z : MI} {b : Nat → Bool} {k a : Nat} (h : k ≤ a) : pLs Z b k a = Z a := by funext w; simp only [pLs]; rw [if_neg (fun q => by omega)]
theorem pLs_no {Z : MI} {b : Nat → Bool} {k : Nat} (h : b k = false) : pLs Z b (k + 1) = pLs Z b k := by
  funext a w
  by_cases e : a = k
  · subst e; rw [pLs_ge (Nat.le_refl a)]; simp only [pLs]; rw [if_neg (fun q => by rw [h] at q; cases q.2)]
  · simp only [pLs]
    by_cases q : a < k
    · by_cases hb : b a = true
      · rw [if_pos (show a < k + 1 ∧ b a = true from ⟨by omega, hb⟩), if_pos (show a < k ∧ b a = true from ⟨q, hb⟩)]
      · rw [if_neg (fun z => hb z.2), if_neg (fun z => hb z.2)]
    · rw [if_neg (fun z => by omega), if_neg (fun z => by omega)]
theorem pLs_yes {Z : MI} {b : Nat → Bool} {k : Nat} (h : b k = true) : rw1 (pLs Z b k) k (upd (upd (pLs Z b k k) 1 (bi false)) 3 (pLs Z b k k 3 + nI 1)) = pLs Z b (k + 1) := by
  funext a w
  by_cases e : a = k
  · subst e
    rw [rw1_self, pLs_ge (Nat.le_refl a)]
    simp only [pLs]
    rw [if_pos ⟨by omega, h⟩]
    by_cases h1 : w = 1
    · subst h1; rw [upd_ne (by omega), upd_self, if_pos rfl]; rfl
    · by_cases h3 : w = 3
      · subst h3; rw [upd_self, if_neg (by omega), if_pos rfl]; rfl
      · rw [upd_ne h3, upd_ne h1, if_neg h1, if_neg h3]
  · rw [rw1_ne e]
    simp only [pLs]
    by_cases q : a < k
    · by_cases hb : b a = true
      · rw [if_pos (show a < k ∧ b a = true from ⟨q, hb⟩), if_pos (show a < k + 1 ∧ b a = true from ⟨by omega, hb⟩)]
      · rw [if_neg (fun z => hb z.2), if_neg (fun z => hb z.2)]
    · rw [if_neg (fun z => by omega), if_neg (fun z => by omega)]
theorem SPJ_lose {F P z : Nat → Int32} (h : SPJ F P z) : SPJ (skLose F) P (upd (upd z 1 (bi false)) 3 (z 3 + nI 1)) := by
  have e : F 4 = z 3 := by obtain ⟨m, t, a1, a2, a3, a4, a5, a6⟩ := h; exact a5 3 (by omega)
  unfold skLose
  rw [e]
  exact (h.ut (b := false) (fun q => by cases q)).u (w := 3) (by omega) (by omega)
section CL
variable {I : MI} {R : MR} {o : Nat} {Z : MI}
theorem sp_lose {b : Nat → Bool} (hS : St R o) (hJ : SJ o I Z) : Sp mX4_lose [.ref o, .int (mk b 4)] 131 I R (SQ o I R none (pLs Z b 4)) := by
  refine Sp.mk (by decide +kernel) (by simp [Value.category]) (Nat.le_of_ble_eq_true rfl) (fun g cx => ?_)
  refine x_iconst (nI 0) dX4_lose_0 (by decide) ?_
  refine x_istore_n dX4_lose_1 rfl (by decide) ?_
  have key : ∀ (m k : Nat) (I1 : MI), k + m = 4 → Off o I I1 → SJ o I1 (pLs Z b k) → X g cx mX4_lose (xF g cx mX4_lose (SQ o I R none (pLs Z b 4))) (0, 0) 2 [some (.ref o), some (.int (mk b 4)), some (.int (nI k))] [] 131 I1 R := ?_
  · exact key 4 0 _ rfl Off.rf (by rw [pLs_0]; exact hJ)
  intro m
  induction m with
  | zero =>
    intro k I hk hO hJ
    obtain rfl : k = 4 := by omega
    refine x_iload_n dX4_lose_2 rfl rfl ?_
    refine x_aload_n dX4_lose_3 rfl rfl ?_
    refine x_getR fl_X4_11 dX4_lose_4 hS.k0 hS.lt0 rfl hS.r0 ?_
    refine x_alen (v := nI 4) dX4_lose_7 hS.k1 ⟨by decide, by decide⟩ (hS.lt (by omega)) (by rw [hS.l1]; rfl) ?_
    refine x_icmp_geN 34 dX4_lose_8 (by decide) (by omega) (by omega) (fun c8 => ?_) (fun c8 => ?_)
    · skip
      refine x_vret dX4_lose_34 rfl (by decide) (by decide) ?_
      exact ⟨rfl, rfl, rfl, hO, hJ⟩
    · skip
      exact absurd c8 (by omega)
  | succ m ih =>
    intro k I hk hO hJ
    refine x_iload_n dX4_lose_2 rfl rfl ?_
    refine x_aload_n dX4_lose_3 rfl rfl ?_
    refine x_getR fl_X4_11 dX4_lose_4 hS.k0 hS.lt0 rfl hS.r0 ?_
    refine x_alen (v := nI 4) dX4_lose_7 hS.k1 ⟨by decide, by decide⟩ (hS.lt (by omega)) (by rw [hS.l1]; rfl) ?_
    refine x_icmp_geN 34 dX4_lose_8 (by decide) (by omega) (by omega) (fun c8 => ?_) (fun c8 => ?_)
    · skip
      exact absurd c8 (by omega)
    · skip
      refine x_iload_n dX4_lose_11 rfl rfl ?_
      refine x_iload_n dX4_lose_12 rfl rfl ?_
      refine x_callSd0 (mt' := mX4_isIn) (sp_isIn (by omega)) ktX4_isIn wl_X4_203 (by decide) dX4_lose_13 rfl rfl (Nat.le_of_ble_eq_true rfl) ⟨rfl, rfl⟩ (by decide) ?_
      refine x_if_eq 28 dX4_lose_16 (by decide) (fun c16 => ?_) (fun c16 => ?_)
      · skip
        refine x_iincN 1 dX4_lose_28 rfl (by decide) (by decide) ?_
        refine x_goto 2 dX4_lose_31 (by decide) ?_
        exact ih (k + 1) I (by omega) hO (by first | (rw [pLs_no (bi_0.mp c16)]; exact hJ) | (rw [← pLs_yes (bi_nt c16)]; exact hJ))
      · skip
        refine x_aload_n dX4_lose_19 rfl rfl ?_
        refine x_getR fl_X4_11 dX4_lose_20 hS.k0 hS.lt0 rfl hS.r0 ?_
        refine x_iload_n dX4_lose_23 rfl rfl ?_
        refine x_aald (j := k) (c := 10) ⟨by decide, by decide⟩ dX4_lose_24 hS.k1 (hS.lt (by omega)) (nI_pos (by omega)) (nI_clamp (by omega)) (by rw [hS.l1]; omega) (hS.rs (by omega)) ?_
        refine x_callSp hS hO hJ (k := k) (by omega) (mt' := mX3_lose) (sp_X3_lose (hS.sk (by omega))) (SPJ_lose (hJ.1 k (by omega))) kvX3_lose wl_X4_206 (by decide) dX4_lose_25 rfl rfl (Nat.le_of_ble_eq_true rfl) ⟨rfl, rfl⟩ (by decide) (fun I hO hJ => ?_)
        refine x_iincN 1 dX4_lose_28 rfl (by decide) (by decide) ?_
        refine x_goto 2 dX4_lose_31 (by decide) ?_
        exact ih (k + 1) I (by omega) hO (by first | (rw [pLs_no (bi_0.mp c16)]; exact hJ) | (rw [← pLs_yes (bi_nt c16)]; exact hJ))
end CL
