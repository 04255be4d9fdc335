/-! class and reference together *)
-/
theorem MM_hi {J J1 : MI} {φ α β κ τ : Nat → Int32} {Z : MI} (h : J = MM J φ Z α β κ τ) (hH : Hi J J1) : J1 = MM J1 φ Z α β κ τ := by
  funext a
  by_cases q : 131 ≤ a
  · rw [hH a q]
    have := congrFun h a
    rw [this]
    unfold MM
    by_cases c1 : a = 131
    · rw [if_pos c1, if_pos c1]
    · rw [if_neg c1, if_neg c1]
      by_cases c2 : a = 132
      · rw [if_pos c2, if_pos c2]
      · rw [if_neg c2, if_neg c2]
        by_cases c3 : a = 133
        · rw [if_pos c3, if_pos c3]
        · rw [if_neg c3, if_neg c3]
          by_cases c4 : a = 134
          · rw [if_pos c4, if_pos c4]
          · rw [if_neg c4, if_neg c4]
            by_cases c5 : a = 135
            · rw [if_pos c5, if_pos c5]
            · rw [if_neg c5, if_neg c5]
              by_cases c6 : a = 136
              · rw [if_pos c6, if_pos c6]
              · rw [if_neg c6, if_neg c6, hH a q]
  · unfold MM
    rw [if_neg (by omega), if_neg (by omega), if_neg (by omega), if_neg (by omega), if_neg (by omega), if_neg (by omega)]
theorem MM_lo {I : MI} {φ α β κ τ : Nat → Int32} {Z : MI} {a : Nat} (h : a < 131) : MM I φ Z α β κ τ a = I a := by
  unfold MM
  rw [if_neg (by omega), if_neg (by omega), if_neg (by omega), if_neg (by omega), if_neg (by omega), if_neg (by omega)]
theorem MM_mm {I : MI} {φ α β κ τ : Nat → Int32} {Z : MI} : MM I φ Z α β κ τ = MM (MM I φ Z α β κ τ) φ Z α β κ τ := by
  funext a
  by_cases q : a < 131
  · rw [MM_lo q, MM_lo q, MM_lo q]
  · unfold MM
    by_cases c1 : a = 131
    · rw [if_pos c1, if_pos c1]
    · rw [if_neg c1, if_neg c1]
      by_cases c2 : a = 132
      · rw [if_pos c2, if_pos c2]
      · rw [if_neg c2, if_neg c2]
        by_cases c3 : a = 133
        · rw [if_pos c3, if_pos c3]
        · rw [if_neg c3, if_neg c3]
          by_cases c4 : a = 134
          · rw [if_pos c4, if_pos c4]
          · rw [if_neg c4, if_neg c4]
            by_cases c5 : a = 135
            · rw [if_pos c5, if_pos c5]
            · rw [if_neg c5, if_neg c5]
              by_cases c6 : a = 136
              · rw [if_pos c6, if_pos c6]
              · rw [if_neg c6, if_neg c6]
/-- row i of the reference's history -/
def rwH (β : Nat → Int32) (i : Nat) : MI := uz (fun j => β (375 * i + j))
def RF (φ : Nat → Int32) (h n : Nat) (e : Bool) (a b : Int32) : Prop := φ 3 = nI h ∧ φ 5 = bi e ∧ φ 7 = nI n ∧ (φ 8 = a ∧ (a = -5 → b = -5) ∧ (¬ a = -5 → b = φ 9)) ∧ (∃ p, φ 10 = nI p) ∧ ∃ w, φ 11 = bi w
def RLs (J : MI) (R : MR) : Prop := ∃ (σ : Nat → Nat) (φ α β κ τ : Nat → Int32) (Z : MI) (h n : Nat) (e : Bool) (a b : Int32), J = MM J φ Z α β κ τ ∧ Cl σ J R Z (rwH β) h (uz κ) e n τ a b ∧ RF φ h n e a b
theorem Cl.mm {σ : Nat → Nat} {J : MI} {R : MR} {Z Z' : MI} {H H' : Nat → MI} {h : Nat} {K K' : MI} {e : Bool} {n : Nat} {t t' : Nat → Int32} {a b : Int32} {φ α β κ τ : Nat → Int32} {Y : MI} (hC : Cl σ J R Z H h K e n t a b) (hZ : Zq Z Z') (hH : ∀ i, i < h → Zq (H i) (H' i)) (hK : e = true → Zq K K') (ht : ∀ i, i < n → t i = t' i) : Cl σ (MM J φ Y α β κ τ) R Z' H' h K' e n t' a b := by
  obtain ⟨hb, ⟨h1, h2⟩, ⟨h3, h4⟩, ⟨h5, h6⟩, h7, ⟨f5, f6, f7, f8⟩, hT⟩ := hC
  have key : ∀ {o : Nat} {Y' : MI}, St R o → SJ o J Y' → SJ o (MM J φ Y α β κ τ) Y' := fun {o Y'} hS hY => hY.cg (fun a q1 q2 => MM_lo (by have := hS.le; omega)) (fun _ _ => rfl)
  have e0 : MM J φ Y α β κ τ 0 = J 0 := MM_lo (by omega)
  refine ⟨hb, ⟨(key hb.s1 h1).zq hZ, h2.zq hZ⟩, ⟨h3, fun i hi => ⟨(key (hb.st (by omega)) (h4 i hi).1).zq (hH i hi), (h4 i hi).2.zq (hH i hi)⟩⟩, ⟨fun i hi => ?_, ?_⟩, fun q => ⟨(key hb.s19 (h7 q).1).zq (hK q), (h7 q).2.zq (hK q)⟩, ⟨by rw [e0]; exact f5, by rw [e0]; exact f6, by rw [e0]; exact f7, by rw [e0]; exact f8⟩, ⟨hT.1, by rw [MM_lo (by omega)]; exact hT.2.1, fun i hi => by rw [MM_lo (by omega)]; exact (hT.2.2 i hi).trans (ht i hi)⟩⟩
  · obtain ⟨Y', hY⟩ := h5 i hi
    exact ⟨Y', key (hb.st hi) hY⟩
  · obtain ⟨Y', hY⟩ := h6
    exact ⟨Y', key hb.s19 hY⟩
theorem RL_of {σ : Nat → Nat} {J : MI} {R : MR} {Zc Z : MI} {H : Nat → MI} {h : Nat} {K : MI} {e : Bool} {n : Nat} {t : Nat → Int32} {a b : Int32} {φ α β κ τ : Nat → Int32} (hC : Cl σ J R Zc H h K e n t a b) (hZ : Zq Zc Z) (hH : ∀ i, i < h → Zq (H i) (rwH β i)) (hK : e = true → Zq K (uz κ)) (ht : ∀ i, i < n → t i = τ i) (hF : RF φ h n e a b) : RLs (MM J φ Z α β κ τ) R :=
  ⟨σ, φ, α, β, κ, τ, Z, h, n, e, a, b, MM_mm, hC.mm hZ hH hK ht, hF⟩
/-- a call answers alike in both -/
def Pr (m5 m6 : MT) (av : List Value) : Prop := ∀ J R, RLs J R → ∃ v : Int32, Sp m5 (.ref 0 :: av) 137 J R (fun r n' J1 R1 => r = some (.int v) ∧ n' = 137 ∧ Sp m6 (.ref 131 :: av) 137 J1 R1 (fun r n' J2 R2 => r = some (.int v) ∧ n' = 137 ∧ RLs J2 R2))
theorem rwH_z (β : Nat → Int32) (i j : Nat) : zf (rwH β i) j = β (375 * i + j) := by unfold rwH; rw [zf_uz]
theorem rec_z {β α : Nat → Int32} {Z : MI} {h : Nat} (h4 : h ≤ 4) : ∀ i, i < hN h → Zq (pH (rwH β) h Z i) (rwH (pRecB β (cpA (zf Z) α 375) h) i) := by
  intro i hi
  refine Zq.of (fun j hj => ?_)
  rw [rwH_z]
  unfold pRecB pH
  by_cases c : h = 4
  · subst c
    have hi4 : i < 4 := hi
    rw [if_pos rfl, if_pos rfl]
    by_cases q : i = 3
    · subst q
      rw [if_pos rfl]
      simp only [bP]
      rw [if_pos (by omega), show 375 * 3 + j - 375 * 3 = j by omega]
      simp only [cpA]
      rw [if_pos hj]
    · rw [if_neg q, rwH_z]
      simp only [bP, bS]
      rw [if_neg (by omega), if_pos (by omega)]
      congr 1
      omega
  · rw [if_neg c, if_neg c]
    have hi' : i < h + 1 := by unfold hN at hi; rw [if_neg c] at hi; exact hi
    by_cases q : i = h
    · subst q
      rw [if_pos rfl]
      simp only [bP]
      rw [if_pos (by omega), show 375 * i + j - 375 * i = j by omega]
      simp only [cpA]
      rw [if_pos hj]
    · rw [if_neg q, rwH_z]
      simp only [bP]
      rw [if_neg (by omega)]
theorem recF_z {φ : Nat → Int32} {h n : Nat} {e : Bool} {a b : Int32} (hF : RF φ h n e a b) : RF (pRecF φ h) (hN h) n e a b := by
  obtain ⟨f3, f5, f7, ⟨f8, f9, f9'⟩, f10, f11⟩ := hF
  have e3 : pRecF φ h 3 = nI (hN h) := by
    unfold pRecF hN
    by_cases c : h = 4
    · rw [if_pos c, if_pos c]; exact upd_self
    · rw [if_neg c, if_neg c]; exact upd_self
  have eo : ∀ j, j ≠ 3 → pRecF φ h j = φ j := fun j hj => by
    unfold pRecF
    split
    · rw [upd_ne hj, upd_ne hj]
    · rw [upd_ne hj]
  exact ⟨e3, by rw [eo 5 (by omega)]; exact f5, by rw [eo 7 (by omega)]; exact f7, ⟨by rw [eo 8 (by omega)]; exact f8, f9, by rw [eo 9 (by omega)]; exact f9'⟩, by rw [eo 10 (by omega)]; exact f10, by rw [eo 11 (by omega)]; exact f11⟩
/-- the end of an act in both -/
theorem RL_act {σ : Nat → Nat} {J : MI} {R : MR} {Zc Z Z0 : MI} {h : Nat} {e : Bool} {n : Nat} {a b v : Int32} {φ α β κ τ : Nat → Int32} (h4 : h ≤ 4) (hq : (v < 0 ∧ Cl σ J R Zc (rwH β) h (uz κ) e n τ a b) ∨ (¬ v < 0 ∧ Cl (sN σ h) J R Zc (pH (rwH β) h Z0) (hN h) (uz κ) e n τ a b)) (hZ : Zq Zc Z) (hF : RF φ h n e a b) : RLs (aM J φ Z0 α β κ τ h (v, Z)) R := by
  unfold aM
  dsimp only
  rcases hq with ⟨q, hC⟩ | ⟨q, hC⟩
  · rw [if_pos q]
    exact RL_of hC hZ (fun _ _ => Zq.rf) (fun _ => Zq.rf) (fun _ _ => rfl) hF
  · rw [if_neg q]
    exact RL_of hC hZ (rec_z h4) (fun _ => Zq.rf) (fun _ _ => rfl) (recF_z hF)
theorem Pr_act {m5 m6 : MT} {av : List Value} (fn : MI → Int32 × MI) (hc : ∀ {σ : Nat → Nat} {J : MI} {R : MR} {Z : MI} {H : Nat → MI} {h : Nat} {K : MI} {e : Bool} {n : Nat} {t : Nat → Int32} {a b : Int32}, Cl σ J R Z H h K e n t a b → Sp m5 (.ref 0 :: av) 137 J R (RQ σ J (fn Z).2 Z H h K e n t a b (fn Z).1)) (hr : ∀ {I : MI} {R : MR} {φ α β κ τ : Nat → Int32} {Z : MI} {h : Nat}, Md R → φ 3 = nI h → h ≤ 4 → IV Z → Spd m6 (.ref 131 :: av) (MM I φ Z α β κ τ) R (some (.int (fn Z).1)) (aM I φ Z α β κ τ h (fn Z))) : Pr m5 m6 av := by
  intro J R hRL
  obtain ⟨σ, φ, α, β, κ, τ, Z, h, n, e, a, b, hJ, hC, hF⟩ := hRL
  refine ⟨(fn Z).1, (hc hC).imp (fun r n' J1 R1 hq => ?_)⟩
  obtain ⟨rfl, rfl, hH, hq⟩ := hq
  refine ⟨rfl, rfl, ?_⟩
  have hM : Md R1 := by rcases hq with ⟨-, q⟩ | ⟨-, q⟩ <;> exact q.ob.md
  have h1 := hr (I := J1) (R := R1) (φ := φ) (α := α) (β := β) (κ := κ) (τ := τ) (Z := Z) hM hF.1 hC.h4 ⟨hC.sj.nb, hC.lv⟩
  rw [← MM_hi hJ hH] at h1
  refine Sp.imp h1 (fun r n' J2 R2 hq2 => ?_)
  obtain ⟨rfl, rfl, rfl, rfl⟩ := hq2
  exact ⟨rfl, rfl, RL_act hC.h4 hq Zq.rf hF⟩
theorem pr_say (s x y z : Int32) : Pr mX5_say mX6_say [.int s, .int x, .int y, .int z] := Pr_act (fun Z => pSay Z s x y z) (fun hC => sp_say hC s x y z) (fun hM hh h4 hI => sp_X6_say hM s x y z hh h4 hI.1.n5)
theorem pr_takeBack (s : Int32) : Pr mX5_takeBack mX6_takeBack [.int s] := Pr_act (fun Z => pTake Z s) (fun hC => sp_takeBack hC s) (fun hM hh h4 hI => sp_X6_takeBack hM s hh h4 hI.1.n5)
theorem pr_hear (s x : Int32) : Pr mX5_hear mX6_hear [.int s, .int x] := Pr_act (fun Z => pHear Z s x) (fun hC => sp_hear hC s x) (fun hM hh h4 _ => sp_X6_hear hM s x hh h4)
theorem pr_hold (s x : Int32) : Pr mX5_hold mX6_hold [.int s, .int x] := Pr_act (fun Z => pHold Z s x) (fun hC => sp_hold hC s x) (fun hM hh h4 _ => sp_X6_hold hM s x hh h4)
theorem pr_stick (s x : Int32) : Pr mX5_stick mX6_stick [.int s, .int x] := Pr_act (fun Z => pStick Z s x) (fun hC => sp_stick hC s x) (fun hM hh h4 _ => sp_X6_stick hM s x hh h4)
theorem pr_set (s x : Int32) : Pr mX5_set mX6_set [.int s, .int x] := Pr_act (fun Z => pSet Z s x) (fun hC => sp_set hC s x) (fun hM hh h4 _ => sp_X6_set hM s x hh h4)
theorem pr_run (s : Int32) : Pr mX5_run mX6_run [.int s] := Pr_act (fun Z => pRun Z s) (fun hC => sp_run hC s) (fun hM hh h4 hI => sp_X6_run hM s hh h4 (IV_n hI).2)
/-- a call that changes nothing -/
theorem Pr_ask {m5 m6 : MT} {av : List Value} (h : ∀ {σ : Nat → Nat} {J : MI} {R : MR} {Z : MI} {H : Nat → MI} {h : Nat} {K : MI} {e : Bool} {n : Nat} {t : Nat → Int32} {a b : Int32} {φ α β κ τ : Nat → Int32}, Cl σ J R Z H h K e n t a b → RF φ h n e a b → ∃ v : Int32, Spd m5 (.ref 0 :: av) J R (some (.int v)) J ∧ ∀ I, Spd m6 (.ref 131 :: av) (MM I φ Z α β κ τ) R (some (.int v)) (MM I φ Z α β κ τ)) : Pr m5 m6 av := by
  intro J R hRL
  obtain ⟨σ, φ, α, β, κ, τ, Z, hh, n, e, a, b, hJ, hC, hF⟩ := id hRL
  obtain ⟨v, h1, h2⟩ := h (α := α) (β := β) (κ := κ) (τ := τ) hC hF
  refine ⟨v, Sp.imp h1 (fun r n' J1 R1 hq => ?_)⟩
  obtain ⟨rfl, rfl, rfl, rfl⟩ := hq
  refine ⟨rfl, rfl, ?_⟩
  have h3 := h2 J1
  rw [← hJ] at h3
  refine Sp.imp h3 (fun r n' J2 R2 hq2 => ?_)
  obtain ⟨rfl, rfl, rfl, rfl⟩ := hq2
  exact ⟨rfl, rfl, hRL⟩
theorem pr_speaker (s x : Int32) : Pr mX5_speaker mX6_speaker [.int s, .int x] := Pr_ask (fun hC _ => ⟨_, sp_speaker hC s x, fun _ => sp_X6_speaker hC.ob.md s x⟩)
theorem pr_listener (s x : Int32) : Pr mX5_listener mX6_listener [.int s, .int x] := Pr_ask (fun hC _ => ⟨_, sp_listener hC s x, fun _ => sp_X6_listener hC.ob.md s x⟩)
theorem pr_message (s x y : Int32) : Pr mX5_message mX6_message [.int s, .int x, .int y] := Pr_ask (fun hC _ => ⟨_, sp_message hC s x y, fun _ => sp_X6_message hC.ob.md s x y hC.sj.nb.n5⟩)
theorem pr_bit (s x : Int32) : Pr mX5_bit mX6_bit [.int s, .int x] := Pr_ask (fun hC _ => by
  obtain ⟨L, hL, h10⟩ := hC.sj.nb.1
  exact ⟨_, sp_bit hC s x, fun _ => sp_X6_bit hC.ob.md s x hL h10⟩)
theorem pr_winners : Pr mX5_winners mX6_winners [] := Pr_ask (fun hC _ => ⟨_, sp_winners hC, fun _ => sp_X6_winners hC.ob.md⟩)
theorem pr_count (s : Int32) : Pr mX5_count mX6_count [.int s] := Pr_ask (fun {σ J R Z H h K e n t a b φ α β κ τ} hC hF => by
  have hW := WT_of hC.sj.nb hC.lv.1
  refine ⟨_, sp_count hC s, fun I => ?_⟩
  have := sp_X6_count (I := I) (φ := φ) (α := α) (β := β) (κ := κ) (τ := τ) (Z := Z) hC.ob.md s hW.1.2 hW.1.1
  rw [hF.1, hF.2.2.1] at this
  exact this)
theorem pr_stopped (s : Int32) : Pr mX5_stopped mX6_stopped [.int s] := Pr_ask (fun {σ J R Z H h K e n t a b φ α β κ τ} hC hF => by
  refine ⟨_, sp_stopped hC s, fun I => ?_⟩
  have h := sp_X6_stopped (I := I) (φ := φ) (α := α) (β := β) (κ := κ) (τ := τ) (Z := Z) hC.ob.md s
  obtain ⟨-, -, -, ⟨f8, f9, f9'⟩, -⟩ := hF
  have ev : pStp (φ 8) (φ 9) s = pStq a b s := by
    unfold pStp pStq
    rw [f8]
    by_cases c : inr s (nI 0) (nI 1) = true
    · rw [if_pos c]
      obtain ⟨j, -, hj, rfl⟩ := inr_of (by omega) c (by omega)
      rcases (show j = 0 ∨ j = 1 by omega) with rfl | rfl
      · rw [if_pos rfl]
        by_cases q : a = -5
        · rw [if_pos q, q]
        · rw [if_neg q, if_pos (by decide)]
      · rw [if_neg (show ¬ nI 1 = nI 0 by decide), if_pos rfl]
        by_cases q : a = -5
        · rw [if_pos q]; exact (f9 q).symm
        · rw [if_neg q, if_neg (by decide)]; exact (f9' q).symm
    · rw [if_neg c, if_neg (fun z => c (by rw [z]; decide)), if_neg (fun z => c (by rw [z]; decide))]
  rw [ev] at h
  exact h)
/-- a call behind which the class's rows are as they were -/
theorem zq_bk {Z Y : MI} : Zq Z (pBk Z Y) := Zq.of (fun i hi => by unfold pBk; rw [zf_uz]; simp only [cpA]; rw [if_pos hi])
theorem pr_emptyIn : Pr mX5_emptyIn mX6_emptyIn [] := by
  intro J R hRL
  obtain ⟨σ, φ, α, β, κ, τ, Z, h, n, e, a, b, hJ, hC, hF⟩ := hRL
  refine ⟨pEmp Z, (sp_emptyIn hC).imp (fun r n' J1 R1 hq => ?_)⟩
  obtain ⟨rfl, rfl, hH, rfl, hC1⟩ := hq
  refine ⟨rfl, rfl, ?_⟩
  have h1 := sp_X6_emptyIn (I := J1) (φ := φ) (α := α) (β := β) (κ := κ) (τ := τ) (Z := Z) hC1.ob.md (IV_n ⟨hC.sj.nb, hC.lv⟩).2
  rw [← MM_hi hJ hH] at h1
  refine Sp.imp h1 (fun r n' J2 R2 hq2 => ?_)
  obtain ⟨rfl, rfl, rfl, rfl⟩ := hq2
  exact ⟨rfl, rfl, RL_of hC1 zq_bk (fun _ _ => Zq.rf) (fun _ => Zq.rf) (fun _ _ => rfl) hF⟩
theorem pr_ifRun (s x : Int32) : Pr mX5_ifRun mX6_ifRun [.int s, .int x] := by
  intro J R hRL
  obtain ⟨σ, φ, α, β, κ, τ, Z, h, n, e, a, b, hJ, hC, hF⟩ := hRL
  refine ⟨pIf Z s x, (sp_ifRun hC s x).imp (fun r n' J1 R1 hq => ?_)⟩
  obtain ⟨rfl, rfl, hH, rfl, hC1⟩ := hq
  refine ⟨rfl, rfl, ?_⟩
  have h1 := sp_X6_ifRun (I := J1) (φ := φ) (α := α) (β := β) (κ := κ) (τ := τ) (Z := Z) hC1.ob.md s x (IV_n ⟨hC.sj.nb, hC.lv⟩).2
  rw [← MM_hi hJ hH] at h1
  refine Sp.imp h1 (fun r n' J2 R2 hq2 => ?_)
  obtain ⟨rfl, rfl, rfl, hI⟩ := hq2
  refine ⟨rfl, rfl, ?_⟩
  rcases hI with rfl | ⟨Y, rfl⟩
  · rw [MM_hi hJ hH]
    exact RL_of hC1 Zq.rf (fun _ _ => Zq.rf) (fun _ => Zq.rf) (fun _ _ => rfl) hF
  · exact RL_of hC1 zq_bk (fun _ _ => Zq.rf) (fun _ => Zq.rf) (fun _ _ => rfl) hF
theorem pr_clearText : Pr mX5_clearText mX6_clearText [] := by
  intro J R hRL
  obtain ⟨σ, φ, α, β, κ, τ, Z, h, n, e, a, b, hJ, hC, hF⟩ := hRL
  refine ⟨nI n, (sp_clearText hC).imp (fun r n' J1 R1 hq => ?_)⟩
  obtain ⟨rfl, rfl, hH, rfl, hC1⟩ := hq
  refine ⟨rfl, rfl, ?_⟩
  have h1 := sp_X6_clearText (I := J1) (φ := φ) (α := α) (β := β) (κ := κ) (τ := τ) (Z := Z) hC1.ob.md
  rw [← MM_hi hJ hH, hF.2.2.1] at h1
  refine Sp.imp h1 (fun r n' J2 R2 hq2 => ?_)
  obtain ⟨rfl, rfl, rfl, rfl⟩ := hq2
  obtain ⟨f3, f5, f7, ⟨f8, f9, f9'⟩, f10, f11⟩ := hF
  exact ⟨rfl, rfl, RL_of hC1 Zq.rf (fun _ _ => Zq.rf) (fun _ => Zq.rf) (fun _ _ => rfl) ⟨by rw [upd_ne (by omega)]; exact f3, by rw [upd_ne (by omega)]; exact f5, upd_self, ⟨by rw [upd_ne (by omega)]; exact f8, f9, by rw [upd_ne (by omega)]; exact f9'⟩, by rw [upd_ne (by omega)]; exact f10, by rw [upd_ne (by omega)]; exact f11⟩⟩
theorem pr_type (c : Int32) (hc : narrow .char (.int c) = .int c) : Pr mX5_type mX6_type [.int c] := by
  intro J R hRL
  obtain ⟨σ, φ, α, β, κ, τ, Z, h, n, e, a, b, hJ, hC, hF⟩ := hRL
  by_cases q : n = 80
  · refine ⟨-3, (sp_typeF hC c q).imp (fun r n' J1 R1 hq => ?_)⟩
    obtain ⟨rfl, rfl, hH, rfl, hC1⟩ := hq
    refine ⟨rfl, rfl, ?_⟩
    have h1 := sp_X6_type (I := J1) (φ := φ) (α := α) (β := β) (κ := κ) (τ := τ) (Z := Z) c hC1.ob.md hF.2.2.1 hC.tx.1
    rw [← MM_hi hJ hH, if_pos q, if_pos q] at h1
    refine Sp.imp h1 (fun r n' J2 R2 hq2 => ?_)
    obtain ⟨rfl, rfl, rfl, rfl⟩ := hq2
    refine ⟨rfl, rfl, ?_⟩
    rw [MM_hi hJ hH]
    exact RL_of hC1 Zq.rf (fun _ _ => Zq.rf) (fun _ => Zq.rf) (fun _ _ => rfl) hF
  · refine ⟨nI (n + 1), (sp_type hC c hc q).imp (fun r n' J1 R1 hq => ?_)⟩
    obtain ⟨rfl, rfl, hH, rfl, hC1⟩ := hq
    refine ⟨rfl, rfl, ?_⟩
    have h1 := sp_X6_type (I := J1) (φ := φ) (α := α) (β := β) (κ := κ) (τ := τ) (Z := Z) c hC1.ob.md hF.2.2.1 hC.tx.1
    rw [← MM_hi hJ hH, if_neg q, if_neg q] at h1
    refine Sp.imp h1 (fun r n' J2 R2 hq2 => ?_)
    obtain ⟨rfl, rfl, rfl, rfl⟩ := hq2
    obtain ⟨f3, f5, f7, ⟨f8, f9, f9'⟩, f10, f11⟩ := hF
    exact ⟨rfl, rfl, RL_of hC1 Zq.rf (fun _ _ => Zq.rf) (fun _ => Zq.rf) (fun _ _ => rfl) ⟨by rw [upd_ne (by omega)]; exact f3, by rw [upd_ne (by omega)]; exact f5, upd_self, ⟨by rw [upd_ne (by omega)]; exact f8, f9, by rw [upd_ne (by omega)]; exact f9'⟩, by rw [upd_ne (by omega)]; exact f10, by rw [upd_ne (by omega)]; exact f11⟩⟩
theorem pr_undo : Pr mX5_undo mX6_undo [] := by
  intro J R hRL
  obtain ⟨σ, φ, α, β, κ, τ, Z, h, n, e, a, b, hJ, hC, hF⟩ := hRL
  by_cases q : h = 0
  · refine ⟨-5, (sp_undoN hC q).imp (fun r n' J1 R1 hq => ?_)⟩
    obtain ⟨rfl, rfl, hH, rfl, hC1⟩ := hq
    refine ⟨rfl, rfl, ?_⟩
    have h1 := sp_X6_undo (I := J1) (φ := φ) (α := α) (β := β) (κ := κ) (τ := τ) (Z := Z) hC1.ob.md hF.1 hC.h4
    rw [← MM_hi hJ hH, if_pos q, if_pos q] at h1
    refine Sp.imp h1 (fun r n' J2 R2 hq2 => ?_)
    obtain ⟨rfl, rfl, rfl, rfl⟩ := hq2
    refine ⟨rfl, rfl, ?_⟩
    rw [MM_hi hJ hH]
    exact RL_of hC1 Zq.rf (fun _ _ => Zq.rf) (fun _ => Zq.rf) (fun _ _ => rfl) hF
  · refine ⟨nI (h - 1), (sp_undo hC q).imp (fun r n' J1 R1 hq => ?_)⟩
    obtain ⟨rfl, rfl, hH, rfl, hC1⟩ := hq
    refine ⟨rfl, rfl, ?_⟩
    have h1 := sp_X6_undo (I := J1) (φ := φ) (α := α) (β := β) (κ := κ) (τ := τ) (Z := Z) hC1.ob.md hF.1 hC.h4
    rw [← MM_hi hJ hH, if_neg q, if_neg q] at h1
    refine Sp.imp h1 (fun r n' J2 R2 hq2 => ?_)
    obtain ⟨rfl, rfl, rfl, rfl⟩ := hq2
    obtain ⟨f3, f5, f7, ⟨f8, f9, f9'⟩, f10, f11⟩ := hF
    exact ⟨rfl, rfl, RL_of hC1 (Zq.of (fun i hi => by rw [zf_uz, rwH_z]; simp only [cpA]; rw [if_pos hi])) (fun _ _ => Zq.rf) (fun _ => Zq.rf) (fun _ _ => rfl) ⟨upd_self, by rw [upd_ne (by omega)]; exact f5, by rw [upd_ne (by omega)]; exact f7, ⟨by rw [upd_ne (by omega)]; exact f8, f9, by rw [upd_ne (by omega)]; exact f9'⟩, by rw [upd_ne (by omega)]; exact f10, by rw [upd_ne (by omega)]; exact f11⟩⟩
theorem pr_keep : Pr mX5_keep mX6_keep [] := by
  intro J R hRL
  obtain ⟨σ, φ, α, β, κ, τ, Z, h, n, e, a, b, hJ, hC, hF⟩ := hRL
  refine ⟨Z 8 3, (sp_keep hC).imp (fun r n' J1 R1 hq => ?_)⟩
  obtain ⟨rfl, rfl, hH, rfl, hC1⟩ := hq
  refine ⟨rfl, rfl, ?_⟩
  have h1 := sp_X6_keep (I := J1) (φ := φ) (α := α) (β := β) (κ := κ) (τ := τ) (Z := Z) hC1.ob.md
  rw [← MM_hi hJ hH] at h1
  refine Sp.imp h1 (fun r n' J2 R2 hq2 => ?_)
  obtain ⟨rfl, rfl, rfl, rfl⟩ := hq2
  obtain ⟨f3, f5, f7, ⟨f8, f9, f9'⟩, f10, f11⟩ := hF
  exact ⟨rfl, rfl, RL_of hC1 Zq.rf (fun _ _ => Zq.rf) (fun _ => Zq.of (fun i hi => by rw [zf_uz]; simp only [cpA]; rw [if_pos hi])) (fun _ _ => rfl) ⟨by rw [upd_ne (by omega)]; exact f3, upd_self, by rw [upd_ne (by omega)]; exact f7, ⟨by rw [upd_ne (by omega)]; exact f8, f9, by rw [upd_ne (by omega)]; exact f9'⟩, by rw [upd_ne (by omega)]; exact f10, by rw [upd_ne (by omega)]; exact f11⟩⟩
theorem pr_restore : Pr mX5_restore mX6_restore [] := by
  intro J R hRL
  obtain ⟨σ, φ, α, β, κ, τ, Z, h, n, e, a, b, hJ, hC, hF⟩ := hRL
  cases he : e with
  | false =>
    have h50 : φ 5 = 0 := by rw [hF.2.1, he]; rfl
    refine ⟨-5, (sp_restoreN hC he).imp (fun r n' J1 R1 hq => ?_)⟩
    obtain ⟨rfl, rfl, hH, rfl, hC1⟩ := hq
    refine ⟨rfl, rfl, ?_⟩
    have h1 := sp_X6_restore (I := J1) (φ := φ) (α := α) (β := β) (κ := κ) (τ := τ) (Z := Z) hC1.ob.md hF.1 hC.h4
    rw [← MM_hi hJ hH, if_pos h50, if_pos h50] at h1
    refine Sp.imp h1 (fun r n' J2 R2 hq2 => ?_)
    obtain ⟨rfl, rfl, rfl, rfl⟩ := hq2
    refine ⟨rfl, rfl, ?_⟩
    rw [MM_hi hJ hH]
    exact RL_of hC1 Zq.rf (fun _ _ => Zq.rf) (fun _ => Zq.rf) (fun _ _ => rfl) hF
  | true =>
    have h50 : ¬ φ 5 = 0 := by rw [hF.2.1, he]; decide
    have hz : Zq (uz κ) (pRs κ Z) := Zq.of (fun i hi => by unfold pRs; rw [zf_uz, zf_uz]; simp only [cpA]; rw [if_pos hi])
    have ev : pRs κ Z 8 3 = uz κ 8 3 := hz.2.2.1 3 (by omega)
    refine ⟨uz κ 8 3, (sp_restore hC he).imp (fun r n' J1 R1 hq => ?_)⟩
    obtain ⟨rfl, rfl, hH, hq⟩ := hq
    refine ⟨rfl, rfl, ?_⟩
    have hM : Md R1 := by rcases hq with ⟨-, q⟩ | ⟨-, q⟩ <;> exact q.ob.md
    have h1 := sp_X6_restore (I := J1) (φ := φ) (α := α) (β := β) (κ := κ) (τ := τ) (Z := Z) hM hF.1 hC.h4
    rw [← MM_hi hJ hH, if_neg h50, if_neg h50, ev] at h1
    refine Sp.imp h1 (fun r n' J2 R2 hq2 => ?_)
    obtain ⟨rfl, rfl, rfl, rfl⟩ := hq2
    exact ⟨rfl, rfl, RL_act hC.h4 hq hz hF⟩
