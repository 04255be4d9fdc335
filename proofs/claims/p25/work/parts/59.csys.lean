
/-! the class's whole memory. σ: where the states of the history (0 .. 3) and the spare one (4) lie -/
def Hi (J J' : MI) : Prop := ∀ a, 131 ≤ a → J' a = J a
theorem Hi.rf {J : MI} : Hi J J := fun _ _ => rfl
theorem Hi.tr {J J' J2 : MI} (h : Hi J J') (h2 : Hi J' J2) : Hi J J2 := fun a q => (h2 a q).trans (h a q)
theorem Hi.off {J J' : MI} {R : MR} {o : Nat} (hS : St R o) (h : Off o J J') : Hi J J' := fun a ha => h a (by have := hS.le; omega)
def Ob (R : MR) (σ : Nat → Nat) : Prop := (R 0 0 = some 1 ∧ R 0 1 = some 19 ∧ R 0 2 = some 37 ∧ R 0 3 = some 38 ∧ R 0 4 = some (σ 4)) ∧ (∀ i, i < 4 → R 37 i = some (σ i)) ∧ (∀ i, i < 5 → σ i ∈ [41, 59, 77, 95, 113]) ∧ ((∀ i j, i < 5 → j < 5 → σ i = σ j → i = j) ∧ Md R) ∧ (∀ o, Ost o → St R o) ∧ R 38 0 = some 39 ∧ R 38 1 = some 40
section OBs
variable {R : MR} {σ : Nat → Nat}
theorem Ob.in5 (h : Ob R σ) {i : Nat} (hi : i < 5) : Ost (σ i) ∧ 41 ≤ σ i ∧ σ i ≤ 113 := by
  have key : ∀ o ∈ [41, 59, 77, 95, 113], o ∈ [1, 19, 41, 59, 77, 95, 113] ∧ 41 ≤ o ∧ o ≤ 113 := by decide
  exact key _ (h.2.2.1 i hi)
theorem Ob.st (h : Ob R σ) {i : Nat} (hi : i < 5) : St R (σ i) := h.2.2.2.2.1 _ (h.in5 hi).1
theorem Ob.s1 (h : Ob R σ) : St R 1 := h.2.2.2.2.1 _ (by unfold Ost; decide)
theorem Ob.s19 (h : Ob R σ) : St R 19 := h.2.2.2.2.1 _ (by unfold Ost; decide)
theorem Ob.ne1 (h : Ob R σ) {i : Nat} (hi : i < 5) : σ i ≠ 1 := by have := (h.in5 hi).2.1; omega
theorem Ob.ne19 (h : Ob R σ) {i : Nat} (hi : i < 5) : σ i ≠ 19 := by have := (h.in5 hi).2.1; omega
theorem Ob.ne (h : Ob R σ) {i j : Nat} (hi : i < 5) (hj : j < 5) (hij : i ≠ j) : σ i ≠ σ j := fun e => hij (h.2.2.2.1.1 i j hi hj e)
theorem Ob.md (h : Ob R σ) : Md R := h.2.2.2.1.2
end OBs
theorem xk_0 : xkd 0 = 5 := by decide +kernel
theorem xk_37 : xkd 37 = 11 := by decide +kernel
theorem xl_37 : xln 37 = 4 := by decide +kernel
theorem xk_38 : xkd 38 = 2 := by decide +kernel
theorem xk_39 : xkd 39 = 7 := by decide +kernel
theorem xl_39 : xln 39 = 80 := by decide +kernel
theorem xk_40 : xkd 40 = 8 := by decide +kernel
theorem xl_40 : xln 40 = 4 := by decide +kernel
/-- the text -/
def Tx (J : MI) (n : Nat) (t : Nat → Int32) : Prop := n ≤ 80 ∧ J 38 2 = nI n ∧ ∀ i, i < n → J 39 i = t i
def Cl (σ : Nat → Nat) (J : MI) (R : MR) (Z : MI) (H : Nat → MI) (h : Nat) (K : MI) (e : Bool) (n : Nat) (t : Nat → Int32) (a b : Int32) : Prop :=
  Ob R σ ∧ (SJ 1 J Z ∧ LV Z) ∧ (h ≤ 4 ∧ ∀ i, i < h → SJ (σ i) J (H i) ∧ LV (H i)) ∧ ((∀ i, i < 5 → ∃ Y, SJ (σ i) J Y) ∧ ∃ Y, SJ 19 J Y) ∧ (e = true → SJ 19 J K ∧ LV K) ∧ (J 0 5 = nI h ∧ J 0 6 = bi e ∧ J 0 7 = a ∧ J 0 8 = b) ∧ Tx J n t
section Cls
variable {σ : Nat → Nat} {J J' J0 : MI} {R : MR} {Z Z' Z0 : MI} {H : Nat → MI} {h : Nat} {K : MI} {e : Bool} {n : Nat} {t : Nat → Int32} {a b : Int32}
theorem Cl.ob (hC : Cl σ J R Z H h K e n t a b) : Ob R σ := hC.1
theorem Cl.sj (hC : Cl σ J R Z H h K e n t a b) : SJ 1 J Z := hC.2.1.1
theorem Cl.lv (hC : Cl σ J R Z H h K e n t a b) : LV Z := hC.2.1.2
theorem Cl.h4 (hC : Cl σ J R Z H h K e n t a b) : h ≤ 4 := hC.2.2.1.1
theorem Cl.f5 (hC : Cl σ J R Z H h K e n t a b) : J 0 5 = nI h := hC.2.2.2.2.2.1.1
theorem Cl.f6 (hC : Cl σ J R Z H h K e n t a b) : J 0 6 = bi e := hC.2.2.2.2.2.1.2.1
theorem Cl.f7 (hC : Cl σ J R Z H h K e n t a b) : J 0 7 = a := hC.2.2.2.2.2.1.2.2.1
theorem Cl.f8 (hC : Cl σ J R Z H h K e n t a b) : J 0 8 = b := hC.2.2.2.2.2.1.2.2.2
theorem Cl.tx (hC : Cl σ J R Z H h K e n t a b) : Tx J n t := hC.2.2.2.2.2.2
theorem Cl.any (hC : Cl σ J R Z H h K e n t a b) {i : Nat} (hi : i < 5) : ∃ Y, SJ (σ i) J Y := hC.2.2.2.1.1 i hi
theorem Cl.any19 (hC : Cl σ J R Z H h K e n t a b) : ∃ Y, SJ 19 J Y := hC.2.2.2.1.2
theorem Cl.snp (hC : Cl σ J R Z H h K e n t a b) (he : e = true) : SJ 19 J K ∧ LV K := hC.2.2.2.2.1 he
theorem Tx.cg (hT : Tx J n t) (h38 : J' 38 = J 38) (h39 : J' 39 = J 39) : Tx J' n t := ⟨hT.1, by rw [h38]; exact hT.2.1, fun i hi => by rw [h39]; exact hT.2.2 i hi⟩
/-- the spare state changed -/
theorem Cl.spare (hC : Cl σ J R Z H h K e n t a b) (hO : Off (σ 4) J J') (hY : ∃ Y, SJ (σ 4) J' Y) : Cl σ J' R Z H h K e n t a b := by
  obtain ⟨hb, ⟨h1, h2⟩, ⟨h3, h4⟩, ⟨h5, h6⟩, h7, ⟨f5, f6, f7, f8⟩, hT⟩ := hC
  have hS := hb.st (i := 4) (by omega)
  have hlo := (hb.in5 (i := 4) (by omega)).2.1
  have e0 : J' 0 = J 0 := hO 0 (Or.inl (by omega))
  refine ⟨hb, ⟨h1.off hS hb.s1 (hb.ne1 (by omega)) hO, h2⟩, ⟨h3, fun i hi => ⟨(h4 i hi).1.off hS (hb.st (by omega)) (hb.ne (by omega) (by omega) (by omega)) hO, (h4 i hi).2⟩⟩, ⟨fun i hi => ?_, ?_⟩, fun q => ⟨(h7 q).1.off hS hb.s19 (hb.ne19 (by omega)) hO, (h7 q).2⟩, ⟨by rw [e0]; exact f5, by rw [e0]; exact f6, by rw [e0]; exact f7, by rw [e0]; exact f8⟩, hT.cg (hO 38 (Or.inl (by omega))) (hO 39 (Or.inl (by omega)))⟩
  · by_cases q : i = 4
    · subst q; exact hY
    · obtain ⟨Y, hY2⟩ := h5 i hi
      exact ⟨Y, hY2.off hS (hb.st hi) (hb.ne (by omega) hi (fun z => q z.symm)) hO⟩
  · obtain ⟨Y, hY2⟩ := h6
    exact ⟨Y, hY2.off hS hb.s19 (hb.ne19 (by omega)) hO⟩
/-- the present state changed -/
theorem Cl.now (hC : Cl σ J R Z H h K e n t a b) (hO : Off 1 J J') (hJ : SJ 1 J' Z') (hV : LV Z') : Cl σ J' R Z' H h K e n t a b := by
  obtain ⟨hb, -, ⟨h3, h4⟩, ⟨h5, h6⟩, h7, ⟨f5, f6, f7, f8⟩, hT⟩ := hC
  have hS := hb.s1
  have e0 : J' 0 = J 0 := hO 0 (Or.inl (by omega))
  refine ⟨hb, ⟨hJ, hV⟩, ⟨h3, fun i hi => ⟨(h4 i hi).1.off hS (hb.st (by omega)) (hb.ne1 (by omega)).symm hO, (h4 i hi).2⟩⟩, ⟨fun i hi => ?_, ?_⟩, fun q => ⟨(h7 q).1.off hS hb.s19 (by omega) hO, (h7 q).2⟩, ⟨by rw [e0]; exact f5, by rw [e0]; exact f6, by rw [e0]; exact f7, by rw [e0]; exact f8⟩, hT.cg (hO 38 (Or.inr (by omega))) (hO 39 (Or.inr (by omega)))⟩
  · obtain ⟨Y, hY2⟩ := h5 i hi
    exact ⟨Y, hY2.off hS (hb.st hi) (hb.ne1 hi).symm hO⟩
  · obtain ⟨Y, hY2⟩ := h6
    exact ⟨Y, hY2.off hS hb.s19 (by omega) hO⟩
/-- the snapshot changed -/
theorem Cl.snap {K' : MI} (hC : Cl σ J R Z H h K e n t a b) (hO : Off 19 J J') (hJ : SJ 19 J' K') (hV : LV K') : Cl σ J' R Z H h K' e n t a b := by
  obtain ⟨hb, ⟨h1, h2⟩, ⟨h3, h4⟩, ⟨h5, h6⟩, h7, ⟨f5, f6, f7, f8⟩, hT⟩ := hC
  have hS := hb.s19
  have e0 : J' 0 = J 0 := hO 0 (Or.inl (by omega))
  refine ⟨hb, ⟨h1.off hS hb.s1 (by omega) hO, h2⟩, ⟨h3, fun i hi => ⟨(h4 i hi).1.off hS (hb.st (by omega)) (hb.ne19 (by omega)).symm hO, (h4 i hi).2⟩⟩, ⟨fun i hi => ?_, ⟨_, hJ⟩⟩, fun q => ⟨hJ, hV⟩, ⟨by rw [e0]; exact f5, by rw [e0]; exact f6, by rw [e0]; exact f7, by rw [e0]; exact f8⟩, hT.cg (hO 38 (Or.inr (by omega))) (hO 39 (Or.inr (by omega)))⟩
  obtain ⟨Y, hY2⟩ := h5 i hi
  exact ⟨Y, hY2.off hS (hb.st hi) (hb.ne19 hi).symm hO⟩
/-- fields and text changed -/
theorem Cl.fl {h' n' : Nat} {e' : Bool} {t' : Nat → Int32} {a' b' : Int32} (hC : Cl σ J R Z H h K e n t a b) (hJ : ∀ x, 1 ≤ x → (x < 38 ∨ 41 ≤ x) → J' x = J x) (hh : h' ≤ h) (he : e' = true → SJ 19 J K ∧ LV K) (q5 : J' 0 5 = nI h') (q6 : J' 0 6 = bi e') (q7 : J' 0 7 = a') (q8 : J' 0 8 = b') (hT' : Tx J' n' t') : Cl σ J' R Z H h' K e' n' t' a' b' := by
  obtain ⟨hb, ⟨h1, h2⟩, ⟨h3, h4⟩, ⟨h5, h6⟩, h7, -, -⟩ := hC
  have key : ∀ {o : Nat} {Y : MI}, Ost o → SJ o J Y → SJ o J' Y := fun {o Y} ho hY => by
    have hk : ∀ o ∈ [1, 19, 41, 59, 77, 95, 113], 1 ≤ o ∧ (o + 18 ≤ 38 ∨ 41 ≤ o) := by decide
    have := hk o ho
    exact hY.cg (fun a q1 q2 => hJ a (by omega) (by omega)) (fun _ _ => rfl)
  refine ⟨hb, ⟨key hb.s1.1 h1, h2⟩, ⟨by omega, fun i hi => ⟨key (hb.st (by omega)).1 (h4 i (by omega)).1, (h4 i (by omega)).2⟩⟩, ⟨fun i hi => ?_, ?_⟩, fun q => ⟨key hb.s19.1 (he q).1, (he q).2⟩, ⟨q5, q6, q7, q8⟩, hT'⟩
  · obtain ⟨Y, hY⟩ := h5 i hi
    exact ⟨Y, key (hb.st hi).1 hY⟩
  · obtain ⟨Y, hY⟩ := h6
    exact ⟨Y, key hb.s19.1 hY⟩
end Cls
/-- a state recorded -/
def pH (H : Nat → MI) (h : Nat) (Z : MI) : Nat → MI := fun i => if h = 4 then (if i = 3 then Z else H (i + 1)) else (if i = h then Z else H i)
def hN (h : Nat) : Nat := if h = 4 then 4 else h + 1
def sN (σ : Nat → Nat) (h : Nat) : Nat → Nat := fun i => if h = 4 then (if i = 4 then σ 0 else σ (i + 1)) else (if i = 4 then σ h else if i = h then σ 4 else σ i)
theorem St.rcg {R R' : MR} {o : Nat} (h : St R o) (hR : ∀ a, a ≠ 0 → a ≠ 37 → R' a = R a) : St R' o := by
  have hk : ∀ o ∈ [1, 19, 41, 59, 77, 95, 113], 1 ≤ o ∧ (o + 18 ≤ 37 ∨ 41 ≤ o) := by decide
  have := hk o h.1
  refine ⟨h.1, ⟨by rw [hR _ (by omega) (by omega)]; exact h.2.1.1, by rw [hR _ (by omega) (by omega)]; exact h.2.1.2.1, by rw [hR _ (by omega) (by omega)]; exact h.2.1.2.2.1, by rw [hR _ (by omega) (by omega)]; exact h.2.1.2.2.2.1, by rw [hR _ (by omega) (by omega)]; exact h.2.1.2.2.2.2⟩, fun k hk => ⟨by rw [hR _ (by omega) (by omega)]; exact (h.2.2 k hk).1, by rw [hR _ (by omega) (by omega)]; exact (h.2.2 k hk).2.1, by rw [hR _ (by omega) (by omega)]; exact (h.2.2 k hk).2.2⟩⟩
theorem xuR_at {R : MR} {i k a b : Nat} {v : Option Nat} (h : ¬ (a = i ∧ b = k)) : xuR R i k v a b = R a b := by simp only [xuR, if_neg h]
theorem xuR_self {R : MR} {i k : Nat} {v : Option Nat} : xuR R i k v i k = v := by simp [xuR]
theorem Ob.rec {R R' : MR} {σ : Nat → Nat} {h : Nat} (hb : Ob R σ) (h4 : h ≤ 4) (hR : ∀ a, a ≠ 0 → a ≠ 37 → R' a = R a) (h0 : ∀ i, i < 4 → R' 0 i = R 0 i) (hs : R' 0 4 = some (sN σ h 4)) (hl : ∀ i, i < 4 → R' 37 i = some (sN σ h i)) : Ob R' (sN σ h) := by
  obtain ⟨⟨r0, r1, r2, r3, r4⟩, q1, q2, ⟨q3, qm⟩, q4, q5, q6⟩ := hb
  refine ⟨⟨(h0 0 (by omega)).trans r0, (h0 1 (by omega)).trans r1, (h0 2 (by omega)).trans r2, (h0 3 (by omega)).trans r3, hs⟩, hl, fun i hi => ?_, ⟨fun i j hi hj e => ?_, fun k j hk => by rw [hR 131 (by omega) (by omega)]; exact qm k j hk⟩, fun o ho => (q4 o ho).rcg hR, by rw [hR 38 (by omega) (by omega)]; exact q5, by rw [hR 38 (by omega) (by omega)]; exact q6⟩
  · unfold sN
    split
    · split
      · exact q2 _ (by omega)
      · exact q2 _ (by omega)
    · split
      · exact q2 _ (by omega)
      · split
        · exact q2 _ (by omega)
        · exact q2 _ (by omega)
  · unfold sN at e
    by_cases c : h = 4
    · rw [if_pos c, if_pos c] at e
      by_cases c1 : i = 4
      · by_cases c2 : j = 4
        · omega
        · rw [if_pos c1, if_neg c2] at e
          have := q3 _ _ (by omega) (by omega) e
          omega
      · by_cases c2 : j = 4
        · rw [if_neg c1, if_pos c2] at e
          have := q3 _ _ (by omega) (by omega) e
          omega
        · rw [if_neg c1, if_neg c2] at e
          have := q3 _ _ (by omega) (by omega) e
          omega
    · rw [if_neg c, if_neg c] at e
      have hh : ∀ i, i < 5 → ∃ u, u < 5 ∧ (if i = 4 then σ h else if i = h then σ 4 else σ i) = σ u ∧ ((i = 4 ∧ u = h) ∨ (i ≠ 4 ∧ i = h ∧ u = 4) ∨ (i ≠ 4 ∧ i ≠ h ∧ u = i)) := fun i hi => by
        by_cases c1 : i = 4
        · exact ⟨h, by omega, by rw [if_pos c1], Or.inl ⟨c1, rfl⟩⟩
        · by_cases c2 : i = h
          · exact ⟨4, by omega, by rw [if_neg c1, if_pos c2], Or.inr (Or.inl ⟨c1, c2, rfl⟩)⟩
          · exact ⟨i, hi, by rw [if_neg c1, if_neg c2], Or.inr (Or.inr ⟨c1, c2, rfl⟩)⟩
      obtain ⟨u, hu, eu, cu⟩ := hh i hi
      obtain ⟨v, hv, ev, cv⟩ := hh j hj
      rw [eu, ev] at e
      have := q3 _ _ hu hv e
      omega
section CL
variable {σ : Nat → Nat} {J : MI} {R : MR} {Z Z0 : MI} {H : Nat → MI} {h : Nat} {K : MI} {e : Bool} {n : Nat} {t : Nat → Int32} {a b : Int32}
/-- what 'recorded' leaves -/
def RQ (σ : Nat → Nat) (J : MI) (Z Z0 : MI) (H : Nat → MI) (h : Nat) (K : MI) (e : Bool) (n : Nat) (t : Nat → Int32) (a b v : Int32) : XQ := fun r' n' J' R' => r' = some (.int v) ∧ n' = 131 ∧ Hi J J' ∧ ((v < 0 ∧ Cl σ J' R' Z H h K e n t a b) ∨ (¬ v < 0 ∧ Cl (sN σ h) J' R' Z (pH H h Z0) (hN h) K e n t a b))
theorem sp_recorded (hC : Cl σ J R Z H h K e n t a b) (hP : SJ (σ 4) J Z0) (hV : LV Z0) (v : Int32) : Sp mX5_recorded [.ref 0, .int v] 131 J R (RQ σ J Z Z0 H h K e n t a b v) := by
  refine Sp.mk (by decide +kernel) (by simp [Value.category]) (Nat.le_of_ble_eq_true rfl) (fun g cx => ?_)
  by_cases hv : v < 0
  · skip
    refine x_iload_n dX5_recorded_0 rfl rfl ?_
    refine x_if_geF dX5_recorded_1 (Int32.not_le.mpr hv) ?_ 6 (by decide)
    refine x_iload_n dX5_recorded_4 rfl rfl ?_
    refine x_iret dX5_recorded_5 rfl (by decide) (by decide) ?_
    exact ⟨rfl, rfl, Hi.rf, Or.inl ⟨hv, hC⟩⟩
  · have hC' := hC
    obtain ⟨hb, ⟨h1, h2⟩, ⟨h3, h4⟩, ⟨hy, hy19⟩, h7, ⟨h5, f6, f7, f8⟩, hT⟩ := hC
    have hb' := hb
    obtain ⟨⟨hr0, hr1, hr2, hr3, hr4⟩, hl, -⟩ := hb
    have hS4 := hb'.st (i := 4) (by omega)
    have hge : 0 ≤ v := Int32.not_lt.mp hv
    by_cases c : h = 4
    · subst c
      have s0 := hb'.st (i := 0) (by omega)
      have s1 := hb'.st (i := 1) (by omega)
      have s2 := hb'.st (i := 2) (by omega)
      have s3 := hb'.st (i := 3) (by omega)
      refine x_iload_n dX5_recorded_0 rfl rfl ?_
      refine x_if_geT 6 dX5_recorded_1 (by decide) (hge) ?_
      refine x_aload_n dX5_recorded_6 rfl rfl ?_
      refine x_getR (j := σ 4) fl_X5_30 dX5_recorded_7 xk_0 (by decide) rfl hr4 ?_
      refine x_astore_n dX5_recorded_10 rfl (by decide) ?_
      refine x_aload_n dX5_recorded_11 rfl rfl ?_
      refine x_getI fl_X5_95 dX5_recorded_12 xk_0 (by decide) rfl (x_eqtop h5 ?_)
      refine x_aload_n dX5_recorded_15 rfl rfl ?_
      refine x_getR (j := 37) fl_X5_19 dX5_recorded_16 xk_0 (by decide) rfl (by simp [xuR, hr2]) ?_
      refine x_alen (v := nI 4) dX5_recorded_19 xk_37 ⟨by decide, by decide⟩ (by decide) (by rw [xl_37]; rfl) ?_
      refine x_callSd0 (mt' := mX5_isIndex) (sp_isIndex _ _) ktX5_isIndex wl_X5_132 (by decide) dX5_recorded_20 rfl rfl (Nat.le_of_ble_eq_true rfl) ⟨rfl, rfl⟩ (by decide) ?_
      refine x_if_eqT 62 dX5_recorded_23 (by decide) (by decide) ?_
      refine x_aload_n dX5_recorded_62 rfl rfl ?_
      refine x_aload_n dX5_recorded_63 rfl rfl ?_
      refine x_getR (j := 37) fl_X5_19 dX5_recorded_64 xk_0 (by decide) rfl (by simp [xuR, hr2]) ?_
      refine x_iconst (nI 0) dX5_recorded_67 (by decide) ?_
      refine x_aald (j := 0) (a := σ 0) (c := 11) ⟨by decide, by decide⟩ dX5_recorded_68 xk_37 (by decide) (nI_pos (by omega)) (nI_clamp (by omega)) (by rw [xl_37]; omega) (by first | exact hl _ (by omega) | (simp [xuR]; exact hl _ (by omega))) ?_
      refine x_putR fl_X5_30 fp_5_4 dX5_recorded_69 xk_0 (by decide) rfl (fun _ => rfl) (fun _ => rfl) ?_
      refine x_iconst (nI 1) dX5_recorded_72 (by decide) ?_
      refine x_istore_n dX5_recorded_73 rfl (by decide) ?_
      skip
      refine x_iload_n dX5_recorded_74 rfl rfl ?_
      refine x_aload_n dX5_recorded_75 rfl rfl ?_
      refine x_getR (j := 37) fl_X5_19 dX5_recorded_76 xk_0 (by decide) rfl (by simp [xuR, hr2]) ?_
      refine x_alen (v := nI 4) dX5_recorded_79 xk_37 ⟨by decide, by decide⟩ (by decide) (by rw [xl_37]; rfl) ?_
      refine x_icmp_geF dX5_recorded_80 (by decide) ?_ 103 (by decide)
      refine x_aload_n dX5_recorded_83 rfl rfl ?_
      refine x_getR (j := 37) fl_X5_19 dX5_recorded_84 xk_0 (by decide) rfl (by simp [xuR, hr2]) ?_
      refine x_iload_n dX5_recorded_87 rfl rfl ?_
      refine x_iconst (nI 1) dX5_recorded_88 (by decide) ?_
      refine x_isubN dX5_recorded_89 (by omega) ?_
      refine x_aload_n dX5_recorded_90 rfl rfl ?_
      refine x_getR (j := 37) fl_X5_19 dX5_recorded_91 xk_0 (by decide) rfl (by simp [xuR, hr2]) ?_
      refine x_iload_n dX5_recorded_94 rfl rfl ?_
      refine x_aald (j := 1) (a := σ 1) (c := 11) ⟨by decide, by decide⟩ dX5_recorded_95 xk_37 (by decide) (nI_pos (by omega)) (nI_clamp (by omega)) (by rw [xl_37]; omega) (by first | exact hl _ (by omega) | (simp [xuR]; exact hl _ (by omega))) ?_
      refine x_aast (j := 0) (Or.inr (Or.inr ⟨rfl, rfl, rfl⟩)) dX5_recorded_96 xk_37 (by decide) (nI_pos (by omega)) (nI_clamp (by omega)) (by rw [xl_37]; omega) s1.k0 s1.lt0 ?_
      refine x_iincN 1 dX5_recorded_97 rfl (by decide) (by decide) ?_
      refine x_goto 74 dX5_recorded_100 (by decide) ?_
      skip
      refine x_iload_n dX5_recorded_74 rfl rfl ?_
      refine x_aload_n dX5_recorded_75 rfl rfl ?_
      refine x_getR (j := 37) fl_X5_19 dX5_recorded_76 xk_0 (by decide) rfl (by simp [xuR, hr2]) ?_
      refine x_alen (v := nI 4) dX5_recorded_79 xk_37 ⟨by decide, by decide⟩ (by decide) (by rw [xl_37]; rfl) ?_
      refine x_icmp_geF dX5_recorded_80 (by decide) ?_ 103 (by decide)
      refine x_aload_n dX5_recorded_83 rfl rfl ?_
      refine x_getR (j := 37) fl_X5_19 dX5_recorded_84 xk_0 (by decide) rfl (by simp [xuR, hr2]) ?_
      refine x_iload_n dX5_recorded_87 rfl rfl ?_
      refine x_iconst (nI 1) dX5_recorded_88 (by decide) ?_
      refine x_isubN dX5_recorded_89 (by omega) ?_
      refine x_aload_n dX5_recorded_90 rfl rfl ?_
      refine x_getR (j := 37) fl_X5_19 dX5_recorded_91 xk_0 (by decide) rfl (by simp [xuR, hr2]) ?_
      refine x_iload_n dX5_recorded_94 rfl rfl ?_
      refine x_aald (j := 2) (a := σ 2) (c := 11) ⟨by decide, by decide⟩ dX5_recorded_95 xk_37 (by decide) (nI_pos (by omega)) (nI_clamp (by omega)) (by rw [xl_37]; omega) (by first | exact hl _ (by omega) | (simp [xuR]; exact hl _ (by omega))) ?_
      refine x_aast (j := 1) (Or.inr (Or.inr ⟨rfl, rfl, rfl⟩)) dX5_recorded_96 xk_37 (by decide) (nI_pos (by omega)) (nI_clamp (by omega)) (by rw [xl_37]; omega) s2.k0 s2.lt0 ?_
      refine x_iincN 1 dX5_recorded_97 rfl (by decide) (by decide) ?_
      refine x_goto 74 dX5_recorded_100 (by decide) ?_
      skip
      refine x_iload_n dX5_recorded_74 rfl rfl ?_
      refine x_aload_n dX5_recorded_75 rfl rfl ?_
      refine x_getR (j := 37) fl_X5_19 dX5_recorded_76 xk_0 (by decide) rfl (by simp [xuR, hr2]) ?_
      refine x_alen (v := nI 4) dX5_recorded_79 xk_37 ⟨by decide, by decide⟩ (by decide) (by rw [xl_37]; rfl) ?_
      refine x_icmp_geF dX5_recorded_80 (by decide) ?_ 103 (by decide)
      refine x_aload_n dX5_recorded_83 rfl rfl ?_
      refine x_getR (j := 37) fl_X5_19 dX5_recorded_84 xk_0 (by decide) rfl (by simp [xuR, hr2]) ?_
      refine x_iload_n dX5_recorded_87 rfl rfl ?_
      refine x_iconst (nI 1) dX5_recorded_88 (by decide) ?_
      refine x_isubN dX5_recorded_89 (by omega) ?_
      refine x_aload_n dX5_recorded_90 rfl rfl ?_
      refine x_getR (j := 37) fl_X5_19 dX5_recorded_91 xk_0 (by decide) rfl (by simp [xuR, hr2]) ?_
      refine x_iload_n dX5_recorded_94 rfl rfl ?_
      refine x_aald (j := 3) (a := σ 3) (c := 11) ⟨by decide, by decide⟩ dX5_recorded_95 xk_37 (by decide) (nI_pos (by omega)) (nI_clamp (by omega)) (by rw [xl_37]; omega) (by first | exact hl _ (by omega) | (simp [xuR]; exact hl _ (by omega))) ?_
      refine x_aast (j := 2) (Or.inr (Or.inr ⟨rfl, rfl, rfl⟩)) dX5_recorded_96 xk_37 (by decide) (nI_pos (by omega)) (nI_clamp (by omega)) (by rw [xl_37]; omega) s3.k0 s3.lt0 ?_
      refine x_iincN 1 dX5_recorded_97 rfl (by decide) (by decide) ?_
      refine x_goto 74 dX5_recorded_100 (by decide) ?_
      skip
      refine x_iload_n dX5_recorded_74 rfl rfl ?_
      refine x_aload_n dX5_recorded_75 rfl rfl ?_
      refine x_getR (j := 37) fl_X5_19 dX5_recorded_76 xk_0 (by decide) rfl (by simp [xuR, hr2]) ?_
      refine x_alen (v := nI 4) dX5_recorded_79 xk_37 ⟨by decide, by decide⟩ (by decide) (by rw [xl_37]; rfl) ?_
      refine x_icmp_geT 103 dX5_recorded_80 (by decide) (by decide) ?_
      refine x_aload_n dX5_recorded_103 rfl rfl ?_
      refine x_getR (j := 37) fl_X5_19 dX5_recorded_104 xk_0 (by decide) rfl (by simp [xuR, hr2]) ?_
      refine x_aload_n dX5_recorded_107 rfl rfl ?_
      refine x_getR (j := 37) fl_X5_19 dX5_recorded_108 xk_0 (by decide) rfl (by simp [xuR, hr2]) ?_
      refine x_alen (v := nI 4) dX5_recorded_111 xk_37 ⟨by decide, by decide⟩ (by decide) (by rw [xl_37]; rfl) ?_
      refine x_iconst (nI 1) dX5_recorded_112 (by decide) ?_
      refine x_isubN dX5_recorded_113 (by omega) ?_
      refine x_aload_n dX5_recorded_114 rfl rfl ?_
      refine x_aast (j := 3) (Or.inr (Or.inr ⟨rfl, rfl, rfl⟩)) dX5_recorded_115 xk_37 (by decide) (nI_pos (by omega)) (nI_clamp (by omega)) (by rw [xl_37]; omega) hS4.k0 hS4.lt0 ?_
      refine x_iload_n dX5_recorded_116 rfl rfl ?_
      refine x_iret dX5_recorded_117 rfl (by decide) (by decide) ?_
      refine ⟨rfl, rfl, Hi.rf, Or.inr ⟨hv, ?_⟩⟩
      have hO : Ob (xuR (xuR (xuR (xuR (xuR R 0 4 (some (σ 0))) 37 0 (some (σ 1))) 37 1 (some (σ 2))) 37 2 (some (σ 3))) 37 3 (some (σ 4))) (sN σ 4) := by
        refine hb'.rec (by omega) (fun a q1 q2 => ?_) (fun i hi => ?_) ?_ (fun i hi => ?_)
        · funext x; simp [xuR, q1, q2]
        · rw [xuR_at (by omega), xuR_at (by omega), xuR_at (by omega), xuR_at (by omega), xuR_at (by omega)]
        · simp [xuR, sN]
        · rcases (show i = 0 ∨ i = 1 ∨ i = 2 ∨ i = 3 by omega) with rfl | rfl | rfl | rfl <;> simp [xuR, sN]
      refine ⟨hO, ⟨h1, h2⟩, ⟨by decide, fun i hi => ?_⟩, ⟨fun i hi => ?_, hy19⟩, h7, ⟨h5, f6, f7, f8⟩, hT⟩
      · have hi4 : i < 4 := hi
        have e1 : sN σ 4 i = σ (i + 1) := by unfold sN; rw [if_pos rfl, if_neg (by omega)]
        rw [e1]
        unfold pH
        rw [if_pos rfl]
        by_cases q : i = 3
        · subst q; rw [if_pos rfl]; exact ⟨hP, hV⟩
        · rw [if_neg q]; exact h4 (i + 1) (by omega)
      · unfold sN
        rw [if_pos rfl]
        split
        · exact hy 0 (by omega)
        · exact hy (i + 1) (by omega)
    · have hlt : h < 4 := by omega
      have sh := hb'.st (i := h) (by omega)
      refine x_iload_n dX5_recorded_0 rfl rfl ?_
      refine x_if_geT 6 dX5_recorded_1 (by decide) (hge) ?_
      refine x_aload_n dX5_recorded_6 rfl rfl ?_
      refine x_getR (j := σ 4) fl_X5_30 dX5_recorded_7 xk_0 (by decide) rfl hr4 ?_
      refine x_astore_n dX5_recorded_10 rfl (by decide) ?_
      refine x_aload_n dX5_recorded_11 rfl rfl ?_
      refine x_getI fl_X5_95 dX5_recorded_12 xk_0 (by decide) rfl (x_eqtop h5 ?_)
      refine x_aload_n dX5_recorded_15 rfl rfl ?_
      refine x_getR (j := 37) fl_X5_19 dX5_recorded_16 xk_0 (by decide) rfl (by simp [xuR, hr2]) ?_
      refine x_alen (v := nI 4) dX5_recorded_19 xk_37 ⟨by decide, by decide⟩ (by decide) (by rw [xl_37]; rfl) ?_
      refine x_callSd0 (mt' := mX5_isIndex) (sp_isIndex _ _) ktX5_isIndex wl_X5_132 (by decide) dX5_recorded_20 rfl rfl (Nat.le_of_ble_eq_true rfl) ⟨rfl, rfl⟩ (by decide) ?_
      refine x_if_eqF dX5_recorded_23 (by rw [decide_eq_true (⟨nI_pos' (by omega), (nI_ltI (by omega) (by omega)).mpr hlt⟩ : 0 ≤ nI h ∧ nI h < nI 4)]; decide) ?_ 62 (by decide)
      refine x_aload_n dX5_recorded_26 rfl rfl ?_
      refine x_aload_n dX5_recorded_27 rfl rfl ?_
      refine x_getR (j := 37) fl_X5_19 dX5_recorded_28 xk_0 (by decide) rfl (by simp [xuR, hr2]) ?_
      refine x_aload_n dX5_recorded_31 rfl rfl ?_
      refine x_getI fl_X5_95 dX5_recorded_32 xk_0 (by decide) rfl (x_eqtop h5 ?_)
      refine x_aald (j := h) (a := σ h) (c := 11) ⟨by decide, by decide⟩ dX5_recorded_35 xk_37 (by decide) (nI_pos (by omega)) (nI_clamp (by omega)) (by rw [xl_37]; omega) (by first | exact hl _ (by omega) | (simp [xuR]; exact hl _ (by omega))) ?_
      refine x_putR fl_X5_30 fp_5_4 dX5_recorded_36 xk_0 (by decide) rfl (fun _ => rfl) (fun _ => rfl) ?_
      refine x_aload_n dX5_recorded_39 rfl rfl ?_
      refine x_getR (j := 37) fl_X5_19 dX5_recorded_40 xk_0 (by decide) rfl (by simp [xuR, hr2]) ?_
      refine x_aload_n dX5_recorded_43 rfl rfl ?_
      refine x_getI fl_X5_95 dX5_recorded_44 xk_0 (by decide) rfl (x_eqtop h5 ?_)
      refine x_aload_n dX5_recorded_47 rfl rfl ?_
      refine x_aast (j := h) (Or.inr (Or.inr ⟨rfl, rfl, rfl⟩)) dX5_recorded_48 xk_37 (by decide) (nI_pos (by omega)) (nI_clamp (by omega)) (by rw [xl_37]; omega) hS4.k0 hS4.lt0 ?_
      refine x_aload_n dX5_recorded_49 rfl rfl ?_
      refine x_dup dX5_recorded_50 rfl ?_
      refine x_getI fl_X5_95 dX5_recorded_51 xk_0 (by decide) rfl (x_eqtop h5 ?_)
      refine x_iconst (nI 1) dX5_recorded_54 (by decide) ?_
      refine x_iaddN dX5_recorded_55 ?_
      refine x_putI fl_X5_95 fp_5_5 dX5_recorded_56 xk_0 (by decide) rfl rfl rfl ?_
      refine x_goto 116 dX5_recorded_59 (by decide) ?_
      refine x_iload_n dX5_recorded_116 rfl rfl ?_
      refine x_iret dX5_recorded_117 rfl (by decide) (by decide) ?_
      refine ⟨rfl, rfl, fun a ha => xuI_row (by omega), Or.inr ⟨hv, ?_⟩⟩
      have hO : Ob (xuR (xuR R 0 4 (some (σ h))) 37 h (some (σ 4))) (sN σ h) := by
        refine hb'.rec (by omega) (fun a q1 q2 => ?_) (fun i hi => ?_) ?_ (fun i hi => ?_)
        · funext x; simp [xuR, q1, q2]
        · rw [xuR_at (by omega), xuR_at (by omega)]
        · rw [xuR_at (by omega), xuR_self]
          unfold sN
          rw [if_neg c, if_pos rfl]
        · unfold sN
          rw [if_neg c, if_neg (by omega)]
          by_cases q : i = h
          · subst q; rw [xuR_self, if_pos rfl]
          · rw [xuR_at (by omega), xuR_at (by omega), if_neg q]; exact hl i hi
      have key : ∀ {o : Nat} {Y : MI}, Ost o → SJ o J Y → SJ o (xuI J 0 5 (nI (h + 1))) Y := fun {o Y} ho hY => by
        have hk : ∀ o ∈ [1, 19, 41, 59, 77, 95, 113], 1 ≤ o := by decide
        have := hk o ho
        exact hY.cg (fun a q1 q2 => xuI_row (by omega)) (fun _ _ => rfl)
      have eN : hN h = h + 1 := if_neg c
      refine ⟨hO, ⟨key hb'.s1.1 h1, h2⟩, ⟨by rw [eN]; omega, fun i hi => ?_⟩, ⟨fun i hi => ?_, ?_⟩, fun q => ⟨key hb'.s19.1 (h7 q).1, (h7 q).2⟩, ⟨by rw [eN]; exact xuI_self, by rw [xuI_col (by omega)]; exact f6, by rw [xuI_col (by omega)]; exact f7, by rw [xuI_col (by omega)]; exact f8⟩, hT.cg (xuI_row (by omega)) (xuI_row (by omega))⟩
      · rw [eN] at hi
        unfold sN pH
        rw [if_neg c, if_neg c, if_neg (by omega)]
        by_cases q : i = h
        · rw [if_pos q, if_pos q]; exact ⟨key hS4.1 hP, hV⟩
        · rw [if_neg q, if_neg q]; exact ⟨key (hb'.st (by omega)).1 (h4 i (by omega)).1, (h4 i (by omega)).2⟩
      · unfold sN
        rw [if_neg c]
        split
        · obtain ⟨Y, hY⟩ := hy h (by omega); exact ⟨Y, key sh.1 hY⟩
        · split
          · exact ⟨_, key hS4.1 hP⟩
          · obtain ⟨Y, hY⟩ := hy i hi; exact ⟨Y, key (hb'.st hi).1 hY⟩
      · obtain ⟨Y, hY⟩ := hy19; exact ⟨Y, key hb'.s19.1 hY⟩
end CL
