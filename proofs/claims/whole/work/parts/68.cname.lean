/-! the class: names and numbers of an order *)
-/
theorem nm_w {t : Nat → Int32} {n q : Nat} {lo hi : Int32} : nm t n lo hi (q, true) = (nI 0, (q, true)) := by
  have e : sg t n (nI 32) (q, true) = (q, true) := sg_w rfl
  rw [nm_no (by rw [e]; exact nmR_1 rfl), e]
theorem nm_s {t : Nat → Int32} {n : Nat} {lo hi : Int32} {s : Nat × Bool} (h : s.2 = true) : nm t n lo hi s = (nI 0, (s.1, true)) := by
  obtain ⟨a, b⟩ := s
  cases h
  exact nm_w
/-- behind the numbers: s the place and whether wrong -/
def NQ (J : MI) (R : MR) (kd : Nat) (s : Nat × Bool) (A : (Nat → Int32) → Prop) : XQ := fun r n' J' R' => n' = 137 ∧ R' = R ∧ ∃ N', r = some (.int (bi (!s.2))) ∧ J' = TM J (nI s.1) (nI kd) N' ∧ (s.2 = false → A N')
section CT
variable {J : MI} {R : MR} {n : Nat} {t : Nat → Int32} {q k : Int32} {N : Nat → Int32} {p : Nat}
theorem lp_fill (hT : HT J R n t) {nd : Int32} {g : GX} {cx : CX} {F : State → Prop} : ∀ (m i : Nat) (N : Nat → Int32), i + m = 4 → (∀ j, j < i → N j = -5) → (∀ N' : Nat → Int32, (∀ j, j < 4 → N' j = -5) → X g cx mX2_readNumbers F (0, 0) 46 [some (.ref 38), some (.int nd), some (.int (nI 4))] [] 137 (TM J q k N') R) → X g cx mX2_readNumbers F (0, 0) 27 [some (.ref 38), some (.int nd), some (.int (nI i))] [] 137 (TM J q k N) R := by
  intro m
  induction m with
  | zero =>
    intro i N hi hN hx
    obtain rfl : i = 4 := by omega
    refine x_iload_n dX2_readNumbers_27 rfl rfl ?_
    refine x_iconst (nI 4) dX2_readNumbers_28 (by decide) ?_
    refine x_icmp_geN 46 dX2_readNumbers_29 (by decide) (by omega) (by omega) (fun c29 => ?_) (fun c29 => ?_)
    · skip
      exact hx N hN
    · skip
      exact absurd c29 (by omega)
  | succ m ih =>
    intro i N hi hN hx
    refine x_iload_n dX2_readNumbers_27 rfl rfl ?_
    refine x_iconst (nI 4) dX2_readNumbers_28 (by decide) ?_
    refine x_icmp_geN 46 dX2_readNumbers_29 (by decide) (by omega) (by omega) (fun c29 => ?_) (fun c29 => ?_)
    · skip
      exact absurd c29 (by omega)
    · skip
      refine x_aload_n dX2_readNumbers_32 rfl rfl ?_
      refine x_getR (j := 40) fl_X2_15 dX2_readNumbers_33 xk_38 (by decide) rfl hT.2.2 ?_
      refine x_iload_n dX2_readNumbers_36 rfl rfl ?_
      refine x_bipush (-5) dX2_readNumbers_37 (by decide) ?_
      refine x_iast (j := i) dX2_readNumbers_39 xk_40 (by decide) (nI_pos (by omega)) (nI_clamp (by omega)) (by rw [xl_40]; omega) (x_eqI TM_u40 ?_)
      refine x_iincN 1 dX2_readNumbers_40 rfl (by decide) (by decide) ?_
      refine x_goto 27 dX2_readNumbers_43 (by decide) ?_
      refine ih (i + 1) _ (by omega) (fun j hj => ?_) hx
      by_cases z : j = i
      · subst z; exact upd_self
      · rw [upd_ne z]; exact hN j (by omega)
/-- a number read, or not -/
theorem st_rn (hT : HT J R n t) {kd w nd : Nat} {g : GX} {cx : CX} {F : State → Prop} (hp : p < 150) (hk : kd < 5) (hw : w < nd) (hnd : nd ≤ 3)
    (hb : (nm t n (nI (loN kd w)) (nI (hiN kd w)) (p, false)).2.2 = true → X g cx mX2_readNumbers F (0, 0) 62 [some (.ref 38), some (.int (nI nd)), some (.int (nI w))] [.int (nI 0)] 137 (TM J (nI (nm t n (nI (loN kd w)) (nI (hiN kd w)) (p, false)).2.1) (nI kd) N) R)
    (hg : (nm t n (nI (loN kd w)) (nI (hiN kd w)) (p, false)).2.2 = false → X g cx mX2_readNumbers F (0, 0) 48 [some (.ref 38), some (.int (nI nd)), some (.int (nI (w + 1)))] [] 137 (TM J (nI (nm t n (nI (loN kd w)) (nI (hiN kd w)) (p, false)).2.1) (nI kd) (upd N w (nm t n (nI (loN kd w)) (nI (hiN kd w)) (p, false)).1)) R) :
    X g cx mX2_readNumbers F (0, 0) 48 [some (.ref 38), some (.int (nI nd)), some (.int (nI w))] [] 137 (TM J (nI p) (nI kd) N) R := by
  have hc := sp_readNumber (N := N) hT hp hk (show w < 4 by omega)
  generalize nm t n (nI (loN kd w)) (nI (hiN kd w)) (p, false) = r at hc hb hg
  cases e : r.2.2 with
  | true =>
    have hb := hb e
    rw [e, if_pos rfl] at hc
    refine x_iload_n dX2_readNumbers_48 rfl rfl ?_
    refine x_iload_n dX2_readNumbers_49 rfl rfl ?_
    refine x_icmp_geF dX2_readNumbers_50 (fun z => absurd ((nI_leI (by omega) (by omega)).mp z) (by omega)) ?_ 69 (by decide)
    refine x_aload_n dX2_readNumbers_53 rfl rfl ?_
    refine x_iload_n dX2_readNumbers_54 rfl rfl ?_
    refine x_callVd0 (mt' := mX2_readNumber) (hc) kvX2_readNumber wl_X2_80 (by decide) dX2_readNumbers_55 xk_38 (by decide) rfl rfl (Nat.le_of_ble_eq_true rfl) ⟨rfl, rfl⟩ (by decide) ?_
    refine x_if_neF dX2_readNumbers_58 (rfl) ?_ 63 (by decide)
    refine x_iconst (nI 0) dX2_readNumbers_61 (by decide) ?_
    exact hb
  | false =>
    have hg := hg e
    rw [e, if_neg (by decide)] at hc
    refine x_iload_n dX2_readNumbers_48 rfl rfl ?_
    refine x_iload_n dX2_readNumbers_49 rfl rfl ?_
    refine x_icmp_geF dX2_readNumbers_50 (fun z => absurd ((nI_leI (by omega) (by omega)).mp z) (by omega)) ?_ 69 (by decide)
    refine x_aload_n dX2_readNumbers_53 rfl rfl ?_
    refine x_iload_n dX2_readNumbers_54 rfl rfl ?_
    refine x_callVd0 (mt' := mX2_readNumber) (hc) kvX2_readNumber wl_X2_80 (by decide) dX2_readNumbers_55 xk_38 (by decide) rfl rfl (Nat.le_of_ble_eq_true rfl) ⟨rfl, rfl⟩ (by decide) ?_
    refine x_if_neT 63 dX2_readNumbers_58 (by decide) (by decide) ?_
    refine x_iincN 1 dX2_readNumbers_63 rfl (by decide) (by decide) ?_
    refine x_goto 48 dX2_readNumbers_66 (by decide) ?_
    exact hg
theorem sp_rn4 (hT : HT J R n t) (hp : p ≤ n) : Sp mX2_readNumbers [.ref 38] 137 (TM J (nI p) (nI 4) N) R (NQ J R 4 (nm t n (nI 1) (nI 99) (p, false)).2 (fun N' => N' 0 = (nm t n (nI 1) (nI 99) (p, false)).1)) := by
  refine Sp.mk (by decide +kernel) (by simp [Value.category]) (Nat.le_of_ble_eq_true rfl) (fun g cx => ?_)
  have hn80 := hT.1.1
  refine x_aload_n dX2_readNumbers_0 rfl rfl ?_
  refine x_getI fl_X2_19 dX2_readNumbers_1 xk_38 (by decide) rfl (x_eqtop TM_4 ?_)
  refine x_if_neT 11 dX2_readNumbers_4 (by decide) (by decide) ?_
  refine x_aload_n dX2_readNumbers_11 rfl rfl ?_
  refine x_getI fl_X2_19 dX2_readNumbers_12 xk_38 (by decide) rfl (x_eqtop TM_4 ?_)
  refine x_iconst (nI 4) dX2_readNumbers_15 (by decide) ?_
  refine x_icmp_neF dX2_readNumbers_16 (rfl) ?_ 23 (by decide)
  refine x_iconst (nI 1) dX2_readNumbers_19 (by decide) ?_
  refine x_goto 24 dX2_readNumbers_20 (by decide) ?_
  refine x_istore_n dX2_readNumbers_24 rfl (by decide) ?_
  refine x_iconst (nI 0) dX2_readNumbers_25 (by decide) ?_
  refine x_istore_n dX2_readNumbers_26 rfl (by decide) ?_
  refine lp_fill hT 4 0 _ rfl (fun j hj => absurd hj (by omega)) (fun N1 h1 => ?_)
  refine x_iconst (nI 0) dX2_readNumbers_46 (by decide) ?_
  refine x_istore_n dX2_readNumbers_47 rfl (by decide) ?_
  refine st_rn hT (kd := 4) (w := 0) (nd := 1) (by omega) (by omega) (by omega) (by omega) (fun e => ?_) (fun e => ?_)
  · refine x_zret dX2_readNumbers_62 rfl rfl (by decide) (by decide) ?_
    refine ⟨rfl, rfl, N1, ?_, ?_, fun z => ?_⟩
    · rw [show (nm t n (nI 1) (nI 99) (p, false)).2.2 = true from e]; rfl
    · rfl
    · rw [show (nm t n (nI 1) (nI 99) (p, false)).2.2 = true from e] at z; cases z
  · have e' : (nm t n (nI 1) (nI 99) (p, false)).2.2 = false := e
    refine x_iload_n dX2_readNumbers_48 rfl rfl ?_
    refine x_iload_n dX2_readNumbers_49 rfl rfl ?_
    refine x_icmp_geT 69 dX2_readNumbers_50 (by decide) (by decide) ?_
    refine x_aload_n dX2_readNumbers_69 rfl rfl ?_
    refine x_getI fl_X2_19 dX2_readNumbers_70 xk_38 (by decide) rfl (x_eqtop TM_4 ?_)
    refine x_if_neT 93 dX2_readNumbers_73 (by decide) (by decide) ?_
    refine x_iconst (nI 0) dX2_readNumbers_93 (by decide) ?_
    refine x_istore_n dX2_readNumbers_94 rfl (by decide) ?_
    refine x_iload_n dX2_readNumbers_95 rfl rfl ?_
    refine x_if_eqT 107 dX2_readNumbers_96 (by decide) (rfl) ?_
    refine x_iconst (nI 1) dX2_readNumbers_107 (by decide) ?_
    refine x_goto 112 dX2_readNumbers_108 (by decide) ?_
    refine x_zret dX2_readNumbers_112 rfl (by first | rfl | (split <;> rfl) | (repeat (first | rfl | split))) (by decide) (by decide) ?_
    exact ⟨rfl, rfl, _, by rw [e']; rfl, rfl, fun _ => upd_self⟩
theorem sp_rn1 (hT : HT J R n t) (hp : p ≤ n) : Sp mX2_readNumbers [.ref 38] 137 (TM J (nI p) (nI 1) N) R (NQ J R 1 (nm t n (nI 0) (nI 127) (nm t n (nI 0) (nI 3) (p, false)).2).2 (fun N' => N' 0 = (nm t n (nI 0) (nI 3) (p, false)).1 ∧ N' 1 = (nm t n (nI 0) (nI 127) (nm t n (nI 0) (nI 3) (p, false)).2).1)) := by
  refine Sp.mk (by decide +kernel) (by simp [Value.category]) (Nat.le_of_ble_eq_true rfl) (fun g cx => ?_)
  have hn80 := hT.1.1
  have hr1 : (nm t n (nI 0) (nI 3) (p, false)).2.1 ≤ n := nm_le hp
  have er : nm t n (nI 0) (nI 3) (p, false) = nm t n (nI 0) (nI 3) (p, false) := rfl
  refine x_aload_n dX2_readNumbers_0 rfl rfl ?_
  refine x_getI fl_X2_19 dX2_readNumbers_1 xk_38 (by decide) rfl (x_eqtop TM_4 ?_)
  refine x_if_neT 11 dX2_readNumbers_4 (by decide) (by decide) ?_
  refine x_aload_n dX2_readNumbers_11 rfl rfl ?_
  refine x_getI fl_X2_19 dX2_readNumbers_12 xk_38 (by decide) rfl (x_eqtop TM_4 ?_)
  refine x_iconst (nI 4) dX2_readNumbers_15 (by decide) ?_
  refine x_icmp_neT 23 dX2_readNumbers_16 (by decide) (by decide) ?_
  refine x_iconst (nI 2) dX2_readNumbers_23 (by decide) ?_
  refine x_istore_n dX2_readNumbers_24 rfl (by decide) ?_
  refine x_iconst (nI 0) dX2_readNumbers_25 (by decide) ?_
  refine x_istore_n dX2_readNumbers_26 rfl (by decide) ?_
  refine lp_fill hT 4 0 _ rfl (fun j hj => absurd hj (by omega)) (fun N1 h1 => ?_)
  refine x_iconst (nI 0) dX2_readNumbers_46 (by decide) ?_
  refine x_istore_n dX2_readNumbers_47 rfl (by decide) ?_
  refine st_rn hT (kd := 1) (w := 0) (nd := 2) (by omega) (by omega) (by omega) (by omega) (fun e => ?_) (fun e => ?_)
  · have e' : (nm t n (nI 0) (nI 3) (p, false)).2.2 = true := e
    have e2 : nm t n (nI 0) (nI 127) (nm t n (nI 0) (nI 3) (p, false)).2 = (nI 0, ((nm t n (nI 0) (nI 3) (p, false)).2.1, true)) := nm_s e'
    rw [e2]
    exact x_zret dX2_readNumbers_62 rfl rfl (by decide) (by decide) ⟨rfl, rfl, N1, rfl, rfl, fun z => by cases z⟩
  · have e' : (nm t n (nI 0) (nI 3) (p, false)).2.2 = false := e
    show X g cx mX2_readNumbers _ (0, 0) 48 [some (.ref 38), some (.int (nI 2)), some (.int (nI 1))] [] 137 (TM J (nI (nm t n (nI 0) (nI 3) (p, false)).2.1) (nI 1) (upd N1 0 (nm t n (nI 0) (nI 3) (p, false)).1)) R
    clear e er
    generalize nm t n (nI 0) (nI 3) (p, false) = rr at e' hr1 ⊢
    obtain ⟨a1, p1, b1⟩ := rr
    have hp1n : p1 ≤ n := hr1
    have eb : b1 = false := e'
    subst eb
    dsimp only
    refine st_rn hT (kd := 1) (w := 1) (nd := 2) (by omega) (by omega) (by omega) (by omega) (fun e2 => ?_) (fun e2 => ?_)
    · have e3 : (nm t n (nI 0) (nI 127) (p1, false)).2.2 = true := e2
      exact x_zret dX2_readNumbers_62 rfl rfl (by decide) (by decide) ⟨rfl, rfl, _, by rw [e3]; rfl, rfl, fun z => by rw [e3] at z; cases z⟩
    · have e3 : (nm t n (nI 0) (nI 127) (p1, false)).2.2 = false := e2
      refine x_iload_n dX2_readNumbers_48 rfl rfl ?_
      refine x_iload_n dX2_readNumbers_49 rfl rfl ?_
      refine x_icmp_geT 69 dX2_readNumbers_50 (by decide) (by decide) ?_
      refine x_aload_n dX2_readNumbers_69 rfl rfl ?_
      refine x_getI fl_X2_19 dX2_readNumbers_70 xk_38 (by decide) rfl (x_eqtop TM_4 ?_)
      refine x_if_neT 93 dX2_readNumbers_73 (by decide) (by decide) ?_
      refine x_iconst (nI 0) dX2_readNumbers_93 (by decide) ?_
      refine x_istore_n dX2_readNumbers_94 rfl (by decide) ?_
      refine x_iload_n dX2_readNumbers_95 rfl rfl ?_
      refine x_if_eqT 107 dX2_readNumbers_96 (by decide) (rfl) ?_
      refine x_iconst (nI 1) dX2_readNumbers_107 (by decide) ?_
      refine x_goto 112 dX2_readNumbers_108 (by decide) ?_
      refine x_zret dX2_readNumbers_112 rfl (by first | rfl | (split <;> rfl) | (repeat (first | rfl | split))) (by decide) (by decide) ?_
      exact ⟨rfl, rfl, _, by rw [e3]; rfl, rfl, fun _ => ⟨by rw [upd_ne (by omega)]; exact upd_self, upd_self⟩⟩
theorem sp_rn2 (hT : HT J R n t) (hp : p ≤ n) : Sp mX2_readNumbers [.ref 38] 137 (TM J (nI p) (nI 2) N) R (NQ J R 2 (nm t n (nI 0) (nI 9) (nm t n (nI 0) (nI 3) (p, false)).2).2 (fun N' => N' 0 = (nm t n (nI 0) (nI 3) (p, false)).1 ∧ N' 1 = (nm t n (nI 0) (nI 9) (nm t n (nI 0) (nI 3) (p, false)).2).1)) := by
  refine Sp.mk (by decide +kernel) (by simp [Value.category]) (Nat.le_of_ble_eq_true rfl) (fun g cx => ?_)
  have hn80 := hT.1.1
  have hr1 : (nm t n (nI 0) (nI 3) (p, false)).2.1 ≤ n := nm_le hp
  have er : nm t n (nI 0) (nI 3) (p, false) = nm t n (nI 0) (nI 3) (p, false) := rfl
  refine x_aload_n dX2_readNumbers_0 rfl rfl ?_
  refine x_getI fl_X2_19 dX2_readNumbers_1 xk_38 (by decide) rfl (x_eqtop TM_4 ?_)
  refine x_if_neT 11 dX2_readNumbers_4 (by decide) (by decide) ?_
  refine x_aload_n dX2_readNumbers_11 rfl rfl ?_
  refine x_getI fl_X2_19 dX2_readNumbers_12 xk_38 (by decide) rfl (x_eqtop TM_4 ?_)
  refine x_iconst (nI 4) dX2_readNumbers_15 (by decide) ?_
  refine x_icmp_neT 23 dX2_readNumbers_16 (by decide) (by decide) ?_
  refine x_iconst (nI 2) dX2_readNumbers_23 (by decide) ?_
  refine x_istore_n dX2_readNumbers_24 rfl (by decide) ?_
  refine x_iconst (nI 0) dX2_readNumbers_25 (by decide) ?_
  refine x_istore_n dX2_readNumbers_26 rfl (by decide) ?_
  refine lp_fill hT 4 0 _ rfl (fun j hj => absurd hj (by omega)) (fun N1 h1 => ?_)
  refine x_iconst (nI 0) dX2_readNumbers_46 (by decide) ?_
  refine x_istore_n dX2_readNumbers_47 rfl (by decide) ?_
  refine st_rn hT (kd := 2) (w := 0) (nd := 2) (by omega) (by omega) (by omega) (by omega) (fun e => ?_) (fun e => ?_)
  · have e' : (nm t n (nI 0) (nI 3) (p, false)).2.2 = true := e
    have e2 : nm t n (nI 0) (nI 9) (nm t n (nI 0) (nI 3) (p, false)).2 = (nI 0, ((nm t n (nI 0) (nI 3) (p, false)).2.1, true)) := nm_s e'
    rw [e2]
    exact x_zret dX2_readNumbers_62 rfl rfl (by decide) (by decide) ⟨rfl, rfl, N1, rfl, rfl, fun z => by cases z⟩
  · have e' : (nm t n (nI 0) (nI 3) (p, false)).2.2 = false := e
    show X g cx mX2_readNumbers _ (0, 0) 48 [some (.ref 38), some (.int (nI 2)), some (.int (nI 1))] [] 137 (TM J (nI (nm t n (nI 0) (nI 3) (p, false)).2.1) (nI 2) (upd N1 0 (nm t n (nI 0) (nI 3) (p, false)).1)) R
    clear e er
    generalize nm t n (nI 0) (nI 3) (p, false) = rr at e' hr1 ⊢
    obtain ⟨a1, p1, b1⟩ := rr
    have hp1n : p1 ≤ n := hr1
    have eb : b1 = false := e'
    subst eb
    dsimp only
    refine st_rn hT (kd := 2) (w := 1) (nd := 2) (by omega) (by omega) (by omega) (by omega) (fun e2 => ?_) (fun e2 => ?_)
    · have e3 : (nm t n (nI 0) (nI 9) (p1, false)).2.2 = true := e2
      exact x_zret dX2_readNumbers_62 rfl rfl (by decide) (by decide) ⟨rfl, rfl, _, by rw [e3]; rfl, rfl, fun z => by rw [e3] at z; cases z⟩
    · have e3 : (nm t n (nI 0) (nI 9) (p1, false)).2.2 = false := e2
      refine x_iload_n dX2_readNumbers_48 rfl rfl ?_
      refine x_iload_n dX2_readNumbers_49 rfl rfl ?_
      refine x_icmp_geT 69 dX2_readNumbers_50 (by decide) (by decide) ?_
      refine x_aload_n dX2_readNumbers_69 rfl rfl ?_
      refine x_getI fl_X2_19 dX2_readNumbers_70 xk_38 (by decide) rfl (x_eqtop TM_4 ?_)
      refine x_if_neT 93 dX2_readNumbers_73 (by decide) (by decide) ?_
      refine x_iconst (nI 0) dX2_readNumbers_93 (by decide) ?_
      refine x_istore_n dX2_readNumbers_94 rfl (by decide) ?_
      refine x_iload_n dX2_readNumbers_95 rfl rfl ?_
      refine x_if_eqT 107 dX2_readNumbers_96 (by decide) (rfl) ?_
      refine x_iconst (nI 1) dX2_readNumbers_107 (by decide) ?_
      refine x_goto 112 dX2_readNumbers_108 (by decide) ?_
      refine x_zret dX2_readNumbers_112 rfl (by first | rfl | (split <;> rfl) | (repeat (first | rfl | split))) (by decide) (by decide) ?_
      exact ⟨rfl, rfl, _, by rw [e3]; rfl, rfl, fun _ => ⟨by rw [upd_ne (by omega)]; exact upd_self, upd_self⟩⟩
theorem sp_rn3 (hT : HT J R n t) (hp : p ≤ n) : Sp mX2_readNumbers [.ref 38] 137 (TM J (nI p) (nI 3) N) R (NQ J R 3 (nm t n (nI 1) (nI 99) (nm t n (nI 0) (nI 3) (p, false)).2).2 (fun N' => N' 0 = (nm t n (nI 0) (nI 3) (p, false)).1 ∧ N' 1 = (nm t n (nI 1) (nI 99) (nm t n (nI 0) (nI 3) (p, false)).2).1)) := by
  refine Sp.mk (by decide +kernel) (by simp [Value.category]) (Nat.le_of_ble_eq_true rfl) (fun g cx => ?_)
  have hn80 := hT.1.1
  have hr1 : (nm t n (nI 0) (nI 3) (p, false)).2.1 ≤ n := nm_le hp
  have er : nm t n (nI 0) (nI 3) (p, false) = nm t n (nI 0) (nI 3) (p, false) := rfl
  refine x_aload_n dX2_readNumbers_0 rfl rfl ?_
  refine x_getI fl_X2_19 dX2_readNumbers_1 xk_38 (by decide) rfl (x_eqtop TM_4 ?_)
  refine x_if_neT 11 dX2_readNumbers_4 (by decide) (by decide) ?_
  refine x_aload_n dX2_readNumbers_11 rfl rfl ?_
  refine x_getI fl_X2_19 dX2_readNumbers_12 xk_38 (by decide) rfl (x_eqtop TM_4 ?_)
  refine x_iconst (nI 4) dX2_readNumbers_15 (by decide) ?_
  refine x_icmp_neT 23 dX2_readNumbers_16 (by decide) (by decide) ?_
  refine x_iconst (nI 2) dX2_readNumbers_23 (by decide) ?_
  refine x_istore_n dX2_readNumbers_24 rfl (by decide) ?_
  refine x_iconst (nI 0) dX2_readNumbers_25 (by decide) ?_
  refine x_istore_n dX2_readNumbers_26 rfl (by decide) ?_
  refine lp_fill hT 4 0 _ rfl (fun j hj => absurd hj (by omega)) (fun N1 h1 => ?_)
  refine x_iconst (nI 0) dX2_readNumbers_46 (by decide) ?_
  refine x_istore_n dX2_readNumbers_47 rfl (by decide) ?_
  refine st_rn hT (kd := 3) (w := 0) (nd := 2) (by omega) (by omega) (by omega) (by omega) (fun e => ?_) (fun e => ?_)
  · have e' : (nm t n (nI 0) (nI 3) (p, false)).2.2 = true := e
    have e2 : nm t n (nI 1) (nI 99) (nm t n (nI 0) (nI 3) (p, false)).2 = (nI 0, ((nm t n (nI 0) (nI 3) (p, false)).2.1, true)) := nm_s e'
    rw [e2]
    exact x_zret dX2_readNumbers_62 rfl rfl (by decide) (by decide) ⟨rfl, rfl, N1, rfl, rfl, fun z => by cases z⟩
  · have e' : (nm t n (nI 0) (nI 3) (p, false)).2.2 = false := e
    show X g cx mX2_readNumbers _ (0, 0) 48 [some (.ref 38), some (.int (nI 2)), some (.int (nI 1))] [] 137 (TM J (nI (nm t n (nI 0) (nI 3) (p, false)).2.1) (nI 3) (upd N1 0 (nm t n (nI 0) (nI 3) (p, false)).1)) R
    clear e er
    generalize nm t n (nI 0) (nI 3) (p, false) = rr at e' hr1 ⊢
    obtain ⟨a1, p1, b1⟩ := rr
    have hp1n : p1 ≤ n := hr1
    have eb : b1 = false := e'
    subst eb
    dsimp only
    refine st_rn hT (kd := 3) (w := 1) (nd := 2) (by omega) (by omega) (by omega) (by omega) (fun e2 => ?_) (fun e2 => ?_)
    · have e3 : (nm t n (nI 1) (nI 99) (p1, false)).2.2 = true := e2
      exact x_zret dX2_readNumbers_62 rfl rfl (by decide) (by decide) ⟨rfl, rfl, _, by rw [e3]; rfl, rfl, fun z => by rw [e3] at z; cases z⟩
    · have e3 : (nm t n (nI 1) (nI 99) (p1, false)).2.2 = false := e2
      refine x_iload_n dX2_readNumbers_48 rfl rfl ?_
      refine x_iload_n dX2_readNumbers_49 rfl rfl ?_
      refine x_icmp_geT 69 dX2_readNumbers_50 (by decide) (by decide) ?_
      refine x_aload_n dX2_readNumbers_69 rfl rfl ?_
      refine x_getI fl_X2_19 dX2_readNumbers_70 xk_38 (by decide) rfl (x_eqtop TM_4 ?_)
      refine x_if_neT 93 dX2_readNumbers_73 (by decide) (by decide) ?_
      refine x_iconst (nI 0) dX2_readNumbers_93 (by decide) ?_
      refine x_istore_n dX2_readNumbers_94 rfl (by decide) ?_
      refine x_iload_n dX2_readNumbers_95 rfl rfl ?_
      refine x_if_eqT 107 dX2_readNumbers_96 (by decide) (rfl) ?_
      refine x_iconst (nI 1) dX2_readNumbers_107 (by decide) ?_
      refine x_goto 112 dX2_readNumbers_108 (by decide) ?_
      refine x_zret dX2_readNumbers_112 rfl (by first | rfl | (split <;> rfl) | (repeat (first | rfl | split))) (by decide) (by decide) ?_
      exact ⟨rfl, rfl, _, by rw [e3]; rfl, rfl, fun _ => ⟨by rw [upd_ne (by omega)]; exact upd_self, upd_self⟩⟩
end CT
/-- how many letters of a list stand from a place on -/
def lcl (t : Nat → Int32) (n : Nat) : Nat → List Int32 → Nat
  | _, [] => 0
  | p, c :: cs => if has t n p c = true then lcl t n (p + 1) cs + 1 else 0
def kNm (i : Nat) : List Int32 := ([[115, 97, 121], [104, 101, 97, 114], [104, 111, 108, 100], [115, 116, 105, 99, 107], [114, 117, 110]] : List (List Int32)).getD i []
theorem kNm_d {i j : Nat} (hi : i < 5) (hj : j < kLen i) : (kNm i).drop j = kTx i j :: (kNm i).drop (j + 1) := by
  have key : ∀ i, i < 5 → ∀ j, j < kLen i → (kNm i).drop j = kTx i j :: (kNm i).drop (j + 1) := by decide +kernel
  exact key i hi j hj
theorem kNm_l {i : Nat} (hi : i < 5) : (kNm i).length = kLen i := by
  have key : ∀ i, i < 5 → (kNm i).length = kLen i := by decide
  exact key i hi
theorem lcl_le {t : Nat → Int32} {n : Nat} : ∀ (cs : List Int32) (p : Nat), lcl t n p cs ≤ cs.length := by
  intro cs
  induction cs with
  | nil => intro p; exact Nat.le_refl 0
  | cons c cs ih =>
    intro p
    show (if has t n p c = true then lcl t n (p + 1) cs + 1 else 0) ≤ cs.length + 1
    split
    · have := ih (p + 1); omega
    · omega
def mxL (l : Nat → Nat) : Nat → Nat
  | 0 => 0
  | k + 1 => if l k ≤ mxL l k then mxL l k else l k
def kxL (l : Nat → Nat) : Nat → Int32
  | 0 => -1
  | k + 1 => if l k = kLen k then nI k else kxL l k
theorem mxL_le {l : Nat → Nat} (h : ∀ k, k < 5 → l k ≤ 5) : ∀ k, k ≤ 5 → mxL l k ≤ 5 := by
  intro k
  induction k with
  | zero => intro _; exact Nat.zero_le 5
  | succ k ih =>
    intro hk
    show (if l k ≤ mxL l k then mxL l k else l k) ≤ 5
    split
    · exact ih (by omega)
    · exact h k (by omega)
section CM
variable {g : GX} {cx : CX} {mt : MT} {F : State → Prop} {cs : Nat × Nat} {pc : Nat} {ls : List (Option Value)} {st : List Value} {n : Nat} {I : MI} {R : MR}
theorem x_ldcN {idx i : Nat} {tx : String} (hr : ∀ (g : GX) (U : State), xKV g U → vk_R RX2 idx tx (g.1.2 i) U) (hc : mt.1.cls = RX2) (hd : decode mt.2.1 pc = .ok (.ldc idx, 2)) (kk : X g cx mt F cs (pc + 2) ls (.ref (1000 + i) :: st) n I R) : X g cx mt F cs pc ls st n I R := by
  intro ok H locs lsA hR hS hL
  have hown := ok.2.2.2.2.1
  rw [hc] at hown
  have k' := kk ok H locs lsA hR hS hL
  have e : (Value.ref (1000 + i) :: st).map (xv g) = .ref (g.1.2 i) :: st.map (xv g) := by
    show Value.ref (xad g (1000 + i)) :: _ = _
    rw [xad_hi]
  rw [e] at k'
  exact va_ldcS ok.1 ok.2.1 hown (hr g _ ok.2.2.2.2.2.2.2.2.1) hd k'
end CM
section CT
variable {J : MI} {R : MR} {n : Nat} {t : Nat → Int32} {q k : Int32} {N : Nat → Int32} {p : Nat}
theorem sp_nameOf {I : MI} {i : Nat} (hi : i < 5) : Spd mX2_nameOf [.int (nI i)] I R (some (.ref (1000 + i))) I := by
  refine Spd.mk (by decide +kernel) (by simp [Value.category]) (Nat.le_of_ble_eq_true rfl) (fun g cx => ?_)
  rcases (show i = 0 ∨ i = 1 ∨ i = 2 ∨ i = 3 ∨ i = 4 by omega) with rfl | rfl | rfl | rfl | rfl
  · skip
    refine x_iload_n dX2_nameOf_0 rfl rfl ?_
    refine x_tableIn (off := 31) 32 dX2_nameOf_1 (by decide) (by decide) (by decide) (by decide) ?_
    refine x_ldcN (i := 0) (fun g U h => h.2.2.2.1) rfl dX2_nameOf_32 ?_
    refine x_aret dX2_nameOf_34 rfl (Or.inl ⟨_, rfl⟩) (Or.inr ⟨_, rfl⟩) (by decide) (by decide) ?_
    exact ⟨rfl, rfl, rfl, rfl⟩
  · skip
    refine x_iload_n dX2_nameOf_0 rfl rfl ?_
    refine x_tableIn (off := 34) 35 dX2_nameOf_1 (by decide) (by decide) (by decide) (by decide) ?_
    refine x_ldcN (i := 1) (fun g U h => h.2.2.2.2.1) rfl dX2_nameOf_35 ?_
    refine x_aret dX2_nameOf_37 rfl (Or.inl ⟨_, rfl⟩) (Or.inr ⟨_, rfl⟩) (by decide) (by decide) ?_
    exact ⟨rfl, rfl, rfl, rfl⟩
  · skip
    refine x_iload_n dX2_nameOf_0 rfl rfl ?_
    refine x_tableIn (off := 37) 38 dX2_nameOf_1 (by decide) (by decide) (by decide) (by decide) ?_
    refine x_ldcN (i := 2) (fun g U h => h.2.2.2.2.2.1) rfl dX2_nameOf_38 ?_
    refine x_aret dX2_nameOf_40 rfl (Or.inl ⟨_, rfl⟩) (Or.inr ⟨_, rfl⟩) (by decide) (by decide) ?_
    exact ⟨rfl, rfl, rfl, rfl⟩
  · skip
    refine x_iload_n dX2_nameOf_0 rfl rfl ?_
    refine x_tableIn (off := 40) 41 dX2_nameOf_1 (by decide) (by decide) (by decide) (by decide) ?_
    refine x_ldcN (i := 3) (fun g U h => h.2.2.2.2.2.2.1) rfl dX2_nameOf_41 ?_
    refine x_aret dX2_nameOf_43 rfl (Or.inl ⟨_, rfl⟩) (Or.inr ⟨_, rfl⟩) (by decide) (by decide) ?_
    exact ⟨rfl, rfl, rfl, rfl⟩
  · skip
    refine x_iload_n dX2_nameOf_0 rfl rfl ?_
    refine x_tableOut 44 dX2_nameOf_1 ((by decide)) (by decide) ?_
    refine x_ldcN (i := 4) (fun g U h => h.2.2.2.2.2.2.2) rfl dX2_nameOf_44 ?_
    refine x_aret dX2_nameOf_46 rfl (Or.inl ⟨_, rfl⟩) (Or.inr ⟨_, rfl⟩) (by decide) (by decide) ?_
    exact ⟨rfl, rfl, rfl, rfl⟩
theorem lp_same (hT : HT J R n t) {i : Nat} (hi : i < 5) (hp : p < 200) {g : GX} {cx : CX} {F : State → Prop} : ∀ (m j : Nat), j + m = kLen i → X g cx mX2_sameCharacters F (0, 0) 34 [some (.ref 38), some (.ref (1000 + i)), some (.int (nI (j + lcl t n (p + j) ((kNm i).drop j))))] [] 137 (TM J (nI p) k N) R → X g cx mX2_sameCharacters F (0, 0) 2 [some (.ref 38), some (.ref (1000 + i)), some (.int (nI j))] [] 137 (TM J (nI p) k N) R := by
  have hk5 := kLen_5 hi
  intro m
  induction m with
  | zero =>
    intro j hj hx
    obtain rfl : j = kLen i := by omega
    rw [show (kNm i).drop (kLen i) = [] by rw [← kNm_l hi]; exact List.drop_length, show kLen i + lcl t n (p + kLen i) [] = kLen i from rfl] at hx
    refine x_iload_n dX2_sameCharacters_2 rfl rfl ?_
    refine x_aload_n dX2_sameCharacters_3 rfl rfl ?_
    refine x_callK (i := i) (mt' := mJ0_length_8abf5) hi rfl (sp_strLen hi) kJ0_length_8abf5 wi_J0_length_8abf5 ws_J0_length_8abf5 wl_X2_67 (by decide) dX2_sameCharacters_4 rfl rfl (Nat.le_of_ble_eq_true rfl) ⟨rfl, rfl⟩ (by decide) ?_
    refine x_icmp_geT 34 dX2_sameCharacters_7 (by decide) ((nI_leI (by omega) (by omega)).mpr (Nat.le_refl _)) ?_
    exact hx
  | succ m ih =>
    intro j hj hx
    have hjk : j < kLen i := by omega
    rw [kNm_d hi hjk] at hx
    cases h : has t n (p + j) (kTx i j) with
    | true =>
      rw [show lcl t n (p + j) (kTx i j :: (kNm i).drop (j + 1)) = lcl t n (p + j + 1) ((kNm i).drop (j + 1)) + 1 from if_pos h, show j + (lcl t n (p + j + 1) ((kNm i).drop (j + 1)) + 1) = j + 1 + lcl t n (p + (j + 1)) ((kNm i).drop (j + 1)) by rw [Nat.add_assoc p j 1]; omega] at hx
      refine x_iload_n dX2_sameCharacters_2 rfl rfl ?_
      refine x_aload_n dX2_sameCharacters_3 rfl rfl ?_
      refine x_callK (i := i) (mt' := mJ0_length_8abf5) hi rfl (sp_strLen hi) kJ0_length_8abf5 wi_J0_length_8abf5 ws_J0_length_8abf5 wl_X2_67 (by decide) dX2_sameCharacters_4 rfl rfl (Nat.le_of_ble_eq_true rfl) ⟨rfl, rfl⟩ (by decide) ?_
      refine x_icmp_geF dX2_sameCharacters_7 (fun z => absurd ((nI_leI (by omega) (by omega)).mp z) (by omega)) ?_ 34 (by decide)
      refine x_aload_n dX2_sameCharacters_10 rfl rfl ?_
      refine x_aload_n dX2_sameCharacters_11 rfl rfl ?_
      refine x_getI fl_X2_30 dX2_sameCharacters_12 xk_38 (by decide) rfl (x_eqtop TM_3 ?_)
      refine x_iload_n dX2_sameCharacters_15 rfl rfl ?_
      refine x_iaddN dX2_sameCharacters_16 ?_
      refine x_aload_n dX2_sameCharacters_17 rfl rfl ?_
      refine x_iload_n dX2_sameCharacters_18 rfl rfl ?_
      refine x_callK (i := i) (mt' := mJ0_charAt_5068e) hi rfl (sp_charAt hi hjk) kJ0_charAt_5068e wi_J0_charAt_5068e ws_J0_charAt_5068e wl_X2_72 (by decide) dX2_sameCharacters_19 rfl rfl (Nat.le_of_ble_eq_true rfl) ⟨rfl, rfl⟩ (by decide) ?_
      refine x_callVd0 (mt' := mX2_isCharacter) (sp_isCharacter hT (by omega) _) kvX2_isCharacter wl_X2_76 (by decide) dX2_sameCharacters_22 xk_38 (by decide) rfl rfl (Nat.le_of_ble_eq_true rfl) ⟨rfl, rfl⟩ (by decide) ?_
      refine x_if_eqF dX2_sameCharacters_25 (by rw [h]; decide) ?_ 34 (by decide)
      refine x_iincN 1 dX2_sameCharacters_28 rfl (by decide) (by decide) ?_
      refine x_goto 2 dX2_sameCharacters_31 (by decide) ?_
      exact ih (j + 1) (by omega) hx
    | false =>
      rw [show lcl t n (p + j) (kTx i j :: (kNm i).drop (j + 1)) = 0 from if_neg (by rw [h]; decide)] at hx
      refine x_iload_n dX2_sameCharacters_2 rfl rfl ?_
      refine x_aload_n dX2_sameCharacters_3 rfl rfl ?_
      refine x_callK (i := i) (mt' := mJ0_length_8abf5) hi rfl (sp_strLen hi) kJ0_length_8abf5 wi_J0_length_8abf5 ws_J0_length_8abf5 wl_X2_67 (by decide) dX2_sameCharacters_4 rfl rfl (Nat.le_of_ble_eq_true rfl) ⟨rfl, rfl⟩ (by decide) ?_
      refine x_icmp_geF dX2_sameCharacters_7 (fun z => absurd ((nI_leI (by omega) (by omega)).mp z) (by omega)) ?_ 34 (by decide)
      refine x_aload_n dX2_sameCharacters_10 rfl rfl ?_
      refine x_aload_n dX2_sameCharacters_11 rfl rfl ?_
      refine x_getI fl_X2_30 dX2_sameCharacters_12 xk_38 (by decide) rfl (x_eqtop TM_3 ?_)
      refine x_iload_n dX2_sameCharacters_15 rfl rfl ?_
      refine x_iaddN dX2_sameCharacters_16 ?_
      refine x_aload_n dX2_sameCharacters_17 rfl rfl ?_
      refine x_iload_n dX2_sameCharacters_18 rfl rfl ?_
      refine x_callK (i := i) (mt' := mJ0_charAt_5068e) hi rfl (sp_charAt hi hjk) kJ0_charAt_5068e wi_J0_charAt_5068e ws_J0_charAt_5068e wl_X2_72 (by decide) dX2_sameCharacters_19 rfl rfl (Nat.le_of_ble_eq_true rfl) ⟨rfl, rfl⟩ (by decide) ?_
      refine x_callVd0 (mt' := mX2_isCharacter) (sp_isCharacter hT (by omega) _) kvX2_isCharacter wl_X2_76 (by decide) dX2_sameCharacters_22 xk_38 (by decide) rfl rfl (Nat.le_of_ble_eq_true rfl) ⟨rfl, rfl⟩ (by decide) ?_
      refine x_if_eqT 34 dX2_sameCharacters_25 (by decide) (by rw [h]; rfl) ?_
      exact hx
theorem sp_sameCharacters (hT : HT J R n t) {i : Nat} (hi : i < 5) (hp : p < 200) : Spd mX2_sameCharacters [.ref 38, .ref (1000 + i)] (TM J (nI p) k N) R (some (.int (nI (lcl t n p (kNm i))))) (TM J (nI p) k N) := by
  refine Spd.mk (by decide +kernel) (by simp [Value.category]) (Nat.le_of_ble_eq_true rfl) (fun g cx => ?_)
  refine x_iconst (nI 0) dX2_sameCharacters_0 (by decide) ?_
  refine x_istore_n dX2_sameCharacters_1 rfl (by decide) ?_
  refine lp_same hT hi hp (kLen i) 0 (by omega) ?_
  refine x_iload_n dX2_sameCharacters_34 rfl rfl ?_
  refine x_iret dX2_sameCharacters_35 rfl (by decide) (by decide) ?_
  exact ⟨by show _ = some (Value.int (nI (lcl t n p (kNm i)))); rw [Nat.zero_add]; rfl, rfl, rfl, rfl⟩
theorem lp_readName (hT : HT J R n t) (hp : p < 200) {g : GX} {cx : CX} {F : State → Prop} : ∀ (m i : Nat) (u v : Option Value), i + m = 5 → (∀ u v : Option Value, X g cx mX2_readName F (0, 0) 53 [some (.ref 38), some (.int (nI (mxL (fun i => lcl t n p (kNm i)) 5))), some (.int (nI 5)), u, v] [] 137 (TM J (nI p) (kxL (fun i => lcl t n p (kNm i)) 5) N) R) → X g cx mX2_readName F (0, 0) 9 [some (.ref 38), some (.int (nI (mxL (fun i => lcl t n p (kNm i)) i))), some (.int (nI i)), u, v] [] 137 (TM J (nI p) (kxL (fun i => lcl t n p (kNm i)) i) N) R := by
  have hl5 : ∀ k, k < 5 → lcl t n p (kNm k) ≤ 5 := fun k hk => Nat.le_trans (lcl_le _ _) (by rw [kNm_l hk]; exact (kLen_5 hk).2)
  intro m
  induction m with
  | zero =>
    intro i u v hi hx
    obtain rfl : i = 5 := by omega
    refine x_iload_n dX2_readName_9 rfl rfl ?_
    refine x_iconst (nI 5) dX2_readName_10 (by decide) ?_
    refine x_icmp_geN 53 dX2_readName_11 (by decide) (by omega) (by omega) (fun c11 => ?_) (fun c11 => ?_)
    · skip
      exact hx _ _
    · skip
      exact absurd c11 (by omega)
  | succ m ih =>
    intro i u v him hx
    have hi : i < 5 := by omega
    have hk5 := kLen_5 hi
    have hli := hl5 i hi
    have hmi := mxL_le (l := fun i => lcl t n p (kNm i)) hl5 i (by omega)
    have em : (if nI (lcl t n p (kNm i)) ≤ nI (mxL (fun i => lcl t n p (kNm i)) i) then nI (mxL (fun i => lcl t n p (kNm i)) i) else nI (lcl t n p (kNm i))) = nI (mxL (fun i => lcl t n p (kNm i)) (i + 1)) := by
      show _ = nI (if lcl t n p (kNm i) ≤ mxL (fun i => lcl t n p (kNm i)) i then mxL (fun i => lcl t n p (kNm i)) i else lcl t n p (kNm i))
      by_cases z : lcl t n p (kNm i) ≤ mxL (fun i => lcl t n p (kNm i)) i
      · rw [if_pos z, if_pos ((nI_leI (by omega) (by omega)).mpr z)]
      · rw [if_neg z, if_neg (fun y => z ((nI_leI (by omega) (by omega)).mp y))]
    by_cases hq : lcl t n p (kNm i) = kLen i
    · have ek : nI i = kxL (fun i => lcl t n p (kNm i)) (i + 1) := by
        show _ = (if lcl t n p (kNm i) = kLen i then nI i else _)
        rw [if_pos hq]
      refine x_iload_n dX2_readName_9 rfl rfl ?_
      refine x_iconst (nI 5) dX2_readName_10 (by decide) ?_
      refine x_icmp_geN 53 dX2_readName_11 (by decide) (by omega) (by omega) (fun c11 => ?_) (fun c11 => ?_)
      · skip
        exact absurd c11 (by omega)
      · skip
        refine x_iload_n dX2_readName_14 rfl rfl ?_
        refine x_callSd0 (mt' := mX2_nameOf) (sp_nameOf hi) ktX2_nameOf wl_X2_53 (by decide) dX2_readName_15 rfl rfl (Nat.le_of_ble_eq_true rfl) ⟨rfl, rfl⟩ (by decide) ?_
        refine x_astore_n dX2_readName_18 rfl (by decide) ?_
        refine x_aload_n dX2_readName_19 rfl rfl ?_
        refine x_aload_n dX2_readName_20 rfl rfl ?_
        refine x_callVd0 (mt' := mX2_sameCharacters) (sp_sameCharacters hT hi hp) kvX2_sameCharacters wl_X2_57 (by decide) dX2_readName_21 xk_38 (by decide) rfl rfl (Nat.le_of_ble_eq_true rfl) ⟨rfl, rfl⟩ (by decide) ?_
        refine x_istore dX2_readName_24 (by decide) ?_
        refine x_iload_n dX2_readName_26 rfl rfl ?_
        refine x_iload dX2_readName_27 rfl ?_
        refine x_callSd0 (mt' := mJ9_max_7cf53) (sp_max _ _) ktJ9_max_7cf53 wl_X2_61 (by decide) dX2_readName_29 rfl rfl (Nat.le_of_ble_eq_true rfl) ⟨rfl, rfl⟩ (by decide) ?_
        refine x_eqtop em ?_
        refine x_istore_n dX2_readName_32 rfl (by decide) ?_
        refine x_iload dX2_readName_33 rfl ?_
        refine x_aload_n dX2_readName_35 rfl rfl ?_
        refine x_callK (i := i) (mt' := mJ0_length_8abf5) hi rfl (sp_strLen hi) kJ0_length_8abf5 wi_J0_length_8abf5 ws_J0_length_8abf5 wl_X2_67 (by decide) dX2_readName_36 rfl rfl (Nat.le_of_ble_eq_true rfl) ⟨rfl, rfl⟩ (by decide) ?_
        refine x_icmp_neF dX2_readName_39 (by rw [hq]) ?_ 47 (by decide)
        refine x_aload_n dX2_readName_42 rfl rfl ?_
        refine x_iload_n dX2_readName_43 rfl rfl ?_
        refine x_putI fl_X2_19 fp_2_4 dX2_readName_44 xk_38 (by decide) rfl rfl rfl (x_eqI TM_u4 ?_)
        refine x_eqI (I' := TM J (nI p) (kxL (fun i => lcl t n p (kNm i)) (i + 1)) N) (by rw [← ek]) ?_
        refine x_iincN 1 dX2_readName_47 rfl (by decide) (by decide) ?_
        refine x_goto 9 dX2_readName_50 (by decide) ?_
        exact ih (i + 1) _ _ (by omega) hx
    · have ek : kxL (fun i => lcl t n p (kNm i)) i = kxL (fun i => lcl t n p (kNm i)) (i + 1) := by
        show _ = (if lcl t n p (kNm i) = kLen i then nI i else _)
        rw [if_neg hq]
      refine x_iload_n dX2_readName_9 rfl rfl ?_
      refine x_iconst (nI 5) dX2_readName_10 (by decide) ?_
      refine x_icmp_geN 53 dX2_readName_11 (by decide) (by omega) (by omega) (fun c11 => ?_) (fun c11 => ?_)
      · skip
        exact absurd c11 (by omega)
      · skip
        refine x_iload_n dX2_readName_14 rfl rfl ?_
        refine x_callSd0 (mt' := mX2_nameOf) (sp_nameOf hi) ktX2_nameOf wl_X2_53 (by decide) dX2_readName_15 rfl rfl (Nat.le_of_ble_eq_true rfl) ⟨rfl, rfl⟩ (by decide) ?_
        refine x_astore_n dX2_readName_18 rfl (by decide) ?_
        refine x_aload_n dX2_readName_19 rfl rfl ?_
        refine x_aload_n dX2_readName_20 rfl rfl ?_
        refine x_callVd0 (mt' := mX2_sameCharacters) (sp_sameCharacters hT hi hp) kvX2_sameCharacters wl_X2_57 (by decide) dX2_readName_21 xk_38 (by decide) rfl rfl (Nat.le_of_ble_eq_true rfl) ⟨rfl, rfl⟩ (by decide) ?_
        refine x_istore dX2_readName_24 (by decide) ?_
        refine x_iload_n dX2_readName_26 rfl rfl ?_
        refine x_iload dX2_readName_27 rfl ?_
        refine x_callSd0 (mt' := mJ9_max_7cf53) (sp_max _ _) ktJ9_max_7cf53 wl_X2_61 (by decide) dX2_readName_29 rfl rfl (Nat.le_of_ble_eq_true rfl) ⟨rfl, rfl⟩ (by decide) ?_
        refine x_eqtop em ?_
        refine x_istore_n dX2_readName_32 rfl (by decide) ?_
        refine x_iload dX2_readName_33 rfl ?_
        refine x_aload_n dX2_readName_35 rfl rfl ?_
        refine x_callK (i := i) (mt' := mJ0_length_8abf5) hi rfl (sp_strLen hi) kJ0_length_8abf5 wi_J0_length_8abf5 ws_J0_length_8abf5 wl_X2_67 (by decide) dX2_readName_36 rfl rfl (Nat.le_of_ble_eq_true rfl) ⟨rfl, rfl⟩ (by decide) ?_
        refine x_icmp_neT 47 dX2_readName_39 (by decide) (fun z => hq ((nI_eq (by omega) (by omega)).mp z)) ?_
        refine x_iincN 1 dX2_readName_47 rfl (by decide) (by decide) ?_
        refine x_goto 9 dX2_readName_50 (by decide) ?_
        rw [ek]
        exact ih (i + 1) _ _ (by omega) hx
theorem sp_readName (hT : HT J R n t) (hp : p < 200) : Spd mX2_readName [.ref 38] (TM J (nI p) k N) R (some (.int (if kxL (fun i => lcl t n p (kNm i)) 5 = -1 then nI 0 else nI 1))) (TM J (nI (p + mxL (fun i => lcl t n p (kNm i)) 5)) (kxL (fun i => lcl t n p (kNm i)) 5) N) := by
  refine Spd.mk (by decide +kernel) (by simp [Value.category]) (Nat.le_of_ble_eq_true rfl) (fun g cx => ?_)
  refine x_iconst (nI 0) dX2_readName_0 (by decide) ?_
  refine x_istore_n dX2_readName_1 rfl (by decide) ?_
  refine x_aload_n dX2_readName_2 rfl rfl ?_
  refine x_iconst (-1) dX2_readName_3 (by decide) ?_
  refine x_putI fl_X2_19 fp_2_4 dX2_readName_4 xk_38 (by decide) rfl rfl rfl (x_eqI TM_u4 ?_)
  refine x_iconst (nI 0) dX2_readName_7 (by decide) ?_
  refine x_istore_n dX2_readName_8 rfl (by decide) ?_
  refine lp_readName hT hp 5 0 _ _ rfl (fun u v => ?_)
  refine x_aload_n dX2_readName_53 rfl rfl ?_
  refine x_dup dX2_readName_54 rfl ?_
  refine x_getI fl_X2_30 dX2_readName_55 xk_38 (by decide) rfl (x_eqtop TM_3 ?_)
  refine x_iload_n dX2_readName_58 rfl rfl ?_
  refine x_iaddN dX2_readName_59 ?_
  refine x_putI fl_X2_30 fp_2_3 dX2_readName_60 xk_38 (by decide) rfl rfl rfl (x_eqI TM_u3 ?_)
  refine x_aload_n dX2_readName_63 rfl rfl ?_
  refine x_getI fl_X2_19 dX2_readName_64 xk_38 (by decide) rfl (x_eqtop TM_4 ?_)
  refine x_iconst (-1) dX2_readName_67 (by decide) ?_
  refine' x_dia_icmp_eq 75 76 dX2_readName_68 (by decide) ?_ ?_ ?_; rotate_left 2
  · intro c68 k68
    refine x_iconst (nI 1) dX2_readName_71 (by decide) ?_
    refine x_goto 76 dX2_readName_72 (by decide) ?_
    exact k68
  · intro c68 k68
    refine x_iconst (nI 0) dX2_readName_75 (by decide) ?_
    exact k68
  refine x_zret dX2_readName_76 rfl (by first | rfl | (split <;> rfl) | (repeat (first | rfl | split))) (by decide) (by decide) ?_
  exact ⟨rfl, rfl, rfl, rfl⟩
end CT
