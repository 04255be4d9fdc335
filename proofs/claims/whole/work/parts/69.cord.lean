/-! the class: an order of the text against the reference's *)
-/
theorem nx_w {t : Nat → Int32} {n q : Nat} {c : Int32} : nx t n c (q, true) = false := rfl
theorem nx_f {t : Nat → Int32} {n q : Nat} {c : Int32} : nx t n c (q, false) = has t n q c := rfl
section CT
variable {J : MI} {R : MR} {n : Nat} {t : Nat → Int32} {q k : Int32} {N : Nat → Int32} {p : Nat}
/-- the end of 'say': perhaps a second word -/
theorem tl_rn0 (hT : HT J R n t) {p3 : Nat} {a1 a2 a3 : Int32} (hp3 : p3 ≤ n) (h0 : N 0 = a1) (h1 : N 1 = a2) (h2 : N 2 = a3) (h3 : N 3 = -5) {g : GX} {cx : CX} : X g cx mX2_readNumbers (xF g cx mX2_readNumbers (NQ J R 0 (if has t n p3 (nI 32) = true then (nm t n (nI 0) (nI 255) (p3, false)).2 else (p3, false)) (fun N' => N' 0 = a1 ∧ N' 1 = a2 ∧ N' 2 = a3 ∧ N' 3 = if has t n p3 (nI 32) = true then (nm t n (nI 0) (nI 255) (p3, false)).1 else -5))) (0, 0) 48 [some (.ref 38), some (.int (nI 3)), some (.int (nI 3))] [] 137 (TM J (nI p3) (nI 0) N) R := by
  have hn80 := hT.1.1
  cases hs : has t n p3 (nI 32) with
  | false =>
    rw [if_neg (by decide), if_neg (by decide)]
    refine x_iload_n dX2_readNumbers_48 rfl rfl ?_
    refine x_iload_n dX2_readNumbers_49 rfl rfl ?_
    refine x_icmp_geT 69 dX2_readNumbers_50 (by decide) (by decide) ?_
    refine x_aload_n dX2_readNumbers_69 rfl rfl ?_
    refine x_getI fl_X2_19 dX2_readNumbers_70 xk_38 (by decide) rfl (x_eqtop TM_4 ?_)
    refine x_if_neF dX2_readNumbers_73 (rfl) ?_ 93 (by decide)
    refine x_aload_n dX2_readNumbers_76 rfl rfl ?_
    refine x_aload_n dX2_readNumbers_77 rfl rfl ?_
    refine x_getI fl_X2_30 dX2_readNumbers_78 xk_38 (by decide) rfl (x_eqtop TM_3 ?_)
    refine x_bipush (nI 32) dX2_readNumbers_81 (by decide) ?_
    refine x_callVd0 (mt' := mX2_isCharacter) (sp_isCharacter hT (by omega) _) kvX2_isCharacter wl_X2_76 (by decide) dX2_readNumbers_83 xk_38 (by decide) rfl rfl (Nat.le_of_ble_eq_true rfl) ⟨rfl, rfl⟩ (by decide) ?_
    refine x_if_eqT 93 dX2_readNumbers_86 (by decide) (by rw [hs]; rfl) ?_
    refine x_iconst (nI 0) dX2_readNumbers_93 (by decide) ?_
    refine x_istore_n dX2_readNumbers_94 rfl (by decide) ?_
    refine x_iload_n dX2_readNumbers_95 rfl rfl ?_
    refine x_if_eqT 107 dX2_readNumbers_96 (by decide) (rfl) ?_
    refine x_iconst (nI 1) dX2_readNumbers_107 (by decide) ?_
    refine x_goto 112 dX2_readNumbers_108 (by decide) ?_
    refine x_zret dX2_readNumbers_112 rfl (by first | rfl | (split <;> rfl) | (repeat (first | rfl | split))) (by decide) (by decide) ?_
    exact ⟨rfl, rfl, _, rfl, rfl, fun _ => ⟨h0, h1, h2, h3⟩⟩
  | true =>
    rw [if_pos rfl, if_pos rfl]
    have hc := sp_readNumber (N := N) (kd := 0) (w := 3) hT (show p3 < 150 by omega) (by omega) (by omega)
    have hc' : Spd mX2_readNumber [.ref 38, .int (nI 3)] (TM J (nI p3) (nI 0) N) R (some (.int (bi (!(nm t n (nI 0) (nI 255) (p3, false)).2.2)))) (TM J (nI (nm t n (nI 0) (nI 255) (p3, false)).2.1) (nI 0) (if (nm t n (nI 0) (nI 255) (p3, false)).2.2 = true then N else upd N 3 (nm t n (nI 0) (nI 255) (p3, false)).1)) := hc
    generalize nm t n (nI 0) (nI 255) (p3, false) = w at hc' ⊢
    cases ew : w.2.2 with
    | true =>
      rw [ew, if_pos rfl] at hc'
      refine x_iload_n dX2_readNumbers_48 rfl rfl ?_
      refine x_iload_n dX2_readNumbers_49 rfl rfl ?_
      refine x_icmp_geT 69 dX2_readNumbers_50 (by decide) (by decide) ?_
      refine x_aload_n dX2_readNumbers_69 rfl rfl ?_
      refine x_getI fl_X2_19 dX2_readNumbers_70 xk_38 (by decide) rfl (x_eqtop TM_4 ?_)
      refine x_if_neF dX2_readNumbers_73 (rfl) ?_ 93 (by decide)
      refine x_aload_n dX2_readNumbers_76 rfl rfl ?_
      refine x_aload_n dX2_readNumbers_77 rfl rfl ?_
      refine x_getI fl_X2_30 dX2_readNumbers_78 xk_38 (by decide) rfl (x_eqtop TM_3 ?_)
      refine x_bipush (nI 32) dX2_readNumbers_81 (by decide) ?_
      refine x_callVd0 (mt' := mX2_isCharacter) (sp_isCharacter hT (by omega) _) kvX2_isCharacter wl_X2_76 (by decide) dX2_readNumbers_83 xk_38 (by decide) rfl rfl (Nat.le_of_ble_eq_true rfl) ⟨rfl, rfl⟩ (by decide) ?_
      refine x_if_eqF dX2_readNumbers_86 (by rw [hs]; decide) ?_ 93 (by decide)
      refine x_iconst (nI 1) dX2_readNumbers_89 (by decide) ?_
      refine x_goto 94 dX2_readNumbers_90 (by decide) ?_
      refine x_istore_n dX2_readNumbers_94 rfl (by decide) ?_
      refine x_iload_n dX2_readNumbers_95 rfl rfl ?_
      refine x_if_eqF dX2_readNumbers_96 (by decide) ?_ 107 (by decide)
      refine x_aload_n dX2_readNumbers_99 rfl rfl ?_
      refine x_iload_n dX2_readNumbers_100 rfl rfl ?_
      refine x_callVd0 (mt' := mX2_readNumber) (hc') kvX2_readNumber wl_X2_80 (by decide) dX2_readNumbers_101 xk_38 (by decide) rfl rfl (Nat.le_of_ble_eq_true rfl) ⟨rfl, rfl⟩ (by decide) ?_
      refine x_if_eqT 111 dX2_readNumbers_104 (by decide) (rfl) ?_
      refine x_iconst (nI 0) dX2_readNumbers_111 (by decide) ?_
      refine x_zret dX2_readNumbers_112 rfl (by first | rfl | (split <;> rfl) | (repeat (first | rfl | split))) (by decide) (by decide) ?_
      exact ⟨rfl, rfl, _, by rw [ew]; rfl, rfl, fun z => by rw [ew] at z; cases z⟩
    | false =>
      rw [ew, if_neg (by decide)] at hc'
      refine x_iload_n dX2_readNumbers_48 rfl rfl ?_
      refine x_iload_n dX2_readNumbers_49 rfl rfl ?_
      refine x_icmp_geT 69 dX2_readNumbers_50 (by decide) (by decide) ?_
      refine x_aload_n dX2_readNumbers_69 rfl rfl ?_
      refine x_getI fl_X2_19 dX2_readNumbers_70 xk_38 (by decide) rfl (x_eqtop TM_4 ?_)
      refine x_if_neF dX2_readNumbers_73 (rfl) ?_ 93 (by decide)
      refine x_aload_n dX2_readNumbers_76 rfl rfl ?_
      refine x_aload_n dX2_readNumbers_77 rfl rfl ?_
      refine x_getI fl_X2_30 dX2_readNumbers_78 xk_38 (by decide) rfl (x_eqtop TM_3 ?_)
      refine x_bipush (nI 32) dX2_readNumbers_81 (by decide) ?_
      refine x_callVd0 (mt' := mX2_isCharacter) (sp_isCharacter hT (by omega) _) kvX2_isCharacter wl_X2_76 (by decide) dX2_readNumbers_83 xk_38 (by decide) rfl rfl (Nat.le_of_ble_eq_true rfl) ⟨rfl, rfl⟩ (by decide) ?_
      refine x_if_eqF dX2_readNumbers_86 (by rw [hs]; decide) ?_ 93 (by decide)
      refine x_iconst (nI 1) dX2_readNumbers_89 (by decide) ?_
      refine x_goto 94 dX2_readNumbers_90 (by decide) ?_
      refine x_istore_n dX2_readNumbers_94 rfl (by decide) ?_
      refine x_iload_n dX2_readNumbers_95 rfl rfl ?_
      refine x_if_eqF dX2_readNumbers_96 (by decide) ?_ 107 (by decide)
      refine x_aload_n dX2_readNumbers_99 rfl rfl ?_
      refine x_iload_n dX2_readNumbers_100 rfl rfl ?_
      refine x_callVd0 (mt' := mX2_readNumber) (hc') kvX2_readNumber wl_X2_80 (by decide) dX2_readNumbers_101 xk_38 (by decide) rfl rfl (Nat.le_of_ble_eq_true rfl) ⟨rfl, rfl⟩ (by decide) ?_
      refine x_if_eqF dX2_readNumbers_104 (by decide) ?_ 111 (by decide)
      refine x_iconst (nI 1) dX2_readNumbers_107 (by decide) ?_
      refine x_goto 112 dX2_readNumbers_108 (by decide) ?_
      refine x_zret dX2_readNumbers_112 rfl (by first | rfl | (split <;> rfl) | (repeat (first | rfl | split))) (by decide) (by decide) ?_
      exact ⟨rfl, rfl, _, by rw [ew]; rfl, rfl, fun _ => ⟨by rw [upd_ne (by omega)]; exact h0, by rw [upd_ne (by omega)]; exact h1, by rw [upd_ne (by omega)]; exact h2, upd_self⟩⟩
def syQ (t : Nat → Int32) (n p : Nat) : Int32 × (Nat × Bool) := nm t n (nI 0) (nI 127) (nm t n (nI 0) (nI 3) (p, false)).2
def syU (t : Nat → Int32) (n p : Nat) : Int32 × (Nat × Bool) := nm t n (nI 0) (nI 255) (syQ t n p).2
theorem sp_rn0 (hT : HT J R n t) (hp : p ≤ n) : Sp mX2_readNumbers [.ref 38] 137 (TM J (nI p) (nI 0) N) R (NQ J R 0 (if nx t n (nI 32) (syU t n p).2 = true then (nm t n (nI 0) (nI 255) (syU t n p).2).2 else (syU t n p).2) (fun N' => N' 0 = (nm t n (nI 0) (nI 3) (p, false)).1 ∧ N' 1 = (syQ t n p).1 ∧ N' 2 = (syU t n p).1 ∧ N' 3 = if nx t n (nI 32) (syU t n p).2 = true then (nm t n (nI 0) (nI 255) (syU t n p).2).1 else -5)) := by
  refine Sp.mk (by decide +kernel) (by simp [Value.category]) (Nat.le_of_ble_eq_true rfl) (fun g cx => ?_)
  have hn80 := hT.1.1
  have hr1 : (nm t n (nI 0) (nI 3) (p, false)).2.1 ≤ n := nm_le hp
  unfold syU syQ
  refine x_aload_n dX2_readNumbers_0 rfl rfl ?_
  refine x_getI fl_X2_19 dX2_readNumbers_1 xk_38 (by decide) rfl (x_eqtop TM_4 ?_)
  refine x_if_neF dX2_readNumbers_4 (rfl) ?_ 11 (by decide)
  refine x_iconst (nI 3) dX2_readNumbers_7 (by decide) ?_
  refine x_goto 24 dX2_readNumbers_8 (by decide) ?_
  refine x_istore_n dX2_readNumbers_24 rfl (by decide) ?_
  refine x_iconst (nI 0) dX2_readNumbers_25 (by decide) ?_
  refine x_istore_n dX2_readNumbers_26 rfl (by decide) ?_
  refine lp_fill hT 4 0 _ rfl (fun j hj => absurd hj (by omega)) (fun N1 h1 => ?_)
  refine x_iconst (nI 0) dX2_readNumbers_46 (by decide) ?_
  refine x_istore_n dX2_readNumbers_47 rfl (by decide) ?_
  refine st_rn hT (kd := 0) (w := 0) (nd := 3) (by omega) (by omega) (by omega) (by omega) (fun e => ?_) (fun e => ?_)
  · have e' : (nm t n (nI 0) (nI 3) (p, false)).2.2 = true := e
    rw [nm_s (lo := nI 0) (hi := nI 127) e', nm_s (lo := nI 0) (hi := nI 255) (s := (nI 0, ((nm t n (nI 0) (nI 3) (p, false)).2.1, true)).2) rfl]
    exact x_zret dX2_readNumbers_62 rfl rfl (by decide) (by decide) ⟨rfl, rfl, N1, rfl, rfl, fun z => by cases z⟩
  · have e' : (nm t n (nI 0) (nI 3) (p, false)).2.2 = false := e
    show X g cx mX2_readNumbers _ (0, 0) 48 [some (.ref 38), some (.int (nI 3)), some (.int (nI 1))] [] 137 (TM J (nI (nm t n (nI 0) (nI 3) (p, false)).2.1) (nI 0) (upd N1 0 (nm t n (nI 0) (nI 3) (p, false)).1)) R
    clear e
    generalize nm t n (nI 0) (nI 3) (p, false) = rr at e' hr1 ⊢
    obtain ⟨a1, p1, b1⟩ := rr
    have hp1n : p1 ≤ n := hr1
    have eb : b1 = false := e'
    subst eb
    dsimp only
    have hr2 : (nm t n (nI 0) (nI 127) (p1, false)).2.1 ≤ n := nm_le hp1n
    refine st_rn hT (kd := 0) (w := 1) (nd := 3) (by omega) (by omega) (by omega) (by omega) (fun e => ?_) (fun e => ?_)
    · have e' : (nm t n (nI 0) (nI 127) (p1, false)).2.2 = true := e
      rw [nm_s (lo := nI 0) (hi := nI 255) e']
      exact x_zret dX2_readNumbers_62 rfl rfl (by decide) (by decide) ⟨rfl, rfl, _, rfl, rfl, fun z => by cases z⟩
    · have e2' : (nm t n (nI 0) (nI 127) (p1, false)).2.2 = false := e
      show X g cx mX2_readNumbers _ (0, 0) 48 [some (.ref 38), some (.int (nI 3)), some (.int (nI 2))] [] 137 (TM J (nI (nm t n (nI 0) (nI 127) (p1, false)).2.1) (nI 0) (upd (upd N1 0 a1) 1 (nm t n (nI 0) (nI 127) (p1, false)).1)) R
      clear e
      generalize nm t n (nI 0) (nI 127) (p1, false) = rr at e2' hr2 ⊢
      obtain ⟨a2, p2, b2⟩ := rr
      have hp2n : p2 ≤ n := hr2
      have eb : b2 = false := e2'
      subst eb
      dsimp only
      have hr3 : (nm t n (nI 0) (nI 255) (p2, false)).2.1 ≤ n := nm_le hp2n
      refine st_rn hT (kd := 0) (w := 2) (nd := 3) (by omega) (by omega) (by omega) (by omega) (fun e => ?_) (fun e => ?_)
      · have e3' : (nm t n (nI 0) (nI 255) (p2, false)).2.2 = true := e
        show X g cx mX2_readNumbers _ (0, 0) 62 _ _ 137 (TM J (nI (nm t n (nI 0) (nI 255) (p2, false)).2.1) (nI 0) _) R
        generalize nm t n (nI 0) (nI 255) (p2, false) = rr at e3' ⊢
        obtain ⟨a3, p3, b3⟩ := rr
        have eb : b3 = true := e3'
        subst eb
        exact x_zret dX2_readNumbers_62 rfl rfl (by decide) (by decide) ⟨rfl, rfl, _, rfl, rfl, fun z => by cases z⟩
      · have e3' : (nm t n (nI 0) (nI 255) (p2, false)).2.2 = false := e
        show X g cx mX2_readNumbers _ (0, 0) 48 [some (.ref 38), some (.int (nI 3)), some (.int (nI 3))] [] 137 (TM J (nI (nm t n (nI 0) (nI 255) (p2, false)).2.1) (nI 0) (upd (upd (upd N1 0 a1) 1 a2) 2 (nm t n (nI 0) (nI 255) (p2, false)).1)) R
        clear e
        generalize nm t n (nI 0) (nI 255) (p2, false) = rr at e3' hr3 ⊢
        obtain ⟨a3, p3, b3⟩ := rr
        have hp3n : p3 ≤ n := hr3
        have eb : b3 = false := e3'
        subst eb
        exact tl_rn0 hT hp3n (by rw [upd_ne (by omega), upd_ne (by omega)]; exact upd_self) (by rw [upd_ne (by omega)]; exact upd_self) upd_self (by rw [upd_ne (by omega), upd_ne (by omega), upd_ne (by omega)]; exact h1 3 (by omega))
theorem rdO (hT : HT J R n t) (hp : p ≤ n) {kd m : Nat} {s' : Nat × Bool} {A : (Nat → Int32) → Prop} (hmx : mxL (fun i => lcl t n p (kNm i)) 5 = m) (hkx : kxL (fun i => lcl t n p (kNm i)) 5 = nI kd) (hkd : kd < 5) (hrn : Sp mX2_readNumbers [.ref 38] 137 (TM J (nI (p + m)) (nI kd) N) R (NQ J R kd s' A)) : Sp mX2_readOrder [.ref 38] 137 (TM J (nI p) k N) R (NQ J R kd s' A) := by
  refine Sp.mk (by decide +kernel) (by simp [Value.category]) (Nat.le_of_ble_eq_true rfl) (fun g cx => ?_)
  have hn80 := hT.1.1
  have hnm := sp_readName (k := k) (N := N) hT (show p < 200 by omega)
  rw [hmx, hkx, if_neg (fun z => nI_pos (n := kd) (by omega) (by rw [z]; decide))] at hnm
  refine x_aload_n dX2_readOrder_0 rfl rfl ?_
  refine x_callVd0 (mt' := mX2_readName) (hnm) kvX2_readName wl_X2_43 (by decide) dX2_readOrder_1 xk_38 (by decide) rfl rfl (Nat.le_of_ble_eq_true rfl) ⟨rfl, rfl⟩ (by decide) ?_
  refine x_if_eqF dX2_readOrder_4 (by decide) ?_ 18 (by decide)
  refine x_aload_n dX2_readOrder_7 rfl rfl ?_
  refine x_callV (mt' := mX2_readNumbers) hrn kvX2_readNumbers wl_X2_46 (by decide) dX2_readOrder_8 xk_38 (by decide) rfl rfl (Nat.le_of_ble_eq_true rfl) (fun r' n' J' R' hq => ?_)
  obtain ⟨rfl, rfl, N', rfl, rfl, hA⟩ := hq
  refine x_if_eq 18 dX2_readOrder_11 (by decide) (fun c11 => ?_) (fun c11 => ?_)
  · skip
    have e : s'.2 = true := by have := bi_0.mp c11; cases z : s'.2 with | true => rfl | false => rw [z] at this; cases this
    refine x_iconst (nI 0) dX2_readOrder_18 (by decide) ?_
    refine x_zret dX2_readOrder_19 rfl (by first | rfl | (split <;> rfl) | (repeat (first | rfl | split))) (by decide) (by decide) ?_
    exact ⟨rfl, rfl, N', by rw [e]; rfl, rfl, hA⟩
  · skip
    have e : s'.2 = false := by cases z : s'.2 with | false => rfl | true => rw [z] at c11; exact absurd rfl c11
    refine x_iconst (nI 1) dX2_readOrder_14 (by decide) ?_
    refine x_goto 19 dX2_readOrder_15 (by decide) ?_
    refine x_zret dX2_readOrder_19 rfl (by first | rfl | (split <;> rfl) | (repeat (first | rfl | split))) (by decide) (by decide) ?_
    exact ⟨rfl, rfl, N', by rw [e]; rfl, rfl, hA⟩
theorem rdF (hT : HT J R n t) (hp : p ≤ n) {m : Nat} (hmx : mxL (fun i => lcl t n p (kNm i)) 5 = m) (hkx : kxL (fun i => lcl t n p (kNm i)) 5 = -1) : Sp mX2_readOrder [.ref 38] 137 (TM J (nI p) k N) R (fun r n' J' R' => r = some (.int (bi false)) ∧ n' = 137 ∧ J' = TM J (nI (p + m)) (-1) N ∧ R' = R) := by
  refine Sp.mk (by decide +kernel) (by simp [Value.category]) (Nat.le_of_ble_eq_true rfl) (fun g cx => ?_)
  have hn80 := hT.1.1
  have hnm := sp_readName (k := k) (N := N) hT (show p < 200 by omega)
  rw [hmx, hkx, if_pos rfl] at hnm
  refine x_aload_n dX2_readOrder_0 rfl rfl ?_
  refine x_callVd0 (mt' := mX2_readName) (hnm) kvX2_readName wl_X2_43 (by decide) dX2_readOrder_1 xk_38 (by decide) rfl rfl (Nat.le_of_ble_eq_true rfl) ⟨rfl, rfl⟩ (by decide) ?_
  refine x_if_eqT 18 dX2_readOrder_4 (by decide) (rfl) ?_
  refine x_iconst (nI 0) dX2_readOrder_18 (by decide) ?_
  refine x_zret dX2_readOrder_19 rfl (by first | rfl | (split <;> rfl) | (repeat (first | rfl | split))) (by decide) (by decide) ?_
  exact ⟨rfl, rfl, rfl, rfl⟩
end CT
/-- signs one behind the other -/
def sgl (t : Nat → Int32) (n : Nat) : List Int32 → Nat × Bool → Nat × Bool
  | [], s => s
  | c :: cs, s => sgl t n cs (sg t n c s)
theorem sgl_w {t : Nat → Int32} {n : Nat} : ∀ (cs : List Int32) (p : Nat), sgl t n cs (p, true) = (p, true) := by
  intro cs
  induction cs with
  | nil => intro p; rfl
  | cons c cs ih => intro p; show sgl t n cs (sg t n c (p, true)) = _; rw [sg_w rfl]; exact ih p
theorem sgl_f {t : Nat → Int32} {n : Nat} : ∀ (cs : List Int32) (p : Nat), sgl t n cs (p, false) = (p + lcl t n p cs, decide (¬ lcl t n p cs = cs.length)) := by
  intro cs
  induction cs with
  | nil => intro p; rfl
  | cons c cs ih =>
    intro p
    show sgl t n cs (sg t n c (p, false)) = (p + (if has t n p c = true then lcl t n (p + 1) cs + 1 else 0), decide (¬ (if has t n p c = true then lcl t n (p + 1) cs + 1 else 0) = cs.length + 1))
    cases h : has t n p c with
    | true =>
      rw [sg_sp h, ih, if_pos rfl]
      refine Prod.ext (by show p + 1 + _ = _; omega) ?_
      exact decide_eq_decide.mpr ⟨fun z y => z (by omega), fun z y => z (by omega)⟩
    | false =>
      have e : sg t n c (p, false) = (p, true) := by unfold sg; rw [if_neg (show ¬ false = true by decide), if_neg (by rw [h]; decide)]
      rw [e, sgl_w, if_neg (by decide)]
      exact Prod.ext rfl (show true = decide (¬ 0 = cs.length + 1) from (decide_eq_true (by omega)).symm)
theorem mxL_s {l : Nat → Nat} {k : Nat} : mxL l (k + 1) = max (mxL l k) (l k) := by
  show (if l k ≤ mxL l k then mxL l k else l k) = _
  split <;> omega
theorem mxL_5 {l : Nat → Nat} : mxL l 5 = max (max (max (max (l 0) (l 1)) (l 2)) (l 3)) (l 4) := by
  rw [mxL_s, mxL_s, mxL_s, mxL_s, mxL_s, show mxL l 0 = 0 from rfl]
  omega
theorem kxL_5 {l : Nat → Nat} : kxL l 5 = if l 4 = 3 then nI 4 else if l 3 = 5 then nI 3 else if l 2 = 4 then nI 2 else if l 1 = 4 then nI 1 else if l 0 = 3 then nI 0 else -1 := rfl
theorem has_2 {t : Nat → Int32} {n p : Nat} {c d : Int32} (h : has t n p c = true) (hne : ¬ c = d) : has t n p d = false := has_n (fun z => hne ((has_lt h).2.symm.trans z))
theorem lcl_n {t : Nat → Int32} {n p : Nat} {c : Int32} {cs : List Int32} (h : has t n p c = false) : lcl t n p (c :: cs) = 0 := if_neg (by rw [h]; decide)
theorem lcl_y {t : Nat → Int32} {n p : Nat} {c : Int32} {cs : List Int32} (h : has t n p c = true) : lcl t n p (c :: cs) = lcl t n (p + 1) cs + 1 := if_pos h
/-- an order carried out, as the class has read it -/
def cDo (Z : MI) (kd : Nat) (N : Nat → Int32) : Int32 × MI := if kd = 0 then pSay Z (N 0) (N 1) (N 2) (N 3) else if kd = 1 then pHear Z (N 0) (N 1) else if kd = 2 then pHold Z (N 0) (N 1) else if kd = 3 then pStick Z (N 0) (N 1) else pRun Z (N 0)
def OQ (J : MI) (R : MR) (t : Nat → Int32) (n p : Nat) (b c : Int32) : XQ := fun r n' J' R' => n' = 137 ∧ R' = R ∧ ∃ k' N', r = some (.int (bi (!(pOrd t n p b c).1.2))) ∧ J' = TM J (nI (pOrd t n p b c).1.1) k' N' ∧ ((pOrd t n p b c).1.2 = false → p < (pOrd t n p b c).1.1 ∧ ∃ kd, kd < 5 ∧ k' = nI kd ∧ ∀ Z, doO Z (pOrd t n p b c) = cDo Z kd N')
theorem pO_r {t : Nat → Int32} {n p : Nat} {b c : Int32} (h : has t n p (nI 114) = true) : pOrd t n p b c = ((nm t n (nI 1) (nI 99) (sgl t n [nI 114, nI 117, nI 110] (p, false))).2, nI 114, (nm t n (nI 1) (nI 99) (sgl t n [nI 114, nI 117, nI 110] (p, false))).1, b, c, -5) := by
  have e : (if n ≤ p then nI 0 else t p) = nI 114 := by rw [if_neg (by have := (has_lt h).1; omega), (has_lt h).2]
  unfold pOrd
  dsimp only
  rw [e, if_pos rfl]
  rfl
theorem l0_no {t : Nat → Int32} {n p : Nat} {c : Int32} (h : has t n p c = false) (hc : ¬ nI 0 = c) : ¬ (if n ≤ p then nI 0 else t p) = c := by
  by_cases z : n ≤ p
  · rw [if_pos z]; exact hc
  · rw [if_neg z]
    intro y
    rw [has_y (by omega) y] at h
    cases h
theorem pO_o {t : Nat → Int32} {n p : Nat} {b c : Int32} (h : has t n p (nI 104) = true) (h2 : has t n (p + 1) (nI 111) = true) : pOrd t n p b c = ((nm t n (nI 0) (nI 9) (nm t n (nI 0) (nI 3) (sgl t n [nI 111, nI 108, nI 100] (p + 1, false))).2).2, nI 111, (nm t n (nI 0) (nI 3) (sgl t n [nI 111, nI 108, nI 100] (p + 1, false))).1, (nm t n (nI 0) (nI 9) (nm t n (nI 0) (nI 3) (sgl t n [nI 111, nI 108, nI 100] (p + 1, false))).2).1, c, -5) := by
  have e : (if n ≤ p then nI 0 else t p) = nI 104 := by rw [if_neg (by have := (has_lt h).1; omega), (has_lt h).2]
  unfold pOrd
  dsimp only
  rw [e, if_neg (by decide), if_pos rfl, if_pos rfl, sg_sp h, nx_f, h2, if_pos rfl]
  rfl
theorem pO_h {t : Nat → Int32} {n p : Nat} {b c : Int32} (h : has t n p (nI 104) = true) (h2 : has t n (p + 1) (nI 111) = false) : pOrd t n p b c = ((nm t n (nI 0) (nI 127) (nm t n (nI 0) (nI 3) (sgl t n [nI 101, nI 97, nI 114] (p + 1, false))).2).2, nI 104, (nm t n (nI 0) (nI 3) (sgl t n [nI 101, nI 97, nI 114] (p + 1, false))).1, (nm t n (nI 0) (nI 127) (nm t n (nI 0) (nI 3) (sgl t n [nI 101, nI 97, nI 114] (p + 1, false))).2).1, c, -5) := by
  have e : (if n ≤ p then nI 0 else t p) = nI 104 := by rw [if_neg (by have := (has_lt h).1; omega), (has_lt h).2]
  unfold pOrd
  dsimp only
  rw [e, if_neg (by decide), if_pos rfl, if_pos rfl, sg_sp h, nx_f, h2, if_neg (by decide)]
  rfl
theorem pO_t {t : Nat → Int32} {n p : Nat} {b c : Int32} (h : has t n p (nI 115) = true) (h2 : has t n (p + 1) (nI 116) = true) : pOrd t n p b c = ((nm t n (nI 1) (nI 99) (nm t n (nI 0) (nI 3) (sgl t n [nI 116, nI 105, nI 99, nI 107] (p + 1, false))).2).2, nI 116, (nm t n (nI 0) (nI 3) (sgl t n [nI 116, nI 105, nI 99, nI 107] (p + 1, false))).1, (nm t n (nI 1) (nI 99) (nm t n (nI 0) (nI 3) (sgl t n [nI 116, nI 105, nI 99, nI 107] (p + 1, false))).2).1, c, -5) := by
  have e : (if n ≤ p then nI 0 else t p) = nI 115 := by rw [if_neg (by have := (has_lt h).1; omega), (has_lt h).2]
  unfold pOrd
  dsimp only
  rw [e, if_neg (show ¬ nI 115 = nI 114 by decide), if_neg (show ¬ nI 115 = nI 104 by decide), if_neg (show ¬ nI 115 = nI 104 by decide), sg_sp h, nx_f, h2, if_pos rfl]
  rfl
/-- 'say': s behind its first letter -/
def pSy (t : Nat → Int32) (n : Nat) (s : Nat × Bool) : (Nat × Bool) × Int32 × Int32 × Int32 × Int32 × Int32 :=
  if nx t n (nI 32) (nm t n (nI 0) (nI 255) (nm t n (nI 0) (nI 127) (nm t n (nI 0) (nI 3) s).2).2).2 = true then
    ((nm t n (nI 0) (nI 255) (nm t n (nI 0) (nI 255) (nm t n (nI 0) (nI 127) (nm t n (nI 0) (nI 3) s).2).2).2).2, nI 115, (nm t n (nI 0) (nI 3) s).1, (nm t n (nI 0) (nI 127) (nm t n (nI 0) (nI 3) s).2).1, (nm t n (nI 0) (nI 255) (nm t n (nI 0) (nI 127) (nm t n (nI 0) (nI 3) s).2).2).1, (nm t n (nI 0) (nI 255) (nm t n (nI 0) (nI 255) (nm t n (nI 0) (nI 127) (nm t n (nI 0) (nI 3) s).2).2).2).1)
  else ((nm t n (nI 0) (nI 255) (nm t n (nI 0) (nI 127) (nm t n (nI 0) (nI 3) s).2).2).2, nI 115, (nm t n (nI 0) (nI 3) s).1, (nm t n (nI 0) (nI 127) (nm t n (nI 0) (nI 3) s).2).1, (nm t n (nI 0) (nI 255) (nm t n (nI 0) (nI 127) (nm t n (nI 0) (nI 3) s).2).2).1, -5)
theorem pO_s {t : Nat → Int32} {n p : Nat} {b c : Int32} (h114 : has t n p (nI 114) = false) (h104 : has t n p (nI 104) = false) (h2 : nx t n (nI 116) (sg t n (nI 115) (p, false)) = false) : pOrd t n p b c = pSy t n (sgl t n [nI 97, nI 121] (sg t n (nI 115) (p, false))) := by
  have e1 := l0_no h114 (by decide)
  have e2 := l0_no h104 (by decide)
  unfold pOrd
  dsimp only
  rw [if_neg e1, if_neg e2, if_neg e2, h2, if_neg (by decide)]
  rfl
theorem pSy_w {t : Nat → Int32} {n q : Nat} : (pSy t n (q, true)).1 = (q, true) := by
  unfold pSy
  rw [nm_w, nm_s (s := (nI 0, (q, true)).2) rfl, nm_s (s := (nI 0, ((nI 0, (q, true)).2.1, true)).2) rfl]
  rfl
section CT
variable {J : MI} {R : MR} {n : Nat} {t : Nat → Int32} {k : Int32} {N : Nat → Int32} {p : Nat}
theorem rdF' (hT : HT J R n t) (hp : p ≤ n) {m : Nat} {b c : Int32} (hmx : mxL (fun i => lcl t n p (kNm i)) 5 = m) (hkx : kxL (fun i => lcl t n p (kNm i)) 5 = -1) (ho : (pOrd t n p b c).1 = (p + m, true)) : Sp mX2_readOrder [.ref 38] 137 (TM J (nI p) k N) R (OQ J R t n p b c) :=
  (rdF hT hp hmx hkx).imp (fun r n' J' R' h => by
    obtain ⟨rfl, rfl, rfl, rfl⟩ := h
    exact ⟨rfl, rfl, -1, N, by rw [ho]; rfl, by rw [ho], fun z => by rw [ho] at z; cases z⟩)
theorem rdO' (hT : HT J R n t) (hp : p ≤ n) {kd m : Nat} {s' : Nat × Bool} {b c : Int32} {A : (Nat → Int32) → Prop} (hmx : mxL (fun i => lcl t n p (kNm i)) 5 = m) (hkx : kxL (fun i => lcl t n p (kNm i)) 5 = nI kd) (hkd : kd < 5) (hrn : Sp mX2_readNumbers [.ref 38] 137 (TM J (nI (p + m)) (nI kd) N) R (NQ J R kd s' A)) (ho : (pOrd t n p b c).1 = s') (hlt : p < s'.1) (hA : ∀ N', A N' → ∀ Z, doO Z (pOrd t n p b c) = cDo Z kd N') : Sp mX2_readOrder [.ref 38] 137 (TM J (nI p) k N) R (OQ J R t n p b c) :=
  (rdO hT hp hmx hkx hkd hrn).imp (fun r n' J' R' h => by
    obtain ⟨rfl, rfl, N', rfl, rfl, h2⟩ := h
    exact ⟨rfl, rfl, nI kd, N', by rw [ho], by rw [ho], fun z => ⟨by rw [ho]; exact hlt, kd, hkd, rfl, hA N' (h2 (by rw [← ho]; exact z))⟩⟩)
theorem sp_readOrder (hT : HT J R n t) (hp : p ≤ n) (b c : Int32) : Sp mX2_readOrder [.ref 38] 137 (TM J (nI p) k N) R (OQ J R t n p b c) := by
  have hn80 := hT.1.1
  have k0 : kNm 0 = [nI 115, nI 97, nI 121] := rfl
  have k1 : kNm 1 = [nI 104, nI 101, nI 97, nI 114] := rfl
  have k2 : kNm 2 = [nI 104, nI 111, nI 108, nI 100] := rfl
  have k3 : kNm 3 = [nI 115, nI 116, nI 105, nI 99, nI 107] := rfl
  have k4 : kNm 4 = [nI 114, nI 117, nI 110] := rfl
  have ge3 : ∀ {lo hi : Int32} {s : Nat × Bool}, p < s.1 → p < (nm t n lo hi s).2.1 := fun {lo hi s} h => Nat.lt_of_lt_of_le h (nm_ge (Nat.le_refl _))
  cases h114 : has t n p (nI 114) with
  | true =>
    have l0 : lcl t n p (kNm 0) = 0 := by rw [k0]; exact lcl_n (has_2 h114 (by decide))
    have l1 : lcl t n p (kNm 1) = 0 := by rw [k1]; exact lcl_n (has_2 h114 (by decide))
    have l2 : lcl t n p (kNm 2) = 0 := by rw [k2]; exact lcl_n (has_2 h114 (by decide))
    have l3 : lcl t n p (kNm 3) = 0 := by rw [k3]; exact lcl_n (has_2 h114 (by decide))
    have hs := sgl_f (t := t) (n := n) [nI 114, nI 117, nI 110] p
    rw [← k4] at hs
    have ho := pO_r (b := b) (c := c) h114
    rw [← k4, hs] at ho
    have hmx : mxL (fun i => lcl t n p (kNm i)) 5 = lcl t n p (kNm 4) := by rw [mxL_5, l0, l1, l2, l3]; omega
    by_cases z : lcl t n p (kNm 4) = 3
    · rw [show decide (¬ lcl t n p (kNm 4) = (kNm 4).length) = false from decide_eq_false (fun y => y z)] at ho
      have hp3 : p + 3 ≤ n := by
        have := sgl_f (t := t) (n := n) [nI 114, nI 117, nI 110] p
        have h1 := sg_le (t := t) (c := nI 110) (sg_le (t := t) (c := nI 117) (sg_le (t := t) (n := n) (c := nI 114) (s := (p, false)) hp))
        have h2 : sg t n (nI 110) (sg t n (nI 117) (sg t n (nI 114) (p, false))) = sgl t n [nI 114, nI 117, nI 110] (p, false) := rfl
        rw [h2, this, ← k4, z] at h1
        exact h1
      rw [z] at ho
      refine rdO' hT hp (kd := 4) (m := 3) (hmx.trans z) (by rw [kxL_5, if_pos z]) (by omega) (sp_rn4 hT hp3) (by rw [ho]) (ge3 (by show p < p + 3; omega)) (fun N' hA Z => ?_)
      rw [ho]
      show pDo Z (nI 114) _ _ _ _ = pRun Z (N' 0)
      unfold pDo
      rw [if_pos rfl, hA]
    · rw [show decide (¬ lcl t n p (kNm 4) = (kNm 4).length) = true from decide_eq_true z, nm_w] at ho
      exact rdF' hT hp hmx (by rw [kxL_5, if_neg z, if_neg (by rw [l3]; omega), if_neg (by rw [l2]; omega), if_neg (by rw [l1]; omega), if_neg (by rw [l0]; omega)]) (by rw [ho])
  | false =>
    have l4 : lcl t n p (kNm 4) = 0 := by rw [k4]; exact lcl_n h114
    cases h104 : has t n p (nI 104) with
    | true =>
      have hplt := (has_lt h104).1
      have l0 : lcl t n p (kNm 0) = 0 := by rw [k0]; exact lcl_n (has_2 h104 (by decide))
      have l3 : lcl t n p (kNm 3) = 0 := by rw [k3]; exact lcl_n (has_2 h104 (by decide))
      have l1 : lcl t n p (kNm 1) = lcl t n (p + 1) [nI 101, nI 97, nI 114] + 1 := by rw [k1]; exact lcl_y h104
      have l2 : lcl t n p (kNm 2) = lcl t n (p + 1) [nI 111, nI 108, nI 100] + 1 := by rw [k2]; exact lcl_y h104
      cases h111 : has t n (p + 1) (nI 111) with
      | true =>
        have l1' : lcl t n (p + 1) [nI 101, nI 97, nI 114] = 0 := lcl_n (has_2 h111 (by decide))
        have hs := sgl_f (t := t) (n := n) [nI 111, nI 108, nI 100] (p + 1)
        have ho := pO_o (b := b) (c := c) h104 h111
        rw [hs] at ho
        have hmx : mxL (fun i => lcl t n p (kNm i)) 5 = lcl t n (p + 1) [nI 111, nI 108, nI 100] + 1 := by rw [mxL_5, l0, l1, l2, l3, l4]; omega
        by_cases z : lcl t n (p + 1) [nI 111, nI 108, nI 100] = 3
        · rw [show decide (¬ lcl t n (p + 1) [nI 111, nI 108, nI 100] = [nI 111, nI 108, nI 100].length) = false from decide_eq_false (fun y => y z)] at ho
          have hp3 : p + 4 ≤ n := by
            have h1 := sg_le (t := t) (c := nI 100) (sg_le (t := t) (c := nI 108) (sg_le (t := t) (n := n) (c := nI 111) (s := (p + 1, false)) hplt))
            have h2 : sg t n (nI 100) (sg t n (nI 108) (sg t n (nI 111) (p + 1, false))) = sgl t n [nI 111, nI 108, nI 100] (p + 1, false) := rfl
            rw [h2, hs, z] at h1
            exact h1
          rw [z, show p + 1 + 3 = p + 4 by omega] at ho
          refine rdO' hT hp (kd := 2) (m := 4) (by rw [hmx, z]) (by rw [kxL_5, if_neg (by rw [l4]; omega), if_neg (by rw [l3]; omega), if_pos (by rw [l2, z])]) (by omega) (sp_rn2 hT hp3) (by rw [ho]) (ge3 (ge3 (by show p < p + 4; omega))) (fun N' hA Z => ?_)
          rw [ho]
          show pDo Z (nI 111) _ _ _ _ = pHold Z (N' 0) (N' 1)
          unfold pDo
          rw [if_neg (by decide), if_neg (by decide), if_pos rfl, hA.1, hA.2]
        · rw [show decide (¬ lcl t n (p + 1) [nI 111, nI 108, nI 100] = [nI 111, nI 108, nI 100].length) = true from decide_eq_true z, nm_w, nm_w] at ho
          exact rdF' hT hp hmx (by rw [kxL_5, if_neg (by rw [l4]; omega), if_neg (by rw [l3]; omega), if_neg (by rw [l2]; omega), if_neg (by rw [l1, l1']; omega), if_neg (by rw [l0]; omega)]) (by rw [ho, show p + 1 + lcl t n (p + 1) [nI 111, nI 108, nI 100] = p + (lcl t n (p + 1) [nI 111, nI 108, nI 100] + 1) by omega])
      | false =>
        have l2' : lcl t n (p + 1) [nI 111, nI 108, nI 100] = 0 := lcl_n h111
        have hs := sgl_f (t := t) (n := n) [nI 101, nI 97, nI 114] (p + 1)
        have ho := pO_h (b := b) (c := c) h104 h111
        rw [hs] at ho
        have hmx : mxL (fun i => lcl t n p (kNm i)) 5 = lcl t n (p + 1) [nI 101, nI 97, nI 114] + 1 := by rw [mxL_5, l0, l1, l2, l3, l4]; omega
        by_cases z : lcl t n (p + 1) [nI 101, nI 97, nI 114] = 3
        · rw [show decide (¬ lcl t n (p + 1) [nI 101, nI 97, nI 114] = [nI 101, nI 97, nI 114].length) = false from decide_eq_false (fun y => y z)] at ho
          have hp3 : p + 4 ≤ n := by
            have h1 := sg_le (t := t) (c := nI 114) (sg_le (t := t) (c := nI 97) (sg_le (t := t) (n := n) (c := nI 101) (s := (p + 1, false)) hplt))
            have h2 : sg t n (nI 114) (sg t n (nI 97) (sg t n (nI 101) (p + 1, false))) = sgl t n [nI 101, nI 97, nI 114] (p + 1, false) := rfl
            rw [h2, hs, z] at h1
            exact h1
          rw [z, show p + 1 + 3 = p + 4 by omega] at ho
          refine rdO' hT hp (kd := 1) (m := 4) (by rw [hmx, z]) (by rw [kxL_5, if_neg (by rw [l4]; omega), if_neg (by rw [l3]; omega), if_neg (by rw [l2, l2']; omega), if_pos (by rw [l1, z])]) (by omega) (sp_rn1 hT hp3) (by rw [ho]) (ge3 (ge3 (by show p < p + 4; omega))) (fun N' hA Z => ?_)
          rw [ho]
          show pDo Z (nI 104) _ _ _ _ = pHear Z (N' 0) (N' 1)
          unfold pDo
          rw [if_neg (by decide), if_pos rfl, hA.1, hA.2]
        · rw [show decide (¬ lcl t n (p + 1) [nI 101, nI 97, nI 114] = [nI 101, nI 97, nI 114].length) = true from decide_eq_true z, nm_w, nm_w] at ho
          exact rdF' hT hp hmx (by rw [kxL_5, if_neg (by rw [l4]; omega), if_neg (by rw [l3]; omega), if_neg (by rw [l2, l2']; omega), if_neg (by rw [l1]; omega), if_neg (by rw [l0]; omega)]) (by rw [ho, show p + 1 + lcl t n (p + 1) [nI 101, nI 97, nI 114] = p + (lcl t n (p + 1) [nI 101, nI 97, nI 114] + 1) by omega])
    | false =>
      have l1 : lcl t n p (kNm 1) = 0 := by rw [k1]; exact lcl_n h104
      have l2 : lcl t n p (kNm 2) = 0 := by rw [k2]; exact lcl_n h104
      cases h115 : has t n p (nI 115) with
      | false =>
        have l0 : lcl t n p (kNm 0) = 0 := by rw [k0]; exact lcl_n h115
        have l3 : lcl t n p (kNm 3) = 0 := by rw [k3]; exact lcl_n h115
        have e1 : sg t n (nI 115) (p, false) = (p, true) := by unfold sg; rw [if_neg (show ¬ false = true by decide), if_neg (by rw [h115]; decide)]
        have ho := pO_s (b := b) (c := c) h114 h104 (by rw [e1]; rfl)
        rw [e1, sgl_w] at ho
        exact rdF' hT hp (m := 0) (by rw [mxL_5, l0, l1, l2, l3, l4]; omega) (by rw [kxL_5, if_neg (by rw [l4]; omega), if_neg (by rw [l3]; omega), if_neg (by rw [l2]; omega), if_neg (by rw [l1]; omega), if_neg (by rw [l0]; omega)]) (by rw [ho, pSy_w]; rfl)
      | true =>
        have hplt := (has_lt h115).1
        have l0 : lcl t n p (kNm 0) = lcl t n (p + 1) [nI 97, nI 121] + 1 := by rw [k0]; exact lcl_y h115
        have l3 : lcl t n p (kNm 3) = lcl t n (p + 1) [nI 116, nI 105, nI 99, nI 107] + 1 := by rw [k3]; exact lcl_y h115
        cases h116 : has t n (p + 1) (nI 116) with
        | true =>
          have l0' : lcl t n (p + 1) [nI 97, nI 121] = 0 := lcl_n (has_2 h116 (by decide))
          have hs := sgl_f (t := t) (n := n) [nI 116, nI 105, nI 99, nI 107] (p + 1)
          have ho := pO_t (b := b) (c := c) h115 h116
          rw [hs] at ho
          have hmx : mxL (fun i => lcl t n p (kNm i)) 5 = lcl t n (p + 1) [nI 116, nI 105, nI 99, nI 107] + 1 := by rw [mxL_5, l0, l1, l2, l3, l4]; omega
          by_cases z : lcl t n (p + 1) [nI 116, nI 105, nI 99, nI 107] = 4
          · rw [show decide (¬ lcl t n (p + 1) [nI 116, nI 105, nI 99, nI 107] = [nI 116, nI 105, nI 99, nI 107].length) = false from decide_eq_false (fun y => y z)] at ho
            have hp3 : p + 5 ≤ n := by
              have h1 := sg_le (t := t) (c := nI 107) (sg_le (t := t) (c := nI 99) (sg_le (t := t) (c := nI 105) (sg_le (t := t) (n := n) (c := nI 116) (s := (p + 1, false)) hplt)))
              have h2 : sg t n (nI 107) (sg t n (nI 99) (sg t n (nI 105) (sg t n (nI 116) (p + 1, false)))) = sgl t n [nI 116, nI 105, nI 99, nI 107] (p + 1, false) := rfl
              rw [h2, hs, z] at h1
              exact h1
            rw [z, show p + 1 + 4 = p + 5 by omega] at ho
            refine rdO' hT hp (kd := 3) (m := 5) (by rw [hmx, z]) (by rw [kxL_5, if_neg (by rw [l4]; omega), if_pos (by rw [l3, z])]) (by omega) (sp_rn3 hT hp3) (by rw [ho]) (ge3 (ge3 (by show p < p + 5; omega))) (fun N' hA Z => ?_)
            rw [ho]
            show pDo Z (nI 116) _ _ _ _ = pStick Z (N' 0) (N' 1)
            unfold pDo
            rw [if_neg (by decide), if_neg (by decide), if_neg (by decide), if_pos rfl, hA.1, hA.2]
          · rw [show decide (¬ lcl t n (p + 1) [nI 116, nI 105, nI 99, nI 107] = [nI 116, nI 105, nI 99, nI 107].length) = true from decide_eq_true z, nm_w, nm_w] at ho
            exact rdF' hT hp hmx (by rw [kxL_5, if_neg (by rw [l4]; omega), if_neg (by rw [l3]; omega), if_neg (by rw [l2]; omega), if_neg (by rw [l1]; omega), if_neg (by rw [l0, l0']; omega)]) (by rw [ho, show p + 1 + lcl t n (p + 1) [nI 116, nI 105, nI 99, nI 107] = p + (lcl t n (p + 1) [nI 116, nI 105, nI 99, nI 107] + 1) by omega])
        | false =>
          have l3' : lcl t n (p + 1) [nI 116, nI 105, nI 99, nI 107] = 0 := lcl_n h116
          have e1 : sg t n (nI 115) (p, false) = (p + 1, false) := sg_sp h115
          have hs := sgl_f (t := t) (n := n) [nI 97, nI 121] (p + 1)
          have ho := pO_s (b := b) (c := c) h114 h104 (by rw [e1]; exact h116)
          rw [e1, hs] at ho
          have hmx : mxL (fun i => lcl t n p (kNm i)) 5 = lcl t n (p + 1) [nI 97, nI 121] + 1 := by rw [mxL_5, l0, l1, l2, l3, l4]; omega
          by_cases z : lcl t n (p + 1) [nI 97, nI 121] = 2
          · rw [show decide (¬ lcl t n (p + 1) [nI 97, nI 121] = [nI 97, nI 121].length) = false from decide_eq_false (fun y => y z)] at ho
            have hp3 : p + 3 ≤ n := by
              have h1 := sg_le (t := t) (c := nI 121) (sg_le (t := t) (n := n) (c := nI 97) (s := (p + 1, false)) hplt)
              have h2 : sg t n (nI 121) (sg t n (nI 97) (p + 1, false)) = sgl t n [nI 97, nI 121] (p + 1, false) := rfl
              rw [h2, hs, z] at h1
              exact h1
            rw [z, show p + 1 + 2 = p + 3 by omega] at ho
            have hlt : p < (pSy t n (p + 3, false)).1.1 := by
              unfold pSy
              split
              · exact ge3 (ge3 (ge3 (ge3 (by show p < p + 3; omega))))
              · exact ge3 (ge3 (ge3 (by show p < p + 3; omega)))
            have es : (pSy t n (p + 3, false)).1 = (if nx t n (nI 32) (syU t n (p + 3)).2 = true then (nm t n (nI 0) (nI 255) (syU t n (p + 3)).2).2 else (syU t n (p + 3)).2) := by
              unfold pSy syU syQ
              split <;> rfl
            refine rdO' hT hp (kd := 0) (m := 3) (by rw [hmx, z]) (by rw [kxL_5, if_neg (by rw [l4]; omega), if_neg (by rw [l3, l3']; omega), if_neg (by rw [l2]; omega), if_neg (by rw [l1]; omega), if_pos (by rw [l0, z])]) (by omega) (sp_rn0 hT hp3) (by rw [ho]; exact es) (by rw [← es]; exact hlt) (fun N' hA Z => ?_)
            rw [ho]
            obtain ⟨q0, q1, q2, q3⟩ := hA
            unfold syQ at q1
            unfold syU syQ at q2 q3
            show _ = pSay Z (N' 0) (N' 1) (N' 2) (N' 3)
            rw [q0, q1, q2, q3]
            unfold doO pSy
            split
            · show pDo Z (nI 115) _ _ _ _ = _
              unfold pDo
              rw [if_neg (by decide), if_neg (by decide), if_neg (by decide), if_neg (by decide)]
            · show pDo Z (nI 115) _ _ _ _ = _
              unfold pDo
              rw [if_neg (by decide), if_neg (by decide), if_neg (by decide), if_neg (by decide)]
          · rw [show decide (¬ lcl t n (p + 1) [nI 97, nI 121] = [nI 97, nI 121].length) = true from decide_eq_true z] at ho
            exact rdF' hT hp hmx (by rw [kxL_5, if_neg (by rw [l4]; omega), if_neg (by rw [l3, l3']; omega), if_neg (by rw [l2]; omega), if_neg (by rw [l1]; omega), if_neg (by rw [l0]; omega)]) (by rw [ho, pSy_w, show p + 1 + lcl t n (p + 1) [nI 97, nI 121] = p + (lcl t n (p + 1) [nI 97, nI 121] + 1) by omega])
end CT
