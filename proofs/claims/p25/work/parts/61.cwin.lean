
/-! the class: winners. rc: those still in the talk, wn: those who came to the end of theirs -/
def rc (Z : MI) (p k : Nat) : Bool := pWs Z p k && decide (p < pBits (Z k 9))
def wn (Z : MI) (p k : Nat) : Bool := pWs Z p k && !decide (p < pBits (Z k 9))
theorem m4_or : ∀ a b c d e f g h : Bool, m4 a b c d ||| m4 e f g h = m4 (a || e) (b || f) (c || g) (d || h) := by decide +kernel
theorem mk_or (p q : Nat → Bool) : mk p 4 ||| mk q 4 = mk (fun k => p k || q k) 4 := by rw [mk_m4, mk_m4, mk_m4]; exact m4_or _ _ _ _ _ _ _ _
theorem pWs_has {Z : MI} {k : Nat} : ∀ p, pWs Z p k = true → hasM Z k = true := by
  intro p
  induction p with
  | zero => exact id
  | succ p ih =>
    intro q
    unfold pWs at q
    split at q
    · rw [Bool.and_eq_true] at q; exact ih q.1
    · exact ih q
theorem rc_hm {Z : MI} {p : Nat} : ∀ k, k < 4 → rc Z p k = true → ¬ Z k 0 = 0 := fun k _ q => by
  unfold rc at q
  rw [Bool.and_eq_true] at q
  have h := pWs_has p q.1
  unfold hasM at h
  rw [decide_eq_true_eq] at h
  exact fun z => h (by rw [z]; decide)
theorem pBit_01 (Z : MI) (k p : Nat) : pBit Z k p = 0 ∨ pBit Z k p = 1 := by
  unfold pBit
  obtain ⟨j, hj, e⟩ := pk_andE (pVal Z k (p / 9) >>> ((nI 7 - nI (p % 9)) &&& 31)) (m := 1) 1 (by decide)
  rw [e]
  rcases (show j = 0 ∨ j = 1 by omega) with rfl | rfl
  · exact Or.inl rfl
  · exact Or.inr rfl
theorem any4_false {p : Nat → Bool} (h : any4 p = false) {k : Nat} (hk : k < 4) : p k = false := by
  unfold any4 at h
  simp only [Bool.or_eq_false_iff] at h
  rcases (show k = 0 ∨ k = 1 ∨ k = 2 ∨ k = 3 by omega) with rfl | rfl | rfl | rfl
  · exact h.1.1.1
  · exact h.1.1.2
  · exact h.1.2
  · exact h.2
theorem pWs_pl {Z : MI} {p : Nat} (h : p % 9 = 8) : pWs Z (p + 1) = pWs Z p := by
  have hL : any4 (wLo Z p (pWs Z p)) = false := by
    have : ∀ k, wLo Z p (pWs Z p) k = false := fun k => by unfold wLo wIs; rw [decide_eq_true h]; simp
    unfold any4
    simp [this]
  rw [pWs, if_neg (by rw [hL]; decide)]
theorem rc_pl {Z : MI} {p k : Nat} (h : p % 9 = 8) : (rc Z p k && !en Z (rc Z p) p k) = rc Z (p + 1) k := by
  unfold en rc
  rw [pWs_pl h]
  cases pWs Z p k with
  | false => rfl
  | true =>
    simp only [Bool.true_and]
    by_cases q : p < pBits (Z k 9)
    · rw [decide_eq_true q]
      by_cases q2 : pBits (Z k 9) = p + 1
      · rw [decide_eq_true q2, decide_eq_false (show ¬ p + 1 < pBits (Z k 9) by omega)]; rfl
      · rw [decide_eq_false q2, decide_eq_true (show p + 1 < pBits (Z k 9) by omega)]; rfl
    · rw [decide_eq_false q, decide_eq_false (show ¬ p + 1 < pBits (Z k 9) by omega)]; rfl
theorem wn_pl {Z : MI} {p k : Nat} (h : p % 9 = 8) : (wn Z p k || en Z (rc Z p) p k) = wn Z (p + 1) k := by
  unfold en rc wn
  rw [pWs_pl h]
  cases pWs Z p k with
  | false => rfl
  | true =>
    simp only [Bool.true_and]
    by_cases q : p < pBits (Z k 9)
    · rw [decide_eq_true q]
      by_cases q2 : pBits (Z k 9) = p + 1
      · rw [decide_eq_true q2, decide_eq_false (show ¬ p + 1 < pBits (Z k 9) by omega)]; rfl
      · rw [decide_eq_false q2, decide_eq_true (show p + 1 < pBits (Z k 9) by omega)]; rfl
    · rw [decide_eq_false q, decide_eq_false (show ¬ p + 1 < pBits (Z k 9) by omega)]; rfl
theorem wLo_ss {Z : MI} {p : Nat} (h : ¬ p % 9 = 8) : wLo Z p (pWs Z p) = ss Z (rc Z p) p 0 := by
  funext k
  unfold wLo wIs ss rc
  rw [decide_eq_false h]
  rfl
theorem bt_nx {Z : MI} {p k : Nat} (h : ¬ p % 9 = 8) (q : p < pBits (Z k 9)) : p + 1 < pBits (Z k 9) := by
  rcases pB_or (Z k 9) with e | e <;> omega
theorem rc_bt {Z : MI} {p k : Nat} (h : ¬ p % 9 = 8) (hk : k < 4) : (if any4 (ss Z (rc Z p) p 0) = true then ss Z (rc Z p) p 0 k else rc Z p k) = rc Z (p + 1) k ∧ wn Z p k = wn Z (p + 1) k := by
  have e := wLo_ss (Z := Z) h
  by_cases q : any4 (ss Z (rc Z p) p 0) = true
  · have ew : pWs Z (p + 1) k = (pWs Z p k && !wHi Z p (pWs Z p) k) := by rw [pWs, e, if_pos q]
    rw [if_pos q]
    unfold rc wn ss
    dsimp only
    rw [ew]
    unfold wHi wIs
    rw [decide_eq_false h]
    cases pWs Z p k with
    | false => exact ⟨rfl, rfl⟩
    | true =>
      simp only [Bool.true_and, Bool.not_false]
      by_cases q2 : p < pBits (Z k 9)
      · rw [decide_eq_true q2, decide_eq_true (bt_nx h q2)]
        rcases pBit_01 Z k p with e0 | e0
        · rw [e0]; exact ⟨by decide, by decide⟩
        · rw [e0]; exact ⟨by decide, by decide⟩
      · rw [decide_eq_false q2, decide_eq_false (show ¬ p + 1 < pBits (Z k 9) by omega)]
        exact ⟨rfl, rfl⟩
  · have ew : pWs Z (p + 1) k = pWs Z p k := by rw [pWs, e, if_neg q]
    rw [if_neg q]
    unfold rc wn
    rw [ew]
    by_cases q2 : p < pBits (Z k 9)
    · rw [decide_eq_true q2, decide_eq_true (bt_nx h q2)]; exact ⟨rfl, rfl⟩
    · rw [decide_eq_false q2, decide_eq_false (show ¬ p + 1 < pBits (Z k 9) by omega)]; exact ⟨rfl, rfl⟩
theorem mk_ite {p q : Nat → Bool} : (if mk p 4 = 0 then mk q 4 else mk p 4) = mk (fun k => if any4 p = true then p k else q k) 4 := by
  by_cases h : any4 p = true
  · rw [if_neg (fun z => by rw [(mk_zero p).mp z] at h; cases h)]
    exact mk_congr (fun j _ => (if_pos h).symm)
  · rw [if_pos ((mk_zero p).mpr (by simpa using h))]
    exact mk_congr (fun j _ => (if_neg h).symm)
section CL
variable {σ : Nat → Nat} {J : MI} {R : MR} {Z : MI} {H : Nat → MI} {h : Nat} {K : MI} {e : Bool} {n : Nat} {t : Nat → Int32} {a b : Int32}
theorem lp_winners (hC : Cl σ J R Z H h K e n t a b) {g : GX} {cx : CX} {F : State → Prop} : ∀ (m p : Nat) (u : Option Value), p + m = 27 → (∀ u : Option Value, X g cx mX5_winners F (0, 0) 81 [some (.ref 0), some (.int (mk (rc Z 27) 4)), some (.int (mk (wn Z 27) 4)), some (.int (nI 27)), u] [] 131 J R) → X g cx mX5_winners F (0, 0) 12 [some (.ref 0), some (.int (mk (rc Z p) 4)), some (.int (mk (wn Z p) 4)), some (.int (nI p)), u] [] 131 J R := by
  intro m
  induction m with
  | zero =>
    intro p u hk hx
    obtain rfl : p = 27 := by omega
    refine x_iload_n dX5_winners_12 rfl rfl ?_
    refine x_bipush (nI 27) dX5_winners_13 (by decide) ?_
    refine x_icmp_geN 81 dX5_winners_15 (by decide) (by omega) (by omega) (fun c15 => ?_) (fun c15 => ?_)
    · skip
      exact hx _
    · skip
      exact absurd c15 (by omega)
  | succ m ih =>
    intro p u hk hx
    refine x_iload_n dX5_winners_12 rfl rfl ?_
    refine x_bipush (nI 27) dX5_winners_13 (by decide) ?_
    refine x_icmp_geN 81 dX5_winners_15 (by decide) (by omega) (by omega) (fun c15 => ?_) (fun c15 => ?_)
    · skip
      exact absurd c15 (by omega)
    · skip
      refine x_iload_n dX5_winners_18 rfl rfl ?_
      refine x_callSd0 (mt' := mX5_isPlace) (sp_isPlace (by omega)) ktX5_isPlace wl_X5_178 (by decide) dX5_winners_19 rfl rfl (Nat.le_of_ble_eq_true rfl) ⟨rfl, rfl⟩ (by decide) ?_
      refine x_if_eq 51 dX5_winners_22 (by decide) (fun c22 => ?_) (fun c22 => ?_)
      · skip
        have hp9 : ¬ p % 9 = 8 := by simpa using bi_0.mp c22
        refine x_aload_n dX5_winners_51 rfl rfl ?_
        refine x_getR (j := 1) fl_X5_10 dX5_winners_52 xk_0 (by decide) rfl hC.ob.1.1 ?_
        refine x_iload_n dX5_winners_55 rfl rfl ?_
        refine x_iload_n dX5_winners_56 rfl rfl ?_
        refine x_iconst (nI 0) dX5_winners_57 (by decide) ?_
        refine x_callVd0 (mt' := mX4_sendersOf) (sp_sendersOf hC.ob.s1 hC.sj (by omega) rc_hm) kvX4_sendersOf wl_X5_185 (by decide) dX5_winners_58 hC.ob.s1.k0 hC.ob.s1.lt0 rfl rfl (Nat.le_of_ble_eq_true rfl) ⟨rfl, rfl⟩ (by decide) ?_
        refine x_istore dX5_winners_61 (by decide) ?_
        refine x_iload dX5_winners_63 rfl ?_
        refine' x_dia_if_ne 72 74 dX5_winners_65 (by decide) ?_ ?_ ?_; rotate_left 2
        · intro c65 k65
          refine x_iload_n dX5_winners_68 rfl rfl ?_
          refine x_goto 74 dX5_winners_69 (by decide) ?_
          exact k65
        · intro c65 k65
          refine x_iload dX5_winners_72 rfl ?_
          exact k65
        refine x_eqtop (y := mk (rc Z (p + 1)) 4) (mk_ite.trans (mk_congr (fun k hk => (rc_bt hp9 hk).1))) ?_
        refine x_istore_n dX5_winners_74 rfl (by decide) ?_
        refine x_iincN 1 dX5_winners_75 rfl (by decide) (by decide) ?_
        refine x_goto 12 dX5_winners_78 (by decide) ?_
        refine x_eqls (by rw [show mk (wn Z p) 4 = mk (wn Z (p + 1)) 4 from mk_congr (fun k hk => (rc_bt hp9 hk).2)]; rfl) (ih (p + 1) _ (by omega) hx)
      · skip
        have hp9 : p % 9 = 8 := by simpa using bi_nt c22
        refine x_aload_n dX5_winners_25 rfl rfl ?_
        refine x_getR (j := 1) fl_X5_10 dX5_winners_26 xk_0 (by decide) rfl hC.ob.1.1 ?_
        refine x_iload_n dX5_winners_29 rfl rfl ?_
        refine x_iload_n dX5_winners_30 rfl rfl ?_
        refine x_callVd0 (mt' := mX4_endingAt) (sp_endingAt hC.ob.s1 hC.sj (by omega) rc_hm) kvX4_endingAt wl_X5_182 (by decide) dX5_winners_31 hC.ob.s1.k0 hC.ob.s1.lt0 rfl rfl (Nat.le_of_ble_eq_true rfl) ⟨rfl, rfl⟩ (by decide) ?_
        refine x_istore dX5_winners_34 (by decide) ?_
        refine x_iload_n dX5_winners_36 rfl rfl ?_
        refine x_iload dX5_winners_37 rfl ?_
        refine x_ior dX5_winners_39 ?_
        refine x_eqtop (y := mk (wn Z (p + 1)) 4) ((mk_or _ _).trans (mk_congr (fun k hk => wn_pl hp9))) ?_
        refine x_istore_n dX5_winners_40 rfl (by decide) ?_
        refine x_iload_n dX5_winners_41 rfl rfl ?_
        refine x_iload dX5_winners_42 rfl ?_
        refine x_iconst (-1) dX5_winners_44 (by decide) ?_
        refine x_ixor dX5_winners_45 ?_
        refine x_iand dX5_winners_46 ?_
        refine x_eqtop (y := mk (rc Z (p + 1)) 4) ((mk_not _ _).trans (mk_congr (fun k hk => rc_pl hp9))) ?_
        refine x_istore_n dX5_winners_47 rfl (by decide) ?_
        refine x_goto 75 dX5_winners_48 (by decide) ?_
        refine x_iincN 1 dX5_winners_75 rfl (by decide) (by decide) ?_
        refine x_goto 12 dX5_winners_78 (by decide) ?_
        exact ih (p + 1) _ (by omega) hx
theorem sp_winners (hC : Cl σ J R Z H h K e n t a b) : Spd mX5_winners [.ref 0] J R (some (.int (mk (pWs Z 27) 4))) J := by
  refine Spd.mk (by decide +kernel) (by simp [Value.category]) (Nat.le_of_ble_eq_true rfl) (fun g cx => ?_)
  have e0 : mk (hasM Z) 4 = mk (rc Z 0) 4 := mk_congr (fun k _ => by unfold rc; rw [decide_eq_true (show 0 < pBits (Z k 9) by rcases pB_or (Z k 9) with q | q <;> omega), Bool.and_true]; rfl)
  have e1 : nI 0 = mk (wn Z 0) 4 := by
    rw [mk_congr (q := fun _ => false) (fun k _ => by unfold wn; rw [decide_eq_true (show 0 < pBits (Z k 9) by rcases pB_or (Z k 9) with q | q <;> omega)]; simp)]
    decide
  have e2 : mk (wn Z 27) 4 = mk (pWs Z 27) 4 := mk_congr (fun k _ => by unfold wn; rw [decide_eq_false (show ¬ 27 < pBits (Z k 9) by rcases pB_or (Z k 9) with q | q <;> omega)]; simp)
  refine x_aload_n dX5_winners_0 rfl rfl ?_
  refine x_getR (j := 1) fl_X5_10 dX5_winners_1 xk_0 (by decide) rfl hC.ob.1.1 ?_
  refine x_callVd0 (mt' := mX4_speakersWithMessage) (sp_speakersWithMessage hC.ob.s1 hC.sj) kvX4_speakersWithMessage wl_X5_175 (by decide) dX5_winners_4 hC.ob.s1.k0 hC.ob.s1.lt0 rfl rfl (Nat.le_of_ble_eq_true rfl) ⟨rfl, rfl⟩ (by decide) ?_
  refine x_eqtop e0 ?_
  refine x_istore_n dX5_winners_7 rfl (by decide) ?_
  refine x_iconst (nI 0) dX5_winners_8 (by decide) ?_
  refine x_eqtop e1 ?_
  refine x_istore_n dX5_winners_9 rfl (by decide) ?_
  refine x_iconst (nI 0) dX5_winners_10 (by decide) ?_
  refine x_istore_n dX5_winners_11 rfl (by decide) ?_
  refine lp_winners hC 27 0 _ rfl (fun u => ?_)
  refine x_iload_n dX5_winners_81 rfl rfl ?_
  refine x_eqtop e2 ?_
  refine x_iret dX5_winners_82 rfl (by decide) (by decide) ?_
  exact ⟨rfl, rfl, rfl, rfl⟩
end CL
