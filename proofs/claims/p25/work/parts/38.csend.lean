
/-! the class: who sends what; whose address -/
def ss (Z : MI) (b : Nat → Bool) (p v k : Nat) : Bool := b k && decide (pBit Z k p = nI v)
def en (Z : MI) (b : Nat → Bool) (p k : Nat) : Bool := b k && decide (pBits (Z k 9) = p + 1)
theorem ss_step {Z : MI} {b : Nat → Bool} {p v k : Nat} {y x : Int32} (h : b k = true → x = pBit Z k p) : (if bi (b k) = 0 then nI 0 else if x = nI v then y else nI 0) = if bi (ss Z b p v k) = 0 then nI 0 else y := by
  unfold ss
  cases e : b k with
  | false => rfl
  | true =>
    rw [if_neg (by decide), h e, Bool.true_and]
    by_cases q : pBit Z k p = nI v
    · rw [if_pos q, decide_eq_true q]; rfl
    · rw [if_neg q, decide_eq_false q]; rfl
theorem en_step {Z : MI} {b : Nat → Bool} {p k : Nat} {y : Int32} : (if bi (b k) = 0 then nI 0 else if bi (decide (pBits (Z k 9) = p + 1)) = 0 then nI 0 else y) = if bi (en Z b p k) = 0 then nI 0 else y := by
  unfold en
  cases e : b k with
  | false => rfl
  | true => rw [if_neg (by decide), Bool.true_and]
section CL
variable {I : MI} {R : MR} {o : Nat} {Z : MI}
theorem SJ.p9 (h : SJ o I Z) {k : Nat} (hk : k < 4) (h1 : ¬ Z k 0 = 0) : I (o + 7 + 2 * k) (0 * 3 + 2) = Z k 9 := (h.pv hk h1 (by omega : (2 : Nat) < 3)).trans rfl
theorem sp_endsAt (hS : St R o) (hJ : SJ o I Z) {k p : Nat} (hk : k < 4) (hp : p < 2 ^ 20) (h1 : ¬ Z k 0 = 0) : Spd mX4_endsAt [.ref (o + 6 + 2 * k), .int (nI p)] I R (some (.int (bi (decide (pBits (Z k 9) = p + 1))))) I := by
  refine Spd.mk (by decide +kernel) (by simp [Value.category]) (Nat.le_of_ble_eq_true rfl) (fun g cx => ?_)
  have e9 := hJ.p9 hk h1
  have eb : (if Z k 9 = -5 then nI 2 else nI 3) = nI (pBits (Z k 9) / 9) := by unfold pBits; split <;> rfl
  have eb2 : pBits (Z k 9) / 9 * 9 = pBits (Z k 9) ∧ pBits (Z k 9) < 28 := by unfold pBits; split <;> decide
  refine x_aload_n dX4_endsAt_0 rfl rfl ?_
  refine x_iconst (nI 0) dX4_endsAt_1 (by decide) ?_
  refine x_callVd0 (mt' := mX3_partsAt) (sp_partsAt _ _ (hS.sk hk) (j := 0) (by omega)) kvX3_partsAt wl_X4_214 (by decide) dX4_endsAt_2 (hS.ks hk) (hS.lts hk) rfl rfl (Nat.le_of_ble_eq_true rfl) ⟨rfl, rfl⟩ (by decide) ?_
  rw [e9]
  refine x_eqtop eb ?_
  refine x_bipush (nI 9) dX4_endsAt_5 (by decide) ?_
  refine x_imulN dX4_endsAt_7 ?_
  refine x_iload_n dX4_endsAt_8 rfl rfl ?_
  refine x_iconst (nI 1) dX4_endsAt_9 (by decide) ?_
  refine x_iaddN dX4_endsAt_10 ?_
  refine' x_dia_icmp_neN 18 19 dX4_endsAt_11 (by decide) (by omega) (by omega) ?_ ?_ ?_; rotate_left 2
  · intro c11 k11
    refine x_iconst (nI 1) dX4_endsAt_14 (by decide) ?_
    refine x_goto 19 dX4_endsAt_15 (by decide) ?_
    exact k11
  · intro c11 k11
    refine x_iconst (nI 0) dX4_endsAt_18 (by decide) ?_
    exact k11
  rw [eb2.1]
  refine x_eqtop (y := bi (decide (pBits (Z k 9) = p + 1))) (bi_ite _) ?_
  refine x_zret dX4_endsAt_19 rfl (bi_n _) (by decide) (by decide) ?_
  exact ⟨rfl, rfl, rfl, rfl⟩
theorem lp_endingAt {b : Nat → Bool} {p : Nat} (hS : St R o) (hJ : SJ o I Z) (hp : p < 2 ^ 20) (hb : ∀ k, k < 4 → b k = true → ¬ Z k 0 = 0) {g : GX} {cx : CX} {F : State → Prop} : ∀ (m k : Nat), k + m = 4 → (X g cx mX4_endingAt F (0, 0) 55 [some (.ref o), some (.int (mk b 4)), some (.int (nI p)), some (.int (mk (en Z b p) 4)), some (.int (nI 4))] [] 131 I R) → X g cx mX4_endingAt F (0, 0) 5 [some (.ref o), some (.int (mk b 4)), some (.int (nI p)), some (.int (mk (en Z b p) k)), some (.int (nI k))] [] 131 I R := by
  intro m
  induction m with
  | zero =>
    intro k  hk hx
    obtain rfl : k = 4 := by omega
    refine x_iload dX4_endingAt_5 rfl ?_
    refine x_aload_n dX4_endingAt_7 rfl rfl ?_
    refine x_getR fl_X4_11 dX4_endingAt_8 hS.k0 hS.lt0 rfl hS.r0 ?_
    refine x_alen (v := nI 4) dX4_endingAt_11 hS.k1 ⟨by decide, by decide⟩ (hS.lt (by omega)) (by rw [hS.l1]; rfl) ?_
    refine x_icmp_geN 55 dX4_endingAt_12 (by decide) (by omega) (by omega) (fun c12 => ?_) (fun c12 => ?_)
    · skip
      exact hx
    · skip
      exact absurd c12 (by omega)
  | succ m ih =>
    intro k  hk hx
    refine x_iload dX4_endingAt_5 rfl ?_
    refine x_aload_n dX4_endingAt_7 rfl rfl ?_
    refine x_getR fl_X4_11 dX4_endingAt_8 hS.k0 hS.lt0 rfl hS.r0 ?_
    refine x_alen (v := nI 4) dX4_endingAt_11 hS.k1 ⟨by decide, by decide⟩ (hS.lt (by omega)) (by rw [hS.l1]; rfl) ?_
    refine x_icmp_geN 55 dX4_endingAt_12 (by decide) (by omega) (by omega) (fun c12 => ?_) (fun c12 => ?_)
    · skip
      exact absurd c12 (by omega)
    · skip
      refine x_iload_n dX4_endingAt_15 rfl rfl ?_
      refine x_iload_n dX4_endingAt_16 rfl rfl ?_
      refine x_iload dX4_endingAt_17 rfl ?_
      refine x_callSd0 (mt' := mX4_isIn) (sp_isIn (by omega)) ktX4_isIn wl_X4_203 (by decide) dX4_endingAt_19 rfl rfl (Nat.le_of_ble_eq_true rfl) ⟨rfl, rfl⟩ (by decide) ?_
      refine' x_dia_if_eq 46 47 dX4_endingAt_22 (by decide) ?_ ?_ ?_; rotate_left 2
      · intro c22 k22
        refine x_aload_n dX4_endingAt_25 rfl rfl ?_
        refine x_getR fl_X4_11 dX4_endingAt_26 hS.k0 hS.lt0 rfl hS.r0 ?_
        refine x_iload dX4_endingAt_29 rfl ?_
        refine x_aald (j := k) (c := 10) ⟨by decide, by decide⟩ dX4_endingAt_31 hS.k1 (hS.lt (by omega)) (nI_pos (by omega)) (nI_clamp (by omega)) (by rw [hS.l1]; omega) (hS.rs (by omega)) ?_
        refine x_iload_n dX4_endingAt_32 rfl rfl ?_
        refine x_callSd0 (mt' := mX4_endsAt) (sp_endsAt hS hJ (by omega) (by omega) (hb k (by omega) (bi_nt c22))) ktX4_endsAt wl_X4_193 (by decide) dX4_endingAt_33 rfl rfl (Nat.le_of_ble_eq_true rfl) ⟨rfl, rfl⟩ (by decide) ?_
        refine' x_dia_if_eq 46 47 dX4_endingAt_36 (by decide) ?_ ?_ ?_; rotate_left 2
        · intro c36 k36
          refine x_iconst (nI 1) dX4_endingAt_39 (by decide) ?_
          refine x_iload dX4_endingAt_40 rfl ?_
          refine x_ishl dX4_endingAt_42 ?_
          refine x_goto 47 dX4_endingAt_43 (by decide) ?_
          exact k36
        · intro c36 k36
          refine x_iconst (nI 0) dX4_endingAt_46 (by decide) ?_
          exact k36
        exact k22
      · intro c22 k22
        refine x_iconst (nI 0) dX4_endingAt_46 (by decide) ?_
        exact k22
      refine x_ior dX4_endingAt_47 ?_
      refine x_eqtop ((congrArg (fun x => mk (en Z b p) k ||| x) en_step).trans mk_step) ?_
      refine x_istore_n dX4_endingAt_48 rfl (by decide) ?_
      refine x_iincN 1 dX4_endingAt_49 rfl (by decide) (by decide) ?_
      refine x_goto 5 dX4_endingAt_52 (by decide) ?_
      exact ih (k + 1) (by omega) hx
theorem lp_sendersOf {b : Nat → Bool} {p v : Nat} (hS : St R o) (hJ : SJ o I Z) (hp : p < 27) (hb : ∀ k, k < 4 → b k = true → ¬ Z k 0 = 0) {g : GX} {cx : CX} {F : State → Prop} : ∀ (m k : Nat) (u0 : Option Value), k + m = 4 → (∀ (u0 : Option Value), X g cx mX4_sendersOf F (0, 0) 85 [some (.ref o), some (.int (mk b 4)), some (.int (nI p)), some (.int (nI v)), some (.int (nI (p / 9))), some (.int (nI 7 - nI (p % 9))), some (.int (mk (ss Z b p v) 4)), some (.int (nI 4)), u0] [] 131 I R) → X g cx mX4_sendersOf F (0, 0) 21 [some (.ref o), some (.int (mk b 4)), some (.int (nI p)), some (.int (nI v)), some (.int (nI (p / 9))), some (.int (nI 7 - nI (p % 9))), some (.int (mk (ss Z b p v) k)), some (.int (nI k)), u0] [] 131 I R := by
  intro m
  induction m with
  | zero =>
    intro k u0 hk hx
    obtain rfl : k = 4 := by omega
    refine x_iload dX4_sendersOf_21 rfl ?_
    refine x_aload_n dX4_sendersOf_23 rfl rfl ?_
    refine x_getR fl_X4_11 dX4_sendersOf_24 hS.k0 hS.lt0 rfl hS.r0 ?_
    refine x_alen (v := nI 4) dX4_sendersOf_27 hS.k1 ⟨by decide, by decide⟩ (hS.lt (by omega)) (by rw [hS.l1]; rfl) ?_
    refine x_icmp_geN 85 dX4_sendersOf_28 (by decide) (by omega) (by omega) (fun c28 => ?_) (fun c28 => ?_)
    · skip
      exact hx _
    · skip
      exact absurd c28 (by omega)
  | succ m ih =>
    intro k u0 hk hx
    refine x_iload dX4_sendersOf_21 rfl ?_
    refine x_aload_n dX4_sendersOf_23 rfl rfl ?_
    refine x_getR fl_X4_11 dX4_sendersOf_24 hS.k0 hS.lt0 rfl hS.r0 ?_
    refine x_alen (v := nI 4) dX4_sendersOf_27 hS.k1 ⟨by decide, by decide⟩ (hS.lt (by omega)) (by rw [hS.l1]; rfl) ?_
    refine x_icmp_geN 85 dX4_sendersOf_28 (by decide) (by omega) (by omega) (fun c28 => ?_) (fun c28 => ?_)
    · skip
      exact absurd c28 (by omega)
    · skip
      refine x_aload_n dX4_sendersOf_31 rfl rfl ?_
      refine x_getR fl_X4_11 dX4_sendersOf_32 hS.k0 hS.lt0 rfl hS.r0 ?_
      refine x_iload dX4_sendersOf_35 rfl ?_
      refine x_aald (j := k) (c := 10) ⟨by decide, by decide⟩ dX4_sendersOf_37 hS.k1 (hS.lt (by omega)) (nI_pos (by omega)) (nI_clamp (by omega)) (by rw [hS.l1]; omega) (hS.rs (by omega)) ?_
      refine x_iconst (nI 0) dX4_sendersOf_38 (by decide) ?_
      refine x_iload dX4_sendersOf_39 rfl ?_
      refine x_callVd0 (mt' := mX3_part) (sp_part _ _ (hS.sk (by omega)) (j := 0) (by omega) (by omega)) kvX3_part wl_X4_211 (by decide) dX4_sendersOf_41 (hS.ks (by omega)) (hS.lts (by omega)) rfl rfl (Nat.le_of_ble_eq_true rfl) ⟨rfl, rfl⟩ (by decide) ?_
      refine x_iload dX4_sendersOf_44 rfl ?_
      refine x_ishr dX4_sendersOf_46 ?_
      refine x_iconst (nI 1) dX4_sendersOf_47 (by decide) ?_
      refine x_iand dX4_sendersOf_48 ?_
      refine x_istore dX4_sendersOf_49 (by decide) ?_
      refine x_iload dX4_sendersOf_51 rfl ?_
      refine x_iload_n dX4_sendersOf_53 rfl rfl ?_
      refine x_iload dX4_sendersOf_54 rfl ?_
      refine x_callSd0 (mt' := mX4_isIn) (sp_isIn (by omega)) ktX4_isIn wl_X4_203 (by decide) dX4_sendersOf_56 rfl rfl (Nat.le_of_ble_eq_true rfl) ⟨rfl, rfl⟩ (by decide) ?_
      refine' x_dia_if_eq 75 76 dX4_sendersOf_59 (by decide) ?_ ?_ ?_; rotate_left 2
      · intro c59 k59
        refine x_iload dX4_sendersOf_62 rfl ?_
        refine x_iload_n dX4_sendersOf_64 rfl rfl ?_
        refine' x_dia_icmp_ne 75 76 dX4_sendersOf_65 (by decide) ?_ ?_ ?_; rotate_left 2
        · intro c65 k65
          refine x_iconst (nI 1) dX4_sendersOf_68 (by decide) ?_
          refine x_iload dX4_sendersOf_69 rfl ?_
          refine x_ishl dX4_sendersOf_71 ?_
          refine x_goto 76 dX4_sendersOf_72 (by decide) ?_
          exact k65
        · intro c65 k65
          refine x_iconst (nI 0) dX4_sendersOf_75 (by decide) ?_
          exact k65
        exact k59
      · intro c59 k59
        refine x_iconst (nI 0) dX4_sendersOf_75 (by decide) ?_
        exact k59
      refine x_ior dX4_sendersOf_76 ?_
      refine x_eqtop ((congrArg (fun x => mk (ss Z b p v) k ||| x) (ss_step (x := I (o + 7 + 2 * k) (0 * 3 + p / 9) >>> ((nI 7 - nI (p % 9)) &&& 31) &&& nI 1) (fun q => by rw [hJ.pv (by omega) (hb k (by omega) q) (by omega)]; rfl))).trans mk_step) ?_
      refine x_istore dX4_sendersOf_77 (by decide) ?_
      refine x_iincN 1 dX4_sendersOf_79 rfl (by decide) (by decide) ?_
      refine x_goto 21 dX4_sendersOf_82 (by decide) ?_
      exact ih (k + 1) _ (by omega) hx
theorem sp_endingAt {b : Nat → Bool} {p : Nat} (hS : St R o) (hJ : SJ o I Z) (hp : p < 2 ^ 20) (hb : ∀ k, k < 4 → b k = true → ¬ Z k 0 = 0) : Spd mX4_endingAt [.ref o, .int (mk b 4), .int (nI p)] I R (some (.int (mk (en Z b p) 4))) I := by
  refine Spd.mk (by decide +kernel) (by simp [Value.category]) (Nat.le_of_ble_eq_true rfl) (fun g cx => ?_)
  refine x_iconst (nI 0) dX4_endingAt_0 (by decide) ?_
  refine x_istore_n dX4_endingAt_1 rfl (by decide) ?_
  refine x_iconst (nI 0) dX4_endingAt_2 (by decide) ?_
  refine x_istore dX4_endingAt_3 (by decide) ?_
  refine lp_endingAt hS hJ hp hb 4 0 rfl ?_
  refine x_iload_n dX4_endingAt_55 rfl rfl ?_
  refine x_iret dX4_endingAt_56 rfl (by decide) (by decide) ?_
  exact ⟨rfl, rfl, rfl, rfl⟩
theorem sp_sendersOf {b : Nat → Bool} {p v : Nat} (hS : St R o) (hJ : SJ o I Z) (hp : p < 27) (hb : ∀ k, k < 4 → b k = true → ¬ Z k 0 = 0) : Spd mX4_sendersOf [.ref o, .int (mk b 4), .int (nI p), .int (nI v)] I R (some (.int (mk (ss Z b p v) 4))) I := by
  refine Spd.mk (by decide +kernel) (by simp [Value.category]) (Nat.le_of_ble_eq_true rfl) (fun g cx => ?_)
  refine x_iload_n dX4_sendersOf_0 rfl rfl ?_
  refine x_bipush (nI 9) dX4_sendersOf_1 (by decide) ?_
  refine x_idivN dX4_sendersOf_3 (by omega) (by omega) (by omega) ?_
  refine x_istore dX4_sendersOf_4 (by decide) ?_
  refine x_bipush (nI 7) dX4_sendersOf_6 (by decide) ?_
  refine x_iload_n dX4_sendersOf_8 rfl rfl ?_
  refine x_bipush (nI 9) dX4_sendersOf_9 (by decide) ?_
  refine x_iremN dX4_sendersOf_11 (by omega) (by omega) (by omega) ?_
  refine x_isub dX4_sendersOf_12 ?_
  refine x_istore dX4_sendersOf_13 (by decide) ?_
  refine x_iconst (nI 0) dX4_sendersOf_15 (by decide) ?_
  refine x_istore dX4_sendersOf_16 (by decide) ?_
  refine x_iconst (nI 0) dX4_sendersOf_18 (by decide) ?_
  refine x_istore dX4_sendersOf_19 (by decide) ?_
  refine lp_sendersOf hS hJ hp hb 4 0 _ rfl (fun u => ?_)
  refine x_iload dX4_sendersOf_85 rfl ?_
  refine x_iret dX4_sendersOf_87 rfl (by decide) (by decide) ?_
  exact ⟨rfl, rfl, rfl, rfl⟩
theorem sp_partOfTalk (hS : St R o) (hJ : SJ o I Z) {q : Nat} (hq : q < 3) (hT : ∃ j, j < 4 ∧ tk Z j = true) : Spd mX4_partOfTalk [.ref o, .int (nI q)] I R (some (.int (pVal Z (pFi Z) q))) I := by
  refine Spd.mk (by decide +kernel) (by simp [Value.category]) (Nat.le_of_ble_eq_true rfl) (fun g cx => ?_)
  refine x_aload_n dX4_partOfTalk_0 rfl rfl ?_
  refine x_getR fl_X4_11 dX4_partOfTalk_1 hS.k0 hS.lt0 rfl hS.r0 ?_
  refine x_astore_n dX4_partOfTalk_4 rfl (by decide) ?_
  refine x_aload_n dX4_partOfTalk_5 rfl rfl ?_
  refine x_alen (v := nI 4) dX4_partOfTalk_6 hS.k1 ⟨by decide, by decide⟩ (hS.lt (by omega)) (by rw [hS.l1]; rfl) ?_
  refine x_istore_n dX4_partOfTalk_7 rfl (by decide) ?_
  refine x_iconst (nI 0) dX4_partOfTalk_8 (by decide) ?_
  refine x_istore dX4_partOfTalk_9 (by decide) ?_
  have key : ∀ (m k : Nat) (u : Option Value), k + m = 4 → (∀ j, j < k → tk Z j = false) → X g cx mX4_partOfTalk (xF g cx mX4_partOfTalk (fun r n I2 R2 => r = some (.int (pVal Z (pFi Z) q)) ∧ n = 131 ∧ I2 = I ∧ R2 = R)) (0, 0) 11 [some (.ref o), some (.int (nI q)), some (.ref (o + 1)), some (.int (nI 4)), some (.int (nI k)), u] [] 131 I R := ?_
  · exact key 4 0 _ rfl (fun j h => absurd h (Nat.not_lt_zero j))
  intro m
  induction m with
  | zero =>
    intro k u hk hn
    obtain ⟨j, h1, h2⟩ := hT
    rw [hn j (by omega)] at h2
    cases h2
  | succ m ih =>
    intro k u hk hn
    refine x_iload dX4_partOfTalk_11 rfl ?_
    refine x_iload_n dX4_partOfTalk_13 rfl rfl ?_
    refine x_icmp_geN 45 dX4_partOfTalk_14 (by decide) (by omega) (by omega) (fun c14 => ?_) (fun c14 => ?_)
    · skip
      exact absurd c14 (by omega)
    · skip
      refine x_aload_n dX4_partOfTalk_17 rfl rfl ?_
      refine x_iload dX4_partOfTalk_18 rfl ?_
      refine x_aald (j := k) (c := 10) ⟨by decide, by decide⟩ dX4_partOfTalk_20 hS.k1 (hS.lt (by omega)) (nI_pos (by omega)) (nI_clamp (by omega)) (by rw [hS.l1]; omega) (hS.rs (by omega)) ?_
      refine x_astore dX4_partOfTalk_21 (by decide) ?_
      refine x_aload dX4_partOfTalk_23 rfl ?_
      refine x_getI fl_X4_89 dX4_partOfTalk_25 (hS.ks (by omega)) (hS.lts (by omega)) rfl (x_eqtop (y := bi (tk Z _)) ((hJ.sp (w := 1) (by omega) (by omega)).trans (hJ.tb (by omega))) ?_)
      refine x_if_eq 39 dX4_partOfTalk_28 (by decide) (fun c28 => ?_) (fun c28 => ?_)
      · skip
        refine x_iincN 1 dX4_partOfTalk_39 rfl (by decide) (by decide) ?_
        refine x_goto 11 dX4_partOfTalk_42 (by decide) ?_
        exact ih (k + 1) _ (by omega) (fun j hj => by rcases (show j < k ∨ j = k by omega) with h | rfl; exact hn j h; exact bi_0.mp c28)
      · skip
        refine x_aload dX4_partOfTalk_31 rfl ?_
        refine x_iconst (nI 0) dX4_partOfTalk_33 (by decide) ?_
        refine x_iload_n dX4_partOfTalk_34 rfl rfl ?_
        refine x_callVd0 (mt' := mX3_part) (sp_part _ _ (hS.sk (by omega)) (j := 0) (by omega) hq) kvX3_part wl_X4_211 (by decide) dX4_partOfTalk_35 (hS.ks (by omega)) (hS.lts (by omega)) rfl rfl (Nat.le_of_ble_eq_true rfl) ⟨rfl, rfl⟩ (by decide) ?_
        refine x_iret dX4_partOfTalk_38 rfl (by decide) (by decide) ?_
        exact ⟨by rw [pFi_of (by omega) hn (bi_nt c28), hJ.pv (by omega) (hJ.tz (by omega) (bi_nt c28)) hq], rfl, rfl, rfl⟩
theorem sp_listenerWith (hS : St R o) (hJ : SJ o I Z) (a : Int32) : Spd mX4_listenerWith [.ref o, .int a] I R (some (if a = -5 then .null else lref o (pLi Z a))) I := by
  refine Spd.mk (by decide +kernel) (by simp [Value.category]) (Nat.le_of_ble_eq_true rfl) (fun g cx => ?_)
  refine x_aload_n dX4_listenerWith_0 rfl rfl ?_
  refine x_getR fl_X4_19 dX4_listenerWith_1 hS.k0 hS.lt0 rfl hS.r1 ?_
  refine x_astore_n dX4_listenerWith_4 rfl (by decide) ?_
  refine x_aload_n dX4_listenerWith_5 rfl rfl ?_
  refine x_alen (v := nI 4) dX4_listenerWith_6 hS.k2 ⟨by decide, by decide⟩ (hS.lt (by omega)) (by rw [hS.l2]; rfl) ?_
  refine x_istore_n dX4_listenerWith_7 rfl (by decide) ?_
  refine x_iconst (nI 0) dX4_listenerWith_8 (by decide) ?_
  refine x_istore dX4_listenerWith_9 (by decide) ?_
  have key : ∀ (m k : Nat) (u : Option Value), k + m = 4 → (¬ a = -5 → ∀ j, j < k → ¬ Z (4 + j) 0 = a) → X g cx mX4_listenerWith (xF g cx mX4_listenerWith (fun r n I2 R2 => r = some (if a = -5 then .null else lref o (pLi Z a)) ∧ n = 131 ∧ I2 = I ∧ R2 = R)) (0, 0) 11 [some (.ref o), some (.int a), some (.ref (o + 2)), some (.int (nI 4)), some (.int (nI k)), u] [] 131 I R := ?_
  · exact key 4 0 _ rfl (fun _ j h => absurd h (Nat.not_lt_zero j))
  intro m
  induction m with
  | zero =>
    intro k u hk hn
    obtain rfl : k = 4 := by omega
    refine x_iload dX4_listenerWith_11 rfl ?_
    refine x_iload_n dX4_listenerWith_13 rfl rfl ?_
    refine x_icmp_geN 47 dX4_listenerWith_14 (by decide) (by omega) (by omega) (fun c14 => ?_) (fun c14 => ?_)
    · skip
      refine x_null dX4_listenerWith_47 ?_
      refine x_aret dX4_listenerWith_48 rfl (Or.inl ⟨_, rfl⟩) (Or.inl rfl) (by decide) (by decide) ?_
      exact ⟨by by_cases h : a = -5; rw [if_pos h]; rw [if_neg h, pLi_none (hn h)]; rfl, rfl, rfl, rfl⟩
    · skip
      exact absurd c14 (by omega)
  | succ m ih =>
    intro k u hk hn
    refine x_iload dX4_listenerWith_11 rfl ?_
    refine x_iload_n dX4_listenerWith_13 rfl rfl ?_
    refine x_icmp_geN 47 dX4_listenerWith_14 (by decide) (by omega) (by omega) (fun c14 => ?_) (fun c14 => ?_)
    · skip
      exact absurd c14 (by omega)
    · skip
      refine x_aload_n dX4_listenerWith_17 rfl rfl ?_
      refine x_iload dX4_listenerWith_18 rfl ?_
      refine x_aald (j := k) (c := 9) ⟨by decide, by decide⟩ dX4_listenerWith_20 hS.k2 (hS.lt (by omega)) (nI_pos (by omega)) (nI_clamp (by omega)) (by rw [hS.l2]; omega) (hS.rl (by omega)) ?_
      refine x_astore dX4_listenerWith_21 (by decide) ?_
      refine x_iload_n dX4_listenerWith_23 rfl rfl ?_
      refine x_bipush (-5) dX4_listenerWith_24 (by decide) ?_
      refine x_icmp_eq 41 dX4_listenerWith_26 (by decide) (fun c26 => ?_) (fun c26 => ?_)
      · skip
        refine x_iincN 1 dX4_listenerWith_41 rfl (by decide) (by decide) ?_
        refine x_goto 11 dX4_listenerWith_44 (by decide) ?_
        first | exact ih (k + 1) _ (by omega) (fun q => absurd c26 q) | exact ih (k + 1) _ (by omega) (fun q j hj => by rcases (show j < k ∨ j = k by omega) with h | rfl; exact hn q j h; exact c35)
      · skip
        refine x_aload dX4_listenerWith_29 rfl ?_
        refine x_getI fl_X4_103 dX4_listenerWith_31 (hS.kl (by omega)) (hS.ltl (by omega)) rfl (x_eqtop (y := Z (4 + _) 0) (hJ.ls (w := 0) (by omega) (by omega)) ?_)
        refine x_iload_n dX4_listenerWith_34 rfl rfl ?_
        refine x_icmp_ne 41 dX4_listenerWith_35 (by decide) (fun c35 => ?_) (fun c35 => ?_)
        · skip
          refine x_iincN 1 dX4_listenerWith_41 rfl (by decide) (by decide) ?_
          refine x_goto 11 dX4_listenerWith_44 (by decide) ?_
          first | exact ih (k + 1) _ (by omega) (fun q => absurd c26 q) | exact ih (k + 1) _ (by omega) (fun q j hj => by rcases (show j < k ∨ j = k by omega) with h | rfl; exact hn q j h; exact c35)
        · skip
          refine x_aload dX4_listenerWith_38 rfl ?_
          refine x_aret dX4_listenerWith_40 rfl (Or.inl ⟨_, rfl⟩) (Or.inr ⟨_, rfl⟩) (by decide) (by decide) ?_
          exact ⟨by rw [if_neg c26, pLi_some (by omega) (hn c26) c35]; rfl, rfl, rfl, rfl⟩
theorem sp_holdFor (hS : St R o) (hJ : SJ o I Z) {a : Int32} (ha : ¬ a = -5) : Spd mX4_holdFor [.ref o, .int a] I R (some (.int (pHo Z (pLi Z a)))) I := by
  refine Spd.mk (by decide +kernel) (by simp [Value.category]) (Nat.le_of_ble_eq_true rfl) (fun g cx => ?_)
  have hl := sp_listenerWith (R := R) hS hJ a
  rw [if_neg ha] at hl
  cases e : pLi Z a with
  | none =>
    rw [e] at hl
    replace hl : Spd mX4_listenerWith [.ref o, .int a] I R (some .null) I := hl
    refine x_aload_n dX4_holdFor_0 rfl rfl ?_
    refine x_iload_n dX4_holdFor_1 rfl rfl ?_
    refine x_callVd0 (mt' := mX4_listenerWith) (hl) kvX4_listenerWith wl_X4_100 (by decide) dX4_holdFor_2 hS.k0 hS.lt0 rfl rfl (Nat.le_of_ble_eq_true rfl) ⟨rfl, rfl⟩ (by decide) ?_
    refine x_astore_nN dX4_holdFor_5 rfl (by decide) ?_
    refine x_aload_nN dX4_holdFor_6 rfl rfl ?_
    refine x_ifnonnullN dX4_holdFor_7 ?_
    refine x_iconst (nI 0) dX4_holdFor_10 (by decide) ?_
    refine x_goto 18 dX4_holdFor_11 (by decide) ?_
    refine x_iret dX4_holdFor_18 rfl (by decide) (by decide) ?_
    exact ⟨rfl, rfl, rfl, rfl⟩
  | some l =>
    rw [e] at hl
    have hl4 := (pLi_spec e).1
    replace hl : Spd mX4_listenerWith [.ref o, .int a] I R (some (.ref (o + 14 + l))) I := hl
    refine x_aload_n dX4_holdFor_0 rfl rfl ?_
    refine x_iload_n dX4_holdFor_1 rfl rfl ?_
    refine x_callVd0 (mt' := mX4_listenerWith) (hl) kvX4_listenerWith wl_X4_100 (by decide) dX4_holdFor_2 hS.k0 hS.lt0 rfl rfl (Nat.le_of_ble_eq_true rfl) ⟨rfl, rfl⟩ (by decide) ?_
    refine x_astore_n dX4_holdFor_5 rfl (by decide) ?_
    refine x_aload_n dX4_holdFor_6 rfl rfl ?_
    refine x_ifnonnull 14 dX4_holdFor_7 (by decide) ?_
    refine x_aload_n dX4_holdFor_14 rfl rfl ?_
    refine x_getI fl_X4_110 dX4_holdFor_15 (hS.kl (by omega)) (hS.ltl (by omega)) rfl (x_eqtop (y := Z (4 + _) 1) (hJ.ls (w := 1) (by omega) (by omega)) ?_)
    refine x_iret dX4_holdFor_18 rfl (by decide) (by decide) ?_
    exact ⟨rfl, rfl, rfl, rfl⟩
theorem sp_nextTick (hS : St R o) (hJ : SJ o I Z) {p : Nat} (hp : p < 2 ^ 31) (hz : Z 8 7 = nI p) : Spd mX4_nextTick [.ref o] I R (some (.int (nI (pNx Z p)))) I := by
  refine Spd.mk (by decide +kernel) (by simp [Value.category]) (Nat.le_of_ble_eq_true rfl) (fun g cx => ?_)
  have e7 := hz
  refine x_aload_n dX4_nextTick_0 rfl rfl ?_
  refine x_callVd0 (mt' := mX4_stuckListeners) (sp_stuckListeners hS hJ) kvX4_stuckListeners wl_X4_116 (by decide) dX4_nextTick_1 hS.k0 hS.lt0 rfl rfl (Nat.le_of_ble_eq_true rfl) ⟨rfl, rfl⟩ (by decide) ?_
  refine x_if_le 9 dX4_nextTick_4 (by decide) (fun c4 => ?_) (fun c4 => ?_)
  · skip
    refine x_aload_n dX4_nextTick_9 rfl rfl ?_
    refine x_getI fl_X4_59 dX4_nextTick_10 hS.k0 hS.lt0 rfl (x_eqtop (y := Z 8 4) (hJ.sc (by omega) (by omega)) ?_)
    refine x_if_le 18 dX4_nextTick_13 (by decide) (fun c13 => ?_) (fun c13 => ?_)
    · skip
      refine x_aload_n dX4_nextTick_18 rfl rfl ?_
      refine x_callVd0 (mt' := mX4_talkers) (sp_talkers hS hJ) kvX4_talkers wl_X4_129 (by decide) dX4_nextTick_19 hS.k0 hS.lt0 rfl rfl (Nat.le_of_ble_eq_true rfl) ⟨rfl, rfl⟩ (by decide) ?_
      refine x_if_ne 27 dX4_nextTick_22 (by decide) (fun c22 => ?_) (fun c22 => ?_)
      · skip
        refine x_aload_n dX4_nextTick_27 rfl rfl ?_
        refine x_getI fl_X4_56 dX4_nextTick_28 hS.k0 hS.lt0 rfl (x_eqtop (y := Z 8 7) (hJ.sc (by omega) (by omega)) ?_)
        rw [hz]
        refine x_callSNd0 (mt' := mX5_isPlace) (sp_isPlace (by omega)) ktX5_isPlace wl_X4_132 (by decide) dX4_nextTick_31 rfl rfl (Nat.le_of_ble_eq_true rfl) ⟨rfl, rfl⟩ (by decide) ?_
        refine x_if_eq 41 dX4_nextTick_34 (by decide) (fun c34 => ?_) (fun c34 => ?_)
        · skip
          refine x_iconst (nI 1) dX4_nextTick_41 (by decide) ?_
          refine x_iret dX4_nextTick_42 rfl (by decide) (by decide) ?_
          exact ⟨by
            unfold pNx
            first
            | rw [if_pos (fun q => c4 (by rw [q]; decide))]
            | rw [if_neg (fun q => q ((nI_le0 (by have := cn_le (stu Z) 4; omega)).mp c4)), if_pos (Int32.not_le.mp c13)]
            | rw [if_neg (fun q => q ((nI_le0 (by have := cn_le (stu Z) 4; omega)).mp c4)), if_neg (fun q => Int32.not_lt.mpr c13 q), if_pos ((mk_cn _).mp c22)]
            | rw [if_neg (fun q => q ((nI_le0 (by have := cn_le (stu Z) 4; omega)).mp c4)), if_neg (fun q => Int32.not_lt.mpr c13 q), if_neg (fun q => c22 ((mk_cn _).mpr q)), if_neg (by have := bi_0.mp c34; simpa using this)]
            | rw [if_neg (fun q => q ((nI_le0 (by have := cn_le (stu Z) 4; omega)).mp c4)), if_neg (fun q => Int32.not_lt.mpr c13 q), if_neg (fun q => c22 ((mk_cn _).mpr q)), if_pos (by have := bi_nt c34; simpa using this)], rfl, rfl, rfl⟩
        · skip
          refine x_iconst (nI 2) dX4_nextTick_37 (by decide) ?_
          refine x_goto 42 dX4_nextTick_38 (by decide) ?_
          refine x_iret dX4_nextTick_42 rfl (by decide) (by decide) ?_
          exact ⟨by
            unfold pNx
            first
            | rw [if_pos (fun q => c4 (by rw [q]; decide))]
            | rw [if_neg (fun q => q ((nI_le0 (by have := cn_le (stu Z) 4; omega)).mp c4)), if_pos (Int32.not_le.mp c13)]
            | rw [if_neg (fun q => q ((nI_le0 (by have := cn_le (stu Z) 4; omega)).mp c4)), if_neg (fun q => Int32.not_lt.mpr c13 q), if_pos ((mk_cn _).mp c22)]
            | rw [if_neg (fun q => q ((nI_le0 (by have := cn_le (stu Z) 4; omega)).mp c4)), if_neg (fun q => Int32.not_lt.mpr c13 q), if_neg (fun q => c22 ((mk_cn _).mpr q)), if_neg (by have := bi_0.mp c34; simpa using this)]
            | rw [if_neg (fun q => q ((nI_le0 (by have := cn_le (stu Z) 4; omega)).mp c4)), if_neg (fun q => Int32.not_lt.mpr c13 q), if_neg (fun q => c22 ((mk_cn _).mpr q)), if_pos (by have := bi_nt c34; simpa using this)], rfl, rfl, rfl⟩
      · skip
        refine x_iconst (nI 0) dX4_nextTick_25 (by decide) ?_
        refine x_iret dX4_nextTick_26 rfl (by decide) (by decide) ?_
        exact ⟨by
          unfold pNx
          first
          | rw [if_pos (fun q => c4 (by rw [q]; decide))]
          | rw [if_neg (fun q => q ((nI_le0 (by have := cn_le (stu Z) 4; omega)).mp c4)), if_pos (Int32.not_le.mp c13)]
          | rw [if_neg (fun q => q ((nI_le0 (by have := cn_le (stu Z) 4; omega)).mp c4)), if_neg (fun q => Int32.not_lt.mpr c13 q), if_pos ((mk_cn _).mp c22)]
          | rw [if_neg (fun q => q ((nI_le0 (by have := cn_le (stu Z) 4; omega)).mp c4)), if_neg (fun q => Int32.not_lt.mpr c13 q), if_neg (fun q => c22 ((mk_cn _).mpr q)), if_neg (by have := bi_0.mp c34; simpa using this)]
          | rw [if_neg (fun q => q ((nI_le0 (by have := cn_le (stu Z) 4; omega)).mp c4)), if_neg (fun q => Int32.not_lt.mpr c13 q), if_neg (fun q => c22 ((mk_cn _).mpr q)), if_pos (by have := bi_nt c34; simpa using this)], rfl, rfl, rfl⟩
    · skip
      refine x_iconst (nI 3) dX4_nextTick_16 (by decide) ?_
      refine x_iret dX4_nextTick_17 rfl (by decide) (by decide) ?_
      exact ⟨by
        unfold pNx
        first
        | rw [if_pos (fun q => c4 (by rw [q]; decide))]
        | rw [if_neg (fun q => q ((nI_le0 (by have := cn_le (stu Z) 4; omega)).mp c4)), if_pos (Int32.not_le.mp c13)]
        | rw [if_neg (fun q => q ((nI_le0 (by have := cn_le (stu Z) 4; omega)).mp c4)), if_neg (fun q => Int32.not_lt.mpr c13 q), if_pos ((mk_cn _).mp c22)]
        | rw [if_neg (fun q => q ((nI_le0 (by have := cn_le (stu Z) 4; omega)).mp c4)), if_neg (fun q => Int32.not_lt.mpr c13 q), if_neg (fun q => c22 ((mk_cn _).mpr q)), if_neg (by have := bi_0.mp c34; simpa using this)]
        | rw [if_neg (fun q => q ((nI_le0 (by have := cn_le (stu Z) 4; omega)).mp c4)), if_neg (fun q => Int32.not_lt.mpr c13 q), if_neg (fun q => c22 ((mk_cn _).mpr q)), if_pos (by have := bi_nt c34; simpa using this)], rfl, rfl, rfl⟩
  · skip
    refine x_iconst (nI 4) dX4_nextTick_7 (by decide) ?_
    refine x_iret dX4_nextTick_8 rfl (by decide) (by decide) ?_
    exact ⟨by
      unfold pNx
      first
      | rw [if_pos (fun q => c4 (by rw [q]; decide))]
      | rw [if_neg (fun q => q ((nI_le0 (by have := cn_le (stu Z) 4; omega)).mp c4)), if_pos (Int32.not_le.mp c13)]
      | rw [if_neg (fun q => q ((nI_le0 (by have := cn_le (stu Z) 4; omega)).mp c4)), if_neg (fun q => Int32.not_lt.mpr c13 q), if_pos ((mk_cn _).mp c22)]
      | rw [if_neg (fun q => q ((nI_le0 (by have := cn_le (stu Z) 4; omega)).mp c4)), if_neg (fun q => Int32.not_lt.mpr c13 q), if_neg (fun q => c22 ((mk_cn _).mpr q)), if_neg (by have := bi_0.mp c34; simpa using this)]
      | rw [if_neg (fun q => q ((nI_le0 (by have := cn_le (stu Z) 4; omega)).mp c4)), if_neg (fun q => Int32.not_lt.mpr c13 q), if_neg (fun q => c22 ((mk_cn _).mpr q)), if_pos (by have := bi_nt c34; simpa using this)], rfl, rfl, rfl⟩
end CL
