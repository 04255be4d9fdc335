
/-! both objects made *)
-/
def MDn (b : Nat) (I : MI) (R : MR) : Prop := ∀ o, Ost o → o < b → St R o ∧ SJ o I Zi
theorem MDn_step {b : Nat} {I I' : MI} {R R' : MR} (hO : Ost b) (h : MDn b I R) (hL : Lo b I I' R R') (hS : St R' b) (hJ : SJ b I' Zi) : MDn (b + 1) I' R' := by
  intro o ho hlt
  by_cases e : o = b
  · subst e; exact ⟨hS, hJ⟩
  · have hap := Ost_ap ho hO e
    obtain ⟨q1, q2⟩ := h o ho (by omega)
    refine ⟨⟨q1.1, ⟨by rw [(hL _ (by omega)).2]; exact q1.2.1.1, by rw [(hL _ (by omega)).2]; exact q1.2.1.2.1, by rw [(hL _ (by omega)).2]; exact q1.2.1.2.2.1, by rw [(hL _ (by omega)).2]; exact q1.2.1.2.2.2.1, by rw [(hL _ (by omega)).2]; exact q1.2.1.2.2.2.2⟩, fun k hk => ⟨by rw [(hL _ (by omega)).2]; exact (q1.2.2 k hk).1, by rw [(hL _ (by omega)).2]; exact (q1.2.2 k hk).2.1, by rw [(hL _ (by omega)).2]; exact (q1.2.2 k hk).2.2⟩⟩, q2.cg (fun a h1 h2 => (hL a (by omega)).1) (fun _ _ => rfl)⟩
theorem MDn_cg {b : Nat} {I I' : MI} {R R' : MR} (h : MDn b I R) (hI : ∀ a, a ≠ 0 → a ≠ 37 → a ≠ 38 → I' a = I a) (hR : ∀ a, a ≠ 0 → a ≠ 37 → a ≠ 38 → R' a = R a) : MDn b I' R' := by
  intro o ho hlt
  obtain ⟨q1, q2⟩ := h o ho hlt
  have hk : ∀ o ∈ [1, 19, 41, 59, 77, 95, 113], 1 ≤ o ∧ (o + 18 ≤ 37 ∨ 41 ≤ o) := by decide
  have hk' := hk o ho
  have er : ∀ a, o ≤ a → a < o + 18 → R' a = R a := fun a h1 h2 => hR a (by omega) (by omega) (by omega)
  refine ⟨⟨q1.1, ⟨by rw [er _ (by omega) (by omega)]; exact q1.2.1.1, by rw [er _ (by omega) (by omega)]; exact q1.2.1.2.1, by rw [er _ (by omega) (by omega)]; exact q1.2.1.2.2.1, by rw [er _ (by omega) (by omega)]; exact q1.2.1.2.2.2.1, by rw [er _ (by omega) (by omega)]; exact q1.2.1.2.2.2.2⟩, fun k hk => ⟨by rw [er _ (by omega) (by omega)]; exact (q1.2.2 k hk).1, by rw [er _ (by omega) (by omega)]; exact (q1.2.2 k hk).2.1, by rw [er _ (by omega) (by omega)]; exact (q1.2.2 k hk).2.2⟩⟩, q2.cg (fun a h1 h2 => hI a (by omega) (by omega) (by omega)) (fun _ _ => rfl)⟩
theorem MDn_to {b c : Nat} {I : MI} {R : MR} (h : MDn b I R) (hb : ∀ o ∈ [1, 19, 41, 59, 77, 95, 113], o < c → o < b) : MDn c I R := fun o ho hlt => h o ho (hb o ho hlt)
def F0s (R : MR) : Prop := R 0 0 = some 1 ∧ R 0 1 = some 19 ∧ R 0 2 = some 37 ∧ R 0 3 = some 38 ∧ R 0 4 = some 41
def I0s (I : MI) : Prop := I 0 5 = 0 ∧ I 0 6 = 0 ∧ I 0 7 = -5 ∧ I 0 8 = -5 ∧ I 38 2 = 0
def IN5 (i : Nat) (I : MI) (R : MR) : Prop := MDn (59 + 18 * i) I R ∧ Bl I R (59 + 18 * i) ∧ F0s R ∧ (R 38 0 = some 39 ∧ R 38 1 = some 40) ∧ (∀ k, k < i → R 37 k = some (59 + 18 * k)) ∧ I0s I
def Q5 : XQ := fun r n' I' R' => r = none ∧ n' = 131 ∧ IN5 4 I' R'
theorem Ost_i {i : Nat} (hi : i < 4) : Ost (59 + 18 * i) := by
  have key : ∀ i, i < 4 → (59 + 18 * i) ∈ [1, 19, 41, 59, 77, 95, 113] := by decide
  exact key i hi
section CL
theorem lp_i5 {g : GX} {cx : CX} : ∀ (m i : Nat) (I : MI) (R : MR), i + m = 4 → IN5 i I R → X g cx nX5_init (xF g cx nX5_init Q5) (58 + 18 * i, 1272 + 393 * i) 70 [some (.ref 0), some (.int (nI i))] [] (59 + 18 * i) I R := by
  intro m
  induction m with
  | zero =>
    intro i I R him hi
    obtain rfl : i = 4 := by omega
    refine x_iload_n dX5_init_70 rfl rfl ?_
    refine x_aload_n dX5_init_71 rfl rfl ?_
    refine x_getR (j := 37) fl_X5_19 dX5_init_72 xk_0 (by omega) rfl hi.2.2.1.2.2.1 ?_
    refine x_alen (v := nI 4) dX5_init_75 xk_37 ⟨by decide, by decide⟩ (by omega) (by rw [xl_37]; rfl) ?_
    refine x_icmp_geN 98 dX5_init_76 (by decide) (by omega) (by omega) (fun c76 => ?_) (fun c76 => ?_)
    · skip
      refine x_vret dX5_init_98 rfl (by decide) (by decide) ?_
      exact ⟨rfl, rfl, hi⟩
    · skip
      exact absurd c76 (by omega)
  | succ m ih =>
    intro i I R him hi
    have hO := Ost_i (show i < 4 by omega)
    obtain ⟨hm, hB, hf, h38, h37, h0⟩ := id hi
    have hin := sp_init4 (I0 := I) (R0 := R) hO (hB.mono (by omega)) (fun k => (hB _ (Nat.le_refl _) k).1)
    have hnx : ∀ I' R', Lo (59 + 18 * i) I I' R R' → Bl I' R' (59 + 18 * i + 18) → St R' (59 + 18 * i) → SJ (59 + 18 * i) I' Zi → IN5 (i + 1) I' (xuR R' 37 i (some (59 + 18 * i))) := by
      intro I' R' hL hB' hS hJ
      refine ⟨?_, ?_, ⟨?_, ?_, ?_, ?_, ?_⟩, ⟨?_, ?_⟩, fun k hk => ?_, ⟨?_, ?_, ?_, ?_, ?_⟩⟩
      · refine MDn_to (MDn_cg (MDn_step hO hm hL hS hJ) (fun a _ _ _ => rfl) (fun a _ h _ => xuR_ne h)) ?_
        have key : ∀ i, i < 4 → ∀ o ∈ [1, 19, 41, 59, 77, 95, 113], o < 59 + 18 * (i + 1) → o < 59 + 18 * i + 1 := by decide
        exact key i (by omega)
      · exact (hB'.mono (by omega)).uR (by omega)
      · rw [xuR_ne (by omega), (hL 0 (by omega)).2]; exact hf.1
      · rw [xuR_ne (by omega), (hL 0 (by omega)).2]; exact hf.2.1
      · rw [xuR_ne (by omega), (hL 0 (by omega)).2]; exact hf.2.2.1
      · rw [xuR_ne (by omega), (hL 0 (by omega)).2]; exact hf.2.2.2.1
      · rw [xuR_ne (by omega), (hL 0 (by omega)).2]; exact hf.2.2.2.2
      · rw [xuR_ne (by omega), (hL 38 (by omega)).2]; exact h38.1
      · rw [xuR_ne (by omega), (hL 38 (by omega)).2]; exact h38.2
      · by_cases e : k = i
        · subst e; exact xuR_self
        · rw [xuR_at (by omega), (hL 37 (by omega)).2]; exact h37 k (by omega)
      · rw [(hL 0 (by omega)).1]; exact h0.1
      · rw [(hL 0 (by omega)).1]; exact h0.2.1
      · rw [(hL 0 (by omega)).1]; exact h0.2.2.1
      · rw [(hL 0 (by omega)).1]; exact h0.2.2.2.1
      · rw [(hL 38 (by omega)).1]; exact h0.2.2.2.2
    refine x_iload_n dX5_init_70 rfl rfl ?_
    refine x_aload_n dX5_init_71 rfl rfl ?_
    refine x_getR (j := 37) fl_X5_19 dX5_init_72 xk_0 (by omega) rfl hi.2.2.1.2.2.1 ?_
    refine x_alen (v := nI 4) dX5_init_75 xk_37 ⟨by decide, by decide⟩ (by omega) (by rw [xl_37]; rfl) ?_
    refine x_icmp_geN 98 dX5_init_76 (by decide) (by omega) (by omega) (fun c76 => ?_) (fun c76 => ?_)
    · skip
      exact absurd c76 (by omega)
    · skip
      refine x_aload_n dX5_init_79 rfl rfl ?_
      refine x_getR (j := 37) fl_X5_19 dX5_init_80 xk_0 (by omega) rfl hi.2.2.1.2.2.1 ?_
      refine x_iload_n dX5_init_83 rfl rfl ?_
      refine x_new4 wk_X5_7 (Ost_k hO).1 (by omega) hB.at (by show 58 + 18 * i + 1 ≤ 130; omega) (by show 1272 + 393 * i + 11 ≤ 2844; omega) dX5_init_84 ?_
      refine x_dup dX5_init_87 rfl ?_
      refine x_callI (mt' := nX4_init) hin kiX4_init wl_X5_9 (by decide) dX5_init_88 rfl rfl (Nat.le_of_ble_eq_true rfl) (fun r n' I' R' h => ?_) ⟨by show 58 + 18 * i + 1 + 17 ≤ 130; omega, by show 1272 + 393 * i + 11 + 382 ≤ 2844; omega⟩
      obtain ⟨rfl, rfl, hL, hB', hS, hJ⟩ := h
      refine x_aast (j := i) (Or.inr (Or.inr ⟨rfl, rfl, rfl⟩)) dX5_init_91 xk_37 (by omega) (nI_pos (by omega)) (nI_clamp (by omega)) (by rw [xl_37]; omega) (Ost_k hO).1 (by omega) ?_
      refine x_iincN 1 dX5_init_92 rfl (by decide) (by decide) ?_
      refine x_goto 70 dX5_init_95 (by decide) ?_
      refine x_eqcs (cs' := (58 + 18 * (i + 1), 1272 + 393 * (i + 1))) (by show 58 + 18 * i + 1 + 17 = _; omega) (by show 1272 + 393 * i + 11 + 382 = _; omega) ?_
      refine x_eqn (n' := 59 + 18 * (i + 1)) (by omega) ?_
      exact ih (i + 1) _ _ (by omega) (hnx _ _ hL hB' hS hJ)
theorem sp_init5 {I : MI} {R : MR} (hB : Bl I R 1) (hI : ∀ k, I 0 k = 0) : Sp nX5_init [.ref 0] 1 I R Q5 := by
  refine Sp.mk (by decide +kernel) (by simp [Value.category]) (Nat.le_of_ble_eq_true rfl) (fun g cx => ?_)
  have O1 : Ost 1 := by unfold Ost; decide
  have O19 : Ost 19 := by unfold Ost; decide
  have O41 : Ost 41 := by unfold Ost; decide
  have hin1 := sp_init4 (I0 := I) (R0 := R) (o := 1) O1 (hB.mono (by omega)) (fun k => (hB _ (Nat.le_refl _) k).1)
  have m0 : MDn 1 I R := fun o ho hlt => by
    have key : ∀ o ∈ [1, 19, 41, 59, 77, 95, 113], ¬ o < 1 := by decide
    exact absurd hlt (key o ho)
  refine x_aload_n dX5_init_0 rfl rfl ?_
  refine x_objInit wl_X5_1 wi_OBJ wc_OBJ dX5_init_1 (by decide) (by decide) (by decide) ?_
  refine x_aload_n dX5_init_4 rfl rfl ?_
  refine x_new4 wk_X5_7 (by decide +kernel) (by omega) hB.at (by decide) (by decide) dX5_init_5 ?_
  refine x_dup dX5_init_8 rfl ?_
  refine x_callI (mt' := nX4_init) hin1 kiX4_init wl_X5_9 (by decide) dX5_init_9 rfl rfl (Nat.le_of_ble_eq_true rfl) (fun r1 n1 J1 Q1 h => ?_)
  obtain ⟨rfl, rfl, hL1, hB1, hS1, hJ1⟩ := h
  refine x_eqn (n' := 19) (by omega) ?_
  refine x_putF (v := .ref (1)) (R' := xuR _ (0) 0 (some (1))) fl_X5_10 fp_5_0 rfl rfl dX5_init_12 xk_0 (by omega) rfl rfl (fun _ _ => rfl) (fun _ h => xuR_ne h) (xval_uR rfl) ?_
  skip
  have m1 : MDn 19 J1 (xuR Q1 0 0 (some 1)) := MDn_to (MDn_cg (MDn_step O1 m0 hL1 hS1 hJ1) (fun a _ _ _ => rfl) (fun a h _ _ => xuR_ne h)) (by decide)
  have b1 : Bl J1 (xuR Q1 0 0 (some 1)) 19 := hB1.uR (by omega)
  have z1 : ∀ k, J1 0 k = 0 := fun k => by rw [(hL1 0 (by omega)).1]; exact hI k
  have r10 : (xuR Q1 0 0 (some 1)) 0 0 = some 1 := xuR_self
  clear hL1 hB1 hS1 hJ1 m0 hin1
  generalize xuR Q1 0 0 (some 1) = R1 at m1 b1 r10 ⊢
  have hin2 := sp_init4 (I0 := J1) (R0 := R1) (o := 19) O19 (b1.mono (by omega)) (fun k => (b1 _ (Nat.le_refl _) k).1)
  refine x_aload_n dX5_init_15 rfl rfl ?_
  refine x_new4 wk_X5_7 (by decide +kernel) (by omega) b1.at (by decide) (by decide) dX5_init_16 ?_
  refine x_dup dX5_init_19 rfl ?_
  refine x_callI (mt' := nX4_init) hin2 kiX4_init wl_X5_9 (by decide) dX5_init_20 rfl rfl (Nat.le_of_ble_eq_true rfl) (fun r2 n2 J2 Q2 h => ?_)
  obtain ⟨rfl, rfl, hL2, hB2, hS2, hJ2⟩ := h
  refine x_eqn (n' := 37) (by omega) ?_
  refine x_putF (v := .ref (19)) (R' := xuR _ (0) 1 (some (19))) fl_X5_16 fp_5_1 rfl rfl dX5_init_23 xk_0 (by omega) rfl rfl (fun _ _ => rfl) (fun _ h => xuR_ne h) (xval_uR rfl) ?_
  skip
  have m2 : MDn 41 J2 (xuR Q2 0 1 (some 19)) := MDn_to (MDn_cg (MDn_step O19 m1 hL2 hS2 hJ2) (fun a _ _ _ => rfl) (fun a h _ _ => xuR_ne h)) (by decide)
  have b2 : Bl J2 (xuR Q2 0 1 (some 19)) 37 := hB2.uR (by omega)
  have z2 : ∀ k, J2 0 k = 0 := fun k => by rw [(hL2 0 (by omega)).1]; exact z1 k
  have r20 : (xuR Q2 0 1 (some 19)) 0 0 = some 1 := by rw [xuR_at (by omega), (hL2 0 (by omega)).2]; exact r10
  have r21 : (xuR Q2 0 1 (some 19)) 0 1 = some 19 := xuR_self
  clear hL2 hB2 hS2 hJ2 m1 hin2 b1 z1 r10
  generalize xuR Q2 0 1 (some 19) = R2 at m2 b2 r20 r21 ⊢
  have b3 : Bl J2 (xuR R2 0 2 (some 37)) 38 := (b2.mono (by omega)).uR (by omega)
  have hin3 := sp_init2 (I := J2) (R := xuR R2 0 2 (some 37)) (o := 38) (by decide +kernel) (by decide +kernel) (by decide +kernel) (by decide +kernel) (by decide +kernel) (by decide) (b3.mono (by omega))
  refine x_aload_n dX5_init_26 rfl rfl ?_
  refine x_iconst (nI 4) dX5_init_27 (by decide) ?_
  refine x_anewa (N := 4) (Or.inr (Or.inr ⟨rfl, rfl, rfl⟩)) wk_X5_7 xk_37 xl_37 (by omega) b2.at (by decide) (by decide) (by decide) (by decide) (by decide) dX5_init_28 ?_
  refine x_putF (v := .ref (37)) (R' := xuR _ (0) 2 (some (37))) fl_X5_19 fp_5_2 rfl rfl dX5_init_31 xk_0 (by omega) rfl rfl (fun _ _ => rfl) (fun _ h => xuR_ne h) (xval_uR rfl) ?_
  refine x_aload_n dX5_init_34 rfl rfl ?_
  refine x_new2 wk_X5_23 xk_38 (by omega) b3.at (by decide) (by decide) dX5_init_35 ?_
  refine x_dup dX5_init_38 rfl ?_
  refine x_callIN (mt' := nX2_init) hin3 kiX2_init wl_X5_25 (by decide) dX5_init_39 rfl rfl (Nat.le_of_ble_eq_true rfl) (fun r5 n5 J5 Q5' h => ?_)
  obtain ⟨rfl, rfl, rfl, rfl⟩ := h
  refine x_eqn (n' := 41) (by omega) ?_
  refine x_putF (v := .ref (38)) (R' := xuR _ (0) 3 (some (38))) fl_X5_26 fp_5_3 rfl rfl dX5_init_42 xk_0 (by omega) rfl rfl (fun _ _ => rfl) (fun _ h => xuR_ne h) (xval_uR rfl) ?_
  skip
  obtain ⟨R3, hR3⟩ : ∃ R3, xuR (xuR (xuR (xuR R2 0 2 (some 37)) 38 0 (some (38 + 1))) 38 1 (some (38 + 2))) 0 3 (some 38) = R3 := ⟨_, rfl⟩
  obtain ⟨I3, hI3⟩ : ∃ I3, xuI J2 38 4 (-1) = I3 := ⟨_, rfl⟩
  have ra : ∀ a, a ≠ 0 → a ≠ 38 → R3 a = R2 a := fun a h1 h2 => by rw [← hR3, xuR_ne h1, xuR_ne h2, xuR_ne h2, xuR_ne h1]
  have m3 : MDn 41 I3 R3 := MDn_cg m2 (fun a _ _ h => by rw [← hI3, xuI_row h]) (fun a h1 _ h2 => ra a h1 h2)
  have b4 : Bl I3 R3 41 := by
    rw [← hR3, ← hI3]
    exact (((((b2.mono (by omega)).uI (by omega)).uR (by omega)).uR (by omega)).uR (by omega)).uR (by omega)
  have z3 : ∀ k, I3 0 k = 0 := fun k => by rw [← hI3, xuI_row (by omega)]; exact z2 k
  have z38 : I3 38 2 = 0 := by rw [← hI3, xuI_col (by omega)]; exact (b2 38 (by omega) 2).1
  have r30 : R3 0 0 = some 1 := by rw [← hR3, xuR_at (by omega), xuR_ne (by omega), xuR_ne (by omega), xuR_at (by omega)]; exact r20
  have r31 : R3 0 1 = some 19 := by rw [← hR3, xuR_at (by omega), xuR_ne (by omega), xuR_ne (by omega), xuR_at (by omega)]; exact r21
  have r32 : R3 0 2 = some 37 := by rw [← hR3, xuR_at (by omega), xuR_ne (by omega), xuR_ne (by omega)]; exact xuR_self
  have r33 : R3 0 3 = some 38 := by rw [← hR3]; exact xuR_self
  have r380 : R3 38 0 = some 39 := by rw [← hR3, xuR_ne (by omega), xuR_at (by omega)]; exact xuR_self
  have r381 : R3 38 1 = some 40 := by rw [← hR3, xuR_ne (by omega)]; exact xuR_self
  rw [hR3, hI3]
  clear hR3 hI3 ra b2 b3 m2 z2 r20 r21 hin3
  have hin4 := sp_init4 (I0 := I3) (R0 := R3) (o := 41) O41 (b4.mono (by omega)) (fun k => (b4 _ (Nat.le_refl _) k).1)
  refine x_aload_n dX5_init_45 rfl rfl ?_
  refine x_new4 wk_X5_7 (by decide +kernel) (by omega) b4.at (by decide) (by decide) dX5_init_46 ?_
  refine x_dup dX5_init_49 rfl ?_
  refine x_callI (mt' := nX4_init) hin4 kiX4_init wl_X5_9 (by decide) dX5_init_50 rfl rfl (Nat.le_of_ble_eq_true rfl) (fun r4 n4 J4 Q4 h => ?_)
  obtain ⟨rfl, rfl, hL4, hB4, hS4, hJ4⟩ := h
  refine x_eqn (n' := 59) (by omega) ?_
  refine x_putR fl_X5_30 fp_5_4 dX5_init_53 xk_0 (by omega) rfl (fun _ => rfl) (fun _ => rfl) ?_
  refine x_aload_n dX5_init_56 rfl rfl ?_
  refine x_bipush (-5) dX5_init_57 (by decide) ?_
  refine x_putI fl_X5_33 fp_5_7 dX5_init_59 xk_0 (by omega) rfl rfl rfl ?_
  refine x_aload_n dX5_init_62 rfl rfl ?_
  refine x_bipush (-5) dX5_init_63 (by decide) ?_
  refine x_putI fl_X5_37 fp_5_8 dX5_init_65 xk_0 (by omega) rfl rfl rfl ?_
  refine x_iconst (nI 0) dX5_init_68 (by decide) ?_
  refine x_istore_n dX5_init_69 rfl (by decide) ?_
  skip
  refine lp_i5 4 0 _ _ rfl ⟨?_, ?_, ⟨?_, ?_, ?_, ?_, ?_⟩, ⟨?_, ?_⟩, fun k hk => absurd hk (by omega), ⟨?_, ?_, ?_, ?_, ?_⟩⟩
  · exact MDn_to (MDn_cg (MDn_step O41 m3 hL4 hS4 hJ4) (fun a h _ _ => by rw [xuI_row h, xuI_row h]) (fun a h _ _ => xuR_ne h)) (by decide)
  · exact ((hB4.uR (by omega)).uI (by omega)).uI (by omega)
  · rw [xuR_at (by omega), (hL4 0 (by omega)).2]; exact r30
  · rw [xuR_at (by omega), (hL4 0 (by omega)).2]; exact r31
  · rw [xuR_at (by omega), (hL4 0 (by omega)).2]; exact r32
  · rw [xuR_at (by omega), (hL4 0 (by omega)).2]; exact r33
  · exact xuR_self
  · rw [xuR_at (by omega), (hL4 38 (by omega)).2]; exact r380
  · rw [xuR_at (by omega), (hL4 38 (by omega)).2]; exact r381
  · rw [xuI_col (by omega), xuI_col (by omega), (hL4 0 (by omega)).1]; exact z3 5
  · rw [xuI_col (by omega), xuI_col (by omega), (hL4 0 (by omega)).1]; exact z3 6
  · rw [xuI_col (by omega)]; exact xuI_self
  · exact xuI_self
  · rw [xuI_row (by omega), xuI_row (by omega), (hL4 38 (by omega)).1]; exact z38
/-- the reference's row as it begins -/
def sK (k : Nat) : Nat → Int32 := fun i => if i < 2 then 2 else if i = 2 then 10 else if 92 ≤ i ∧ i < 92 + 5 * k ∧ ((i - 92) % 5 = 0 ∨ (i - 92) % 5 = 4) then -5 else 0
theorem sK_s {k : Nat} : upd (upd (sK k) (92 + 5 * k + 0) (-5)) (92 + 5 * k + 4) (-5) = sK (k + 1) := by
  funext i
  by_cases h4 : i = 92 + 5 * k + 4
  · rw [h4, upd_self]
    unfold sK
    rw [if_neg (by omega), if_neg (by omega), if_pos (by omega)]
  · rw [upd_ne h4]
    by_cases h0 : i = 92 + 5 * k + 0
    · rw [h0, upd_self]
      unfold sK
      rw [if_neg (by omega), if_neg (by omega), if_pos (by omega)]
    · rw [upd_ne h0]
      unfold sK
      by_cases c1 : i < 2
      · rw [if_pos c1, if_pos c1]
      · rw [if_neg c1, if_neg c1]
        by_cases c2 : i = 2
        · rw [if_pos c2, if_pos c2]
        · rw [if_neg c2, if_neg c2]
          by_cases c3 : 92 ≤ i ∧ i < 92 + 5 * k ∧ ((i - 92) % 5 = 0 ∨ (i - 92) % 5 = 4)
          · rw [if_pos c3, if_pos (by omega)]
          · rw [if_neg c3, if_neg (by omega)]
def R6 (R : MR) : MR := xuR (xuR (xuR (xuR (xuR R 131 0 (some 132)) 131 1 (some 133)) 131 2 (some 134)) 131 4 (some 135)) 131 6 (some 136)
def Q6 (I : MI) (R : MR) : XQ := fun r n' I' R' => r = none ∧ n' = 131 ∧ I' = rw1 (xuI I 131 8 (-5)) 132 (sK 4) ∧ R' = R6 R
end CL
