
/-! a state made *)
-/
def Zi : MI := fun a w => if 4 ≤ a ∧ a < 8 ∧ (w = 0 ∨ w = 4) then -5 else if a = 8 ∧ w < 3 then (if w = 2 then 10 else 2) else 0
theorem Zi_sp {k w : Nat} (hk : k < 4) : Zi k w = 0 := by unfold Zi; rw [if_neg (by omega), if_neg (by omega)]
theorem Zi_ls {k w : Nat} (hk : k < 4) : Zi (4 + k) w = if w = 0 ∨ w = 4 then -5 else 0 := by
  unfold Zi
  by_cases q : w = 0 ∨ w = 4
  · rw [if_pos ⟨by omega, by omega, q⟩, if_pos q]
  · rw [if_neg (fun z => q z.2.2), if_neg (by omega), if_neg q]
theorem Zi_8 {w : Nat} (hw : ¬ w < 3) : Zi 8 w = 0 := by unfold Zi; rw [if_neg (by omega), if_neg (by omega)]
theorem Zi_s {w : Nat} (hw : w < 3) : Zi 8 w = if w = 2 then 10 else 2 := by unfold Zi; rw [if_neg (by omega), if_pos ⟨rfl, hw⟩]
theorem Zi_9 {w : Nat} : Zi 9 w = 0 := by unfold Zi; rw [if_neg (by omega), if_neg (by omega)]
theorem LV_Zi : LV Zi := by
  have ht : ∀ k, k < 4 → tk Zi k = false := fun k hk => by unfold tk; rw [Zi_sp hk]; decide
  have hc : cn (tk Zi) 4 = 0 := by rw [cn_congr (q := fun _ => false) ht]; rfl
  refine ⟨⟨⟨0, by omega, Zi_8 (by omega), fun k hk q => ?_, fun _ => rfl⟩, fun q => absurd hc q, ⟨0, by omega, Zi_8 (by omega)⟩, fun k hk => ⟨0, by omega, by rw [Zi_ls hk, if_neg (by omega)]; rfl⟩⟩, 0, by omega, Zi_8 (by omega)⟩
  rw [ht k hk] at q
  cases q
theorem SJ_Zi {o : Nat} {I : MI} (h1 : ∀ a b, o ≤ a → a ≠ o + 3 → a < o + 14 → I a b = 0) (h3 : I (o + 3) 0 = 2 ∧ I (o + 3) 1 = 2 ∧ I (o + 3) 2 = 10) (h2 : ∀ k, k < 4 → ∀ w, I (o + 14 + k) w = if w = 0 ∨ w = 4 then -5 else 0) : SJ o I Zi := by
  refine ⟨fun k hk => ⟨0, false, by omega, Zi_sp hk, Zi_sp hk, (fun q => by cases q), fun w hw => by rw [Zi_sp hk]; exact h1 _ _ (by omega) (by omega) (by omega), fun j hj => absurd hj (by omega)⟩, fun k hk => ⟨fun w hw => by rw [Zi_ls hk]; exact h2 k hk w, 0, by omega, by rw [Zi_ls hk, if_neg (by omega)]; rfl⟩, ⟨fun w hw => ?_, fun f q1 q2 => ?_⟩, ⟨0, 0, by omega, by omega, h1 _ _ (by omega) (by omega) (by omega), h1 _ _ (by omega) (by omega) (by omega), Zi_8 (by omega), fun b w hb _ => absurd hb (by omega)⟩⟩
  · rw [Zi_s hw]
    rcases (show w = 0 ∨ w = 1 ∨ w = 2 by omega) with rfl | rfl | rfl
    · exact h3.1
    · exact h3.2.1
    · exact h3.2.2
  · have key : ∀ f, f < 11 → 4 ≤ f → ¬ scw f < 3 := by decide +kernel
    rw [Zi_8 (key f (by omega) q1)]
    exact h1 _ _ (by omega) (by omega) (by omega)
section CM
variable {g : GX} {cx : CX} {mt : MT} {F : State → Prop} {cs cs' : Nat × Nat} {pc : Nat} {ls : List (Option Value)} {st : List Value} {n n' : Nat} {I : MI} {R : MR}
theorem x_eqcs (h1 : cs.1 = cs'.1) (h2 : cs.2 = cs'.2) (k : X g cx mt F cs' pc ls st n I R) : X g cx mt F cs pc ls st n I R := by
  have : cs = cs' := Prod.ext h1 h2
  rw [this]
  exact k
theorem x_eqn (h : n = n') (k : X g cx mt F cs pc ls st n' I R) : X g cx mt F cs pc ls st n I R := by rw [h]; exact k
end CM
def SR (R : MR) (o : Nat) : Prop := R o 0 = some (o + 1) ∧ R o 1 = some (o + 2) ∧ R o 2 = some (o + 3) ∧ R o 3 = some (o + 4) ∧ R (o + 4) 0 = some (o + 5)
def Lo (o : Nat) (I0 I : MI) (R0 R : MR) : Prop := ∀ a, a < o → I a = I0 a ∧ R a = R0 a
def IN1 (o : Nat) (I0 : MI) (R0 : MR) (i : Nat) (I : MI) (R : MR) : Prop := Lo o I0 I R0 R ∧ Bl I R (o + 6 + 2 * i) ∧ SR R o ∧ (∀ k, k < i → R (o + 1) k = some (o + 6 + 2 * k) ∧ R (o + 6 + 2 * k) 0 = some (o + 7 + 2 * k)) ∧ (∀ a b, o ≤ a → a ≠ o + 3 → I a b = 0) ∧ (I (o + 3) 0 = 2 ∧ I (o + 3) 1 = 2 ∧ I (o + 3) 2 = 10)
def IN2 (o : Nat) (I0 : MI) (R0 : MR) (i : Nat) (I : MI) (R : MR) : Prop := Lo o I0 I R0 R ∧ Bl I R (o + 14 + i) ∧ SR R o ∧ (∀ k, k < 4 → R (o + 1) k = some (o + 6 + 2 * k) ∧ R (o + 6 + 2 * k) 0 = some (o + 7 + 2 * k)) ∧ (∀ k, k < i → R (o + 2) k = some (o + 14 + k)) ∧ (∀ a b, o ≤ a → a ≠ o + 3 → (a < o + 14 ∨ o + 14 + i ≤ a) → I a b = 0) ∧ (I (o + 3) 0 = 2 ∧ I (o + 3) 1 = 2 ∧ I (o + 3) 2 = 10) ∧ ∀ k, k < i → ∀ w, I (o + 14 + k) w = if w = 0 ∨ w = 4 then -5 else 0
section CL
variable {o : Nat} {I0 : MI} {R0 : MR}
theorem lp_i1 (hO : Ost o) {g : GX} {cx : CX} {F : State → Prop} : ∀ (m i : Nat) (I : MI) (R : MR), i + m = 4 → IN1 o I0 R0 i I R → (∀ I R, IN1 o I0 R0 4 I R → X g cx nX4_init F (13, 362) 81 [some (.ref o), some (.int (nI 4))] [] (o + 14) I R) → X g cx nX4_init F (5 + 2 * i, 270 + 23 * i) 53 [some (.ref o), some (.int (nI i))] [] (o + 6 + 2 * i) I R := by
  have hK := Ost_k hO
  have hle : o + 18 ≤ 131 := hK.2.2.2.2.2.2.2.2.2.2
  intro m
  induction m with
  | zero =>
    intro i I R him hi hx
    obtain rfl : i = 4 := by omega
    refine x_iload_n dX4_init_53 rfl rfl ?_
    refine x_aload_n dX4_init_54 rfl rfl ?_
    refine x_getR (j := o + 1) fl_X4_11 dX4_init_55 hK.1 (by omega) rfl hi.2.2.1.1 ?_
    refine x_alen (v := nI 4) dX4_init_58 hK.2.1 ⟨by decide, by decide⟩ (by omega) (by rw [hK.2.2.2.2.2.2.1]; rfl) ?_
    refine x_icmp_geN 81 dX4_init_59 (by decide) (by omega) (by omega) (fun c59 => ?_) (fun c59 => ?_)
    · skip
      exact hx I R hi
    · skip
      exact absurd c59 (by omega)
  | succ m ih =>
    intro i I R him hi hx
    obtain ⟨q1, q2, q3, q4⟩ := Ost_s hO (show i < 4 by omega)
    have e7 : o + 6 + 2 * i + 1 = o + 7 + 2 * i := by omega
    obtain ⟨hL, hB, ⟨s0, s1, s2, s3, s4⟩, hS, hz, h3⟩ := id hi
    have hB' : Bl I R (o + 6 + 2 * i + 1) := hB.mono (by omega)
    have hnx : IN1 o I0 R0 (i + 1) I (xuR (xuR R (o + 6 + 2 * i) 0 (some (o + 6 + 2 * i + 1))) (o + 1) i (some (o + 6 + 2 * i))) := by
      refine ⟨fun a ha => ?_, ?_, ⟨?_, ?_, ?_, ?_, ?_⟩, fun k hk => ?_, hz, h3⟩
      · exact ⟨(hL a ha).1, by rw [xuR_ne (by omega), xuR_ne (by omega)]; exact (hL a ha).2⟩
      · exact ((hB.mono (by omega)).uR (by omega)).uR (by omega)
      · rw [xuR_at (by omega), xuR_at (by omega)]; exact s0
      · rw [xuR_at (by omega), xuR_at (by omega)]; exact s1
      · rw [xuR_at (by omega), xuR_at (by omega)]; exact s2
      · rw [xuR_at (by omega), xuR_at (by omega)]; exact s3
      · rw [xuR_at (by omega), xuR_at (by omega)]; exact s4
      · by_cases e : k = i
        · subst e
          exact ⟨xuR_self, by rw [xuR_at (by omega), xuR_self, e7]⟩
        · have hk' := hS k (by omega)
          exact ⟨by rw [xuR_at (by omega), xuR_at (by omega)]; exact hk'.1, by rw [xuR_at (by omega), xuR_at (by omega)]; exact hk'.2⟩
    have hin := sp_init3 (I := I) (R := R) (o := o + 6 + 2 * i) q1 (by rw [e7]; exact q2) (by rw [e7]; exact q3) (by omega) hB'
    refine x_iload_n dX4_init_53 rfl rfl ?_
    refine x_aload_n dX4_init_54 rfl rfl ?_
    refine x_getR (j := o + 1) fl_X4_11 dX4_init_55 hK.1 (by omega) rfl hi.2.2.1.1 ?_
    refine x_alen (v := nI 4) dX4_init_58 hK.2.1 ⟨by decide, by decide⟩ (by omega) (by rw [hK.2.2.2.2.2.2.1]; rfl) ?_
    refine x_icmp_geN 81 dX4_init_59 (by decide) (by omega) (by omega) (fun c59 => ?_) (fun c59 => ?_)
    · skip
      exact absurd c59 (by omega)
    · skip
      refine x_aload_n dX4_init_62 rfl rfl ?_
      refine x_getR (j := o + 1) fl_X4_11 dX4_init_63 hK.1 (by omega) rfl hi.2.2.1.1 ?_
      refine x_iload_n dX4_init_66 rfl rfl ?_
      refine x_new3 wk_X4_9 q1 (by omega) hB.at (by show 5 + 2 * i + 1 ≤ 17; omega) (by show 270 + 23 * i + 8 ≤ 382; omega) dX4_init_67 ?_
      refine x_dup dX4_init_70 rfl ?_
      refine x_callIN (mt' := nX3_init) hin kiX3_init wl_X4_34 (by decide) dX4_init_71 rfl rfl (Nat.le_of_ble_eq_true rfl) (fun r n' I' R' h => ?_) ⟨by show 5 + 2 * i + 1 + 1 ≤ 17; omega, by show 270 + 23 * i + 8 + 15 ≤ 382; omega⟩
      obtain ⟨rfl, rfl, rfl, rfl⟩ := h
      refine x_aast (j := i) (Or.inr (Or.inl ⟨rfl, rfl, rfl⟩)) dX4_init_74 hK.2.1 (by omega) (nI_pos (by omega)) (nI_clamp (by omega)) (by rw [hK.2.2.2.2.2.2.1]; omega) q1 (by omega) ?_
      refine x_iincN 1 dX4_init_75 rfl (by decide) (by decide) ?_
      refine x_goto 53 dX4_init_78 (by decide) ?_
      refine x_eqcs (cs' := (5 + 2 * (i + 1), 270 + 23 * (i + 1))) (by show 5 + 2 * i + 1 + 1 = _; omega) (by show 270 + 23 * i + 8 + 15 = _; omega) ?_
      refine x_eqn (n' := o + 6 + 2 * (i + 1)) (by omega) ?_
      exact ih (i + 1) _ _ (by omega) hnx hx
theorem lp_i2 (hO : Ost o) {g : GX} {cx : CX} {F : State → Prop} : ∀ (m i : Nat) (I : MI) (R : MR), i + m = 4 → IN2 o I0 R0 i I R → (∀ I R, IN2 o I0 R0 4 I R → X g cx nX4_init F (17, 382) 111 [some (.ref o), some (.int (nI 4))] [] (o + 18) I R) → X g cx nX4_init F (13 + i, 362 + 5 * i) 83 [some (.ref o), some (.int (nI i))] [] (o + 14 + i) I R := by
  have hK := Ost_k hO
  have hle : o + 18 ≤ 131 := hK.2.2.2.2.2.2.2.2.2.2
  intro m
  induction m with
  | zero =>
    intro i I R him hi hx
    obtain rfl : i = 4 := by omega
    refine x_iload_n dX4_init_83 rfl rfl ?_
    refine x_aload_n dX4_init_84 rfl rfl ?_
    refine x_getR (j := o + 2) fl_X4_19 dX4_init_85 hK.1 (by omega) rfl hi.2.2.1.2.1 ?_
    refine x_alen (v := nI 4) dX4_init_88 hK.2.2.1 ⟨by decide, by decide⟩ (by omega) (by rw [hK.2.2.2.2.2.2.2.1]; rfl) ?_
    refine x_icmp_geN 111 dX4_init_89 (by decide) (by omega) (by omega) (fun c89 => ?_) (fun c89 => ?_)
    · skip
      exact hx I R hi
    · skip
      exact absurd c89 (by omega)
  | succ m ih =>
    intro i I R him hi hx
    obtain ⟨-, -, -, q4⟩ := Ost_s hO (show i < 4 by omega)
    obtain ⟨hL, hB, ⟨s0, s1, s2, s3, s4⟩, hS, hT, hz, h3, hls⟩ := id hi
    have hnx : IN2 o I0 R0 (i + 1) (xuI (xuI I (o + 14 + i) 0 (-5)) (o + 14 + i) 4 (-5)) (xuR R (o + 2) i (some (o + 14 + i))) := by
      refine ⟨fun a ha => ?_, ?_, ⟨?_, ?_, ?_, ?_, ?_⟩, fun k hk => ?_, fun k hk => ?_, fun a b h1 h2 h4 => ?_, ⟨?_, ?_, ?_⟩, fun k hk w => ?_⟩
      · exact ⟨by rw [xuI_row (by omega), xuI_row (by omega)]; exact (hL a ha).1, by rw [xuR_ne (by omega)]; exact (hL a ha).2⟩
      · exact (((hB.mono (by omega)).uI (by omega)).uI (by omega)).uR (by omega)
      · rw [xuR_at (by omega)]; exact s0
      · rw [xuR_at (by omega)]; exact s1
      · rw [xuR_at (by omega)]; exact s2
      · rw [xuR_at (by omega)]; exact s3
      · rw [xuR_at (by omega)]; exact s4
      · have hk' := hS k hk
        exact ⟨by rw [xuR_at (by omega)]; exact hk'.1, by rw [xuR_at (by omega)]; exact hk'.2⟩
      · by_cases e : k = i
        · subst e; exact xuR_self
        · rw [xuR_at (by omega)]; exact hT k (by omega)
      · rw [xuI_row (by omega), xuI_row (by omega)]; exact hz a b h1 h2 (by omega)
      · rw [xuI_row (by omega), xuI_row (by omega)]; exact h3.1
      · rw [xuI_row (by omega), xuI_row (by omega)]; exact h3.2.1
      · rw [xuI_row (by omega), xuI_row (by omega)]; exact h3.2.2
      · by_cases e : k = i
        · subst e
          by_cases w4 : w = 4
          · subst w4; rw [xuI_self]; rfl
          · rw [xuI_col w4]
            by_cases w0 : w = 0
            · subst w0; rw [xuI_self]; rfl
            · rw [xuI_col w0, if_neg (by omega)]; exact hz _ _ (by omega) (by omega) (by omega)
        · rw [xuI_row (by omega), xuI_row (by omega)]; exact hls k (by omega) w
    have hin := sp_init1 (I := I) (R := R) (o := o + 14 + i) (n := o + 14 + i + 1) q4 (by omega)
    refine x_iload_n dX4_init_83 rfl rfl ?_
    refine x_aload_n dX4_init_84 rfl rfl ?_
    refine x_getR (j := o + 2) fl_X4_19 dX4_init_85 hK.1 (by omega) rfl hi.2.2.1.2.1 ?_
    refine x_alen (v := nI 4) dX4_init_88 hK.2.2.1 ⟨by decide, by decide⟩ (by omega) (by rw [hK.2.2.2.2.2.2.2.1]; rfl) ?_
    refine x_icmp_geN 111 dX4_init_89 (by decide) (by omega) (by omega) (fun c89 => ?_) (fun c89 => ?_)
    · skip
      exact absurd c89 (by omega)
    · skip
      refine x_aload_n dX4_init_92 rfl rfl ?_
      refine x_getR (j := o + 2) fl_X4_19 dX4_init_93 hK.1 (by omega) rfl hi.2.2.1.2.1 ?_
      refine x_iload_n dX4_init_96 rfl rfl ?_
      refine x_new1 wk_X4_17 q4 (by omega) hB.at (by show 13 + i + 1 ≤ 17; omega) (by show 362 + 5 * i + 5 ≤ 382; omega) dX4_init_97 ?_
      refine x_dup dX4_init_100 rfl ?_
      refine x_callIN (mt' := mX1_init) hin kiX1_init wl_X4_35 (by decide) dX4_init_101 rfl rfl (Nat.le_of_ble_eq_true rfl) (fun r n' I' R' h => ?_) ⟨by show 13 + i + 1 + 0 ≤ 17; omega, by show 362 + 5 * i + 5 + 0 ≤ 382; omega⟩
      obtain ⟨rfl, rfl, rfl, rfl⟩ := h
      refine x_aast (j := i) (Or.inl ⟨rfl, rfl, rfl⟩) dX4_init_104 hK.2.2.1 (by omega) (nI_pos (by omega)) (nI_clamp (by omega)) (by rw [hK.2.2.2.2.2.2.2.1]; omega) q4 (by omega) ?_
      refine x_iincN 1 dX4_init_105 rfl (by decide) (by decide) ?_
      refine x_goto 83 dX4_init_108 (by decide) ?_
      refine x_eqcs (cs' := (13 + (i + 1), 362 + 5 * (i + 1))) (by show 13 + i + 1 + 0 = _; omega) (by show 362 + 5 * i + 5 + 0 = _; omega) ?_
      refine x_eqn (n' := o + 14 + (i + 1)) (by omega) ?_
      exact ih (i + 1) _ _ (by omega) hnx hx
/-- behind a state's constructor *)
-/
def SNQ (o : Nat) (I0 : MI) (R0 : MR) : XQ := fun r n' I' R' => r = none ∧ n' = o + 18 ∧ Lo o I0 I' R0 R' ∧ Bl I' R' (o + 18) ∧ St R' o ∧ SJ o I' Zi
theorem sp_init4 (hO : Ost o) (hB : Bl I0 R0 (o + 1)) (hZ : ∀ k, I0 o k = 0) : Sp nX4_init [.ref o] (o + 1) I0 R0 (SNQ o I0 R0) := by
  refine Sp.mk (by decide +kernel) (by simp [Value.category]) (Nat.le_of_ble_eq_true rfl) (fun g cx => ?_)
  have hK := Ost_k hO
  have hle : o + 18 ≤ 131 := hK.2.2.2.2.2.2.2.2.2.2
  have hb2 : Bl I0 (xuR R0 o 0 (some (o + 1))) (o + 2) := (hB.mono (by omega)).uR (by omega)
  have hb3 : Bl I0 (xuR (xuR R0 o 0 (some (o + 1))) o 1 (some (o + 2))) (o + 3) := (hb2.mono (by omega)).uR (by omega)
  obtain ⟨I1, hI1⟩ : ∃ I1, xuI (xuI (xuI I0 (o + 3) (0) (nI 2)) (o + 3) (1) (nI 2)) (o + 3) (2) (nI 10) = I1 := ⟨_, rfl⟩
  have hb4 : Bl I1 (xuR (xuR (xuR R0 o 0 (some (o + 1))) o 1 (some (o + 2))) o 2 (some (o + 3))) (o + 4) := by
    rw [← hI1]
    exact ((((hb3.mono (by omega)).uI (by omega)).uI (by omega)).uI (by omega)).uR (by omega)
  have hin := sp_init0 (I := I1) (R := xuR (xuR (xuR R0 o 0 (some (o + 1))) o 1 (some (o + 2))) o 2 (some (o + 3))) (o := o + 4) hK.2.2.2.2.1 hK.2.2.2.2.2.1 hK.2.2.2.2.2.2.2.2.2.1 (by omega) (hb4.mono (by omega))
  have ha : ∀ a, a ≠ o + 3 → I1 a = I0 a := fun a h => by rw [← hI1, xuI_row h, xuI_row h, xuI_row h]
  refine x_aload_n dX4_init_0 rfl rfl ?_
  refine x_objInit wl_X4_3 wi_OBJ wc_OBJ dX4_init_1 (by decide) (by decide) (by decide) ?_
  refine x_aload_n dX4_init_4 rfl rfl ?_
  refine x_iconst (nI 4) dX4_init_5 (by decide) ?_
  refine x_anewa (N := 4) (Or.inr (Or.inl ⟨rfl, rfl, rfl⟩)) wk_X4_9 hK.2.1 hK.2.2.2.2.2.2.1 (by omega) hB.at (by decide) (by decide) (by decide) (by decide) (by decide) dX4_init_6 ?_
  refine x_putF (v := .ref (o + 1)) (R' := xuR _ (o) 0 (some (o + 1))) fl_X4_11 fp_4_0 rfl rfl dX4_init_9 hK.1 (by omega) rfl rfl (fun _ _ => rfl) (fun _ h => xuR_ne h) (xval_uR rfl) ?_
  refine x_aload_n dX4_init_12 rfl rfl ?_
  refine x_iconst (nI 4) dX4_init_13 (by decide) ?_
  refine x_anewa (N := 4) (Or.inl ⟨rfl, rfl, rfl⟩) wk_X4_17 hK.2.2.1 hK.2.2.2.2.2.2.2.1 (by omega) hb2.at (by decide) (by decide) (by decide) (by decide) (by decide) dX4_init_14 ?_
  refine x_putF (v := .ref (o + 2)) (R' := xuR _ (o) 1 (some (o + 2))) fl_X4_19 fp_4_1 rfl rfl dX4_init_17 hK.1 (by omega) rfl rfl (fun _ _ => rfl) (fun _ h => xuR_ne h) (xval_uR rfl) ?_
  refine x_aload_n dX4_init_20 rfl rfl ?_
  refine x_iconst (nI 3) dX4_init_21 (by decide) ?_
  refine x_newaI (N := 3) wa_int hK.2.2.2.1 hK.2.2.2.2.2.2.2.2.1 (by omega) hb3.at (by decide) (by decide) (by decide) (by decide) (by decide) dX4_init_22 ?_
  refine x_dup dX4_init_24 rfl ?_
  refine x_iconst (nI 0) dX4_init_25 (by decide) ?_
  refine x_iconst (nI 2) dX4_init_26 (by decide) ?_
  refine x_iast (j := 0) dX4_init_27 hK.2.2.2.1 (by omega) (by decide) (by decide) (by rw [hK.2.2.2.2.2.2.2.2.1]; omega) ?_
  refine x_dup dX4_init_28 rfl ?_
  refine x_iconst (nI 1) dX4_init_29 (by decide) ?_
  refine x_iconst (nI 2) dX4_init_30 (by decide) ?_
  refine x_iast (j := 1) dX4_init_31 hK.2.2.2.1 (by omega) (by decide) (by decide) (by rw [hK.2.2.2.2.2.2.2.2.1]; omega) ?_
  refine x_dup dX4_init_32 rfl ?_
  refine x_iconst (nI 2) dX4_init_33 (by decide) ?_
  refine x_bipush (nI 10) dX4_init_34 (by decide) ?_
  refine x_iast (j := 2) dX4_init_36 hK.2.2.2.1 (by omega) (by decide) (by decide) (by rw [hK.2.2.2.2.2.2.2.2.1]; omega) ?_
  refine x_putF (v := .ref (o + 3)) (R' := xuR _ (o) 2 (some (o + 3))) fl_X4_23 fp_4_2 rfl rfl dX4_init_37 hK.1 (by omega) rfl rfl (fun _ _ => rfl) (fun _ h => xuR_ne h) (xval_uR rfl) ?_
  refine x_aload_n dX4_init_40 rfl rfl ?_
  refine x_eqI hI1 ?_
  refine x_new0 wk_X4_27 hK.2.2.2.2.1 (by omega) hb4.at (by decide) (by decide) dX4_init_41 ?_
  refine x_dup dX4_init_44 rfl ?_
  refine x_callIN (mt' := nX0_init) hin kiX0_init wl_X4_29 (by decide) dX4_init_45 rfl rfl (Nat.le_of_ble_eq_true rfl) (fun r n' I' R' h => ?_)
  obtain ⟨rfl, rfl, rfl, rfl⟩ := h
  refine x_putF (v := .ref (o + 4)) (R' := xuR _ (o) 3 (some (o + 4))) fl_X4_30 fp_4_3 rfl rfl dX4_init_48 hK.1 (by omega) rfl rfl (fun _ _ => rfl) (fun _ h => xuR_ne h) (xval_uR rfl) ?_
  refine x_iconst (nI 0) dX4_init_51 (by decide) ?_
  refine x_istore_n dX4_init_52 rfl (by decide) ?_
  refine lp_i1 (I0 := I0) (R0 := R0) hO 4 0 _ _ rfl ?_ (fun I2 R2 hi => ?_)
  rotate_left
  refine x_iconst (nI 0) dX4_init_81 (by decide) ?_
  refine x_istore_n dX4_init_82 rfl (by decide) ?_
  refine lp_i2 (I0 := I0) (R0 := R0) hO 4 0 _ _ rfl ?_ (fun I3 R3 hi3 => ?_)
  rotate_left
  refine x_vret dX4_init_111 rfl (by decide) (by decide) ?_
  refine ⟨rfl, rfl, hi3.1, hi3.2.1, ⟨hO, hi3.2.2.1, fun k hk => ⟨(hi3.2.2.2.1 k hk).1, hi3.2.2.2.2.1 k hk, (hi3.2.2.2.1 k hk).2⟩⟩, SJ_Zi (fun a b h1 h2 h4 => hi3.2.2.2.2.2.1 a b h1 h2 (Or.inl h4)) hi3.2.2.2.2.2.2.1 hi3.2.2.2.2.2.2.2⟩
  · refine ⟨fun a h => ⟨ha a (by omega), ?_⟩, ?_, ⟨?_, ?_, ?_, ?_, ?_⟩, fun k hk => absurd hk (by omega), fun a b h1 h2 => ?_, ?_⟩
    · rw [xuR_ne (by omega), xuR_ne (by omega), xuR_ne (by omega), xuR_ne (by omega), xuR_ne (by omega)]
    · exact ((hb4.mono (by omega)).uR (by omega)).uR (by omega)
    · rw [xuR_at (by omega), xuR_at (by omega), xuR_at (by omega), xuR_at (by omega)]; exact xuR_self
    · rw [xuR_at (by omega), xuR_at (by omega), xuR_at (by omega)]; exact xuR_self
    · rw [xuR_at (by omega), xuR_at (by omega)]; exact xuR_self
    · exact xuR_self
    · rw [xuR_at (by omega)]; exact xuR_self
    · rw [ha a h2]
      by_cases e : a = o
      · subst e; exact hZ b
      · exact (hB a (by omega) b).1
    · rw [← hI1]
      exact ⟨by rw [xuI_col (by omega), xuI_col (by omega)]; exact xuI_self, by rw [xuI_col (by omega)]; exact xuI_self, xuI_self⟩
  · exact ⟨hi.1, hi.2.1, hi.2.2.1, hi.2.2.2.1, fun k hk => absurd hk (by omega), fun a b h1 h2 _ => hi.2.2.2.2.1 a b h1 h2, hi.2.2.2.2.2, fun k hk => absurd hk (by omega)⟩
end CL
