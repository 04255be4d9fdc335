
/-! constructors *)
-/
abbrev nX0_init : MT := (yX0_init, cX0_init, 1, none, { frames := 1, cells := 1, slots := 256, locals := 20 }, 0)
abbrev nX2_init : MT := (yX2_init, cX2_init, 1, none, { frames := 1, cells := 2, slots := 84, locals := 20 }, 0)
abbrev nX3_init : MT := (yX3_init, cX3_init, 1, none, { frames := 1, cells := 1, slots := 15, locals := 20 }, 0)
abbrev nX4_init : MT := (yX4_init, cX4_init, 2, none, { frames := 2, cells := 17, slots := 382, locals := 40 }, 0)
abbrev nX5_init : MT := (yX5_init, cX5_init, 2, none, { frames := 3, cells := 130, slots := 2844, locals := 61 }, 0)
/-- nothing from n on -/
def Bl (I : MI) (R : MR) (n : Nat) : Prop := ∀ a, n ≤ a → ∀ k, I a k = 0 ∧ R a k = none
theorem Bl.at {I : MI} {R : MR} {n : Nat} (h : Bl I R n) : xBl I R n := h n (Nat.le_refl n)
theorem Bl.mono {I : MI} {R : MR} {n m : Nat} (h : Bl I R n) (hm : n ≤ m) : Bl I R m := fun a ha => h a (by omega)
theorem Bl.uI {I : MI} {R : MR} {n i k : Nat} {v : Int32} (h : Bl I R n) (hi : i < n) : Bl (xuI I i k v) R n := fun a ha b => by rw [xuI_row (by omega)]; exact h a ha b
theorem Bl.uR {I : MI} {R : MR} {n i k : Nat} {v : Option Nat} (h : Bl I R n) (hi : i < n) : Bl I (xuR R i k v) n := fun a ha b => by rw [xuR_ne (by omega)]; exact h a ha b
section CM
variable {g : GX} {cx : CX} {mt : MT} {F : State → Prop} {cs : Nat × Nat} {pc : Nat} {ls : List (Option Value)} {st : List Value} {n : Nat} {I : MI} {R : MR}
theorem x_new0 {idx : Nat} (hl : Cond.classLink mt.1.cls idx RX0 ∈ XT) (hk : xkd n = 0) (hn : n < 131) (hb : xBl I R n) (hcl : cs.1 + 1 ≤ mt.2.2.2.2.1.cells) (hsl : cs.2 + 3 ≤ mt.2.2.2.2.1.slots) (hd : decode mt.2.1 pc = .ok (.new idx, 3)) (kk : X g cx mt F (cs.1 + 1, cs.2 + 3) (pc + 3) ls (.ref n :: st) (n + 1) I R) : X g cx mt F cs pc ls st n I R :=
  x_new (c := 0) tyX0 rfl rfl (by decide) tyX0_ok (fun k hk => by rcases (show k = 0 ∨ k = 1 ∨ k = 2 by omega) with rfl | rfl | rfl <;> rfl) wu_0 hl wq_X0 wz_X0 hk hn hb hcl hsl hd kk
theorem x_new1 {idx : Nat} (hl : Cond.classLink mt.1.cls idx RX1 ∈ XT) (hk : xkd n = 1) (hn : n < 131) (hb : xBl I R n) (hcl : cs.1 + 1 ≤ mt.2.2.2.2.1.cells) (hsl : cs.2 + 5 ≤ mt.2.2.2.2.1.slots) (hd : decode mt.2.1 pc = .ok (.new idx, 3)) (kk : X g cx mt F (cs.1 + 1, cs.2 + 5) (pc + 3) ls (.ref n :: st) (n + 1) I R) : X g cx mt F cs pc ls st n I R :=
  x_new (c := 1) tyX1 rfl rfl (by decide) tyX1_ok (fun k hk => by rcases (show k = 0 ∨ k = 1 ∨ k = 2 ∨ k = 3 ∨ k = 4 by omega) with rfl | rfl | rfl | rfl | rfl <;> rfl) wu_1 hl wq_X1 wz_X1 hk hn hb hcl hsl hd kk
theorem x_new2 {idx : Nat} (hl : Cond.classLink mt.1.cls idx RX2 ∈ XT) (hk : xkd n = 2) (hn : n < 131) (hb : xBl I R n) (hcl : cs.1 + 1 ≤ mt.2.2.2.2.1.cells) (hsl : cs.2 + 5 ≤ mt.2.2.2.2.1.slots) (hd : decode mt.2.1 pc = .ok (.new idx, 3)) (kk : X g cx mt F (cs.1 + 1, cs.2 + 5) (pc + 3) ls (.ref n :: st) (n + 1) I R) : X g cx mt F cs pc ls st n I R :=
  x_new (c := 2) tyX2 rfl rfl (by decide) tyX2_ok (fun k hk => by rcases (show k = 0 ∨ k = 1 ∨ k = 2 ∨ k = 3 ∨ k = 4 by omega) with rfl | rfl | rfl | rfl | rfl <;> rfl) wu_2 hl wq_X2 wz_X2 hk hn hb hcl hsl hd kk
theorem x_new3 {idx : Nat} (hl : Cond.classLink mt.1.cls idx RX3 ∈ XT) (hk : xkd n = 3) (hn : n < 131) (hb : xBl I R n) (hcl : cs.1 + 1 ≤ mt.2.2.2.2.1.cells) (hsl : cs.2 + 8 ≤ mt.2.2.2.2.1.slots) (hd : decode mt.2.1 pc = .ok (.new idx, 3)) (kk : X g cx mt F (cs.1 + 1, cs.2 + 8) (pc + 3) ls (.ref n :: st) (n + 1) I R) : X g cx mt F cs pc ls st n I R :=
  x_new (c := 3) tyX3 rfl rfl (by decide) tyX3_ok (fun k hk => by rcases (show k = 0 ∨ k = 1 ∨ k = 2 ∨ k = 3 ∨ k = 4 ∨ k = 5 ∨ k = 6 ∨ k = 7 by omega) with rfl | rfl | rfl | rfl | rfl | rfl | rfl | rfl <;> rfl) wu_3 hl wq_X3 wz_X3 hk hn hb hcl hsl hd kk
theorem x_new4 {idx : Nat} (hl : Cond.classLink mt.1.cls idx RX4 ∈ XT) (hk : xkd n = 4) (hn : n < 131) (hb : xBl I R n) (hcl : cs.1 + 1 ≤ mt.2.2.2.2.1.cells) (hsl : cs.2 + 11 ≤ mt.2.2.2.2.1.slots) (hd : decode mt.2.1 pc = .ok (.new idx, 3)) (kk : X g cx mt F (cs.1 + 1, cs.2 + 11) (pc + 3) ls (.ref n :: st) (n + 1) I R) : X g cx mt F cs pc ls st n I R :=
  x_new (c := 4) tyX4 rfl rfl (by decide) tyX4_ok (fun k hk => by rcases (show k = 0 ∨ k = 1 ∨ k = 2 ∨ k = 3 ∨ k = 4 ∨ k = 5 ∨ k = 6 ∨ k = 7 ∨ k = 8 ∨ k = 9 ∨ k = 10 by omega) with rfl | rfl | rfl | rfl | rfl | rfl | rfl | rfl | rfl | rfl | rfl <;> rfl) wu_4 hl wq_X4 wz_X4 hk hn hb hcl hsl hd kk
theorem x_new5 {idx : Nat} (hl : Cond.classLink mt.1.cls idx RX5 ∈ XT) (hk : xkd n = 5) (hn : n < 131) (hb : xBl I R n) (hcl : cs.1 + 1 ≤ mt.2.2.2.2.1.cells) (hsl : cs.2 + 9 ≤ mt.2.2.2.2.1.slots) (hd : decode mt.2.1 pc = .ok (.new idx, 3)) (kk : X g cx mt F (cs.1 + 1, cs.2 + 9) (pc + 3) ls (.ref n :: st) (n + 1) I R) : X g cx mt F cs pc ls st n I R :=
  x_new (c := 5) tyX5 rfl rfl (by decide) tyX5_ok (fun k hk => by rcases (show k = 0 ∨ k = 1 ∨ k = 2 ∨ k = 3 ∨ k = 4 ∨ k = 5 ∨ k = 6 ∨ k = 7 ∨ k = 8 by omega) with rfl | rfl | rfl | rfl | rfl | rfl | rfl | rfl | rfl <;> rfl) wu_5 hl wq_X5 wz_X5 hk hn hb hcl hsl hd kk
end CM
section CL
variable {I : MI} {R : MR} {o n : Nat}
theorem sp_init0 (hk : xkd o = 0) (hk2 : xkd (o + 1) = 8) (hl2 : xln (o + 1) = 256) (hlt : o + 1 < 131) (hB : Bl I R (o + 1)) : Sp nX0_init [.ref o] (o + 1) I R (fun r n' I' R' => r = none ∧ n' = o + 2 ∧ I' = I ∧ R' = xuR R o 0 (some (o + 1))) := by
  refine Sp.mk (by decide +kernel) (by simp [Value.category]) (Nat.le_of_ble_eq_true rfl) (fun g cx => ?_)
  refine x_aload_n dX0_init_0 rfl rfl ?_
  refine x_objInit wl_X0_3 wi_OBJ wc_OBJ dX0_init_1 (by decide) (by decide) (by decide) ?_
  refine x_aload_n dX0_init_4 rfl rfl ?_
  refine x_sipush (nI 256) dX0_init_5 (by decide) ?_
  refine x_newaI (N := 256) wa_int hk2 hl2 hlt hB.at (by decide) (by decide) (by decide) (by decide) (by decide) dX0_init_8 ?_
  refine x_putF (v := .ref (o + 1)) (R' := xuR _ (o) 0 (some (o + 1))) fl_X0_11 fp_0_0 rfl rfl dX0_init_10 hk (by omega) rfl rfl (fun _ _ => rfl) (fun _ h => xuR_ne h) (xval_uR rfl) ?_
  refine x_vret dX0_init_13 rfl (by decide) (by decide) ?_
  exact ⟨rfl, rfl, rfl, rfl⟩
theorem sp_init3 (hk : xkd o = 3) (hk2 : xkd (o + 1) = 8) (hl2 : xln (o + 1) = 15) (hlt : o + 1 < 131) (hB : Bl I R (o + 1)) : Sp nX3_init [.ref o] (o + 1) I R (fun r n' I' R' => r = none ∧ n' = o + 2 ∧ I' = I ∧ R' = xuR R o 0 (some (o + 1))) := by
  refine Sp.mk (by decide +kernel) (by simp [Value.category]) (Nat.le_of_ble_eq_true rfl) (fun g cx => ?_)
  refine x_aload_n dX3_init_0 rfl rfl ?_
  refine x_objInit wl_X3_3 wi_OBJ wc_OBJ dX3_init_1 (by decide) (by decide) (by decide) ?_
  refine x_aload_n dX3_init_4 rfl rfl ?_
  refine x_bipush (nI 15) dX3_init_5 (by decide) ?_
  refine x_newaI (N := 15) wa_int hk2 hl2 hlt hB.at (by decide) (by decide) (by decide) (by decide) (by decide) dX3_init_7 ?_
  refine x_putF (v := .ref (o + 1)) (R' := xuR _ (o) 0 (some (o + 1))) fl_X3_9 fp_3_0 rfl rfl dX3_init_9 hk (by omega) rfl rfl (fun _ _ => rfl) (fun _ h => xuR_ne h) (xval_uR rfl) ?_
  refine x_vret dX3_init_12 rfl (by decide) (by decide) ?_
  exact ⟨rfl, rfl, rfl, rfl⟩
theorem sp_init1 (hk : xkd o = 1) (hlt : o < n) : Sp mX1_init [.ref o] n I R (fun r n' I' R' => r = none ∧ n' = n ∧ I' = xuI (xuI I o 0 (-5)) o 4 (-5) ∧ R' = R) := by
  refine Sp.mk (by decide +kernel) (by simp [Value.category]) (Nat.le_of_ble_eq_true rfl) (fun g cx => ?_)
  refine x_aload_n dX1_init_0 rfl rfl ?_
  refine x_objInit wl_X1_3 wi_OBJ wc_OBJ dX1_init_1 (by decide) (by decide) (by decide) ?_
  refine x_aload_n dX1_init_4 rfl rfl ?_
  refine x_bipush (-5) dX1_init_5 (by decide) ?_
  refine x_putI fl_X1_9 fp_1_0 dX1_init_7 hk hlt rfl rfl rfl ?_
  refine x_aload_n dX1_init_10 rfl rfl ?_
  refine x_bipush (-5) dX1_init_11 (by decide) ?_
  refine x_putI fl_X1_15 fp_1_4 dX1_init_13 hk hlt rfl rfl rfl ?_
  refine x_vret dX1_init_16 rfl (by decide) (by decide) ?_
  exact ⟨rfl, rfl, rfl, rfl⟩
theorem sp_init2 (hk : xkd o = 2) (hk2 : xkd (o + 1) = 7) (hl2 : xln (o + 1) = 80) (hk3 : xkd (o + 2) = 8) (hl3 : xln (o + 2) = 4) (hlt : o + 2 < 131) (hB : Bl I R (o + 1)) : Sp nX2_init [.ref o] (o + 1) I R (fun r n' I' R' => r = none ∧ n' = o + 3 ∧ I' = xuI I o 4 (-1) ∧ R' = xuR (xuR R o 0 (some (o + 1))) o 1 (some (o + 2))) := by
  refine Sp.mk (by decide +kernel) (by simp [Value.category]) (Nat.le_of_ble_eq_true rfl) (fun g cx => ?_)
  have hB2 : Bl I (xuR R o 0 (some (o + 1))) (o + 2) := (hB.mono (by omega)).uR (by omega)
  refine x_aload_n dX2_init_0 rfl rfl ?_
  refine x_objInit wl_X2_3 wi_OBJ wc_OBJ dX2_init_1 (by decide) (by decide) (by decide) ?_
  refine x_aload_n dX2_init_4 rfl rfl ?_
  refine x_bipush (nI 80) dX2_init_5 (by decide) ?_
  refine x_newaC (N := 80) wa_char hk2 hl2 (by omega) hB.at (by decide) (by decide) (by decide) (by decide) (by decide) dX2_init_7 ?_
  refine x_putF (v := .ref (o + 1)) (R' := xuR _ (o) 0 (some (o + 1))) fl_X2_11 fp_2_0 rfl rfl dX2_init_9 hk (by omega) rfl rfl (fun _ _ => rfl) (fun _ h => xuR_ne h) (xval_uR rfl) ?_
  refine x_aload_n dX2_init_12 rfl rfl ?_
  refine x_iconst (nI 4) dX2_init_13 (by decide) ?_
  refine x_newaI (N := 4) wa_int hk3 hl3 hlt hB2.at (by decide) (by decide) (by decide) (by decide) (by decide) dX2_init_14 ?_
  refine x_putF (v := .ref (o + 2)) (R' := xuR _ (o) 1 (some (o + 2))) fl_X2_15 fp_2_1 rfl rfl dX2_init_16 hk (by omega) rfl rfl (fun _ _ => rfl) (fun _ h => xuR_ne h) (xval_uR rfl) ?_
  refine x_aload_n dX2_init_19 rfl rfl ?_
  refine x_iconst (-1) dX2_init_20 (by decide) ?_
  refine x_putI fl_X2_19 fp_2_4 dX2_init_21 hk (by omega) rfl rfl rfl ?_
  refine x_vret dX2_init_24 rfl (by decide) (by decide) ?_
  exact ⟨rfl, rfl, rfl, rfl⟩
end CL
