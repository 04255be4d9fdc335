/-! the law from its entry to its end *)
-/
section CL
variable {g : GX} {cx : CX} {nm : String} {F : State → Prop} {L : Nat} {xs : Nat → Int32}
theorem law_head {a : Nat} {I : MI} {R : MR} (hX : SC g cx L xs) (ha : a ≤ L + 5) (hend : ∀ ls I R, X g cx (mLaw nm) F (137, 5575) 711 ls [.int 1] 137 I R) (hgo : a + 5 ≤ L → X g cx (mLaw nm) F (137, 5575) 26 (lwL a) [] 137 I R) : X g cx (mLaw nm) F (137, 5575) 18 (lwL a) [] 137 I R := by
  have hL := hX.2.2.2
  refine x_iload_n dL_law_18 rfl rfl ?_
  refine x_aload_n dL_law_19 rfl rfl ?_
  refine x_slen hX dL_law_20 ?_
  refine x_iconst (nI 5) dL_law_21 (by decide) ?_
  refine x_isub dL_law_22 ?_
  refine x_icmp_gt 710 dL_law_23 (by decide) (fun _ => ?_) (fun h => ?_)
  · refine x_iconst 1 dL_law_710 (by decide) ?_
    exact hend _ _ _
  · refine hgo ?_
    have h1 : (nI L - nI 5).toInt = (L : Int) - (5 : Nat) := pk_sub_toInt (by omega) (by omega)
    have h2 : (nI a).toInt = (a : Int) := nI_toInt (by omega)
    rw [Int32.lt_iff_toInt_lt, h1, h2] at h
    omega
theorem law_body {a : Nat} {I : MI} {R : MR} (hX : SC g cx L xs) (ha : a + 5 ≤ L) (hR : RLs I R) (hx : ∀ I R, RLs I R → X g cx (mLaw nm) F (137, 5575) 704 (lwL a) [] 137 I R) : X g cx (mLaw nm) F (137, 5575) 26 (lwL a) [] 137 I R := by
  refine x_aload_n dL_law_26 rfl rfl ?_
  refine x_iload_n dL_law_27 rfl rfl ?_
  refine x_sld hX (show a < L by omega) dL_law_28 ?_
  refine x_bipush (nI 31) dL_law_29 (by decide) ?_
  obtain ⟨k, hk, e⟩ := pk_andE (xs a) (m := nI 31) 5 (by decide)
  refine x_iand dL_law_31 (x_eqtop e ?_)
  by_cases h22 : k < 22
  · rcases (show k = 0 ∨ k = 1 ∨ k = 2 ∨ k = 3 ∨ k = 4 ∨ k = 5 ∨ k = 6 ∨ k = 7 ∨ k = 8 ∨ k = 9 ∨ k = 10 ∨ k = 11 ∨ k = 12 ∨ k = 13 ∨ k = 14 ∨ k = 15 ∨ k = 16 ∨ k = 17 ∨ k = 18 ∨ k = 19 ∨ k = 20 ∨ k = 21 by omega) with rfl | rfl | rfl | rfl | rfl | rfl | rfl | rfl | rfl | rfl | rfl | rfl | rfl | rfl | rfl | rfl | rfl | rfl | rfl | rfl | rfl | rfl
    · exact x_tableIn (off := 104) 136 dL_law_32 (by decide) (by decide) (by decide +kernel) (by decide) (law_say hX ha hR hx)
    · exact x_tableIn (off := 157) 189 dL_law_32 (by decide) (by decide) (by decide +kernel) (by decide) (law_takeBack hX ha hR hx)
    · exact x_tableIn (off := 180) 212 dL_law_32 (by decide) (by decide) (by decide +kernel) (by decide) (law_hear hX ha hR hx)
    · exact x_tableIn (off := 213) 245 dL_law_32 (by decide) (by decide) (by decide +kernel) (by decide) (law_hold hX ha hR hx)
    · exact x_tableIn (off := 246) 278 dL_law_32 (by decide) (by decide) (by decide +kernel) (by decide) (law_stick hX ha hR hx)
    · exact x_tableIn (off := 279) 311 dL_law_32 (by decide) (by decide) (by decide +kernel) (by decide) (law_set hX ha hR hx)
    · exact x_tableIn (off := 312) 344 dL_law_32 (by decide) (by decide) (by decide +kernel) (by decide) (law_run hX ha hR hx)
    · exact x_tableIn (off := 335) 367 dL_law_32 (by decide) (by decide) (by decide +kernel) (by decide) (law_type hX ha hR hx)
    · exact x_tableIn (off := 360) 392 dL_law_32 (by decide) (by decide) (by decide +kernel) (by decide) (law_clearText hX ha hR hx)
    · exact x_tableIn (off := 373) 405 dL_law_32 (by decide) (by decide) (by decide +kernel) (by decide) (law_perform hX ha hR hx)
    · exact x_tableIn (off := 386) 418 dL_law_32 (by decide) (by decide) (by decide +kernel) (by decide) (law_stopped hX ha hR hx)
    · exact x_tableIn (off := 409) 441 dL_law_32 (by decide) (by decide) (by decide +kernel) (by decide) (law_undo hX ha hR hx)
    · exact x_tableIn (off := 422) 454 dL_law_32 (by decide) (by decide) (by decide +kernel) (by decide) (law_keep hX ha hR hx)
    · exact x_tableIn (off := 435) 467 dL_law_32 (by decide) (by decide) (by decide +kernel) (by decide) (law_restore hX ha hR hx)
    · exact x_tableIn (off := 448) 480 dL_law_32 (by decide) (by decide) (by decide +kernel) (by decide) (law_speaker hX ha hR hx)
    · exact x_tableIn (off := 481) 513 dL_law_32 (by decide) (by decide) (by decide +kernel) (by decide) (law_message hX ha hR hx)
    · exact x_tableIn (off := 524) 556 dL_law_32 (by decide) (by decide) (by decide +kernel) (by decide) (law_listener hX ha hR hx)
    · exact x_tableIn (off := 557) 589 dL_law_32 (by decide) (by decide) (by decide +kernel) (by decide) (law_bit hX ha hR hx)
    · exact x_tableIn (off := 590) 622 dL_law_32 (by decide) (by decide) (by decide +kernel) (by decide) (law_winners hX ha hR hx)
    · exact x_tableIn (off := 603) 635 dL_law_32 (by decide) (by decide) (by decide +kernel) (by decide) (law_emptyIn hX ha hR hx)
    · exact x_tableIn (off := 616) 648 dL_law_32 (by decide) (by decide) (by decide +kernel) (by decide) (law_ifRun hX ha hR hx)
    · exact x_tableIn (off := 649) 681 dL_law_32 (by decide) (by decide) (by decide +kernel) (by decide) (law_count hX ha hR hx)
  · refine x_tableOut 704 dL_law_32 (Or.inr ?_) (by decide) (hx _ _ hR)
    rw [nI_toInt (by omega)]
    omega
theorem law_loop (hX : SC g cx L xs) (hend : ∀ ls I R, X g cx (mLaw nm) F (137, 5575) 711 ls [.int 1] 137 I R) : ∀ (m a : Nat) (I : MI) (R : MR), L + 1 ≤ a + m → a ≤ L + 5 → RLs I R → X g cx (mLaw nm) F (137, 5575) 18 (lwL a) [] 137 I R := by
  intro m
  induction m with
  | zero =>
    intro a I R hm ha hR
    exact law_head hX ha hend (fun q => absurd q (by omega))
  | succ m ih =>
    intro a I R hm ha hR
    refine law_head hX ha hend (fun q => law_body hX q hR (fun I R hR => ?_))
    refine x_iincN 5 dL_law_704 rfl (by decide) (show 3 < 4 by decide) ?_
    refine x_goto 18 dL_law_707 (by decide) ?_
    exact ih (a + 5) I R (by omega) (by omega) hR
theorem law_all (hX : SC g cx L xs) (hend : ∀ ls I R, X g cx (mLaw nm) F (137, 5575) 711 ls [.int 1] 137 I R) : X g cx (mLaw nm) F (0, 0) 0 [some (.ref 1007), none, none, none] [] 0 (fun _ _ => 0) (fun _ _ => none) := by
  have hB : ∀ n, Bl (fun _ _ => 0) (fun _ _ => none) n := fun _ _ _ _ => ⟨rfl, rfl⟩
  refine x_new5 wk_L_7 xk_0 (by omega) (hB 0).at (Nat.le_of_ble_eq_true rfl) (Nat.le_of_ble_eq_true rfl) dL_law_0 ?_
  refine x_dup dL_law_3 rfl ?_
  refine x_callI (mt' := nX5_init) (sp_init5 (hB 1) (fun _ => rfl)) kiX5_init wl_L_9 ⟨Nat.le_of_ble_eq_true rfl, Nat.le_of_ble_eq_true rfl⟩ dL_law_4 rfl rfl (Nat.le_of_ble_eq_true rfl) (fun r n' I1 R1 hq => ?_) ⟨Nat.le_of_ble_eq_true rfl, Nat.le_of_ble_eq_true rfl⟩
  obtain ⟨rfl, rfl, h5⟩ := hq
  have hb : Bl I1 R1 131 := h5.2.1
  refine x_astore_n dL_law_7 rfl (show 1 < 4 by decide) ?_
  refine x_new6 wk_L_10 xk_131 (by omega) hb.at (Nat.le_of_ble_eq_true rfl) (Nat.le_of_ble_eq_true rfl) dL_law_8 ?_
  refine x_dup dL_law_11 rfl ?_
  refine x_callI (mt' := nX6_init) (sp_init6 (hb.mono (by omega))) kiX6_init wl_L_12 ⟨Nat.le_of_ble_eq_true rfl, Nat.le_of_ble_eq_true rfl⟩ dL_law_12 rfl rfl (Nat.le_of_ble_eq_true rfl) (fun r n' I2 R2 hq => ?_) ⟨Nat.le_of_ble_eq_true rfl, Nat.le_of_ble_eq_true rfl⟩
  obtain ⟨rfl, rfl, rfl, rfl⟩ := hq
  refine x_astore_n dL_law_15 rfl (show 2 < 4 by decide) ?_
  refine x_iconst (nI 0) dL_law_16 (by decide) ?_
  refine x_istore_n dL_law_17 rfl (show 3 < 4 by decide) ?_
  exact law_loop hX hend (L + 1) 0 _ _ (by omega) (by omega) (RLs_start h5)
end CL
