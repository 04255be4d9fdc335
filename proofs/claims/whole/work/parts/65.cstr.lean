/-! the five names: constants 1000 .. 1004, their bytes 1010 .. 1014; members of java.lang.String *)
-/
def kLen (i : Nat) : Nat := ([3, 4, 4, 5, 3] : List Nat).getD i 0
def kTx (i j : Nat) : Int32 := (([[115, 97, 121], [104, 101, 97, 114], [104, 111, 108, 100], [115, 116, 105, 99, 107], [114, 117, 110]] : List (List Int32)).getD i []).getD j 0
theorem xad_hi (g : GX) (i : Nat) : xad g (1000 + i) = g.1.2 i := by
  unfold xad
  rw [if_neg (by omega), Nat.add_sub_cancel_left]
theorem kLen_5 {i : Nat} (hi : i < 5) : 3 ≤ kLen i ∧ kLen i ≤ 5 := by
  have key : ∀ i, i < 5 → 3 ≤ kLen i ∧ kLen i ≤ 5 := by decide
  exact key i hi
theorem kTx_ch {i j : Nat} (hi : i < 5) (hj : j < kLen i) : (((kTx i j &&& nI 255).toUInt32 % 65536).toInt32 = kTx i j) ∧ narrow .char (.int (kTx i j)) = .int (kTx i j) := by
  have key : ∀ i, i < 5 → ∀ j, j < kLen i → (((kTx i j &&& nI 255).toUInt32 % 65536).toInt32 = kTx i j) := by decide +kernel
  have h := key i hi j hj
  refine ⟨h, ?_⟩
  rw [← h]
  exact pk_nc _
section CM
variable {g : GX} {cx : CX} {mt : MT} {F : State → Prop} {cs : Nat × Nat} {pc : Nat} {ls : List (Option Value)} {st : List Value} {n : Nat} {I : MI} {R : MR}
theorem x_getKv {idx i : Nat} (hi : i < 5) (hl : Cond.fieldLink mt.1.cls idx "java/lang/String" "value" "[B" ∈ XT) (hd : decode mt.2.1 pc = .ok (.getfield idx, 3)) (kk : X g cx mt F cs (pc + 3) ls (.ref (1000 + (10 + i)) :: st) n I R) : X g cx mt F cs pc ls (.ref (1000 + i) :: st) n I R := by
  intro ok H locs lsA hR hS hL
  have hKH := ok.2.2.2.2.2.2.2.2.2.2
  have k' := kk ok H locs lsA hR hS hL
  show W _ _ _ _ _ _ _ _ _ _ _ _ _ _ _ (F0 _ pc lsA (.ref (xad g (1000 + i)) :: st.map (xv g)))
  rw [xad_hi]
  refine vk_getf (A := fun q => g.1.1 ≤ q) ok.1 ok.2.1 (hKH.1.1 i hi).2.2.1 hS ok.2.2.2.2.1 (ok.2.2.2.2.2.2.1 _ hl) (fun _ h => h) hd ?_
  have e : (Value.ref (1000 + (10 + i)) :: st).map (xv g) = .ref (g.1.2 (10 + i)) :: st.map (xv g) := by
    show Value.ref (xad g (1000 + (10 + i))) :: _ = _
    rw [xad_hi]
  rw [e] at k'
  exact k'
theorem x_getKc {idx i : Nat} (hi : i < 5) (hl : Cond.fieldLink mt.1.cls idx "java/lang/String" "coder" "B" ∈ XT) (hd : decode mt.2.1 pc = .ok (.getfield idx, 3)) (kk : X g cx mt F cs (pc + 3) ls (.int 0 :: st) n I R) : X g cx mt F cs pc ls (.ref (1000 + i) :: st) n I R := by
  intro ok H locs lsA hR hS hL
  have hKH := ok.2.2.2.2.2.2.2.2.2.2
  have k' := kk ok H locs lsA hR hS hL
  show W _ _ _ _ _ _ _ _ _ _ _ _ _ _ _ (F0 _ pc lsA (.ref (xad g (1000 + i)) :: st.map (xv g)))
  rw [xad_hi]
  exact vk_getf (A := fun q => g.1.1 ≤ q) ok.1 ok.2.1 (hKH.1.1 i hi).2.1 hS ok.2.2.2.2.1 (ok.2.2.2.2.2.2.1 _ hl) (fun _ h => h) hd k'
theorem x_getsC {idx : Nat} (hl : Cond.fieldLink mt.1.cls idx "java/lang/String" "COMPACT_STRINGS" "Z" ∈ XT) (hd : decode mt.2.1 pc = .ok (.getstatic idx, 3)) (kk : X g cx mt F cs (pc + 3) ls (.int 1 :: st) n I R) : X g cx mt F cs pc ls st n I R := by
  intro ok H locs lsA hR hS hL
  have hKH := ok.2.2.2.2.2.2.2.2.2.2
  exact va_gets (A := fun q => g.1.1 ≤ q) ok.1 ok.2.1 hKH.2.1.1 hS ok.2.2.2.2.1 (ok.2.2.2.2.2.2.1 _ hl) (fun _ h => h) hd (kk ok H locs lsA hR hS hL)
theorem x_getsF {idx : Nat} (hl : Cond.fieldLink mt.1.cls idx "jdk/internal/util/Preconditions" "SIOOBE_FORMATTER" "Ljava/util/function/BiFunction;" ∈ XT) (hd : decode mt.2.1 pc = .ok (.getstatic idx, 3)) (k1 : X g cx mt F cs (pc + 3) ls (.null :: st) n I R) (k2 : X g cx mt F cs (pc + 3) ls (.ref 1006 :: st) n I R) : X g cx mt F cs pc ls st n I R := by
  intro ok H locs lsA hR hS hL
  have hKH := ok.2.2.2.2.2.2.2.2.2.2
  rcases hKH.2.1.2 with hZ | hZ
  · exact va_gets (A := fun q => g.1.1 ≤ q) ok.1 ok.2.1 hZ hS ok.2.2.2.2.1 (ok.2.2.2.2.2.2.1 _ hl) (fun _ h => h) hd (k1 ok H locs lsA hR hS hL)
  · exact va_gets (A := fun q => g.1.1 ≤ q) ok.1 ok.2.1 hZ hS ok.2.2.2.2.1 (ok.2.2.2.2.2.2.1 _ hl) (fun _ h => h) hd (k2 ok H locs lsA hR hS hL)
theorem x_alenK {i : Nat} (hi : i < 5) (hd : decode mt.2.1 pc = .ok (.arraylength, 1)) (kk : X g cx mt F cs (pc + 1) ls (.int (nI (kLen i)) :: st) n I R) : X g cx mt F cs pc ls (.ref (1000 + (10 + i)) :: st) n I R := by
  intro ok H locs lsA hR hS hL
  have hKH := ok.2.2.2.2.2.2.2.2.2.2
  obtain ⟨cell, h1, h2, h3, h4, h5, h6, h7⟩ := (hKH.1.1 i hi).2.2.2.kept hS.2.1
  show W _ _ _ _ _ _ _ _ _ _ _ _ _ _ _ (F0 _ pc lsA (.ref (xad g (1000 + (10 + i))) :: st.map (xv g)))
  rw [xad_hi]
  exact W.alen (n := nI (kLen i)) ok.1 ok.2.1 h1 h2 h5 rfl rfl hd (kk ok H locs lsA hR hS hL)
theorem x_baldK {i j : Nat} (hi : i < 5) (hj : j < kLen i) (hd : decode mt.2.1 pc = .ok (.baload, 1)) (kk : X g cx mt F cs (pc + 1) ls (.int (kTx i j) :: st) n I R) : X g cx mt F cs pc ls (.int (nI j) :: .ref (1000 + (10 + i)) :: st) n I R := by
  intro ok H locs lsA hR hS hL
  have hKH := ok.2.2.2.2.2.2.2.2.2.2
  obtain ⟨cell, h1, h2, h3, h4, h5, h6, h7⟩ := (hKH.1.1 i hi).2.2.2.kept hS.2.1
  have hk := kLen_5 hi
  have hc : (nI j).toNatClampNeg = j := nI_clamp (by omega)
  show W _ _ _ _ _ _ _ _ _ _ _ _ _ _ _ (F0 _ pc lsA (.int (nI j) :: .ref (xad g (1000 + (10 + i))) :: st.map (xv g)))
  rw [xad_hi]
  exact W.bald (v := .int (kTx i j)) ok.1 ok.2.1 h1 h2 h3 (by
    rw [hc]
    rintro (q | q)
    · exact nI_pos (by omega) q
    · exact absurd hj (by have : ([3, 4, 4, 5, 3] : List Nat).getD i 0 = kLen i := rfl; omega)) (by rw [hc]; exact h6 j hj) rfl rfl hd (kk ok H locs lsA hR hS hL)
/-- a call on one of the five names -/
theorem x_callK {mt' : MT} {idx i : Nat} {av : List Value} {st0 : List Value} {r : Option Value} (hi : i < 5) (hcl : mt'.1.cls = "java/lang/String") (hsp : Spd mt' (.ref (1000 + i) :: av) I R r I) (hm : xM mt') (hin : Cond.instanceMethod mt'.1 ∈ XT) (hse : Cond.selects mt'.1.cls mt'.1 mt'.1 ∈ XT) (hl : Cond.methodLink mt.1.cls idx mt'.1 ∈ XT) (hroom : xRoom mt mt') (hd : decode mt.2.1 pc = .ok (.invokevirtual idx, 3)) (hst : st0 = av.reverse ++ .ref (1000 + i) :: st) (hn : av.length = mt'.2.2.2.2.2) (hcat : (st.map fun v => v.category).sum ≤ 8) (h0 : xNo mt') (hf : xFit mt cs) (k : X g cx mt F cs (pc + 3) ls (r.toList ++ st) 137 I R) : X g cx mt F cs pc ls st0 137 I R := by
  intro ok H locs lsA hR hS hL
  have hts := ok.2.2.2.2.2.2.1
  have hKH := ok.2.2.2.2.2.2.2.2.2.2
  have hrc : ∃ cellB : Cell, H[xad g (1000 + i)]? = some cellB ∧ cellB.vm.isStatics = false ∧ cx.2.2.2.1.vm.findClass mt'.1.cls = some cellB.cls := by
    rw [xad_hi, hcl]
    exact vk_recv (A := fun q => g.1.1 ≤ q) hKH.1 hi hS
  refine x_behind (mt' := mt') (cs' := cs) ok hS hL (xNo_cs h0) (va_runV (Ts := XT) (C := mt'.1.cls) (b := xad g (1000 + i)) (nL := mt.2.2.1) (n := mt'.2.2.2.2.2) (bytes := mt'.2.1) (maxL := mt'.2.2.1) (ret := mt'.2.2.2.1) (As := av.map (xv g)) (rest := st.map (xv g)) ⟨ok.1, ok.2.1, ok.2.2.2.1, ok.2.2.2.2.1, hts⟩ (hsp g cx.2.1) ⟨callB_of _ hts (x_goodC hm.1) rfl rfl rfl (hts _ hm.2.1) (hts _ hl) hm.2.2 hroom, hts _ hin, hts _ hse⟩ ⟨xPc.blind g (.ref (1000 + i) :: av) 137 I R, hrc, xPS (av := .ref (1000 + i) :: av) ok hR hS⟩ rfl (by rw [List.length_map]; exact hn) hL.1.1 ?_ (lv_room (x_cats hcat)) hd (xNo_fit h0 hf)) (fun r' n' I2 R2 hq => by obtain ⟨rfl, rfl, rfl, rfl⟩ := hq; exact k)
  show st0.map (xv g) = _
  rw [hst, List.map_append, List.map_reverse]; rfl
end CM
section CL
variable {I : MI} {R : MR} {i : Nat}
theorem sp_coder (hi : i < 5) : Spd mJ0_coder_7d493 [.ref (1000 + i)] I R (some (.int 0)) I := by
  refine Spd.mkF (by decide +kernel) (by simp [Value.category]) (Nat.le_of_ble_eq_true rfl) (fun g cx => ?_)
  refine x_getsC wf_J0_38 dJ0_coder_7d493_0 ?_
  refine x_if_eqF dJ0_coder_7d493_3 (by decide) ?_ 13 (by decide)
  refine x_aload_n dJ0_coder_7d493_6 rfl rfl ?_
  refine x_getKc hi wf_J0_15 dJ0_coder_7d493_7 ?_
  refine x_goto 14 dJ0_coder_7d493_10 (by decide) ?_
  refine x_zret dJ0_coder_7d493_14 rfl rfl (by decide) (by decide) ?_
  exact ⟨rfl, rfl, rfl, rfl⟩
theorem sp_isLatin1 (hi : i < 5) : Spd mJ0_isLatin1_aae02 [.ref (1000 + i)] I R (some (.int (nI 1))) I := by
  refine Spd.mkF (by decide +kernel) (by simp [Value.category]) (Nat.le_of_ble_eq_true rfl) (fun g cx => ?_)
  refine x_getsC wf_J0_38 dJ0_isLatin1_aae02_0 ?_
  refine x_if_eqF dJ0_isLatin1_aae02_3 (by decide) ?_ 17 (by decide)
  refine x_aload_n dJ0_isLatin1_aae02_6 rfl rfl ?_
  refine x_getKc hi wf_J0_15 dJ0_isLatin1_aae02_7 ?_
  refine x_if_neF dJ0_isLatin1_aae02_10 (rfl) ?_ 17 (by decide)
  refine x_iconst (nI 1) dJ0_isLatin1_aae02_13 (by decide) ?_
  refine x_goto 18 dJ0_isLatin1_aae02_14 (by decide) ?_
  refine x_zret dJ0_isLatin1_aae02_18 rfl rfl (by decide) (by decide) ?_
  exact ⟨rfl, rfl, rfl, rfl⟩
theorem sp_strLen (hi : i < 5) : Spd mJ0_length_8abf5 [.ref (1000 + i)] I R (some (.int (nI (kLen i)))) I := by
  refine Spd.mkF (by decide +kernel) (by simp [Value.category]) (Nat.le_of_ble_eq_true rfl) (fun g cx => ?_)
  have e : nI (kLen i) >>> ((0 : Int32) &&& 31) = nI (kLen i) := by
    have key : ∀ i, i < 5 → nI (kLen i) >>> ((0 : Int32) &&& 31) = nI (kLen i) := by decide +kernel
    exact key i hi
  refine x_aload_n dJ0_length_8abf5_0 rfl rfl ?_
  refine x_getKv hi wf_J0_9 dJ0_length_8abf5_1 ?_
  refine x_alenK hi dJ0_length_8abf5_4 ?_
  refine x_aload_n dJ0_length_8abf5_5 rfl rfl ?_
  refine x_callK (i := i) (mt' := mJ0_coder_7d493) hi rfl (sp_coder hi) kJ0_coder_7d493 wi_J0_coder_7d493 ws_J0_coder_7d493 wl_J0_335 (by decide) dJ0_length_8abf5_6 rfl rfl (Nat.le_of_ble_eq_true rfl) ⟨rfl, rfl⟩ (by decide) ?_
  refine x_ishr dJ0_length_8abf5_9 ?_
  refine x_eqtop e ?_
  refine x_iret dJ0_length_8abf5_10 rfl (by decide) (by decide) ?_
  exact ⟨rfl, rfl, rfl, rfl⟩
theorem sp_pci {x y : Int32} {f : Value} (h0 : ¬ x < 0) (h1 : x < y) (hf : f.category = 1) : Spd mJ3_checkIndex_8e157 [.int x, .int y, f] I R (some (.int x)) I := by
  refine Spd.mkF (by decide +kernel) (by simp [Value.category]; exact hf) (Nat.le_of_ble_eq_true rfl) (fun g cx => ?_)
  refine x_iload_n dJ3_checkIndex_8e157_0 rfl rfl ?_
  refine x_if_ltF dJ3_checkIndex_8e157_1 (h0) ?_ 9 (by decide)
  refine x_iload_n dJ3_checkIndex_8e157_4 rfl rfl ?_
  refine x_iload_n dJ3_checkIndex_8e157_5 rfl rfl ?_
  refine x_icmp_ltT 16 dJ3_checkIndex_8e157_6 (by decide) (h1) ?_
  refine x_iload_n dJ3_checkIndex_8e157_16 rfl rfl ?_
  refine x_iret dJ3_checkIndex_8e157_17 rfl (by decide) (by decide) ?_
  exact ⟨rfl, rfl, rfl, rfl⟩
theorem sp_ci {x y : Int32} (h0 : ¬ x < 0) (h1 : x < y) : Spd mJ0_checkIndex_df160 [.int x, .int y] I R none I := by
  refine Spd.mkF (by decide +kernel) (by simp [Value.category]) (Nat.le_of_ble_eq_true rfl) (fun g cx => ?_)
  refine x_iload_n dJ0_checkIndex_df160_0 rfl rfl ?_
  refine x_iload_n dJ0_checkIndex_df160_1 rfl rfl ?_
  refine x_getsF wf_J0_1053 dJ0_checkIndex_df160_2 ?_ ?_
  · skip
    refine x_callSd0 (mt' := mJ3_checkIndex_8e157) (sp_pci h0 h1 rfl) ktJ3_checkIndex_8e157 wl_J0_1059 (by decide) dJ0_checkIndex_df160_5 rfl rfl (Nat.le_of_ble_eq_true rfl) ⟨rfl, rfl⟩ (by decide) ?_
    refine x_pop dJ0_checkIndex_df160_8 rfl ?_
    refine x_vret dJ0_checkIndex_df160_9 rfl (by decide) (by decide) ?_
    exact ⟨rfl, rfl, rfl, rfl⟩
  · skip
    refine x_callSd0 (mt' := mJ3_checkIndex_8e157) (sp_pci h0 h1 rfl) ktJ3_checkIndex_8e157 wl_J0_1059 (by decide) dJ0_checkIndex_df160_5 rfl rfl (Nat.le_of_ble_eq_true rfl) ⟨rfl, rfl⟩ (by decide) ?_
    refine x_pop dJ0_checkIndex_df160_8 rfl ?_
    refine x_vret dJ0_checkIndex_df160_9 rfl (by decide) (by decide) ?_
    exact ⟨rfl, rfl, rfl, rfl⟩
theorem sp_l1char (hi : i < 5) {j : Nat} (hj : j < kLen i) : Spd mJ1_charAt_3b067 [.ref (1000 + (10 + i)), .int (nI j)] I R (some (.int (kTx i j))) I := by
  refine Spd.mkF (by decide +kernel) (by simp [Value.category]) (Nat.le_of_ble_eq_true rfl) (fun g cx => ?_)
  have hk := kLen_5 hi
  refine x_iload_n dJ1_charAt_3b067_0 rfl rfl ?_
  refine x_aload_n dJ1_charAt_3b067_1 rfl rfl ?_
  refine x_alenK hi dJ1_charAt_3b067_2 ?_
  refine x_callSd0 (mt' := mJ0_checkIndex_df160) (sp_ci (nI_pos (by omega)) ((nI_ltI (by omega) (by omega)).mpr hj)) ktJ0_checkIndex_df160 wl_J1_9 (by decide) dJ1_charAt_3b067_3 rfl rfl (Nat.le_of_ble_eq_true rfl) ⟨rfl, rfl⟩ (by decide) ?_
  refine x_aload_n dJ1_charAt_3b067_6 rfl rfl ?_
  refine x_iload_n dJ1_charAt_3b067_7 rfl rfl ?_
  refine x_baldK hi hj dJ1_charAt_3b067_8 ?_
  refine x_sipush (nI 255) dJ1_charAt_3b067_9 (by decide) ?_
  refine x_iand dJ1_charAt_3b067_12 ?_
  refine x_i2c dJ1_charAt_3b067_13 ?_
  refine x_eqtop (kTx_ch hi hj).1 ?_
  refine x_zret dJ1_charAt_3b067_14 rfl (kTx_ch hi hj).2 (by decide) (by decide) ?_
  exact ⟨rfl, rfl, rfl, rfl⟩
theorem sp_charAt (hi : i < 5) {j : Nat} (hj : j < kLen i) : Spd mJ0_charAt_5068e [.ref (1000 + i), .int (nI j)] I R (some (.int (kTx i j))) I := by
  refine Spd.mkF (by decide +kernel) (by simp [Value.category]) (Nat.le_of_ble_eq_true rfl) (fun g cx => ?_)
  refine x_aload_n dJ0_charAt_5068e_0 rfl rfl ?_
  refine x_callK (i := i) (mt' := mJ0_isLatin1_aae02) hi rfl (sp_isLatin1 hi) kJ0_isLatin1_aae02 wi_J0_isLatin1_aae02 ws_J0_isLatin1_aae02 wl_J0_492 (by decide) dJ0_charAt_5068e_1 rfl rfl (Nat.le_of_ble_eq_true rfl) ⟨rfl, rfl⟩ (by decide) ?_
  refine x_if_eqF dJ0_charAt_5068e_4 (by decide) ?_ 16 (by decide)
  refine x_aload_n dJ0_charAt_5068e_7 rfl rfl ?_
  refine x_getKv hi wf_J0_9 dJ0_charAt_5068e_8 ?_
  refine x_iload_n dJ0_charAt_5068e_11 rfl rfl ?_
  refine x_callSd0 (mt' := mJ1_charAt_3b067) (sp_l1char hi hj) ktJ1_charAt_3b067 wl_J0_495 (by decide) dJ0_charAt_5068e_12 rfl rfl (Nat.le_of_ble_eq_true rfl) ⟨rfl, rfl⟩ (by decide) ?_
  refine x_zret dJ0_charAt_5068e_15 rfl (kTx_ch hi hj).2 (by decide) (by decide) ?_
  exact ⟨rfl, rfl, rfl, rfl⟩
end CL
