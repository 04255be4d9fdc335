/-! the reference: message, bit, emptyIn, ifRun, count, text, history, snapshot -/
theorem pTk_tick (Z : MI) : ∀ j, pTk (pTick Z) j = pTk Z (j + 1) := by
  intro j
  induction j with
  | zero => rfl
  | succ j ih => show pTick (pTk (pTick Z) j) = _; rw [ih]; rfl
theorem cpA_cpA {f h g : Nat → Int32} {n : Nat} : cpA (cpA f h n) g n = cpA f g n := by
  funext i
  simp only [cpA]
  by_cases h : i < n
  · simp [h]
  · simp [h]
theorem em_eq (a : Int32) (n : Nat) : (if (if a = 0 then nI 1 else nI 0) = 0 then -5 else nI n) = if a = 0 then nI n else -5 := by
  by_cases h : a = 0
  · rw [if_pos h, if_pos h, if_neg (by decide)]
  · rw [if_neg h, if_neg h, if_pos (by decide)]
/-- the row Z brought back over the row Y -/
def pBk (Z Y : MI) : MI := uz (cpA (zf Z) (zf Y) 375)
section ML
variable {I : MI} {R : MR} {φ α β κ τ : Nat → Int32} {Z : MI}
theorem sp_X6_message (hM : Md R) (s p w : Int32) (hN : N5 Z) : Spd mX6_message [.ref 131, .int s, .int p, .int w] (MM I φ Z α β κ τ) R (some (.int (pMsg Z s p w))) (MM I φ Z α β κ τ) := by
  refine Spd.mk (by decide +kernel) (by simp [Value.category]) (Nat.le_of_ble_eq_true rfl) (fun g cx => ?_)
  by_cases h1 : inr s (nI 0) (nI 3) = true
  · obtain ⟨k, -, hk, rfl⟩ := inr_of (by omega) h1 (by omega)
    have hkc : (nI k).toNatClampNeg = k := nI_cl (by omega)
    by_cases h2 : inr p (nI 0) (Z k 0 - nI 1) = true
    · obtain ⟨m, hm5, hm⟩ := hN k (by omega)
      obtain ⟨j, hj5, rfl⟩ : ∃ j, j < 5 ∧ p = nI j := by
        rw [hm] at h2
        cases m with
        | zero =>
          exfalso
          unfold inr at h2
          rw [decide_eq_true_eq] at h2
          have q := Int32.le_iff_toInt_le.mp (Int32.le_trans h2.1 h2.2)
          have : (nI 0).toInt = 0 := rfl
          have : (nI 0 - nI 1).toInt = -1 := by decide
          omega
        | succ m =>
          rw [nI_sub1 (by omega)] at h2
          obtain ⟨j, -, h3, rfl⟩ := inr_of (by omega) h2 (by omega)
          exact ⟨j, by omega, rfl⟩
      have e : pMsg Z (nI k) (nI j) w = pMsW Z k j w := by unfold pMsg; rw [hkc, if_pos ⟨h1, h2⟩, nI_cl (by omega)]
      rw [e]
      rcases tab_split w 4 (by omega) with ⟨i, hi, rfl⟩ | hout
      · rcases (show i = 0 ∨ i = 1 ∨ i = 2 ∨ i = 3 ∨ i = 4 by omega) with rfl | rfl | rfl | rfl | rfl
        · skip
          refine x_iload_n dX6_message_0 rfl rfl ?_
          refine x_callSd0 (mt' := mX6_isOne) (sp_X6_isOne _) ktX6_isOne wl_X6_109 (by decide) dX6_message_1 rfl rfl (Nat.le_of_ble_eq_true rfl) ⟨rfl, rfl⟩ (by decide) ?_
          refine x_if_eq 27 dX6_message_4 (by decide) (fun c4 => ?_) (fun c4 => ?_)
          · skip
            exact absurd h1 (bi_t c4)
          · skip
            refine x_iload_n dX6_message_7 rfl rfl ?_
            refine x_iconst (nI 0) dX6_message_8 (by decide) ?_
            refine x_aload_n dX6_message_9 rfl rfl ?_
            refine x_getR fl_X6_7 dX6_message_10 xk_131 (by decide) rfl (hM 0 _ rfl) ?_
            refine x_iload_n dX6_message_13 rfl rfl ?_
            refine x_iconst (nI 0) dX6_message_14 (by decide) ?_
            refine x_callSd0 (mt' := mX6_of) (sp_X6_of _ _) ktX6_of wl_X6_33 (by decide) dX6_message_15 rfl rfl (Nat.le_of_ble_eq_true rfl) ⟨rfl, rfl⟩ (by decide) ?_
            refine x_ldS dX6_message_18 (by omega) (zf_sp (by omega) (by omega)) ?_
            refine x_iconst (nI 1) dX6_message_19 (by decide) ?_
            refine x_isub dX6_message_20 ?_
            refine x_callSd0 (mt' := mX6_in) (sp_X6_in _ _ _) ktX6_in wl_X6_36 (by decide) dX6_message_21 rfl rfl (Nat.le_of_ble_eq_true rfl) ⟨rfl, rfl⟩ (by decide) ?_
            refine x_if_ne 29 dX6_message_24 (by decide) (fun c24 => ?_) (fun c24 => ?_)
            · skip
              refine x_iload_n dX6_message_29 rfl rfl ?_
              refine x_tableIn (off := 34) 64 dX6_message_30 (by decide) (by decide) (by decide) (by decide) ?_
              refine x_aload_n dX6_message_64 rfl rfl ?_
              refine x_iload_n dX6_message_65 rfl rfl ?_
              refine x_iload_n dX6_message_66 rfl rfl ?_
              refine x_iload_n dX6_message_67 rfl rfl ?_
              refine x_callVd0 (mt' := mX6_inMessage) (sp_X6_inMessage hM (by omega) (by omega)) kvX6_inMessage wl_X6_43 (by decide) dX6_message_68 xk_131 (by decide) rfl rfl (Nat.le_of_ble_eq_true rfl) ⟨rfl, rfl⟩ (by decide) ?_
              refine x_iret dX6_message_71 rfl (by decide) (by decide) ?_
              exact ⟨rfl, rfl, rfl, rfl⟩
            · skip
              exact absurd h2 (bi_t c24)
        · skip
          refine x_iload_n dX6_message_0 rfl rfl ?_
          refine x_callSd0 (mt' := mX6_isOne) (sp_X6_isOne _) ktX6_isOne wl_X6_109 (by decide) dX6_message_1 rfl rfl (Nat.le_of_ble_eq_true rfl) ⟨rfl, rfl⟩ (by decide) ?_
          refine x_if_eq 27 dX6_message_4 (by decide) (fun c4 => ?_) (fun c4 => ?_)
          · skip
            exact absurd h1 (bi_t c4)
          · skip
            refine x_iload_n dX6_message_7 rfl rfl ?_
            refine x_iconst (nI 0) dX6_message_8 (by decide) ?_
            refine x_aload_n dX6_message_9 rfl rfl ?_
            refine x_getR fl_X6_7 dX6_message_10 xk_131 (by decide) rfl (hM 0 _ rfl) ?_
            refine x_iload_n dX6_message_13 rfl rfl ?_
            refine x_iconst (nI 0) dX6_message_14 (by decide) ?_
            refine x_callSd0 (mt' := mX6_of) (sp_X6_of _ _) ktX6_of wl_X6_33 (by decide) dX6_message_15 rfl rfl (Nat.le_of_ble_eq_true rfl) ⟨rfl, rfl⟩ (by decide) ?_
            refine x_ldS dX6_message_18 (by omega) (zf_sp (by omega) (by omega)) ?_
            refine x_iconst (nI 1) dX6_message_19 (by decide) ?_
            refine x_isub dX6_message_20 ?_
            refine x_callSd0 (mt' := mX6_in) (sp_X6_in _ _ _) ktX6_in wl_X6_36 (by decide) dX6_message_21 rfl rfl (Nat.le_of_ble_eq_true rfl) ⟨rfl, rfl⟩ (by decide) ?_
            refine x_if_ne 29 dX6_message_24 (by decide) (fun c24 => ?_) (fun c24 => ?_)
            · skip
              refine x_iload_n dX6_message_29 rfl rfl ?_
              refine x_tableIn (off := 34) 64 dX6_message_30 (by decide) (by decide) (by decide) (by decide) ?_
              refine x_aload_n dX6_message_64 rfl rfl ?_
              refine x_iload_n dX6_message_65 rfl rfl ?_
              refine x_iload_n dX6_message_66 rfl rfl ?_
              refine x_iload_n dX6_message_67 rfl rfl ?_
              refine x_callVd0 (mt' := mX6_inMessage) (sp_X6_inMessage hM (by omega) (by omega)) kvX6_inMessage wl_X6_43 (by decide) dX6_message_68 xk_131 (by decide) rfl rfl (Nat.le_of_ble_eq_true rfl) ⟨rfl, rfl⟩ (by decide) ?_
              refine x_iret dX6_message_71 rfl (by decide) (by decide) ?_
              exact ⟨rfl, rfl, rfl, rfl⟩
            · skip
              exact absurd h2 (bi_t c24)
        · skip
          refine x_iload_n dX6_message_0 rfl rfl ?_
          refine x_callSd0 (mt' := mX6_isOne) (sp_X6_isOne _) ktX6_isOne wl_X6_109 (by decide) dX6_message_1 rfl rfl (Nat.le_of_ble_eq_true rfl) ⟨rfl, rfl⟩ (by decide) ?_
          refine x_if_eq 27 dX6_message_4 (by decide) (fun c4 => ?_) (fun c4 => ?_)
          · skip
            exact absurd h1 (bi_t c4)
          · skip
            refine x_iload_n dX6_message_7 rfl rfl ?_
            refine x_iconst (nI 0) dX6_message_8 (by decide) ?_
            refine x_aload_n dX6_message_9 rfl rfl ?_
            refine x_getR fl_X6_7 dX6_message_10 xk_131 (by decide) rfl (hM 0 _ rfl) ?_
            refine x_iload_n dX6_message_13 rfl rfl ?_
            refine x_iconst (nI 0) dX6_message_14 (by decide) ?_
            refine x_callSd0 (mt' := mX6_of) (sp_X6_of _ _) ktX6_of wl_X6_33 (by decide) dX6_message_15 rfl rfl (Nat.le_of_ble_eq_true rfl) ⟨rfl, rfl⟩ (by decide) ?_
            refine x_ldS dX6_message_18 (by omega) (zf_sp (by omega) (by omega)) ?_
            refine x_iconst (nI 1) dX6_message_19 (by decide) ?_
            refine x_isub dX6_message_20 ?_
            refine x_callSd0 (mt' := mX6_in) (sp_X6_in _ _ _) ktX6_in wl_X6_36 (by decide) dX6_message_21 rfl rfl (Nat.le_of_ble_eq_true rfl) ⟨rfl, rfl⟩ (by decide) ?_
            refine x_if_ne 29 dX6_message_24 (by decide) (fun c24 => ?_) (fun c24 => ?_)
            · skip
              refine x_iload_n dX6_message_29 rfl rfl ?_
              refine x_tableIn (off := 34) 64 dX6_message_30 (by decide) (by decide) (by decide) (by decide) ?_
              refine x_aload_n dX6_message_64 rfl rfl ?_
              refine x_iload_n dX6_message_65 rfl rfl ?_
              refine x_iload_n dX6_message_66 rfl rfl ?_
              refine x_iload_n dX6_message_67 rfl rfl ?_
              refine x_callVd0 (mt' := mX6_inMessage) (sp_X6_inMessage hM (by omega) (by omega)) kvX6_inMessage wl_X6_43 (by decide) dX6_message_68 xk_131 (by decide) rfl rfl (Nat.le_of_ble_eq_true rfl) ⟨rfl, rfl⟩ (by decide) ?_
              refine x_iret dX6_message_71 rfl (by decide) (by decide) ?_
              exact ⟨rfl, rfl, rfl, rfl⟩
            · skip
              exact absurd h2 (bi_t c24)
        · skip
          refine x_iload_n dX6_message_0 rfl rfl ?_
          refine x_callSd0 (mt' := mX6_isOne) (sp_X6_isOne _) ktX6_isOne wl_X6_109 (by decide) dX6_message_1 rfl rfl (Nat.le_of_ble_eq_true rfl) ⟨rfl, rfl⟩ (by decide) ?_
          refine x_if_eq 27 dX6_message_4 (by decide) (fun c4 => ?_) (fun c4 => ?_)
          · skip
            exact absurd h1 (bi_t c4)
          · skip
            refine x_iload_n dX6_message_7 rfl rfl ?_
            refine x_iconst (nI 0) dX6_message_8 (by decide) ?_
            refine x_aload_n dX6_message_9 rfl rfl ?_
            refine x_getR fl_X6_7 dX6_message_10 xk_131 (by decide) rfl (hM 0 _ rfl) ?_
            refine x_iload_n dX6_message_13 rfl rfl ?_
            refine x_iconst (nI 0) dX6_message_14 (by decide) ?_
            refine x_callSd0 (mt' := mX6_of) (sp_X6_of _ _) ktX6_of wl_X6_33 (by decide) dX6_message_15 rfl rfl (Nat.le_of_ble_eq_true rfl) ⟨rfl, rfl⟩ (by decide) ?_
            refine x_ldS dX6_message_18 (by omega) (zf_sp (by omega) (by omega)) ?_
            refine x_iconst (nI 1) dX6_message_19 (by decide) ?_
            refine x_isub dX6_message_20 ?_
            refine x_callSd0 (mt' := mX6_in) (sp_X6_in _ _ _) ktX6_in wl_X6_36 (by decide) dX6_message_21 rfl rfl (Nat.le_of_ble_eq_true rfl) ⟨rfl, rfl⟩ (by decide) ?_
            refine x_if_ne 29 dX6_message_24 (by decide) (fun c24 => ?_) (fun c24 => ?_)
            · skip
              refine x_iload_n dX6_message_29 rfl rfl ?_
              refine x_tableIn (off := 42) 72 dX6_message_30 (by decide) (by decide) (by decide) (by decide) ?_
              refine x_aload_n dX6_message_72 rfl rfl ?_
              refine x_iload_n dX6_message_73 rfl rfl ?_
              refine x_iload_n dX6_message_74 rfl rfl ?_
              refine x_iconst (nI 2) dX6_message_75 (by decide) ?_
              refine x_callVd0 (mt' := mX6_inMessage) (sp_X6_inMessage hM (by omega) (by omega)) kvX6_inMessage wl_X6_43 (by decide) dX6_message_76 xk_131 (by decide) rfl rfl (Nat.le_of_ble_eq_true rfl) ⟨rfl, rfl⟩ (by decide) ?_
              refine x_callSd0 (mt' := mX6_bitsOf) (sp_X6_bitsOf _) ktX6_bitsOf wl_X6_78 (by decide) dX6_message_79 rfl rfl (Nat.le_of_ble_eq_true rfl) ⟨rfl, rfl⟩ (by decide) ?_
              refine x_iret dX6_message_82 rfl (by decide) (by decide) ?_
              exact ⟨rfl, rfl, rfl, rfl⟩
            · skip
              exact absurd h2 (bi_t c24)
        · skip
          refine x_iload_n dX6_message_0 rfl rfl ?_
          refine x_callSd0 (mt' := mX6_isOne) (sp_X6_isOne _) ktX6_isOne wl_X6_109 (by decide) dX6_message_1 rfl rfl (Nat.le_of_ble_eq_true rfl) ⟨rfl, rfl⟩ (by decide) ?_
          refine x_if_eq 27 dX6_message_4 (by decide) (fun c4 => ?_) (fun c4 => ?_)
          · skip
            exact absurd h1 (bi_t c4)
          · skip
            refine x_iload_n dX6_message_7 rfl rfl ?_
            refine x_iconst (nI 0) dX6_message_8 (by decide) ?_
            refine x_aload_n dX6_message_9 rfl rfl ?_
            refine x_getR fl_X6_7 dX6_message_10 xk_131 (by decide) rfl (hM 0 _ rfl) ?_
            refine x_iload_n dX6_message_13 rfl rfl ?_
            refine x_iconst (nI 0) dX6_message_14 (by decide) ?_
            refine x_callSd0 (mt' := mX6_of) (sp_X6_of _ _) ktX6_of wl_X6_33 (by decide) dX6_message_15 rfl rfl (Nat.le_of_ble_eq_true rfl) ⟨rfl, rfl⟩ (by decide) ?_
            refine x_ldS dX6_message_18 (by omega) (zf_sp (by omega) (by omega)) ?_
            refine x_iconst (nI 1) dX6_message_19 (by decide) ?_
            refine x_isub dX6_message_20 ?_
            refine x_callSd0 (mt' := mX6_in) (sp_X6_in _ _ _) ktX6_in wl_X6_36 (by decide) dX6_message_21 rfl rfl (Nat.le_of_ble_eq_true rfl) ⟨rfl, rfl⟩ (by decide) ?_
            refine x_if_ne 29 dX6_message_24 (by decide) (fun c24 => ?_) (fun c24 => ?_)
            · skip
              refine x_iload_n dX6_message_29 rfl rfl ?_
              refine x_tableIn (off := 53) 83 dX6_message_30 (by decide) (by decide) (by decide) (by decide) ?_
              refine x_aload_n dX6_message_83 rfl rfl ?_
              refine x_iload_n dX6_message_84 rfl rfl ?_
              refine x_iload_n dX6_message_85 rfl rfl ?_
              refine x_callVd0 (mt' := mX6_ticksOf) (sp_X6_ticksOf hM (by omega) (by omega)) kvX6_ticksOf wl_X6_207 (by decide) dX6_message_86 xk_131 (by decide) rfl rfl (Nat.le_of_ble_eq_true rfl) ⟨rfl, rfl⟩ (by decide) ?_
              refine x_iret dX6_message_89 rfl (by decide) (by decide) ?_
              exact ⟨rfl, rfl, rfl, rfl⟩
            · skip
              exact absurd h2 (bi_t c24)
      · have e2 : pMsW Z k j w = -2 := by
          unfold pMsW
          rw [if_neg (tab_ne (n := 4) (by omega) hout (by omega)), if_neg (tab_ne (n := 4) (by omega) hout (by omega)), if_neg (tab_ne (n := 4) (by omega) hout (by omega)), if_neg (tab_ne (n := 4) (by omega) hout (by omega)), if_neg (tab_ne (n := 4) (by omega) hout (by omega))]
        rw [e2]
        refine x_iload_n dX6_message_0 rfl rfl ?_
        refine x_callSd0 (mt' := mX6_isOne) (sp_X6_isOne _) ktX6_isOne wl_X6_109 (by decide) dX6_message_1 rfl rfl (Nat.le_of_ble_eq_true rfl) ⟨rfl, rfl⟩ (by decide) ?_
        refine x_if_eq 27 dX6_message_4 (by decide) (fun c4 => ?_) (fun c4 => ?_)
        · skip
          exact absurd h1 (bi_t c4)
        · skip
          refine x_iload_n dX6_message_7 rfl rfl ?_
          refine x_iconst (nI 0) dX6_message_8 (by decide) ?_
          refine x_aload_n dX6_message_9 rfl rfl ?_
          refine x_getR fl_X6_7 dX6_message_10 xk_131 (by decide) rfl (hM 0 _ rfl) ?_
          refine x_iload_n dX6_message_13 rfl rfl ?_
          refine x_iconst (nI 0) dX6_message_14 (by decide) ?_
          refine x_callSd0 (mt' := mX6_of) (sp_X6_of _ _) ktX6_of wl_X6_33 (by decide) dX6_message_15 rfl rfl (Nat.le_of_ble_eq_true rfl) ⟨rfl, rfl⟩ (by decide) ?_
          refine x_ldS dX6_message_18 (by omega) (zf_sp (by omega) (by omega)) ?_
          refine x_iconst (nI 1) dX6_message_19 (by decide) ?_
          refine x_isub dX6_message_20 ?_
          refine x_callSd0 (mt' := mX6_in) (sp_X6_in _ _ _) ktX6_in wl_X6_36 (by decide) dX6_message_21 rfl rfl (Nat.le_of_ble_eq_true rfl) ⟨rfl, rfl⟩ (by decide) ?_
          refine x_if_ne 29 dX6_message_24 (by decide) (fun c24 => ?_) (fun c24 => ?_)
          · skip
            refine x_iload_n dX6_message_29 rfl rfl ?_
            refine x_tableOut 90 dX6_message_30 (by simpa using hout) (by decide) ?_
            refine x_bipush (-2) dX6_message_90 (by decide) ?_
            refine x_iret dX6_message_92 rfl (by decide) (by decide) ?_
            exact ⟨rfl, rfl, rfl, rfl⟩
          · skip
            exact absurd h2 (bi_t c24)
    · have e : pMsg Z (nI k) p w = -1 := by unfold pMsg; rw [hkc, if_neg (fun q => h2 q.2)]
      rw [e]
      refine x_iload_n dX6_message_0 rfl rfl ?_
      refine x_callSd0 (mt' := mX6_isOne) (sp_X6_isOne _) ktX6_isOne wl_X6_109 (by decide) dX6_message_1 rfl rfl (Nat.le_of_ble_eq_true rfl) ⟨rfl, rfl⟩ (by decide) ?_
      refine x_if_eq 27 dX6_message_4 (by decide) (fun c4 => ?_) (fun c4 => ?_)
      · skip
        exact absurd h1 (bi_t c4)
      · skip
        refine x_iload_n dX6_message_7 rfl rfl ?_
        refine x_iconst (nI 0) dX6_message_8 (by decide) ?_
        refine x_aload_n dX6_message_9 rfl rfl ?_
        refine x_getR fl_X6_7 dX6_message_10 xk_131 (by decide) rfl (hM 0 _ rfl) ?_
        refine x_iload_n dX6_message_13 rfl rfl ?_
        refine x_iconst (nI 0) dX6_message_14 (by decide) ?_
        refine x_callSd0 (mt' := mX6_of) (sp_X6_of _ _) ktX6_of wl_X6_33 (by decide) dX6_message_15 rfl rfl (Nat.le_of_ble_eq_true rfl) ⟨rfl, rfl⟩ (by decide) ?_
        refine x_ldS dX6_message_18 (by omega) (zf_sp (by omega) (by omega)) ?_
        refine x_iconst (nI 1) dX6_message_19 (by decide) ?_
        refine x_isub dX6_message_20 ?_
        refine x_callSd0 (mt' := mX6_in) (sp_X6_in _ _ _) ktX6_in wl_X6_36 (by decide) dX6_message_21 rfl rfl (Nat.le_of_ble_eq_true rfl) ⟨rfl, rfl⟩ (by decide) ?_
        refine x_if_ne 29 dX6_message_24 (by decide) (fun c24 => ?_) (fun c24 => ?_)
        · skip
          exact absurd (bi_nt c24) h2
        · skip
          refine x_iconst (-1) dX6_message_27 (by decide) ?_
          refine x_iret dX6_message_28 rfl (by decide) (by decide) ?_
          exact ⟨rfl, rfl, rfl, rfl⟩
  · have e : pMsg Z s p w = -1 := by unfold pMsg; rw [if_neg (fun q => h1 q.1)]
    rw [e]
    refine x_iload_n dX6_message_0 rfl rfl ?_
    refine x_callSd0 (mt' := mX6_isOne) (sp_X6_isOne _) ktX6_isOne wl_X6_109 (by decide) dX6_message_1 rfl rfl (Nat.le_of_ble_eq_true rfl) ⟨rfl, rfl⟩ (by decide) ?_
    refine x_if_eq 27 dX6_message_4 (by decide) (fun c4 => ?_) (fun c4 => ?_)
    · skip
      refine x_iconst (-1) dX6_message_27 (by decide) ?_
      refine x_iret dX6_message_28 rfl (by decide) (by decide) ?_
      exact ⟨rfl, rfl, rfl, rfl⟩
    · skip
      exact absurd (bi_nt c4) h1
theorem sp_X6_bit (hM : Md R) (b w : Int32) {L : Nat} (hL : L ≤ 64) (hz : Z 8 10 = nI L) : Spd mX6_bit [.ref 131, .int b, .int w] (MM I φ Z α β κ τ) R (some (.int (pBt2 Z b w))) (MM I φ Z α β κ τ) := by
  refine Spd.mk (by decide +kernel) (by simp [Value.category]) (Nat.le_of_ble_eq_true rfl) (fun g cx => ?_)
  by_cases h1 : b < 0 ∨ inr w (nI 0) (nI 3) = false
  · have e : pBt2 Z b w = -2 := by unfold pBt2; rw [if_pos h1]
    rw [e]
    refine x_iload_n dX6_bit_0 rfl rfl ?_
    refine x_if_lt 13 dX6_bit_1 (by decide) (fun c1 => ?_) (fun c1 => ?_)
    · skip
      refine x_bipush (-2) dX6_bit_13 (by decide) ?_
      refine x_iret dX6_bit_15 rfl (by decide) (by decide) ?_
      exact ⟨rfl, rfl, rfl, rfl⟩
    · skip
      refine x_iload_n dX6_bit_4 rfl rfl ?_
      refine x_iconst (nI 0) dX6_bit_5 (by decide) ?_
      refine x_iconst (nI 3) dX6_bit_6 (by decide) ?_
      refine x_callSd0 (mt' := mX6_in) (sp_X6_in _ _ _) ktX6_in wl_X6_36 (by decide) dX6_bit_7 rfl rfl (Nat.le_of_ble_eq_true rfl) ⟨rfl, rfl⟩ (by decide) ?_
      refine x_if_ne 16 dX6_bit_10 (by decide) (fun c10 => ?_) (fun c10 => ?_)
      · skip
        exact absurd h1 (fun q => q.elim c1 (fun q => by rw [show inr w (nI 0) (nI 3) = true from bi_nt c10] at q; cases q))
      · skip
        refine x_bipush (-2) dX6_bit_13 (by decide) ?_
        refine x_iret dX6_bit_15 rfl (by decide) (by decide) ?_
        exact ⟨rfl, rfl, rfl, rfl⟩
  · by_cases h2 : b < Z 8 10
    · obtain ⟨x, hx, rfl⟩ := nI_of (fun q => h1 (Or.inl q))
      obtain ⟨y, -, hy, rfl⟩ := inr_of (a := 0) (b := 3) (v := w) (by omega) (by simpa using fun q => h1 (Or.inr q)) (by omega)
      have hxL : x < L := by rw [hz] at h2; exact (nI_ltI hx (by omega)).mp h2
      have e : pBt2 Z (nI x) (nI y) = Z 9 (4 * (L - 1 - x) + y) := by unfold pBt2; rw [if_neg h1, if_pos h2, hz, nI_cl (by omega), nI_cl (by omega), nI_cl (by omega)]
      rw [e]
      refine x_iload_n dX6_bit_0 rfl rfl ?_
      refine x_if_lt 13 dX6_bit_1 (by decide) (fun c1 => ?_) (fun c1 => ?_)
      · skip
        exact absurd (Or.inl c1) h1
      · skip
        refine x_iload_n dX6_bit_4 rfl rfl ?_
        refine x_iconst (nI 0) dX6_bit_5 (by decide) ?_
        refine x_iconst (nI 3) dX6_bit_6 (by decide) ?_
        refine x_callSd0 (mt' := mX6_in) (sp_X6_in _ _ _) ktX6_in wl_X6_36 (by decide) dX6_bit_7 rfl rfl (Nat.le_of_ble_eq_true rfl) ⟨rfl, rfl⟩ (by decide) ?_
        refine x_if_ne 16 dX6_bit_10 (by decide) (fun c10 => ?_) (fun c10 => ?_)
        · skip
          refine x_iload_n dX6_bit_16 rfl rfl ?_
          refine x_aload_n dX6_bit_17 rfl rfl ?_
          refine x_getR fl_X6_7 dX6_bit_18 xk_131 (by decide) rfl (hM 0 _ rfl) ?_
          refine x_bipush (nI 118) dX6_bit_21 (by decide) ?_
          refine x_ldS dX6_bit_23 (by omega) zf_118 ?_
          refine x_icmp_lt 32 dX6_bit_24 (by decide) (fun c24 => ?_) (fun c24 => ?_)
          · skip
            refine x_aload_n dX6_bit_32 rfl rfl ?_
            refine x_getR fl_X6_7 dX6_bit_33 xk_131 (by decide) rfl (hM 0 _ rfl) ?_
            refine x_bipush (nI 119) dX6_bit_36 (by decide) ?_
            refine x_iconst (nI 4) dX6_bit_38 (by decide) ?_
            refine x_aload_n dX6_bit_39 rfl rfl ?_
            refine x_getR fl_X6_7 dX6_bit_40 xk_131 (by decide) rfl (hM 0 _ rfl) ?_
            refine x_bipush (nI 118) dX6_bit_43 (by decide) ?_
            refine x_ldS dX6_bit_45 (by omega) zf_118 ?_
            refine x_eqtop (y := nI L) hz ?_
            refine x_iconst (nI 1) dX6_bit_46 (by decide) ?_
            refine x_isubN dX6_bit_47 (by omega) ?_
            refine x_iload_n dX6_bit_48 rfl rfl ?_
            refine x_isubN dX6_bit_49 (by omega) ?_
            refine x_imulN dX6_bit_50 ?_
            refine x_iaddN dX6_bit_51 ?_
            refine x_iload_n dX6_bit_52 rfl rfl ?_
            refine x_iaddN dX6_bit_53 ?_
            refine x_ldS dX6_bit_54 (by omega) (v := Z 9 (4 * (L - 1 - x) + y)) (by rw [Nat.add_assoc]; exact zf_lg) ?_
            refine x_iret dX6_bit_55 rfl (by decide) (by decide) ?_
            exact ⟨rfl, rfl, rfl, rfl⟩
          · skip
            exact absurd h2 c24
        · skip
          exact absurd (Or.inr (bi_0.mp c10)) h1
    · have e : pBt2 Z b w = -5 := by unfold pBt2; rw [if_neg h1, if_neg h2]
      rw [e]
      refine x_iload_n dX6_bit_0 rfl rfl ?_
      refine x_if_lt 13 dX6_bit_1 (by decide) (fun c1 => ?_) (fun c1 => ?_)
      · skip
        exact absurd (Or.inl c1) h1
      · skip
        refine x_iload_n dX6_bit_4 rfl rfl ?_
        refine x_iconst (nI 0) dX6_bit_5 (by decide) ?_
        refine x_iconst (nI 3) dX6_bit_6 (by decide) ?_
        refine x_callSd0 (mt' := mX6_in) (sp_X6_in _ _ _) ktX6_in wl_X6_36 (by decide) dX6_bit_7 rfl rfl (Nat.le_of_ble_eq_true rfl) ⟨rfl, rfl⟩ (by decide) ?_
        refine x_if_ne 16 dX6_bit_10 (by decide) (fun c10 => ?_) (fun c10 => ?_)
        · skip
          refine x_iload_n dX6_bit_16 rfl rfl ?_
          refine x_aload_n dX6_bit_17 rfl rfl ?_
          refine x_getR fl_X6_7 dX6_bit_18 xk_131 (by decide) rfl (hM 0 _ rfl) ?_
          refine x_bipush (nI 118) dX6_bit_21 (by decide) ?_
          refine x_ldS dX6_bit_23 (by omega) zf_118 ?_
          refine x_icmp_lt 32 dX6_bit_24 (by decide) (fun c24 => ?_) (fun c24 => ?_)
          · skip
            exact absurd c24 h2
          · skip
            refine x_bipush (-5) dX6_bit_27 (by decide) ?_
            refine x_goto 55 dX6_bit_29 (by decide) ?_
            refine x_iret dX6_bit_55 rfl (by decide) (by decide) ?_
            exact ⟨rfl, rfl, rfl, rfl⟩
        · skip
          exact absurd (Or.inr (bi_0.mp c10)) h1
theorem sp_X6_emptyIn (hM : Md R) (hW : ∀ j, WT (pTk Z j)) : Spd mX6_emptyIn [.ref 131] (MM I φ Z α β κ τ) R (some (.int (pEmp Z))) (MM I φ (pBk Z (pTk Z (emN Z 1000))) (cpA (zf Z) α 375) β κ τ) := by
  refine Spd.mk (by decide +kernel) (by simp [Value.category]) (Nat.le_of_ble_eq_true rfl) (fun g cx => ?_)
  have key : ∀ (f n : Nat) (Y : MI), n + f = 1000 → (∀ j, WT (pTk Y j)) → X g cx mX6_emptyIn (xF g cx mX6_emptyIn (fun r n I2 R2 => r = some (.int (pEmp Z)) ∧ n = 137 ∧ I2 = MM I φ (pBk Z (pTk Z (emN Z 1000))) (cpA (zf Z) α 375) β κ τ ∧ R2 = R)) (0, 0) 30 [some (.ref 131), some (.int (nI (n + emN Y f))), none] [] 137 (MM I φ (pTk Y (emN Y f)) (cpA (zf Z) α 375) β κ τ) R → X g cx mX6_emptyIn (xF g cx mX6_emptyIn (fun r n I2 R2 => r = some (.int (pEmp Z)) ∧ n = 137 ∧ I2 = MM I φ (pBk Z (pTk Z (emN Z 1000))) (cpA (zf Z) α 375) β κ τ ∧ R2 = R)) (0, 0) 6 [some (.ref 131), some (.int (nI n)), none] [] 137 (MM I φ Y (cpA (zf Z) α 375) β κ τ) R := by
    intro f
    induction f with
    | zero =>
      intro n Y hn hWY hx
      obtain rfl : n = 1000 := by omega
      refine x_iload_n dX6_emptyIn_6 rfl rfl ?_
      refine x_sipush (nI 1000) dX6_emptyIn_7 (by decide) ?_
      refine x_icmp_geN 30 dX6_emptyIn_10 (by decide) (by omega) (by omega) (fun c10 => ?_) (fun c10 => ?_)
      · skip
        exact hx
      · skip
        exact absurd c10 (by omega)
    | succ f ih =>
      intro n Y hn hWY hx
      refine x_iload_n dX6_emptyIn_6 rfl rfl ?_
      refine x_sipush (nI 1000) dX6_emptyIn_7 (by decide) ?_
      refine x_icmp_geN 30 dX6_emptyIn_10 (by decide) (by omega) (by omega) (fun c10 => ?_) (fun c10 => ?_)
      · skip
        exact absurd c10 (by omega)
      · skip
        refine x_aload_n dX6_emptyIn_13 rfl rfl ?_
        refine x_callVd0 (mt' := mX6_messages) (sp_X6_messages hM) kvX6_messages wl_X6_85 (by decide) dX6_emptyIn_14 xk_131 (by decide) rfl rfl (Nat.le_of_ble_eq_true rfl) ⟨rfl, rfl⟩ (by decide) ?_
        refine x_if_le 30 dX6_emptyIn_17 (by decide) (fun c17 => ?_) (fun c17 => ?_)
        · skip
          have e : emN Y (f + 1) = 0 := if_pos c17
          rw [e] at hx
          exact hx
        · skip
          have e : emN Y (f + 1) = emN (pTick Y) f + 1 := if_neg c17
          rw [e, ← pTk_tick, show n + (emN (pTick Y) f + 1) = n + 1 + emN (pTick Y) f by omega] at hx
          refine x_aload_n dX6_emptyIn_20 rfl rfl ?_
          refine x_callVd0 (mt' := mX6_tick) (sp_X6_tick hM (hWY 0)) kvX6_tick wl_X6_116 (by decide) dX6_emptyIn_21 xk_131 (by decide) rfl rfl (Nat.le_of_ble_eq_true rfl) ⟨rfl, rfl⟩ (by decide) ?_
          refine x_iincN 1 dX6_emptyIn_24 rfl (by decide) (by decide) ?_
          refine x_goto 6 dX6_emptyIn_27 (by decide) ?_
          exact ih (n + 1) (pTick Y) (by omega) (fun j => by rw [pTk_tick]; exact hWY (j + 1)) hx
  have hle := emN_le 1000 Z
  refine x_aload_n dX6_emptyIn_0 rfl rfl ?_
  refine x_callVd0 (mt' := mX6_putAside) (sp_X6_putAside hM) kvX6_putAside wl_X6_122 (by decide) dX6_emptyIn_1 xk_131 (by decide) rfl rfl (Nat.le_of_ble_eq_true rfl) ⟨rfl, rfl⟩ (by decide) ?_
  refine x_iconst (nI 0) dX6_emptyIn_4 (by decide) ?_
  refine x_istore_n dX6_emptyIn_5 rfl (by decide) ?_
  refine key 1000 0 Z rfl hW ?_
  rw [Nat.zero_add]
  refine x_aload_n dX6_emptyIn_30 rfl rfl ?_
  refine x_callVd0 (mt' := mX6_messages) (sp_X6_messages hM) kvX6_messages wl_X6_85 (by decide) dX6_emptyIn_31 xk_131 (by decide) rfl rfl (Nat.le_of_ble_eq_true rfl) ⟨rfl, rfl⟩ (by decide) ?_
  refine' x_dia_if_ne 41 42 dX6_emptyIn_34 (by decide) ?_ ?_ ?_; rotate_left 2
  · intro c34 k34
    refine x_iconst (nI 1) dX6_emptyIn_37 (by decide) ?_
    refine x_goto 42 dX6_emptyIn_38 (by decide) ?_
    exact k34
  · intro c34 k34
    refine x_iconst (nI 0) dX6_emptyIn_41 (by decide) ?_
    exact k34
  refine x_istore_n dX6_emptyIn_42 rfl (by decide) ?_
  refine x_aload_n dX6_emptyIn_43 rfl rfl ?_
  refine x_callVd0 (mt' := mX6_putBack) (sp_X6_putBack hM) kvX6_putBack wl_X6_201 (by decide) dX6_emptyIn_44 xk_131 (by decide) rfl rfl (Nat.le_of_ble_eq_true rfl) ⟨rfl, rfl⟩ (by decide) ?_
  refine x_eqI (I' := MM I φ (pBk Z (pTk Z (emN Z 1000))) (cpA (zf Z) α 375) β κ τ) (by unfold pBk; rw [cpA_cpA]) ?_
  refine x_iload_n dX6_emptyIn_47 rfl rfl ?_
  refine' x_dia_if_eq 55 57 dX6_emptyIn_48 (by decide) ?_ ?_ ?_; rotate_left 2
  · intro c48 k48
    refine x_iload_n dX6_emptyIn_51 rfl rfl ?_
    refine x_goto 57 dX6_emptyIn_52 (by decide) ?_
    exact k48
  · intro c48 k48
    refine x_bipush (-5) dX6_emptyIn_55 (by decide) ?_
    exact k48
  refine x_eqtop (y := pEmp Z) (em_eq _ _) ?_
  refine x_iret dX6_emptyIn_57 rfl (by decide) (by decide) ?_
  exact ⟨rfl, rfl, rfl, rfl⟩
theorem sp_X6_ifRun (hM : Md R) (s t : Int32) (hW : ∀ j, WT (pTk Z j)) : Sp mX6_ifRun [.ref 131, .int s, .int t] 137 (MM I φ Z α β κ τ) R (fun r n I2 R2 => r = some (.int (pIf Z s t)) ∧ n = 137 ∧ R2 = R ∧ (I2 = MM I φ Z α β κ τ ∨ ∃ Y, I2 = MM I φ (pBk Z Y) (cpA (zf Z) α 375) β κ τ)) := by
  refine Sp.mk (by decide +kernel) (by simp [Value.category]) (Nat.le_of_ble_eq_true rfl) (fun g cx => ?_)
  by_cases h1 : inr s (nI 0) (nI 3) = true
  · obtain ⟨k, -, hk, rfl⟩ := inr_of (by omega) h1 (by omega)
    by_cases h2 : inr t (nI 1) (nI 300) = true
    · obtain ⟨u, hu1, hu, rfl⟩ := inr_of (by omega) h2 (by omega)
      have e : pIf Z (nI k) (nI u) = pTk Z u k 2 - Z k 2 := by unfold pIf; rw [if_pos h1, if_pos h2, nI_cl (by omega), nI_cl (by omega)]
      rw [e]
      have key : ∀ (m j : Nat), j + m = u → X g cx mX6_ifRun (xF g cx mX6_ifRun (fun r n I2 R2 => r = some (.int (pTk Z u k 2 - Z k 2)) ∧ n = 137 ∧ R2 = R ∧ (I2 = MM I φ Z α β κ τ ∨ ∃ Y, I2 = MM I φ (pBk Z Y) (cpA (zf Z) α 375) β κ τ))) (0, 0) 57 [some (.ref 131), some (.int (nI k)), some (.int (nI u)), some (.int (Z k 2)), some (.int (nI u))] [] 137 (MM I φ (pTk Z u) (cpA (zf Z) α 375) β κ τ) R → X g cx mX6_ifRun (xF g cx mX6_ifRun (fun r n I2 R2 => r = some (.int (pTk Z u k 2 - Z k 2)) ∧ n = 137 ∧ R2 = R ∧ (I2 = MM I φ Z α β κ τ ∨ ∃ Y, I2 = MM I φ (pBk Z Y) (cpA (zf Z) α 375) β κ τ))) (0, 0) 41 [some (.ref 131), some (.int (nI k)), some (.int (nI u)), some (.int (Z k 2)), some (.int (nI j))] [] 137 (MM I φ (pTk Z j) (cpA (zf Z) α 375) β κ τ) R := by
        intro m
        induction m with
        | zero =>
          intro j hj hx
          obtain rfl : j = u := by omega
          refine x_iload dX6_ifRun_41 rfl ?_
          refine x_iload_n dX6_ifRun_43 rfl rfl ?_
          refine x_icmp_geN 57 dX6_ifRun_44 (by decide) (by omega) (by omega) (fun c44 => ?_) (fun c44 => ?_)
          · skip
            exact hx
          · skip
            exact absurd c44 (by omega)
        | succ m ih =>
          intro j hj hx
          refine x_iload dX6_ifRun_41 rfl ?_
          refine x_iload_n dX6_ifRun_43 rfl rfl ?_
          refine x_icmp_geN 57 dX6_ifRun_44 (by decide) (by omega) (by omega) (fun c44 => ?_) (fun c44 => ?_)
          · skip
            exact absurd c44 (by omega)
          · skip
            refine x_aload_n dX6_ifRun_47 rfl rfl ?_
            refine x_callVd0 (mt' := mX6_tick) (sp_X6_tick hM (hW j)) kvX6_tick wl_X6_116 (by decide) dX6_ifRun_48 xk_131 (by decide) rfl rfl (Nat.le_of_ble_eq_true rfl) ⟨rfl, rfl⟩ (by decide) ?_
            refine x_iincN 1 dX6_ifRun_51 rfl (by decide) (by decide) ?_
            refine x_goto 41 dX6_ifRun_54 (by decide) ?_
            exact ih (j + 1) (by omega) hx
      refine x_iload_n dX6_ifRun_0 rfl rfl ?_
      refine x_callSd0 (mt' := mX6_isOne) (sp_X6_isOne _) ktX6_isOne wl_X6_109 (by decide) dX6_ifRun_1 rfl rfl (Nat.le_of_ble_eq_true rfl) ⟨rfl, rfl⟩ (by decide) ?_
      refine x_if_ne 9 dX6_ifRun_4 (by decide) (fun c4 => ?_) (fun c4 => ?_)
      · skip
        refine x_iload_n dX6_ifRun_9 rfl rfl ?_
        refine x_iconst (nI 1) dX6_ifRun_10 (by decide) ?_
        refine x_sipush (nI 300) dX6_ifRun_11 (by decide) ?_
        refine x_callSd0 (mt' := mX6_in) (sp_X6_in _ _ _) ktX6_in wl_X6_36 (by decide) dX6_ifRun_14 rfl rfl (Nat.le_of_ble_eq_true rfl) ⟨rfl, rfl⟩ (by decide) ?_
        refine x_if_ne 23 dX6_ifRun_17 (by decide) (fun c17 => ?_) (fun c17 => ?_)
        · skip
          refine x_aload_n dX6_ifRun_23 rfl rfl ?_
          refine x_callVd0 (mt' := mX6_putAside) (sp_X6_putAside hM) kvX6_putAside wl_X6_122 (by decide) dX6_ifRun_24 xk_131 (by decide) rfl rfl (Nat.le_of_ble_eq_true rfl) ⟨rfl, rfl⟩ (by decide) ?_
          refine x_aload_n dX6_ifRun_27 rfl rfl ?_
          refine x_getR fl_X6_7 dX6_ifRun_28 xk_131 (by decide) rfl (hM 0 _ rfl) ?_
          refine x_iload_n dX6_ifRun_31 rfl rfl ?_
          refine x_iconst (nI 2) dX6_ifRun_32 (by decide) ?_
          refine x_callSd0 (mt' := mX6_of) (sp_X6_of _ _) ktX6_of wl_X6_33 (by decide) dX6_ifRun_33 rfl rfl (Nat.le_of_ble_eq_true rfl) ⟨rfl, rfl⟩ (by decide) ?_
          refine x_ldS dX6_ifRun_36 (by omega) (zf_sp (by omega) (by omega)) ?_
          refine x_istore_n dX6_ifRun_37 rfl (by decide) ?_
          refine x_iconst (nI 0) dX6_ifRun_38 (by decide) ?_
          refine x_istore dX6_ifRun_39 (by decide) ?_
          refine key u 0 (by omega) ?_
          refine x_aload_n dX6_ifRun_57 rfl rfl ?_
          refine x_getR fl_X6_7 dX6_ifRun_58 xk_131 (by decide) rfl (hM 0 _ rfl) ?_
          refine x_iload_n dX6_ifRun_61 rfl rfl ?_
          refine x_iconst (nI 2) dX6_ifRun_62 (by decide) ?_
          refine x_callSd0 (mt' := mX6_of) (sp_X6_of _ _) ktX6_of wl_X6_33 (by decide) dX6_ifRun_63 rfl rfl (Nat.le_of_ble_eq_true rfl) ⟨rfl, rfl⟩ (by decide) ?_
          refine x_ldS dX6_ifRun_66 (by omega) (zf_sp (by omega) (by omega)) ?_
          refine x_iload_n dX6_ifRun_67 rfl rfl ?_
          refine x_isub dX6_ifRun_68 ?_
          refine x_istore dX6_ifRun_69 (by decide) ?_
          refine x_aload_n dX6_ifRun_71 rfl rfl ?_
          refine x_callVd0 (mt' := mX6_putBack) (sp_X6_putBack hM) kvX6_putBack wl_X6_201 (by decide) dX6_ifRun_72 xk_131 (by decide) rfl rfl (Nat.le_of_ble_eq_true rfl) ⟨rfl, rfl⟩ (by decide) ?_
          refine x_iload dX6_ifRun_75 rfl ?_
          refine x_iret dX6_ifRun_77 rfl (by decide) (by decide) ?_
          exact ⟨rfl, rfl, rfl, Or.inr ⟨pTk Z u, by unfold pBk; rw [cpA_cpA]⟩⟩
        · skip
          exact absurd h2 (bi_t c17)
      · skip
        exact absurd h1 (bi_t c4)
    · have e : pIf Z (nI k) t = -2 := by unfold pIf; rw [if_pos h1, if_neg h2]
      rw [e]
      refine x_iload_n dX6_ifRun_0 rfl rfl ?_
      refine x_callSd0 (mt' := mX6_isOne) (sp_X6_isOne _) ktX6_isOne wl_X6_109 (by decide) dX6_ifRun_1 rfl rfl (Nat.le_of_ble_eq_true rfl) ⟨rfl, rfl⟩ (by decide) ?_
      refine x_if_ne 9 dX6_ifRun_4 (by decide) (fun c4 => ?_) (fun c4 => ?_)
      · skip
        refine x_iload_n dX6_ifRun_9 rfl rfl ?_
        refine x_iconst (nI 1) dX6_ifRun_10 (by decide) ?_
        refine x_sipush (nI 300) dX6_ifRun_11 (by decide) ?_
        refine x_callSd0 (mt' := mX6_in) (sp_X6_in _ _ _) ktX6_in wl_X6_36 (by decide) dX6_ifRun_14 rfl rfl (Nat.le_of_ble_eq_true rfl) ⟨rfl, rfl⟩ (by decide) ?_
        refine x_if_ne 23 dX6_ifRun_17 (by decide) (fun c17 => ?_) (fun c17 => ?_)
        · skip
          exact absurd (bi_nt c17) h2
        · skip
          refine x_bipush (-2) dX6_ifRun_20 (by decide) ?_
          refine x_iret dX6_ifRun_22 rfl (by decide) (by decide) ?_
          exact ⟨rfl, rfl, rfl, Or.inl rfl⟩
      · skip
        exact absurd h1 (bi_t c4)
  · have e : pIf Z s t = -1 := by unfold pIf; rw [if_neg h1]
    rw [e]
    refine x_iload_n dX6_ifRun_0 rfl rfl ?_
    refine x_callSd0 (mt' := mX6_isOne) (sp_X6_isOne _) ktX6_isOne wl_X6_109 (by decide) dX6_ifRun_1 rfl rfl (Nat.le_of_ble_eq_true rfl) ⟨rfl, rfl⟩ (by decide) ?_
    refine x_if_ne 9 dX6_ifRun_4 (by decide) (fun c4 => ?_) (fun c4 => ?_)
    · skip
      exact absurd (bi_nt c4) h1
    · skip
      refine x_iconst (-1) dX6_ifRun_7 (by decide) ?_
      refine x_iret dX6_ifRun_8 rfl (by decide) (by decide) ?_
      exact ⟨rfl, rfl, rfl, Or.inl rfl⟩
end ML
