
/-! the class: what is told -/
theorem tab_out {w : Int32} {n : Nat} (hn : n < 2 ^ 30) (h : ¬ inr w (nI 0) (nI n) = true) : w.toInt < 0 ∨ (n : Int) < w.toInt := by
  rcases tab_split w n hn with ⟨j, hj, rfl⟩ | q
  · exact absurd (inr_nat (by omega) (by omega) (by omega) hj) h
  · exact q
theorem inr_pred {p : Int32} {m : Nat} (hm : m ≤ 5) : inr p (nI 0) (nI m - nI 1) = decide (0 ≤ p ∧ p < nI m) := by
  cases m with
  | zero =>
    rw [decide_eq_false (fun q => Int32.not_lt.mpr q.1 (show p < 0 from q.2))]
    unfold inr
    exact decide_eq_false (fun q => by
      have h1 := Int32.le_iff_toInt_le.mp q.1
      have h2 := Int32.le_iff_toInt_le.mp q.2
      rw [show (nI 0 - nI 1).toInt = -1 from by decide] at h2
      rw [show (nI 0).toInt = 0 from by decide] at h1
      omega)
  | succ m => rw [nI_sub1 (by omega), show m + 1 - 1 = m by omega, ← ix_inr (by omega)]
theorem pBits_9 {v : Int32} : (if v = -5 then nI 2 else nI 3) * nI 9 = nI (pBits v) := by
  unfold pBits
  by_cases h : v = -5
  · rw [if_pos h, if_pos h]; decide
  · rw [if_neg h, if_neg h]; decide
theorem pTi_eq {Z : MI} {k j : Nat} : (if Z k (7 + 3 * j + 2) = -5 then nI 2 else nI 3) * (nI 9 + pHo Z (pLi Z (Z k (7 + 3 * j + 0)))) = pTi Z k j := by
  rw [Int32.mul_add, pBits_9]
  have e : (if Z k (7 + 3 * j + 2) = -5 then nI 2 else nI 3) = nI (pBits (Z k (7 + 3 * j + 2)) / 9) := by
    unfold pBits
    by_cases h : Z k (7 + 3 * j + 2) = -5
    · rw [if_pos h, if_pos h]
    · rw [if_neg h, if_neg h]
  unfold pTi
  cases pLi Z (Z k (7 + 3 * j + 0)) with
  | none =>
    show _ + (if Z k (7 + 3 * j + 2) = -5 then nI 2 else nI 3) * nI 0 = _
    rw [e, pk_mul, Nat.mul_zero]
  | some l =>
    show _ + (if Z k (7 + 3 * j + 2) = -5 then nI 2 else nI 3) * Z (4 + l) 1 = _
    rw [e]
def pStq (a b w : Int32) : Int32 := if w = nI 0 then a else if w = nI 1 then b else -2
section CL
variable {σ : Nat → Nat} {J : MI} {R : MR} {Z : MI} {H : Nat → MI} {h : Nat} {K : MI} {e : Bool} {n : Nat} {t : Nat → Int32} {a b : Int32}
theorem sp_speaker (hC : Cl σ J R Z H h K e n t a b) (s w : Int32) : Spd mX5_speaker [.ref 0, .int s, .int w] J R (some (.int (pSpk Z s w))) J := by
  refine Spd.mk (by decide +kernel) (by simp [Value.category]) (Nat.le_of_ble_eq_true rfl) (fun g cx => ?_)
  have hS := hC.ob.s1
  have hJ := hC.sj
  by_cases h1 : inr s (nI 0) (nI 3) = true
  · obtain ⟨k, -, hk, rfl⟩ := inr_of (by omega) h1 (by omega)
    by_cases h2 : inr w (nI 0) (nI 6) = true
    · obtain ⟨j, -, hj, rfl⟩ := inr_of (by omega) h2 (by omega)
      have e : pSpk Z (nI k) (nI j) = Z k j := by unfold pSpk; rw [if_pos h1, if_pos h2, nI_cl (by omega), nI_cl (by omega)]
      rw [e]
      rcases (show j = 0 ∨ j = 1 ∨ j = 2 ∨ j = 3 ∨ j = 4 ∨ j = 5 ∨ j = 6 by omega) with rfl | rfl | rfl | rfl | rfl | rfl | rfl
      · skip
        refine x_aload_n dX5_speaker_0 rfl rfl ?_
        refine x_getR (j := 1) fl_X5_10 dX5_speaker_1 xk_0 (by decide) rfl hC.ob.1.1 ?_
        refine x_iload_n dX5_speaker_4 rfl rfl ?_
        refine x_callVd0 (mt' := mX4_speakerAt) (sp_speakerAt hS (by omega)) kvX4_speakerAt wl_X5_105 (by decide) dX5_speaker_5 hS.k0 hS.lt0 rfl rfl (Nat.le_of_ble_eq_true rfl) ⟨rfl, rfl⟩ (by decide) ?_
        refine x_astore_n dX5_speaker_8 rfl (by decide) ?_
        refine x_aload_n dX5_speaker_9 rfl rfl ?_
        refine x_ifnonnull 15 dX5_speaker_10 (by decide) ?_
        refine x_iload_n dX5_speaker_15 rfl rfl ?_
        refine x_tableIn (off := 44) 60 dX5_speaker_16 (by decide) (by decide) (by decide) (by decide) ?_
        refine x_aload_n dX5_speaker_60 rfl rfl ?_
        refine x_getI fl_X5_109 dX5_speaker_61 (hS.ks (by omega)) (hS.lts (by omega)) rfl (x_eqtop (hJ.s0 (by omega)) ?_)
        refine x_iret dX5_speaker_64 rfl (by decide) (by decide) ?_
        exact ⟨rfl, rfl, rfl, rfl⟩
      · skip
        refine x_aload_n dX5_speaker_0 rfl rfl ?_
        refine x_getR (j := 1) fl_X5_10 dX5_speaker_1 xk_0 (by decide) rfl hC.ob.1.1 ?_
        refine x_iload_n dX5_speaker_4 rfl rfl ?_
        refine x_callVd0 (mt' := mX4_speakerAt) (sp_speakerAt hS (by omega)) kvX4_speakerAt wl_X5_105 (by decide) dX5_speaker_5 hS.k0 hS.lt0 rfl rfl (Nat.le_of_ble_eq_true rfl) ⟨rfl, rfl⟩ (by decide) ?_
        refine x_astore_n dX5_speaker_8 rfl (by decide) ?_
        refine x_aload_n dX5_speaker_9 rfl rfl ?_
        refine x_ifnonnull 15 dX5_speaker_10 (by decide) ?_
        refine x_iload_n dX5_speaker_15 rfl rfl ?_
        refine x_tableIn (off := 49) 65 dX5_speaker_16 (by decide) (by decide) (by decide) (by decide) ?_
        refine x_aload_n dX5_speaker_65 rfl rfl ?_
        refine x_getI fl_X5_114 dX5_speaker_66 (hS.ks (by omega)) (hS.lts (by omega)) rfl (x_eqtop (hJ.s1 (by omega)) ?_)
        refine' x_dia_if_eq 76 77 dX5_speaker_69 (by decide) ?_ ?_ ?_; rotate_left 2
        · intro c69 k69
          refine x_iconst (nI 1) dX5_speaker_72 (by decide) ?_
          refine x_goto 77 dX5_speaker_73 (by decide) ?_
          exact k69
        · intro c69 k69
          refine x_iconst (nI 0) dX5_speaker_76 (by decide) ?_
          exact k69
        refine x_eqtop (y := Z k 1) (by rw [hJ.tb (by omega)]; cases tk Z k <;> rfl) ?_
        refine x_iret dX5_speaker_77 rfl (by decide) (by decide) ?_
        exact ⟨rfl, rfl, rfl, rfl⟩
      · skip
        refine x_aload_n dX5_speaker_0 rfl rfl ?_
        refine x_getR (j := 1) fl_X5_10 dX5_speaker_1 xk_0 (by decide) rfl hC.ob.1.1 ?_
        refine x_iload_n dX5_speaker_4 rfl rfl ?_
        refine x_callVd0 (mt' := mX4_speakerAt) (sp_speakerAt hS (by omega)) kvX4_speakerAt wl_X5_105 (by decide) dX5_speaker_5 hS.k0 hS.lt0 rfl rfl (Nat.le_of_ble_eq_true rfl) ⟨rfl, rfl⟩ (by decide) ?_
        refine x_astore_n dX5_speaker_8 rfl (by decide) ?_
        refine x_aload_n dX5_speaker_9 rfl rfl ?_
        refine x_ifnonnull 15 dX5_speaker_10 (by decide) ?_
        refine x_iload_n dX5_speaker_15 rfl rfl ?_
        refine x_tableIn (off := 62) 78 dX5_speaker_16 (by decide) (by decide) (by decide) (by decide) ?_
        refine x_aload_n dX5_speaker_78 rfl rfl ?_
        refine x_getI fl_X5_117 dX5_speaker_79 (hS.ks (by omega)) (hS.lts (by omega)) rfl (x_eqtop (hJ.s2 (by omega)) ?_)
        refine x_iret dX5_speaker_82 rfl (by decide) (by decide) ?_
        exact ⟨rfl, rfl, rfl, rfl⟩
      · skip
        refine x_aload_n dX5_speaker_0 rfl rfl ?_
        refine x_getR (j := 1) fl_X5_10 dX5_speaker_1 xk_0 (by decide) rfl hC.ob.1.1 ?_
        refine x_iload_n dX5_speaker_4 rfl rfl ?_
        refine x_callVd0 (mt' := mX4_speakerAt) (sp_speakerAt hS (by omega)) kvX4_speakerAt wl_X5_105 (by decide) dX5_speaker_5 hS.k0 hS.lt0 rfl rfl (Nat.le_of_ble_eq_true rfl) ⟨rfl, rfl⟩ (by decide) ?_
        refine x_astore_n dX5_speaker_8 rfl (by decide) ?_
        refine x_aload_n dX5_speaker_9 rfl rfl ?_
        refine x_ifnonnull 15 dX5_speaker_10 (by decide) ?_
        refine x_iload_n dX5_speaker_15 rfl rfl ?_
        refine x_tableIn (off := 67) 83 dX5_speaker_16 (by decide) (by decide) (by decide) (by decide) ?_
        refine x_aload_n dX5_speaker_83 rfl rfl ?_
        refine x_getI fl_X5_120 dX5_speaker_84 (hS.ks (by omega)) (hS.lts (by omega)) rfl (x_eqtop (hJ.s3 (by omega)) ?_)
        refine x_iret dX5_speaker_87 rfl (by decide) (by decide) ?_
        exact ⟨rfl, rfl, rfl, rfl⟩
      · skip
        refine x_aload_n dX5_speaker_0 rfl rfl ?_
        refine x_getR (j := 1) fl_X5_10 dX5_speaker_1 xk_0 (by decide) rfl hC.ob.1.1 ?_
        refine x_iload_n dX5_speaker_4 rfl rfl ?_
        refine x_callVd0 (mt' := mX4_speakerAt) (sp_speakerAt hS (by omega)) kvX4_speakerAt wl_X5_105 (by decide) dX5_speaker_5 hS.k0 hS.lt0 rfl rfl (Nat.le_of_ble_eq_true rfl) ⟨rfl, rfl⟩ (by decide) ?_
        refine x_astore_n dX5_speaker_8 rfl (by decide) ?_
        refine x_aload_n dX5_speaker_9 rfl rfl ?_
        refine x_ifnonnull 15 dX5_speaker_10 (by decide) ?_
        refine x_iload_n dX5_speaker_15 rfl rfl ?_
        refine x_tableIn (off := 72) 88 dX5_speaker_16 (by decide) (by decide) (by decide) (by decide) ?_
        refine x_aload_n dX5_speaker_88 rfl rfl ?_
        refine x_getI fl_X5_123 dX5_speaker_89 (hS.ks (by omega)) (hS.lts (by omega)) rfl (x_eqtop (hJ.s4 (by omega)) ?_)
        refine x_iret dX5_speaker_92 rfl (by decide) (by decide) ?_
        exact ⟨rfl, rfl, rfl, rfl⟩
      · skip
        refine x_aload_n dX5_speaker_0 rfl rfl ?_
        refine x_getR (j := 1) fl_X5_10 dX5_speaker_1 xk_0 (by decide) rfl hC.ob.1.1 ?_
        refine x_iload_n dX5_speaker_4 rfl rfl ?_
        refine x_callVd0 (mt' := mX4_speakerAt) (sp_speakerAt hS (by omega)) kvX4_speakerAt wl_X5_105 (by decide) dX5_speaker_5 hS.k0 hS.lt0 rfl rfl (Nat.le_of_ble_eq_true rfl) ⟨rfl, rfl⟩ (by decide) ?_
        refine x_astore_n dX5_speaker_8 rfl (by decide) ?_
        refine x_aload_n dX5_speaker_9 rfl rfl ?_
        refine x_ifnonnull 15 dX5_speaker_10 (by decide) ?_
        refine x_iload_n dX5_speaker_15 rfl rfl ?_
        refine x_tableIn (off := 77) 93 dX5_speaker_16 (by decide) (by decide) (by decide) (by decide) ?_
        refine x_aload_n dX5_speaker_93 rfl rfl ?_
        refine x_getI fl_X5_126 dX5_speaker_94 (hS.ks (by omega)) (hS.lts (by omega)) rfl (x_eqtop (hJ.s5 (by omega)) ?_)
        refine x_iret dX5_speaker_97 rfl (by decide) (by decide) ?_
        exact ⟨rfl, rfl, rfl, rfl⟩
      · skip
        refine x_aload_n dX5_speaker_0 rfl rfl ?_
        refine x_getR (j := 1) fl_X5_10 dX5_speaker_1 xk_0 (by decide) rfl hC.ob.1.1 ?_
        refine x_iload_n dX5_speaker_4 rfl rfl ?_
        refine x_callVd0 (mt' := mX4_speakerAt) (sp_speakerAt hS (by omega)) kvX4_speakerAt wl_X5_105 (by decide) dX5_speaker_5 hS.k0 hS.lt0 rfl rfl (Nat.le_of_ble_eq_true rfl) ⟨rfl, rfl⟩ (by decide) ?_
        refine x_astore_n dX5_speaker_8 rfl (by decide) ?_
        refine x_aload_n dX5_speaker_9 rfl rfl ?_
        refine x_ifnonnull 15 dX5_speaker_10 (by decide) ?_
        refine x_iload_n dX5_speaker_15 rfl rfl ?_
        refine x_tableIn (off := 82) 98 dX5_speaker_16 (by decide) (by decide) (by decide) (by decide) ?_
        refine x_aload_n dX5_speaker_98 rfl rfl ?_
        refine x_getI fl_X5_129 dX5_speaker_99 (hS.ks (by omega)) (hS.lts (by omega)) rfl (x_eqtop (hJ.s6 (by omega)) ?_)
        refine x_iret dX5_speaker_102 rfl (by decide) (by decide) ?_
        exact ⟨rfl, rfl, rfl, rfl⟩
    · rw [show pSpk Z (nI k) w = -2 by unfold pSpk; rw [if_pos h1, if_neg h2]]
      have hout := tab_out (by omega) h2
      refine x_aload_n dX5_speaker_0 rfl rfl ?_
      refine x_getR (j := 1) fl_X5_10 dX5_speaker_1 xk_0 (by decide) rfl hC.ob.1.1 ?_
      refine x_iload_n dX5_speaker_4 rfl rfl ?_
      refine x_callVd0 (mt' := mX4_speakerAt) (sp_speakerAt hS (by omega)) kvX4_speakerAt wl_X5_105 (by decide) dX5_speaker_5 hS.k0 hS.lt0 rfl rfl (Nat.le_of_ble_eq_true rfl) ⟨rfl, rfl⟩ (by decide) ?_
      refine x_astore_n dX5_speaker_8 rfl (by decide) ?_
      refine x_aload_n dX5_speaker_9 rfl rfl ?_
      refine x_ifnonnull 15 dX5_speaker_10 (by decide) ?_
      refine x_iload_n dX5_speaker_15 rfl rfl ?_
      refine x_tableOut 103 dX5_speaker_16 (by simpa using hout) (by decide) ?_
      refine x_bipush (-2) dX5_speaker_103 (by decide) ?_
      refine x_iret dX5_speaker_105 rfl (by decide) (by decide) ?_
      exact ⟨rfl, rfl, rfl, rfl⟩
  · rw [show pSpk Z s w = -1 from if_neg h1]
    refine x_aload_n dX5_speaker_0 rfl rfl ?_
    refine x_getR (j := 1) fl_X5_10 dX5_speaker_1 xk_0 (by decide) rfl hC.ob.1.1 ?_
    refine x_iload_n dX5_speaker_4 rfl rfl ?_
    refine x_callVd0 (mt' := mX4_speakerAt) (sp_speakerAtN hS (by simpa using h1)) kvX4_speakerAt wl_X5_105 (by decide) dX5_speaker_5 hS.k0 hS.lt0 rfl rfl (Nat.le_of_ble_eq_true rfl) ⟨rfl, rfl⟩ (by decide) ?_
    refine x_astore_nN dX5_speaker_8 rfl (by decide) ?_
    refine x_aload_nN dX5_speaker_9 rfl rfl ?_
    refine x_ifnonnullN dX5_speaker_10 ?_
    refine x_iconst (-1) dX5_speaker_13 (by decide) ?_
    refine x_iret dX5_speaker_14 rfl (by decide) (by decide) ?_
    exact ⟨rfl, rfl, rfl, rfl⟩
theorem sp_listener (hC : Cl σ J R Z H h K e n t a b) (s w : Int32) : Spd mX5_listener [.ref 0, .int s, .int w] J R (some (.int (pLsn Z s w))) J := by
  refine Spd.mk (by decide +kernel) (by simp [Value.category]) (Nat.le_of_ble_eq_true rfl) (fun g cx => ?_)
  have hS := hC.ob.s1
  have hJ := hC.sj
  by_cases h1 : inr s (nI 0) (nI 3) = true
  · obtain ⟨k, -, hk, rfl⟩ := inr_of (by omega) h1 (by omega)
    by_cases h2 : inr w (nI 0) (nI 4) = true
    · obtain ⟨j, -, hj, rfl⟩ := inr_of (by omega) h2 (by omega)
      have e : pLsn Z (nI k) (nI j) = Z (4 + k) j := by unfold pLsn; rw [if_pos h1, if_pos h2, nI_cl (by omega), nI_cl (by omega)]
      rw [e]
      rcases (show j = 0 ∨ j = 1 ∨ j = 2 ∨ j = 3 ∨ j = 4 by omega) with rfl | rfl | rfl | rfl | rfl
      · skip
        refine x_aload_n dX5_listener_0 rfl rfl ?_
        refine x_getR (j := 1) fl_X5_10 dX5_listener_1 xk_0 (by decide) rfl hC.ob.1.1 ?_
        refine x_iload_n dX5_listener_4 rfl rfl ?_
        refine x_callVd0 (mt' := mX4_listenerAt) (sp_listenerAt hS (by omega)) kvX4_listenerAt wl_X5_145 (by decide) dX5_listener_5 hS.k0 hS.lt0 rfl rfl (Nat.le_of_ble_eq_true rfl) ⟨rfl, rfl⟩ (by decide) ?_
        refine x_astore_n dX5_listener_8 rfl (by decide) ?_
        refine x_aload_n dX5_listener_9 rfl rfl ?_
        refine x_ifnonnull 15 dX5_listener_10 (by decide) ?_
        refine x_iload_n dX5_listener_15 rfl rfl ?_
        refine x_tableIn (off := 36) 52 dX5_listener_16 (by decide) (by decide) (by decide) (by decide) ?_
        refine x_aload_n dX5_listener_52 rfl rfl ?_
        refine x_getI fl_X5_149 dX5_listener_53 (hS.kl (by omega)) (hS.ltl (by omega)) rfl (x_eqtop (hJ.l0 (by omega)) ?_)
        refine x_iret dX5_listener_56 rfl (by decide) (by decide) ?_
        exact ⟨rfl, rfl, rfl, rfl⟩
      · skip
        refine x_aload_n dX5_listener_0 rfl rfl ?_
        refine x_getR (j := 1) fl_X5_10 dX5_listener_1 xk_0 (by decide) rfl hC.ob.1.1 ?_
        refine x_iload_n dX5_listener_4 rfl rfl ?_
        refine x_callVd0 (mt' := mX4_listenerAt) (sp_listenerAt hS (by omega)) kvX4_listenerAt wl_X5_145 (by decide) dX5_listener_5 hS.k0 hS.lt0 rfl rfl (Nat.le_of_ble_eq_true rfl) ⟨rfl, rfl⟩ (by decide) ?_
        refine x_astore_n dX5_listener_8 rfl (by decide) ?_
        refine x_aload_n dX5_listener_9 rfl rfl ?_
        refine x_ifnonnull 15 dX5_listener_10 (by decide) ?_
        refine x_iload_n dX5_listener_15 rfl rfl ?_
        refine x_tableIn (off := 41) 57 dX5_listener_16 (by decide) (by decide) (by decide) (by decide) ?_
        refine x_aload_n dX5_listener_57 rfl rfl ?_
        refine x_getI fl_X5_154 dX5_listener_58 (hS.kl (by omega)) (hS.ltl (by omega)) rfl (x_eqtop (hJ.l1 (by omega)) ?_)
        refine x_iret dX5_listener_61 rfl (by decide) (by decide) ?_
        exact ⟨rfl, rfl, rfl, rfl⟩
      · skip
        refine x_aload_n dX5_listener_0 rfl rfl ?_
        refine x_getR (j := 1) fl_X5_10 dX5_listener_1 xk_0 (by decide) rfl hC.ob.1.1 ?_
        refine x_iload_n dX5_listener_4 rfl rfl ?_
        refine x_callVd0 (mt' := mX4_listenerAt) (sp_listenerAt hS (by omega)) kvX4_listenerAt wl_X5_145 (by decide) dX5_listener_5 hS.k0 hS.lt0 rfl rfl (Nat.le_of_ble_eq_true rfl) ⟨rfl, rfl⟩ (by decide) ?_
        refine x_astore_n dX5_listener_8 rfl (by decide) ?_
        refine x_aload_n dX5_listener_9 rfl rfl ?_
        refine x_ifnonnull 15 dX5_listener_10 (by decide) ?_
        refine x_iload_n dX5_listener_15 rfl rfl ?_
        refine x_tableIn (off := 46) 62 dX5_listener_16 (by decide) (by decide) (by decide) (by decide) ?_
        refine x_aload_n dX5_listener_62 rfl rfl ?_
        refine x_getI fl_X5_157 dX5_listener_63 (hS.kl (by omega)) (hS.ltl (by omega)) rfl (x_eqtop (hJ.l2 (by omega)) ?_)
        refine x_iret dX5_listener_66 rfl (by decide) (by decide) ?_
        exact ⟨rfl, rfl, rfl, rfl⟩
      · skip
        refine x_aload_n dX5_listener_0 rfl rfl ?_
        refine x_getR (j := 1) fl_X5_10 dX5_listener_1 xk_0 (by decide) rfl hC.ob.1.1 ?_
        refine x_iload_n dX5_listener_4 rfl rfl ?_
        refine x_callVd0 (mt' := mX4_listenerAt) (sp_listenerAt hS (by omega)) kvX4_listenerAt wl_X5_145 (by decide) dX5_listener_5 hS.k0 hS.lt0 rfl rfl (Nat.le_of_ble_eq_true rfl) ⟨rfl, rfl⟩ (by decide) ?_
        refine x_astore_n dX5_listener_8 rfl (by decide) ?_
        refine x_aload_n dX5_listener_9 rfl rfl ?_
        refine x_ifnonnull 15 dX5_listener_10 (by decide) ?_
        refine x_iload_n dX5_listener_15 rfl rfl ?_
        refine x_tableIn (off := 51) 67 dX5_listener_16 (by decide) (by decide) (by decide) (by decide) ?_
        refine x_aload_n dX5_listener_67 rfl rfl ?_
        refine x_getI fl_X5_160 dX5_listener_68 (hS.kl (by omega)) (hS.ltl (by omega)) rfl (x_eqtop (hJ.l3 (by omega)) ?_)
        refine x_iret dX5_listener_71 rfl (by decide) (by decide) ?_
        exact ⟨rfl, rfl, rfl, rfl⟩
      · skip
        refine x_aload_n dX5_listener_0 rfl rfl ?_
        refine x_getR (j := 1) fl_X5_10 dX5_listener_1 xk_0 (by decide) rfl hC.ob.1.1 ?_
        refine x_iload_n dX5_listener_4 rfl rfl ?_
        refine x_callVd0 (mt' := mX4_listenerAt) (sp_listenerAt hS (by omega)) kvX4_listenerAt wl_X5_145 (by decide) dX5_listener_5 hS.k0 hS.lt0 rfl rfl (Nat.le_of_ble_eq_true rfl) ⟨rfl, rfl⟩ (by decide) ?_
        refine x_astore_n dX5_listener_8 rfl (by decide) ?_
        refine x_aload_n dX5_listener_9 rfl rfl ?_
        refine x_ifnonnull 15 dX5_listener_10 (by decide) ?_
        refine x_iload_n dX5_listener_15 rfl rfl ?_
        refine x_tableIn (off := 56) 72 dX5_listener_16 (by decide) (by decide) (by decide) (by decide) ?_
        refine x_aload_n dX5_listener_72 rfl rfl ?_
        refine x_getI fl_X5_163 dX5_listener_73 (hS.kl (by omega)) (hS.ltl (by omega)) rfl (x_eqtop (hJ.l4 (by omega)) ?_)
        refine x_iret dX5_listener_76 rfl (by decide) (by decide) ?_
        exact ⟨rfl, rfl, rfl, rfl⟩
    · rw [show pLsn Z (nI k) w = -2 by unfold pLsn; rw [if_pos h1, if_neg h2]]
      have hout := tab_out (by omega) h2
      refine x_aload_n dX5_listener_0 rfl rfl ?_
      refine x_getR (j := 1) fl_X5_10 dX5_listener_1 xk_0 (by decide) rfl hC.ob.1.1 ?_
      refine x_iload_n dX5_listener_4 rfl rfl ?_
      refine x_callVd0 (mt' := mX4_listenerAt) (sp_listenerAt hS (by omega)) kvX4_listenerAt wl_X5_145 (by decide) dX5_listener_5 hS.k0 hS.lt0 rfl rfl (Nat.le_of_ble_eq_true rfl) ⟨rfl, rfl⟩ (by decide) ?_
      refine x_astore_n dX5_listener_8 rfl (by decide) ?_
      refine x_aload_n dX5_listener_9 rfl rfl ?_
      refine x_ifnonnull 15 dX5_listener_10 (by decide) ?_
      refine x_iload_n dX5_listener_15 rfl rfl ?_
      refine x_tableOut 77 dX5_listener_16 (by simpa using hout) (by decide) ?_
      refine x_bipush (-2) dX5_listener_77 (by decide) ?_
      refine x_iret dX5_listener_79 rfl (by decide) (by decide) ?_
      exact ⟨rfl, rfl, rfl, rfl⟩
  · rw [show pLsn Z s w = -1 from if_neg h1]
    refine x_aload_n dX5_listener_0 rfl rfl ?_
    refine x_getR (j := 1) fl_X5_10 dX5_listener_1 xk_0 (by decide) rfl hC.ob.1.1 ?_
    refine x_iload_n dX5_listener_4 rfl rfl ?_
    refine x_callVd0 (mt' := mX4_listenerAt) (sp_listenerAtN hS (by simpa using h1)) kvX4_listenerAt wl_X5_145 (by decide) dX5_listener_5 hS.k0 hS.lt0 rfl rfl (Nat.le_of_ble_eq_true rfl) ⟨rfl, rfl⟩ (by decide) ?_
    refine x_astore_nN dX5_listener_8 rfl (by decide) ?_
    refine x_aload_nN dX5_listener_9 rfl rfl ?_
    refine x_ifnonnullN dX5_listener_10 ?_
    refine x_iconst (-1) dX5_listener_13 (by decide) ?_
    refine x_iret dX5_listener_14 rfl (by decide) (by decide) ?_
    exact ⟨rfl, rfl, rfl, rfl⟩
theorem pMsW_out {Z : MI} {k j : Nat} {w : Int32} (ho : w.toInt < 0 ∨ ((4 : Nat) : Int) < w.toInt) : pMsW Z k j w = -2 := by
  unfold pMsW
  have q : ∀ j, j ≤ 4 → ¬ w = nI j := fun j hj => tab_ne (n := 4) (by omega) ho hj
  rw [if_neg (q 0 (by omega)), if_neg (q 1 (by omega)), if_neg (q 2 (by omega)), if_neg (q 3 (by omega)), if_neg (q 4 (by omega))]
theorem sp_message (hC : Cl σ J R Z H h K e n t a b) (s p w : Int32) : Spd mX5_message [.ref 0, .int s, .int p, .int w] J R (some (.int (pMsg Z s p w))) J := by
  refine Spd.mk (by decide +kernel) (by simp [Value.category]) (Nat.le_of_ble_eq_true rfl) (fun g cx => ?_)
  have hS := hC.ob.s1
  have hJ := hC.sj
  by_cases h1 : inr s (nI 0) (nI 3) = true
  · obtain ⟨k, -, hk, rfl⟩ := inr_of (by omega) h1 (by omega)
    obtain ⟨m, t0, m5, em, q3, q4, q5, q6⟩ := hJ.1 k (by omega)
    by_cases h2 : 0 ≤ p ∧ p < nI m
    · obtain ⟨j, hj31, rfl⟩ := nI_of (Int32.not_lt.mpr h2.1)
      have hjm : j < m := (nI_ltI (by omega) (by omega)).mp h2.2
      have e : pMsg Z (nI k) (nI j) w = pMsW Z k j w := by
        unfold pMsg
        rw [nI_cl (by omega), em, inr_pred m5, if_pos ⟨h1, decide_eq_true h2⟩, nI_cl (by omega)]
      rw [e]
      obtain ⟨⟨x, hx, z7, p0⟩, p1, p2⟩ := q6 j hjm
      have hz0 : Z k (7 + 3 * j + 0) = nI x := z7
      rcases tab_split w 4 (by omega) with ⟨i, hi, rfl⟩ | hout
      · rcases (show i = 0 ∨ i = 1 ∨ i = 2 ∨ i = 3 ∨ i = 4 by omega) with rfl | rfl | rfl | rfl | rfl
        · skip
          rw [show pMsW Z k j (nI 0) = Z k (7 + 3 * j + 0) from by unfold pMsW; rw [if_pos rfl]]
          refine x_aload_n dX5_message_0 rfl rfl ?_
          refine x_getR (j := 1) fl_X5_10 dX5_message_1 xk_0 (by decide) rfl hC.ob.1.1 ?_
          refine x_iload_n dX5_message_4 rfl rfl ?_
          refine x_callVd0 (mt' := mX4_speakerAt) (sp_speakerAt hS (by omega)) kvX4_speakerAt wl_X5_105 (by decide) dX5_message_5 hS.k0 hS.lt0 rfl rfl (Nat.le_of_ble_eq_true rfl) ⟨rfl, rfl⟩ (by decide) ?_
          refine x_astore dX5_message_8 (by decide) ?_
          refine x_aload dX5_message_10 rfl ?_
          refine x_ifnull dX5_message_12 ?_
          refine x_iload_n dX5_message_15 rfl rfl ?_
          refine x_aload dX5_message_16 rfl ?_
          refine x_getI fl_X5_109 dX5_message_18 (hS.ks (by omega)) (hS.lts (by omega)) rfl (x_eqtop (hJ.s0 (by omega)) ?_)
          refine x_callSd0 (mt' := mX5_isIndex) (sp_isIndex _ _) ktX5_isIndex wl_X5_132 (by decide) dX5_message_21 rfl rfl (Nat.le_of_ble_eq_true rfl) ⟨rfl, rfl⟩ (by decide) ?_
          refine x_if_neT 29 dX5_message_24 (by decide) (by rw [em, decide_eq_true h2]; decide) ?_
          refine x_iload_n dX5_message_29 rfl rfl ?_
          refine x_tableIn (off := 34) 64 dX5_message_30 (by decide) (by decide) (by decide) (by decide) ?_
          refine x_aload dX5_message_64 rfl ?_
          refine x_iload_n dX5_message_66 rfl rfl ?_
          refine x_iconst (nI 0) dX5_message_67 (by decide) ?_
          refine x_callVd0 (mt' := mX3_part) (sp_part (1 + 6 + 2 * k) (1 + 7 + 2 * k) (hS.sk (by omega)) (by omega) (by omega)) kvX3_part wl_X5_136 (by decide) dX5_message_68 (hS.ks (by omega)) (hS.lts (by omega)) rfl rfl (Nat.le_of_ble_eq_true rfl) ⟨rfl, rfl⟩ (by decide) ?_
          refine x_eqtop p0 ?_
          refine x_iconst (nI 1) dX5_message_71 (by decide) ?_
          refine x_ishr dX5_message_72 ?_
          refine x_eqtop ((half_n x (by omega)).trans z7.symm) ?_
          refine x_iret dX5_message_73 rfl (by decide) (by decide) ?_
          exact ⟨by first | rfl | (rw [show 8 + 3 * j = 7 + 3 * j + 1 by omega]) | (rw [show 9 + 3 * j = 7 + 3 * j + 2 by omega]), rfl, rfl, rfl⟩
        · skip
          rw [show pMsW Z k j (nI 1) = Z k (7 + 3 * j + 1) from by unfold pMsW; rw [if_neg (by decide), if_pos rfl]]
          refine x_aload_n dX5_message_0 rfl rfl ?_
          refine x_getR (j := 1) fl_X5_10 dX5_message_1 xk_0 (by decide) rfl hC.ob.1.1 ?_
          refine x_iload_n dX5_message_4 rfl rfl ?_
          refine x_callVd0 (mt' := mX4_speakerAt) (sp_speakerAt hS (by omega)) kvX4_speakerAt wl_X5_105 (by decide) dX5_message_5 hS.k0 hS.lt0 rfl rfl (Nat.le_of_ble_eq_true rfl) ⟨rfl, rfl⟩ (by decide) ?_
          refine x_astore dX5_message_8 (by decide) ?_
          refine x_aload dX5_message_10 rfl ?_
          refine x_ifnull dX5_message_12 ?_
          refine x_iload_n dX5_message_15 rfl rfl ?_
          refine x_aload dX5_message_16 rfl ?_
          refine x_getI fl_X5_109 dX5_message_18 (hS.ks (by omega)) (hS.lts (by omega)) rfl (x_eqtop (hJ.s0 (by omega)) ?_)
          refine x_callSd0 (mt' := mX5_isIndex) (sp_isIndex _ _) ktX5_isIndex wl_X5_132 (by decide) dX5_message_21 rfl rfl (Nat.le_of_ble_eq_true rfl) ⟨rfl, rfl⟩ (by decide) ?_
          refine x_if_neT 29 dX5_message_24 (by decide) (by rw [em, decide_eq_true h2]; decide) ?_
          refine x_iload_n dX5_message_29 rfl rfl ?_
          refine x_tableIn (off := 44) 74 dX5_message_30 (by decide) (by decide) (by decide) (by decide) ?_
          refine x_aload dX5_message_74 rfl ?_
          refine x_iload_n dX5_message_76 rfl rfl ?_
          refine x_iconst (nI 1) dX5_message_77 (by decide) ?_
          refine x_callVd0 (mt' := mX3_part) (sp_part (1 + 6 + 2 * k) (1 + 7 + 2 * k) (hS.sk (by omega)) (by omega) (by omega)) kvX3_part wl_X5_136 (by decide) dX5_message_78 (hS.ks (by omega)) (hS.lts (by omega)) rfl rfl (Nat.le_of_ble_eq_true rfl) ⟨rfl, rfl⟩ (by decide) ?_
          refine x_eqtop p1 ?_
          refine x_iret dX5_message_81 rfl (by decide) (by decide) ?_
          exact ⟨by first | rfl | (rw [show 8 + 3 * j = 7 + 3 * j + 1 by omega]) | (rw [show 9 + 3 * j = 7 + 3 * j + 2 by omega]), rfl, rfl, rfl⟩
        · skip
          rw [show pMsW Z k j (nI 2) = Z k (7 + 3 * j + 2) from by unfold pMsW; rw [if_neg (by decide), if_neg (by decide), if_pos rfl]]
          refine x_aload_n dX5_message_0 rfl rfl ?_
          refine x_getR (j := 1) fl_X5_10 dX5_message_1 xk_0 (by decide) rfl hC.ob.1.1 ?_
          refine x_iload_n dX5_message_4 rfl rfl ?_
          refine x_callVd0 (mt' := mX4_speakerAt) (sp_speakerAt hS (by omega)) kvX4_speakerAt wl_X5_105 (by decide) dX5_message_5 hS.k0 hS.lt0 rfl rfl (Nat.le_of_ble_eq_true rfl) ⟨rfl, rfl⟩ (by decide) ?_
          refine x_astore dX5_message_8 (by decide) ?_
          refine x_aload dX5_message_10 rfl ?_
          refine x_ifnull dX5_message_12 ?_
          refine x_iload_n dX5_message_15 rfl rfl ?_
          refine x_aload dX5_message_16 rfl ?_
          refine x_getI fl_X5_109 dX5_message_18 (hS.ks (by omega)) (hS.lts (by omega)) rfl (x_eqtop (hJ.s0 (by omega)) ?_)
          refine x_callSd0 (mt' := mX5_isIndex) (sp_isIndex _ _) ktX5_isIndex wl_X5_132 (by decide) dX5_message_21 rfl rfl (Nat.le_of_ble_eq_true rfl) ⟨rfl, rfl⟩ (by decide) ?_
          refine x_if_neT 29 dX5_message_24 (by decide) (by rw [em, decide_eq_true h2]; decide) ?_
          refine x_iload_n dX5_message_29 rfl rfl ?_
          refine x_tableIn (off := 52) 82 dX5_message_30 (by decide) (by decide) (by decide) (by decide) ?_
          refine x_aload dX5_message_82 rfl ?_
          refine x_iload_n dX5_message_84 rfl rfl ?_
          refine x_iconst (nI 2) dX5_message_85 (by decide) ?_
          refine x_callVd0 (mt' := mX3_part) (sp_part (1 + 6 + 2 * k) (1 + 7 + 2 * k) (hS.sk (by omega)) (by omega) (by omega)) kvX3_part wl_X5_136 (by decide) dX5_message_86 (hS.ks (by omega)) (hS.lts (by omega)) rfl rfl (Nat.le_of_ble_eq_true rfl) ⟨rfl, rfl⟩ (by decide) ?_
          refine x_eqtop p2 ?_
          refine x_iret dX5_message_89 rfl (by decide) (by decide) ?_
          exact ⟨by first | rfl | (rw [show 8 + 3 * j = 7 + 3 * j + 1 by omega]) | (rw [show 9 + 3 * j = 7 + 3 * j + 2 by omega]), rfl, rfl, rfl⟩
        · skip
          rw [show pMsW Z k j (nI 3) = nI (pBits (Z k (7 + 3 * j + 2))) from by unfold pMsW; rw [if_neg (by decide), if_neg (by decide), if_neg (by decide), if_pos rfl]]
          refine x_aload_n dX5_message_0 rfl rfl ?_
          refine x_getR (j := 1) fl_X5_10 dX5_message_1 xk_0 (by decide) rfl hC.ob.1.1 ?_
          refine x_iload_n dX5_message_4 rfl rfl ?_
          refine x_callVd0 (mt' := mX4_speakerAt) (sp_speakerAt hS (by omega)) kvX4_speakerAt wl_X5_105 (by decide) dX5_message_5 hS.k0 hS.lt0 rfl rfl (Nat.le_of_ble_eq_true rfl) ⟨rfl, rfl⟩ (by decide) ?_
          refine x_astore dX5_message_8 (by decide) ?_
          refine x_aload dX5_message_10 rfl ?_
          refine x_ifnull dX5_message_12 ?_
          refine x_iload_n dX5_message_15 rfl rfl ?_
          refine x_aload dX5_message_16 rfl ?_
          refine x_getI fl_X5_109 dX5_message_18 (hS.ks (by omega)) (hS.lts (by omega)) rfl (x_eqtop (hJ.s0 (by omega)) ?_)
          refine x_callSd0 (mt' := mX5_isIndex) (sp_isIndex _ _) ktX5_isIndex wl_X5_132 (by decide) dX5_message_21 rfl rfl (Nat.le_of_ble_eq_true rfl) ⟨rfl, rfl⟩ (by decide) ?_
          refine x_if_neT 29 dX5_message_24 (by decide) (by rw [em, decide_eq_true h2]; decide) ?_
          refine x_iload_n dX5_message_29 rfl rfl ?_
          refine x_tableIn (off := 60) 90 dX5_message_30 (by decide) (by decide) (by decide) (by decide) ?_
          refine x_aload dX5_message_90 rfl ?_
          refine x_iload_n dX5_message_92 rfl rfl ?_
          refine x_callVd0 (mt' := mX3_partsAt) (sp_partsAt (1 + 6 + 2 * k) (1 + 7 + 2 * k) (hS.sk (by omega)) (by omega)) kvX3_partsAt wl_X5_139 (by decide) dX5_message_93 (hS.ks (by omega)) (hS.lts (by omega)) rfl rfl (Nat.le_of_ble_eq_true rfl) ⟨rfl, rfl⟩ (by decide) ?_
          refine x_eqtop (y := if Z k (7 + 3 * j + 2) = -5 then nI 2 else nI 3) (by rw [p2, show 9 + 3 * j = 7 + 3 * j + 2 by omega]) ?_
          refine x_bipush (nI 9) dX5_message_96 (by decide) ?_
          refine x_imul dX5_message_98 ?_
          refine x_eqtop pBits_9 ?_
          refine x_iret dX5_message_99 rfl (by decide) (by decide) ?_
          exact ⟨by first | rfl | (rw [show 8 + 3 * j = 7 + 3 * j + 1 by omega]) | (rw [show 9 + 3 * j = 7 + 3 * j + 2 by omega]), rfl, rfl, rfl⟩
        · skip
          rw [show pMsW Z k j (nI 4) = pTi Z k j from by unfold pMsW; rw [if_neg (by decide), if_neg (by decide), if_neg (by decide), if_neg (by decide), if_pos rfl]]
          refine x_aload_n dX5_message_0 rfl rfl ?_
          refine x_getR (j := 1) fl_X5_10 dX5_message_1 xk_0 (by decide) rfl hC.ob.1.1 ?_
          refine x_iload_n dX5_message_4 rfl rfl ?_
          refine x_callVd0 (mt' := mX4_speakerAt) (sp_speakerAt hS (by omega)) kvX4_speakerAt wl_X5_105 (by decide) dX5_message_5 hS.k0 hS.lt0 rfl rfl (Nat.le_of_ble_eq_true rfl) ⟨rfl, rfl⟩ (by decide) ?_
          refine x_astore dX5_message_8 (by decide) ?_
          refine x_aload dX5_message_10 rfl ?_
          refine x_ifnull dX5_message_12 ?_
          refine x_iload_n dX5_message_15 rfl rfl ?_
          refine x_aload dX5_message_16 rfl ?_
          refine x_getI fl_X5_109 dX5_message_18 (hS.ks (by omega)) (hS.lts (by omega)) rfl (x_eqtop (hJ.s0 (by omega)) ?_)
          refine x_callSd0 (mt' := mX5_isIndex) (sp_isIndex _ _) ktX5_isIndex wl_X5_132 (by decide) dX5_message_21 rfl rfl (Nat.le_of_ble_eq_true rfl) ⟨rfl, rfl⟩ (by decide) ?_
          refine x_if_neT 29 dX5_message_24 (by decide) (by rw [em, decide_eq_true h2]; decide) ?_
          refine x_iload_n dX5_message_29 rfl rfl ?_
          refine x_tableIn (off := 70) 100 dX5_message_30 (by decide) (by decide) (by decide) (by decide) ?_
          refine x_aload dX5_message_100 rfl ?_
          refine x_iload_n dX5_message_102 rfl rfl ?_
          refine x_callVd0 (mt' := mX3_partsAt) (sp_partsAt (1 + 6 + 2 * k) (1 + 7 + 2 * k) (hS.sk (by omega)) (by omega)) kvX3_partsAt wl_X5_139 (by decide) dX5_message_103 (hS.ks (by omega)) (hS.lts (by omega)) rfl rfl (Nat.le_of_ble_eq_true rfl) ⟨rfl, rfl⟩ (by decide) ?_
          refine x_eqtop (y := if Z k (7 + 3 * j + 2) = -5 then nI 2 else nI 3) (by rw [p2, show 9 + 3 * j = 7 + 3 * j + 2 by omega]) ?_
          refine x_bipush (nI 9) dX5_message_106 (by decide) ?_
          refine x_aload_n dX5_message_108 rfl rfl ?_
          refine x_getR (j := 1) fl_X5_10 dX5_message_109 xk_0 (by decide) rfl hC.ob.1.1 ?_
          refine x_aload dX5_message_112 rfl ?_
          refine x_iload_n dX5_message_114 rfl rfl ?_
          refine x_iconst (nI 0) dX5_message_115 (by decide) ?_
          refine x_callVd0 (mt' := mX3_part) (sp_part (1 + 6 + 2 * k) (1 + 7 + 2 * k) (hS.sk (by omega)) (by omega) (by omega)) kvX3_part wl_X5_136 (by decide) dX5_message_116 (hS.ks (by omega)) (hS.lts (by omega)) rfl rfl (Nat.le_of_ble_eq_true rfl) ⟨rfl, rfl⟩ (by decide) ?_
          refine x_eqtop p0 ?_
          refine x_iconst (nI 1) dX5_message_119 (by decide) ?_
          refine x_ishr dX5_message_120 ?_
          refine x_eqtop (half_n x (by omega)) ?_
          refine x_callVd0 (mt' := mX4_holdFor) (sp_holdFor hS hJ (a := nI x) (fun z => nI_pos (n := x) (by omega) (by rw [z]; decide))) kvX4_holdFor wl_X5_142 (by decide) dX5_message_121 hS.k0 hS.lt0 rfl rfl (Nat.le_of_ble_eq_true rfl) ⟨rfl, rfl⟩ (by decide) ?_
          refine x_iadd dX5_message_124 ?_
          refine x_imul dX5_message_125 ?_
          refine x_eqtop (y := pTi Z k j) (by rw [← hz0]; exact pTi_eq) ?_
          refine x_iret dX5_message_126 rfl (by decide) (by decide) ?_
          exact ⟨by first | rfl | (rw [show 8 + 3 * j = 7 + 3 * j + 1 by omega]) | (rw [show 9 + 3 * j = 7 + 3 * j + 2 by omega]), rfl, rfl, rfl⟩
      · rw [pMsW_out hout]
        refine x_aload_n dX5_message_0 rfl rfl ?_
        refine x_getR (j := 1) fl_X5_10 dX5_message_1 xk_0 (by decide) rfl hC.ob.1.1 ?_
        refine x_iload_n dX5_message_4 rfl rfl ?_
        refine x_callVd0 (mt' := mX4_speakerAt) (sp_speakerAt hS (by omega)) kvX4_speakerAt wl_X5_105 (by decide) dX5_message_5 hS.k0 hS.lt0 rfl rfl (Nat.le_of_ble_eq_true rfl) ⟨rfl, rfl⟩ (by decide) ?_
        refine x_astore dX5_message_8 (by decide) ?_
        refine x_aload dX5_message_10 rfl ?_
        refine x_ifnull dX5_message_12 ?_
        refine x_iload_n dX5_message_15 rfl rfl ?_
        refine x_aload dX5_message_16 rfl ?_
        refine x_getI fl_X5_109 dX5_message_18 (hS.ks (by omega)) (hS.lts (by omega)) rfl (x_eqtop (hJ.s0 (by omega)) ?_)
        refine x_callSd0 (mt' := mX5_isIndex) (sp_isIndex _ _) ktX5_isIndex wl_X5_132 (by decide) dX5_message_21 rfl rfl (Nat.le_of_ble_eq_true rfl) ⟨rfl, rfl⟩ (by decide) ?_
        refine x_if_neT 29 dX5_message_24 (by decide) (by rw [em, decide_eq_true h2]; decide) ?_
        refine x_iload_n dX5_message_29 rfl rfl ?_
        refine x_tableOut 127 dX5_message_30 (by simpa using hout) (by decide) ?_
        refine x_bipush (-2) dX5_message_127 (by decide) ?_
        refine x_iret dX5_message_129 rfl (by decide) (by decide) ?_
        exact ⟨rfl, rfl, rfl, rfl⟩
    · have e : pMsg Z (nI k) p w = -1 := by
        unfold pMsg
        rw [nI_cl (by omega), em, inr_pred m5, if_neg (fun q => h2 (of_decide_eq_true q.2))]
      rw [e]
      refine x_aload_n dX5_message_0 rfl rfl ?_
      refine x_getR (j := 1) fl_X5_10 dX5_message_1 xk_0 (by decide) rfl hC.ob.1.1 ?_
      refine x_iload_n dX5_message_4 rfl rfl ?_
      refine x_callVd0 (mt' := mX4_speakerAt) (sp_speakerAt hS (by omega)) kvX4_speakerAt wl_X5_105 (by decide) dX5_message_5 hS.k0 hS.lt0 rfl rfl (Nat.le_of_ble_eq_true rfl) ⟨rfl, rfl⟩ (by decide) ?_
      refine x_astore dX5_message_8 (by decide) ?_
      refine x_aload dX5_message_10 rfl ?_
      refine x_ifnull dX5_message_12 ?_
      refine x_iload_n dX5_message_15 rfl rfl ?_
      refine x_aload dX5_message_16 rfl ?_
      refine x_getI fl_X5_109 dX5_message_18 (hS.ks (by omega)) (hS.lts (by omega)) rfl (x_eqtop (hJ.s0 (by omega)) ?_)
      refine x_callSd0 (mt' := mX5_isIndex) (sp_isIndex _ _) ktX5_isIndex wl_X5_132 (by decide) dX5_message_21 rfl rfl (Nat.le_of_ble_eq_true rfl) ⟨rfl, rfl⟩ (by decide) ?_
      refine x_if_neF dX5_message_24 (by rw [em, decide_eq_false h2]; rfl) ?_ 29 (by decide)
      refine x_iconst (-1) dX5_message_27 (by decide) ?_
      refine x_iret dX5_message_28 rfl (by decide) (by decide) ?_
      exact ⟨rfl, rfl, rfl, rfl⟩
  · have e : pMsg Z s p w = -1 := if_neg (fun q => h1 q.1)
    rw [e]
    refine x_aload_n dX5_message_0 rfl rfl ?_
    refine x_getR (j := 1) fl_X5_10 dX5_message_1 xk_0 (by decide) rfl hC.ob.1.1 ?_
    refine x_iload_n dX5_message_4 rfl rfl ?_
    refine x_callVd0 (mt' := mX4_speakerAt) (sp_speakerAtN hS (by simpa using h1)) kvX4_speakerAt wl_X5_105 (by decide) dX5_message_5 hS.k0 hS.lt0 rfl rfl (Nat.le_of_ble_eq_true rfl) ⟨rfl, rfl⟩ (by decide) ?_
    refine x_astoreN dX5_message_8 (by decide) ?_
    refine x_aloadN dX5_message_10 rfl ?_
    refine x_ifnullN 27 dX5_message_12 (by decide) ?_
    refine x_iconst (-1) dX5_message_27 (by decide) ?_
    refine x_iret dX5_message_28 rfl (by decide) (by decide) ?_
    exact ⟨rfl, rfl, rfl, rfl⟩
theorem sp_bit (hC : Cl σ J R Z H h K e n t a b) (x w : Int32) : Spd mX5_bit [.ref 0, .int x, .int w] J R (some (.int (pBt2 Z x w))) J := by
  refine Spd.mk (by decide +kernel) (by simp [Value.category]) (Nat.le_of_ble_eq_true rfl) (fun g cx => ?_)
  have hS := hC.ob.s1
  have hJ := hC.sj
  obtain ⟨y, L, y64, L64, f1, f2, e10, q⟩ := hJ.2.2.2
  have hT : Spd mX0_tell [.ref (1 + 4), .int x, .int w] J R (some (.int (pBt2 Z x w))) J := by
    have h := sp_X0_tell (I := J) (R := R) (F := J (1 + 4)) (P := J (1 + 5)) hS.lg x w y64 L64 f1 f2
    rw [SM_self] at h
    have e : lgT (J (1 + 5)) y L x w = pBt2 Z x w := by
      unfold lgT pBt2
      by_cases c : x < 0 ∨ inr w (nI 0) (nI 3) = false
      · rw [if_pos c, if_pos c]
      · rw [if_neg c, if_neg c, e10]
        by_cases c2 : x < nI L
        · rw [if_pos c2, if_pos c2, nI_cl (by omega)]
          obtain ⟨j, hj, rfl⟩ := nI_of (fun z => c (Or.inl z))
          obtain ⟨v, -, hv, rfl⟩ := inr_of (v := w) (a := 0) (b := 3) (by omega) (by cases z : inr w (nI 0) (nI 3) with | true => rfl | false => exact absurd (Or.inr z) c) (by omega)
          have hjL : j < L := (nI_ltI (by omega) (by omega)).mp c2
          rw [nI_cl (by omega), nI_cl (by omega)]
          exact q j v hjL (by omega)
        · rw [if_neg c2, if_neg c2]
    rw [e] at h
    exact h
  refine x_aload_n dX5_bit_0 rfl rfl ?_
  refine x_getR (j := 1) fl_X5_10 dX5_bit_1 xk_0 (by decide) rfl hC.ob.1.1 ?_
  refine x_getR fl_X5_166 dX5_bit_4 hS.k0 hS.lt0 rfl hS.r3 ?_
  refine x_iload_n dX5_bit_7 rfl rfl ?_
  refine x_iload_n dX5_bit_8 rfl rfl ?_
  refine x_callVd0 (mt' := mX0_tell) (hT) kvX0_tell wl_X5_170 (by decide) dX5_bit_9 hS.lg.ka hS.lg.la rfl rfl (Nat.le_of_ble_eq_true rfl) ⟨rfl, rfl⟩ (by decide) ?_
  refine x_iret dX5_bit_12 rfl (by decide) (by decide) ?_
  exact ⟨rfl, rfl, rfl, rfl⟩
theorem sp_count (hC : Cl σ J R Z H h K e n t a b) (w : Int32) : Spd mX5_count [.ref 0, .int w] J R (some (.int (pCnt Z (nI h) (nI n) w))) J := by
  refine Spd.mk (by decide +kernel) (by simp [Value.category]) (Nat.le_of_ble_eq_true rfl) (fun g cx => ?_)
  have hS := hC.ob.s1
  have hJ := hC.sj
  obtain ⟨⟨p, hp, hz, -⟩, -⟩ := hC.lv.1
  have eps : ps Z = p := by unfold ps; rw [hz, nI_cl (by omega)]
  rcases tab_split w 15 (by omega) with ⟨i, hi, rfl⟩ | hout
  · rcases (show i = 0 ∨ i = 1 ∨ i = 2 ∨ i = 3 ∨ i = 4 ∨ i = 5 ∨ i = 6 ∨ i = 7 ∨ i = 8 ∨ i = 9 ∨ i = 10 ∨ i = 11 ∨ i = 12 ∨ i = 13 ∨ i = 14 ∨ i = 15 by omega) with rfl | rfl | rfl | rfl | rfl | rfl | rfl | rfl | rfl | rfl | rfl | rfl | rfl | rfl | rfl | rfl
    · skip
      refine x_iload_n dX5_count_0 rfl rfl ?_
      refine x_tableIn (off := 79) 80 dX5_count_1 (by decide) (by decide) (by decide) (by decide) ?_
      refine x_aload_n dX5_count_80 rfl rfl ?_
      refine x_getR (j := 1) fl_X5_10 dX5_count_81 xk_0 (by decide) rfl hC.ob.1.1 ?_
      refine x_getI fl_X5_102 dX5_count_84 hS.k0 hS.lt0 rfl (x_eqtop hJ.f4 ?_)
      refine x_iret dX5_count_87 rfl (by decide) (by decide) ?_
      exact ⟨rfl, rfl, rfl, rfl⟩
    · skip
      refine x_iload_n dX5_count_0 rfl rfl ?_
      refine x_tableIn (off := 87) 88 dX5_count_1 (by decide) (by decide) (by decide) (by decide) ?_
      refine x_aload_n dX5_count_88 rfl rfl ?_
      refine x_getR (j := 1) fl_X5_10 dX5_count_89 xk_0 (by decide) rfl hC.ob.1.1 ?_
      refine x_callVd0 (mt' := mX4_talkers) (sp_talkers hS hJ) kvX4_talkers wl_X5_198 (by decide) dX5_count_92 hS.k0 hS.lt0 rfl rfl (Nat.le_of_ble_eq_true rfl) ⟨rfl, rfl⟩ (by decide) ?_
      refine x_callSd0 (mt' := mJ6_bitCount_0f7a4) (sp_bitCount _) ktJ6_bitCount_0f7a4 wl_X5_201 (by decide) dX5_count_95 rfl rfl (Nat.le_of_ble_eq_true rfl) ⟨rfl, rfl⟩ (by decide) ?_
      refine x_iret dX5_count_98 rfl (by decide) (by decide) ?_
      exact ⟨rfl, rfl, rfl, rfl⟩
    · skip
      refine x_iload_n dX5_count_0 rfl rfl ?_
      refine x_tableIn (off := 98) 99 dX5_count_1 (by decide) (by decide) (by decide) (by decide) ?_
      refine x_aload_n dX5_count_99 rfl rfl ?_
      refine x_getR (j := 1) fl_X5_10 dX5_count_100 xk_0 (by decide) rfl hC.ob.1.1 ?_
      refine x_callVd0 (mt' := mX4_nextTick) (sp_nextTick hS hJ (by omega) hz) kvX4_nextTick wl_X5_206 (by decide) dX5_count_103 hS.k0 hS.lt0 rfl rfl (Nat.le_of_ble_eq_true rfl) ⟨rfl, rfl⟩ (by decide) ?_
      rw [← eps]
      refine x_iret dX5_count_106 rfl (by decide) (by decide) ?_
      exact ⟨rfl, rfl, rfl, rfl⟩
    · skip
      refine x_iload_n dX5_count_0 rfl rfl ?_
      refine x_tableIn (off := 106) 107 dX5_count_1 (by decide) (by decide) (by decide) (by decide) ?_
      refine x_aload_n dX5_count_107 rfl rfl ?_
      refine x_getR (j := 1) fl_X5_10 dX5_count_108 xk_0 (by decide) rfl hC.ob.1.1 ?_
      refine x_getI fl_X5_209 dX5_count_111 hS.k0 hS.lt0 rfl (x_eqtop hJ.f6 ?_)
      refine x_iret dX5_count_114 rfl (by decide) (by decide) ?_
      exact ⟨rfl, rfl, rfl, rfl⟩
    · skip
      refine x_iload_n dX5_count_0 rfl rfl ?_
      refine x_tableIn (off := 114) 115 dX5_count_1 (by decide) (by decide) (by decide) (by decide) ?_
      refine x_aload_n dX5_count_115 rfl rfl ?_
      refine x_getR (j := 1) fl_X5_10 dX5_count_116 xk_0 (by decide) rfl hC.ob.1.1 ?_
      refine x_getI fl_X5_212 dX5_count_119 hS.k0 hS.lt0 rfl (x_eqtop hJ.f7 ?_)
      refine x_iret dX5_count_122 rfl (by decide) (by decide) ?_
      exact ⟨rfl, rfl, rfl, rfl⟩
    · skip
      refine x_iload_n dX5_count_0 rfl rfl ?_
      refine x_tableIn (off := 122) 123 dX5_count_1 (by decide) (by decide) (by decide) (by decide) ?_
      refine x_aload_n dX5_count_123 rfl rfl ?_
      refine x_getR (j := 1) fl_X5_10 dX5_count_124 xk_0 (by decide) rfl hC.ob.1.1 ?_
      refine x_getI fl_X5_215 dX5_count_127 hS.k0 hS.lt0 rfl (x_eqtop hJ.f8 ?_)
      refine x_iret dX5_count_130 rfl (by decide) (by decide) ?_
      exact ⟨rfl, rfl, rfl, rfl⟩
    · skip
      refine x_iload_n dX5_count_0 rfl rfl ?_
      refine x_tableIn (off := 130) 131 dX5_count_1 (by decide) (by decide) (by decide) (by decide) ?_
      refine x_aload_n dX5_count_131 rfl rfl ?_
      refine x_getR (j := 1) fl_X5_10 dX5_count_132 xk_0 (by decide) rfl hC.ob.1.1 ?_
      refine x_getI fl_X5_218 dX5_count_135 hS.k0 hS.lt0 rfl (x_eqtop hJ.f5 ?_)
      refine x_iret dX5_count_138 rfl (by decide) (by decide) ?_
      exact ⟨rfl, rfl, rfl, rfl⟩
    · skip
      refine x_iload_n dX5_count_0 rfl rfl ?_
      refine x_tableIn (off := 138) 139 dX5_count_1 (by decide) (by decide) (by decide) (by decide) ?_
      refine x_aload_n dX5_count_139 rfl rfl ?_
      refine x_getR (j := 1) fl_X5_10 dX5_count_140 xk_0 (by decide) rfl hC.ob.1.1 ?_
      refine x_callVd0 (mt' := mX4_messagesInLines) (sp_messagesInLines hS hJ) kvX4_messagesInLines wl_X5_189 (by decide) dX5_count_143 hS.k0 hS.lt0 rfl rfl (Nat.le_of_ble_eq_true rfl) ⟨rfl, rfl⟩ (by decide) ?_
      refine x_iret dX5_count_146 rfl (by decide) (by decide) ?_
      exact ⟨rfl, rfl, rfl, rfl⟩
    · skip
      refine x_iload_n dX5_count_0 rfl rfl ?_
      refine x_tableIn (off := 146) 147 dX5_count_1 (by decide) (by decide) (by decide) (by decide) ?_
      refine x_aload_n dX5_count_147 rfl rfl ?_
      refine x_getR (j := 1) fl_X5_10 dX5_count_148 xk_0 (by decide) rfl hC.ob.1.1 ?_
      refine x_callVd0 (mt' := mX4_messagesThatCame) (sp_messagesThatCame hS hJ) kvX4_messagesThatCame wl_X5_221 (by decide) dX5_count_151 hS.k0 hS.lt0 rfl rfl (Nat.le_of_ble_eq_true rfl) ⟨rfl, rfl⟩ (by decide) ?_
      refine x_iret dX5_count_154 rfl (by decide) (by decide) ?_
      exact ⟨rfl, rfl, rfl, rfl⟩
    · skip
      refine x_iload_n dX5_count_0 rfl rfl ?_
      refine x_tableIn (off := 154) 155 dX5_count_1 (by decide) (by decide) (by decide) (by decide) ?_
      refine x_aload_n dX5_count_155 rfl rfl ?_
      refine x_getR (j := 1) fl_X5_10 dX5_count_156 xk_0 (by decide) rfl hC.ob.1.1 ?_
      refine x_getI fl_X5_224 dX5_count_159 hS.k0 hS.lt0 rfl (x_eqtop hJ.f9 ?_)
      refine x_iret dX5_count_162 rfl (by decide) (by decide) ?_
      exact ⟨rfl, rfl, rfl, rfl⟩
    · skip
      refine x_iload_n dX5_count_0 rfl rfl ?_
      refine x_tableIn (off := 162) 163 dX5_count_1 (by decide) (by decide) (by decide) (by decide) ?_
      refine x_aload_n dX5_count_163 rfl rfl ?_
      refine x_getR (j := 1) fl_X5_10 dX5_count_164 xk_0 (by decide) rfl hC.ob.1.1 ?_
      refine x_getI fl_X5_227 dX5_count_167 hS.k0 hS.lt0 rfl (x_eqtop hJ.f10 ?_)
      refine x_iret dX5_count_170 rfl (by decide) (by decide) ?_
      exact ⟨rfl, rfl, rfl, rfl⟩
    · skip
      refine x_iload_n dX5_count_0 rfl rfl ?_
      refine x_tableIn (off := 170) 171 dX5_count_1 (by decide) (by decide) (by decide) (by decide) ?_
      refine x_aload_n dX5_count_171 rfl rfl ?_
      refine x_getR (j := 1) fl_X5_10 dX5_count_172 xk_0 (by decide) rfl hC.ob.1.1 ?_
      refine x_iconst (nI 0) dX5_count_175 (by decide) ?_
      refine x_callVd0 (mt' := mX4_setting) (sp_setting hS hJ (by omega)) kvX4_setting wl_X5_230 (by decide) dX5_count_176 hS.k0 hS.lt0 rfl rfl (Nat.le_of_ble_eq_true rfl) ⟨rfl, rfl⟩ (by decide) ?_
      refine x_iret dX5_count_179 rfl (by decide) (by decide) ?_
      exact ⟨rfl, rfl, rfl, rfl⟩
    · skip
      refine x_iload_n dX5_count_0 rfl rfl ?_
      refine x_tableIn (off := 179) 180 dX5_count_1 (by decide) (by decide) (by decide) (by decide) ?_
      refine x_aload_n dX5_count_180 rfl rfl ?_
      refine x_getR (j := 1) fl_X5_10 dX5_count_181 xk_0 (by decide) rfl hC.ob.1.1 ?_
      refine x_iconst (nI 1) dX5_count_184 (by decide) ?_
      refine x_callVd0 (mt' := mX4_setting) (sp_setting hS hJ (by omega)) kvX4_setting wl_X5_230 (by decide) dX5_count_185 hS.k0 hS.lt0 rfl rfl (Nat.le_of_ble_eq_true rfl) ⟨rfl, rfl⟩ (by decide) ?_
      refine x_iret dX5_count_188 rfl (by decide) (by decide) ?_
      exact ⟨rfl, rfl, rfl, rfl⟩
    · skip
      refine x_iload_n dX5_count_0 rfl rfl ?_
      refine x_tableIn (off := 188) 189 dX5_count_1 (by decide) (by decide) (by decide) (by decide) ?_
      refine x_aload_n dX5_count_189 rfl rfl ?_
      refine x_getR (j := 1) fl_X5_10 dX5_count_190 xk_0 (by decide) rfl hC.ob.1.1 ?_
      refine x_iconst (nI 2) dX5_count_193 (by decide) ?_
      refine x_callVd0 (mt' := mX4_setting) (sp_setting hS hJ (by omega)) kvX4_setting wl_X5_230 (by decide) dX5_count_194 hS.k0 hS.lt0 rfl rfl (Nat.le_of_ble_eq_true rfl) ⟨rfl, rfl⟩ (by decide) ?_
      refine x_iret dX5_count_197 rfl (by decide) (by decide) ?_
      exact ⟨rfl, rfl, rfl, rfl⟩
    · skip
      refine x_iload_n dX5_count_0 rfl rfl ?_
      refine x_tableIn (off := 197) 198 dX5_count_1 (by decide) (by decide) (by decide) (by decide) ?_
      refine x_aload_n dX5_count_198 rfl rfl ?_
      refine x_getI fl_X5_95 dX5_count_199 xk_0 (by decide) rfl (x_eqtop hC.f5 ?_)
      refine x_iret dX5_count_202 rfl (by decide) (by decide) ?_
      exact ⟨rfl, rfl, rfl, rfl⟩
    · skip
      refine x_iload_n dX5_count_0 rfl rfl ?_
      refine x_tableIn (off := 202) 203 dX5_count_1 (by decide) (by decide) (by decide) (by decide) ?_
      refine x_aload_n dX5_count_203 rfl rfl ?_
      refine x_getR (j := 38) fl_X5_26 dX5_count_204 xk_0 (by decide) rfl hC.ob.1.2.2.2.1 ?_
      refine x_getI fl_X5_233 dX5_count_207 xk_38 (by decide) rfl (x_eqtop hC.tx.2.1 ?_)
      refine x_iret dX5_count_210 rfl (by decide) (by decide) ?_
      exact ⟨rfl, rfl, rfl, rfl⟩
  · rw [pCnt_out hout]
    refine x_iload_n dX5_count_0 rfl rfl ?_
    refine x_tableOut 211 dX5_count_1 (by simpa using hout) (by decide) ?_
    refine x_bipush (-2) dX5_count_211 (by decide) ?_
    refine x_iret dX5_count_213 rfl (by decide) (by decide) ?_
    exact ⟨rfl, rfl, rfl, rfl⟩
end CL
