
/-! the class: listeners, the log -/
theorem ix_inr {x : Int32} {m : Nat} (hm : m + 1 < 2 ^ 31) : decide (0 ≤ x ∧ x < nI (m + 1)) = inr x (nI 0) (nI m) := by
  have e : x < nI (m + 1) ↔ x ≤ nI m := by
    rw [Int32.lt_iff_toInt_lt, Int32.le_iff_toInt_le, nI_toInt (by omega), nI_toInt (by omega)]
    omega
  exact decide_eq_decide.mpr ⟨fun q => ⟨q.1, e.mp q.2⟩, fun q => ⟨q.1, e.mpr q.2⟩⟩
theorem nI_sub2 {x j : Nat} (hx : x < 64) (hj : j < 64) : (nI x - nI 1 - nI j).toInt = (x : Int) - 1 - j := by
  have h : nI x - nI 1 - nI j = nI x - nI (j + 1) := by
    apply Int32.toBitVec_inj.mp
    rw [← nI_add]
    simp only [Int32.toBitVec_sub, Int32.toBitVec_add]
    generalize (nI x).toBitVec = u; generalize (nI j).toBitVec = v; generalize (nI 1).toBitVec = w
    bv_omega
  rw [h]
  rw [show (nI x - nI (j + 1)).toInt = (x : Int) - (j + 1 : Nat) from i32_toInt_ofNat_sub (by omega) (by omega)]
  omega
section CL
variable {I : MI} {R : MR} {a b : Nat} {F : Nat → Int32}
theorem sp_isIx (x : Int32) (m : Nat) (hm : m + 1 < 2 ^ 31) : Spd mX5_isIndex [.int x, .int (nI (m + 1))] I R (some (.int (bi (inr x (nI 0) (nI m))))) I := by
  rw [← ix_inr hm]; exact sp_isIndex _ _
theorem sp_fmN {x : Nat} (hx : x < 2 ^ 30) : Spd mJ9_floorMod_7cf53 [.int (nI x), .int (nI 64)] I R (some (.int (nI (x % 64)))) I := by
  have h := sp_floorMod (I := I) (R := R) (x := nI x) (by rw [nI_toInt (by omega)]; omega) (by rw [nI_toInt (by omega)]; omega)
  rw [nI_toInt (by omega), show (((x : Int) + 64) % 64).toNat = x % 64 by omega] at h
  exact h
theorem sp_fmB {x j : Nat} (hx : x < 64) (hj : j < 64) : Spd mJ9_floorMod_7cf53 [.int (nI x - nI 1 - nI j), .int (nI 64)] I R (some (.int (nI ((x + 63 - j) % 64)))) I := by
  have h := sp_floorMod (I := I) (R := R) (x := nI x - nI 1 - nI j) (by rw [nI_sub2 hx hj]; omega) (by rw [nI_sub2 hx hj]; omega)
  rw [nI_sub2 hx hj, show (((x : Int) - 1 - j + 64) % 64).toNat = (x + 63 - j) % 64 by omega] at h
  exact h
theorem sp_minN {L : Nat} (hL : L ≤ 64) : Spd mJ9_min_7cf53 [.int (nI (L + 1)), .int (nI 64)] I R (some (.int (nI (if L = 64 then 64 else L + 1)))) I := by
  have h := sp_min (I := I) (R := R) (nI (L + 1)) (nI 64)
  by_cases e : L = 64
  · subst e
    rw [if_pos rfl]
    rw [if_neg (nI_nge (by omega) (by omega))] at h
    exact h
  · rw [if_neg e]
    rw [if_pos ((nI_leI (by omega) (by omega)).mpr (by omega))] at h
    exact h
def lsTake (F : Nat → Int32) (w : Int32) : Nat → Int32 := upd (upd F 3 (F 3 + nI 1)) 4 w
theorem sp_X1_takeWord (hk : xkd a = 1) (hl : a < 131) (w : Int32) : Spd mX1_takeWord [.ref a, .int w] (rw1 I a F) R none (rw1 I a (lsTake F w)) := by
  refine Spd.mk (by decide +kernel) (by simp [Value.category]) (Nat.le_of_ble_eq_true rfl) (fun g cx => ?_)
  refine x_aload_n dX1_takeWord_0 rfl rfl ?_
  refine x_dup dX1_takeWord_1 rfl ?_
  refine x_getI fl_X1_24 dX1_takeWord_2 hk hl rfl (x_eqtop rw1_a ?_)
  refine x_iconst (nI 1) dX1_takeWord_5 (by decide) ?_
  refine x_iadd dX1_takeWord_6 ?_
  refine x_putI fl_X1_24 fp_1_3 dX1_takeWord_7 hk hl rfl rfl rfl (x_eqI rw1_u ?_)
  refine x_aload_n dX1_takeWord_10 rfl rfl ?_
  refine x_iload_n dX1_takeWord_11 rfl rfl ?_
  refine x_putI fl_X1_15 fp_1_4 dX1_takeWord_12 hk hl rfl rfl rfl (x_eqI rw1_u ?_)
  refine x_vret dX1_takeWord_15 rfl (by decide) (by decide) ?_
  exact ⟨rfl, rfl, rfl, rfl⟩
theorem sp_X1_copyFrom (hk : xkd a = 1) (hl : a < 131) (hk2 : xkd b = 1) (hl2 : b < 131) (hba : b ≠ a) : Spd mX1_copyFrom [.ref a, .ref b] (rw1 I a F) R none (rw1 I a (upd (upd (upd (upd (upd F 0 (I b 0)) 1 (I b 1)) 2 (I b 2)) 3 (I b 3)) 4 (I b 4))) := by
  refine Spd.mk (by decide +kernel) (by simp [Value.category]) (Nat.le_of_ble_eq_true rfl) (fun g cx => ?_)
  have e : ∀ (F : Nat → Int32) (k : Nat), rw1 I a F b k = I b k := fun F k => by rw [rw1_ne hba]
  refine x_aload_n dX1_copyFrom_0 rfl rfl ?_
  refine x_aload_n dX1_copyFrom_1 rfl rfl ?_
  refine x_getI fl_X1_9 dX1_copyFrom_2 hk2 hl2 rfl (x_eqtop (e _ _) ?_)
  refine x_putI fl_X1_9 fp_1_0 dX1_copyFrom_5 hk hl rfl rfl rfl (x_eqI rw1_u ?_)
  refine x_aload_n dX1_copyFrom_8 rfl rfl ?_
  refine x_aload_n dX1_copyFrom_9 rfl rfl ?_
  refine x_getI fl_X1_18 dX1_copyFrom_10 hk2 hl2 rfl (x_eqtop (e _ _) ?_)
  refine x_putI fl_X1_18 fp_1_1 dX1_copyFrom_13 hk hl rfl rfl rfl (x_eqI rw1_u ?_)
  refine x_aload_n dX1_copyFrom_16 rfl rfl ?_
  refine x_aload_n dX1_copyFrom_17 rfl rfl ?_
  refine x_getI fl_X1_21 dX1_copyFrom_18 hk2 hl2 rfl (x_eqtop (e _ _) ?_)
  refine x_putI fl_X1_21 fp_1_2 dX1_copyFrom_21 hk hl rfl rfl rfl (x_eqI rw1_u ?_)
  refine x_aload_n dX1_copyFrom_24 rfl rfl ?_
  refine x_aload_n dX1_copyFrom_25 rfl rfl ?_
  refine x_getI fl_X1_24 dX1_copyFrom_26 hk2 hl2 rfl (x_eqtop (e _ _) ?_)
  refine x_putI fl_X1_24 fp_1_3 dX1_copyFrom_29 hk hl rfl rfl rfl (x_eqI rw1_u ?_)
  refine x_aload_n dX1_copyFrom_32 rfl rfl ?_
  refine x_aload_n dX1_copyFrom_33 rfl rfl ?_
  refine x_getI fl_X1_15 dX1_copyFrom_34 hk2 hl2 rfl (x_eqtop (e _ _) ?_)
  refine x_putI fl_X1_15 fp_1_4 dX1_copyFrom_37 hk hl rfl rfl rfl (x_eqI rw1_u ?_)
  refine x_vret dX1_copyFrom_40 rfl (by decide) (by decide) ?_
  exact ⟨rfl, rfl, rfl, rfl⟩
variable {p q : Nat} {P : Nat → Int32}
def lgF (F : Nat → Int32) (x L : Nat) : Nat → Int32 := upd (upd F 1 (nI ((x + 1) % 64))) 2 (nI (if L = 64 then 64 else L + 1))
def lgP (P : Nat → Int32) (x : Nat) (w i c l : Int32) : Nat → Int32 := upd (upd (upd (upd P (x * 4) w) (x * 4 + 1) i) (x * 4 + 2) c) (x * 4 + 3) l
theorem sp_X0_add (hs : Sk R 0 256 a p) {x L : Nat} (w i c l : Int32) (hx : x < 64) (hL : L ≤ 64) (h1 : F 1 = nI x) (h2 : F 2 = nI L) : Spd mX0_add [.ref a, .int w, .int i, .int c, .int l] (SM I a p F P) R none (SM I a p (lgF F x L) (lgP P x w i c l)) := by
  refine Spd.mk (by decide +kernel) (by simp [Value.category]) (Nat.le_of_ble_eq_true rfl) (fun g cx => ?_)
  have hx' : x % 64 = x := Nat.mod_eq_of_lt hx
  refine x_aload_n dX0_add_0 rfl rfl ?_
  refine x_getI fl_X0_21 dX0_add_1 hs.ka hs.la rfl (x_eqtop (SM_a.trans h1) ?_)
  refine x_bipush (nI 64) dX0_add_4 (by decide) ?_
  refine x_callSd0 (mt' := mJ9_floorMod_7cf53) (sp_fmN (by omega)) ktJ9_floorMod_7cf53 wl_X0_28 (by decide) dX0_add_6 rfl rfl (Nat.le_of_ble_eq_true rfl) ⟨rfl, rfl⟩ (by decide) ?_
  rw [hx']
  refine x_iconst (nI 4) dX0_add_9 (by decide) ?_
  refine x_imulN dX0_add_10 ?_
  refine x_istore dX0_add_11 (by decide) ?_
  refine x_aload_n dX0_add_13 rfl rfl ?_
  refine x_getR fl_X0_11 dX0_add_14 hs.ka hs.la rfl hs.rp ?_
  refine x_iload dX0_add_17 rfl ?_
  refine x_iload_n dX0_add_19 rfl rfl ?_
  refine x_iast (j := x * 4) dX0_add_20 hs.kp hs.lp (nI_pos (by omega)) (nI_clamp (by omega)) (by rw [hs.xl]; omega) (x_eqI (SM_up hs.ne) ?_)
  refine x_aload_n dX0_add_21 rfl rfl ?_
  refine x_getR fl_X0_11 dX0_add_22 hs.ka hs.la rfl hs.rp ?_
  refine x_iload dX0_add_25 rfl ?_
  refine x_iconst (nI 1) dX0_add_27 (by decide) ?_
  refine x_iaddN dX0_add_28 ?_
  refine x_iload_n dX0_add_29 rfl rfl ?_
  refine x_iast (j := x * 4 + 1) dX0_add_30 hs.kp hs.lp (nI_pos (by omega)) (nI_clamp (by omega)) (by rw [hs.xl]; omega) (x_eqI (SM_up hs.ne) ?_)
  refine x_aload_n dX0_add_31 rfl rfl ?_
  refine x_getR fl_X0_11 dX0_add_32 hs.ka hs.la rfl hs.rp ?_
  refine x_iload dX0_add_35 rfl ?_
  refine x_iconst (nI 2) dX0_add_37 (by decide) ?_
  refine x_iaddN dX0_add_38 ?_
  refine x_iload_n dX0_add_39 rfl rfl ?_
  refine x_iast (j := x * 4 + 2) dX0_add_40 hs.kp hs.lp (nI_pos (by omega)) (nI_clamp (by omega)) (by rw [hs.xl]; omega) (x_eqI (SM_up hs.ne) ?_)
  refine x_aload_n dX0_add_41 rfl rfl ?_
  refine x_getR fl_X0_11 dX0_add_42 hs.ka hs.la rfl hs.rp ?_
  refine x_iload dX0_add_45 rfl ?_
  refine x_iconst (nI 3) dX0_add_47 (by decide) ?_
  refine x_iaddN dX0_add_48 ?_
  refine x_iload dX0_add_49 rfl ?_
  refine x_iast (j := x * 4 + 3) dX0_add_51 hs.kp hs.lp (nI_pos (by omega)) (nI_clamp (by omega)) (by rw [hs.xl]; omega) (x_eqI (SM_up hs.ne) ?_)
  refine x_aload_n dX0_add_52 rfl rfl ?_
  refine x_aload_n dX0_add_53 rfl rfl ?_
  refine x_getI fl_X0_21 dX0_add_54 hs.ka hs.la rfl (x_eqtop (SM_a.trans h1) ?_)
  refine x_iconst (nI 1) dX0_add_57 (by decide) ?_
  refine x_iaddN dX0_add_58 ?_
  refine x_bipush (nI 64) dX0_add_59 (by decide) ?_
  refine x_callSd0 (mt' := mJ9_floorMod_7cf53) (sp_fmN (by omega)) ktJ9_floorMod_7cf53 wl_X0_28 (by decide) dX0_add_61 rfl rfl (Nat.le_of_ble_eq_true rfl) ⟨rfl, rfl⟩ (by decide) ?_
  refine x_putI fl_X0_21 fp_0_1 dX0_add_64 hs.ka hs.la rfl rfl rfl (x_eqI SM_ua ?_)
  refine x_aload_n dX0_add_67 rfl rfl ?_
  refine x_aload_n dX0_add_68 rfl rfl ?_
  refine x_getI fl_X0_25 dX0_add_69 hs.ka hs.la rfl (x_eqtop (y := nI L) (SM_a.trans h2) ?_)
  refine x_iconst (nI 1) dX0_add_72 (by decide) ?_
  refine x_iaddN dX0_add_73 ?_
  refine x_bipush (nI 64) dX0_add_74 (by decide) ?_
  refine x_callSd0 (mt' := mJ9_min_7cf53) (sp_minN hL) ktJ9_min_7cf53 wl_X0_34 (by decide) dX0_add_76 rfl rfl (Nat.le_of_ble_eq_true rfl) ⟨rfl, rfl⟩ (by decide) ?_
  refine x_putI fl_X0_25 fp_0_2 dX0_add_79 hs.ka hs.la rfl rfl rfl (x_eqI SM_ua ?_)
  refine x_vret dX0_add_82 rfl (by decide) (by decide) ?_
  exact ⟨rfl, rfl, rfl, rfl⟩
theorem sp_X0_copyFrom (hs : Sk R 0 256 a p) (hq : Sk R 0 256 b q) (hba : b ≠ a) (hbp : b ≠ p) (hqa : q ≠ a) (hqp : q ≠ p) : Spd mX0_copyFrom [.ref a, .ref b] (SM I a p F P) R none (SM I a p (upd (upd F 1 (I b 1)) 2 (I b 2)) (va_cpy (I q) P 0 0 256)) := by
  refine Spd.mk (by decide +kernel) (by simp [Value.category]) (Nat.le_of_ble_eq_true rfl) (fun g cx => ?_)
  have e : ∀ (F P : Nat → Int32) (k : Nat), SM I a p F P b k = I b k := fun F P k => by rw [SM_o hba hbp]
  refine x_aload_n dX0_copyFrom_0 rfl rfl ?_
  refine x_getR fl_X0_11 dX0_copyFrom_1 hq.ka hq.la rfl hq.rp ?_
  refine x_iconst (nI 0) dX0_copyFrom_4 (by decide) ?_
  refine x_aload_n dX0_copyFrom_5 rfl rfl ?_
  refine x_getR fl_X0_11 dX0_copyFrom_6 hs.ka hs.la rfl hs.rp ?_
  refine x_iconst (nI 0) dX0_copyFrom_9 (by decide) ?_
  refine x_sipush (nI 256) dX0_copyFrom_10 (by decide) ?_
  refine x_copy (jsp := 0) (jdp := 0) (jn := 256) wl_X0_15 wv_ACP wt_ACP wz_J10 hq.kp hs.kp hq.lp hs.lp (nI_pos (by omega)) (nI_pos (by omega)) (nI_pos (by omega)) rfl rfl rfl (by rw [hq.xl]; decide) (by rw [hs.xl]; decide) (by decide) (Nat.le_of_ble_eq_true rfl) (by decide) rfl dX0_copyFrom_13 (x_eqI (SM_cq hs.ne hqa hqp) ?_)
  refine x_aload_n dX0_copyFrom_16 rfl rfl ?_
  refine x_aload_n dX0_copyFrom_17 rfl rfl ?_
  refine x_getI fl_X0_21 dX0_copyFrom_18 hq.ka hq.la rfl (x_eqtop (e _ _ _) ?_)
  refine x_putI fl_X0_21 fp_0_1 dX0_copyFrom_21 hs.ka hs.la rfl rfl rfl (x_eqI SM_ua ?_)
  refine x_aload_n dX0_copyFrom_24 rfl rfl ?_
  refine x_aload_n dX0_copyFrom_25 rfl rfl ?_
  refine x_getI fl_X0_25 dX0_copyFrom_26 hq.ka hq.la rfl (x_eqtop (e _ _ _) ?_)
  refine x_putI fl_X0_25 fp_0_2 dX0_copyFrom_29 hs.ka hs.la rfl rfl rfl (x_eqI SM_ua ?_)
  refine x_vret dX0_copyFrom_32 rfl (by decide) (by decide) ?_
  exact ⟨rfl, rfl, rfl, rfl⟩
def lgT (P : Nat → Int32) (x L : Nat) (b w : Int32) : Int32 := if b < 0 ∨ inr w (nI 0) (nI 3) = false then -2 else if b < nI L then P ((x + 63 - b.toNatClampNeg) % 64 * 4 + w.toNatClampNeg) else -5
theorem sp_X0_tell (hs : Sk R 0 256 a p) {x L : Nat} (b w : Int32) (hx : x < 64) (hL : L ≤ 64) (h1 : F 1 = nI x) (h2 : F 2 = nI L) : Spd mX0_tell [.ref a, .int b, .int w] (SM I a p F P) R (some (.int (lgT P x L b w))) (SM I a p F P) := by
  refine Spd.mk (by decide +kernel) (by simp [Value.category]) (Nat.le_of_ble_eq_true rfl) (fun g cx => ?_)
  by_cases h3 : b < 0 ∨ inr w (nI 0) (nI 3) = false
  · rw [show lgT P x L b w = -2 from if_pos h3]
    refine x_iload_n dX0_tell_0 rfl rfl ?_
    refine x_if_lt 12 dX0_tell_1 (by decide) (fun c1 => ?_) (fun c1 => ?_)
    · skip
      refine x_bipush (-2) dX0_tell_12 (by decide) ?_
      refine x_iret dX0_tell_14 rfl (by decide) (by decide) ?_
      exact ⟨rfl, rfl, rfl, rfl⟩
    · skip
      refine x_iload_n dX0_tell_4 rfl rfl ?_
      refine x_iconst (nI 4) dX0_tell_5 (by decide) ?_
      refine x_callSNd0 (mt' := mX5_isIndex) (sp_isIx _ 3 (by decide)) ktX5_isIndex wl_X0_37 (by decide) dX0_tell_6 rfl rfl (Nat.le_of_ble_eq_true rfl) ⟨rfl, rfl⟩ (by decide) ?_
      refine x_if_ne 15 dX0_tell_9 (by decide) (fun c9 => ?_) (fun c9 => ?_)
      · skip
        exact absurd h3 (fun q => by rcases q with q | q; exact c1 q; rw [q] at c9; exact c9 rfl)
      · skip
        refine x_bipush (-2) dX0_tell_12 (by decide) ?_
        refine x_iret dX0_tell_14 rfl (by decide) (by decide) ?_
        exact ⟨rfl, rfl, rfl, rfl⟩
  · by_cases h4 : b < nI L
    · obtain ⟨j, hj, rfl⟩ := nI_of (fun q => h3 (Or.inl q))
      obtain ⟨v, -, hv, rfl⟩ := inr_of (v := w) (a := 0) (b := 3) (by omega) (by cases q : inr w (nI 0) (nI 3) with | true => rfl | false => exact absurd (Or.inr q) h3) (by omega)
      have hjL : j < L := (nI_ltI (by omega) (by omega)).mp h4
      rw [show lgT P x L (nI j) (nI v) = P ((x + 63 - j) % 64 * 4 + v) by unfold lgT; rw [if_neg h3, if_pos h4, nI_cl (by omega), nI_cl (by omega)]]
      refine x_iload_n dX0_tell_0 rfl rfl ?_
      refine x_if_ltF dX0_tell_1 (nI_pos (by omega)) ?_ 12 (by decide)
      refine x_iload_n dX0_tell_4 rfl rfl ?_
      refine x_iconst (nI 4) dX0_tell_5 (by decide) ?_
      refine x_callSNd0 (mt' := mX5_isIndex) (sp_isIx _ 3 (by decide)) ktX5_isIndex wl_X0_37 (by decide) dX0_tell_6 rfl rfl (Nat.le_of_ble_eq_true rfl) ⟨rfl, rfl⟩ (by decide) ?_
      refine x_if_neT 15 dX0_tell_9 (by decide) (fun q => h3 (Or.inr (bi_0.mp q))) ?_
      refine x_iload_n dX0_tell_15 rfl rfl ?_
      refine x_aload_n dX0_tell_16 rfl rfl ?_
      refine x_getI fl_X0_25 dX0_tell_17 hs.ka hs.la rfl (x_eqtop (SM_a.trans h2) ?_)
      refine x_icmp_ltT 26 dX0_tell_20 (by decide) (h4) ?_
      refine x_aload_n dX0_tell_26 rfl rfl ?_
      refine x_getR fl_X0_11 dX0_tell_27 hs.ka hs.la rfl hs.rp ?_
      refine x_aload_n dX0_tell_30 rfl rfl ?_
      refine x_getI fl_X0_21 dX0_tell_31 hs.ka hs.la rfl (x_eqtop (SM_a.trans h1) ?_)
      refine x_iconst (nI 1) dX0_tell_34 (by decide) ?_
      refine x_isub dX0_tell_35 ?_
      refine x_iload_n dX0_tell_36 rfl rfl ?_
      refine x_isub dX0_tell_37 ?_
      refine x_bipush (nI 64) dX0_tell_38 (by decide) ?_
      refine x_callSd0 (mt' := mJ9_floorMod_7cf53) (sp_fmB hx (by omega)) ktJ9_floorMod_7cf53 wl_X0_28 (by decide) dX0_tell_40 rfl rfl (Nat.le_of_ble_eq_true rfl) ⟨rfl, rfl⟩ (by decide) ?_
      refine x_iconst (nI 4) dX0_tell_43 (by decide) ?_
      refine x_imulN dX0_tell_44 ?_
      refine x_iload_n dX0_tell_45 rfl rfl ?_
      refine x_iaddN dX0_tell_46 ?_
      refine x_iald (j := (x + 63 - j) % 64 * 4 + v) dX0_tell_47 hs.kp hs.lp (nI_pos (by omega)) (nI_clamp (by omega)) (by rw [hs.xl]; omega) (x_eqtop (SM_p hs.ne) ?_)
      refine x_iret dX0_tell_48 rfl (by decide) (by decide) ?_
      exact ⟨rfl, rfl, rfl, rfl⟩
    · rw [show lgT P x L b w = -5 by unfold lgT; rw [if_neg h3, if_neg h4]]
      refine x_iload_n dX0_tell_0 rfl rfl ?_
      refine x_if_ltF dX0_tell_1 (fun q => h3 (Or.inl q)) ?_ 12 (by decide)
      refine x_iload_n dX0_tell_4 rfl rfl ?_
      refine x_iconst (nI 4) dX0_tell_5 (by decide) ?_
      refine x_callSNd0 (mt' := mX5_isIndex) (sp_isIx _ 3 (by decide)) ktX5_isIndex wl_X0_37 (by decide) dX0_tell_6 rfl rfl (Nat.le_of_ble_eq_true rfl) ⟨rfl, rfl⟩ (by decide) ?_
      refine x_if_neT 15 dX0_tell_9 (by decide) (fun q => h3 (Or.inr (bi_0.mp q))) ?_
      refine x_iload_n dX0_tell_15 rfl rfl ?_
      refine x_aload_n dX0_tell_16 rfl rfl ?_
      refine x_getI fl_X0_25 dX0_tell_17 hs.ka hs.la rfl (x_eqtop (SM_a.trans h2) ?_)
      refine x_icmp_ltF dX0_tell_20 (h4) ?_ 26 (by decide)
      refine x_bipush (-5) dX0_tell_23 (by decide) ?_
      refine x_iret dX0_tell_25 rfl (by decide) (by decide) ?_
      exact ⟨rfl, rfl, rfl, rfl⟩
end CL
