
/-! the class: a place for an answer -/
theorem pCm_y {W : MI} {P k : Nat} (h : sel W P k = true) : rw1 (pCm W P k) k (cRow (pCm W P k k)) = pCm W P (k + 1) := by
  funext a
  by_cases ha : a = k
  · subst ha
    rw [rw1_self, pCm_ge (Nat.le_refl a)]
    simp only [pCm]
    rw [if_pos (show a < a + 1 ∧ sel W P a = true from ⟨by omega, h⟩)]
  · rw [rw1_ne ha]
    simp only [pCm]
    by_cases h2 : a < k ∧ sel W P a = true
    · rw [if_pos h2, if_pos (show a < k + 1 ∧ sel W P a = true from ⟨by omega, h2.2⟩)]
    · rw [if_neg h2, if_neg (fun q => h2 ⟨by omega, q.2⟩)]
section CL
variable {I J0 : MI} {R : MR} {o : Nat} {Z W : MI}
theorem sp_bring (hS : St R o) (hJ : SJ o I Z) {k : Nat} (hk : k < 4) (ht : tk Z k = true) : Sp mX3_bringMessage [.ref (o + 6 + 2 * k)] 131 I R (SQ o I R none (rw1 Z k (cRow (Z k)))) := by
  obtain ⟨m, h1, h5, e⟩ := hJ.tm hk ht
  have h := sp_X3_bringMessage (I := I) (P := I (o + 7 + 2 * k)) (hS.sk hk) h1 h5 ((hJ.s0 hk).trans e)
  rw [SM_self] at h
  refine Sp.imp h (fun r n' I' R' q => ?_)
  obtain ⟨rfl, rfl, rfl, rfl⟩ := q
  exact ⟨rfl, rfl, rfl, Off.sp hk, hJ.usp hk (SPJ_come (hJ.1 k hk) e h1 h5)⟩
theorem sp_fail (hS : St R o) (hJ : SJ o I Z) {k : Nat} (c : Int32) (hk : k < 4) (ht : tk Z k = true) : Sp mX3_failMessage [.ref (o + 6 + 2 * k), .int c] 131 I R (SQ o I R none (rw1 Z k (uRow (Z k) c))) := by
  obtain ⟨m, h1, h5, e⟩ := hJ.tm hk ht
  have h := sp_X3_failMessage (I := I) (P := I (o + 7 + 2 * k)) (hS.sk hk) c h1 h5 ((hJ.s0 hk).trans e)
  rw [SM_self] at h
  refine Sp.imp h (fun r n' I' R' q => ?_)
  obtain ⟨rfl, rfl, rfl, rfl⟩ := q
  exact ⟨rfl, rfl, rfl, Off.sp hk, hJ.usp hk (SPJ_miss (hJ.1 k hk) e h1 h5)⟩
theorem sp_takeW (hS : St R o) (hJ : SJ o I Z) {l : Nat} (hl : l < 4) (w : Int32) : Sp mX1_takeWord [.ref (o + 14 + l), .int w] 131 I R (SQ o I R none (xuI (xuI Z (4 + l) 3 (Z (4 + l) 3 + nI 1)) (4 + l) 4 w)) := by
  have h := sp_X1_takeWord (I := I) (R := R) (F := I (o + 14 + l)) (hS.kl hl) (hS.ltl hl) w
  rw [rw1_id] at h
  refine Sp.imp h (fun r n' I' R' q => ?_)
  obtain ⟨rfl, rfl, rfl, rfl⟩ := q
  refine ⟨rfl, rfl, rfl, Off.ls hl, ?_⟩
  have e : xuI (xuI Z (4 + l) 3 (Z (4 + l) 3 + nI 1)) (4 + l) 4 w = rw1 Z (4 + l) (upd (upd (Z (4 + l)) 3 (Z (4 + l) 3 + nI 1)) 4 w) := by
    rw [xuI_rw1, rw1_xuI, xuI_rw1, rw1_self]
  rw [e]
  unfold lsTake
  rw [hJ.l3 hl]
  exact hJ.uls hl (((hJ.2.1 l hl).u (by omega)).u (by omega))
theorem lp_awaitS {l p : Nat} {g : GX} {cx : CX} {F : State → Prop} (hS : St R o) (hp : p < 27) (h7 : W 8 7 = nI p) : ∀ (m k : Nat) (u : Option Value) (I : MI), k + m = 4 → Off o J0 I → SJ o I (pCm W (p + 1) k) → (∀ (u : Option Value) (I : MI), Off o J0 I → SJ o I (pCm W (p + 1) 4) → X g cx mX4_awaitAnswer F (0, 0) 141 [some (.ref o), some (.ref (o + 14 + l)), some (.ref (o + 1)), some (.int (nI 4)), some (.int (nI 4)), u] [] 131 I R) → X g cx mX4_awaitAnswer F (0, 0) 73 [some (.ref o), some (.ref (o + 14 + l)), some (.ref (o + 1)), some (.int (nI 4)), some (.int (nI k)), u] [] 131 I R := by
  intro m
  induction m with
  | zero =>
    intro k u I hk hO hJ hx
    obtain rfl : k = 4 := by omega
    refine x_iload dX4_awaitAnswer_73 rfl ?_
    refine x_iload_n dX4_awaitAnswer_75 rfl rfl ?_
    refine x_icmp_geN 141 dX4_awaitAnswer_76 (by decide) (by omega) (by omega) (fun c76 => ?_) (fun c76 => ?_)
    · skip
      exact hx _ _ hO hJ
    · skip
      exact absurd c76 (by omega)
  | succ m ih =>
    intro k u I hk hO hJ hx
    have et : tk (pCm W (p + 1) k) k = tk W k := tk_row (pCm_ge (Nat.le_refl k))
    have e7 : pCm W (p + 1) k 8 7 = nI p := by rw [pCm_ge (by omega)]; exact h7
    have e9 : pCm W (p + 1) k k 9 = W k 9 := by rw [pCm_ge (Nat.le_refl k)]
    refine x_iload dX4_awaitAnswer_73 rfl ?_
    refine x_iload_n dX4_awaitAnswer_75 rfl rfl ?_
    refine x_icmp_geN 141 dX4_awaitAnswer_76 (by decide) (by omega) (by omega) (fun c76 => ?_) (fun c76 => ?_)
    · skip
      exact absurd c76 (by omega)
    · skip
      refine x_aload_n dX4_awaitAnswer_79 rfl rfl ?_
      refine x_iload dX4_awaitAnswer_80 rfl ?_
      refine x_aald (j := k) (c := 10) ⟨by decide, by decide⟩ dX4_awaitAnswer_82 hS.k1 (hS.lt (by omega)) (nI_pos (by omega)) (nI_clamp (by omega)) (by rw [hS.l1]; omega) (hS.rs (by omega)) ?_
      refine x_astore dX4_awaitAnswer_83 (by decide) ?_
      refine x_aload dX4_awaitAnswer_85 rfl ?_
      refine x_getI fl_X4_89 dX4_awaitAnswer_87 (hS.ks (by omega)) (hS.lts (by omega)) rfl (x_eqtop (hJ.s1 (by omega)) ?_)
      rw [et]
      refine x_if_eq 110 dX4_awaitAnswer_90 (by decide) (fun c90 => ?_) (fun c90 => ?_)
      · skip
        refine x_aload dX4_awaitAnswer_110 rfl ?_
        refine x_getI fl_X4_89 dX4_awaitAnswer_112 (hS.ks (by omega)) (hS.lts (by omega)) rfl (x_eqtop (hJ.s1 (by omega)) ?_)
        rw [et]
        refine x_if_eqT 135 dX4_awaitAnswer_115 (by decide) (c90) ?_
        refine x_iincN 1 dX4_awaitAnswer_135 rfl (by decide) (by decide) ?_
        refine x_goto 73 dX4_awaitAnswer_138 (by decide) ?_
        exact ih (k + 1) _ I (by omega) hO (by first | (rw [← pCm_no (sel_f1 c90)]; exact hJ) | (rw [← pCm_no (sel_f2 (fun q => of_decide_eq_false (bi_0.mp c127) ((nI_eq (by omega) (by unfold pBits; split <;> omega)).mp q).symm))]; exact hJ) | (rw [← pCm_y (sel_t c90 (by rw [of_decide_eq_true (bi_nt c127)]))]; exact hJ)) hx
      · skip
        refine x_aload_n dX4_awaitAnswer_93 rfl rfl ?_
        refine x_ifnonnull 110 dX4_awaitAnswer_94 (by decide) ?_
        refine x_aload dX4_awaitAnswer_110 rfl ?_
        refine x_getI fl_X4_89 dX4_awaitAnswer_112 (hS.ks (by omega)) (hS.lts (by omega)) rfl (x_eqtop (hJ.s1 (by omega)) ?_)
        rw [et]
        refine x_if_eqF dX4_awaitAnswer_115 (c90) ?_ 135 (by decide)
        refine x_aload dX4_awaitAnswer_118 rfl ?_
        refine x_aload_n dX4_awaitAnswer_120 rfl rfl ?_
        refine x_getI fl_X4_56 dX4_awaitAnswer_121 hS.k0 hS.lt0 rfl (x_eqtop hJ.f5 ?_)
        rw [e7]
        refine x_callSd0 (mt' := mX4_endsAt) (sp_endsAt hS hJ (by omega) (by omega) (hJ.tz (by omega) (et.trans (bi_nt c90)))) ktX4_endsAt wl_X4_193 (by decide) dX4_awaitAnswer_124 rfl rfl (Nat.le_of_ble_eq_true rfl) ⟨rfl, rfl⟩ (by decide) ?_
        rw [e9]
        refine x_if_eq 135 dX4_awaitAnswer_127 (by decide) (fun c127 => ?_) (fun c127 => ?_)
        · skip
          refine x_iincN 1 dX4_awaitAnswer_135 rfl (by decide) (by decide) ?_
          refine x_goto 73 dX4_awaitAnswer_138 (by decide) ?_
          exact ih (k + 1) _ I (by omega) hO (by first | (rw [← pCm_no (sel_f1 c90)]; exact hJ) | (rw [← pCm_no (sel_f2 (fun q => of_decide_eq_false (bi_0.mp c127) ((nI_eq (by omega) (by unfold pBits; split <;> omega)).mp q).symm))]; exact hJ) | (rw [← pCm_y (sel_t c90 (by rw [of_decide_eq_true (bi_nt c127)]))]; exact hJ)) hx
        · skip
          refine x_aload dX4_awaitAnswer_130 rfl ?_
          refine x_callVq hO (mt' := mX3_bringMessage) (sp_bring hS hJ (by omega) (et.trans (bi_nt c90))) kvX3_bringMessage wl_X4_197 (by decide) dX4_awaitAnswer_132 (hS.ks (by omega)) (hS.lts (by omega)) rfl rfl (Nat.le_of_ble_eq_true rfl) ⟨rfl, rfl⟩ (by decide) (fun I hO hJ => ?_)
          refine x_iincN 1 dX4_awaitAnswer_135 rfl (by decide) (by decide) ?_
          refine x_goto 73 dX4_awaitAnswer_138 (by decide) ?_
          exact ih (k + 1) _ I (by omega) hO (by first | (rw [← pCm_no (sel_f1 c90)]; exact hJ) | (rw [← pCm_no (sel_f2 (fun q => of_decide_eq_false (bi_0.mp c127) ((nI_eq (by omega) (by unfold pBits; split <;> omega)).mp q).symm))]; exact hJ) | (rw [← pCm_y (sel_t c90 (by rw [of_decide_eq_true (bi_nt c127)]))]; exact hJ)) hx
theorem lp_awaitN {g : GX} {cx : CX} {F : State → Prop} (hS : St R o) : ∀ (m k : Nat) (u : Option Value) (I : MI), k + m = 4 → Off o J0 I → SJ o I (pUn W k) → (∀ (u : Option Value) (I : MI), Off o J0 I → SJ o I (pUn W 4) → X g cx mX4_awaitAnswer F (0, 0) 141 [some (.ref o), some .null, some (.ref (o + 1)), some (.int (nI 4)), some (.int (nI 4)), u] [] 131 I R) → X g cx mX4_awaitAnswer F (0, 0) 73 [some (.ref o), some .null, some (.ref (o + 1)), some (.int (nI 4)), some (.int (nI k)), u] [] 131 I R := by
  intro m
  induction m with
  | zero =>
    intro k u I hk hO hJ hx
    obtain rfl : k = 4 := by omega
    refine x_iload dX4_awaitAnswer_73 rfl ?_
    refine x_iload_n dX4_awaitAnswer_75 rfl rfl ?_
    refine x_icmp_geN 141 dX4_awaitAnswer_76 (by decide) (by omega) (by omega) (fun c76 => ?_) (fun c76 => ?_)
    · skip
      exact hx _ _ hO hJ
    · skip
      exact absurd c76 (by omega)
  | succ m ih =>
    intro k u I hk hO hJ hx
    have et : tk (pUn W k) k = tk W k := tk_row (pUn_ge (Nat.le_refl k))
    have e1 : pUn W k 8 1 = W 8 1 := by rw [pUn_ge (by omega)]
    have ek : pUn W k k = W k := pUn_ge (Nat.le_refl k)
    refine x_iload dX4_awaitAnswer_73 rfl ?_
    refine x_iload_n dX4_awaitAnswer_75 rfl rfl ?_
    refine x_icmp_geN 141 dX4_awaitAnswer_76 (by decide) (by omega) (by omega) (fun c76 => ?_) (fun c76 => ?_)
    · skip
      exact absurd c76 (by omega)
    · skip
      refine x_aload_n dX4_awaitAnswer_79 rfl rfl ?_
      refine x_iload dX4_awaitAnswer_80 rfl ?_
      refine x_aald (j := k) (c := 10) ⟨by decide, by decide⟩ dX4_awaitAnswer_82 hS.k1 (hS.lt (by omega)) (nI_pos (by omega)) (nI_clamp (by omega)) (by rw [hS.l1]; omega) (hS.rs (by omega)) ?_
      refine x_astore dX4_awaitAnswer_83 (by decide) ?_
      refine x_aload dX4_awaitAnswer_85 rfl ?_
      refine x_getI fl_X4_89 dX4_awaitAnswer_87 (hS.ks (by omega)) (hS.lts (by omega)) rfl (x_eqtop (hJ.s1 (by omega)) ?_)
      rw [et]
      refine x_if_eq 110 dX4_awaitAnswer_90 (by decide) (fun c90 => ?_) (fun c90 => ?_)
      · skip
        refine x_aload dX4_awaitAnswer_110 rfl ?_
        refine x_getI fl_X4_89 dX4_awaitAnswer_112 (hS.ks (by omega)) (hS.lts (by omega)) rfl (x_eqtop (hJ.s1 (by omega)) ?_)
        rw [et]
        refine x_if_eqT 135 dX4_awaitAnswer_115 (by decide) (c90) ?_
        refine x_iincN 1 dX4_awaitAnswer_135 rfl (by decide) (by decide) ?_
        refine x_goto 73 dX4_awaitAnswer_138 (by decide) ?_
        exact ih (k + 1) _ I (by omega) hO (by first | (rw [← pUn_no (bi_0.mp c90)]; exact hJ) | (rw [ek] at hJ; rw [← pUn_one (bi_nt c90) rfl]; exact hJ)) hx
      · skip
        refine x_aload_nN dX4_awaitAnswer_93 rfl rfl ?_
        refine x_ifnonnullN dX4_awaitAnswer_94 ?_
        refine x_aload dX4_awaitAnswer_97 rfl ?_
        refine x_aload_n dX4_awaitAnswer_99 rfl rfl ?_
        refine x_iconst (nI 1) dX4_awaitAnswer_100 (by decide) ?_
        refine x_callVd0 (mt' := mX4_setting) (sp_setting hS hJ (w := 1) (by omega)) kvX4_setting wl_X4_162 (by decide) dX4_awaitAnswer_101 hS.k0 hS.lt0 rfl rfl (Nat.le_of_ble_eq_true rfl) ⟨rfl, rfl⟩ (by decide) ?_
        rw [e1]
        refine x_callVq hO (mt' := mX3_failMessage) (sp_fail hS hJ _ (by omega) (et.trans (bi_nt c90))) kvX3_failMessage wl_X4_190 (by decide) dX4_awaitAnswer_104 (hS.ks (by omega)) (hS.lts (by omega)) rfl rfl (Nat.le_of_ble_eq_true rfl) ⟨rfl, rfl⟩ (by decide) (fun I hO hJ => ?_)
        refine x_goto 135 dX4_awaitAnswer_107 (by decide) ?_
        refine x_iincN 1 dX4_awaitAnswer_135 rfl (by decide) (by decide) ?_
        refine x_goto 73 dX4_awaitAnswer_138 (by decide) ?_
        exact ih (k + 1) _ I (by omega) hO (by first | (rw [← pUn_no (bi_0.mp c90)]; exact hJ) | (rw [ek] at hJ; rw [← pUn_one (bi_nt c90) rfl]; exact hJ)) hx
end CL
