/-! the reference: a tick -/
theorem cn_ex {p : Nat → Bool} {n : Nat} (h : ¬ cn p n = 0) : ∃ j, j < n ∧ p j = true := by
  induction n with
  | zero => exact absurd rfl h
  | succ n ih =>
    by_cases hp : p n = true
    · exact ⟨n, by omega, hp⟩
    · have h' : ¬ cn p n = 0 := fun q => h (by rw [cn_no (by simpa using hp), q])
      obtain ⟨j, h1, h2⟩ := ih h'
      exact ⟨j, by omega, h2⟩
theorem cn_congr {p q : Nat → Bool} {n : Nat} (h : ∀ j, j < n → p j = q j) : cn p n = cn q n := by
  induction n with
  | zero => rfl
  | succ n ih => show cn p n + _ = cn q n + _; rw [ih (fun j hj => h j (by omega)), h n (by omega)]
def ps (Z : MI) : Nat := (Z 8 7).toNatClampNeg
def lgn (Z : MI) : Nat := (Z 8 10).toNatClampNeg
/-- what a tick needs -/
def WT (Z : MI) : Prop := (ps Z < 27 ∧ Z 8 7 = nI (ps Z)) ∧ (lgn Z ≤ 64 ∧ Z 8 10 = nI (lgn Z)) ∧ Lns Z
def pZc (Z : MI) : MI := xuI Z 8 3 (Z 8 3 + nI 1)
def pZd (Z : MI) : MI := xuI (pZc Z) 8 6 (nI 0)
def pAns (Z : MI) : MI := match pLi (pZd Z) (Z (pFi Z) 7) with
  | none => pUa (pZd Z) (lgn Z) (ps Z)
  | some l => pAn (pZd Z) (lgn Z) (ps Z) l
def pTick (Z : MI) : MI :=
  if pNx Z (ps Z) = 4 then pSt (pZc Z) (ps Z)
  else if pNx Z (ps Z) = 3 then xuI (pZd Z) 8 4 (Z 8 4 - nI 1)
  else if pNx Z (ps Z) = 1 then pTb (pZd Z) (lgn Z) (ps Z)
  else if pNx Z (ps Z) = 0 then pTf (pZd Z)
  else pAns Z
theorem pNx_le {Z : MI} {p : Nat} : pNx Z p ≤ 4 := by unfold pNx; repeat (first | omega | split)
theorem pNx_tk {Z : MI} {p : Nat} (h : pNx Z p = 1 ∨ pNx Z p = 2) : ∃ j, j < 4 ∧ tk Z j = true := by
  refine cn_ex (fun q => ?_)
  unfold pNx at h
  rw [q] at h
  split at h
  · omega
  split at h
  · omega
  · rw [if_pos rfl] at h; omega
theorem pZd_row {Z : MI} {k : Nat} (h : k < 8) : pZd Z k = Z k := by unfold pZd pZc; rw [xuI_row (by omega), xuI_row (by omega)]
theorem pZd_8 {Z : MI} {b : Nat} (h3 : b ≠ 3) (h6 : b ≠ 6) : pZd Z 8 b = Z 8 b := by unfold pZd pZc; rw [xuI_at (by omega), xuI_at (by omega)]
theorem pFi_congr {Z Z' : MI} (h : ∀ k, k < 4 → Z' k = Z k) : pFi Z' = pFi Z := by unfold pFi; rw [tk_row (h 0 (by omega)), tk_row (h 1 (by omega)), tk_row (h 2 (by omega))]
section ML
variable {I : MI} {R : MR} {φ α β κ τ : Nat → Int32} {Z : MI}
theorem sp_X6_tick (hM : Md R) (hW : WT Z) : Spd mX6_tick [.ref 131] (MM I φ Z α β κ τ) R none (MM I φ (pTick Z) α β κ τ) := by
  refine Spd.mk (by decide +kernel) (by simp [Value.category]) (Nat.le_of_ble_eq_true rfl) (fun g cx => ?_)
  obtain ⟨⟨hp, hz⟩, ⟨hL, hz10⟩, hln⟩ := hW
  have hx := pNx_le (Z := Z) (p := ps Z)
  have hzd : pZd Z 8 7 = nI (ps Z) := by rw [pZd_8 (by omega) (by omega)]; exact hz
  have hzl : pZd Z 8 10 = nI (lgn Z) := by rw [pZd_8 (by omega) (by omega)]; exact hz10
  have hlz : Lns (pZd Z) := Lns_row (fun k hk => pZd_row (by omega)) hln
  have hF := pFi_lt Z
  have hFe : pFi (pZd Z) = pFi Z := pFi_congr (fun k hk => pZd_row (by omega))
  refine x_aload_n dX6_tick_0 rfl rfl ?_
  refine x_callVd0 (mt' := mX6_next) (sp_X6_next hM hz hp) kvX6_next wl_X6_91 (by decide) dX6_tick_1 xk_131 (by decide) rfl rfl (Nat.le_of_ble_eq_true rfl) ⟨rfl, rfl⟩ (by decide) ?_
  refine x_istore_n dX6_tick_4 rfl (by decide) ?_
  refine x_aload_n dX6_tick_5 rfl rfl ?_
  refine x_getR fl_X6_7 dX6_tick_6 xk_131 (by decide) rfl (hM 0 _ rfl) ?_
  refine x_iconst (nI 3) dX6_tick_9 (by decide) ?_
  refine x_dup2 dX6_tick_10 rfl rfl ?_
  refine x_ldS dX6_tick_11 (by omega) zf_3 ?_
  refine x_iconst (nI 1) dX6_tick_12 (by decide) ?_
  refine x_iadd dX6_tick_13 ?_
  refine x_stS dX6_tick_14 (by omega) zf_u3 ?_
  refine x_eqI (I' := MM I φ (pZc Z) α β κ τ) rfl ?_
  refine x_iload_n dX6_tick_15 rfl rfl ?_
  refine x_iconst (nI 4) dX6_tick_16 (by decide) ?_
  refine x_icmp_neN 25 dX6_tick_17 (by decide) (by omega) (by omega) (fun c17 => ?_) (fun c17 => ?_)
  · skip
    refine x_aload_n dX6_tick_25 rfl rfl ?_
    refine x_getR fl_X6_7 dX6_tick_26 xk_131 (by decide) rfl (hM 0 _ rfl) ?_
    refine x_bipush (nI 114) dX6_tick_29 (by decide) ?_
    refine x_iconst (nI 0) dX6_tick_31 (by decide) ?_
    refine x_stS dX6_tick_32 (by omega) zf_u114 ?_
    refine x_eqI (I' := MM I φ (pZd Z) α β κ τ) rfl ?_
    refine x_iload_n dX6_tick_33 rfl rfl ?_
    refine x_iconst (nI 3) dX6_tick_34 (by decide) ?_
    refine x_icmp_neN 52 dX6_tick_35 (by decide) (by omega) (by omega) (fun c35 => ?_) (fun c35 => ?_)
    · skip
      refine x_iload_n dX6_tick_52 rfl rfl ?_
      refine x_iconst (nI 1) dX6_tick_53 (by decide) ?_
      refine x_icmp_neN 64 dX6_tick_54 (by decide) (by omega) (by omega) (fun c54 => ?_) (fun c54 => ?_)
      · skip
        refine x_iload_n dX6_tick_64 rfl rfl ?_
        refine x_if_neN 75 dX6_tick_65 (by decide) (by omega) (fun c65 => ?_) (fun c65 => ?_)
        · skip
          have e0 : pTick Z = pAns Z := by unfold pTick; rw [if_neg c17, if_neg c35, if_neg c54, if_neg c65]
          have hTd : ∃ j, j < 4 ∧ tk (pZd Z) j = true := by obtain ⟨j, h1, h2⟩ := pNx_tk (Z := Z) (p := ps Z) (by omega); exact ⟨j, h1, by rw [← h2]; exact tk_row (pZd_row (by omega))⟩
          refine x_aload_n dX6_tick_75 rfl rfl ?_
          refine x_aload_n dX6_tick_76 rfl rfl ?_
          refine x_aload_n dX6_tick_77 rfl rfl ?_
          refine x_callVd0 (mt' := mX6_firstTalking) (sp_X6_firstTalking hM hTd) kvX6_firstTalking wl_X6_71 (by decide) dX6_tick_78 xk_131 (by decide) rfl rfl (Nat.le_of_ble_eq_true rfl) ⟨rfl, rfl⟩ (by decide) ?_
          refine x_eqtop (y := nI (pFi Z)) (by rw [hFe]) ?_
          refine x_iconst (nI 0) dX6_tick_81 (by decide) ?_
          refine x_iconst (nI 0) dX6_tick_82 (by decide) ?_
          refine x_callVd0 (mt' := mX6_inMessage) (sp_X6_inMessage hM (k := pFi Z) (j := 0) (w := 0) hF (by omega)) kvX6_inMessage wl_X6_43 (by decide) dX6_tick_83 xk_131 (by decide) rfl rfl (Nat.le_of_ble_eq_true rfl) ⟨rfl, rfl⟩ (by decide) ?_
          refine x_eqtop (y := Z (pFi Z) 7) (by rw [pZd_row (by omega)]) ?_
          refine x_callVd0 (mt' := mX6_listenerOf) (sp_X6_listenerOf hM _) kvX6_listenerOf wl_X6_74 (by decide) dX6_tick_86 xk_131 (by decide) rfl rfl (Nat.le_of_ble_eq_true rfl) ⟨rfl, rfl⟩ (by decide) ?_
          refine x_istore_n dX6_tick_89 rfl (by decide) ?_
          refine x_iload_n dX6_tick_90 rfl rfl ?_
          refine x_bipush (-5) dX6_tick_91 (by decide) ?_
          refine x_icmp_ne 103 dX6_tick_93 (by decide) (fun c93 => ?_) (fun c93 => ?_)
          · skip
            obtain ⟨l, hl4, hl⟩ := pLr_ne c93
            have e : pTick Z = pAn (pZd Z) (lgn Z) (ps Z) l := by rw [e0]; unfold pAns; rw [hl]
            refine x_aload_n dX6_tick_103 rfl rfl ?_
            refine x_iload_n dX6_tick_104 rfl rfl ?_
            refine x_eqtop (y := nI l) (by rw [hl]; rfl) ?_
            refine x_callVd0 (mt' := mX6_tickAnswered) (sp_X6_tickAnswered hM hp hL hl4 hzd hzl hlz hTd) kvX6_tickAnswered wl_X6_106 (by decide) dX6_tick_105 xk_131 (by decide) rfl rfl (Nat.le_of_ble_eq_true rfl) ⟨rfl, rfl⟩ (by decide) ?_
            refine x_vret dX6_tick_108 rfl (by decide) (by decide) ?_
            exact ⟨rfl, rfl, by rw [e], rfl⟩
          · skip
            have e : pTick Z = pUa (pZd Z) (lgn Z) (ps Z) := by
              rw [e0]; unfold pAns
              cases h : pLi (pZd Z) (Z (pFi Z) 7) with
              | none => rfl
              | some l => rw [h] at c93; exact absurd c93 (nI_ne5 (by have := (pLi_spec h).1; omega))
            refine x_aload_n dX6_tick_96 rfl rfl ?_
            refine x_callVd0 (mt' := mX6_tickUnanswered) (sp_X6_tickUnanswered hM (p := ps Z) hL hzl hlz) kvX6_tickUnanswered wl_X6_103 (by decide) dX6_tick_97 xk_131 (by decide) rfl rfl (Nat.le_of_ble_eq_true rfl) ⟨rfl, rfl⟩ (by decide) ?_
            refine x_goto 108 dX6_tick_100 (by decide) ?_
            refine x_vret dX6_tick_108 rfl (by decide) (by decide) ?_
            exact ⟨rfl, rfl, by rw [e], rfl⟩
        · skip
          have e : pTick Z = pTf (pZd Z) := by unfold pTick; rw [if_neg c17, if_neg c35, if_neg c54, if_pos c65]
          refine x_aload_n dX6_tick_68 rfl rfl ?_
          refine x_callVd0 (mt' := mX6_tickFree) (sp_X6_tickFree hM) kvX6_tickFree wl_X6_100 (by decide) dX6_tick_69 xk_131 (by decide) rfl rfl (Nat.le_of_ble_eq_true rfl) ⟨rfl, rfl⟩ (by decide) ?_
          refine x_goto 108 dX6_tick_72 (by decide) ?_
          refine x_vret dX6_tick_108 rfl (by decide) (by decide) ?_
          exact ⟨rfl, rfl, by rw [e], rfl⟩
      · skip
        have e : pTick Z = pTb (pZd Z) (lgn Z) (ps Z) := by unfold pTick; rw [if_neg c17, if_neg c35, if_pos c54]
        have hTd : ∃ j, j < 4 ∧ tk (pZd Z) j = true := by obtain ⟨j, h1, h2⟩ := pNx_tk (Or.inl c54); exact ⟨j, h1, by rw [← h2]; exact tk_row (pZd_row (by omega))⟩
        refine x_aload_n dX6_tick_57 rfl rfl ?_
        refine x_callVd0 (mt' := mX6_tickBit) (sp_X6_tickBit hM hp hL hzd hzl hTd) kvX6_tickBit wl_X6_97 (by decide) dX6_tick_58 xk_131 (by decide) rfl rfl (Nat.le_of_ble_eq_true rfl) ⟨rfl, rfl⟩ (by decide) ?_
        refine x_goto 108 dX6_tick_61 (by decide) ?_
        refine x_vret dX6_tick_108 rfl (by decide) (by decide) ?_
        exact ⟨rfl, rfl, by rw [e], rfl⟩
    · skip
      have e : pTick Z = xuI (pZd Z) 8 4 (Z 8 4 - nI 1) := by unfold pTick; rw [if_neg c17, if_pos c35]
      refine x_aload_n dX6_tick_38 rfl rfl ?_
      refine x_getR fl_X6_7 dX6_tick_39 xk_131 (by decide) rfl (hM 0 _ rfl) ?_
      refine x_bipush (nI 112) dX6_tick_42 (by decide) ?_
      refine x_dup2 dX6_tick_44 rfl rfl ?_
      refine x_ldS dX6_tick_45 (by omega) zf_112 ?_
      refine x_eqtop (y := Z 8 4) (by rw [pZd_8 (by omega) (by omega)]) ?_
      refine x_iconst (nI 1) dX6_tick_46 (by decide) ?_
      refine x_isub dX6_tick_47 ?_
      refine x_stS dX6_tick_48 (by omega) zf_u112 ?_
      refine x_goto 108 dX6_tick_49 (by decide) ?_
      refine x_vret dX6_tick_108 rfl (by decide) (by decide) ?_
      exact ⟨rfl, rfl, by rw [e], rfl⟩
  · skip
    have e : pTick Z = pSt (pZc Z) (ps Z) := by unfold pTick; rw [if_pos c17]
    refine x_aload_n dX6_tick_20 rfl rfl ?_
    refine x_callVd0 (mt' := mX6_tickStuck) (sp_X6_tickStuck hM (p := ps Z) (by unfold pZc; rw [xuI_at (by omega)]; exact hz) hp) kvX6_tickStuck wl_X6_94 (by decide) dX6_tick_21 xk_131 (by decide) rfl rfl (Nat.le_of_ble_eq_true rfl) ⟨rfl, rfl⟩ (by decide) ?_
    refine x_vret dX6_tick_24 rfl (by decide) (by decide) ?_
    exact ⟨rfl, rfl, by rw [e], rfl⟩
end ML
