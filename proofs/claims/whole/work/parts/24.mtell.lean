/-! the reference: what is told of the row of numbers -/
def pSpk (Z : MI) (s w : Int32) : Int32 := if inr s (nI 0) (nI 3) = true then if inr w (nI 0) (nI 6) = true then Z s.toNatClampNeg w.toNatClampNeg else -2 else -1
def pLsn (Z : MI) (s w : Int32) : Int32 := if inr s (nI 0) (nI 3) = true then if inr w (nI 0) (nI 4) = true then Z (4 + s.toNatClampNeg) w.toNatClampNeg else -2 else -1
def pTi (Z : MI) (k j : Nat) : Int32 := match pLi Z (Z k (7 + 3 * j + 0)) with
  | some l => nI (pBits (Z k (7 + 3 * j + 2))) + nI (pBits (Z k (7 + 3 * j + 2)) / 9) * Z (4 + l) 1
  | none => nI (pBits (Z k (7 + 3 * j + 2))) + nI 0
def pMsW (Z : MI) (k j : Nat) (w : Int32) : Int32 := if w = nI 0 then Z k (7 + 3 * j + 0) else if w = nI 1 then Z k (7 + 3 * j + 1) else if w = nI 2 then Z k (7 + 3 * j + 2) else if w = nI 3 then nI (pBits (Z k (7 + 3 * j + 2))) else if w = nI 4 then pTi Z k j else -2
def pMsg (Z : MI) (s p w : Int32) : Int32 := if inr s (nI 0) (nI 3) = true ∧ inr p (nI 0) (Z s.toNatClampNeg 0 - nI 1) = true then pMsW Z s.toNatClampNeg p.toNatClampNeg w else -1
def pBt2 (Z : MI) (b w : Int32) : Int32 := if b < 0 ∨ inr w (nI 0) (nI 3) = false then -2 else if b < Z 8 10 then Z 9 (4 * ((Z 8 10).toNatClampNeg - 1 - b.toNatClampNeg) + w.toNatClampNeg) else -5
def pMs (Z : MI) : Int32 := sm (fun j => Z j 0) 4
/-- after how many ticks no message is left; at most f -/
def emN (Z : MI) : Nat → Nat
  | 0 => 0
  | f + 1 => if pMs Z ≤ 0 then 0 else emN (pTick Z) f + 1
theorem emN_le (f : Nat) : ∀ Z : MI, emN Z f ≤ f := by
  induction f with
  | zero => intro Z; exact Nat.le_refl 0
  | succ f ih => intro Z; show (if pMs Z ≤ 0 then 0 else emN (pTick Z) f + 1) ≤ f + 1; split; omega; have := ih (pTick Z); omega
def pEmp (Z : MI) : Int32 := if pMs (pTk Z (emN Z 1000)) = 0 then nI (emN Z 1000) else -5
def pIf (Z : MI) (s t : Int32) : Int32 := if inr s (nI 0) (nI 3) = true then if inr t (nI 1) (nI 300) = true then pTk Z t.toNatClampNeg s.toNatClampNeg 2 - Z s.toNatClampNeg 2 else -2 else -1
def pCnt (Z : MI) (h : Int32) (l : Int32) (w : Int32) : Int32 :=
  if w = nI 0 then Z 8 3 else if w = nI 1 then nI (cn (tk Z) 4) else if w = nI 2 then nI (pNx Z (ps Z)) else if w = nI 3 then Z 8 4 else if w = nI 4 then Z 8 5 else if w = nI 5 then Z 8 6 else if w = nI 6 then Z 8 7 else if w = nI 7 then pMs Z else if w = nI 8 then pCame Z
  else if w = nI 9 then Z 8 8 else if w = nI 10 then Z 8 9 else if w = nI 11 then Z 8 0 else if w = nI 12 then Z 8 1 else if w = nI 13 then Z 8 2 else if w = nI 14 then h else if w = nI 15 then l else -2
def pStp (a b w : Int32) : Int32 := if inr w (nI 0) (nI 1) = true then (if a = -5 then -5 else if w = 0 then a else b) else -2
theorem tab_split (w : Int32) (n : Nat) (hn : n < 2 ^ 30) : (∃ j, j ≤ n ∧ w = nI j) ∨ (w.toInt < 0 ∨ (n : Int) < w.toInt) := by
  by_cases h1 : w.toInt < 0
  · exact Or.inr (Or.inl h1)
  · by_cases h2 : (n : Int) < w.toInt
    · exact Or.inr (Or.inr h2)
    · left
      have h0 : ¬ w < 0 := fun q => by
        have := Int32.lt_iff_toInt_lt.mp q
        have h00 : (0 : Int32).toInt = 0 := rfl
        omega
      obtain ⟨j, hj, rfl⟩ := nI_of h0
      rw [nI_toInt hj] at h2
      exact ⟨j, by omega, rfl⟩
theorem tab_ne {w : Int32} {n j : Nat} (hn : n < 2 ^ 30) (h : w.toInt < 0 ∨ (n : Int) < w.toInt) (hj : j ≤ n) : ¬ w = nI j := by
  rintro rfl
  rw [nI_toInt (by omega)] at h
  omega
section ML
variable {I : MI} {R : MR} {φ α β κ τ : Nat → Int32} {Z : MI}
theorem sp_X6_speaker (hM : Md R) (s w : Int32) : Spd mX6_speaker [.ref 131, .int s, .int w] (MM I φ Z α β κ τ) R (some (.int (pSpk Z s w))) (MM I φ Z α β κ τ) := by
  refine Spd.mk (by decide +kernel) (by simp [Value.category]) (Nat.le_of_ble_eq_true rfl) (fun g cx => ?_)
  by_cases h1 : inr s (nI 0) (nI 3) = true
  · by_cases h2 : inr w (nI 0) (nI 6) = true
    · obtain ⟨k, -, hk, rfl⟩ := inr_of (by omega) h1 (by omega)
      obtain ⟨j, -, hj, rfl⟩ := inr_of (by omega) h2 (by omega)
      have e : pSpk Z (nI k) (nI j) = Z k j := by unfold pSpk; rw [if_pos h1, if_pos h2, nI_cl (by omega), nI_cl (by omega)]
      rw [e]
      refine x_iload_n dX6_speaker_0 rfl rfl ?_
      refine x_callSd0 (mt' := mX6_isOne) (sp_X6_isOne _) ktX6_isOne wl_X6_109 (by decide) dX6_speaker_1 rfl rfl (Nat.le_of_ble_eq_true rfl) ⟨rfl, rfl⟩ (by decide) ?_
      refine x_if_ne 11 dX6_speaker_4 (by decide) (fun c4 => ?_) (fun c4 => ?_)
      · skip
        refine x_iload_n dX6_speaker_11 rfl rfl ?_
        refine x_iconst (nI 0) dX6_speaker_12 (by decide) ?_
        refine x_bipush (nI 6) dX6_speaker_13 (by decide) ?_
        refine x_callSd0 (mt' := mX6_in) (sp_X6_in _ _ _) ktX6_in wl_X6_36 (by decide) dX6_speaker_15 rfl rfl (Nat.le_of_ble_eq_true rfl) ⟨rfl, rfl⟩ (by decide) ?_
        refine x_if_eq 34 dX6_speaker_18 (by decide) (fun c18 => ?_) (fun c18 => ?_)
        · skip
          exact absurd h2 (bi_t c18)
        · skip
          refine x_aload_n dX6_speaker_21 rfl rfl ?_
          refine x_getR fl_X6_7 dX6_speaker_22 xk_131 (by decide) rfl (hM 0 _ rfl) ?_
          refine x_iload_n dX6_speaker_25 rfl rfl ?_
          refine x_iload_n dX6_speaker_26 rfl rfl ?_
          refine x_callSd0 (mt' := mX6_of) (sp_X6_of _ _) ktX6_of wl_X6_33 (by decide) dX6_speaker_27 rfl rfl (Nat.le_of_ble_eq_true rfl) ⟨rfl, rfl⟩ (by decide) ?_
          refine x_ldS dX6_speaker_30 (by omega) (zf_sp (by omega) (by omega)) ?_
          refine x_goto 36 dX6_speaker_31 (by decide) ?_
          refine x_iret dX6_speaker_36 rfl (by decide) (by decide) ?_
          exact ⟨rfl, rfl, rfl, rfl⟩
      · skip
        exact absurd h1 (bi_t c4)
    · have e : pSpk Z s w = -2 := by unfold pSpk; rw [if_pos h1, if_neg h2]
      rw [e]
      refine x_iload_n dX6_speaker_0 rfl rfl ?_
      refine x_callSd0 (mt' := mX6_isOne) (sp_X6_isOne _) ktX6_isOne wl_X6_109 (by decide) dX6_speaker_1 rfl rfl (Nat.le_of_ble_eq_true rfl) ⟨rfl, rfl⟩ (by decide) ?_
      refine x_if_ne 11 dX6_speaker_4 (by decide) (fun c4 => ?_) (fun c4 => ?_)
      · skip
        refine x_iload_n dX6_speaker_11 rfl rfl ?_
        refine x_iconst (nI 0) dX6_speaker_12 (by decide) ?_
        refine x_bipush (nI 6) dX6_speaker_13 (by decide) ?_
        refine x_callSd0 (mt' := mX6_in) (sp_X6_in _ _ _) ktX6_in wl_X6_36 (by decide) dX6_speaker_15 rfl rfl (Nat.le_of_ble_eq_true rfl) ⟨rfl, rfl⟩ (by decide) ?_
        refine x_if_eq 34 dX6_speaker_18 (by decide) (fun c18 => ?_) (fun c18 => ?_)
        · skip
          refine x_bipush (-2) dX6_speaker_34 (by decide) ?_
          refine x_iret dX6_speaker_36 rfl (by decide) (by decide) ?_
          exact ⟨rfl, rfl, rfl, rfl⟩
        · skip
          exact absurd (bi_nt c18) h2
      · skip
        exact absurd h1 (bi_t c4)
  · have e : pSpk Z s w = -1 := by unfold pSpk; rw [if_neg h1]
    rw [e]
    refine x_iload_n dX6_speaker_0 rfl rfl ?_
    refine x_callSd0 (mt' := mX6_isOne) (sp_X6_isOne _) ktX6_isOne wl_X6_109 (by decide) dX6_speaker_1 rfl rfl (Nat.le_of_ble_eq_true rfl) ⟨rfl, rfl⟩ (by decide) ?_
    refine x_if_ne 11 dX6_speaker_4 (by decide) (fun c4 => ?_) (fun c4 => ?_)
    · skip
      exact absurd (bi_nt c4) h1
    · skip
      refine x_iconst (-1) dX6_speaker_7 (by decide) ?_
      refine x_goto 36 dX6_speaker_8 (by decide) ?_
      refine x_iret dX6_speaker_36 rfl (by decide) (by decide) ?_
      exact ⟨rfl, rfl, rfl, rfl⟩
theorem sp_X6_listener (hM : Md R) (s w : Int32) : Spd mX6_listener [.ref 131, .int s, .int w] (MM I φ Z α β κ τ) R (some (.int (pLsn Z s w))) (MM I φ Z α β κ τ) := by
  refine Spd.mk (by decide +kernel) (by simp [Value.category]) (Nat.le_of_ble_eq_true rfl) (fun g cx => ?_)
  by_cases h1 : inr s (nI 0) (nI 3) = true
  · by_cases h2 : inr w (nI 0) (nI 4) = true
    · obtain ⟨k, -, hk, rfl⟩ := inr_of (by omega) h1 (by omega)
      obtain ⟨j, -, hj, rfl⟩ := inr_of (by omega) h2 (by omega)
      have e : pLsn Z (nI k) (nI j) = Z (4 + k) j := by unfold pLsn; rw [if_pos h1, if_pos h2, nI_cl (by omega), nI_cl (by omega)]
      rw [e]
      refine x_iload_n dX6_listener_0 rfl rfl ?_
      refine x_callSd0 (mt' := mX6_isOne) (sp_X6_isOne _) ktX6_isOne wl_X6_109 (by decide) dX6_listener_1 rfl rfl (Nat.le_of_ble_eq_true rfl) ⟨rfl, rfl⟩ (by decide) ?_
      refine x_if_ne 11 dX6_listener_4 (by decide) (fun c4 => ?_) (fun c4 => ?_)
      · skip
        refine x_iload_n dX6_listener_11 rfl rfl ?_
        refine x_iconst (nI 0) dX6_listener_12 (by decide) ?_
        refine x_iconst (nI 4) dX6_listener_13 (by decide) ?_
        refine x_callSd0 (mt' := mX6_in) (sp_X6_in _ _ _) ktX6_in wl_X6_36 (by decide) dX6_listener_14 rfl rfl (Nat.le_of_ble_eq_true rfl) ⟨rfl, rfl⟩ (by decide) ?_
        refine x_if_eq 33 dX6_listener_17 (by decide) (fun c17 => ?_) (fun c17 => ?_)
        · skip
          exact absurd h2 (bi_t c17)
        · skip
          refine x_aload_n dX6_listener_20 rfl rfl ?_
          refine x_getR fl_X6_7 dX6_listener_21 xk_131 (by decide) rfl (hM 0 _ rfl) ?_
          refine x_iload_n dX6_listener_24 rfl rfl ?_
          refine x_iload_n dX6_listener_25 rfl rfl ?_
          refine x_callSd0 (mt' := mX6_ofListener) (sp_X6_ofListener _ _) ktX6_ofListener wl_X6_29 (by decide) dX6_listener_26 rfl rfl (Nat.le_of_ble_eq_true rfl) ⟨rfl, rfl⟩ (by decide) ?_
          refine x_ldS dX6_listener_29 (by omega) (zf_li (by omega) (by omega)) ?_
          refine x_goto 35 dX6_listener_30 (by decide) ?_
          refine x_iret dX6_listener_35 rfl (by decide) (by decide) ?_
          exact ⟨rfl, rfl, rfl, rfl⟩
      · skip
        exact absurd h1 (bi_t c4)
    · have e : pLsn Z s w = -2 := by unfold pLsn; rw [if_pos h1, if_neg h2]
      rw [e]
      refine x_iload_n dX6_listener_0 rfl rfl ?_
      refine x_callSd0 (mt' := mX6_isOne) (sp_X6_isOne _) ktX6_isOne wl_X6_109 (by decide) dX6_listener_1 rfl rfl (Nat.le_of_ble_eq_true rfl) ⟨rfl, rfl⟩ (by decide) ?_
      refine x_if_ne 11 dX6_listener_4 (by decide) (fun c4 => ?_) (fun c4 => ?_)
      · skip
        refine x_iload_n dX6_listener_11 rfl rfl ?_
        refine x_iconst (nI 0) dX6_listener_12 (by decide) ?_
        refine x_iconst (nI 4) dX6_listener_13 (by decide) ?_
        refine x_callSd0 (mt' := mX6_in) (sp_X6_in _ _ _) ktX6_in wl_X6_36 (by decide) dX6_listener_14 rfl rfl (Nat.le_of_ble_eq_true rfl) ⟨rfl, rfl⟩ (by decide) ?_
        refine x_if_eq 33 dX6_listener_17 (by decide) (fun c17 => ?_) (fun c17 => ?_)
        · skip
          refine x_bipush (-2) dX6_listener_33 (by decide) ?_
          refine x_iret dX6_listener_35 rfl (by decide) (by decide) ?_
          exact ⟨rfl, rfl, rfl, rfl⟩
        · skip
          exact absurd (bi_nt c17) h2
      · skip
        exact absurd h1 (bi_t c4)
  · have e : pLsn Z s w = -1 := by unfold pLsn; rw [if_neg h1]
    rw [e]
    refine x_iload_n dX6_listener_0 rfl rfl ?_
    refine x_callSd0 (mt' := mX6_isOne) (sp_X6_isOne _) ktX6_isOne wl_X6_109 (by decide) dX6_listener_1 rfl rfl (Nat.le_of_ble_eq_true rfl) ⟨rfl, rfl⟩ (by decide) ?_
    refine x_if_ne 11 dX6_listener_4 (by decide) (fun c4 => ?_) (fun c4 => ?_)
    · skip
      exact absurd (bi_nt c4) h1
    · skip
      refine x_iconst (-1) dX6_listener_7 (by decide) ?_
      refine x_goto 35 dX6_listener_8 (by decide) ?_
      refine x_iret dX6_listener_35 rfl (by decide) (by decide) ?_
      exact ⟨rfl, rfl, rfl, rfl⟩
theorem pBits_le (v : Int32) : pBits v ≤ 27 := by unfold pBits; split <;> omega
theorem sp_X6_ticksOf (hM : Md R) {k j : Nat} (hk : k < 4) (hj : j < 5) : Spd mX6_ticksOf [.ref 131, .int (nI k), .int (nI j)] (MM I φ Z α β κ τ) R (some (.int (pTi Z k j))) (MM I φ Z α β κ τ) := by
  refine Spd.mk (by decide +kernel) (by simp [Value.category]) (Nat.le_of_ble_eq_true rfl) (fun g cx => ?_)
  have hb := pBits_le (Z k (7 + 3 * j + 2))
  cases hl : pLi Z (Z k (7 + 3 * j + 0)) with
  | none =>
    have e : pTi Z k j = nI (pBits (Z k (7 + 3 * j + 2)) + 0) := by unfold pTi; rw [hl]; exact nI_add _ _
    rw [e]
    refine x_aload_n dX6_ticksOf_0 rfl rfl ?_
    refine x_iload_n dX6_ticksOf_1 rfl rfl ?_
    refine x_iload_n dX6_ticksOf_2 rfl rfl ?_
    refine x_iconst (nI 2) dX6_ticksOf_3 (by decide) ?_
    refine x_callVd0 (mt' := mX6_inMessage) (sp_X6_inMessage hM (by omega) (by omega)) kvX6_inMessage wl_X6_43 (by decide) dX6_ticksOf_4 xk_131 (by decide) rfl rfl (Nat.le_of_ble_eq_true rfl) ⟨rfl, rfl⟩ (by decide) ?_
    refine x_callSd0 (mt' := mX6_bitsOf) (sp_X6_bitsOf _) ktX6_bitsOf wl_X6_78 (by decide) dX6_ticksOf_7 rfl rfl (Nat.le_of_ble_eq_true rfl) ⟨rfl, rfl⟩ (by decide) ?_
    refine x_istore_n dX6_ticksOf_10 rfl (by decide) ?_
    refine x_aload_n dX6_ticksOf_11 rfl rfl ?_
    refine x_aload_n dX6_ticksOf_12 rfl rfl ?_
    refine x_iload_n dX6_ticksOf_13 rfl rfl ?_
    refine x_iload_n dX6_ticksOf_14 rfl rfl ?_
    refine x_iconst (nI 0) dX6_ticksOf_15 (by decide) ?_
    refine x_callVd0 (mt' := mX6_inMessage) (sp_X6_inMessage hM (by omega) (by omega)) kvX6_inMessage wl_X6_43 (by decide) dX6_ticksOf_16 xk_131 (by decide) rfl rfl (Nat.le_of_ble_eq_true rfl) ⟨rfl, rfl⟩ (by decide) ?_
    refine x_callVd0 (mt' := mX6_listenerOf) (sp_X6_listenerOf hM _) kvX6_listenerOf wl_X6_74 (by decide) dX6_ticksOf_19 xk_131 (by decide) rfl rfl (Nat.le_of_ble_eq_true rfl) ⟨rfl, rfl⟩ (by decide) ?_
    rw [hl]
    refine x_istore dX6_ticksOf_22 (by decide) ?_
    refine x_iload_n dX6_ticksOf_24 rfl rfl ?_
    refine x_iload dX6_ticksOf_25 rfl ?_
    refine x_bipush (-5) dX6_ticksOf_27 (by decide) ?_
    refine x_icmp_neF dX6_ticksOf_29 (rfl) ?_ 36 (by decide)
    refine x_iconst (nI 0) dX6_ticksOf_32 (by decide) ?_
    refine x_goto 52 dX6_ticksOf_33 (by decide) ?_
    refine x_iaddN dX6_ticksOf_52 ?_
    refine x_iret dX6_ticksOf_53 rfl (by decide) (by decide) ?_
    exact ⟨rfl, rfl, rfl, rfl⟩
  | some l =>
    have hl4 := (pLi_spec hl).1
    have e : pTi Z k j = nI (pBits (Z k (7 + 3 * j + 2))) + nI (pBits (Z k (7 + 3 * j + 2)) / 9) * Z (4 + l) 1 := by unfold pTi; rw [hl]
    rw [e]
    refine x_aload_n dX6_ticksOf_0 rfl rfl ?_
    refine x_iload_n dX6_ticksOf_1 rfl rfl ?_
    refine x_iload_n dX6_ticksOf_2 rfl rfl ?_
    refine x_iconst (nI 2) dX6_ticksOf_3 (by decide) ?_
    refine x_callVd0 (mt' := mX6_inMessage) (sp_X6_inMessage hM (by omega) (by omega)) kvX6_inMessage wl_X6_43 (by decide) dX6_ticksOf_4 xk_131 (by decide) rfl rfl (Nat.le_of_ble_eq_true rfl) ⟨rfl, rfl⟩ (by decide) ?_
    refine x_callSd0 (mt' := mX6_bitsOf) (sp_X6_bitsOf _) ktX6_bitsOf wl_X6_78 (by decide) dX6_ticksOf_7 rfl rfl (Nat.le_of_ble_eq_true rfl) ⟨rfl, rfl⟩ (by decide) ?_
    refine x_istore_n dX6_ticksOf_10 rfl (by decide) ?_
    refine x_aload_n dX6_ticksOf_11 rfl rfl ?_
    refine x_aload_n dX6_ticksOf_12 rfl rfl ?_
    refine x_iload_n dX6_ticksOf_13 rfl rfl ?_
    refine x_iload_n dX6_ticksOf_14 rfl rfl ?_
    refine x_iconst (nI 0) dX6_ticksOf_15 (by decide) ?_
    refine x_callVd0 (mt' := mX6_inMessage) (sp_X6_inMessage hM (by omega) (by omega)) kvX6_inMessage wl_X6_43 (by decide) dX6_ticksOf_16 xk_131 (by decide) rfl rfl (Nat.le_of_ble_eq_true rfl) ⟨rfl, rfl⟩ (by decide) ?_
    refine x_callVd0 (mt' := mX6_listenerOf) (sp_X6_listenerOf hM _) kvX6_listenerOf wl_X6_74 (by decide) dX6_ticksOf_19 xk_131 (by decide) rfl rfl (Nat.le_of_ble_eq_true rfl) ⟨rfl, rfl⟩ (by decide) ?_
    rw [hl]
    refine x_eqtop (y := nI l) rfl ?_
    refine x_istore dX6_ticksOf_22 (by decide) ?_
    refine x_iload_n dX6_ticksOf_24 rfl rfl ?_
    refine x_iload dX6_ticksOf_25 rfl ?_
    refine x_bipush (-5) dX6_ticksOf_27 (by decide) ?_
    refine x_icmp_neT 36 dX6_ticksOf_29 (by decide) (nI_ne5 (by omega)) ?_
    refine x_iload_n dX6_ticksOf_36 rfl rfl ?_
    refine x_bipush (nI 9) dX6_ticksOf_37 (by decide) ?_
    refine x_idivN dX6_ticksOf_39 (by omega) (by omega) (by omega) ?_
    refine x_aload_n dX6_ticksOf_40 rfl rfl ?_
    refine x_getR fl_X6_7 dX6_ticksOf_41 xk_131 (by decide) rfl (hM 0 _ rfl) ?_
    refine x_iload dX6_ticksOf_44 rfl ?_
    refine x_iconst (nI 1) dX6_ticksOf_46 (by decide) ?_
    refine x_callSd0 (mt' := mX6_ofListener) (sp_X6_ofListener _ _) ktX6_ofListener wl_X6_29 (by decide) dX6_ticksOf_47 rfl rfl (Nat.le_of_ble_eq_true rfl) ⟨rfl, rfl⟩ (by decide) ?_
    refine x_ldS dX6_ticksOf_50 (by omega) (zf_li (by omega) (by omega)) ?_
    refine x_imul dX6_ticksOf_51 ?_
    refine x_iadd dX6_ticksOf_52 ?_
    refine x_iret dX6_ticksOf_53 rfl (by decide) (by decide) ?_
    exact ⟨rfl, rfl, rfl, rfl⟩
end ML
