/-! the class: taking back -/
theorem SPJ_drop {F P z : Nat → Int32} {m : Nat} (h : SPJ F P z) (hm : z 0 = nI m) (h1 : 1 ≤ m) (h5 : m ≤ 5) (ht : z 1 = bi true → 2 ≤ m) : SPJ (if m = 1 then skRem F m else upd F 1 (nI (m - 1))) P (upd (upd z 0 (nI (m - 1))) 6 (if m = 1 then nI 0 else z 6)) := by
  obtain ⟨m0, t, a1, a2, a3, a4, a5, a6⟩ := h
  have em : m0 = m := by
    have := congrArg Int32.toInt (a2.symm.trans hm)
    rw [nI_toInt (by omega), nI_toInt (by omega)] at this
    omega
  subst em
  refine ⟨m0 - 1, t, by omega, by rw [upd_ne (by omega)]; exact upd_self, by rw [upd_ne (by omega), upd_ne (by omega)]; exact a3, (fun q => by have := ht (by rw [a3, q]); omega), fun w hw => ?_, fun j hj => ?_⟩
  · by_cases e : m0 = 1
    · rw [if_pos e, if_pos e]
      unfold skRem
      by_cases h6 : w = 6
      · subst h6; rw [upd_self, upd_self]
      · rw [upd_ne (by omega), upd_ne h6]
        by_cases h0 : w = 0
        · subst h0; rw [upd_self, upd_self]
        · rw [upd_ne (by omega), upd_ne h0]; exact a5 w hw
    · rw [if_neg e, if_neg e]
      by_cases h0 : w = 0
      · subst h0; rw [upd_self, upd_ne (by omega), upd_self]
      · rw [upd_ne (by omega)]
        by_cases h6 : w = 6
        · subst h6; rw [upd_self]; exact a5 6 (by omega)
        · rw [upd_ne h6, upd_ne h0]; exact a5 w hw
  · rw [upd_ne (by omega), upd_ne (by omega), upd_ne (by omega), upd_ne (by omega), upd_ne (by omega), upd_ne (by omega)]
    exact a6 j (by omega)
