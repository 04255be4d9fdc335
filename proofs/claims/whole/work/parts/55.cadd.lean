/-! the class: a message more -/
theorem dbl_n : ∀ x, x < 128 → nI x <<< 1 = nI (2 * x) := by decide +kernel
theorem SPJ_app {F P z : Nat → Int32} {m x : Nat} {y d : Int32} (h : SPJ F P z) (hm : z 0 = nI m) (h5 : m < 5) (hx : x < 128) : SPJ (upd F 1 (nI (m + 1))) (skApp P m (nI x) y d) (upd (upd (upd (upd z (7 + 3 * m) (nI x)) (7 + 3 * m + 1) y) (7 + 3 * m + 2) d) 0 (nI (m + 1))) := by
  obtain ⟨m0, t, a1, a2, a3, a4, a5, a6⟩ := h
  have em : m0 = m := by
    have := congrArg Int32.toInt (a2.symm.trans hm)
    rw [nI_toInt (by omega), nI_toInt (by omega)] at this
    omega
  subst em
  refine ⟨m0 + 1, t, by omega, upd_self, ?_, (fun _ => by omega), fun w hw => ?_, fun j hj => ?_⟩
  · rw [upd_ne (by omega), upd_ne (by omega), upd_ne (by omega), upd_ne (by omega)]; exact a3
  · by_cases h0 : w = 0
    · subst h0; rw [upd_self, upd_self]
    · rw [upd_ne (by omega), upd_ne (by omega), upd_ne (by omega), upd_ne (by omega), upd_ne (by omega)]; exact a5 w hw
  · unfold skApp
    by_cases e : j = m0
    · subst e
      refine ⟨⟨x, hx, ?_, ?_⟩, ?_, ?_⟩
      · rw [upd_ne (by omega), upd_ne (by omega), upd_ne (by omega)]; exact upd_self
      · rw [upd_ne (by omega), upd_ne (by omega), upd_self]; exact dbl_n x hx
      · rw [upd_ne (by omega), upd_self, upd_ne (by omega), upd_ne (by omega), show 8 + 3 * j = 7 + 3 * j + 1 by omega, upd_self]
      · rw [upd_self, upd_ne (by omega), show 9 + 3 * j = 7 + 3 * j + 2 by omega, upd_self]
    · obtain ⟨⟨u, q0, q1, q2⟩, q3, q4⟩ := a6 j (by omega)
      refine ⟨⟨u, q0, ?_, ?_⟩, ?_, ?_⟩
      · rw [upd_ne (by omega), upd_ne (by omega), upd_ne (by omega), upd_ne (by omega)]; exact q1
      · rw [upd_ne (by omega), upd_ne (by omega), upd_ne (by omega)]; exact q2
      · rw [upd_ne (by omega), upd_ne (by omega), upd_ne (by omega), upd_ne (by omega), upd_ne (by omega), upd_ne (by omega), upd_ne (by omega)]; exact q3
      · rw [upd_ne (by omega), upd_ne (by omega), upd_ne (by omega), upd_ne (by omega), upd_ne (by omega), upd_ne (by omega), upd_ne (by omega)]; exact q4
