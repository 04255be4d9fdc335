/-! class and reference as they begin; the law's loop *)
-/
theorem St.lo {R R' : MR} {o : Nat} (h : St R o) (hR : ∀ a, a < 131 → R' a = R a) : St R' o := by
  have hl := h.le
  refine ⟨h.1, ⟨by rw [hR _ (by omega)]; exact h.2.1.1, by rw [hR _ (by omega)]; exact h.2.1.2.1, by rw [hR _ (by omega)]; exact h.2.1.2.2.1, by rw [hR _ (by omega)]; exact h.2.1.2.2.2.1, by rw [hR _ (by omega)]; exact h.2.1.2.2.2.2⟩, fun k hk => ⟨by rw [hR _ (by omega)]; exact (h.2.2 k hk).1, by rw [hR _ (by omega)]; exact (h.2.2 k hk).2.1, by rw [hR _ (by omega)]; exact (h.2.2 k hk).2.2⟩⟩
theorem Zq_sK : Zq Zi (uz (sK 4)) := Zq.of (fun i hi => by
  rw [zf_uz]
  have key : ∀ i, i < 375 → sK 4 i = zf Zi i := by decide +kernel
  exact key i hi)
theorem MM_row {J : MI} {f : Nat → Int32} (h : J 132 = f) : J = MM J (J 131) (uz f) (J 133) (J 134) (J 135) (J 136) := by
  subst h
  funext a
  unfold MM
  by_cases c1 : a = 131
  · rw [if_pos c1, c1]
  · rw [if_neg c1]
    by_cases c2 : a = 132
    · rw [if_pos c2, c2, zf_uz]
    · rw [if_neg c2]
      by_cases c3 : a = 133
      · rw [if_pos c3, c3]
      · rw [if_neg c3]
        by_cases c4 : a = 134
        · rw [if_pos c4, c4]
        · rw [if_neg c4]
          by_cases c5 : a = 135
          · rw [if_pos c5, c5]
          · rw [if_neg c5]
            by_cases c6 : a = 136
            · rw [if_pos c6, c6]
            · rw [if_neg c6]
theorem R6_lo {R : MR} {a : Nat} (h : a < 131) : R6 R a = R a := by
  unfold R6
  rw [xuR_ne (by omega), xuR_ne (by omega), xuR_ne (by omega), xuR_ne (by omega), xuR_ne (by omega)]
theorem R6_md {R : MR} : Md (R6 R) := by
  have key : ∀ k j, mdR k = some j → (k = 0 ∧ j = 132) ∨ (k = 1 ∧ j = 133) ∨ (k = 2 ∧ j = 134) ∨ (k = 4 ∧ j = 135) ∨ (k = 6 ∧ j = 136) := by
    intro k j h
    unfold mdR at h
    split at h <;> cases h <;> omega
  intro k j hk
  unfold R6
  rcases key k j hk with ⟨rfl, rfl⟩ | ⟨rfl, rfl⟩ | ⟨rfl, rfl⟩ | ⟨rfl, rfl⟩ | ⟨rfl, rfl⟩
  · rw [xuR_at (by omega), xuR_at (by omega), xuR_at (by omega), xuR_at (by omega)]; exact xuR_self
  · rw [xuR_at (by omega), xuR_at (by omega), xuR_at (by omega)]; exact xuR_self
  · rw [xuR_at (by omega), xuR_at (by omega)]; exact xuR_self
  · rw [xuR_at (by omega)]; exact xuR_self
  · exact xuR_self
def sg0 (i : Nat) : Nat := if i = 4 then 41 else 59 + 18 * i
theorem sg0_in : ∀ i, i < 5 → sg0 i ∈ [41, 59, 77, 95, 113] := by decide
theorem sg0_inj : ∀ i, i < 5 → ∀ j, j < 5 → sg0 i = sg0 j → i = j := by decide
theorem RLs_start {I : MI} {R : MR} (h : IN5 4 I R) : RLs (rw1 (xuI I 131 8 (-5)) 132 (sK 4)) (R6 R) := by
  obtain ⟨hm, hB, hf, ⟨t0, t1⟩, hh, z5, z6, z7, z8, z38⟩ := h
  have lo : ∀ a, a < 131 → rw1 (xuI I 131 8 (-5)) 132 (sK 4) a = I a := fun a ha => by rw [rw1_ne (by omega), xuI_ne (by omega)]
  have e8 : rw1 (xuI I 131 8 (-5)) 132 (sK 4) 131 8 = -5 := by rw [rw1_ne (by omega)]; exact xuI_self
  have ez : ∀ k, k ≠ 8 → rw1 (xuI I 131 8 (-5)) 132 (sK 4) 131 k = 0 := fun k hk => by rw [rw1_ne (by omega), xuI_col hk]; exact (hB 131 (by omega) k).1
  have e132 : rw1 (xuI I 131 8 (-5)) 132 (sK 4) 132 = sK 4 := rw1_self
  have hS : ∀ o, Ost o → St (R6 R) o ∧ SJ o (rw1 (xuI I 131 8 (-5)) 132 (sK 4)) Zi := fun o ho => by
    have hlt : ∀ o ∈ [1, 19, 41, 59, 77, 95, 113], o < 59 + 18 * 4 := by decide
    obtain ⟨q1, q2⟩ := hm o ho (hlt o ho)
    exact ⟨q1.lo (fun a ha => R6_lo ha), q2.cg (fun a _ ha => lo a (by have := q1.le; omega)) (fun _ _ => rfl)⟩
  have hi5 : ∀ i, i < 5 → Ost (sg0 i) := by unfold Ost; decide
  generalize rw1 (xuI I 131 8 (-5)) 132 (sK 4) = J at *
  have hR := @R6_lo R
  have hMd := @R6_md R
  generalize R6 R = R' at *
  have O1 : Ost 1 := by unfold Ost; decide
  have O19 : Ost 19 := by unfold Ost; decide
  have hOb : Ob R' sg0 := by
    refine ⟨⟨?_, ?_, ?_, ?_, ?_⟩, fun i hi => ?_, sg0_in, ⟨fun i j hi hj => sg0_inj i hi j hj, hMd⟩, fun o ho => (hS o ho).1, ?_, ?_⟩
    · rw [hR (by omega)]; exact hf.1
    · rw [hR (by omega)]; exact hf.2.1
    · rw [hR (by omega)]; exact hf.2.2.1
    · rw [hR (by omega)]; exact hf.2.2.2.1
    · rw [hR (by omega)]; exact hf.2.2.2.2
    · rw [hR (by omega), hh i hi]; unfold sg0; rw [if_neg (by omega)]
    · rw [hR (by omega)]; exact t0
    · rw [hR (by omega)]; exact t1
  have hC : Cl sg0 J R' Zi (rwH (J 134)) 0 (uz (J 135)) false 0 (J 136) (-5) (-5) := by
    refine ⟨hOb, ⟨(hS 1 O1).2, LV_Zi⟩, ⟨by omega, fun i hi => absurd hi (by omega)⟩, ⟨fun i hi => ⟨_, (hS _ (hi5 i hi)).2⟩, ⟨_, (hS 19 O19).2⟩⟩, (fun q => by cases q), ⟨?_, ?_, ?_, ?_⟩, ⟨by omega, ?_, fun i hi => absurd hi (by omega)⟩⟩
    · rw [lo 0 (by omega)]; exact z5
    · rw [lo 0 (by omega)]; exact z6
    · rw [lo 0 (by omega)]; exact z7
    · rw [lo 0 (by omega)]; exact z8
    · rw [lo 38 (by omega)]; exact z38
  have hF : RF (J 131) 0 0 false (-5) (-5) := ⟨ez 3 (by omega), ez 5 (by omega), ez 7 (by omega), ⟨e8, fun _ => rfl, fun q => absurd rfl q⟩, ⟨0, ez 10 (by omega)⟩, ⟨false, ez 11 (by omega)⟩⟩
  have hfin := RL_of (φ := J 131) (α := J 133) (β := J 134) (κ := J 135) (τ := J 136) hC Zq_sK (fun i hi => absurd hi (by omega)) (fun q => by cases q) (fun i hi => absurd hi (by omega)) hF
  rw [← MM_row e132] at hfin
  exact hfin
