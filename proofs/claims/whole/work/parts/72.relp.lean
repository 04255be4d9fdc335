/-! class and reference: perform *)
-/
theorem gD_st {t : Nat → Int32} {n : Nat} : ∀ (f k p : Nat) (Z : MI) (b c : Int32) (q : Int32 × Int32), (gD t n f k p Z b c).2.2.1 = some q → ∃ j, j ≤ k + f ∧ q.1 = nI j := by
  intro f
  induction f with
  | zero => intro k p Z b c q h; cases h
  | succ f ih =>
    intro k p Z b c q h
    rw [gD] at h
    split at h
    · cases h; exact ⟨k, by omega, rfl⟩
    · split at h
      · cases h
      · split at h
        · cases h
        · split at h
          · cases h
          · obtain ⟨j, hj, e⟩ := ih _ _ _ _ _ q h
            exact ⟨j, by omega, e⟩
theorem PF_self {φ : Nat → Int32} {p : Nat} {w : Bool} (h10 : φ 10 = nI p) (h11 : φ 11 = bi w) : PF φ (p, w) (φ 12) (φ 13) (φ 14) (φ 15) (φ 16) = φ := by
  funext j
  unfold PF
  by_cases c : j = 10
  · rw [if_pos c, c]; exact h10.symm
  rw [if_neg c]
  by_cases c : j = 11
  · rw [if_pos c, c]; exact h11.symm
  rw [if_neg c]
  by_cases c : j = 12
  · rw [if_pos c, c]
  rw [if_neg c]
  by_cases c : j = 13
  · rw [if_pos c, c]
  rw [if_neg c]
  by_cases c : j = 14
  · rw [if_pos c, c]
  rw [if_neg c]
  by_cases c : j = 15
  · rw [if_pos c, c]
  rw [if_neg c]
  by_cases c : j = 16
  · rw [if_pos c, c]
  rw [if_neg c]
theorem RF_PO {φ : Nat → Int32} {h n : Nat} {e : Bool} {a b : Int32} {o : TO} (hF : RF φ h n e a b) : RF (PO φ o) h n e a b := by
  obtain ⟨f3, f5, f7, ⟨f8, f9, f9'⟩, -, -⟩ := hF
  unfold PO
  exact ⟨by rw [PF_lo (by omega)]; exact f3, by rw [PF_lo (by omega)]; exact f5, by rw [PF_lo (by omega)]; exact f7, ⟨by rw [PF_lo (by omega)]; exact f8, f9, by rw [PF_lo (by omega)]; exact f9'⟩, ⟨o.1.1, PF_10⟩, ⟨o.1.2, PF_11⟩⟩
theorem RF_st {φ : Nat → Int32} {h n : Nat} {e : Bool} {a b : Int32} {o : Option (Int32 × Int32)} (hF : RF φ h n e a b) (ho : ∀ q, o = some q → ¬ q.1 = -5) : RF (stF φ o) h n e (stA o a) (stB o b) := by
  cases o with
  | none => exact hF
  | some q =>
    obtain ⟨f3, f5, f7, -, f10, f11⟩ := hF
    have hq := ho q rfl
    have eo : ∀ j, j ≠ 8 → j ≠ 9 → stF φ (some q) j = φ j := fun j h8 h9 => by show upd (upd φ 8 q.1) 9 q.2 j = _; rw [upd_ne h9, upd_ne h8]
    have e8 : stF φ (some q) 8 = q.1 := by show upd (upd φ 8 q.1) 9 q.2 8 = _; rw [upd_ne (by omega), upd_self]
    have e9 : stF φ (some q) 9 = q.2 := by show upd (upd φ 8 q.1) 9 q.2 9 = _; rw [upd_self]
    exact ⟨by rw [eo 3 (by omega) (by omega)]; exact f3, by rw [eo 5 (by omega) (by omega)]; exact f5, by rw [eo 7 (by omega) (by omega)]; exact f7, ⟨e8, fun z => absurd z hq, fun _ => e9.symm⟩, by rw [eo 10 (by omega) (by omega)]; exact f10, by rw [eo 11 (by omega) (by omega)]; exact f11⟩
theorem pr_perform : Pr mX5_perform mX6_perform [] := by
  intro J R hRL
  obtain ⟨σ, φ, α, β, κ, τ, Z, h, n, e, a, b, hJ, hC, hF⟩ := hRL
  obtain ⟨⟨p, f10⟩, w, f11⟩ := hF.2.2.2.2
  have hI : IV Z := ⟨hC.sj.nb, hC.lv⟩
  have href : ∀ J1 R1, Md R1 → Hi J J1 → Sp mX6_perform [.ref 131] 137 J1 R1 _ := fun J1 R1 hM hH => by
    have h1 := sp_X6_perform (I := J1) (R := R1) (φ := φ) (α := α) (β := β) (κ := κ) (τ := τ) (Z := Z) (s := (p, w)) (l := φ 12) (a := φ 13) (b := φ 14) (c := φ 15) (d := φ 16) hM hF.2.2.1 hC.tx.1 IV (fun Z hz => IV_n hz) IV_do hI hF.1 hC.h4
    rw [PF_self f10 f11, ← MM_hi hJ hH] at h1
    exact h1
  cases hw : (gP τ n 81 0 0 (φ 14) (φ 15)).2.1.2 with
  | true =>
    refine ⟨-100 - nI (gP τ n 81 0 0 (φ 14) (φ 15)).2.1.1, (sp_performF hC (φ 14) (φ 15) hw).imp (fun r n' J1 R1 hq => ?_)⟩
    obtain ⟨rfl, rfl, hH, rfl, hC1⟩ := hq
    refine ⟨rfl, rfl, (href J1 R1 hC1.ob.md hH).imp (fun r n' J2 R2 hq2 => ?_)⟩
    obtain ⟨rfl, rfl, ⟨-, rfl, rfl⟩ | ⟨hw2, -⟩⟩ := hq2
    · exact ⟨rfl, rfl, RL_of hC1 Zq.rf (fun _ _ => Zq.rf) (fun _ => Zq.rf) (fun _ _ => rfl) (RF_PO hF)⟩
    · rw [hw] at hw2; cases hw2
  | false =>
    have hcls := sp_perform hC (φ 14) (φ 15) (gP τ n 81 0 0 (φ 14) (φ 15)).2.2.2.2.1 (gP τ n 81 0 0 (φ 14) (φ 15)).2.2.2.2.2.1 hw
    have hst := gD_st (t := τ) (n := n) 81 0 0 Z (gP τ n 81 0 0 (φ 14) (φ 15)).2.2.2.2.1 (gP τ n 81 0 0 (φ 14) (φ 15)).2.2.2.2.2.1
    refine ⟨(gD τ n 81 0 0 Z (gP τ n 81 0 0 (φ 14) (φ 15)).2.2.2.2.1 (gP τ n 81 0 0 (φ 14) (φ 15)).2.2.2.2.2.1).1, hcls.imp (fun r n' J1 R1 hq => ?_)⟩
    obtain ⟨rfl, rfl, hH, hq⟩ := hq
    have hM : Md R1 := by rcases hq with ⟨-, q⟩ | ⟨-, -, q⟩ <;> exact q.ob.md
    refine ⟨rfl, rfl, (href J1 R1 hM hH).imp (fun r n' J2 R2 hq2 => ?_)⟩
    obtain ⟨rfl, rfl, ⟨hw2, -⟩ | ⟨-, rfl, hI2⟩⟩ := hq2
    · rw [hw] at hw2; cases hw2
    · unfold pfG at hI2 ⊢
      generalize gD τ n 81 0 0 Z (gP τ n 81 0 0 (φ 14) (φ 15)).2.2.2.2.1 (gP τ n 81 0 0 (φ 14) (φ 15)).2.2.2.2.2.1 = G at hI2 hq hst ⊢
      refine ⟨rfl, rfl, ?_⟩
      rcases hI2 with ⟨hg, rfl⟩ | ⟨hg, rfl⟩
      · rcases hq with ⟨q, -⟩ | ⟨-, q1, q2⟩
        · exact absurd q hg
        · rw [q1]
          exact RL_of q2 Zq.rf (rec_z hC.h4) (fun _ => Zq.rf) (fun _ _ => rfl) (recF_z (RF_PO hF))
      · rcases hq with ⟨-, q⟩ | ⟨q, -⟩
        · exact RL_of q zq_bk (fun _ _ => Zq.rf) (fun _ => Zq.rf) (fun _ _ => rfl) (RF_PO (RF_st hF (fun y hy z => by
            obtain ⟨j, hj, ej⟩ := hst y hy
            exact nI_pos (n := j) (by omega) (by rw [← ej, z]; decide))))
        · exact absurd hg q
