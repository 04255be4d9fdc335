/-! the law's acts: one of eight, with arguments in bounds; its answer is no error -/
theorem nI_nn {n : Nat} (h : n < 2 ^ 31) : ¬ nI n < 0 := nI_pos h
theorem cn4 (p : Nat → Bool) : cn p 4 ≤ 4 := cn_le p 4
theorem ok_say {Z : MI} {k m ad w : Nat} {s : Int32} (hk : k < 4) (hm : m < 5) (em : Z k 0 = nI m) (ha : ad < 128) (hw : w < 256) (hs : inr s (nI 0) (nI 255) = true ∨ s = -5) : (pSay Z (nI k) (nI ad) (nI w) s).1 = nI (m + 1) := by
  unfold pSay
  rw [if_pos (inr_nat (by omega) (by omega) (by omega) (by omega)), if_pos ⟨inr_nat (by omega) (by omega) (by omega) (by omega), inr_nat (by omega) (by omega) (by omega) (by omega), hs⟩, nI_cl (by omega), em, if_neg (fun q => absurd (nI_inj (by omega) (by omega) q) (by omega)), nI_cl (by omega)]
theorem ok_take {Z : MI} {k m : Nat} (hk : k < 4) (hm : m ≤ 5) (hm1 : 1 ≤ m) (em : Z k 0 = nI m) (ht : m = 1 → tk Z k = false) : (pTake Z (nI k)).1 = nI (m - 1) := by
  unfold pTake
  rw [if_pos (inr_nat (by omega) (by omega) (by omega) (by omega)), nI_cl (by omega), em, if_neg (fun q => ?_), if_neg (fun q => ?_)]
  · exact nI_sub1 hm1
  · have := nI_inj (b := 0) (by omega) (by omega) q
    omega
  · have := nI_inj (by omega) (by omega) q.1
    rw [ht this] at q
    cases q.2
theorem ok_hear {Z : MI} {k : Nat} {a : Int32} (hk : k < 4) (ha : inr a (nI 0) (nI 127) = true ∨ a = -5) : (pHear Z (nI k) a).1 = -4 ∨ (pHear Z (nI k) a).1 = -5 ∨ ¬ (pHear Z (nI k) a).1 < 0 := by
  unfold pHear
  rw [if_pos (inr_nat (by omega) (by omega) (by omega) (by omega)), if_pos ha]
  split
  · exact Or.inl rfl
  · split
    · exact Or.inr (Or.inl rfl)
    · refine Or.inr (Or.inr (nI_nn ?_))
      have := cn4 (ads (xuI Z (4 + (nI k).toNatClampNeg) 0 a))
      omega
theorem ok_hold {Z : MI} {k x : Nat} (hT : TL Z) (hk : k < 4) (hx : x ≤ 9) : (pHold Z (nI k) (nI x)).1 = -5 ∨ ¬ (pHold Z (nI k) (nI x)).1 < 0 := by
  unfold pHold
  rw [if_pos (inr_nat (by omega) (by omega) (by omega) (by omega)), if_pos (inr_nat (by omega) (by omega) (by omega) (by omega)), nI_cl (by omega)]
  dsimp only
  split
  · exact Or.inl rfl
  · obtain ⟨h, hh, e⟩ := hT.2.2.2 k hk
    rw [e]
    exact Or.inr (nI_nn (by omega))
theorem ok_stick {Z : MI} {k x : Nat} (hk : k < 4) (h1 : 1 ≤ x) (hx : x ≤ 99) : ¬ (pStick Z (nI k) (nI x)).1 < 0 := by
  unfold pStick
  rw [if_pos (inr_nat (by omega) (by omega) (by omega) (by omega)), if_pos (inr_nat (by omega) (by omega) (by omega) (by omega))]
  refine nI_nn ?_
  have := cn4 (stu (xuI Z (4 + (nI k).toNatClampNeg) 2 (nI x)))
  omega
theorem ok_set {Z : MI} {w : Nat} {x : Int32} (hS : S3 Z) (hw : w < 3) (hx : inr x (nI 1) (pMost (nI w)) = true) : (pSet Z (nI w) x).1 = -5 ∨ ¬ (pSet Z (nI w) x).1 < 0 := by
  unfold pSet
  rw [if_pos (inr_nat (by omega) (by omega) (by omega) (by omega)), if_pos hx, nI_cl (by omega)]
  dsimp only
  split
  · exact Or.inl rfl
  · obtain ⟨s, hs, e⟩ := hS w hw
    rw [e]
    exact Or.inr (nI_nn (by omega))
/-- what comes, as numbers -/
theorem came_n {c : Nat} {Z : MI} (h : GI c Z) (n : Nat) : ∃ a0 a1 a2 a3 b0 b1 b2 b3 : Nat, (a0 ≤ c ∧ a1 ≤ c ∧ a2 ≤ c ∧ a3 ≤ c) ∧ (b0 ≤ n ∧ b1 ≤ n ∧ b2 ≤ n ∧ b3 ≤ n) ∧ (Z 0 2 = nI a0 ∧ Z 1 2 = nI a1 ∧ Z 2 2 = nI a2 ∧ Z 3 2 = nI a3) ∧ pTk Z n 0 2 = nI (a0 + b0) ∧ pTk Z n 1 2 = nI (a1 + b1) ∧ pTk Z n 2 2 = nI (a2 + b2) ∧ pTk Z n 3 2 = nI (a3 + b3) := by
  obtain ⟨a0, b0, g1, g2, g3, g4⟩ := CM_pTk h (k := 0) (by omega) n
  obtain ⟨a1, b1, h1, h2, h3, h4⟩ := CM_pTk h (k := 1) (by omega) n
  obtain ⟨a2, b2, i1, i2, i3, i4⟩ := CM_pTk h (k := 2) (by omega) n
  obtain ⟨a3, b3, j1, j2, j3, j4⟩ := CM_pTk h (k := 3) (by omega) n
  exact ⟨a0, a1, a2, a3, b0, b1, b2, b3, ⟨g1, h1, i1, j1⟩, ⟨g2, h2, i2, j2⟩, ⟨g3, h3, i3, j3⟩, g4, h4, i4, j4⟩
theorem ok_run {c n : Nat} {Z : MI} (h : GI c Z) (h1 : 1 ≤ n) (hn : n ≤ 300) (hc : c + n ≤ 99999) : pRun Z (nI n) = (pCame (pTk Z n) - pCame Z, pTk Z n) ∧ ∃ b0 b1 b2 b3, (b0 ≤ n ∧ b1 ≤ n ∧ b2 ≤ n ∧ b3 ≤ n) ∧ pCame (pTk Z n) - pCame Z = nI (b0 + b1 + b2 + b3) ∧ pTk Z n 0 2 - Z 0 2 = nI b0 ∧ pTk Z n 1 2 - Z 1 2 = nI b1 ∧ pTk Z n 2 2 - Z 2 2 = nI b2 ∧ pTk Z n 3 2 - Z 3 2 = nI b3 := by
  refine ⟨?_, ?_⟩
  · unfold pRun
    rw [if_pos (inr_nat (by omega) (by omega) (by omega) (by omega)), h.ck, nI_add, if_pos ((nI_leI (by omega) (by omega)).mpr (by omega)), nI_cl (by omega)]
  · obtain ⟨a0, a1, a2, a3, b0, b1, b2, b3, ha, hb, ⟨e0, e1, e2, e3⟩, f0, f1, f2, f3⟩ := came_n h n
    refine ⟨b0, b1, b2, b3, hb, ?_, ?_, ?_, ?_, ?_⟩
    · show ((((nI 0 + pTk Z n 0 2) + pTk Z n 1 2) + pTk Z n 2 2) + pTk Z n 3 2) - ((((nI 0 + Z 0 2) + Z 1 2) + Z 2 2) + Z 3 2) = _
      rw [e0, e1, e2, e3, f0, f1, f2, f3, nI_add, nI_add, nI_add, nI_add, nI_add, nI_add, nI_add, nI_add, nI_sub (by omega)]
      congr 1
      omega
    · rw [e0, f0, nI_sub (by omega)]; congr 1; omega
    · rw [e1, f1, nI_sub (by omega)]; congr 1; omega
    · rw [e2, f2, nI_sub (by omega)]; congr 1; omega
    · rw [e3, f3, nI_sub (by omega)]; congr 1; omega
def DQ (C : Nat) (J : MI) : XQ := fun r n' J' R' => ∃ x : Int32, r = some (.int x) ∧ ¬ x < 0 ∧ n' = 131 ∧ Hi J J' ∧ GS (C + 40) J' R'
section CL
variable {σ : Nat → Nat} {J : MI} {R : MR} {Z : MI} {H : Nat → MI} {h : Nat} {K : MI} {e : Bool} {n : Nat} {t : Nat → Int32} {a b : Int32} {c C : Nat}
theorem d_say (hC : Cl σ J R Z H h K e n t a b) (hGI : GI c Z) (hcC : c ≤ C) (hC9 : C ≤ 9000) {v : Int32} {k ad m : Nat} (hk : k < 4) (had : ad < 128) (hm : m ≤ 5) (em : Z k 0 = nI m) {u6 : Option Value} {g : GX} {cx : CX} : X g cx mL_does (xF g cx mL_does (DQ C J)) (0, 0) 116 [some (.ref 0), some (.int v), some (.int (nI k)), some (.int (nI ad)), some (.int (nI m)), some (.int (nI 0)), u6] [] 131 J R := by
  have hG0 : GS (C + 40) J R := ⟨_, _, _, _, _, _, _, _, _, _, hC, c, by omega, hGI⟩
  by_cases q5 : m = 5
  · subst q5
    refine x_iload dL_does_116 rfl ?_
    refine x_iconst (nI 5) dL_does_118 (by decide) ?_
    refine x_icmp_neF dL_does_119 (rfl) ?_ 126 (by decide)
    refine x_iconst (nI 0) dL_does_122 (by decide) ?_
    refine x_goto 165 dL_does_123 (by decide) ?_
    refine x_istore dL_does_165 (by decide) ?_
    refine x_iload dL_does_167 rfl ?_
    refine x_iret dL_does_169 rfl (by decide) (by decide) ?_
    exact ⟨_, rfl, nI_nn (by omega), rfl, Hi.rf, hG0⟩
  · have q5' : ¬ nI m = nI 5 := fun q => q5 (nI_inj (by omega) (by omega) q)
    refine x_iload dL_does_116 rfl ?_
    refine x_iconst (nI 5) dL_does_118 (by decide) ?_
    refine x_icmp_neT 126 dL_does_119 (by decide) (q5') ?_
    refine x_aload_n dL_does_126 rfl rfl ?_
    refine x_iload_n dL_does_127 rfl rfl ?_
    refine x_iload_n dL_does_128 rfl rfl ?_
    refine x_iload_n dL_does_129 rfl rfl ?_
    refine x_bipush (nI 10) dL_does_130 (by decide) ?_
    refine x_ishr dL_does_132 ?_
    refine x_sipush (nI 256) dL_does_133 (by decide) ?_
    refine x_callSd0 (mt' := mL_low) (sp_low (by omega) (by omega)) ktL_low wl_L_8 (by decide) dL_does_136 rfl rfl (Nat.le_of_ble_eq_true rfl) ⟨rfl, rfl⟩ (by decide) ?_
    refine x_iload_n dL_does_139 rfl rfl ?_
    refine x_bipush (nI 9) dL_does_140 (by decide) ?_
    refine x_ishr dL_does_142 ?_
    refine x_iconst (nI 1) dL_does_143 (by decide) ?_
    refine x_iand dL_does_144 ?_
    refine' x_dia_if_ne 153 162 dL_does_145 (by decide) ?_ ?_ ?_; rotate_left 2
    · intro c145 k145
      refine x_bipush (-5) dL_does_148 (by decide) ?_
      refine x_goto 162 dL_does_150 (by decide) ?_
      exact k145
    · intro c145 k145
      refine x_iload_n dL_does_153 rfl rfl ?_
      refine x_iconst (nI 5) dL_does_154 (by decide) ?_
      refine x_ishr dL_does_155 ?_
      refine x_sipush (nI 256) dL_does_156 (by decide) ?_
      refine x_callSd0 (mt' := mL_low) (sp_low (by omega) (by omega)) ktL_low wl_L_8 (by decide) dL_does_159 rfl rfl (Nat.le_of_ble_eq_true rfl) ⟨rfl, rfl⟩ (by decide) ?_
      exact k145
    refine x_top (fun sec hsec => ?_)
    refine x_callV (mt' := mX5_say) (sp_say hC _ _ _ _) kvX5_say wl_L_19 (by decide) dL_does_162 xk_0 (by decide) rfl rfl (Nat.le_of_ble_eq_true rfl) (fun r' n' J2 R2 hq => ?_)
    have hs : inr sec (nI 0) (nI 255) = true ∨ sec = -5 := by
      rw [hsec]
      split
      · exact Or.inr rfl
      · exact Or.inl (inr_nat (lw_small (by omega)) (by omega) (by omega) (by have := lw_lt (x := v >>> (nI 5 &&& 31)) (n := 256) (by omega); omega))
    have hw := lw_lt (x := v >>> (nI 10 &&& 31)) (n := 256) (by omega)
    obtain ⟨rfl, rfl, hH, hG2⟩ := GS_RQ (c := C + 40) hq (fun hN => ⟨c, by omega, GI_say hGI (by omega)⟩)
    refine x_eqtop (ok_say (Z := Z) hk (by omega) em had hw hs) ?_
    refine x_istore dL_does_165 (by decide) ?_
    refine x_iload dL_does_167 rfl ?_
    refine x_iret dL_does_169 rfl (by decide) (by decide) ?_
    exact ⟨_, rfl, nI_nn (by omega), rfl, hH, hG2⟩
theorem d_take (hC : Cl σ J R Z H h K e n t a b) (hGI : GI c Z) (hcC : c ≤ C) (hC9 : C ≤ 9000) {v : Int32} {k ad m : Nat} (hk : k < 4) (had : ad < 128) (hm : m ≤ 5) (em : Z k 0 = nI m) {u6 : Option Value} {g : GX} {cx : CX} : X g cx mL_does (xF g cx mL_does (DQ C J)) (0, 0) 170 [some (.ref 0), some (.int v), some (.int (nI k)), some (.int (nI ad)), some (.int (nI m)), some (.int (nI 0)), u6] [] 131 J R := by
  have hG0 : GS (C + 40) J R := ⟨_, _, _, _, _, _, _, _, _, _, hC, c, by omega, hGI⟩
  have no : X g cx mL_does (xF g cx mL_does (DQ C J)) (0, 0) 199 [some (.ref 0), some (.int v), some (.int (nI k)), some (.int (nI ad)), some (.int (nI m)), some (.int (nI 0)), u6] [] 131 J R := by
    refine x_iconst (nI 0) dL_does_199 (by decide) ?_
    refine x_istore dL_does_200 (by decide) ?_
    refine x_iload dL_does_202 rfl ?_
    refine x_iret dL_does_204 rfl (by decide) (by decide) ?_
    exact ⟨_, rfl, nI_nn (by omega), rfl, Hi.rf, hG0⟩
  have yes : 1 ≤ m → (m = 1 → tk Z k = false) → X g cx mL_does (xF g cx mL_does (DQ C J)) (0, 0) 191 [some (.ref 0), some (.int v), some (.int (nI k)), some (.int (nI ad)), some (.int (nI m)), some (.int (nI 0)), u6] [] 131 J R := fun hm1 ht => by
    refine x_aload_n dL_does_191 rfl rfl ?_
    refine x_iload_n dL_does_192 rfl rfl ?_
    refine x_callV (mt' := mX5_takeBack) (sp_takeBack hC _) kvX5_takeBack wl_L_23 (by decide) dL_does_193 xk_0 (by decide) rfl rfl (Nat.le_of_ble_eq_true rfl) (fun r' n' J2 R2 hq => ?_)
    obtain ⟨rfl, rfl, hH, hG2⟩ := GS_RQ (c := C + 40) hq (fun hN => ⟨c, by omega, GI_take hGI (by omega) hN⟩)
    refine x_eqtop (ok_take (Z := Z) hk hm hm1 em ht) ?_
    refine x_goto 200 dL_does_196 (by decide) ?_
    refine x_istore dL_does_200 (by decide) ?_
    refine x_iload dL_does_202 rfl ?_
    refine x_iret dL_does_204 rfl (by decide) (by decide) ?_
    exact ⟨_, rfl, nI_nn (by omega), rfl, hH, hG2⟩
  refine x_iload dL_does_170 rfl ?_
  refine x_iconst (nI 1) dL_does_172 (by decide) ?_
  refine x_icmp_gtN 191 dL_does_173 (by decide) (by omega) (by omega) (fun q1 => yes (by omega) (fun q => by omega)) (fun q1 => ?_)
  refine x_iload dL_does_176 rfl ?_
  refine x_iconst (nI 1) dL_does_178 (by decide) ?_
  refine x_icmp_neN 199 dL_does_179 (by decide) (by omega) (by omega) (fun _ => no) (fun q2 => ?_)
  refine x_aload_n dL_does_182 rfl rfl ?_
  refine x_iload_n dL_does_183 rfl rfl ?_
  refine x_iconst (nI 1) dL_does_184 (by decide) ?_
  refine x_callVd0 (mt' := mX5_speaker) (sp_spk hC (by omega) (by omega)) kvX5_speaker wl_L_14 (by decide) dL_does_185 xk_0 (by decide) rfl rfl (Nat.le_of_ble_eq_true rfl) ⟨rfl, rfl⟩ (by decide) ?_
  skip
  refine x_eqtop (hC.sj.tb hk) ?_
  cases ht : tk Z k with
  | true => exact x_if_neT 199 dL_does_188 (by decide) (by decide) no
  | false => exact x_if_neF dL_does_188 (by rfl) (yes (by omega) (fun _ => ht))
theorem d_hear (hC : Cl σ J R Z H h K e n t a b) (hGI : GI c Z) (hcC : c ≤ C) (hC9 : C ≤ 9000) {v : Int32} {k ad m : Nat} (hk : k < 4) (had : ad < 128) (hm : m ≤ 5) (em : Z k 0 = nI m) {u6 : Option Value} {g : GX} {cx : CX} : X g cx mL_does (xF g cx mL_does (DQ C J)) (0, 0) 205 [some (.ref 0), some (.int v), some (.int (nI k)), some (.int (nI ad)), some (.int (nI m)), some (.int (nI 0)), u6] [] 131 J R := by
  have hG0 : GS (C + 40) J R := ⟨_, _, _, _, _, _, _, _, _, _, hC, c, by omega, hGI⟩
  refine x_aload_n dL_does_205 rfl rfl ?_
  refine x_iload_n dL_does_206 rfl rfl ?_
  refine x_iload_n dL_does_207 rfl rfl ?_
  refine x_bipush (nI 13) dL_does_208 (by decide) ?_
  refine x_ishr dL_does_210 ?_
  refine x_iconst (nI 3) dL_does_211 (by decide) ?_
  refine x_iand dL_does_212 ?_
  refine' x_dia_if_ne 221 232 dL_does_213 (by decide) ?_ ?_ ?_; rotate_left 2
  · intro c213 k213
    refine x_bipush (-5) dL_does_216 (by decide) ?_
    refine x_goto 232 dL_does_218 (by decide) ?_
    exact k213
  · intro c213 k213
    refine x_bipush (nI 64) dL_does_221 (by decide) ?_
    refine x_iload_n dL_does_223 rfl rfl ?_
    refine x_bipush (nI 8) dL_does_224 (by decide) ?_
    refine x_ishr dL_does_226 ?_
    refine x_iconst (nI 4) dL_does_227 (by decide) ?_
    refine x_callSd0 (mt' := mL_low) (sp_low (by omega) (by omega)) ktL_low wl_L_8 (by decide) dL_does_228 rfl rfl (Nat.le_of_ble_eq_true rfl) ⟨rfl, rfl⟩ (by decide) ?_
    refine x_iaddN dL_does_231 ?_
    exact k213
  refine x_top (fun ad2 had2 => ?_)
  refine x_callV (mt' := mX5_hear) (sp_hear hC _ _) kvX5_hear wl_L_27 (by decide) dL_does_232 xk_0 (by decide) rfl rfl (Nat.le_of_ble_eq_true rfl) (fun r' n' J2 R2 hq => ?_)
  have hs : inr ad2 (nI 0) (nI 127) = true ∨ ad2 = -5 := by
    rw [had2]
    have hl := lw_lt (x := v >>> (nI 8 &&& 31)) (n := 4) (by omega)
    split
    · exact Or.inr rfl
    · exact Or.inl (inr_nat (by omega) (by omega) (by omega) (by omega))
  obtain ⟨rfl, rfl, hH, hG2⟩ := GS_RQ (c := C + 40) hq (fun hN => ⟨c, by omega, GI_hear hGI (by omega)⟩)
  have hok := ok_hear (Z := Z) hk hs
  refine x_top (fun got hgot => ?_)
  rw [← hgot] at hok
  refine x_istore dL_does_235 (by decide) ?_
  skip
  have zero : X g cx mL_does (xF g cx mL_does (DQ C J)) (0, 0) 251 [some (.ref 0), some (.int v), some (.int (nI k)), some (.int (nI ad)), some (.int (nI m)), some (.int got), u6] [] 131 J2 R2 := by
    refine x_iconst (nI 0) dL_does_251 (by decide) ?_
    refine x_goto 257 dL_does_252 (by decide) ?_
    refine x_iret dL_does_257 rfl (by decide) (by decide) ?_
    exact ⟨_, rfl, nI_nn (by omega), rfl, hH, hG2⟩
  refine x_iload dL_does_237 rfl ?_
  refine x_bipush (-4) dL_does_239 (by decide) ?_
  refine x_icmp_eq 251 dL_does_241 (by decide) (fun _ => zero) (fun z4 => ?_)
  refine x_iload dL_does_244 rfl ?_
  refine x_bipush (-5) dL_does_246 (by decide) ?_
  refine x_icmp_ne 255 dL_does_248 (by decide) (fun z5 => ?_) (fun _ => zero)
  have hx : ¬ got < 0 := by
    rcases hok with z | z | z
    · exact absurd z z4
    · exact absurd z z5
    · exact z
  refine x_iload dL_does_255 rfl ?_
  refine x_iret dL_does_257 rfl (by decide) (by decide) ?_
  exact ⟨_, rfl, hx, rfl, hH, hG2⟩
theorem d_hold (hC : Cl σ J R Z H h K e n t a b) (hGI : GI c Z) (hcC : c ≤ C) (hC9 : C ≤ 9000) {v : Int32} {k ad m : Nat} (hk : k < 4) (had : ad < 128) (hm : m ≤ 5) (em : Z k 0 = nI m) {u6 : Option Value} {g : GX} {cx : CX} : X g cx mL_does (xF g cx mL_does (DQ C J)) (0, 0) 258 [some (.ref 0), some (.int v), some (.int (nI k)), some (.int (nI ad)), some (.int (nI m)), some (.int (nI 0)), u6] [] 131 J R := by
  have hl := lw_lt (x := v >>> (nI 6 &&& 31)) (n := 10) (by omega)
  refine x_aload_n dL_does_258 rfl rfl ?_
  refine x_iload_n dL_does_259 rfl rfl ?_
  refine x_iload_n dL_does_260 rfl rfl ?_
  refine x_bipush (nI 6) dL_does_261 (by decide) ?_
  refine x_ishr dL_does_263 ?_
  refine x_bipush (nI 10) dL_does_264 (by decide) ?_
  refine x_callSd0 (mt' := mL_low) (sp_low (by omega) (by omega)) ktL_low wl_L_8 (by decide) dL_does_266 rfl rfl (Nat.le_of_ble_eq_true rfl) ⟨rfl, rfl⟩ (by decide) ?_
  refine x_callV (mt' := mX5_hold) (sp_hold hC _ _) kvX5_hold wl_L_30 (by decide) dL_does_269 xk_0 (by decide) rfl rfl (Nat.le_of_ble_eq_true rfl) (fun r' n' J2 R2 hq => ?_)
  obtain ⟨rfl, rfl, hH, hG2⟩ := GS_RQ (c := C + 40) hq (fun hN => ⟨c, by omega, GI_hold hGI (by omega)⟩)
  have hok := ok_hold (Z := Z) (x := lw (v >>> (nI 6 &&& 31)) 10) hGI.1.2.1 hk (by omega)
  refine x_top (fun got hgot => ?_)
  rw [← hgot] at hok
  refine x_istore dL_does_272 (by decide) ?_
  skip
  refine x_iload dL_does_274 rfl ?_
  refine x_bipush (-5) dL_does_276 (by decide) ?_
  refine x_icmp_ne 285 dL_does_278 (by decide) (fun z5 => ?_) (fun _ => ?_)
  · have hx : ¬ got < 0 := by
      rcases hok with z | z
      · exact absurd z z5
      · exact z
    refine x_iload dL_does_285 rfl ?_
    refine x_iret dL_does_287 rfl (by decide) (by decide) ?_
    exact ⟨_, rfl, hx, rfl, hH, hG2⟩
  · skip
    refine x_iconst (nI 0) dL_does_281 (by decide) ?_
    refine x_goto 287 dL_does_282 (by decide) ?_
    refine x_iret dL_does_287 rfl (by decide) (by decide) ?_
    exact ⟨_, rfl, nI_nn (by omega), rfl, hH, hG2⟩
theorem d_stick (hC : Cl σ J R Z H h K e n t a b) (hGI : GI c Z) (hcC : c ≤ C) (hC9 : C ≤ 9000) {v : Int32} {k ad m : Nat} (hk : k < 4) (had : ad < 128) (hm : m ≤ 5) (em : Z k 0 = nI m) {u6 : Option Value} {g : GX} {cx : CX} : X g cx mL_does (xF g cx mL_does (DQ C J)) (0, 0) 288 [some (.ref 0), some (.int v), some (.int (nI k)), some (.int (nI ad)), some (.int (nI m)), some (.int (nI 0)), u6] [] 131 J R := by
  have hl := lw_lt (x := v >>> (nI 6 &&& 31)) (n := 20) (by omega)
  refine x_aload_n dL_does_288 rfl rfl ?_
  refine x_iload_n dL_does_289 rfl rfl ?_
  refine x_iconst (nI 1) dL_does_290 (by decide) ?_
  refine x_iload_n dL_does_291 rfl rfl ?_
  refine x_bipush (nI 6) dL_does_292 (by decide) ?_
  refine x_ishr dL_does_294 ?_
  refine x_bipush (nI 20) dL_does_295 (by decide) ?_
  refine x_callSd0 (mt' := mL_low) (sp_low (by omega) (by omega)) ktL_low wl_L_8 (by decide) dL_does_297 rfl rfl (Nat.le_of_ble_eq_true rfl) ⟨rfl, rfl⟩ (by decide) ?_
  refine x_iaddN dL_does_300 ?_
  refine x_callV (mt' := mX5_stick) (sp_stick hC _ _) kvX5_stick wl_L_33 (by decide) dL_does_301 xk_0 (by decide) rfl rfl (Nat.le_of_ble_eq_true rfl) (fun r' n' J2 R2 hq => ?_)
  obtain ⟨rfl, rfl, hH, hG2⟩ := GS_RQ (c := C + 40) hq (fun hN => ⟨c, by omega, GI_stick hGI (by omega)⟩)
  have hx := ok_stick (Z := Z) (x := 1 + lw (v >>> (nI 6 &&& 31)) 20) hk (by omega) (by omega)
  refine x_iret dL_does_304 rfl (by decide) (by decide) ?_
  exact ⟨_, rfl, hx, rfl, hH, hG2⟩
theorem d_set (hC : Cl σ J R Z H h K e n t a b) (hGI : GI c Z) (hcC : c ≤ C) (hC9 : C ≤ 9000) {v : Int32} {k ad m : Nat} (hk : k < 4) (had : ad < 128) (hm : m ≤ 5) (em : Z k 0 = nI m) {u6 : Option Value} {g : GX} {cx : CX} : X g cx mL_does (xF g cx mL_does (DQ C J)) (0, 0) 305 [some (.ref 0), some (.int v), some (.int (nI k)), some (.int (nI ad)), some (.int (nI m)), some (.int (nI 0)), u6] [] 131 J R := by
  have hl := lw_lt (x := v >>> (nI 4 &&& 31)) (n := 3) (by omega)
  obtain ⟨w, hw⟩ : ∃ w, lw (v >>> (nI 4 &&& 31)) 3 = w := ⟨_, rfl⟩
  rw [hw] at hl
  have go : ∀ y : Nat, y < 15 → (w ≠ 2 → y < 6) → X g cx mL_does (xF g cx mL_does (DQ C J)) (0, 0) 338 [some (.ref 0), some (.int v), some (.int (nI k)), some (.int (nI ad)), some (.int (nI m)), some (.int (nI 0)), some (.int (nI w))] [.int (nI y), .int (nI 1), .int (nI w), .ref 0] 131 J R := fun y hy hy2 => by
    have hin : inr (nI (1 + y)) (nI 1) (pMost (nI w)) = true := by
      rcases (show w = 0 ∨ w = 1 ∨ w = 2 by omega) with rfl | rfl | rfl
      · exact inr_nat (b := 20) (by omega) (by omega) (by omega) (by omega)
      · exact inr_nat (b := 9) (by omega) (by omega) (by omega) (by omega)
      · exact inr_nat (b := 99) (by omega) (by omega) (by omega) (by omega)
    refine x_iaddN dL_does_338 ?_
    refine x_callV (mt' := mX5_set) (sp_set hC _ _) kvX5_set wl_L_36 (by decide) dL_does_339 xk_0 (by decide) rfl rfl (Nat.le_of_ble_eq_true rfl) (fun r' n' J2 R2 hq => ?_)
    obtain ⟨rfl, rfl, hH, hG2⟩ := GS_RQ (c := C + 40) hq (fun hN => ⟨c, by omega, GI_set hGI (by omega) hl (by omega) (by omega) hN⟩)
    have hok := ok_set (Z := Z) hGI.2.1 hl hin
    refine x_top (fun got hgot => ?_)
    rw [← hgot] at hok
    refine x_istore dL_does_342 (by decide) ?_
    refine x_iload dL_does_344 rfl ?_
    refine x_bipush (-5) dL_does_346 (by decide) ?_
    refine x_icmp_ne 355 dL_does_348 (by decide) (fun z5 => ?_) (fun _ => ?_)
    · have hx : ¬ got < 0 := by
        rcases hok with z | z
        · exact absurd z z5
        · exact z
      refine x_iload dL_does_355 rfl ?_
      refine x_iret dL_does_357 rfl (by decide) (by decide) ?_
      exact ⟨_, rfl, hx, rfl, hH, hG2⟩
    · skip
      refine x_iconst (nI 0) dL_does_351 (by decide) ?_
      refine x_goto 357 dL_does_352 (by decide) ?_
      refine x_iret dL_does_357 rfl (by decide) (by decide) ?_
      exact ⟨_, rfl, nI_nn (by omega), rfl, hH, hG2⟩
  refine x_iload_n dL_does_305 rfl rfl ?_
  refine x_iconst (nI 4) dL_does_306 (by decide) ?_
  refine x_ishr dL_does_307 ?_
  refine x_iconst (nI 3) dL_does_308 (by decide) ?_
  refine x_callSd0 (mt' := mL_low) (sp_low (by omega) (by omega)) ktL_low wl_L_8 (by decide) dL_does_309 rfl rfl (Nat.le_of_ble_eq_true rfl) ⟨rfl, rfl⟩ (by decide) ?_
  rw [hw]
  refine x_istore dL_does_312 (by decide) ?_
  refine x_aload_n dL_does_314 rfl rfl ?_
  refine x_iload dL_does_315 rfl ?_
  refine x_iconst (nI 1) dL_does_317 (by decide) ?_
  refine x_iload_n dL_does_318 rfl rfl ?_
  refine x_bipush (nI 6) dL_does_319 (by decide) ?_
  refine x_ishr dL_does_321 ?_
  skip
  refine x_iload dL_does_322 rfl ?_
  refine x_iconst (nI 2) dL_does_324 (by decide) ?_
  refine x_icmp_neN 333 dL_does_325 (by decide) (by omega) (by omega) (fun z => ?_) (fun z => ?_)
  · have hy := lw_lt (x := v >>> (nI 6 &&& 31)) (n := 6) (by omega)
    refine x_bipush (nI 6) dL_does_333 (by decide) ?_
    refine x_callSd0 (mt' := mL_low) (sp_low (by omega) (by omega)) ktL_low wl_L_8 (by decide) dL_does_335 rfl rfl (Nat.le_of_ble_eq_true rfl) ⟨rfl, rfl⟩ (by decide) ?_
    exact go _ (by omega) (fun _ => hy)
  · have hy := lw_lt (x := v >>> (nI 6 &&& 31)) (n := 15) (by omega)
    refine x_bipush (nI 15) dL_does_328 (by decide) ?_
    refine x_goto 335 dL_does_330 (by decide) ?_
    refine x_callSd0 (mt' := mL_low) (sp_low (by omega) (by omega)) ktL_low wl_L_8 (by decide) dL_does_335 rfl rfl (Nat.le_of_ble_eq_true rfl) ⟨rfl, rfl⟩ (by decide) ?_
    exact go _ hy (fun q => absurd z q)
theorem d_run (hC : Cl σ J R Z H h K e n t a b) (hGI : GI c Z) (hcC : c ≤ C) (hC9 : C ≤ 9000) {v : Int32} {k ad m : Nat} (hk : k < 4) (had : ad < 128) (hm : m ≤ 5) (em : Z k 0 = nI m) {u6 : Option Value} {g : GX} {cx : CX} : X g cx mL_does (xF g cx mL_does (DQ C J)) (0, 0) 358 [some (.ref 0), some (.int v), some (.int (nI k)), some (.int (nI ad)), some (.int (nI m)), some (.int (nI 0)), u6] [] 131 J R := by
  have hl := lw_lt (x := v >>> (nI 4 &&& 31)) (n := 40) (by omega)
  refine x_aload_n dL_does_358 rfl rfl ?_
  refine x_iconst (nI 1) dL_does_359 (by decide) ?_
  refine x_iload_n dL_does_360 rfl rfl ?_
  refine x_iconst (nI 4) dL_does_361 (by decide) ?_
  refine x_ishr dL_does_362 ?_
  refine x_bipush (nI 40) dL_does_363 (by decide) ?_
  refine x_callSd0 (mt' := mL_low) (sp_low (by omega) (by omega)) ktL_low wl_L_8 (by decide) dL_does_365 rfl rfl (Nat.le_of_ble_eq_true rfl) ⟨rfl, rfl⟩ (by decide) ?_
  refine x_iaddN dL_does_368 ?_
  refine x_callV (mt' := mX5_run) (sp_run hC _) kvX5_run wl_L_39 (by decide) dL_does_369 xk_0 (by decide) rfl rfl (Nat.le_of_ble_eq_true rfl) (fun r' n' J2 R2 hq => ?_)
  obtain ⟨c', hc', hg'⟩ := GI_run (n := 1 + lw (v >>> (nI 4 &&& 31)) 40) hGI
  obtain ⟨rfl, rfl, hH, hG2⟩ := GS_RQ (c := C + 40) hq (fun hN => ⟨c', by omega, hg'⟩)
  obtain ⟨er, b0, b1, b2, b3, hb, es, -⟩ := ok_run (n := 1 + lw (v >>> (nI 4 &&& 31)) 40) hGI (by omega) (by omega) (by omega)
  refine x_eqtop ((congrArg (fun q => q.1) er).trans es) ?_
  refine x_iret dL_does_372 rfl (by decide) (by decide) ?_
  exact ⟨_, rfl, nI_nn (by omega), rfl, hH, hG2⟩
theorem sp_does (hG0 : GS C J R) (hC9 : C ≤ 9000) (v : Int32) : Sp mL_does [.ref 0, .int v] 131 J R (DQ C J) := by
  obtain ⟨σ, Z, H, h, K, e, n, t, a, b, hC, c, hcC, hGI⟩ := hG0
  refine Sp.mk (by decide +kernel) (by simp [Value.category]) (Nat.le_of_ble_eq_true rfl) (fun g cx => ?_)
  have hk := lw_lt (x := v >>> (nI 4 &&& 31)) (n := 4) (by omega)
  obtain ⟨k, ek⟩ : ∃ k, lw (v >>> (nI 4 &&& 31)) 4 = k := ⟨_, rfl⟩
  rw [ek] at hk
  obtain ⟨m, -, -, hm, em, -⟩ := GI_row hGI hk
  have hl3 := lw_lt (x := v >>> (nI 6 &&& 31)) (n := 3) (by omega)
  have hl4 := lw_lt (x := v >>> (nI 8 &&& 31)) (n := 4) (by omega)
  have hl8 := lw_lt (x := v >>> (nI 8 &&& 31)) (n := 128) (by omega)
  refine x_iload_n dL_does_0 rfl rfl ?_
  refine x_iconst (nI 4) dL_does_1 (by decide) ?_
  refine x_ishr dL_does_2 ?_
  refine x_iconst (nI 4) dL_does_3 (by decide) ?_
  refine x_callSd0 (mt' := mL_low) (sp_low (by omega) (by omega)) ktL_low wl_L_8 (by decide) dL_does_4 rfl rfl (Nat.le_of_ble_eq_true rfl) ⟨rfl, rfl⟩ (by decide) ?_
  rw [ek]
  refine x_istore_n dL_does_7 rfl (by decide) ?_
  refine x_iload_n dL_does_8 rfl rfl ?_
  refine x_bipush (nI 6) dL_does_9 (by decide) ?_
  refine x_ishr dL_does_11 ?_
  refine x_iconst (nI 3) dL_does_12 (by decide) ?_
  refine x_callSd0 (mt' := mL_low) (sp_low (by omega) (by omega)) ktL_low wl_L_8 (by decide) dL_does_13 rfl rfl (Nat.le_of_ble_eq_true rfl) ⟨rfl, rfl⟩ (by decide) ?_
  refine' x_dia_if_ne 32 43 dL_does_16 (by decide) ?_ ?_ ?_; rotate_left 2
  · intro c16 k16
    refine x_iload_n dL_does_19 rfl rfl ?_
    refine x_bipush (nI 8) dL_does_20 (by decide) ?_
    refine x_ishr dL_does_22 ?_
    refine x_sipush (nI 128) dL_does_23 (by decide) ?_
    refine x_callSd0 (mt' := mL_low) (sp_low (by omega) (by omega)) ktL_low wl_L_8 (by decide) dL_does_26 rfl rfl (Nat.le_of_ble_eq_true rfl) ⟨rfl, rfl⟩ (by decide) ?_
    refine x_goto 43 dL_does_29 (by decide) ?_
    exact k16
  · intro c16 k16
    refine x_bipush (nI 64) dL_does_32 (by decide) ?_
    refine x_iload_n dL_does_34 rfl rfl ?_
    refine x_bipush (nI 8) dL_does_35 (by decide) ?_
    refine x_ishr dL_does_37 ?_
    refine x_iconst (nI 4) dL_does_38 (by decide) ?_
    refine x_callSd0 (mt' := mL_low) (sp_low (by omega) (by omega)) ktL_low wl_L_8 (by decide) dL_does_39 rfl rfl (Nat.le_of_ble_eq_true rfl) ⟨rfl, rfl⟩ (by decide) ?_
    refine x_iaddN dL_does_42 ?_
    exact k16
  obtain ⟨ad, had, ead⟩ := ite_n (c := nI (lw (v >>> (nI 6 &&& 31)) 3) = 0) (hc := inferInstance) hl8 (show 64 + lw (v >>> (nI 8 &&& 31)) 4 < 128 by omega)
  refine x_eqtop ead ?_
  refine x_istore_n dL_does_43 rfl (by decide) ?_
  refine x_aload_n dL_does_44 rfl rfl ?_
  refine x_iload_n dL_does_45 rfl rfl ?_
  refine x_iconst (nI 0) dL_does_46 (by decide) ?_
  refine x_callVd0 (mt' := mX5_speaker) (sp_spk hC (by omega) (by omega)) kvX5_speaker wl_L_14 (by decide) dL_does_47 xk_0 (by decide) rfl rfl (Nat.le_of_ble_eq_true rfl) ⟨rfl, rfl⟩ (by decide) ?_
  refine x_eqtop em ?_
  refine x_istore dL_does_50 (by decide) ?_
  refine x_iconst (nI 0) dL_does_52 (by decide) ?_
  refine x_istore dL_does_53 (by decide) ?_
  refine x_iload_n dL_does_55 rfl rfl ?_
  refine x_bipush (nI 15) dL_does_56 (by decide) ?_
  refine x_iand dL_does_58 ?_
  skip
  obtain ⟨j, hj, ej⟩ := pk_andE v (m := nI 15) 4 (by decide)
  refine x_eqtop ej ?_
  rcases (show j = 0 ∨ j = 1 ∨ j = 2 ∨ j = 3 ∨ j = 4 ∨ j = 5 ∨ j = 6 ∨ j = 7 ∨ j = 8 ∨ j = 9 ∨ j = 10 ∨ j = 11 ∨ j = 12 ∨ j = 13 ∨ j = 14 ∨ j = 15 by omega) with rfl | rfl | rfl | rfl | rfl | rfl | rfl | rfl | rfl | rfl | rfl | rfl | rfl | rfl | rfl | rfl
  · exact x_tableIn (off := 57) 116 dL_does_59 (by decide) (by decide) (by decide) (by decide) (d_say hC hGI hcC hC9 hk had hm em)
  · exact x_tableIn (off := 57) 116 dL_does_59 (by decide) (by decide) (by decide) (by decide) (d_say hC hGI hcC hC9 hk had hm em)
  · exact x_tableIn (off := 57) 116 dL_does_59 (by decide) (by decide) (by decide) (by decide) (d_say hC hGI hcC hC9 hk had hm em)
  · exact x_tableIn (off := 57) 116 dL_does_59 (by decide) (by decide) (by decide) (by decide) (d_say hC hGI hcC hC9 hk had hm em)
  · exact x_tableIn (off := 111) 170 dL_does_59 (by decide) (by decide) (by decide) (by decide) (d_take hC hGI hcC hC9 hk had hm em)
  · exact x_tableIn (off := 146) 205 dL_does_59 (by decide) (by decide) (by decide) (by decide) (d_hear hC hGI hcC hC9 hk had hm em)
  · exact x_tableIn (off := 146) 205 dL_does_59 (by decide) (by decide) (by decide) (by decide) (d_hear hC hGI hcC hC9 hk had hm em)
  · exact x_tableIn (off := 146) 205 dL_does_59 (by decide) (by decide) (by decide) (by decide) (d_hear hC hGI hcC hC9 hk had hm em)
  · exact x_tableIn (off := 199) 258 dL_does_59 (by decide) (by decide) (by decide) (by decide) (d_hold hC hGI hcC hC9 hk had hm em)
  · exact x_tableIn (off := 229) 288 dL_does_59 (by decide) (by decide) (by decide) (by decide) (d_stick hC hGI hcC hC9 hk had hm em)
  · exact x_tableIn (off := 246) 305 dL_does_59 (by decide) (by decide) (by decide) (by decide) (d_set hC hGI hcC hC9 hk had hm em)
  · exact x_tableOut 358 dL_does_59 (Or.inr (by decide)) (by decide) (d_run hC hGI hcC hC9 hk had hm em)
  · exact x_tableOut 358 dL_does_59 (Or.inr (by decide)) (by decide) (d_run hC hGI hcC hC9 hk had hm em)
  · exact x_tableOut 358 dL_does_59 (Or.inr (by decide)) (by decide) (d_run hC hGI hcC hC9 hk had hm em)
  · exact x_tableOut 358 dL_does_59 (Or.inr (by decide)) (by decide) (d_run hC hGI hcC hC9 hk had hm em)
  · exact x_tableOut 358 dL_does_59 (Or.inr (by decide)) (by decide) (d_run hC hGI hcC hC9 hk had hm em)
end CL
