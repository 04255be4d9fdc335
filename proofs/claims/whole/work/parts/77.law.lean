/-! the law's loop *)
-/
abbrev mLaw (nm : String) : MT := (⟨RL, nm, "([I)Z"⟩, cL_law, 4, some .boolean, { frames := 12, cells := 600000, slots := 7302249, locals := 450 }, 1)
/-- the script: constant 1007 -/
def SC (g : GX) (cx : CX) (L : Nat) (xs : Nat → Int32) : Prop := va_X (g.1.2 7) L xs cx.2.2.2.1 cx.2.2.2.1.heap ∧ g.1.2 7 < cx.2.2.2.1.heap.size ∧ ¬ g.1.1 ≤ g.1.2 7 ∧ L ≤ 2560
section CL
variable {g : GX} {cx : CX} {nm : String} {F : State → Prop} {L a : Nat} {xs : Nat → Int32}
theorem x_sld {cs : Nat × Nat} {pc j : Nat} {ls : List (Option Value)} {st : List Value} {n : Nat} {I : MI} {R : MR} (hX : SC g cx L xs) (hj : j < L) (hd : decode cL_law pc = .ok (.iaload, 1)) (kk : X g cx (mLaw nm) F cs (pc + 1) ls (.int (xs j) :: st) n I R) : X g cx (mLaw nm) F cs pc ls (.int (nI j) :: .ref 1007 :: st) n I R := by
  intro ok H locs lsA hR hS hL
  obtain ⟨h1, h2, h3, h4⟩ := hX
  have hc : (nI j).toNatClampNeg = j := nI_clamp (by omega)
  refine va_sld (A := fun q => g.1.1 ≤ q) ok.1 ok.2.1 h1 h2 h3 hS (vp_in_nI hj (by omega)) hd ?_
  rw [hc]
  exact kk ok H locs lsA hR hS hL
theorem x_slen {cs : Nat × Nat} {pc : Nat} {ls : List (Option Value)} {st : List Value} {n : Nat} {I : MI} {R : MR} (hX : SC g cx L xs) (hd : decode cL_law pc = .ok (.arraylength, 1)) (kk : X g cx (mLaw nm) F cs (pc + 1) ls (.int (nI L) :: st) n I R) : X g cx (mLaw nm) F cs pc ls (.ref 1007 :: st) n I R := by
  intro ok H locs lsA hR hS hL
  obtain ⟨h1, h2, h3, h4⟩ := hX
  exact va_slen (A := fun q => g.1.1 ≤ q) ok.1 ok.2.1 h1 h2 h3 hS hd (kk ok H locs lsA hR hS hL)
abbrev lwL (a : Nat) : List (Option Value) := [some (.ref 1007), some (.ref 0), some (.ref 131), some (.int (nI a))]
theorem law_say (hX : SC g cx L xs) (ha : a + 5 ≤ L) {I : MI} {R : MR} (hR : RLs I R) (hx : ∀ I R, RLs I R → X g cx (mLaw nm) F (137, 5575) 704 (lwL a) [] 137 I R) : X g cx (mLaw nm) F (137, 5575) 136 (lwL a) [] 137 I R := by
  obtain ⟨v, hp⟩ := pr_say (xs (a + 1)) (xs (a + 2)) (xs (a + 3)) (xs (a + 4)) I R hR
  refine x_aload_n dL_law_136 rfl rfl ?_
  refine x_aload_n dL_law_137 rfl rfl ?_
  refine x_iload_n dL_law_138 rfl rfl ?_
  refine x_iconst (nI 1) dL_law_139 (by decide) ?_
  refine x_iaddN dL_law_140 ?_
  refine x_sld hX (show a + 1 < L by omega) dL_law_141 ?_
  refine x_aload_n dL_law_142 rfl rfl ?_
  refine x_iload_n dL_law_143 rfl rfl ?_
  refine x_iconst (nI 2) dL_law_144 (by decide) ?_
  refine x_iaddN dL_law_145 ?_
  refine x_sld hX (show a + 2 < L by omega) dL_law_146 ?_
  refine x_aload_n dL_law_147 rfl rfl ?_
  refine x_iload_n dL_law_148 rfl rfl ?_
  refine x_iconst (nI 3) dL_law_149 (by decide) ?_
  refine x_iaddN dL_law_150 ?_
  refine x_sld hX (show a + 3 < L by omega) dL_law_151 ?_
  refine x_aload_n dL_law_152 rfl rfl ?_
  refine x_iload_n dL_law_153 rfl rfl ?_
  refine x_iconst (nI 4) dL_law_154 (by decide) ?_
  refine x_iaddN dL_law_155 ?_
  refine x_sld hX (show a + 4 < L by omega) dL_law_156 ?_
  refine x_callV (mt' := mX5_say) hp kvX5_say wl_L_13 ⟨Nat.le_of_ble_eq_true rfl, Nat.le_of_ble_eq_true rfl⟩ dL_law_157 xk_0 (by decide) rfl rfl (Nat.le_of_ble_eq_true rfl) (fun r5 n5 I5 R5 hq => ?_) ⟨Nat.le_of_ble_eq_true rfl, Nat.le_of_ble_eq_true rfl⟩
  obtain ⟨rfl, rfl, hp2⟩ := hq
  refine x_aload_n dL_law_160 rfl rfl ?_
  refine x_aload_n dL_law_161 rfl rfl ?_
  refine x_iload_n dL_law_162 rfl rfl ?_
  refine x_iconst (nI 1) dL_law_163 (by decide) ?_
  refine x_iaddN dL_law_164 ?_
  refine x_sld hX (show a + 1 < L by omega) dL_law_165 ?_
  refine x_aload_n dL_law_166 rfl rfl ?_
  refine x_iload_n dL_law_167 rfl rfl ?_
  refine x_iconst (nI 2) dL_law_168 (by decide) ?_
  refine x_iaddN dL_law_169 ?_
  refine x_sld hX (show a + 2 < L by omega) dL_law_170 ?_
  refine x_aload_n dL_law_171 rfl rfl ?_
  refine x_iload_n dL_law_172 rfl rfl ?_
  refine x_iconst (nI 3) dL_law_173 (by decide) ?_
  refine x_iaddN dL_law_174 ?_
  refine x_sld hX (show a + 3 < L by omega) dL_law_175 ?_
  refine x_aload_n dL_law_176 rfl rfl ?_
  refine x_iload_n dL_law_177 rfl rfl ?_
  refine x_iconst (nI 4) dL_law_178 (by decide) ?_
  refine x_iaddN dL_law_179 ?_
  refine x_sld hX (show a + 4 < L by omega) dL_law_180 ?_
  refine x_callV (mt' := mX6_say) hp2 kvX6_say wl_L_17 ⟨Nat.le_of_ble_eq_true rfl, Nat.le_of_ble_eq_true rfl⟩ dL_law_181 xk_131 (by decide) rfl rfl (Nat.le_of_ble_eq_true rfl) (fun r6 n6 I6 R6 hq => ?_) ⟨Nat.le_of_ble_eq_true rfl, Nat.le_of_ble_eq_true rfl⟩
  obtain ⟨rfl, rfl, hR2⟩ := hq
  refine x_icmp_eqT 704 dL_law_184 (by decide) rfl ?_
  exact hx _ _ hR2
theorem law_takeBack (hX : SC g cx L xs) (ha : a + 5 ≤ L) {I : MI} {R : MR} (hR : RLs I R) (hx : ∀ I R, RLs I R → X g cx (mLaw nm) F (137, 5575) 704 (lwL a) [] 137 I R) : X g cx (mLaw nm) F (137, 5575) 189 (lwL a) [] 137 I R := by
  obtain ⟨v, hp⟩ := pr_takeBack (xs (a + 1)) I R hR
  refine x_aload_n dL_law_189 rfl rfl ?_
  refine x_aload_n dL_law_190 rfl rfl ?_
  refine x_iload_n dL_law_191 rfl rfl ?_
  refine x_iconst (nI 1) dL_law_192 (by decide) ?_
  refine x_iaddN dL_law_193 ?_
  refine x_sld hX (show a + 1 < L by omega) dL_law_194 ?_
  refine x_callV (mt' := mX5_takeBack) hp kvX5_takeBack wl_L_18 ⟨Nat.le_of_ble_eq_true rfl, Nat.le_of_ble_eq_true rfl⟩ dL_law_195 xk_0 (by decide) rfl rfl (Nat.le_of_ble_eq_true rfl) (fun r5 n5 I5 R5 hq => ?_) ⟨Nat.le_of_ble_eq_true rfl, Nat.le_of_ble_eq_true rfl⟩
  obtain ⟨rfl, rfl, hp2⟩ := hq
  refine x_aload_n dL_law_198 rfl rfl ?_
  refine x_aload_n dL_law_199 rfl rfl ?_
  refine x_iload_n dL_law_200 rfl rfl ?_
  refine x_iconst (nI 1) dL_law_201 (by decide) ?_
  refine x_iaddN dL_law_202 ?_
  refine x_sld hX (show a + 1 < L by omega) dL_law_203 ?_
  refine x_callV (mt' := mX6_takeBack) hp2 kvX6_takeBack wl_L_22 ⟨Nat.le_of_ble_eq_true rfl, Nat.le_of_ble_eq_true rfl⟩ dL_law_204 xk_131 (by decide) rfl rfl (Nat.le_of_ble_eq_true rfl) (fun r6 n6 I6 R6 hq => ?_) ⟨Nat.le_of_ble_eq_true rfl, Nat.le_of_ble_eq_true rfl⟩
  obtain ⟨rfl, rfl, hR2⟩ := hq
  refine x_icmp_eqT 704 dL_law_207 (by decide) rfl ?_
  exact hx _ _ hR2
theorem law_hear (hX : SC g cx L xs) (ha : a + 5 ≤ L) {I : MI} {R : MR} (hR : RLs I R) (hx : ∀ I R, RLs I R → X g cx (mLaw nm) F (137, 5575) 704 (lwL a) [] 137 I R) : X g cx (mLaw nm) F (137, 5575) 212 (lwL a) [] 137 I R := by
  obtain ⟨v, hp⟩ := pr_hear (xs (a + 1)) (xs (a + 2)) I R hR
  refine x_aload_n dL_law_212 rfl rfl ?_
  refine x_aload_n dL_law_213 rfl rfl ?_
  refine x_iload_n dL_law_214 rfl rfl ?_
  refine x_iconst (nI 1) dL_law_215 (by decide) ?_
  refine x_iaddN dL_law_216 ?_
  refine x_sld hX (show a + 1 < L by omega) dL_law_217 ?_
  refine x_aload_n dL_law_218 rfl rfl ?_
  refine x_iload_n dL_law_219 rfl rfl ?_
  refine x_iconst (nI 2) dL_law_220 (by decide) ?_
  refine x_iaddN dL_law_221 ?_
  refine x_sld hX (show a + 2 < L by omega) dL_law_222 ?_
  refine x_callV (mt' := mX5_hear) hp kvX5_hear wl_L_23 ⟨Nat.le_of_ble_eq_true rfl, Nat.le_of_ble_eq_true rfl⟩ dL_law_223 xk_0 (by decide) rfl rfl (Nat.le_of_ble_eq_true rfl) (fun r5 n5 I5 R5 hq => ?_) ⟨Nat.le_of_ble_eq_true rfl, Nat.le_of_ble_eq_true rfl⟩
  obtain ⟨rfl, rfl, hp2⟩ := hq
  refine x_aload_n dL_law_226 rfl rfl ?_
  refine x_aload_n dL_law_227 rfl rfl ?_
  refine x_iload_n dL_law_228 rfl rfl ?_
  refine x_iconst (nI 1) dL_law_229 (by decide) ?_
  refine x_iaddN dL_law_230 ?_
  refine x_sld hX (show a + 1 < L by omega) dL_law_231 ?_
  refine x_aload_n dL_law_232 rfl rfl ?_
  refine x_iload_n dL_law_233 rfl rfl ?_
  refine x_iconst (nI 2) dL_law_234 (by decide) ?_
  refine x_iaddN dL_law_235 ?_
  refine x_sld hX (show a + 2 < L by omega) dL_law_236 ?_
  refine x_callV (mt' := mX6_hear) hp2 kvX6_hear wl_L_27 ⟨Nat.le_of_ble_eq_true rfl, Nat.le_of_ble_eq_true rfl⟩ dL_law_237 xk_131 (by decide) rfl rfl (Nat.le_of_ble_eq_true rfl) (fun r6 n6 I6 R6 hq => ?_) ⟨Nat.le_of_ble_eq_true rfl, Nat.le_of_ble_eq_true rfl⟩
  obtain ⟨rfl, rfl, hR2⟩ := hq
  refine x_icmp_eqT 704 dL_law_240 (by decide) rfl ?_
  exact hx _ _ hR2
theorem law_hold (hX : SC g cx L xs) (ha : a + 5 ≤ L) {I : MI} {R : MR} (hR : RLs I R) (hx : ∀ I R, RLs I R → X g cx (mLaw nm) F (137, 5575) 704 (lwL a) [] 137 I R) : X g cx (mLaw nm) F (137, 5575) 245 (lwL a) [] 137 I R := by
  obtain ⟨v, hp⟩ := pr_hold (xs (a + 1)) (xs (a + 2)) I R hR
  refine x_aload_n dL_law_245 rfl rfl ?_
  refine x_aload_n dL_law_246 rfl rfl ?_
  refine x_iload_n dL_law_247 rfl rfl ?_
  refine x_iconst (nI 1) dL_law_248 (by decide) ?_
  refine x_iaddN dL_law_249 ?_
  refine x_sld hX (show a + 1 < L by omega) dL_law_250 ?_
  refine x_aload_n dL_law_251 rfl rfl ?_
  refine x_iload_n dL_law_252 rfl rfl ?_
  refine x_iconst (nI 2) dL_law_253 (by decide) ?_
  refine x_iaddN dL_law_254 ?_
  refine x_sld hX (show a + 2 < L by omega) dL_law_255 ?_
  refine x_callV (mt' := mX5_hold) hp kvX5_hold wl_L_28 ⟨Nat.le_of_ble_eq_true rfl, Nat.le_of_ble_eq_true rfl⟩ dL_law_256 xk_0 (by decide) rfl rfl (Nat.le_of_ble_eq_true rfl) (fun r5 n5 I5 R5 hq => ?_) ⟨Nat.le_of_ble_eq_true rfl, Nat.le_of_ble_eq_true rfl⟩
  obtain ⟨rfl, rfl, hp2⟩ := hq
  refine x_aload_n dL_law_259 rfl rfl ?_
  refine x_aload_n dL_law_260 rfl rfl ?_
  refine x_iload_n dL_law_261 rfl rfl ?_
  refine x_iconst (nI 1) dL_law_262 (by decide) ?_
  refine x_iaddN dL_law_263 ?_
  refine x_sld hX (show a + 1 < L by omega) dL_law_264 ?_
  refine x_aload_n dL_law_265 rfl rfl ?_
  refine x_iload_n dL_law_266 rfl rfl ?_
  refine x_iconst (nI 2) dL_law_267 (by decide) ?_
  refine x_iaddN dL_law_268 ?_
  refine x_sld hX (show a + 2 < L by omega) dL_law_269 ?_
  refine x_callV (mt' := mX6_hold) hp2 kvX6_hold wl_L_31 ⟨Nat.le_of_ble_eq_true rfl, Nat.le_of_ble_eq_true rfl⟩ dL_law_270 xk_131 (by decide) rfl rfl (Nat.le_of_ble_eq_true rfl) (fun r6 n6 I6 R6 hq => ?_) ⟨Nat.le_of_ble_eq_true rfl, Nat.le_of_ble_eq_true rfl⟩
  obtain ⟨rfl, rfl, hR2⟩ := hq
  refine x_icmp_eqT 704 dL_law_273 (by decide) rfl ?_
  exact hx _ _ hR2
theorem law_stick (hX : SC g cx L xs) (ha : a + 5 ≤ L) {I : MI} {R : MR} (hR : RLs I R) (hx : ∀ I R, RLs I R → X g cx (mLaw nm) F (137, 5575) 704 (lwL a) [] 137 I R) : X g cx (mLaw nm) F (137, 5575) 278 (lwL a) [] 137 I R := by
  obtain ⟨v, hp⟩ := pr_stick (xs (a + 1)) (xs (a + 2)) I R hR
  refine x_aload_n dL_law_278 rfl rfl ?_
  refine x_aload_n dL_law_279 rfl rfl ?_
  refine x_iload_n dL_law_280 rfl rfl ?_
  refine x_iconst (nI 1) dL_law_281 (by decide) ?_
  refine x_iaddN dL_law_282 ?_
  refine x_sld hX (show a + 1 < L by omega) dL_law_283 ?_
  refine x_aload_n dL_law_284 rfl rfl ?_
  refine x_iload_n dL_law_285 rfl rfl ?_
  refine x_iconst (nI 2) dL_law_286 (by decide) ?_
  refine x_iaddN dL_law_287 ?_
  refine x_sld hX (show a + 2 < L by omega) dL_law_288 ?_
  refine x_callV (mt' := mX5_stick) hp kvX5_stick wl_L_32 ⟨Nat.le_of_ble_eq_true rfl, Nat.le_of_ble_eq_true rfl⟩ dL_law_289 xk_0 (by decide) rfl rfl (Nat.le_of_ble_eq_true rfl) (fun r5 n5 I5 R5 hq => ?_) ⟨Nat.le_of_ble_eq_true rfl, Nat.le_of_ble_eq_true rfl⟩
  obtain ⟨rfl, rfl, hp2⟩ := hq
  refine x_aload_n dL_law_292 rfl rfl ?_
  refine x_aload_n dL_law_293 rfl rfl ?_
  refine x_iload_n dL_law_294 rfl rfl ?_
  refine x_iconst (nI 1) dL_law_295 (by decide) ?_
  refine x_iaddN dL_law_296 ?_
  refine x_sld hX (show a + 1 < L by omega) dL_law_297 ?_
  refine x_aload_n dL_law_298 rfl rfl ?_
  refine x_iload_n dL_law_299 rfl rfl ?_
  refine x_iconst (nI 2) dL_law_300 (by decide) ?_
  refine x_iaddN dL_law_301 ?_
  refine x_sld hX (show a + 2 < L by omega) dL_law_302 ?_
  refine x_callV (mt' := mX6_stick) hp2 kvX6_stick wl_L_35 ⟨Nat.le_of_ble_eq_true rfl, Nat.le_of_ble_eq_true rfl⟩ dL_law_303 xk_131 (by decide) rfl rfl (Nat.le_of_ble_eq_true rfl) (fun r6 n6 I6 R6 hq => ?_) ⟨Nat.le_of_ble_eq_true rfl, Nat.le_of_ble_eq_true rfl⟩
  obtain ⟨rfl, rfl, hR2⟩ := hq
  refine x_icmp_eqT 704 dL_law_306 (by decide) rfl ?_
  exact hx _ _ hR2
theorem law_set (hX : SC g cx L xs) (ha : a + 5 ≤ L) {I : MI} {R : MR} (hR : RLs I R) (hx : ∀ I R, RLs I R → X g cx (mLaw nm) F (137, 5575) 704 (lwL a) [] 137 I R) : X g cx (mLaw nm) F (137, 5575) 311 (lwL a) [] 137 I R := by
  obtain ⟨v, hp⟩ := pr_set (xs (a + 1)) (xs (a + 2)) I R hR
  refine x_aload_n dL_law_311 rfl rfl ?_
  refine x_aload_n dL_law_312 rfl rfl ?_
  refine x_iload_n dL_law_313 rfl rfl ?_
  refine x_iconst (nI 1) dL_law_314 (by decide) ?_
  refine x_iaddN dL_law_315 ?_
  refine x_sld hX (show a + 1 < L by omega) dL_law_316 ?_
  refine x_aload_n dL_law_317 rfl rfl ?_
  refine x_iload_n dL_law_318 rfl rfl ?_
  refine x_iconst (nI 2) dL_law_319 (by decide) ?_
  refine x_iaddN dL_law_320 ?_
  refine x_sld hX (show a + 2 < L by omega) dL_law_321 ?_
  refine x_callV (mt' := mX5_set) hp kvX5_set wl_L_36 ⟨Nat.le_of_ble_eq_true rfl, Nat.le_of_ble_eq_true rfl⟩ dL_law_322 xk_0 (by decide) rfl rfl (Nat.le_of_ble_eq_true rfl) (fun r5 n5 I5 R5 hq => ?_) ⟨Nat.le_of_ble_eq_true rfl, Nat.le_of_ble_eq_true rfl⟩
  obtain ⟨rfl, rfl, hp2⟩ := hq
  refine x_aload_n dL_law_325 rfl rfl ?_
  refine x_aload_n dL_law_326 rfl rfl ?_
  refine x_iload_n dL_law_327 rfl rfl ?_
  refine x_iconst (nI 1) dL_law_328 (by decide) ?_
  refine x_iaddN dL_law_329 ?_
  refine x_sld hX (show a + 1 < L by omega) dL_law_330 ?_
  refine x_aload_n dL_law_331 rfl rfl ?_
  refine x_iload_n dL_law_332 rfl rfl ?_
  refine x_iconst (nI 2) dL_law_333 (by decide) ?_
  refine x_iaddN dL_law_334 ?_
  refine x_sld hX (show a + 2 < L by omega) dL_law_335 ?_
  refine x_callV (mt' := mX6_set) hp2 kvX6_set wl_L_39 ⟨Nat.le_of_ble_eq_true rfl, Nat.le_of_ble_eq_true rfl⟩ dL_law_336 xk_131 (by decide) rfl rfl (Nat.le_of_ble_eq_true rfl) (fun r6 n6 I6 R6 hq => ?_) ⟨Nat.le_of_ble_eq_true rfl, Nat.le_of_ble_eq_true rfl⟩
  obtain ⟨rfl, rfl, hR2⟩ := hq
  refine x_icmp_eqT 704 dL_law_339 (by decide) rfl ?_
  exact hx _ _ hR2
theorem law_run (hX : SC g cx L xs) (ha : a + 5 ≤ L) {I : MI} {R : MR} (hR : RLs I R) (hx : ∀ I R, RLs I R → X g cx (mLaw nm) F (137, 5575) 704 (lwL a) [] 137 I R) : X g cx (mLaw nm) F (137, 5575) 344 (lwL a) [] 137 I R := by
  obtain ⟨v, hp⟩ := pr_run (xs (a + 1)) I R hR
  refine x_aload_n dL_law_344 rfl rfl ?_
  refine x_aload_n dL_law_345 rfl rfl ?_
  refine x_iload_n dL_law_346 rfl rfl ?_
  refine x_iconst (nI 1) dL_law_347 (by decide) ?_
  refine x_iaddN dL_law_348 ?_
  refine x_sld hX (show a + 1 < L by omega) dL_law_349 ?_
  refine x_callV (mt' := mX5_run) hp kvX5_run wl_L_40 ⟨Nat.le_of_ble_eq_true rfl, Nat.le_of_ble_eq_true rfl⟩ dL_law_350 xk_0 (by decide) rfl rfl (Nat.le_of_ble_eq_true rfl) (fun r5 n5 I5 R5 hq => ?_) ⟨Nat.le_of_ble_eq_true rfl, Nat.le_of_ble_eq_true rfl⟩
  obtain ⟨rfl, rfl, hp2⟩ := hq
  refine x_aload_n dL_law_353 rfl rfl ?_
  refine x_aload_n dL_law_354 rfl rfl ?_
  refine x_iload_n dL_law_355 rfl rfl ?_
  refine x_iconst (nI 1) dL_law_356 (by decide) ?_
  refine x_iaddN dL_law_357 ?_
  refine x_sld hX (show a + 1 < L by omega) dL_law_358 ?_
  refine x_callV (mt' := mX6_run) hp2 kvX6_run wl_L_43 ⟨Nat.le_of_ble_eq_true rfl, Nat.le_of_ble_eq_true rfl⟩ dL_law_359 xk_131 (by decide) rfl rfl (Nat.le_of_ble_eq_true rfl) (fun r6 n6 I6 R6 hq => ?_) ⟨Nat.le_of_ble_eq_true rfl, Nat.le_of_ble_eq_true rfl⟩
  obtain ⟨rfl, rfl, hR2⟩ := hq
  refine x_icmp_eqT 704 dL_law_362 (by decide) rfl ?_
  exact hx _ _ hR2
theorem law_type (hX : SC g cx L xs) (ha : a + 5 ≤ L) {I : MI} {R : MR} (hR : RLs I R) (hx : ∀ I R, RLs I R → X g cx (mLaw nm) F (137, 5575) 704 (lwL a) [] 137 I R) : X g cx (mLaw nm) F (137, 5575) 367 (lwL a) [] 137 I R := by
  obtain ⟨v, hp⟩ := pr_type _ (pk_nc (xs (a + 1))) I R hR
  refine x_aload_n dL_law_367 rfl rfl ?_
  refine x_aload_n dL_law_368 rfl rfl ?_
  refine x_iload_n dL_law_369 rfl rfl ?_
  refine x_iconst (nI 1) dL_law_370 (by decide) ?_
  refine x_iaddN dL_law_371 ?_
  refine x_sld hX (show a + 1 < L by omega) dL_law_372 ?_
  refine x_i2c dL_law_373 ?_
  refine x_callV (mt' := mX5_type) hp kvX5_type wl_L_44 ⟨Nat.le_of_ble_eq_true rfl, Nat.le_of_ble_eq_true rfl⟩ dL_law_374 xk_0 (by decide) rfl rfl (Nat.le_of_ble_eq_true rfl) (fun r5 n5 I5 R5 hq => ?_) ⟨Nat.le_of_ble_eq_true rfl, Nat.le_of_ble_eq_true rfl⟩
  obtain ⟨rfl, rfl, hp2⟩ := hq
  refine x_aload_n dL_law_377 rfl rfl ?_
  refine x_aload_n dL_law_378 rfl rfl ?_
  refine x_iload_n dL_law_379 rfl rfl ?_
  refine x_iconst (nI 1) dL_law_380 (by decide) ?_
  refine x_iaddN dL_law_381 ?_
  refine x_sld hX (show a + 1 < L by omega) dL_law_382 ?_
  refine x_i2c dL_law_383 ?_
  refine x_callV (mt' := mX6_type) hp2 kvX6_type wl_L_48 ⟨Nat.le_of_ble_eq_true rfl, Nat.le_of_ble_eq_true rfl⟩ dL_law_384 xk_131 (by decide) rfl rfl (Nat.le_of_ble_eq_true rfl) (fun r6 n6 I6 R6 hq => ?_) ⟨Nat.le_of_ble_eq_true rfl, Nat.le_of_ble_eq_true rfl⟩
  obtain ⟨rfl, rfl, hR2⟩ := hq
  refine x_icmp_eqT 704 dL_law_387 (by decide) rfl ?_
  exact hx _ _ hR2
theorem law_clearText (hX : SC g cx L xs) (ha : a + 5 ≤ L) {I : MI} {R : MR} (hR : RLs I R) (hx : ∀ I R, RLs I R → X g cx (mLaw nm) F (137, 5575) 704 (lwL a) [] 137 I R) : X g cx (mLaw nm) F (137, 5575) 392 (lwL a) [] 137 I R := by
  obtain ⟨v, hp⟩ := pr_clearText  I R hR
  refine x_aload_n dL_law_392 rfl rfl ?_
  refine x_callV (mt' := mX5_clearText) hp kvX5_clearText wl_L_49 ⟨Nat.le_of_ble_eq_true rfl, Nat.le_of_ble_eq_true rfl⟩ dL_law_393 xk_0 (by decide) rfl rfl (Nat.le_of_ble_eq_true rfl) (fun r5 n5 I5 R5 hq => ?_) ⟨Nat.le_of_ble_eq_true rfl, Nat.le_of_ble_eq_true rfl⟩
  obtain ⟨rfl, rfl, hp2⟩ := hq
  refine x_aload_n dL_law_396 rfl rfl ?_
  refine x_callV (mt' := mX6_clearText) hp2 kvX6_clearText wl_L_53 ⟨Nat.le_of_ble_eq_true rfl, Nat.le_of_ble_eq_true rfl⟩ dL_law_397 xk_131 (by decide) rfl rfl (Nat.le_of_ble_eq_true rfl) (fun r6 n6 I6 R6 hq => ?_) ⟨Nat.le_of_ble_eq_true rfl, Nat.le_of_ble_eq_true rfl⟩
  obtain ⟨rfl, rfl, hR2⟩ := hq
  refine x_icmp_eqT 704 dL_law_400 (by decide) rfl ?_
  exact hx _ _ hR2
theorem law_perform (hX : SC g cx L xs) (ha : a + 5 ≤ L) {I : MI} {R : MR} (hR : RLs I R) (hx : ∀ I R, RLs I R → X g cx (mLaw nm) F (137, 5575) 704 (lwL a) [] 137 I R) : X g cx (mLaw nm) F (137, 5575) 405 (lwL a) [] 137 I R := by
  obtain ⟨v, hp⟩ := pr_perform  I R hR
  refine x_aload_n dL_law_405 rfl rfl ?_
  refine x_callV (mt' := mX5_perform) hp kvX5_perform wl_L_54 ⟨Nat.le_of_ble_eq_true rfl, Nat.le_of_ble_eq_true rfl⟩ dL_law_406 xk_0 (by decide) rfl rfl (Nat.le_of_ble_eq_true rfl) (fun r5 n5 I5 R5 hq => ?_) ⟨Nat.le_of_ble_eq_true rfl, Nat.le_of_ble_eq_true rfl⟩
  obtain ⟨rfl, rfl, hp2⟩ := hq
  refine x_aload_n dL_law_409 rfl rfl ?_
  refine x_callV (mt' := mX6_perform) hp2 kvX6_perform wl_L_57 ⟨Nat.le_of_ble_eq_true rfl, Nat.le_of_ble_eq_true rfl⟩ dL_law_410 xk_131 (by decide) rfl rfl (Nat.le_of_ble_eq_true rfl) (fun r6 n6 I6 R6 hq => ?_) ⟨Nat.le_of_ble_eq_true rfl, Nat.le_of_ble_eq_true rfl⟩
  obtain ⟨rfl, rfl, hR2⟩ := hq
  refine x_icmp_eqT 704 dL_law_413 (by decide) rfl ?_
  exact hx _ _ hR2
theorem law_stopped (hX : SC g cx L xs) (ha : a + 5 ≤ L) {I : MI} {R : MR} (hR : RLs I R) (hx : ∀ I R, RLs I R → X g cx (mLaw nm) F (137, 5575) 704 (lwL a) [] 137 I R) : X g cx (mLaw nm) F (137, 5575) 418 (lwL a) [] 137 I R := by
  obtain ⟨v, hp⟩ := pr_stopped (xs (a + 1)) I R hR
  refine x_aload_n dL_law_418 rfl rfl ?_
  refine x_aload_n dL_law_419 rfl rfl ?_
  refine x_iload_n dL_law_420 rfl rfl ?_
  refine x_iconst (nI 1) dL_law_421 (by decide) ?_
  refine x_iaddN dL_law_422 ?_
  refine x_sld hX (show a + 1 < L by omega) dL_law_423 ?_
  refine x_callV (mt' := mX5_stopped) hp kvX5_stopped wl_L_58 ⟨Nat.le_of_ble_eq_true rfl, Nat.le_of_ble_eq_true rfl⟩ dL_law_424 xk_0 (by decide) rfl rfl (Nat.le_of_ble_eq_true rfl) (fun r5 n5 I5 R5 hq => ?_) ⟨Nat.le_of_ble_eq_true rfl, Nat.le_of_ble_eq_true rfl⟩
  obtain ⟨rfl, rfl, hp2⟩ := hq
  refine x_aload_n dL_law_427 rfl rfl ?_
  refine x_aload_n dL_law_428 rfl rfl ?_
  refine x_iload_n dL_law_429 rfl rfl ?_
  refine x_iconst (nI 1) dL_law_430 (by decide) ?_
  refine x_iaddN dL_law_431 ?_
  refine x_sld hX (show a + 1 < L by omega) dL_law_432 ?_
  refine x_callV (mt' := mX6_stopped) hp2 kvX6_stopped wl_L_61 ⟨Nat.le_of_ble_eq_true rfl, Nat.le_of_ble_eq_true rfl⟩ dL_law_433 xk_131 (by decide) rfl rfl (Nat.le_of_ble_eq_true rfl) (fun r6 n6 I6 R6 hq => ?_) ⟨Nat.le_of_ble_eq_true rfl, Nat.le_of_ble_eq_true rfl⟩
  obtain ⟨rfl, rfl, hR2⟩ := hq
  refine x_icmp_eqT 704 dL_law_436 (by decide) rfl ?_
  exact hx _ _ hR2
theorem law_undo (hX : SC g cx L xs) (ha : a + 5 ≤ L) {I : MI} {R : MR} (hR : RLs I R) (hx : ∀ I R, RLs I R → X g cx (mLaw nm) F (137, 5575) 704 (lwL a) [] 137 I R) : X g cx (mLaw nm) F (137, 5575) 441 (lwL a) [] 137 I R := by
  obtain ⟨v, hp⟩ := pr_undo  I R hR
  refine x_aload_n dL_law_441 rfl rfl ?_
  refine x_callV (mt' := mX5_undo) hp kvX5_undo wl_L_62 ⟨Nat.le_of_ble_eq_true rfl, Nat.le_of_ble_eq_true rfl⟩ dL_law_442 xk_0 (by decide) rfl rfl (Nat.le_of_ble_eq_true rfl) (fun r5 n5 I5 R5 hq => ?_) ⟨Nat.le_of_ble_eq_true rfl, Nat.le_of_ble_eq_true rfl⟩
  obtain ⟨rfl, rfl, hp2⟩ := hq
  refine x_aload_n dL_law_445 rfl rfl ?_
  refine x_callV (mt' := mX6_undo) hp2 kvX6_undo wl_L_65 ⟨Nat.le_of_ble_eq_true rfl, Nat.le_of_ble_eq_true rfl⟩ dL_law_446 xk_131 (by decide) rfl rfl (Nat.le_of_ble_eq_true rfl) (fun r6 n6 I6 R6 hq => ?_) ⟨Nat.le_of_ble_eq_true rfl, Nat.le_of_ble_eq_true rfl⟩
  obtain ⟨rfl, rfl, hR2⟩ := hq
  refine x_icmp_eqT 704 dL_law_449 (by decide) rfl ?_
  exact hx _ _ hR2
theorem law_keep (hX : SC g cx L xs) (ha : a + 5 ≤ L) {I : MI} {R : MR} (hR : RLs I R) (hx : ∀ I R, RLs I R → X g cx (mLaw nm) F (137, 5575) 704 (lwL a) [] 137 I R) : X g cx (mLaw nm) F (137, 5575) 454 (lwL a) [] 137 I R := by
  obtain ⟨v, hp⟩ := pr_keep  I R hR
  refine x_aload_n dL_law_454 rfl rfl ?_
  refine x_callV (mt' := mX5_keep) hp kvX5_keep wl_L_66 ⟨Nat.le_of_ble_eq_true rfl, Nat.le_of_ble_eq_true rfl⟩ dL_law_455 xk_0 (by decide) rfl rfl (Nat.le_of_ble_eq_true rfl) (fun r5 n5 I5 R5 hq => ?_) ⟨Nat.le_of_ble_eq_true rfl, Nat.le_of_ble_eq_true rfl⟩
  obtain ⟨rfl, rfl, hp2⟩ := hq
  refine x_aload_n dL_law_458 rfl rfl ?_
  refine x_callV (mt' := mX6_keep) hp2 kvX6_keep wl_L_69 ⟨Nat.le_of_ble_eq_true rfl, Nat.le_of_ble_eq_true rfl⟩ dL_law_459 xk_131 (by decide) rfl rfl (Nat.le_of_ble_eq_true rfl) (fun r6 n6 I6 R6 hq => ?_) ⟨Nat.le_of_ble_eq_true rfl, Nat.le_of_ble_eq_true rfl⟩
  obtain ⟨rfl, rfl, hR2⟩ := hq
  refine x_icmp_eqT 704 dL_law_462 (by decide) rfl ?_
  exact hx _ _ hR2
theorem law_restore (hX : SC g cx L xs) (ha : a + 5 ≤ L) {I : MI} {R : MR} (hR : RLs I R) (hx : ∀ I R, RLs I R → X g cx (mLaw nm) F (137, 5575) 704 (lwL a) [] 137 I R) : X g cx (mLaw nm) F (137, 5575) 467 (lwL a) [] 137 I R := by
  obtain ⟨v, hp⟩ := pr_restore  I R hR
  refine x_aload_n dL_law_467 rfl rfl ?_
  refine x_callV (mt' := mX5_restore) hp kvX5_restore wl_L_70 ⟨Nat.le_of_ble_eq_true rfl, Nat.le_of_ble_eq_true rfl⟩ dL_law_468 xk_0 (by decide) rfl rfl (Nat.le_of_ble_eq_true rfl) (fun r5 n5 I5 R5 hq => ?_) ⟨Nat.le_of_ble_eq_true rfl, Nat.le_of_ble_eq_true rfl⟩
  obtain ⟨rfl, rfl, hp2⟩ := hq
  refine x_aload_n dL_law_471 rfl rfl ?_
  refine x_callV (mt' := mX6_restore) hp2 kvX6_restore wl_L_73 ⟨Nat.le_of_ble_eq_true rfl, Nat.le_of_ble_eq_true rfl⟩ dL_law_472 xk_131 (by decide) rfl rfl (Nat.le_of_ble_eq_true rfl) (fun r6 n6 I6 R6 hq => ?_) ⟨Nat.le_of_ble_eq_true rfl, Nat.le_of_ble_eq_true rfl⟩
  obtain ⟨rfl, rfl, hR2⟩ := hq
  refine x_icmp_eqT 704 dL_law_475 (by decide) rfl ?_
  exact hx _ _ hR2
theorem law_speaker (hX : SC g cx L xs) (ha : a + 5 ≤ L) {I : MI} {R : MR} (hR : RLs I R) (hx : ∀ I R, RLs I R → X g cx (mLaw nm) F (137, 5575) 704 (lwL a) [] 137 I R) : X g cx (mLaw nm) F (137, 5575) 480 (lwL a) [] 137 I R := by
  obtain ⟨v, hp⟩ := pr_speaker (xs (a + 1)) (xs (a + 2)) I R hR
  refine x_aload_n dL_law_480 rfl rfl ?_
  refine x_aload_n dL_law_481 rfl rfl ?_
  refine x_iload_n dL_law_482 rfl rfl ?_
  refine x_iconst (nI 1) dL_law_483 (by decide) ?_
  refine x_iaddN dL_law_484 ?_
  refine x_sld hX (show a + 1 < L by omega) dL_law_485 ?_
  refine x_aload_n dL_law_486 rfl rfl ?_
  refine x_iload_n dL_law_487 rfl rfl ?_
  refine x_iconst (nI 2) dL_law_488 (by decide) ?_
  refine x_iaddN dL_law_489 ?_
  refine x_sld hX (show a + 2 < L by omega) dL_law_490 ?_
  refine x_callV (mt' := mX5_speaker) hp kvX5_speaker wl_L_74 ⟨Nat.le_of_ble_eq_true rfl, Nat.le_of_ble_eq_true rfl⟩ dL_law_491 xk_0 (by decide) rfl rfl (Nat.le_of_ble_eq_true rfl) (fun r5 n5 I5 R5 hq => ?_) ⟨Nat.le_of_ble_eq_true rfl, Nat.le_of_ble_eq_true rfl⟩
  obtain ⟨rfl, rfl, hp2⟩ := hq
  refine x_aload_n dL_law_494 rfl rfl ?_
  refine x_aload_n dL_law_495 rfl rfl ?_
  refine x_iload_n dL_law_496 rfl rfl ?_
  refine x_iconst (nI 1) dL_law_497 (by decide) ?_
  refine x_iaddN dL_law_498 ?_
  refine x_sld hX (show a + 1 < L by omega) dL_law_499 ?_
  refine x_aload_n dL_law_500 rfl rfl ?_
  refine x_iload_n dL_law_501 rfl rfl ?_
  refine x_iconst (nI 2) dL_law_502 (by decide) ?_
  refine x_iaddN dL_law_503 ?_
  refine x_sld hX (show a + 2 < L by omega) dL_law_504 ?_
  refine x_callV (mt' := mX6_speaker) hp2 kvX6_speaker wl_L_77 ⟨Nat.le_of_ble_eq_true rfl, Nat.le_of_ble_eq_true rfl⟩ dL_law_505 xk_131 (by decide) rfl rfl (Nat.le_of_ble_eq_true rfl) (fun r6 n6 I6 R6 hq => ?_) ⟨Nat.le_of_ble_eq_true rfl, Nat.le_of_ble_eq_true rfl⟩
  obtain ⟨rfl, rfl, hR2⟩ := hq
  refine x_icmp_eqT 704 dL_law_508 (by decide) rfl ?_
  exact hx _ _ hR2
theorem law_message (hX : SC g cx L xs) (ha : a + 5 ≤ L) {I : MI} {R : MR} (hR : RLs I R) (hx : ∀ I R, RLs I R → X g cx (mLaw nm) F (137, 5575) 704 (lwL a) [] 137 I R) : X g cx (mLaw nm) F (137, 5575) 513 (lwL a) [] 137 I R := by
  obtain ⟨v, hp⟩ := pr_message (xs (a + 1)) (xs (a + 2)) (xs (a + 3)) I R hR
  refine x_aload_n dL_law_513 rfl rfl ?_
  refine x_aload_n dL_law_514 rfl rfl ?_
  refine x_iload_n dL_law_515 rfl rfl ?_
  refine x_iconst (nI 1) dL_law_516 (by decide) ?_
  refine x_iaddN dL_law_517 ?_
  refine x_sld hX (show a + 1 < L by omega) dL_law_518 ?_
  refine x_aload_n dL_law_519 rfl rfl ?_
  refine x_iload_n dL_law_520 rfl rfl ?_
  refine x_iconst (nI 2) dL_law_521 (by decide) ?_
  refine x_iaddN dL_law_522 ?_
  refine x_sld hX (show a + 2 < L by omega) dL_law_523 ?_
  refine x_aload_n dL_law_524 rfl rfl ?_
  refine x_iload_n dL_law_525 rfl rfl ?_
  refine x_iconst (nI 3) dL_law_526 (by decide) ?_
  refine x_iaddN dL_law_527 ?_
  refine x_sld hX (show a + 3 < L by omega) dL_law_528 ?_
  refine x_callV (mt' := mX5_message) hp kvX5_message wl_L_78 ⟨Nat.le_of_ble_eq_true rfl, Nat.le_of_ble_eq_true rfl⟩ dL_law_529 xk_0 (by decide) rfl rfl (Nat.le_of_ble_eq_true rfl) (fun r5 n5 I5 R5 hq => ?_) ⟨Nat.le_of_ble_eq_true rfl, Nat.le_of_ble_eq_true rfl⟩
  obtain ⟨rfl, rfl, hp2⟩ := hq
  refine x_aload_n dL_law_532 rfl rfl ?_
  refine x_aload_n dL_law_533 rfl rfl ?_
  refine x_iload_n dL_law_534 rfl rfl ?_
  refine x_iconst (nI 1) dL_law_535 (by decide) ?_
  refine x_iaddN dL_law_536 ?_
  refine x_sld hX (show a + 1 < L by omega) dL_law_537 ?_
  refine x_aload_n dL_law_538 rfl rfl ?_
  refine x_iload_n dL_law_539 rfl rfl ?_
  refine x_iconst (nI 2) dL_law_540 (by decide) ?_
  refine x_iaddN dL_law_541 ?_
  refine x_sld hX (show a + 2 < L by omega) dL_law_542 ?_
  refine x_aload_n dL_law_543 rfl rfl ?_
  refine x_iload_n dL_law_544 rfl rfl ?_
  refine x_iconst (nI 3) dL_law_545 (by decide) ?_
  refine x_iaddN dL_law_546 ?_
  refine x_sld hX (show a + 3 < L by omega) dL_law_547 ?_
  refine x_callV (mt' := mX6_message) hp2 kvX6_message wl_L_82 ⟨Nat.le_of_ble_eq_true rfl, Nat.le_of_ble_eq_true rfl⟩ dL_law_548 xk_131 (by decide) rfl rfl (Nat.le_of_ble_eq_true rfl) (fun r6 n6 I6 R6 hq => ?_) ⟨Nat.le_of_ble_eq_true rfl, Nat.le_of_ble_eq_true rfl⟩
  obtain ⟨rfl, rfl, hR2⟩ := hq
  refine x_icmp_eqT 704 dL_law_551 (by decide) rfl ?_
  exact hx _ _ hR2
theorem law_listener (hX : SC g cx L xs) (ha : a + 5 ≤ L) {I : MI} {R : MR} (hR : RLs I R) (hx : ∀ I R, RLs I R → X g cx (mLaw nm) F (137, 5575) 704 (lwL a) [] 137 I R) : X g cx (mLaw nm) F (137, 5575) 556 (lwL a) [] 137 I R := by
  obtain ⟨v, hp⟩ := pr_listener (xs (a + 1)) (xs (a + 2)) I R hR
  refine x_aload_n dL_law_556 rfl rfl ?_
  refine x_aload_n dL_law_557 rfl rfl ?_
  refine x_iload_n dL_law_558 rfl rfl ?_
  refine x_iconst (nI 1) dL_law_559 (by decide) ?_
  refine x_iaddN dL_law_560 ?_
  refine x_sld hX (show a + 1 < L by omega) dL_law_561 ?_
  refine x_aload_n dL_law_562 rfl rfl ?_
  refine x_iload_n dL_law_563 rfl rfl ?_
  refine x_iconst (nI 2) dL_law_564 (by decide) ?_
  refine x_iaddN dL_law_565 ?_
  refine x_sld hX (show a + 2 < L by omega) dL_law_566 ?_
  refine x_callV (mt' := mX5_listener) hp kvX5_listener wl_L_83 ⟨Nat.le_of_ble_eq_true rfl, Nat.le_of_ble_eq_true rfl⟩ dL_law_567 xk_0 (by decide) rfl rfl (Nat.le_of_ble_eq_true rfl) (fun r5 n5 I5 R5 hq => ?_) ⟨Nat.le_of_ble_eq_true rfl, Nat.le_of_ble_eq_true rfl⟩
  obtain ⟨rfl, rfl, hp2⟩ := hq
  refine x_aload_n dL_law_570 rfl rfl ?_
  refine x_aload_n dL_law_571 rfl rfl ?_
  refine x_iload_n dL_law_572 rfl rfl ?_
  refine x_iconst (nI 1) dL_law_573 (by decide) ?_
  refine x_iaddN dL_law_574 ?_
  refine x_sld hX (show a + 1 < L by omega) dL_law_575 ?_
  refine x_aload_n dL_law_576 rfl rfl ?_
  refine x_iload_n dL_law_577 rfl rfl ?_
  refine x_iconst (nI 2) dL_law_578 (by decide) ?_
  refine x_iaddN dL_law_579 ?_
  refine x_sld hX (show a + 2 < L by omega) dL_law_580 ?_
  refine x_callV (mt' := mX6_listener) hp2 kvX6_listener wl_L_86 ⟨Nat.le_of_ble_eq_true rfl, Nat.le_of_ble_eq_true rfl⟩ dL_law_581 xk_131 (by decide) rfl rfl (Nat.le_of_ble_eq_true rfl) (fun r6 n6 I6 R6 hq => ?_) ⟨Nat.le_of_ble_eq_true rfl, Nat.le_of_ble_eq_true rfl⟩
  obtain ⟨rfl, rfl, hR2⟩ := hq
  refine x_icmp_eqT 704 dL_law_584 (by decide) rfl ?_
  exact hx _ _ hR2
theorem law_bit (hX : SC g cx L xs) (ha : a + 5 ≤ L) {I : MI} {R : MR} (hR : RLs I R) (hx : ∀ I R, RLs I R → X g cx (mLaw nm) F (137, 5575) 704 (lwL a) [] 137 I R) : X g cx (mLaw nm) F (137, 5575) 589 (lwL a) [] 137 I R := by
  obtain ⟨v, hp⟩ := pr_bit (xs (a + 1)) (xs (a + 2)) I R hR
  refine x_aload_n dL_law_589 rfl rfl ?_
  refine x_aload_n dL_law_590 rfl rfl ?_
  refine x_iload_n dL_law_591 rfl rfl ?_
  refine x_iconst (nI 1) dL_law_592 (by decide) ?_
  refine x_iaddN dL_law_593 ?_
  refine x_sld hX (show a + 1 < L by omega) dL_law_594 ?_
  refine x_aload_n dL_law_595 rfl rfl ?_
  refine x_iload_n dL_law_596 rfl rfl ?_
  refine x_iconst (nI 2) dL_law_597 (by decide) ?_
  refine x_iaddN dL_law_598 ?_
  refine x_sld hX (show a + 2 < L by omega) dL_law_599 ?_
  refine x_callV (mt' := mX5_bit) hp kvX5_bit wl_L_87 ⟨Nat.le_of_ble_eq_true rfl, Nat.le_of_ble_eq_true rfl⟩ dL_law_600 xk_0 (by decide) rfl rfl (Nat.le_of_ble_eq_true rfl) (fun r5 n5 I5 R5 hq => ?_) ⟨Nat.le_of_ble_eq_true rfl, Nat.le_of_ble_eq_true rfl⟩
  obtain ⟨rfl, rfl, hp2⟩ := hq
  refine x_aload_n dL_law_603 rfl rfl ?_
  refine x_aload_n dL_law_604 rfl rfl ?_
  refine x_iload_n dL_law_605 rfl rfl ?_
  refine x_iconst (nI 1) dL_law_606 (by decide) ?_
  refine x_iaddN dL_law_607 ?_
  refine x_sld hX (show a + 1 < L by omega) dL_law_608 ?_
  refine x_aload_n dL_law_609 rfl rfl ?_
  refine x_iload_n dL_law_610 rfl rfl ?_
  refine x_iconst (nI 2) dL_law_611 (by decide) ?_
  refine x_iaddN dL_law_612 ?_
  refine x_sld hX (show a + 2 < L by omega) dL_law_613 ?_
  refine x_callV (mt' := mX6_bit) hp2 kvX6_bit wl_L_90 ⟨Nat.le_of_ble_eq_true rfl, Nat.le_of_ble_eq_true rfl⟩ dL_law_614 xk_131 (by decide) rfl rfl (Nat.le_of_ble_eq_true rfl) (fun r6 n6 I6 R6 hq => ?_) ⟨Nat.le_of_ble_eq_true rfl, Nat.le_of_ble_eq_true rfl⟩
  obtain ⟨rfl, rfl, hR2⟩ := hq
  refine x_icmp_eqT 704 dL_law_617 (by decide) rfl ?_
  exact hx _ _ hR2
theorem law_winners (hX : SC g cx L xs) (ha : a + 5 ≤ L) {I : MI} {R : MR} (hR : RLs I R) (hx : ∀ I R, RLs I R → X g cx (mLaw nm) F (137, 5575) 704 (lwL a) [] 137 I R) : X g cx (mLaw nm) F (137, 5575) 622 (lwL a) [] 137 I R := by
  obtain ⟨v, hp⟩ := pr_winners  I R hR
  refine x_aload_n dL_law_622 rfl rfl ?_
  refine x_callV (mt' := mX5_winners) hp kvX5_winners wl_L_91 ⟨Nat.le_of_ble_eq_true rfl, Nat.le_of_ble_eq_true rfl⟩ dL_law_623 xk_0 (by decide) rfl rfl (Nat.le_of_ble_eq_true rfl) (fun r5 n5 I5 R5 hq => ?_) ⟨Nat.le_of_ble_eq_true rfl, Nat.le_of_ble_eq_true rfl⟩
  obtain ⟨rfl, rfl, hp2⟩ := hq
  refine x_aload_n dL_law_626 rfl rfl ?_
  refine x_callV (mt' := mX6_winners) hp2 kvX6_winners wl_L_94 ⟨Nat.le_of_ble_eq_true rfl, Nat.le_of_ble_eq_true rfl⟩ dL_law_627 xk_131 (by decide) rfl rfl (Nat.le_of_ble_eq_true rfl) (fun r6 n6 I6 R6 hq => ?_) ⟨Nat.le_of_ble_eq_true rfl, Nat.le_of_ble_eq_true rfl⟩
  obtain ⟨rfl, rfl, hR2⟩ := hq
  refine x_icmp_eqT 704 dL_law_630 (by decide) rfl ?_
  exact hx _ _ hR2
theorem law_emptyIn (hX : SC g cx L xs) (ha : a + 5 ≤ L) {I : MI} {R : MR} (hR : RLs I R) (hx : ∀ I R, RLs I R → X g cx (mLaw nm) F (137, 5575) 704 (lwL a) [] 137 I R) : X g cx (mLaw nm) F (137, 5575) 635 (lwL a) [] 137 I R := by
  obtain ⟨v, hp⟩ := pr_emptyIn  I R hR
  refine x_aload_n dL_law_635 rfl rfl ?_
  refine x_callV (mt' := mX5_emptyIn) hp kvX5_emptyIn wl_L_95 ⟨Nat.le_of_ble_eq_true rfl, Nat.le_of_ble_eq_true rfl⟩ dL_law_636 xk_0 (by decide) rfl rfl (Nat.le_of_ble_eq_true rfl) (fun r5 n5 I5 R5 hq => ?_) ⟨Nat.le_of_ble_eq_true rfl, Nat.le_of_ble_eq_true rfl⟩
  obtain ⟨rfl, rfl, hp2⟩ := hq
  refine x_aload_n dL_law_639 rfl rfl ?_
  refine x_callV (mt' := mX6_emptyIn) hp2 kvX6_emptyIn wl_L_98 ⟨Nat.le_of_ble_eq_true rfl, Nat.le_of_ble_eq_true rfl⟩ dL_law_640 xk_131 (by decide) rfl rfl (Nat.le_of_ble_eq_true rfl) (fun r6 n6 I6 R6 hq => ?_) ⟨Nat.le_of_ble_eq_true rfl, Nat.le_of_ble_eq_true rfl⟩
  obtain ⟨rfl, rfl, hR2⟩ := hq
  refine x_icmp_eqT 704 dL_law_643 (by decide) rfl ?_
  exact hx _ _ hR2
theorem law_ifRun (hX : SC g cx L xs) (ha : a + 5 ≤ L) {I : MI} {R : MR} (hR : RLs I R) (hx : ∀ I R, RLs I R → X g cx (mLaw nm) F (137, 5575) 704 (lwL a) [] 137 I R) : X g cx (mLaw nm) F (137, 5575) 648 (lwL a) [] 137 I R := by
  obtain ⟨v, hp⟩ := pr_ifRun (xs (a + 1)) (xs (a + 2)) I R hR
  refine x_aload_n dL_law_648 rfl rfl ?_
  refine x_aload_n dL_law_649 rfl rfl ?_
  refine x_iload_n dL_law_650 rfl rfl ?_
  refine x_iconst (nI 1) dL_law_651 (by decide) ?_
  refine x_iaddN dL_law_652 ?_
  refine x_sld hX (show a + 1 < L by omega) dL_law_653 ?_
  refine x_aload_n dL_law_654 rfl rfl ?_
  refine x_iload_n dL_law_655 rfl rfl ?_
  refine x_iconst (nI 2) dL_law_656 (by decide) ?_
  refine x_iaddN dL_law_657 ?_
  refine x_sld hX (show a + 2 < L by omega) dL_law_658 ?_
  refine x_callV (mt' := mX5_ifRun) hp kvX5_ifRun wl_L_99 ⟨Nat.le_of_ble_eq_true rfl, Nat.le_of_ble_eq_true rfl⟩ dL_law_659 xk_0 (by decide) rfl rfl (Nat.le_of_ble_eq_true rfl) (fun r5 n5 I5 R5 hq => ?_) ⟨Nat.le_of_ble_eq_true rfl, Nat.le_of_ble_eq_true rfl⟩
  obtain ⟨rfl, rfl, hp2⟩ := hq
  refine x_aload_n dL_law_662 rfl rfl ?_
  refine x_aload_n dL_law_663 rfl rfl ?_
  refine x_iload_n dL_law_664 rfl rfl ?_
  refine x_iconst (nI 1) dL_law_665 (by decide) ?_
  refine x_iaddN dL_law_666 ?_
  refine x_sld hX (show a + 1 < L by omega) dL_law_667 ?_
  refine x_aload_n dL_law_668 rfl rfl ?_
  refine x_iload_n dL_law_669 rfl rfl ?_
  refine x_iconst (nI 2) dL_law_670 (by decide) ?_
  refine x_iaddN dL_law_671 ?_
  refine x_sld hX (show a + 2 < L by omega) dL_law_672 ?_
  refine x_callV (mt' := mX6_ifRun) hp2 kvX6_ifRun wl_L_102 ⟨Nat.le_of_ble_eq_true rfl, Nat.le_of_ble_eq_true rfl⟩ dL_law_673 xk_131 (by decide) rfl rfl (Nat.le_of_ble_eq_true rfl) (fun r6 n6 I6 R6 hq => ?_) ⟨Nat.le_of_ble_eq_true rfl, Nat.le_of_ble_eq_true rfl⟩
  obtain ⟨rfl, rfl, hR2⟩ := hq
  refine x_icmp_eqT 704 dL_law_676 (by decide) rfl ?_
  exact hx _ _ hR2
theorem law_count (hX : SC g cx L xs) (ha : a + 5 ≤ L) {I : MI} {R : MR} (hR : RLs I R) (hx : ∀ I R, RLs I R → X g cx (mLaw nm) F (137, 5575) 704 (lwL a) [] 137 I R) : X g cx (mLaw nm) F (137, 5575) 681 (lwL a) [] 137 I R := by
  obtain ⟨v, hp⟩ := pr_count (xs (a + 1)) I R hR
  refine x_aload_n dL_law_681 rfl rfl ?_
  refine x_aload_n dL_law_682 rfl rfl ?_
  refine x_iload_n dL_law_683 rfl rfl ?_
  refine x_iconst (nI 1) dL_law_684 (by decide) ?_
  refine x_iaddN dL_law_685 ?_
  refine x_sld hX (show a + 1 < L by omega) dL_law_686 ?_
  refine x_callV (mt' := mX5_count) hp kvX5_count wl_L_103 ⟨Nat.le_of_ble_eq_true rfl, Nat.le_of_ble_eq_true rfl⟩ dL_law_687 xk_0 (by decide) rfl rfl (Nat.le_of_ble_eq_true rfl) (fun r5 n5 I5 R5 hq => ?_) ⟨Nat.le_of_ble_eq_true rfl, Nat.le_of_ble_eq_true rfl⟩
  obtain ⟨rfl, rfl, hp2⟩ := hq
  refine x_aload_n dL_law_690 rfl rfl ?_
  refine x_aload_n dL_law_691 rfl rfl ?_
  refine x_iload_n dL_law_692 rfl rfl ?_
  refine x_iconst (nI 1) dL_law_693 (by decide) ?_
  refine x_iaddN dL_law_694 ?_
  refine x_sld hX (show a + 1 < L by omega) dL_law_695 ?_
  refine x_callV (mt' := mX6_count) hp2 kvX6_count wl_L_106 ⟨Nat.le_of_ble_eq_true rfl, Nat.le_of_ble_eq_true rfl⟩ dL_law_696 xk_131 (by decide) rfl rfl (Nat.le_of_ble_eq_true rfl) (fun r6 n6 I6 R6 hq => ?_) ⟨Nat.le_of_ble_eq_true rfl, Nat.le_of_ble_eq_true rfl⟩
  obtain ⟨rfl, rfl, hR2⟩ := hq
  refine x_icmp_eqT 704 dL_law_699 (by decide) rfl ?_
  exact hx _ _ hR2
end CL
