/-! the reference: an order -/
/-- what is read: place and whether wrong, letter, four numbers -/
def pOrd (t : Nat → Int32) (n p : Nat) (b c : Int32) : (Nat × Bool) × Int32 × Int32 × Int32 × Int32 × Int32 :=
  let l := if n ≤ p then nI 0 else t p
  if l = nI 114 then
    let s := sg t n (nI 110) (sg t n (nI 117) (sg t n (nI 114) (p, false)))
    ((nm t n (nI 1) (nI 99) s).2, l, (nm t n (nI 1) (nI 99) s).1, b, c, -5)
  else
    let s1 := sg t n (if l = nI 104 then nI 104 else nI 115) (p, false)
    if l = nI 104 then
      if nx t n (nI 111) s1 = true then
        let s := sg t n (nI 100) (sg t n (nI 108) (sg t n (nI 111) s1))
        let r := nm t n (nI 0) (nI 3) s
        let q := nm t n (nI 0) (nI 9) r.2
        (q.2, nI 111, r.1, q.1, c, -5)
      else
        let s := sg t n (nI 114) (sg t n (nI 97) (sg t n (nI 101) s1))
        let r := nm t n (nI 0) (nI 3) s
        let q := nm t n (nI 0) (nI 127) r.2
        (q.2, nI 104, r.1, q.1, c, -5)
    else
      if nx t n (nI 116) s1 = true then
        let s := sg t n (nI 107) (sg t n (nI 99) (sg t n (nI 105) (sg t n (nI 116) s1)))
        let r := nm t n (nI 0) (nI 3) s
        let q := nm t n (nI 1) (nI 99) r.2
        (q.2, nI 116, r.1, q.1, c, -5)
      else
        let s := sg t n (nI 121) (sg t n (nI 97) s1)
        let r := nm t n (nI 0) (nI 3) s
        let q := nm t n (nI 0) (nI 127) r.2
        let u := nm t n (nI 0) (nI 255) q.2
        if nx t n (nI 32) u.2 = true then
          let w := nm t n (nI 0) (nI 255) u.2
          (w.2, nI 115, r.1, q.1, u.1, w.1)
        else (u.2, nI 115, r.1, q.1, u.1, -5)
/-- the fields behind an order -/
def PO (φ : Nat → Int32) (o : (Nat × Bool) × Int32 × Int32 × Int32 × Int32 × Int32) : Nat → Int32 := PF φ o.1 o.2.1 o.2.2.1 o.2.2.2.1 o.2.2.2.2.1 o.2.2.2.2.2
theorem pOrd_le {t : Nat → Int32} {n p : Nat} {b c : Int32} (h : p ≤ n) : (pOrd t n p b c).1.1 ≤ n := by
  have h0 : ((p, false) : Nat × Bool).1 ≤ n := h
  unfold pOrd
  dsimp only
  generalize (if n ≤ p then nI 0 else t p) = l0
  generalize (if l0 = nI 104 then nI 104 else nI 115) = x0
  split
  · exact nm_le (sg_le (sg_le (sg_le h0)))
  · split
    · split
      · exact nm_le (nm_le (sg_le (sg_le (sg_le (sg_le h0)))))
      · exact nm_le (nm_le (sg_le (sg_le (sg_le (sg_le h0)))))
    · split
      · exact nm_le (nm_le (sg_le (sg_le (sg_le (sg_le (sg_le h0))))))
      · split
        · exact nm_le (nm_le (nm_le (nm_le (sg_le (sg_le (sg_le h0))))))
        · exact nm_le (nm_le (nm_le (sg_le (sg_le (sg_le h0)))))
section ML
variable {I : MI} {R : MR} {φ α β κ τ : Nat → Int32} {Z : MI} {l a b c d : Int32} {n p : Nat}
theorem sp_X6_order (hM : Md R) (hn : φ 7 = nI n) (hn80 : n ≤ 80) (hp : p ≤ n) : Spd mX6_order [.ref 131] (MM I (PF φ (p, false) l a b c d) Z α β κ τ) R none (MM I (PO φ (pOrd τ n p b c)) Z α β κ τ) := by
  refine Spd.mk (by decide +kernel) (by simp [Value.category]) (Nat.le_of_ble_eq_true rfl) (fun g cx => ?_)
  have h0 : ((p, false) : Nat × Bool).1 ≤ n := hp
  have S : ∀ {x : Int32} {s : Nat × Bool}, s.1 ≤ n → (sg τ n x s).1 ≤ n := fun h => sg_le h
  have N : ∀ {x y : Int32} {s : Nat × Bool}, s.1 ≤ n → (nm τ n x y s).2.1 ≤ n := fun h => nm_le h
  refine x_aload_n dX6_order_0 rfl rfl ?_
  refine x_aload_n dX6_order_1 rfl rfl ?_
  refine x_getM fl_X6_157 dX6_order_2 rfl (x_eqtop PF_10 ?_)
  refine x_aload_n dX6_order_5 rfl rfl ?_
  refine x_getM fl_X6_150 dX6_order_6 rfl (x_eqtop ((PF_lo (by omega)).trans hn) ?_)
  refine' x_dia_icmp_geN 24 25 dX6_order_9 (by decide) (by omega) (by omega) ?_ ?_ ?_; rotate_left 2
  · intro c9 k9
    refine x_aload_n dX6_order_12 rfl rfl ?_
    refine x_getR fl_X6_22 dX6_order_13 xk_131 (by decide) rfl (hM 6 _ rfl) ?_
    refine x_aload_n dX6_order_16 rfl rfl ?_
    refine x_getM fl_X6_157 dX6_order_17 rfl (x_eqtop PF_10 ?_)
    refine x_ldT dX6_order_20 (by omega) ?_
    refine x_goto 25 dX6_order_21 (by decide) ?_
    exact k9
  · intro c9 k9
    refine x_iconst (nI 0) dX6_order_24 (by decide) ?_
    exact k9
  generalize hl0 : (if n ≤ p then nI 0 else τ p) = l0
  refine x_putM fl_X6_167 fp_6_12 dX6_order_25 rfl rfl rfl (x_eqI MM_u12 ?_)
  refine x_aload_n dX6_order_28 rfl rfl ?_
  refine x_bipush (-5) dX6_order_29 (by decide) ?_
  refine x_putM fl_X6_170 fp_6_16 dX6_order_31 rfl rfl rfl (x_eqI MM_u16 ?_)
  refine x_aload_n dX6_order_34 rfl rfl ?_
  refine x_getM fl_X6_167 dX6_order_35 rfl (x_eqtop PF_12 ?_)
  refine x_bipush (nI 114) dX6_order_38 (by decide) ?_
  refine x_icmp_ne 73 dX6_order_40 (by decide) (fun c40 => ?_) (fun c40 => ?_)
  · skip
    refine x_aload_n dX6_order_73 rfl rfl ?_
    refine x_aload_n dX6_order_74 rfl rfl ?_
    refine x_getM fl_X6_167 dX6_order_75 rfl (x_eqtop PF_12 ?_)
    refine x_bipush (nI 104) dX6_order_78 (by decide) ?_
    refine' x_dia_icmp_ne 88 90 dX6_order_80 (by decide) ?_ ?_ ?_; rotate_left 2
    · intro c80 k80
      refine x_bipush (nI 104) dX6_order_83 (by decide) ?_
      refine x_goto 90 dX6_order_85 (by decide) ?_
      exact k80
    · intro c80 k80
      refine x_bipush (nI 115) dX6_order_88 (by decide) ?_
      exact k80
    refine x_callVd0 (mt' := mX6_sign) (sp_X6_sign hM hn hn80 h0 _) kvX6_sign wl_X6_160 (by decide) dX6_order_90 xk_131 (by decide) rfl rfl (Nat.le_of_ble_eq_true rfl) ⟨rfl, rfl⟩ (by decide) ?_
    refine x_aload_n dX6_order_93 rfl rfl ?_
    refine x_getM fl_X6_167 dX6_order_94 rfl (x_eqtop PF_12 ?_)
    refine x_bipush (nI 104) dX6_order_97 (by decide) ?_
    refine x_icmp_ne 223 dX6_order_99 (by decide) (fun c99 => ?_) (fun c99 => ?_)
    · skip
      refine x_aload_n dX6_order_223 rfl rfl ?_
      refine x_aload_n dX6_order_224 rfl rfl ?_
      refine x_bipush (nI 116) dX6_order_225 (by decide) ?_
      refine x_callVd0 (mt' := mX6_isNext) (sp_X6_isNext hM hn hn80 (S h0) _) kvX6_isNext wl_X6_179 (by decide) dX6_order_227 xk_131 (by decide) rfl rfl (Nat.le_of_ble_eq_true rfl) ⟨rfl, rfl⟩ (by decide) ?_
      refine x_if_eq 238 dX6_order_230 (by decide) (fun c230 => ?_) (fun c230 => ?_)
      · skip
        refine x_bipush (nI 115) dX6_order_238 (by decide) ?_
        refine x_putM fl_X6_167 fp_6_12 dX6_order_240 rfl rfl rfl (x_eqI MM_u12 ?_)
        refine x_aload_n dX6_order_243 rfl rfl ?_
        refine x_getM fl_X6_167 dX6_order_244 rfl (x_eqtop PF_12 ?_)
        refine x_bipush (nI 116) dX6_order_247 (by decide) ?_
        refine x_icmp_neT 298 dX6_order_249 (by decide) (by decide) ?_
        refine x_aload_n dX6_order_298 rfl rfl ?_
        refine x_bipush (nI 97) dX6_order_299 (by decide) ?_
        refine x_callVd0 (mt' := mX6_sign) (sp_X6_sign hM hn hn80 (S h0) _) kvX6_sign wl_X6_160 (by decide) dX6_order_301 xk_131 (by decide) rfl rfl (Nat.le_of_ble_eq_true rfl) ⟨rfl, rfl⟩ (by decide) ?_
        refine x_aload_n dX6_order_304 rfl rfl ?_
        refine x_bipush (nI 121) dX6_order_305 (by decide) ?_
        refine x_callVd0 (mt' := mX6_sign) (sp_X6_sign hM hn hn80 (S (S h0)) _) kvX6_sign wl_X6_160 (by decide) dX6_order_307 xk_131 (by decide) rfl rfl (Nat.le_of_ble_eq_true rfl) ⟨rfl, rfl⟩ (by decide) ?_
        refine x_aload_n dX6_order_310 rfl rfl ?_
        refine x_aload_n dX6_order_311 rfl rfl ?_
        refine x_iconst (nI 0) dX6_order_312 (by decide) ?_
        refine x_iconst (nI 3) dX6_order_313 (by decide) ?_
        refine x_callVd0 (mt' := mX6_number) (sp_X6_number hM hn hn80 (S (S (S h0))) _ _) kvX6_number wl_X6_173 (by decide) dX6_order_314 xk_131 (by decide) rfl rfl (Nat.le_of_ble_eq_true rfl) ⟨rfl, rfl⟩ (by decide) ?_
        refine x_putM fl_X6_176 fp_6_13 dX6_order_317 rfl rfl rfl (x_eqI MM_u13 ?_)
        refine x_aload_n dX6_order_320 rfl rfl ?_
        refine x_aload_n dX6_order_321 rfl rfl ?_
        refine x_iconst (nI 0) dX6_order_322 (by decide) ?_
        refine x_bipush (nI 127) dX6_order_323 (by decide) ?_
        refine x_callVd0 (mt' := mX6_number) (sp_X6_number hM hn hn80 (N (S (S (S h0)))) _ _) kvX6_number wl_X6_173 (by decide) dX6_order_325 xk_131 (by decide) rfl rfl (Nat.le_of_ble_eq_true rfl) ⟨rfl, rfl⟩ (by decide) ?_
        refine x_putM fl_X6_182 fp_6_14 dX6_order_328 rfl rfl rfl (x_eqI MM_u14 ?_)
        refine x_aload_n dX6_order_331 rfl rfl ?_
        refine x_aload_n dX6_order_332 rfl rfl ?_
        refine x_iconst (nI 0) dX6_order_333 (by decide) ?_
        refine x_sipush (nI 255) dX6_order_334 (by decide) ?_
        refine x_callVd0 (mt' := mX6_number) (sp_X6_number hM hn hn80 (N (N (S (S (S h0))))) _ _) kvX6_number wl_X6_173 (by decide) dX6_order_337 xk_131 (by decide) rfl rfl (Nat.le_of_ble_eq_true rfl) ⟨rfl, rfl⟩ (by decide) ?_
        refine x_putM fl_X6_185 fp_6_15 dX6_order_340 rfl rfl rfl (x_eqI MM_u15 ?_)
        refine x_aload_n dX6_order_343 rfl rfl ?_
        refine x_aload_n dX6_order_344 rfl rfl ?_
        refine x_bipush (nI 32) dX6_order_345 (by decide) ?_
        refine x_callVd0 (mt' := mX6_isNext) (sp_X6_isNext hM hn hn80 (N (N (N (S (S (S h0)))))) _) kvX6_isNext wl_X6_179 (by decide) dX6_order_347 xk_131 (by decide) rfl rfl (Nat.le_of_ble_eq_true rfl) ⟨rfl, rfl⟩ (by decide) ?_
        refine x_if_eq 364 dX6_order_350 (by decide) (fun c350 => ?_) (fun c350 => ?_)
        · skip
          obtain ⟨o, ho⟩ : ∃ o, pOrd τ n p b c = o := ⟨_, rfl⟩
          rw [ho]
          unfold pOrd at ho
          dsimp only at ho
          rw [hl0, if_neg c40, if_neg c99, if_neg (bi_t c230), if_neg (bi_t c350)] at ho
          subst ho
          refine x_bipush (-5) dX6_order_364 (by decide) ?_
          refine x_putM fl_X6_170 fp_6_16 dX6_order_366 rfl rfl rfl (x_eqI MM_u16 ?_)
          refine x_vret dX6_order_369 rfl (by decide) (by decide) ?_
          exact ⟨rfl, rfl, rfl, rfl⟩
        · skip
          obtain ⟨o, ho⟩ : ∃ o, pOrd τ n p b c = o := ⟨_, rfl⟩
          rw [ho]
          unfold pOrd at ho
          dsimp only at ho
          rw [hl0, if_neg c40, if_neg c99, if_neg (bi_t c230), if_pos (bi_nt c350)] at ho
          subst ho
          refine x_aload_n dX6_order_353 rfl rfl ?_
          refine x_iconst (nI 0) dX6_order_354 (by decide) ?_
          refine x_sipush (nI 255) dX6_order_355 (by decide) ?_
          refine x_callVd0 (mt' := mX6_number) (sp_X6_number hM hn hn80 (N (N (N (S (S (S h0)))))) _ _) kvX6_number wl_X6_173 (by decide) dX6_order_358 xk_131 (by decide) rfl rfl (Nat.le_of_ble_eq_true rfl) ⟨rfl, rfl⟩ (by decide) ?_
          refine x_goto 366 dX6_order_361 (by decide) ?_
          refine x_putM fl_X6_170 fp_6_16 dX6_order_366 rfl rfl rfl (x_eqI MM_u16 ?_)
          refine x_vret dX6_order_369 rfl (by decide) (by decide) ?_
          exact ⟨rfl, rfl, rfl, rfl⟩
      · skip
        obtain ⟨o, ho⟩ : ∃ o, pOrd τ n p b c = o := ⟨_, rfl⟩
        rw [ho]
        unfold pOrd at ho
        dsimp only at ho
        rw [hl0, if_neg c40, if_neg c99, if_pos (bi_nt c230)] at ho
        subst ho
        refine x_bipush (nI 116) dX6_order_233 (by decide) ?_
        refine x_goto 240 dX6_order_235 (by decide) ?_
        refine x_putM fl_X6_167 fp_6_12 dX6_order_240 rfl rfl rfl (x_eqI MM_u12 ?_)
        refine x_aload_n dX6_order_243 rfl rfl ?_
        refine x_getM fl_X6_167 dX6_order_244 rfl (x_eqtop PF_12 ?_)
        refine x_bipush (nI 116) dX6_order_247 (by decide) ?_
        refine x_icmp_neF dX6_order_249 (rfl) ?_ 298 (by decide)
        refine x_aload_n dX6_order_252 rfl rfl ?_
        refine x_bipush (nI 116) dX6_order_253 (by decide) ?_
        refine x_callVd0 (mt' := mX6_sign) (sp_X6_sign hM hn hn80 (S h0) _) kvX6_sign wl_X6_160 (by decide) dX6_order_255 xk_131 (by decide) rfl rfl (Nat.le_of_ble_eq_true rfl) ⟨rfl, rfl⟩ (by decide) ?_
        refine x_aload_n dX6_order_258 rfl rfl ?_
        refine x_bipush (nI 105) dX6_order_259 (by decide) ?_
        refine x_callVd0 (mt' := mX6_sign) (sp_X6_sign hM hn hn80 (S (S h0)) _) kvX6_sign wl_X6_160 (by decide) dX6_order_261 xk_131 (by decide) rfl rfl (Nat.le_of_ble_eq_true rfl) ⟨rfl, rfl⟩ (by decide) ?_
        refine x_aload_n dX6_order_264 rfl rfl ?_
        refine x_bipush (nI 99) dX6_order_265 (by decide) ?_
        refine x_callVd0 (mt' := mX6_sign) (sp_X6_sign hM hn hn80 (S (S (S h0))) _) kvX6_sign wl_X6_160 (by decide) dX6_order_267 xk_131 (by decide) rfl rfl (Nat.le_of_ble_eq_true rfl) ⟨rfl, rfl⟩ (by decide) ?_
        refine x_aload_n dX6_order_270 rfl rfl ?_
        refine x_bipush (nI 107) dX6_order_271 (by decide) ?_
        refine x_callVd0 (mt' := mX6_sign) (sp_X6_sign hM hn hn80 (S (S (S (S h0)))) _) kvX6_sign wl_X6_160 (by decide) dX6_order_273 xk_131 (by decide) rfl rfl (Nat.le_of_ble_eq_true rfl) ⟨rfl, rfl⟩ (by decide) ?_
        refine x_aload_n dX6_order_276 rfl rfl ?_
        refine x_aload_n dX6_order_277 rfl rfl ?_
        refine x_iconst (nI 0) dX6_order_278 (by decide) ?_
        refine x_iconst (nI 3) dX6_order_279 (by decide) ?_
        refine x_callVd0 (mt' := mX6_number) (sp_X6_number hM hn hn80 (S (S (S (S (S h0))))) _ _) kvX6_number wl_X6_173 (by decide) dX6_order_280 xk_131 (by decide) rfl rfl (Nat.le_of_ble_eq_true rfl) ⟨rfl, rfl⟩ (by decide) ?_
        refine x_putM fl_X6_176 fp_6_13 dX6_order_283 rfl rfl rfl (x_eqI MM_u13 ?_)
        refine x_aload_n dX6_order_286 rfl rfl ?_
        refine x_aload_n dX6_order_287 rfl rfl ?_
        refine x_iconst (nI 1) dX6_order_288 (by decide) ?_
        refine x_bipush (nI 99) dX6_order_289 (by decide) ?_
        refine x_callVd0 (mt' := mX6_number) (sp_X6_number hM hn hn80 (N (S (S (S (S (S h0)))))) _ _) kvX6_number wl_X6_173 (by decide) dX6_order_291 xk_131 (by decide) rfl rfl (Nat.le_of_ble_eq_true rfl) ⟨rfl, rfl⟩ (by decide) ?_
        refine x_putM fl_X6_182 fp_6_14 dX6_order_294 rfl rfl rfl (x_eqI MM_u14 ?_)
        refine x_vret dX6_order_297 rfl (by decide) (by decide) ?_
        exact ⟨rfl, rfl, rfl, rfl⟩
    · skip
      refine x_aload_n dX6_order_102 rfl rfl ?_
      refine x_aload_n dX6_order_103 rfl rfl ?_
      refine x_bipush (nI 111) dX6_order_104 (by decide) ?_
      refine x_callVd0 (mt' := mX6_isNext) (sp_X6_isNext hM hn hn80 (S h0) _) kvX6_isNext wl_X6_179 (by decide) dX6_order_106 xk_131 (by decide) rfl rfl (Nat.le_of_ble_eq_true rfl) ⟨rfl, rfl⟩ (by decide) ?_
      refine x_if_eq 117 dX6_order_109 (by decide) (fun c109 => ?_) (fun c109 => ?_)
      · skip
        obtain ⟨o, ho⟩ : ∃ o, pOrd τ n p b c = o := ⟨_, rfl⟩
        rw [ho]
        unfold pOrd at ho
        dsimp only at ho
        rw [hl0, if_neg c40, if_pos c99, if_neg (bi_t c109)] at ho
        subst ho
        refine x_bipush (nI 104) dX6_order_117 (by decide) ?_
        refine x_putM fl_X6_167 fp_6_12 dX6_order_119 rfl rfl rfl (x_eqI MM_u12 ?_)
        refine x_aload_n dX6_order_122 rfl rfl ?_
        refine x_aload_n dX6_order_123 rfl rfl ?_
        refine x_getM fl_X6_167 dX6_order_124 rfl (x_eqtop PF_12 ?_)
        refine x_bipush (nI 111) dX6_order_127 (by decide) ?_
        refine x_icmp_neT 137 dX6_order_129 (by decide) (by decide) ?_
        refine x_bipush (nI 101) dX6_order_137 (by decide) ?_
        refine x_callVd0 (mt' := mX6_sign) (sp_X6_sign hM hn hn80 (S h0) _) kvX6_sign wl_X6_160 (by decide) dX6_order_139 xk_131 (by decide) rfl rfl (Nat.le_of_ble_eq_true rfl) ⟨rfl, rfl⟩ (by decide) ?_
        refine x_aload_n dX6_order_142 rfl rfl ?_
        refine x_aload_n dX6_order_143 rfl rfl ?_
        refine x_getM fl_X6_167 dX6_order_144 rfl (x_eqtop PF_12 ?_)
        refine x_bipush (nI 111) dX6_order_147 (by decide) ?_
        refine x_icmp_neT 157 dX6_order_149 (by decide) (by decide) ?_
        refine x_bipush (nI 97) dX6_order_157 (by decide) ?_
        refine x_callVd0 (mt' := mX6_sign) (sp_X6_sign hM hn hn80 (S (S h0)) _) kvX6_sign wl_X6_160 (by decide) dX6_order_159 xk_131 (by decide) rfl rfl (Nat.le_of_ble_eq_true rfl) ⟨rfl, rfl⟩ (by decide) ?_
        refine x_aload_n dX6_order_162 rfl rfl ?_
        refine x_aload_n dX6_order_163 rfl rfl ?_
        refine x_getM fl_X6_167 dX6_order_164 rfl (x_eqtop PF_12 ?_)
        refine x_bipush (nI 111) dX6_order_167 (by decide) ?_
        refine x_icmp_neT 177 dX6_order_169 (by decide) (by decide) ?_
        refine x_bipush (nI 114) dX6_order_177 (by decide) ?_
        refine x_callVd0 (mt' := mX6_sign) (sp_X6_sign hM hn hn80 (S (S (S h0))) _) kvX6_sign wl_X6_160 (by decide) dX6_order_179 xk_131 (by decide) rfl rfl (Nat.le_of_ble_eq_true rfl) ⟨rfl, rfl⟩ (by decide) ?_
        refine x_aload_n dX6_order_182 rfl rfl ?_
        refine x_aload_n dX6_order_183 rfl rfl ?_
        refine x_iconst (nI 0) dX6_order_184 (by decide) ?_
        refine x_iconst (nI 3) dX6_order_185 (by decide) ?_
        refine x_callVd0 (mt' := mX6_number) (sp_X6_number hM hn hn80 (S (S (S (S h0)))) _ _) kvX6_number wl_X6_173 (by decide) dX6_order_186 xk_131 (by decide) rfl rfl (Nat.le_of_ble_eq_true rfl) ⟨rfl, rfl⟩ (by decide) ?_
        refine x_putM fl_X6_176 fp_6_13 dX6_order_189 rfl rfl rfl (x_eqI MM_u13 ?_)
        refine x_aload_n dX6_order_192 rfl rfl ?_
        refine x_aload_n dX6_order_193 rfl rfl ?_
        refine x_getM fl_X6_167 dX6_order_194 rfl (x_eqtop PF_12 ?_)
        refine x_bipush (nI 111) dX6_order_197 (by decide) ?_
        refine x_icmp_neT 212 dX6_order_199 (by decide) (by decide) ?_
        refine x_aload_n dX6_order_212 rfl rfl ?_
        refine x_iconst (nI 0) dX6_order_213 (by decide) ?_
        refine x_bipush (nI 127) dX6_order_214 (by decide) ?_
        refine x_callVd0 (mt' := mX6_number) (sp_X6_number hM hn hn80 (N (S (S (S (S h0))))) _ _) kvX6_number wl_X6_173 (by decide) dX6_order_216 xk_131 (by decide) rfl rfl (Nat.le_of_ble_eq_true rfl) ⟨rfl, rfl⟩ (by decide) ?_
        refine x_putM fl_X6_182 fp_6_14 dX6_order_219 rfl rfl rfl (x_eqI MM_u14 ?_)
        refine x_vret dX6_order_222 rfl (by decide) (by decide) ?_
        exact ⟨rfl, rfl, rfl, rfl⟩
      · skip
        obtain ⟨o, ho⟩ : ∃ o, pOrd τ n p b c = o := ⟨_, rfl⟩
        rw [ho]
        unfold pOrd at ho
        dsimp only at ho
        rw [hl0, if_neg c40, if_pos c99, if_pos (bi_nt c109)] at ho
        subst ho
        refine x_bipush (nI 111) dX6_order_112 (by decide) ?_
        refine x_goto 119 dX6_order_114 (by decide) ?_
        refine x_putM fl_X6_167 fp_6_12 dX6_order_119 rfl rfl rfl (x_eqI MM_u12 ?_)
        refine x_aload_n dX6_order_122 rfl rfl ?_
        refine x_aload_n dX6_order_123 rfl rfl ?_
        refine x_getM fl_X6_167 dX6_order_124 rfl (x_eqtop PF_12 ?_)
        refine x_bipush (nI 111) dX6_order_127 (by decide) ?_
        refine x_icmp_neF dX6_order_129 (rfl) ?_ 137 (by decide)
        refine x_bipush (nI 111) dX6_order_132 (by decide) ?_
        refine x_goto 139 dX6_order_134 (by decide) ?_
        refine x_callVd0 (mt' := mX6_sign) (sp_X6_sign hM hn hn80 (S h0) _) kvX6_sign wl_X6_160 (by decide) dX6_order_139 xk_131 (by decide) rfl rfl (Nat.le_of_ble_eq_true rfl) ⟨rfl, rfl⟩ (by decide) ?_
        refine x_aload_n dX6_order_142 rfl rfl ?_
        refine x_aload_n dX6_order_143 rfl rfl ?_
        refine x_getM fl_X6_167 dX6_order_144 rfl (x_eqtop PF_12 ?_)
        refine x_bipush (nI 111) dX6_order_147 (by decide) ?_
        refine x_icmp_neF dX6_order_149 (rfl) ?_ 157 (by decide)
        refine x_bipush (nI 108) dX6_order_152 (by decide) ?_
        refine x_goto 159 dX6_order_154 (by decide) ?_
        refine x_callVd0 (mt' := mX6_sign) (sp_X6_sign hM hn hn80 (S (S h0)) _) kvX6_sign wl_X6_160 (by decide) dX6_order_159 xk_131 (by decide) rfl rfl (Nat.le_of_ble_eq_true rfl) ⟨rfl, rfl⟩ (by decide) ?_
        refine x_aload_n dX6_order_162 rfl rfl ?_
        refine x_aload_n dX6_order_163 rfl rfl ?_
        refine x_getM fl_X6_167 dX6_order_164 rfl (x_eqtop PF_12 ?_)
        refine x_bipush (nI 111) dX6_order_167 (by decide) ?_
        refine x_icmp_neF dX6_order_169 (rfl) ?_ 177 (by decide)
        refine x_bipush (nI 100) dX6_order_172 (by decide) ?_
        refine x_goto 179 dX6_order_174 (by decide) ?_
        refine x_callVd0 (mt' := mX6_sign) (sp_X6_sign hM hn hn80 (S (S (S h0))) _) kvX6_sign wl_X6_160 (by decide) dX6_order_179 xk_131 (by decide) rfl rfl (Nat.le_of_ble_eq_true rfl) ⟨rfl, rfl⟩ (by decide) ?_
        refine x_aload_n dX6_order_182 rfl rfl ?_
        refine x_aload_n dX6_order_183 rfl rfl ?_
        refine x_iconst (nI 0) dX6_order_184 (by decide) ?_
        refine x_iconst (nI 3) dX6_order_185 (by decide) ?_
        refine x_callVd0 (mt' := mX6_number) (sp_X6_number hM hn hn80 (S (S (S (S h0)))) _ _) kvX6_number wl_X6_173 (by decide) dX6_order_186 xk_131 (by decide) rfl rfl (Nat.le_of_ble_eq_true rfl) ⟨rfl, rfl⟩ (by decide) ?_
        refine x_putM fl_X6_176 fp_6_13 dX6_order_189 rfl rfl rfl (x_eqI MM_u13 ?_)
        refine x_aload_n dX6_order_192 rfl rfl ?_
        refine x_aload_n dX6_order_193 rfl rfl ?_
        refine x_getM fl_X6_167 dX6_order_194 rfl (x_eqtop PF_12 ?_)
        refine x_bipush (nI 111) dX6_order_197 (by decide) ?_
        refine x_icmp_neF dX6_order_199 (rfl) ?_ 212 (by decide)
        refine x_aload_n dX6_order_202 rfl rfl ?_
        refine x_iconst (nI 0) dX6_order_203 (by decide) ?_
        refine x_bipush (nI 9) dX6_order_204 (by decide) ?_
        refine x_callVd0 (mt' := mX6_number) (sp_X6_number hM hn hn80 (N (S (S (S (S h0))))) _ _) kvX6_number wl_X6_173 (by decide) dX6_order_206 xk_131 (by decide) rfl rfl (Nat.le_of_ble_eq_true rfl) ⟨rfl, rfl⟩ (by decide) ?_
        refine x_goto 219 dX6_order_209 (by decide) ?_
        refine x_putM fl_X6_182 fp_6_14 dX6_order_219 rfl rfl rfl (x_eqI MM_u14 ?_)
        refine x_vret dX6_order_222 rfl (by decide) (by decide) ?_
        exact ⟨rfl, rfl, rfl, rfl⟩
  · skip
    have e : pOrd τ n p b c = ((nm τ n (nI 1) (nI 99) (sg τ n (nI 110) (sg τ n (nI 117) (sg τ n (nI 114) (p, false))))).2, l0, (nm τ n (nI 1) (nI 99) (sg τ n (nI 110) (sg τ n (nI 117) (sg τ n (nI 114) (p, false))))).1, b, c, -5) := by unfold pOrd; dsimp only; rw [hl0, if_pos c40]
    rw [e]
    refine x_aload_n dX6_order_43 rfl rfl ?_
    refine x_bipush (nI 114) dX6_order_44 (by decide) ?_
    refine x_callVd0 (mt' := mX6_sign) (sp_X6_sign hM hn hn80 h0 _) kvX6_sign wl_X6_160 (by decide) dX6_order_46 xk_131 (by decide) rfl rfl (Nat.le_of_ble_eq_true rfl) ⟨rfl, rfl⟩ (by decide) ?_
    refine x_aload_n dX6_order_49 rfl rfl ?_
    refine x_bipush (nI 117) dX6_order_50 (by decide) ?_
    refine x_callVd0 (mt' := mX6_sign) (sp_X6_sign hM hn hn80 (S h0) _) kvX6_sign wl_X6_160 (by decide) dX6_order_52 xk_131 (by decide) rfl rfl (Nat.le_of_ble_eq_true rfl) ⟨rfl, rfl⟩ (by decide) ?_
    refine x_aload_n dX6_order_55 rfl rfl ?_
    refine x_bipush (nI 110) dX6_order_56 (by decide) ?_
    refine x_callVd0 (mt' := mX6_sign) (sp_X6_sign hM hn hn80 (S (S h0)) _) kvX6_sign wl_X6_160 (by decide) dX6_order_58 xk_131 (by decide) rfl rfl (Nat.le_of_ble_eq_true rfl) ⟨rfl, rfl⟩ (by decide) ?_
    refine x_aload_n dX6_order_61 rfl rfl ?_
    refine x_aload_n dX6_order_62 rfl rfl ?_
    refine x_iconst (nI 1) dX6_order_63 (by decide) ?_
    refine x_bipush (nI 99) dX6_order_64 (by decide) ?_
    refine x_callVd0 (mt' := mX6_number) (sp_X6_number hM hn hn80 (S (S (S h0))) _ _) kvX6_number wl_X6_173 (by decide) dX6_order_66 xk_131 (by decide) rfl rfl (Nat.le_of_ble_eq_true rfl) ⟨rfl, rfl⟩ (by decide) ?_
    refine x_putM fl_X6_176 fp_6_13 dX6_order_69 rfl rfl rfl (x_eqI MM_u13 ?_)
    refine x_vret dX6_order_72 rfl (by decide) (by decide) ?_
    exact ⟨rfl, rfl, rfl, rfl⟩
end ML
