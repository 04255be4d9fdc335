
/-! the class: members of the JDK, isIndex, isPlace -/
/-- as Met.ofW, the member plainly named -/
theorem Met.ofWF {y : MethodName} {ws ws' : List Cond} {rm : Room} {Pc : Array Value → State → Prop} {Qc : Array Value → State → Outcome → State → Prop} {mc ms : Nat} {free : Addr → Prop} {cc : ByteArray} {maxL : Nat} {ret : Option FieldType} {l : Launch}
    (hy : plainFor y = true) (hw : ws = Cond.code y cc maxL ret :: ws')
    (body : ∀ p e s m args below meth c s₁, BodyLoose p l y (headSpec ws rm) cc maxL ret e s m args below meth c s₁ → c.maxLocals = maxL → Pc args s →
      W p l e (headSpec ws rm).room s m args below meth c s.heap [] 0 0 (MQ below Qc args s mc ms free) (entryFrame m args maxL)) : Met l y ws rm Pc Qc mc ms free := by
  refine MetFree.of_bodySF (code := cc) (maxLocals := maxL) (ret := ret) hy ?_ ?_
  · intro args s m h hn
    obtain ⟨meth, c, h1, h2, h3, h4, h5, h6, -, -⟩ := Cond.code_spec hn (atoms_spec (ws := ws) h _ (by rw [hw]; exact List.mem_cons_self))
    exact ⟨meth, c, h1, h2, h3, h4, h5, h6⟩
  · intro p e s m args below meth c s₁ B hml hP _
    have hh0 : s₁.heap = s.heap := by rw [B.state]; rfl
    obtain ⟨t, a1, o, b1, b2, b3⟩ := body p e s m args below meth c s₁ B hml hP s₁ hh0 (Stand.of_body B)
    exact ⟨t, o, a1, b1, b2, ⟨b3.1, b3.2⟩⟩
theorem Sp.mkF {mt : MT} {av : List Value} {n : Nat} {I : MI} {R : MR} {Q : XQ} (hp : plainFor mt.1 = true) (hc : ∀ v ∈ av, v.category = 1) (hl : av.length ≤ mt.2.2.1)
    (h : ∀ (g : GX) (cx : CX), X g cx mt (xF g cx mt Q) (0, 0) 0 (xEn av mt.2.2.1) [] n I R) : Sp mt av n I R Q := by
  intro g l
  refine Met.ofWF (cc := mt.2.1) (maxL := mt.2.2.1) (ret := mt.2.2.2.1) hp rfl ?_
  intro p e s m args below meth c s₁ B hml hv
  obtain ⟨rfl, hR, hKV, hb, hKH⟩ := hv
  have hts := atoms_spec (ws := Cond.code mt.1 mt.2.1 mt.2.2.1 mt.2.2.2.1 :: XT) B.pre
  rw [lg_entry_eq]
  exact h g (p, l, e, s, m, _, below, meth, c) ⟨B.exec, B.bytes, B.returns, hml, findClass_of_methodNamed B.named, B.notSynchronized, fun w hw => hts w (List.mem_cons_of_mem _ hw), (name_of_methodNamed B.named B.method).1, hKV, hb, hKH⟩ s.heap [] _ hR va_S.rf (XL.entry g hc hl)
theorem Spd.mkF {mt : MT} {av : List Value} {I I' : MI} {R : MR} {r : Option Value} (hp : plainFor mt.1 = true) (hc : ∀ v ∈ av, v.category = 1) (hl : av.length ≤ mt.2.2.1) (h : ∀ (g : GX) (cx : CX), X g cx mt (xF g cx mt (fun r' n' I2 R2 => r' = r ∧ n' = 131 ∧ I2 = I' ∧ R2 = R)) (0, 0) 0 (xEn av mt.2.2.1) [] 131 I R) : Spd mt av I R r I' := Sp.mkF hp hc hl h
theorem xor64_lt (x : Int32) : x ^^^ nI 64 < 0 ↔ x < 0 := by
  have key : ∀ y : Int32, y < 0 ↔ y.toBitVec.msb = true := fun y => by
    rw [BitVec.msb_eq_toInt, decide_eq_true_eq, Int32.lt_iff_toInt_lt]
    exact Iff.rfl
  rw [key, key, Int32.toBitVec_xor, BitVec.msb_xor]
  have : (nI 64).toBitVec.msb = false := by decide
  rw [this, Bool.xor_false]
theorem fm_nn {x : Int32} (h0 : ¬ x < 0) (h : x.toInt < 2 ^ 30) : x - x / nI 64 * nI 64 = nI ((x.toInt + 64) % 64).toNat := by
  have h0' : 0 ≤ x.toInt := by
    have := Int32.not_lt.mp h0
    exact Int32.le_iff_toInt_le.mp this
  apply Int32.toInt_inj.mp
  rw [nI_toInt (n := ((x.toInt + 64) % 64).toNat) (by omega), rem_toInt, show (nI 64).toInt = 64 from rfl, Int.tmod_eq_emod_of_nonneg h0']
  omega
theorem fm_neg {x : Int32} (h0 : x < 0) (h : -64 ≤ x.toInt) : (x - x / nI 64 * nI 64).toInt = if x.toInt = -64 then 0 else x.toInt := by
  have h0' : x.toInt < 0 := Int32.lt_iff_toInt_lt.mp h0
  rw [rem_toInt, show (nI 64).toInt = 64 from rfl]
  have e : x.toInt = -(-x.toInt) := by omega
  rw [e, Int.neg_tmod, Int.tmod_eq_emod_of_nonneg (by omega)]
  split <;> omega
theorem fm_m1 {x : Int32} (h0 : x < 0) (h : -64 ≤ x.toInt) (hr : ¬ x - x / nI 64 * nI 64 = 0) : x - x / nI 64 * nI 64 + nI 64 = nI ((x.toInt + 64) % 64).toNat := by
  have h0' : x.toInt < 0 := Int32.lt_iff_toInt_lt.mp h0
  have e := fm_neg h0 h
  have e2 : x - x / nI 64 * nI 64 = x := by
    apply Int32.toInt_inj.mp
    rw [e]
    split
    · rename_i q
      exfalso
      apply hr
      apply Int32.toInt_inj.mp
      rw [e, if_pos q]
      rfl
    · rfl
  have h64 : ¬ x.toInt = -64 := fun q => hr (by apply Int32.toInt_inj.mp; rw [e, if_pos q]; rfl)
  rw [e2]
  apply Int32.toInt_inj.mp
  rw [nI_toInt (by omega), Jvm.Kit.i32_add (by rw [show (nI 64).toInt = 64 from rfl]; omega) (by rw [show (nI 64).toInt = 64 from rfl]; omega), show (nI 64).toInt = 64 from rfl]
  omega
theorem fm_m0 {x : Int32} (h0 : x < 0) (h : -64 ≤ x.toInt) (hr : x - x / nI 64 * nI 64 = 0) : x - x / nI 64 * nI 64 = nI ((x.toInt + 64) % 64).toNat := by
  have h0' : x.toInt < 0 := Int32.lt_iff_toInt_lt.mp h0
  have e := fm_neg h0 h
  rw [hr] at e
  have : (0 : Int32).toInt = 0 := rfl
  rw [this] at e
  split at e
  · rename_i q
    rw [hr, q]; rfl
  · omega
section CL
variable {I : MI} {R : MR}
theorem sp_floorMod {x : Int32} (h1 : -64 ≤ x.toInt) (h2 : x.toInt < 2 ^ 30) : Spd mJ9_floorMod_7cf53 [.int x, .int (nI 64)] I R (some (.int (nI ((x.toInt + 64) % 64).toNat))) I := by
  refine Spd.mkF (by decide +kernel) (by simp [Value.category]) (Nat.le_of_ble_eq_true rfl) (fun g cx => ?_)
  refine x_iload_n dJ9_floorMod_7cf53_0 rfl rfl ?_
  refine x_iload_n dJ9_floorMod_7cf53_1 rfl rfl ?_
  refine x_irem dJ9_floorMod_7cf53_2 (by decide) ?_
  refine x_istore_n dJ9_floorMod_7cf53_3 rfl (by decide) ?_
  refine x_iload_n dJ9_floorMod_7cf53_4 rfl rfl ?_
  refine x_iload_n dJ9_floorMod_7cf53_5 rfl rfl ?_
  refine x_ixor dJ9_floorMod_7cf53_6 ?_
  refine x_if_ge 18 dJ9_floorMod_7cf53_7 (by decide) (fun c7 => ?_) (fun c7 => ?_)
  · skip
    have hx : ¬ x < 0 := fun q => Int32.not_lt.mpr c7 ((xor64_lt x).mpr q)
    refine x_iload_n dJ9_floorMod_7cf53_18 rfl rfl ?_
    refine x_iret dJ9_floorMod_7cf53_19 rfl (by decide) (by decide) ?_
    first
      | exact ⟨by rw [fm_nn hx h2], rfl, rfl, rfl⟩
      | exact ⟨by rw [fm_m0 hx h1 c11], rfl, rfl, rfl⟩
      | exact ⟨by rw [fm_m1 hx h1 c11], rfl, rfl, rfl⟩
  · skip
    have hx : x < 0 := (xor64_lt x).mp (Int32.not_le.mp c7)
    refine x_iload_n dJ9_floorMod_7cf53_10 rfl rfl ?_
    refine x_if_eq 18 dJ9_floorMod_7cf53_11 (by decide) (fun c11 => ?_) (fun c11 => ?_)
    · skip
      refine x_iload_n dJ9_floorMod_7cf53_18 rfl rfl ?_
      refine x_iret dJ9_floorMod_7cf53_19 rfl (by decide) (by decide) ?_
      first
        | exact ⟨by rw [fm_nn hx h2], rfl, rfl, rfl⟩
        | exact ⟨by rw [fm_m0 hx h1 c11], rfl, rfl, rfl⟩
        | exact ⟨by rw [fm_m1 hx h1 c11], rfl, rfl, rfl⟩
    · skip
      refine x_iload_n dJ9_floorMod_7cf53_14 rfl rfl ?_
      refine x_iload_n dJ9_floorMod_7cf53_15 rfl rfl ?_
      refine x_iadd dJ9_floorMod_7cf53_16 ?_
      refine x_iret dJ9_floorMod_7cf53_17 rfl (by decide) (by decide) ?_
      first
        | exact ⟨by rw [fm_nn hx h2], rfl, rfl, rfl⟩
        | exact ⟨by rw [fm_m0 hx h1 c11], rfl, rfl, rfl⟩
        | exact ⟨by rw [fm_m1 hx h1 c11], rfl, rfl, rfl⟩
theorem sp_min (x y : Int32) : Spd mJ9_min_7cf53 [.int x, .int y] I R (some (.int (if x ≤ y then x else y))) I := by
  refine Spd.mkF (by decide +kernel) (by simp [Value.category]) (Nat.le_of_ble_eq_true rfl) (fun g cx => ?_)
  refine x_iload_n dJ9_min_7cf53_0 rfl rfl ?_
  refine x_iload_n dJ9_min_7cf53_1 rfl rfl ?_
  refine x_icmp_gt 9 dJ9_min_7cf53_2 (by decide) (fun c2 => ?_) (fun c2 => ?_)
  · skip
    refine x_iload_n dJ9_min_7cf53_9 rfl rfl ?_
    refine x_iret dJ9_min_7cf53_10 rfl (by decide) (by decide) ?_
    first
      | exact ⟨by rw [if_pos (Int32.not_lt.mp c2)], rfl, rfl, rfl⟩
      | exact ⟨by rw [if_neg (Int32.not_le.mpr c2)], rfl, rfl, rfl⟩
  · skip
    refine x_iload_n dJ9_min_7cf53_5 rfl rfl ?_
    refine x_goto 10 dJ9_min_7cf53_6 (by decide) ?_
    refine x_iret dJ9_min_7cf53_10 rfl (by decide) (by decide) ?_
    first
      | exact ⟨by rw [if_pos (Int32.not_lt.mp c2)], rfl, rfl, rfl⟩
      | exact ⟨by rw [if_neg (Int32.not_le.mpr c2)], rfl, rfl, rfl⟩
theorem sp_max (x y : Int32) : Spd mJ9_max_7cf53 [.int x, .int y] I R (some (.int (if y ≤ x then x else y))) I := by
  refine Spd.mkF (by decide +kernel) (by simp [Value.category]) (Nat.le_of_ble_eq_true rfl) (fun g cx => ?_)
  refine x_iload_n dJ9_max_7cf53_0 rfl rfl ?_
  refine x_iload_n dJ9_max_7cf53_1 rfl rfl ?_
  refine x_icmp_lt 9 dJ9_max_7cf53_2 (by decide) (fun c2 => ?_) (fun c2 => ?_)
  · skip
    refine x_iload_n dJ9_max_7cf53_9 rfl rfl ?_
    refine x_iret dJ9_max_7cf53_10 rfl (by decide) (by decide) ?_
    first
      | exact ⟨by rw [if_pos (Int32.not_lt.mp c2)], rfl, rfl, rfl⟩
      | exact ⟨by rw [if_neg (Int32.not_le.mpr c2)], rfl, rfl, rfl⟩
  · skip
    refine x_iload_n dJ9_max_7cf53_5 rfl rfl ?_
    refine x_goto 10 dJ9_max_7cf53_6 (by decide) ?_
    refine x_iret dJ9_max_7cf53_10 rfl (by decide) (by decide) ?_
    first
      | exact ⟨by rw [if_pos (Int32.not_lt.mp c2)], rfl, rfl, rfl⟩
      | exact ⟨by rw [if_neg (Int32.not_le.mpr c2)], rfl, rfl, rfl⟩
theorem ix_eq {x y : Int32} : (if x < 0 then nI 0 else if y ≤ x then nI 0 else nI 1) = bi (decide (0 ≤ x ∧ x < y)) := by
  by_cases h : x < 0
  · rw [if_pos h, decide_eq_false (fun q => Int32.not_lt.mpr q.1 h)]; rfl
  · rw [if_neg h]
    by_cases h2 : y ≤ x
    · rw [if_pos h2, decide_eq_false (fun q => Int32.not_lt.mpr h2 q.2)]; rfl
    · rw [if_neg h2, decide_eq_true ⟨Int32.not_lt.mp h, Int32.not_le.mp h2⟩]; rfl
theorem sp_isIndex (x y : Int32) : Spd mX5_isIndex [.int x, .int y] I R (some (.int (bi (decide (0 ≤ x ∧ x < y))))) I := by
  refine Spd.mk (by decide +kernel) (by simp [Value.category]) (Nat.le_of_ble_eq_true rfl) (fun g cx => ?_)
  refine x_iload_n dX5_isIndex_0 rfl rfl ?_
  refine' x_dia_if_lt 13 14 dX5_isIndex_1 (by decide) ?_ ?_ ?_; rotate_left 2
  · intro c1 k1
    refine x_iload_n dX5_isIndex_4 rfl rfl ?_
    refine x_iload_n dX5_isIndex_5 rfl rfl ?_
    refine' x_dia_icmp_ge 13 14 dX5_isIndex_6 (by decide) ?_ ?_ ?_; rotate_left 2
    · intro c6 k6
      refine x_iconst (nI 1) dX5_isIndex_9 (by decide) ?_
      refine x_goto 14 dX5_isIndex_10 (by decide) ?_
      exact k6
    · intro c6 k6
      refine x_iconst (nI 0) dX5_isIndex_13 (by decide) ?_
      exact k6
    exact k1
  · intro c1 k1
    refine x_iconst (nI 0) dX5_isIndex_13 (by decide) ?_
    exact k1
  refine x_eqtop ix_eq ?_
  refine x_zret dX5_isIndex_14 rfl (bi_n _) (by decide) (by decide) ?_
  exact ⟨rfl, rfl, rfl, rfl⟩
theorem sp_isPlace {p : Nat} (hp : p < 2 ^ 31) : Spd mX5_isPlace [.int (nI p)] I R (some (.int (bi (decide (p % 9 = 8))))) I := by
  refine Spd.mk (by decide +kernel) (by simp [Value.category]) (Nat.le_of_ble_eq_true rfl) (fun g cx => ?_)
  refine x_iload_n dX5_isPlace_0 rfl rfl ?_
  refine x_bipush (nI 9) dX5_isPlace_1 (by decide) ?_
  refine x_iremN dX5_isPlace_3 (by omega) (by omega) (by omega) ?_
  refine x_bipush (nI 8) dX5_isPlace_4 (by decide) ?_
  refine' x_dia_icmp_neN 13 14 dX5_isPlace_6 (by decide) (by omega) (by omega) ?_ ?_ ?_; rotate_left 2
  · intro c6 k6
    refine x_iconst (nI 1) dX5_isPlace_9 (by decide) ?_
    refine x_goto 14 dX5_isPlace_10 (by decide) ?_
    exact k6
  · intro c6 k6
    refine x_iconst (nI 0) dX5_isPlace_13 (by decide) ?_
    exact k6
  refine x_eqtop (y := bi (decide (p % 9 = 8))) (bi_ite _) ?_
  refine x_zret dX5_isPlace_14 rfl (bi_n _) (by decide) (by decide) ?_
  exact ⟨rfl, rfl, rfl, rfl⟩
end CL
