
/-! calls that make nothing -/
section XZ
variable {g : GX} {cx : CX} {mt : MT} {F : State → Prop} {cs : Nat × Nat} {pc : Nat} {ls : List (Option Value)} {st : List Value} {I : MI} {R : MR}
abbrev xNo (mt' : MT) : Prop := mt'.2.2.2.2.1.cells = 0 ∧ mt'.2.2.2.2.1.slots = 0
abbrev xFit (mt : MT) (cs : Nat × Nat) : Prop := cs.1 ≤ mt.2.2.2.2.1.cells ∧ cs.2 ≤ mt.2.2.2.2.1.slots
theorem xNo_cs {mt' : MT} (h : xNo mt') : (cs.1 + mt'.2.2.2.2.1.cells, cs.2 + mt'.2.2.2.2.1.slots) = cs := by obtain ⟨h1, h2⟩ := h; rw [h1, h2]; rfl
theorem xNo_fit {mt' : MT} (h : xNo mt') (hf : xFit mt cs) : cs.1 + mt'.2.2.2.2.1.cells ≤ mt.2.2.2.2.1.cells ∧ cs.2 + mt'.2.2.2.2.1.slots ≤ mt.2.2.2.2.1.slots := by obtain ⟨h1, h2⟩ := h; rw [h1, h2]; exact hf
theorem x_callSd0 {mt' : MT} {idx : Nat} {av : List Value} {st0 : List Value} {r : Option Value} {I' : MI} (hsp : Spd mt' av I R r I') (hm : xMS mt') (hl : Cond.methodLink mt.1.cls idx mt'.1 ∈ XT) (hroom : xRoom mt mt') (hd : decode mt.2.1 pc = .ok (.invokestatic idx, 3)) (hst : st0 = av.reverse ++ st) (hn : av.length = mt'.2.2.2.2.2) (hcat : (st.map fun v => v.category).sum ≤ 8) (h0 : xNo mt') (hf : xFit mt cs) (k : X g cx mt F cs (pc + 3) ls (r.toList ++ st) 131 I' R) : X g cx mt F cs pc ls st0 131 I R :=
  x_callSd hsp hm hl hroom hd hst hn hcat (xNo_fit h0 hf) (by rw [xNo_cs h0]; exact k)
theorem x_callSNd0 {mt' : MT} {idx : Nat} {host : String} {av : List Value} {st0 : List Value} {r : Option Value} {I' : MI} (hsp : Spd mt' av I R r I') (hm : xMS mt') (hl : Cond.methodLinkNest mt.1.cls idx mt'.1 host ∈ xNW) (hroom : xRoom mt mt') (hd : decode mt.2.1 pc = .ok (.invokestatic idx, 3)) (hst : st0 = av.reverse ++ st) (hn : av.length = mt'.2.2.2.2.2) (hcat : (st.map fun v => v.category).sum ≤ 8) (h0 : xNo mt') (hf : xFit mt cs) (k : X g cx mt F cs (pc + 3) ls (r.toList ++ st) 131 I' R) : X g cx mt F cs pc ls st0 131 I R :=
  x_callSNd hsp hm hl hroom hd hst hn hcat (xNo_fit h0 hf) (by rw [xNo_cs h0]; exact k)
theorem x_callVd0 {mt' : MT} {idx b c : Nat} {av : List Value} {st0 : List Value} {r : Option Value} {I' : MI} (hsp : Spd mt' (.ref b :: av) I R r I') (hm : xMV mt' c) (hl : Cond.methodLink mt.1.cls idx mt'.1 ∈ XT) (hroom : xRoom mt mt') (hd : decode mt.2.1 pc = .ok (.invokevirtual idx, 3)) (hk : xkd b = c) (hb : b < 131) (hst : st0 = av.reverse ++ .ref b :: st) (hn : av.length = mt'.2.2.2.2.2) (hcat : (st.map fun v => v.category).sum ≤ 8) (h0 : xNo mt') (hf : xFit mt cs) (k : X g cx mt F cs (pc + 3) ls (r.toList ++ st) 131 I' R) : X g cx mt F cs pc ls st0 131 I R :=
  x_callVd hsp hm hl hroom hd hk hb hst hn hcat (xNo_fit h0 hf) (by rw [xNo_cs h0]; exact k)
end XZ
