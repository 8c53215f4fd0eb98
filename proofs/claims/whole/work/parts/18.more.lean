section
variable {l : Launch} {G : Gc} {M : Md} {pc : Nat}
theorem Rep.new {h : AH} {t n : Nat} {g : List Nat} {U : State} {H H' : Heap} (k : Rep G h U H) (hz : H'.size = H.size + 1) (ho : ∀ q, q < H.size → H'[q]? = H[q]?) (hc : cOK G (nw h t n g) (hN h) U H') : Rep G (nw h t n g) U H' := by
  refine ⟨by rw [hz, k.1]; rfl, fun b => ?_⟩
  by_cases e : b = hN h
  · rw [e]; exact hc
  · have e1 : ¬ b = h.1 := e
    refine (k.2 b).congr ?_ ?_ ?_ ?_ ?_
    · simp [hT, nw, e1]
    · funext j; simp [hI, nw, e1]
    · funext j; simp [hR, nw, e1]
    · funext j; simp [hL, nw, e1]
    · rcases Nat.lt_or_ge b H.size with q | q
      · exact ho b q
      · have q2 : H.size + 1 ≤ b := by
          have := k.1
          omega
        rw [Array.getElem?_eq_none (by omega), Array.getElem?_eq_none (by omega)]
theorem tg_nw (h : AH) (t n : Nat) (g : List Nat) : tg (nw h t n g) (hN h) = t := by simp [tg, hT, nw, hN]
theorem ln_nw (h : AH) (t n : Nat) (g : List Nat) : ln (nw h t n g) (hN h) = n := by simp [ln, hT, nw, hN]
theorem vl_nw (h : AH) (t n : Nat) (g : List Nat) (kd j : Nat) : vl kd (nw h t n g) (hN h) j = dkv kd := by
  unfold vl dkv
  split
  · simp [hI, nw, hN]
  · simp [hR, nw, hN, va_rf]
  · simp [hL, nw, hN]
theorem sd_new {idx tag : Nat} {q : vw_C} (hd : decode (mC M) pc = .ok (.new idx, 3)) (hc : am_cl[tag]? = some q) (hw : Cond.classLink (mY M).cls idx q.1 ∈ gtbl) : Sd l G M pc (tz_new (pc + 3) tag q.2.2) := by
  intro Q K L st h hK hT
  obtain ⟨g, hT⟩ := hT
  refine AWp.of (h1 := nw h tag q.2.2 g) (Nat.le_succ _) (Nat.le_add_right _ _) ?_ (hK _ _ _ _ hT)
  intro p e R s m args below meth c h0 hf H locs cells slots QF ls hcx hp hn1 hm1 hl kk
  obtain ⟨hx, hb, hml, hown, hts, -, -, -, -, hR9, hKn, -⟩ := id hcx
  have hC := ci_ok tag q hc
  have hKc := hKn.1 tag q hc
  obtain ⟨p1, p2, p3, p4, p5, p6⟩ := hp
  have hn1' : hN h + 1 ≤ hN hf := hn1
  have hm1' : hM h + q.2.2 ≤ hM hf := hm1
  refine W.newcK hx hb hown (hts _ hw) (hts _ hC.2.2.2.1) (hts _ hC.2.2.2.2.1) rfl hd (by rw [hR9]; show cells + 1 ≤ hN hf - hN h0; omega) (by rw [hR9]; show slots + q.2.2 ≤ hM hf - hM h0; omega) hKc.2.1 p1.1 fun H1 kC hkC e1 z1 o1 => ?_
  rw [← p1.1] at o1 z1
  refine kk H1 locs (cells + 1) (slots + q.2.2) ls ⟨p1.new z1 o1 (cOK.obj (tg_nw _ _ _ _) hc (by have := hcx.2.2.2.2.2.2.2.2.2.2.2.2.2.1; omega) ?_), ⟨Nat.le_trans p2.1 (by omega), fun x h1 h2 => (o1 x (Nat.lt_of_lt_of_le h1 p2.1)).trans (p2.2.1 x h1 h2), p2.2.2⟩, ?_, ?_, ?_, ?_⟩ hl
  · refine (u_born (cty tag) hts hC.1 hKc hkC e1 hC.2.2.1).to fun j hj => ?_
    rw [vl_nw, hC.2.2.2.2.2.1 j hj]
  · show cells + 1 = hN h + 1 - hN h0; omega
  · show slots + q.2.2 = hM h + q.2.2 - hM h0; omega
  · show hN h0 ≤ hN h + 1; omega
  · show hM h0 ≤ hM h + q.2.2; omega
theorem sd_newa {t : Nat} {ty : FieldType} {atype : ArrayType} (hd : decode (mC M) pc = .ok (.newarray atype, 2)) (hy : aty t = some ty) (hat : newarray.typeOf atype = ty) (hnr : ∀ U c, va_RA U c ty → U.vm.findClass ("[" ++ ty.toString) = some c) (hdv : defaultValue ty = dkv (ek t)) (hcb : componentBytes ty ≤ 8) (hw : Cond.arrayClass ty ∈ gtbl) : Sd l G M pc (tz_newa (pc + 2) t) := by
  intro Q K L st h hK hT
  unfold tz_newa at hT
  split at hT
  · rename_i x r
    obtain ⟨hx0, hx1, g, hT⟩ := hT
    refine AWp.of (h1 := nw h t x.toNatClampNeg g) (Nat.le_succ _) (Nat.le_add_right _ _) ?_ (hK _ _ _ _ hT)
    intro p e R s m args below meth c h0 hf H locs cells slots QF ls hcx hp hn1 hm1 hl kk
    obtain ⟨hx, hb, hml, hown, hts, -, -, -, -, hR9, hKn, -⟩ := id hcx
    obtain ⟨p1, p2, p3, p4, p5, p6⟩ := hp
    have hn1' : hN h + 1 ≤ hN hf := hn1
    have hm1' : hM h + x.toNatClampNeg ≤ hM hf := hm1
    subst hat
    refine va_newaK hx hb (hts _ hw) rfl hd rfl hx0 rfl (by have := Nat.mul_le_mul hx1 hcb; omega) (by rw [hR9]; show cells + 1 ≤ hN hf - hN h0; omega) (by rw [hR9]; show slots + x.toNatClampNeg ≤ hM hf - hM h0; omega) p1.1 fun H1 cA e1 z1 o1 hAr hNm => ?_
    rw [← p1.1] at o1 z1
    have hcA : cA = G.2.1 t := Option.some.inj (hNm.symm.trans (hnr _ _ (hKn.2.1 t _ hy).2))
    subst hcA
    refine kk H1 locs (cells + 1) (slots + x.toNatClampNeg) ls ⟨p1.new z1 o1 (cOK.arr (tg_nw _ _ _ _) hy (by have := hcx.2.2.2.2.2.2.2.2.2.2.2.2.2.1; omega) ?_), ⟨Nat.le_trans p2.1 (by omega), fun x h1 h2 => (o1 x (Nat.lt_of_lt_of_le h1 p2.1)).trans (p2.2.1 x h1 h2), p2.2.2⟩, ?_, ?_, ?_, ?_⟩ hl
    · rw [e1, ln_nw, hdv]
      congr 2
      funext j
      rw [vl_nw]
    · show cells + 1 = hN h + 1 - hN h0; omega
    · show slots + x.toNatClampNeg = hM h + x.toNatClampNeg - hM h0; omega
    · show hN h0 ≤ hN h + 1; omega
    · show hM h0 ≤ hM h + x.toNatClampNeg; omega
  · exact hT.elim
theorem sd_anew {idx t ci : Nat} {q : vw_C} (hd : decode (mC M) pc = .ok (.anewarray idx, 3)) (hc : am_cl[ci]? = some q) (hy : aty t = some (.object q.1)) (hek : ek t = 1) (hw : Cond.classLink (mY M).cls idx q.1 ∈ gtbl) (ho : Cond.arrayOver (.object q.1) ∈ tables_1) : Sd l G M pc (tz_newa (pc + 3) t) := by
  intro Q K L st h hK hT
  unfold tz_newa at hT
  split at hT
  · rename_i x r
    obtain ⟨hx0, hx1, g, hT⟩ := hT
    refine AWp.of (h1 := nw h t x.toNatClampNeg g) (Nat.le_succ _) (Nat.le_add_right _ _) ?_ (hK _ _ _ _ hT)
    intro p e R s m args below meth c h0 hf H locs cells slots QF ls hcx hp hn1 hm1 hl kk
    obtain ⟨hx, hb, hml, hown, hts, -, -, -, -, hR9, hKn, -⟩ := id hcx
    obtain ⟨p1, p2, p3, p4, p5, p6⟩ := hp
    have hn1' : hN h + 1 ≤ hN hf := hn1
    have hm1' : hM h + x.toNatClampNeg ≤ hM hf := hm1
    have hAO : va_AO q.1 s := hKn.2.2.1 _ ho rfl
    refine W.anew hx hb hown (hts _ hw) (va_AO.use hAO) rfl hd rfl hx0 (by omega) (by rw [hR9]; show cells + 1 ≤ hN hf - hN h0; omega) (by rw [hR9]; show slots + x.toNatClampNeg ≤ hM hf - hM h0; omega) fun cA kA comp f1 f2 f3 f4 => ?_
    generalize hH1 : H.push ({ cls := cA, slots := Array.replicate x.toNatClampNeg .null, vm := .none } : Cell) = H1
    have z1 : H1.size = H.size + 1 := by rw [← hH1, Array.size_push]
    have e1 : H1[H.size]? = some (arrV cA x.toNatClampNeg (fun _ => .null)) := by rw [← hH1, Array.getElem?_push_size, ← arrV_new]
    have o1 : ∀ z, z < H.size → H1[z]? = H[z]? := fun z hz => by rw [← hH1, Array.getElem?_push, if_neg (Nat.ne_of_lt hz)]
    have hcA : cA = G.2.1 t := by
      obtain ⟨_, _, -, -, -, g4⟩ := (hKn.2.1 t _ hy).2
      exact Option.some.inj (f1.symm.trans g4)
    subst hcA
    rw [p1.1] at e1
    rw [show H.size = hN h from p1.1]
    refine kk H1 locs (cells + 1) (slots + x.toNatClampNeg) ls ⟨p1.new z1 o1 (cOK.arr (tg_nw _ _ _ _) hy (by have := hcx.2.2.2.2.2.2.2.2.2.2.2.2.2.1; omega) ?_), ⟨Nat.le_trans p2.1 (by omega), fun x h1 h2 => (o1 x (Nat.lt_of_lt_of_le h1 p2.1)).trans (p2.2.1 x h1 h2), p2.2.2⟩, ?_, ?_, ?_, ?_⟩ hl
    · rw [e1, ln_nw]
      congr 2
      funext j
      rw [vl_nw, hek]
      rfl
    · show cells + 1 = hN h + 1 - hN h0; omega
    · show slots + x.toNatClampNeg = hM h + x.toNatClampNeg - hM h0; omega
    · show hN h0 ≤ hN h + 1; omega
    · show hM h0 ≤ hM h + x.toNatClampNeg; omega
  · exact hT.elim
theorem cat_le : ∀ (r : List Value), (r.map fun v => v.category).sum ≤ 2 * r.length
  | [] => by simp
  | v :: r => by
    have h1 := cat_le r
    rcases lv_cat v with e | e <;> simp [e] <;> omega
theorem sd_oinit {idx : Nat} (hd : decode (mC M) pc = .ok (.invokespecial idx, 3)) (h1 : Cond.methodLink (mY M).cls idx Lib.objectInit ∈ gtbl) (h2 : Cond.instanceMethod Lib.objectInit ∈ gtbl) (h3 : Cond.code Lib.objectInit ⟨#[0xb1]⟩ 1 none ∈ gtbl) (hf : 1 ≤ mF M) (ho : 20 ≤ mO M) : Sd l G M pc (tz_oinit (pc + 3)) := by
  intro Q K L st h hK hT
  unfold tz_oinit at hT
  split at hT
  · rename_i a r
    obtain ⟨hr, hT⟩ := hT
    refine AWp.of (by exact Nat.le_refl _) (by exact Nat.le_refl _) ?_ (hK _ _ _ _ hT)
    intro p e R s m args below meth c h0 hf' H locs cells slots QF ls hcx hp _ _ hl kk
    obtain ⟨hx, hb, hml, hown, hts, -, -, -, -, hR9, hKn, -⟩ := id hcx
    have hc8 := cat_le r
    refine W.objInit hx hb hown (hts _ h1) (hts _ h2) (hts _ h3) rfl (by show ls.size = c.maxLocals; rw [hl.1, hml]) rfl hd (by rw [hR9]; exact hf) (by rw [hR9]; have := lv_room (m := m) (pc := pc) (ls := ls) (rest := Value.ref a :: r) (st := r) (by omega); show _ ≤ mO M; omega) (kk _ _ _ _ _ hp hl)
  · exact hT.elim
/-! ends -/
theorem sd_iret (hd : decode (mC M) pc = .ok (.ireturn, 1)) (hr : mR M = some .int) : Sd l G M pc tz_iret := by
  intro Q K L st h hK hT
  unfold tz_iret at hT
  split at hT
  · rename_i x
    refine ⟨_, h, ⟨Nat.le_refl _, Nat.le_refl _, ?_⟩, hT⟩
    intro p e R s m args below meth c h0 hcx H locs cells slots ls hp hl
    obtain ⟨p1, p2, rfl, rfl, p5, p6⟩ := hp
    exact vx_ret (W.iret hcx.1 hcx.2.1 (hcx.2.2.2.2.2.1.trans hr) (fun t ht hW => ⟨⟨_, rfl, rfl, by rw [ht]; exact p1.moved hW.alike⟩, p2.F ht⟩) p2.2.2 hd hcx.2.2.2.2.2.2.1)
  · exact hT.elim
theorem sd_zret (hd : decode (mC M) pc = .ok (.ireturn, 1)) (hr : mR M = some .boolean) : Sd l G M pc tz_zret := by
  intro Q K L st h hK hT
  unfold tz_zret at hT
  split at hT
  · rename_i x
    obtain ⟨h01, hT⟩ := hT
    refine ⟨_, h, ⟨Nat.le_refl _, Nat.le_refl _, ?_⟩, hT⟩
    intro p e R s m args below meth c h0 hcx H locs cells slots ls hp hl
    obtain ⟨p1, p2, rfl, rfl, p5, p6⟩ := hp
    exact vx_ret (W.zret hcx.1 hcx.2.1 (hcx.2.2.2.2.2.1.trans hr) (by rcases h01 with rfl | rfl <;> rfl) (fun t ht hW => ⟨⟨_, rfl, rfl, by rw [ht]; exact p1.moved hW.alike⟩, p2.F ht⟩) p2.2.2 hd hcx.2.2.2.2.2.2.1)
  · exact hT.elim
theorem sd_lret (hd : decode (mC M) pc = .ok (.lreturn, 1)) (hr : mR M = some .long) : Sd l G M pc tz_lret := by
  intro Q K L st h hK hT
  unfold tz_lret at hT
  split at hT
  · rename_i x
    refine ⟨_, h, ⟨Nat.le_refl _, Nat.le_refl _, ?_⟩, hT⟩
    intro p e R s m args below meth c h0 hcx H locs cells slots ls hp hl
    obtain ⟨p1, p2, rfl, rfl, p5, p6⟩ := hp
    exact vx_ret (W.lret hcx.1 hcx.2.1 (hcx.2.2.2.2.2.1.trans hr) (fun t ht hW => ⟨⟨_, rfl, rfl, by rw [ht]; exact p1.moved hW.alike⟩, p2.F ht⟩) p2.2.2 hd (hlocks := hcx.2.2.2.2.2.2.1))
  · exact hT.elim
theorem sd_dret (hd : decode (mC M) pc = .ok (.dreturn, 1)) (hr : mR M = some .double) : Sd l G M pc tz_dret := by
  intro Q K L st h hK hT
  unfold tz_dret at hT
  split at hT
  · rename_i x
    refine ⟨_, h, ⟨Nat.le_refl _, Nat.le_refl _, ?_⟩, hT⟩
    intro p e R s m args below meth c h0 hcx H locs cells slots ls hp hl
    obtain ⟨p1, p2, rfl, rfl, p5, p6⟩ := hp
    exact vx_ret (W.dret hcx.1 hcx.2.1 (hcx.2.2.2.2.2.1.trans hr) (fun t ht hW => ⟨⟨_, rfl, rfl, by rw [ht]; exact p1.moved hW.alike⟩, p2.F ht⟩) p2.2.2 hd (hlocks := hcx.2.2.2.2.2.2.1))
  · exact hT.elim
theorem sd_aret (hd : decode (mC M) pc = .ok (.areturn, 1)) {rt : FieldType} (hr : mR M = some rt) (hrt : (∃ n, rt = .object n) ∨ ∃ t, rt = .array t) : Sd l G M pc tz_aret := by
  intro Q K L st h hK hT
  unfold tz_aret at hT
  split at hT
  · rename_i v
    obtain ⟨hv, hT⟩ := hT
    refine ⟨_, h, ⟨Nat.le_refl _, Nat.le_refl _, ?_⟩, hT⟩
    intro p e R s m args below meth c h0 hcx H locs cells slots ls hp hl
    obtain ⟨p1, p2, rfl, rfl, p5, p6⟩ := hp
    have hv' : v = .null ∨ ∃ a, v = .ref a := by cases v <;> first | exact hv.elim | exact Or.inl rfl | exact Or.inr ⟨_, rfl⟩
    exact vx_ret (W.aret hcx.1 hcx.2.1 (hcx.2.2.2.2.2.1.trans hr) hrt hv' (fun t ht hW => ⟨⟨_, rfl, rfl, by rw [ht]; exact p1.moved hW.alike⟩, p2.F ht⟩) p2.2.2 hd (hlocks := hcx.2.2.2.2.2.2.1))
  · exact hT.elim
theorem sd_vret (hd : decode (mC M) pc = .ok (.return_, 1)) (hr : mR M = none) : Sd l G M pc tz_vret := by
  intro Q K L st h hK hT
  unfold tz_vret at hT
  split at hT
  · refine ⟨_, h, ⟨Nat.le_refl _, Nat.le_refl _, ?_⟩, hT⟩
    intro p e R s m args below meth c h0 hcx H locs cells slots ls hp hl
    obtain ⟨p1, p2, rfl, rfl, p5, p6⟩ := hp
    exact vx_ret (W.vret hcx.1 hcx.2.1 (hcx.2.2.2.2.2.1.trans hr) (fun t ht hW => ⟨⟨_, rfl, rfl, by rw [ht]; exact p1.moved hW.alike⟩, p2.F ht⟩) p2.2.2 hd (hlocks := hcx.2.2.2.2.2.2.1))
  · exact hT.elim
theorem Rep.nx {h : AH} {U V : State} {H H' : Heap} (k : Rep G h U H) (hv : U.vm.Alike V.vm) (hz : H'.size = H.size + 1) (ho : ∀ q, q < H.size → H'[q]? = H[q]?) : Rep G (nx h) V H' := by
  refine ⟨by rw [hz, k.1]; rfl, fun b => ?_⟩
  rcases Nat.lt_or_ge b H.size with q | q
  · exact ((k.2 b).moved hv).congr rfl rfl rfl rfl (ho b q)
  · have hn : H[b]? = none := Array.getElem?_eq_none q
    refine ⟨fun q' hq => ?_, fun ty hy => ?_, fun t => ?_⟩
    · obtain ⟨-, cell, e, -⟩ := (k.2 b).1 q' hq
      rw [hn] at e; cases e
    · have e := ((k.2 b).2.1 ty hy).2
      rw [hn] at e; cases e
    · obtain ⟨-, scr, e, -⟩ := (k.2 b).2.2 t
      rw [hn] at e; cases e
theorem sd_throwS {cls text : String} {names : List String} {ik is ic : Nat} (hcls : Bundle.fit cls = true) (hnames : ∀ n ∈ names, Bundle.fit n = true) (hk : Cond.classLink (mY M).cls ik cls ∈ gtbl) (hini : Cond.initialized cls ∈ gtbl) (hstr : Cond.stringRef (mY M).cls is text ∈ tables_1)
    (hat : ∀ w ∈ vx_atS (mY M).cls ic cls names, w ∈ gtbl ∨ (w ∈ tables_1 ∧ nwk w = true ∧ w.onTables = true)) (hgood : ∀ w ∈ Cond.classLink (mY M).cls ik cls :: Cond.initialized cls :: vx_atS (mY M).cls ic cls names, vx_ot w = true)
    (d0 : decode (mC M) pc = .ok (.new ik, 3)) (d3 : decode (mC M) (pc + 3) = .ok (.dup, 1)) (d4 : decode (mC M) (pc + 4) = .ok (.ldc is, 2)) (d6 : decode (mC M) (pc + 6) = .ok (.invokespecial ic, 3)) (d9 : decode (mC M) (pc + 9) = .ok (.athrow, 1))
    (hh : mH M = []) (hf : names.length + 3 < mF M) (ho : 8 + (13 * (names.length + 1) + 43) ≤ mO M) : Sd l G M pc (tz_throw cls) := by
  intro Q K L st h hK hT
  obtain ⟨hst, hT⟩ := hT
  refine ⟨_, nx h, ⟨Nat.le_succ _, Nat.le_add_right _ _, ?_⟩, hT⟩
  intro p e R s m args below meth c h0 hcx H locs cells slots ls hp hl
  obtain ⟨hx, hb, hml, hown, hts, -, hlk, -, htab, hR9, hKn, hZ, -, -, htr⟩ := hcx
  obtain ⟨p1, p2, rfl, rfl, p5, p6⟩ := hp
  obtain ⟨sa, hsa⟩ := hKn.2.2.2.1 _ _ _ hstr
  have hc8 := cat_le st
  have e1 : hN (nx h) = hN h + 1 := rfl
  have e2 : hM (nx h) = hM h + 6 := rfl
  refine vz_throwS hx hb htr (A := gA G) hown hcls hnames (hts _ hk) (hts _ hini) hsa (fun w hw => ?_) hgood hZ.1 hZ.2 p2 (by rw [hl.1, hml]) d0 d3 d4 d6 d9 (fun x hx => ?_) (by rw [hR9]; exact hf) (by rw [hR9]; show _ ≤ mO M; omega) (by rw [hR9]; show _ ≤ hN (nx h) - hN h0; omega) (by rw [hR9]; show _ ≤ hM (nx h) - hM h0; omega) hlk (fun t hv hz hq => ⟨⟨rfl, p1.nx hv hz hq⟩, ?_⟩) p2.2.2 (by omega) (by omega)
  · rcases hat w hw with g | ⟨g1, g2, g3⟩
    · exact hts w g
    · exact va_Nw.use g3 (hKn.2.2.1 w g1 g2)
  · rw [htab, hh] at hx
    cases hx
  · exact ⟨by have := p2.1; omega, fun q h1 h2 => by rw [hq q (Nat.lt_of_lt_of_le h1 p2.1)]; exact p2.2.1 q h1 h2⟩
theorem sd_throwSW {cls text : String} {names : List String} {ik is ic : Nat} (hcls : Bundle.fit cls = true) (hnames : ∀ n ∈ names, Bundle.fit n = true) (hk : Cond.classLink (mY M).cls ik cls ∈ gtbl) (hini : Cond.initialized cls ∈ gtbl) (hstr : Cond.stringRef (mY M).cls is text ∈ tables_1)
    (hat : ∀ w ∈ vx_atS (mY M).cls ic cls names, w ∈ gtbl ∨ (w ∈ tables_1 ∧ nwk w = true ∧ w.onTables = true)) (hgood : ∀ w ∈ Cond.classLink (mY M).cls ik cls :: Cond.initialized cls :: vx_atS (mY M).cls ic cls names, vx_ot w = true)
    (d0 : decode (mC M) pc = .ok (.new ik, 3)) (d3 : decode (mC M) (pc + 3) = .ok (.dup, 1)) (d4 : decode (mC M) (pc + 4) = .ok (.ldc_w is, 3)) (d6 : decode (mC M) (pc + 7) = .ok (.invokespecial ic, 3)) (d9 : decode (mC M) (pc + 10) = .ok (.athrow, 1))
    (hh : mH M = []) (hf : names.length + 3 < mF M) (ho : 8 + (13 * (names.length + 1) + 43) ≤ mO M) : Sd l G M pc (tz_throw cls) := by
  intro Q K L st h hK hT
  obtain ⟨hst, hT⟩ := hT
  refine ⟨_, nx h, ⟨Nat.le_succ _, Nat.le_add_right _ _, ?_⟩, hT⟩
  intro p e R s m args below meth c h0 hcx H locs cells slots ls hp hl
  obtain ⟨hx, hb, hml, hown, hts, -, hlk, -, htab, hR9, hKn, hZ, -, -, htr⟩ := hcx
  obtain ⟨p1, p2, rfl, rfl, p5, p6⟩ := hp
  obtain ⟨sa, hsa⟩ := hKn.2.2.2.1 _ _ _ hstr
  have hc8 := cat_le st
  have e1 : hN (nx h) = hN h + 1 := rfl
  have e2 : hM (nx h) = hM h + 6 := rfl
  refine vz_throwSW hx hb htr (A := gA G) hown hcls hnames (hts _ hk) (hts _ hini) hsa (fun w hw => ?_) hgood hZ.1 hZ.2 p2 (by rw [hl.1, hml]) d0 d3 d4 d6 d9 (fun x hx => ?_) (by rw [hR9]; exact hf) (by rw [hR9]; show _ ≤ mO M; omega) (by rw [hR9]; show _ ≤ hN (nx h) - hN h0; omega) (by rw [hR9]; show _ ≤ hM (nx h) - hM h0; omega) hlk (fun t hv hz hq => ⟨⟨rfl, p1.nx hv hz hq⟩, ?_⟩) p2.2.2 (by omega) (by omega)
  · rcases hat w hw with g | ⟨g1, g2, g3⟩
    · exact hts w g
    · exact va_Nw.use g3 (hKn.2.2.1 w g1 g2)
  · rw [htab, hh] at hx
    cases hx
  · exact ⟨by have := p2.1; omega, fun q h1 h2 => by rw [hq q (Nat.lt_of_lt_of_le h1 p2.1)]; exact p2.2.1 q h1 h2⟩
end
