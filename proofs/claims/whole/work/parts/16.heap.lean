section
variable {l : Launch} {G : Gc} {M : Md} {pc : Nat}
theorem u2_ne {α : Type} {f : Nat → Nat → α} {a k b : Nat} {x : α} (h : b ≠ a) : u2 f a k x b = f b := by
  funext j
  simp [u2, h]
theorem u2_same {α : Type} (f : Nat → Nat → α) (a k j : Nat) (x : α) : u2 f a k x a j = if j = k then x else f a j := by simp [u2]
theorem vl_sI {t k : Nat} (hk : ck t k = 0) (h : AH) (a : Nat) (x : Int32) (j : Nat) : updV (fun j => vl (ck t j) h a j) k (.int x) j = vl (ck t j) (sI h a k x) a j := by
  unfold updV
  by_cases e : j = k
  · subst e; simp [hk, vl, hI, sI, u2_same]
  · simp [e, vl, hI, hR, hL, sI, u2_same]
theorem vl_sR {t k : Nat} (hk : ck t k = 1) (h : AH) (a : Nat) (x : Option Nat) (j : Nat) : updV (fun j => vl (ck t j) h a j) k (va_rf x) j = vl (ck t j) (sR h a k x) a j := by
  unfold updV
  by_cases e : j = k
  · subst e; simp [hk, vl, hR, sR, u2_same]
  · simp [e, vl, hI, hR, hL, sR, u2_same]
theorem vl_sL {t k : Nat} (hk : ck t k = 2) (h : AH) (a : Nat) (x : Int64) (j : Nat) : updV (fun j => vl (ck t j) h a j) k (.long x) j = vl (ck t j) (sL h a k x) a j := by
  unfold updV
  by_cases e : j = k
  · subst e; simp [hk, vl, hL, sL, u2_same]
  · simp [e, vl, hI, hR, hL, sL, u2_same]
/-- an object's cell behind a store -/
theorem cOK.obj {h' : AH} {a tag : Nat} {q : vw_C} {U : State} {H : Heap} (ht : tg h' a = tag) (hc : am_cl[tag]? = some q) (hg : gB G ≤ a) (ho : t_OB a (G.1.1 tag) q.2.2 (G.1.2 tag) H (fun k => vl (ck tag k) h' a k)) : cOK G h' a U H := by
  have h8 := am_aty hc
  refine ⟨fun q' hq => ?_, fun ty hy => ?_, fun t => ?_⟩
  · rw [ht] at hq ⊢
    cases hc.symm.trans hq
    exact ⟨hg, ho⟩
  · rw [ht] at hy
    have := aty_ge hy
    omega
  · omega
theorem cOK.arr {h' : AH} {a tag : Nat} {ty : FieldType} {U : State} {H : Heap} (ht : tg h' a = tag) (hc : aty tag = some ty) (hg : gB G ≤ a) (ho : H[a]? = some (arrV (G.2.1 tag) (ln h' a) (fun k => vl (ek tag) h' a k))) : cOK G h' a U H := by
  have h8 := aty_ge hc
  refine ⟨fun q' hq => ?_, fun ty' hy => ?_, fun t => ?_⟩
  · rw [ht] at hq
    have := am_aty hq
    omega
  · rw [ht]
    exact ⟨hg, ho⟩
  · omega
theorem sd_puti {idx tag k : Nat} {q : vw_C} (hd : decode (mC M) pc = .ok (.putfield idx, 3)) (hc : am_cl[tag]? = some q) (hk : k < q.2.2) (hw : Cond.fieldLink (mY M).cls idx q.1 (q.2.1 k).2.1 (q.2.1 k).2.2.1 ∈ gtbl) (hty : cty tag k = .int) (hck : ck tag k = 0)
    (hfin : (q.2.1 k).2.2.2 = false ∨ ((q.2.1 k).2.2.2 = true ∧ (mY M).name = "<init>" ∧ q.1 = (mY M).cls)) : Sd l G M pc (tz_puti (pc + 3) tag k) := by
  intro Q K L st h hK hT
  unfold tz_puti at hT
  split at hT
  · rename_i x a r
    obtain ⟨ht, hT⟩ := hT
    refine AWp.of (by exact Nat.le_refl _) (by exact Nat.le_refl _) ?_ (hK _ _ _ _ hT)
    intro p e R s m args below meth c h0 hf H locs cells slots QF ls hcx hp _ _ hl kk
    refine W_put hcx hp hd hc hk hw ht (by rw [hty]; rfl) (by rw [hty]; rfl) hfin fun H' locs' ho hg hz hoq hS => ?_
    refine kk H' locs' cells slots ls ⟨hp.1.upd hz rfl hoq (fun b hb => ⟨rfl, u2_ne hb, rfl, rfl⟩) (cOK.obj ht hc hg (ho.to fun j _ => vl_sI hck h a x j)), hS, hp.2.2⟩ hl
  · exact hT.elim
theorem sd_putz {idx tag k : Nat} {q : vw_C} (hd : decode (mC M) pc = .ok (.putfield idx, 3)) (hc : am_cl[tag]? = some q) (hk : k < q.2.2) (hw : Cond.fieldLink (mY M).cls idx q.1 (q.2.1 k).2.1 (q.2.1 k).2.2.1 ∈ gtbl) (hty : cty tag k = .boolean) (hck : ck tag k = 0)
    (hfin : (q.2.1 k).2.2.2 = false ∨ ((q.2.1 k).2.2.2 = true ∧ (mY M).name = "<init>" ∧ q.1 = (mY M).cls)) : Sd l G M pc (tz_putz (pc + 3) tag k) := by
  intro Q K L st h hK hT
  unfold tz_putz at hT
  split at hT
  · rename_i x a r
    obtain ⟨ht, hx01, hT⟩ := hT
    refine AWp.of (by exact Nat.le_refl _) (by exact Nat.le_refl _) ?_ (hK _ _ _ _ hT)
    intro p e R s m args below meth c h0 hf H locs cells slots QF ls hcx hp _ _ hl kk
    refine W_put hcx hp hd hc hk hw ht (by rw [hty]; rcases hx01 with rfl | rfl <;> rfl) (by rw [hty]; rcases hx01 with rfl | rfl <;> rfl) hfin fun H' locs' ho hg hz hoq hS => ?_
    refine kk H' locs' cells slots ls ⟨hp.1.upd hz rfl hoq (fun b hb => ⟨rfl, u2_ne hb, rfl, rfl⟩) (cOK.obj ht hc hg (ho.to fun j _ => vl_sI hck h a x j)), hS, hp.2.2⟩ hl
  · exact hT.elim
theorem sd_putl {idx tag k : Nat} {q : vw_C} (hd : decode (mC M) pc = .ok (.putfield idx, 3)) (hc : am_cl[tag]? = some q) (hk : k < q.2.2) (hw : Cond.fieldLink (mY M).cls idx q.1 (q.2.1 k).2.1 (q.2.1 k).2.2.1 ∈ gtbl) (hty : cty tag k = .long) (hck : ck tag k = 2)
    (hfin : (q.2.1 k).2.2.2 = false ∨ ((q.2.1 k).2.2.2 = true ∧ (mY M).name = "<init>" ∧ q.1 = (mY M).cls)) : Sd l G M pc (tz_putl (pc + 3) tag k) := by
  intro Q K L st h hK hT
  unfold tz_putl at hT
  split at hT
  · rename_i x a r
    obtain ⟨ht, hT⟩ := hT
    refine AWp.of (by exact Nat.le_refl _) (by exact Nat.le_refl _) ?_ (hK _ _ _ _ hT)
    intro p e R s m args below meth c h0 hf H locs cells slots QF ls hcx hp _ _ hl kk
    refine W_put hcx hp hd hc hk hw ht (by rw [hty]; rfl) (by rw [hty]; rfl) hfin fun H' locs' ho hg hz hoq hS => ?_
    refine kk H' locs' cells slots ls ⟨hp.1.upd hz rfl hoq (fun b hb => ⟨rfl, rfl, rfl, u2_ne hb⟩) (cOK.obj ht hc hg (ho.to fun j _ => vl_sL hck h a x j)), hS, hp.2.2⟩ hl
  · exact hT.elim
theorem sd_putr {idx tag k : Nat} {q : vw_C} (hd : decode (mC M) pc = .ok (.putfield idx, 3)) (hc : am_cl[tag]? = some q) (hk : k < q.2.2) (hw : Cond.fieldLink (mY M).cls idx q.1 (q.2.1 k).2.1 (q.2.1 k).2.2.1 ∈ gtbl) (hty : (∃ C, cty tag k = .object C) ∨ ∃ t, cty tag k = .array t) (hck : ck tag k = 1)
    (hfin : (q.2.1 k).2.2.2 = false ∨ ((q.2.1 k).2.2.2 = true ∧ (mY M).name = "<init>" ∧ q.1 = (mY M).cls)) : Sd l G M pc (tz_putr (pc + 3) tag k) := by
  intro Q K L st h hK hT
  unfold tz_putr at hT
  split at hT
  · rename_i b a r
    obtain ⟨ht, hT⟩ := hT
    refine AWp.of (by exact Nat.le_refl _) (by exact Nat.le_refl _) ?_ (hK _ _ _ _ hT)
    intro p e R s m args below meth c h0 hf H locs cells slots QF ls hcx hp _ _ hl kk
    refine W_put hcx hp hd hc hk hw ht (by rcases hty with ⟨C, e⟩ | ⟨C, e⟩ <;> rw [e] <;> rfl) (by rcases hty with ⟨C, e⟩ | ⟨C, e⟩ <;> rw [e] <;> rfl) hfin fun H' locs' ho hg hz hoq hS => ?_
    refine kk H' locs' cells slots ls ⟨hp.1.upd hz rfl hoq (fun b hb => ⟨rfl, rfl, u2_ne hb, rfl⟩) (cOK.obj ht hc hg (ho.to fun j _ => vl_sR hck h a (some b) j)), hS, hp.2.2⟩ hl
  · rename_i a r
    obtain ⟨ht, hT⟩ := hT
    refine AWp.of (by exact Nat.le_refl _) (by exact Nat.le_refl _) ?_ (hK _ _ _ _ hT)
    intro p e R s m args below meth c h0 hf H locs cells slots QF ls hcx hp _ _ hl kk
    refine W_put hcx hp hd hc hk hw ht (by rcases hty with ⟨C, e⟩ | ⟨C, e⟩ <;> rw [e] <;> rfl) (by rcases hty with ⟨C, e⟩ | ⟨C, e⟩ <;> rw [e] <;> rfl) hfin fun H' locs' ho hg hz hoq hS => ?_
    refine kk H' locs' cells slots ls ⟨hp.1.upd hz rfl hoq (fun b hb => ⟨rfl, rfl, u2_ne hb, rfl⟩) (cOK.obj ht hc hg (ho.to fun j _ => vl_sR hck h a none j)), hS, hp.2.2⟩ hl
  · exact hT.elim
/-! arrays -/
theorem arr_at {h h0 : AH} {s : State} {H : Heap} {locs : List Loc} {cells slots a t : Nat} {ty : FieldType} (hp : Px G s h0 h H locs cells slots) (ht : tg h a = t) (hy : aty t = some ty) : gB G ≤ a ∧ H[a]? = some (arrV (G.2.1 t) (ln h a) (fun k => vl (ek t) h a k)) := by
  have := (hp.1.2 a).2.1 ty (by rw [ht]; exact hy)
  rw [ht] at this
  exact this
theorem vp_in_arr {i : Int32} {n : Nat} {cA : ClassId} {z : Nat → Value} (h : vp_in i n) : ¬ (i < 0 ∨ (arrV cA n z).slots.size ≤ i.toNatClampNeg) := by rw [arrV_size]; exact h
theorem vp_in_lt {i : Int32} {n : Nat} (h : vp_in i n) : i.toNatClampNeg < n := Nat.not_le.mp fun q => h (Or.inr q)
theorem sd_iaload (hd : decode (mC M) pc = .ok (.iaload, 1)) : Sd l G M pc (tz_iaload (pc + 1)) := by
  intro Q K L st h hK hT
  unfold tz_iaload at hT
  split at hT
  · rename_i i a r
    obtain ⟨ht, hi, hT⟩ := hT
    refine AWp.of (by exact Nat.le_refl _) (by exact Nat.le_refl _) ?_ (hK _ _ _ _ hT)
    intro p e R s m args below meth c h0 hf H locs cells slots QF ls hcx hp _ _ hl kk
    rcases ht with ht | ht
    · obtain ⟨hg, hc⟩ := arr_at hp ht (show aty 8 = some .int from rfl)
      exact W.iald (v := .int (hI h a i.toNatClampNeg)) hcx.1 hcx.2.1 hc ((hcx.2.2.2.2.2.2.2.2.2.2.1.2.1 8 .int rfl).1 _ _) (fun q => by cases q) (vp_in_arr hi) (by rw [arrV_read _ _ (vp_in_lt hi)]; rfl) rfl rfl hd (kk _ _ _ _ _ hp hl)
    · obtain ⟨-, scr, h1, h2, h3, h4, h5⟩ := (hp.1.2 a).2.2 ht
      exact W.iald (v := .int (hI h a i.toNatClampNeg)) hcx.1 hcx.2.1 h1 h2 h3 (by rw [h4]; exact hi) (h5 _ (vp_in_lt hi)) rfl rfl hd (kk _ _ _ _ _ hp hl)
  · exact hT.elim
theorem sd_baload (hd : decode (mC M) pc = .ok (.baload, 1)) : Sd l G M pc (tz_baload (pc + 1)) := by
  intro Q K L st h hK hT
  unfold tz_baload at hT
  split at hT
  · rename_i i a r
    obtain ⟨ht, hi, hT⟩ := hT
    refine AWp.of (by exact Nat.le_refl _) (by exact Nat.le_refl _) ?_ (hK _ _ _ _ hT)
    intro p e R s m args below meth c h0 hf H locs cells slots QF ls hcx hp _ _ hl kk
    obtain ⟨hg, hc⟩ := arr_at hp ht (show aty 9 = some .boolean from rfl)
    exact W.zald (v := .int (hI h a i.toNatClampNeg)) hcx.1 hcx.2.1 hc ((hcx.2.2.2.2.2.2.2.2.2.2.1.2.1 9 .boolean rfl).1 _ _) (fun q => by cases q) (vp_in_arr hi) (by rw [arrV_read _ _ (vp_in_lt hi)]; rfl) rfl rfl hd (kk _ _ _ _ _ hp hl)
  · exact hT.elim
theorem sd_laload (hd : decode (mC M) pc = .ok (.laload, 1)) : Sd l G M pc (tz_laload (pc + 1)) := by
  intro Q K L st h hK hT
  unfold tz_laload at hT
  split at hT
  · rename_i i a r
    obtain ⟨ht, hi, hT⟩ := hT
    refine AWp.of (by exact Nat.le_refl _) (by exact Nat.le_refl _) ?_ (hK _ _ _ _ hT)
    intro p e R s m args below meth c h0 hf H locs cells slots QF ls hcx hp _ _ hl kk
    obtain ⟨hg, hc⟩ := arr_at hp ht (show aty 12 = some .long from rfl)
    exact W.lald (v := .long (hL h a i.toNatClampNeg)) hcx.1 hcx.2.1 hc ((hcx.2.2.2.2.2.2.2.2.2.2.1.2.1 12 .long rfl).1 _ _) (fun q => by cases q) (vp_in_arr hi) (by rw [arrV_read _ _ (vp_in_lt hi)]; rfl) rfl rfl hd (kk _ _ _ _ _ hp hl)
  · exact hT.elim
theorem sd_aaload (hd : decode (mC M) pc = .ok (.aaload, 1)) : Sd l G M pc (tz_aaload (pc + 1)) := by
  intro Q K L st h hK hT
  unfold tz_aaload at hT
  split at hT
  · rename_i i a r
    obtain ⟨ht, hi, hT⟩ := hT
    refine AWp.of (by exact Nat.le_refl _) (by exact Nat.le_refl _) ?_ (hK _ _ _ _ hT)
    intro p e R s m args below meth c h0 hf H locs cells slots QF ls hcx hp _ _ hl kk
    rcases ht with ht | ht
    · obtain ⟨hg, hc⟩ := arr_at hp ht (show aty 10 = some (.object RX0) from rfl)
      exact W.aald (v := va_rf (hR h a i.toNatClampNeg)) (ty := .object RX0) hcx.1 hcx.2.1 hc ((hcx.2.2.2.2.2.2.2.2.2.2.1.2.1 10 _ rfl).1 _ _) rfl (fun q => by cases q) (vp_in_arr hi) (by rw [arrV_read _ _ (vp_in_lt hi)]; rfl) rfl rfl hd (kk _ _ _ _ _ hp hl)
    · obtain ⟨hg, hc⟩ := arr_at hp ht (show aty 11 = some (.object RX3) from rfl)
      exact W.aald (v := va_rf (hR h a i.toNatClampNeg)) (ty := .object RX3) hcx.1 hcx.2.1 hc ((hcx.2.2.2.2.2.2.2.2.2.2.1.2.1 11 _ rfl).1 _ _) rfl (fun q => by cases q) (vp_in_arr hi) (by rw [arrV_read _ _ (vp_in_lt hi)]; rfl) rfl rfl hd (kk _ _ _ _ _ hp hl)
  · exact hT.elim
theorem sd_alen (hd : decode (mC M) pc = .ok (.arraylength, 1)) : Sd l G M pc (tz_alen (pc + 1)) := by
  intro Q K L st h hK hT
  unfold tz_alen at hT
  split at hT
  · rename_i a r
    obtain ⟨⟨ht1, ht2⟩, hT⟩ := hT
    refine AWp.of (by exact Nat.le_refl _) (by exact Nat.le_refl _) ?_ (hK _ _ _ _ hT)
    intro p e R s m args below meth c h0 hf H locs cells slots QF ls hcx hp _ _ hl kk
    by_cases h13 : tg h a = 13
    · obtain ⟨-, scr, h1, h2, h3, h4, h5⟩ := (hp.1.2 a).2.2 h13
      exact W.alen (n := nI (ln h a)) hcx.1 hcx.2.1 h1 h2 (by rw [h4] <;> rfl) rfl rfl hd (kk _ _ _ _ _ hp hl)
    · have hx : ∃ ty, aty (tg h a) = some ty := by
        have : tg h a = 8 ∨ tg h a = 9 ∨ tg h a = 10 ∨ tg h a = 11 ∨ tg h a = 12 := by omega
        rcases this with e | e | e | e | e <;> rw [e] <;> exact ⟨_, rfl⟩
      obtain ⟨ty, hy⟩ := hx
      obtain ⟨hg, hc⟩ := arr_at hp rfl hy
      exact W.alen (n := nI (ln h a)) hcx.1 hcx.2.1 hc ((hcx.2.2.2.2.2.2.2.2.2.2.1.2.1 _ _ hy).1 _ _) (by rw [arrV_size] <;> rfl) rfl rfl hd (kk _ _ _ _ _ hp hl)
  · exact hT.elim
theorem upd_arrI {t : Nat} (hk : ek t = 0) (h : AH) (a k : Nat) (x : Int32) : updV (fun j => vl (ek t) h a j) k (.int x) = fun j => vl (ek t) (sI h a k x) a j := by
  funext j
  unfold updV
  by_cases e : j = k
  · subst e; simp [hk, vl, hI, sI, u2_same]
  · simp [e, hk, vl, hI, sI, u2_same]
theorem upd_arrR {t : Nat} (hk : ek t = 1) (h : AH) (a k : Nat) (x : Option Nat) : updV (fun j => vl (ek t) h a j) k (va_rf x) = fun j => vl (ek t) (sR h a k x) a j := by
  funext j
  unfold updV
  by_cases e : j = k
  · subst e; simp [hk, vl, hR, sR, u2_same]
  · simp [e, hk, vl, hR, sR, u2_same]
theorem upd_arrL {t : Nat} (hk : ek t = 2) (h : AH) (a k : Nat) (x : Int64) : updV (fun j => vl (ek t) h a j) k (.long x) = fun j => vl (ek t) (sL h a k x) a j := by
  funext j
  unfold updV
  by_cases e : j = k
  · subst e; simp [hk, vl, hL, sL, u2_same]
  · simp [e, hk, vl, hL, sL, u2_same]
theorem sd_iastore (hd : decode (mC M) pc = .ok (.iastore, 1)) : Sd l G M pc (tz_iastore (pc + 1)) := by
  intro Q K L st h hK hT
  unfold tz_iastore at hT
  split at hT
  · rename_i x i a r
    obtain ⟨ht, hi, hT⟩ := hT
    refine AWp.of (by exact Nat.le_refl _) (by exact Nat.le_refl _) ?_ (hK _ _ _ _ hT)
    intro p e R s m args below meth c h0 hf H locs cells slots QF ls hcx hp _ _ hl kk
    obtain ⟨hg, hc⟩ := arr_at hp ht (show aty 8 = some .int from rfl)
    refine W.iast hcx.1 hcx.2.1 hc ((hcx.2.2.2.2.2.2.2.2.2.2.1.2.1 8 .int rfl).1 _ _) (fun q => by cases q) (vp_in_arr hi) rfl rfl hd fun H' e z oq => ?_
    rw [arrV_store, upd_arrI rfl] at e
    exact kk H' _ cells slots ls ⟨hp.1.upd z rfl oq (fun b hb => ⟨rfl, u2_ne hb, rfl, rfl⟩) (cOK.arr ht rfl hg e), hp.2.1.put z oq hg, hp.2.2⟩ hl
  · exact hT.elim
theorem sd_bastore (hd : decode (mC M) pc = .ok (.bastore, 1)) : Sd l G M pc (tz_bastore (pc + 1)) := by
  intro Q K L st h hK hT
  unfold tz_bastore at hT
  split at hT
  · rename_i x i a r
    obtain ⟨ht, hx01, hi, hT⟩ := hT
    refine AWp.of (by exact Nat.le_refl _) (by exact Nat.le_refl _) ?_ (hK _ _ _ _ hT)
    intro p e R s m args below meth c h0 hf H locs cells slots QF ls hcx hp _ _ hl kk
    obtain ⟨hg, hc⟩ := arr_at hp ht (show aty 9 = some .boolean from rfl)
    refine W.zast hcx.1 hcx.2.1 hc ((hcx.2.2.2.2.2.2.2.2.2.2.1.2.1 9 .boolean rfl).1 _ _) (fun q => by cases q) (vp_in_arr hi) rfl rfl hd fun H' e z oq => ?_
    have hn : narrow .boolean (.int x) = .int x := by rcases hx01 with rfl | rfl <;> rfl
    rw [hn, arrV_store, upd_arrI rfl] at e
    exact kk H' _ cells slots ls ⟨hp.1.upd z rfl oq (fun b hb => ⟨rfl, u2_ne hb, rfl, rfl⟩) (cOK.arr ht rfl hg e), hp.2.1.put z oq hg, hp.2.2⟩ hl
  · exact hT.elim
theorem sd_lastore (hd : decode (mC M) pc = .ok (.lastore, 1)) : Sd l G M pc (tz_lastore (pc + 1)) := by
  intro Q K L st h hK hT
  unfold tz_lastore at hT
  split at hT
  · rename_i x i a r
    obtain ⟨ht, hi, hT⟩ := hT
    refine AWp.of (by exact Nat.le_refl _) (by exact Nat.le_refl _) ?_ (hK _ _ _ _ hT)
    intro p e R s m args below meth c h0 hf H locs cells slots QF ls hcx hp _ _ hl kk
    obtain ⟨hg, hc⟩ := arr_at hp ht (show aty 12 = some .long from rfl)
    refine W.last hcx.1 hcx.2.1 hc ((hcx.2.2.2.2.2.2.2.2.2.2.1.2.1 12 .long rfl).1 _ _) (fun q => by cases q) (vp_in_arr hi) rfl rfl hd fun H' e z oq => ?_
    rw [arrV_store, upd_arrL rfl] at e
    exact kk H' _ cells slots ls ⟨hp.1.upd z rfl oq (fun b hb => ⟨rfl, rfl, rfl, u2_ne hb⟩) (cOK.arr ht rfl hg e), hp.2.1.put z oq hg, hp.2.2⟩ hl
  · exact hT.elim
theorem sd_aastore (hd : decode (mC M) pc = .ok (.aastore, 1)) : Sd l G M pc (tz_aastore (pc + 1)) := by
  intro Q K L st h hK hT
  unfold tz_aastore at hT
  split at hT
  · rename_i b i a r
    obtain ⟨ht, hb8, hi, hT⟩ := hT
    refine AWp.of (by exact Nat.le_refl _) (by exact Nat.le_refl _) ?_ (hK _ _ _ _ hT)
    intro p e R s m args below meth c h0 hf H locs cells slots QF ls hcx hp _ _ hl kk
    have hKn := hcx.2.2.2.2.2.2.2.2.2.2.1
    obtain ⟨q, hq, hy, hek⟩ : ∃ q, am_cl[ecl (tg h a)]? = some q ∧ aty (tg h a) = some (.object q.1) ∧ ek (tg h a) = 1 := by
      rcases ht with e | e <;> rw [e] <;> exact ⟨_, rfl, rfl, rfl⟩
    obtain ⟨hg, hc⟩ := arr_at hp rfl hy
    obtain ⟨-, cellV, g1, g2, g3, -⟩ := (hp.1.2 b).1 q (by rw [hb8]; exact hq)
    rw [hb8] at g2
    have hcls := (hKn.1 _ q hq).2
    obtain ⟨kA, comp, k1, k2, k3, -⟩ := (hKn.2.1 _ _ hy).2
    have hcomp : comp = G.1.1 (ecl (tg h a)) := Option.some.inj (k3.symm.trans hcls.1)
    subst hcomp
    obtain ⟨kC, hkC, -⟩ := hcls.2
    refine W.aast hcx.1 hcx.2.1 hc (fun q h => by cases h) (fun h => by cases h) k1 k2 rfl hkC ⟨fun q => hi (Or.inl q), by rw [arrV_size]; exact vp_in_lt hi⟩ g1 (fun q h => by rw [g3] at h; cases h) (by rw [g2]; exact hkC) (by rw [g2]; exact va_assign hcls) rfl rfl hd fun H' e z oq => ?_
    rw [arrV_store, show Value.ref b = va_rf (some b) from rfl, upd_arrR hek] at e
    exact kk H' _ cells slots ls ⟨hp.1.upd z rfl oq (fun b hb => ⟨rfl, rfl, u2_ne hb, rfl⟩) (cOK.arr (tag := tg h a) rfl hy hg e), hp.2.1.put z oq hg, hp.2.2⟩ hl
  · rename_i i a r
    obtain ⟨ht, hi, hT⟩ := hT
    refine AWp.of (by exact Nat.le_refl _) (by exact Nat.le_refl _) ?_ (hK _ _ _ _ hT)
    intro p e R s m args below meth c h0 hf H locs cells slots QF ls hcx hp _ _ hl kk
    have hKn := hcx.2.2.2.2.2.2.2.2.2.2.1
    obtain ⟨q, hq, hy, hek⟩ : ∃ q, am_cl[ecl (tg h a)]? = some q ∧ aty (tg h a) = some (.object q.1) ∧ ek (tg h a) = 1 := by
      rcases ht with e | e <;> rw [e] <;> exact ⟨_, rfl, rfl, rfl⟩
    obtain ⟨hg, hc⟩ := arr_at hp rfl hy
    refine va_WaastN (C := q.1) hcx.1 hcx.2.1 hc ((hKn.2.1 _ _ hy).1 _ _) (fun h => by cases h) (vp_in_arr hi) rfl rfl hd fun H' e z oq => ?_
    rw [arrV_store, show Value.null = va_rf none from rfl, upd_arrR hek] at e
    exact kk H' _ cells slots ls ⟨hp.1.upd z rfl oq (fun b hb => ⟨rfl, rfl, u2_ne hb, rfl⟩) (cOK.arr (tag := tg h a) rfl hy hg e), hp.2.1.put z oq hg, hp.2.2⟩ hl
  · exact hT.elim
end
