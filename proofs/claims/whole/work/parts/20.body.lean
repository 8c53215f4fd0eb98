section
variable {l : Launch} {G : Gc} {M M' : Md} {pc : Nat}
/-- a callee that answers by a formula: out of its contract and the row of its call -/
theorem sd_pureS {n k : Nat} {P : List Value → AH → Prop} {f : List Value → AH → Value} (hs : Sd l G M pc (tz_callS l G n M' k)) (hc : ∀ (as : List Value) (h : AH) (Q : Po), as.length = k → P as h → Q (.inl (some (f as h))) h → Call l G M' as h Q) : Sd l G M pc (tz_pureS n k P f) := by
  intro Q K L st h hK hT
  refine hs Q K L st h hK ?_
  unfold tz_pureS at hT
  unfold tz_callS
  split at hT
  · rename_i as r hpop
    obtain ⟨h1, h2, h3⟩ := hT
    exact ⟨h1, hc as h _ (popN_spec k st hpop).2 h2 (hK _ _ _ _ h3)⟩
  · exact hT.elim
theorem sd_pureSN {n k : Nat} {P : List Value → AH → Prop} {f : List Value → AH → Value} (hs : Sd l G M pc (fun Q X K L st h => tz_callS l G n M' k (fun o h1 => match o with | .inl v => Q (.inl v) h1 | .inr _ => False) X K L st h)) (hc : ∀ (as : List Value) (h : AH) (Q : Po), as.length = k → P as h → Q (.inl (some (f as h))) h → Call l G M' as h Q) : Sd l G M pc (tz_pureS n k P f) := by
  intro Q K L st h hK hT
  refine hs Q K L st h hK ?_
  unfold tz_pureS at hT
  unfold tz_callS
  split at hT
  · rename_i as r hpop
    obtain ⟨h1, h2, h3⟩ := hT
    simp only [hpop]
    exact ⟨h1, hc as h _ (popN_spec k st hpop).2 h2 (hK _ _ _ _ h3)⟩
  · exact hT.elim
theorem sd_pureV {n k tag : Nat} {P : List Value → AH → Prop} {f : List Value → AH → Value} (hs : Sd l G M pc (tz_callV l G n M' k tag)) (hc : ∀ (a : Nat) (as : List Value) (h : AH) (Q : Po), as.length = k → tg h a = tag → P (.ref a :: as) h → Q (.inl (some (f (.ref a :: as) h))) h → Call l G M' (.ref a :: as) h Q) : Sd l G M pc (tz_pureV n k tag P f) := by
  intro Q K L st h hK hT
  refine hs Q K L st h hK ?_
  unfold tz_pureV at hT
  unfold tz_callV
  split at hT
  · rename_i as a r hpop
    obtain ⟨h0, h1, h2, h3⟩ := hT
    exact ⟨h0, h1, hc a as h _ (popN_spec k st hpop).2 h0 h2 (hK _ _ _ _ h3)⟩
  · exact hT.elim
/-- a call under handlers of the caller -/
theorem sd_callVH {idx k tag : Nat} {q : vw_C} {cs : List (String × Nat)} (hd : decode (mC M) pc = .ok (.invokevirtual idx, 3)) (mok : MOK M' k) (hl : Cond.methodLink (mY M).cls idx (mY M') ∈ gtbl) (hi : Cond.instanceMethod (mY M') ∈ gtbl) (hs : Cond.selects (mY M').cls (mY M') (mY M') ∈ gtbl) (hc : am_cl[tag]? = some q) (hq : q.1 = (mY M').cls) (hr : mF M' + 1 ≤ mF M ∧ 8 + (mL M' + 11) + mO M' ≤ mO M) (hh' : mH M' = [])
    (hH : ∀ E hp, hfd cs E = some hp → ∃ (pre : List ExceptionTableEntry) (x : ExceptionTableEntry) (suf : List ExceptionTableEntry), tableOf (mH M) = pre ++ x :: suf ∧ (∀ z ∈ pre, z.catchType ≠ 0 ∧ ∃ nm, Cond.classLink (mY M).cls z.catchType nm ∈ gtbl ∧ (E, nm) ∈ ncl) ∧ covers x pc = true ∧ x.catchType ≠ 0 ∧ Cond.classLink (mY M).cls x.catchType E ∈ gtbl ∧ Cond.castable E E ∈ tables_1 ∧ x.handlerPc = hp) :
    Sd l G M pc (tz_callVH l G M (pc + 3) M' k tag cs) := by
  intro Q K L st h hK hT
  unfold tz_callVH at hT
  split at hT
  · rename_i as a r hpop
    obtain ⟨rfl, hlen⟩ := popN_spec k st hpop
    obtain ⟨ht, hr4, o, h1, hR, hq9⟩ := hT
    have hrun := runV_ok (l := l) (G := G) (M := M) hd mok hl hi hs hc hq hr hh' hlen ht hr4
    cases o with
    | inl v =>
      refine AWp.of (h1 := h1) hR.1 hR.2.1 ?_ hq9
      intro p e R s m args below meth c h0 hf H locs cells slots QF ls hcx hp hn1 hm1 hl kk
      refine call_core hp hR.1 hR.2.1 (hrun _ _ hR p e R s m args below meth c h0 hf H locs cells slots ls hcx hp hl.1 hn1 hm1) (fun v' hv H' locs' cells' slots' hp' => ?_) (fun E hE => by cases hE)
      cases hv
      exact kk H' locs' cells' slots' ls hp' hl
    | inr E =>
      dsimp only at hq9
      split at hq9
      · rename_i hp9 hfe
        obtain ⟨pre, x, suf, e1, e2, e3, e4, e5, e6, e7⟩ := hH E hp9 hfe
        -- the walk goes on at the handler, with any reference
        obtain ⟨o, hf, k2, k3⟩ := hq9
        have k1 : ∀ q : Nat, AW l G M hp9 L [.ref q] h1 o hf := fun q => by
          obtain ⟨o', hf', g1, rfl, rfl⟩ := k3 q
          exact g1
        refine ⟨o, hf, ⟨Nat.le_trans hR.1 (k1 0).1, Nat.le_trans hR.2.1 (k1 0).2.1, ?_⟩, k2⟩
        intro p e R s m args below meth c h0 hcx H locs cells slots ls hp hl
        refine call_core hp hR.1 hR.2.1 (hrun _ _ hR p e R s m args below meth c h0 hf H locs cells slots ls hcx hp hl.1 (k1 0).1 (k1 0).2.1) (fun v' hv => by cases hv) (fun E' hE H' locs' cells' slots' q ce hp' h5 h6 h7 => ?_)
        cases hE
        have hts := hcx.2.2.2.2.1
        have hKn := hcx.2.2.2.2.2.2.2.2.2.2.1
        refine vx_catch hcx.2.2.2.1 pre x suf (by rw [hcx.2.2.2.2.2.2.2.2.1]; exact e1) (fun z hz => ?_) e3 e4 (hts _ e5) (va_Nw.use rfl (hKn.2.2.1 _ e6 rfl)) h5 h6 h7 ?_
        · obtain ⟨z1, nm, z2, z3⟩ := e2 z hz
          exact Or.inr ⟨z1, nm, hts _ z2, hKn.2.2.2.2 _ z3⟩
        · rw [e7]
          exact (k1 q).2.2 p e R s m args below meth c h0 hcx H' locs' cells' slots' ls hp' hl
      · exact hq9.elim
  · exact hT.elim
/-- the law's call of its own method with handlers; it returns -/
theorem sd_callSH {idx k : Nat} (hd : decode (mC M) pc = .ok (.invokestatic idx, 3)) (mok : MOK M' k) (hl : Cond.methodLink (mY M).cls idx (mY M') ∈ gtbl) (hs : Cond.static (mY M') ∈ gtbl) (hr : mF M' + 1 ≤ mF M ∧ 8 + (mL M' + 11) + mO M' ≤ mO M) (hw : mW M' = .codeWith (mY M') (mC M') (mL M') (mR M') (mH M')) :
    Sd l G M pc (fun Q X K L st h => tz_callS l G (pc + 3) M' k (fun o h1 => match o with | .inl v => Q (.inl v) h1 | .inr _ => False) X K L st h) := by
  intro Q K L st h hK hT
  unfold tz_callS at hT
  split at hT
  · rename_i as r hpop
    obtain ⟨rfl, hlen⟩ := popN_spec k st hpop
    obtain ⟨hr4, o, h1, hR, hq⟩ := hT
    cases o with
    | inr E => exact hq.elim
    | inl v =>
      refine AWp.of (h1 := h1) hR.1 hR.2.1 ?_ hq
      intro p e R s m args below meth c h0 hf H locs cells slots QF ls hcx hp hn1 hm1 hl' kk
      have hc8 := hr4.le
      obtain ⟨-, -, e3, e4, e5, e6⟩ := id hp
      have hts := hcx.2.2.2.2.1
      have hB : vx_CSW R s args (mY M).cls idx (mY M') (mC M') (mL M') (mR M') (mH M') (mW M' :: gtbl) (rmO M' h h1) (hN h1 - hN h) (hM h1 - hM h) k := by
        obtain ⟨m1, m2, m3, m4, m5⟩ := mok
        have hw2 := m1
        rw [hw] at hw2
        refine ⟨⟨rfl, rfl, by rw [hcx.2.2.2.2.2.2.2.2.2.1]; exact hr.1, by rw [hcx.2.2.2.2.2.2.2.2.2.1]; exact hr.2, hws_of hts m1, by rw [hw]; exact List.mem_cons_self⟩, hts _ hw2, hts _ m2, ⟨m3, m4⟩, fun sig h => ?_, hts _ hl, hts _ hs⟩
        rw [h] at m5
        exact (Option.some.inj m5).symm
      refine call_core hp hR.1 hR.2.1 (run_of (vx_runSW ⟨hcx.1, hcx.2.1, hcx.2.2.1, hcx.2.2.2.1, hcx.2.2.2.2.1⟩ (met_of (hR.2.2 hcx.2.2.2.2.2.2.2.2.2.2.2.2.2.2)) hB ⟨env_blind, env_pre hcx hp⟩ rfl hlen hl'.1 rfl (lv_room (by omega)) hd ⟨by rw [hcx.2.2.2.2.2.2.2.2.2.1]; show _ ≤ hN hf - hN h0; have := hR.1; omega, by rw [hcx.2.2.2.2.2.2.2.2.2.1]; show _ ≤ hM hf - hM h0; have := hR.2.1; omega⟩)) (fun v' hv H' locs' cells' slots' hp' => ?_) (fun E hE => by cases hE)
      cases hv
      exact kk H' locs' cells' slots' ls hp' hl'
  · exact hT.elim
/-- a body's walk gives the method's contract -/
theorem call_of {as : List Value} {h : AH} {Q : Po} (hy : plainName (mY M).cls = true) (hh : mH M = []) (hlen : (lg_sl as).length ≤ mL M) (k : AWp l G M 0 (entL as (mL M)) [] h Q) : Call l G M as h Q := by
  obtain ⟨o, hf, ⟨k1, k2, k3⟩, kq⟩ := k
  refine ⟨o, hf, ⟨k1, k2, fun htr => ?_⟩, kq⟩
  refine vx_ofW (cc := mC M) (maxL := mL M) (ret := mR M) hy (by rw [mW_nil hh]) ?_
  intro p e s m args below meth c s₁ B hml ht hv
  obtain ⟨rfl, v1, v2, v3, v4⟩ := hv
  have hts := atoms_spec (ws := mW M :: gtbl) B.pre
  rw [lg_entry_eq]
  refine k3 p e _ s m _ below meth c h ⟨B.exec, B.bytes, hml, findClass_of_methodNamed B.named, fun w hw => hts w (List.mem_cons_of_mem _ hw), B.returns, B.notSynchronized, (name_of_methodNamed B.named B.method).1, ?_, rfl, v2, v3, v1.1, v4, htr⟩ s.heap [] 0 0 _ ⟨v1, va_S.rf, by omega, by omega, Nat.le_refl _, Nat.le_refl _⟩ (LOK.entry as hlen)
  rw [hh]
  cases hc9 : c.exceptionTable.toList with
  | nil => rfl
  | cons x r => exact (ht x (by rw [hc9]; exact List.mem_cons_self)).elim
theorem call_ofH {as : List Value} {h : AH} {Q : Po} (hy : plainName (mY M).cls = true) (hw : mW M = .codeWith (mY M) (mC M) (mL M) (mR M) (mH M)) (hlen : (lg_sl as).length ≤ mL M) (k : AWp l G M 0 (entL as (mL M)) [] h Q) : Call l G M as h Q := by
  obtain ⟨o, hf, ⟨k1, k2, k3⟩, kq⟩ := k
  refine ⟨o, hf, ⟨k1, k2, fun htr => ?_⟩, kq⟩
  refine vx_ofWH (cc := mC M) (maxL := mL M) (ret := mR M) (hh := mH M) hy (by rw [hw]) ?_
  intro p e s m args below meth c s₁ B hml hv
  obtain ⟨rfl, v1, v2, v3, v4⟩ := hv
  have hts := atoms_spec (ws := mW M :: gtbl) B.pre
  rw [lg_entry_eq]
  exact k3 p e _ s m _ below meth c h ⟨B.exec, B.bytes, hml, findClass_of_methodNamed B.named, fun w hw => hts w (List.mem_cons_of_mem _ hw), B.returns, B.notSynchronized, (name_of_methodNamed B.named B.method).1, vx_table (x := mY M) B (hts _ (by rw [hw]; exact List.mem_cons_self)), rfl, v2, v3, v1.1, v4, htr⟩ s.heap [] 0 0 _ ⟨v1, va_S.rf, by omega, by omega, Nat.le_refl _, Nat.le_refl _⟩ (LOK.entry as hlen)
end
/-- a callee that returns -/
def noX (Q : Po) : Po := fun o h1 => match o with
  | .inl v => Q (.inl v) h1
  | .inr _ => False
def tz_callI (l : Launch) (G : Gc) (n : Nat) (M' : Md) (k tag : Nat) (Q : Po) (X : Ct) (K : Ct) (L : Lo) (st : List Value) (h : AH) : Prop := tz_callV l G n M' k tag (noX Q) X K L st h
def tz_callR (l : Launch) (G : Gc) (n : Nat) (M' : Md) (k : Nat) (Q : Po) (X : Ct) (K : Ct) (L : Lo) (st : List Value) (h : AH) : Prop := tz_callS l G n M' k (noX Q) X K L st h
