/-! THE CLASS: changes in one place -/
/-- cell b belongs to the translator of node i of nw -/
def cel (h : AH) (nw i b : Nat) : Prop := ∃ k r, gh h b = nw :: k :: i :: r ∧ 4 ≤ k
/-- only cells of the translator of node i of nw have changed -/
def Lt (nw i : Nat) (h h' : AH) : Prop := ∀ b, b < hN h → ¬ cel h nw i b → same1 h h' b
theorem Lt.rf {nw i : Nat} {h : AH} : Lt nw i h h := fun b _ _ => same1.rf h b
theorem Lt.tr {nw i c : Nat} {h h' h'' : AH} (f : Fr nw c h h') (x : Lt nw i h h') (y : Lt nw i h' h'') : Lt nw i h h'' := by
  intro b hb hc
  refine (x b hb hc).tr (y b (by have := f.1.1; omega) ?_)
  rintro ⟨k, r, e, hk⟩
  refine hc ⟨k, r, ?_, hk⟩
  rw [← e]
  unfold gh
  rw [f.2.1 b hb]
section
variable {h h' : AH} {nw i t m : Nat} {z z' : Nat → Int32}
theorem same1.hR {b : Nat} (x : same1 h h' b) : Jvm.Pilot.CHolePuncherLaw_law_r5595_fcdd34.hR h' b = Jvm.Pilot.CHolePuncherLaw_law_r5595_fcdd34.hR h b := x.2.2.1
theorem cC_same (x : same1 h h' m) : cC h' m = cC h m := by unfold cC; rw [x.2.2.1]
theorem mM_same (x : same1 h h' t) : mM h' t = mM h t := by unfold mM; rw [x.2.2.1]
theorem nA_same (x : same1 h h' nw) : nA h' nw = nA h nw := by unfold nA; rw [x.2.2.1]
theorem lA_same (x : same1 h h' nw) : lA h' nw = lA h nw := by unfold lA; rw [x.2.2.1]
/-- a mapping whose two cells are as they were -/
theorem ShM.keep (k : ShM h nw i m) (x : same1 h h' m) (y : same1 h h' (cC h m)) : ShM h' nw i m := by
  obtain ⟨a1, a2, a3, a4, a5, a6⟩ := k
  have e := cC_same x
  exact ⟨x.tg.trans a1, x.gh.trans a2, by rw [e, x.2.2.1]; exact a3, by rw [e, y.tg]; exact a4, by rw [e, y.ln]; exact a5, by rw [e, y.gh]; exact a6⟩
theorem MpV.keep {j : Nat} (k : MpV h m z i j) (x : same1 h h' m) (y : same1 h h' (cC h m)) (e1 : ∀ w, w < 7 → z' (mA i j + w) = z (mA i j + w)) (e2 : ∀ e, e < 16 → z' (cA i j 0 + e) = z (cA i j 0 + e)) (hk : knw z i j ≤ 8) : MpV h' m z' i j := by
  obtain ⟨⟨a0, a1, a2, a3, a5⟩, a6⟩ := k
  have e := cC_same x
  have en : knw z' i j = knw z i j := by
    unfold knw
    exact congrArg Int32.toNatClampNeg (e1 6 (by omega))
  refine ⟨⟨?_, ?_, ?_, ?_, ?_⟩, fun k hk2 => ?_⟩
  · rw [x.2.1, e1 0 (by omega), e1 1 (by omega)]; exact a0
  · rw [x.2.1, e1 2 (by omega)]; exact a1
  · rw [x.2.1, e1 3 (by omega), e1 4 (by omega)]; exact a2
  · rw [x.2.1, e1 5 (by omega)]; exact a3
  · rw [x.2.1, e1 6 (by omega)]; exact a5
  · rw [en] at hk2
    have q1 := e2 (2 * k) (by omega)
    have q2 := e2 (2 * k + 1) (by omega)
    have w1 : cA i j 0 + 2 * k = cA i j k := by unfold cA; omega
    have w2 : cA i j 0 + (2 * k + 1) = cA i j k + 1 := by unfold cA; omega
    rw [w1] at q1
    rw [w2] at q2
    rw [e, y.2.1, q1, q2]
    exact a6 k hk2
theorem ShT.keep (hw : WF h) (k : ShT h nw i t) (x : ∀ b, b < hN h → cel h nw i b → same1 h h' b) : ShT h' nw i t := by
  obtain ⟨⟨a1, a2, a3, a4⟩, a5, a6, a7, a8⟩ := k
  have st := x t (hw.lt (by rw [a1]; decide)) ⟨4, [], a5, by omega⟩
  have sM := x (mM h t) (hw.lt (by rw [a3]; decide)) ⟨5, [], a6, by omega⟩
  have e := mM_same st
  refine ⟨⟨st.tg.trans a1, by rw [e, st.2.2.1]; exact a2, by rw [e, sM.tg]; exact a3, by rw [e, sM.ln]; exact a4⟩, st.gh.trans a5, by rw [e, sM.gh]; exact a6, fun j m hj hm => ?_, fun j j' m hj hj' q q' => ?_⟩
  · rw [e, sM.2.2.1] at hm
    have g := a7 j m hj hm
    exact g.keep (x m (hw.lt (by rw [g.1]; decide)) ⟨6, [], g.2.1, by omega⟩) (x _ (hw.lt (by rw [g.2.2.2.1]; decide)) ⟨7, [m], g.2.2.2.2.2, by omega⟩)
  · rw [e, sM.2.2.1] at q q'
    exact a8 j j' m hj hj' q q'
/-- rows of node i that agree -/
def eqN (z z' : Nat → Int32) (i : Nat) : Prop := (∀ w, w < 16 → z' (16 + 16 * i + w) = z (16 + 16 * i + w))
/-- mappings of node i that agree -/
def eqM (z z' : Nat → Int32) (i : Nat) : Prop := (∀ e, e < 64 → z' (mA i 0 + e) = z (mA i 0 + e)) ∧ ∀ e, e < 128 → z' (cA i 0 0 + e) = z (cA i 0 0 + e)
theorem eqM.mr (k : eqM z z' i) {j w : Nat} (hj : j < 8) (hw : w < 7) : z' (mA i j + w) = z (mA i j + w) := by
  have := k.1 (8 * j + w) (by omega)
  rw [show mA i 0 + (8 * j + w) = mA i j + w by unfold mA; omega] at this
  exact this
theorem eqM.cr (k : eqM z z' i) {j e : Nat} (hj : j < 8) (he : e < 16) : z' (cA i j 0 + e) = z (cA i j 0 + e) := by
  have := k.2 (16 * j + e) (by omega)
  rw [show cA i 0 0 + (16 * j + e) = cA i j 0 + e by unfold cA; omega] at this
  exact this
theorem TlG.keep {s c : Nat} (hw : WF h) (sh : ShT h nw i t) (k : TlG h t z i s c) (hc : c ≤ 8) (hkn : ∀ j, j < c → knw z i j ≤ 8) (x : ∀ b, b < hN h → cel h nw i b → same1 h h' b) (en : eqN z z' i) (em : eqM z z' i) : TlG h' t z' i s c := by
  obtain ⟨⟨⟨b0, b1, b2, b3, b4, b5, b6, b7⟩, b8, b10⟩, g⟩ := k
  obtain ⟨⟨a1, a2, a3, a4⟩, a5, a6, a7, a8⟩ := sh
  have st := x t (hw.lt (by rw [a1]; decide)) ⟨4, [], a5, by omega⟩
  have sM := x (mM h t) (hw.lt (by rw [a3]; decide)) ⟨5, [], a6, by omega⟩
  have e := mM_same st
  refine ⟨⟨⟨?_, ?_, ?_, ?_, ?_, ?_, ?_, ?_⟩, ?_, by rw [st.2.1]; exact b10⟩, fun j hj => ?_⟩
  · rw [st.2.1, en 2 (by omega)]; exact b0
  · rw [st.2.1, en 3 (by omega)]; exact b1
  · rw [st.2.1, en 4 (by omega)]; exact b2
  · rw [st.2.1, en 5 (by omega)]; exact b3
  · rw [st.2.1, en 6 (by omega)]; exact b4
  · rw [st.2.1, en 7 (by omega)]; exact b5
  · rw [st.2.1, en 8 (by omega)]; exact b6
  · rw [st.2.1, en 9 (by omega)]; exact b7
  · rw [st.2.2.2, en 10 (by omega)]; exact b8
  · obtain ⟨m, m1, m2⟩ := g j hj
    have g := a7 j m (by omega) m1
    refine ⟨m, by rw [e, sM.2.2.1]; exact m1, m2.keep (x m (hw.lt (by rw [g.1]; decide)) ⟨6, [], g.2.1, by omega⟩) (x _ (hw.lt (by rw [g.2.2.2.1]; decide)) ⟨7, [m], g.2.2.2.2.2, by omega⟩) (fun w hw => em.mr (by omega) hw) (fun e he => em.cr (by omega) he) (hkn j hj)⟩
theorem NoV.keep {d : Nat} (k : NoV h d z i) (x : same1 h h' d) (en : eqN z z' i) : NoV h' d z' i := by
  obtain ⟨a0, a1, a2, a3, a4⟩ := k
  have e0 := en 0 (by omega)
  simp only [Nat.add_zero] at e0
  refine ⟨fun q => ?_, fun q => ?_, ?_, ?_, ?_⟩
  · rw [x.2.1]; rw [e0] at q; exact a0 q
  · rw [x.2.1]; rw [e0] at q; exact a1 q
  · rw [x.2.1, en 1 (by omega)]; exact a2
  · rw [x.2.1, en 12 (by omega), en 13 (by omega)]; exact a3
  · rw [x.2.1, en 14 (by omega)]; exact a4
/-- cell b belongs to node i of nw -/
def ndc (h : AH) (nw i b : Nat) : Prop := ∃ k r, gh h b = nw :: k :: i :: r ∧ 3 ≤ k
theorem ShD.keep {d : Nat} (hw : WF h) (k : ShD h nw i d) (x : ∀ b, b < hN h → ndc h nw i b → same1 h h' b) : ShD h' nw i d := by
  obtain ⟨a1, a2, a3⟩ := k
  have sd := x d (hw.lt (by rw [a1]; decide)) ⟨3, [], a2, by omega⟩
  refine ⟨sd.tg.trans a1, sd.gh.trans a2, fun t ht => ?_⟩
  rw [sd.2.2.1] at ht
  exact (a3 t ht).keep hw (fun b hb ⟨k, r, e, hk⟩ => x b hb ⟨k, r, e, by omega⟩)
theorem NodG.keep {s c : Nat} (hw : WF h) (sn : ShN h nw) (hi : i < 10) (k : NodG h nw z i s c) (hc : c ≤ 8) (hkn : z (16 + 16 * i) = nI 1 → ∀ j, j < c → knw z i j ≤ 8) (xA : same1 h h' nw ∧ same1 h h' (nA h nw)) (x : ∀ b, b < hN h → ndc h nw i b → same1 h h' b) (en : eqN z z' i) (em : z (16 + 16 * i) = nI 1 → eqM z z' i) : NodG h' nw z' i s c := by
  obtain ⟨d, d1, d2, d3⟩ := k
  have sh := sn.2.2.2.2 i d hi d1
  have sd := x d (hw.lt (by rw [sh.1]; decide)) ⟨3, [], sh.2.1, by omega⟩
  have e0 := en 0 (by omega)
  simp only [Nat.add_zero] at e0
  refine ⟨d, by rw [nA_same xA.1, xA.2.2.2.1]; exact d1, d2.keep sd en, fun q => ?_⟩
  rw [e0] at q
  obtain ⟨t, t1, t2⟩ := d3 q
  exact ⟨t, by rw [sd.2.2.1]; exact t1, t2.keep hw (sh.2.2 t t1) hc (hkn q) (fun b hb ⟨k, r, e, hk⟩ => x b hb ⟨k, r, e, by omega⟩) en (em q)⟩
end
