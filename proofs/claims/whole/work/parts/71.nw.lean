/-! THE CLASS: a network's nodes -/
section
variable {h h' : AH} {wn : Nat} {z z' : Nat → Int32}
theorem NwG.ndF {nc n i : Nat} {sz cnt : Nat → Nat} (k : NwG h wn z nc n sz cnt) (hi : i < nc) (h10 : nc ≤ 10) : ndF h wn (nI i) = hR h (nA h wn) i := by
  unfold _root_.Jvm.Pilot.CHolePuncherLaw_law_r5595_fcdd34.ndF
  rw [k.2.1.1, if_pos ⟨by rw [nI_ltP (by omega) (by omega)]; omega, by rw [nI_leP (by omega) (by omega)]; omega, by rw [nI_leP (by omega) (by omega)]; omega⟩, nI_clamp (by omega)]
theorem ndF_no {x : Int32} {nc : Nat} (e : hI h wn 2 = nI nc) (h10 : nc ≤ 10) (hx : ¬ ∃ i, i < nc ∧ x = nI i) : ndF h wn x = none := by
  unfold ndF
  refine if_neg ?_
  rintro ⟨h1, h2, h3⟩
  rcases pk_ix x (show 10 < 2 ^ 31 by omega) with q | q | ⟨j, hj, rfl⟩
  · exact h1 q
  · exact h3 q
  · rw [e, nI_leP (by omega) (by omega)] at h2
    exact hx ⟨j, by omega, rfl⟩
theorem ndF_nN {nc : Nat} (e : hI h wn 2 = nI nc) (h10 : nc ≤ 10) : ndF h wn nN = none := ndF_no e h10 (by
  rintro ⟨i, hi, q⟩
  rw [nN_e1 (by omega)] at q
  exact q)
theorem ShN.NdK (k : ShN h wn) (x : Int32) : NdK h wn x := by
  refine ⟨k.1, fun n hn => ?_⟩
  unfold ndF at hn
  split at hn
  · rename_i q
    obtain ⟨h1, h2, h3⟩ := q
    rcases pk_ix x (show 10 < 2 ^ 31 by omega) with q | q | ⟨j, hj, rfl⟩
    · exact absurd q h1
    · exact absurd q h3
    · rw [nI_clamp (by omega)] at hn
      exact (k.2.2.2.2 j n hj hn).1
  · cases hn
/-- node i of a right network -/
theorem NwR.node {i : Nat} (k : NwR h wn z) (h10 : mny z ≤ 10) (hi : i < mny z) : ∃ d, ndF h wn (nI i) = some d ∧ hR h (nA h wn) i = some d ∧ ShD h wn i d ∧ NoV h d z i ∧ (z (16 + 16 * i) = nI 1 → ∃ t, hR h d 4 = some t ∧ ShT h wn i t ∧ TlG h t z i (own z i) (own z i)) := by
  obtain ⟨d, d1, d2, d3⟩ := k.2.2.2 i hi
  have e := NwG.ndF k hi h10
  have sd := k.1.2.2.2.2 i d (by omega) d1
  refine ⟨d, e.trans d1, d1, sd, d2, fun q => ?_⟩
  obtain ⟨t, t1, t2⟩ := d3 q
  exact ⟨t, t1, sd.2.2 t t1, t2⟩
theorem NwR.tr {i : Nat} (k : NwR h wn z) (h10 : mny z ≤ 10) (hi : i < mny z) (tk : z (16 + 16 * i) = nI 1) : ∃ d t, trF h wn (nI i) = some t ∧ hoF h wn (nI i) = none ∧ neF h wn (nI i) = z (16 + 16 * i + 1) ∧ hR h (nA h wn) i = some d ∧ hR h d 4 = some t ∧ ShD h wn i d ∧ ShT h wn i t ∧ TlG h t z i (own z i) (own z i) := by
  obtain ⟨d, d1, d2, d3, d4, d5⟩ := k.node h10 hi
  obtain ⟨t, t1, t2, t3⟩ := d5 tk
  have e0 := d4.2.1 tk
  refine ⟨d, t, ?_, ?_, ?_, d2, t1, d3, t2, t3⟩
  · unfold trF; rw [d1]; simp only []; rw [if_pos e0]; exact t1
  · unfold hoF; rw [d1]; simp only []; rw [if_pos e0]
  · unfold neF; rw [d1]; exact d4.2.2.1
theorem NwR.ho {i : Nat} (k : NwR h wn z) (h10 : mny z ≤ 10) (hi : i < mny z) (tk : z (16 + 16 * i) = nI 0) : ∃ d, trF h wn (nI i) = none ∧ hoF h wn (nI i) = some d ∧ neF h wn (nI i) = z (16 + 16 * i + 1) ∧ hR h (nA h wn) i = some d ∧ ShD h wn i d ∧ NoV h d z i := by
  obtain ⟨d, d1, d2, d3, d4, d5⟩ := k.node h10 hi
  have e0 := d4.1 tk
  have n0 : ¬ hI h d 0 = nI 0 := by rw [e0]; decide
  refine ⟨d, ?_, ?_, ?_, d2, d3, d4⟩
  · unfold trF; rw [d1]; simp only []; rw [if_neg n0]
  · unfold hoF; rw [d1]; simp only []; rw [if_neg n0]
  · unfold neF; rw [d1]; exact d4.2.2.1
theorem NwR.ne {i : Nat} (k : NwR h wn z) (h10 : mny z ≤ 10) (hi : i < mny z) : neF h wn (nI i) = z (16 + 16 * i + 1) := by
  obtain ⟨d, d1, d2, d3, d4, d5⟩ := k.node h10 hi
  unfold neF; rw [d1]; exact d4.2.2.1
theorem NwR.nN (k : NwR h wn z) (h10 : mny z ≤ 10) : trF h wn nN = none ∧ neF h wn nN = nN := by
  have e := ndF_nN k.2.1.1 h10
  unfold trF neF
  rw [e]
  exact ⟨rfl, rfl⟩
theorem NoV.keep' {d i : Nat} (k : NoV h d z i) (x : same1 h h' d) (e0 : z' (16 + 16 * i) = z (16 + 16 * i)) (e1 : z' (16 + 16 * i + 1) = z (16 + 16 * i + 1)) (e2 : z' (16 + 16 * i + 12) = z (16 + 16 * i + 12)) (e3 : z' (16 + 16 * i + 13) = z (16 + 16 * i + 13)) (e4 : z' (16 + 16 * i + 14) = z (16 + 16 * i + 14)) : NoV h' d z' i := by
  unfold NoV at k ⊢
  rw [x.2.1, e0, e1, e2, e3, e4]
  exact k
/-- only cells of one node's translator have changed: the shape stands -/
theorem ShN.setT {i d t : Nat} (hw : WF h) (k : ShN h wn) (hi : i < 10) (d1 : hR h (nA h wn) i = some d) (t1 : hR h d 4 = some t) (lt : Lt wn i h h') (sh : ShT h' wn i t) : ShN h' wn ∧ (same1 h h' wn ∧ same1 h h' (nA h wn) ∧ same1 h h' (lA h wn) ∧ same1 h h' d) ∧ ∀ i', i' ≠ i → ∀ b, b < hN h → ndc h wn i' b → same1 h h' b := by
  obtain ⟨⟨a1, a2, a3, a4⟩, a5, a6, ⟨b1, b2, b3, b4⟩, nod⟩ := k
  have sd := nod i d hi d1
  have sw := lt wn (hw.lt (by rw [a1]; decide)) (by rintro ⟨k, r, e, -⟩; rw [a5] at e; cases e)
  have sA := lt (nA h wn) (hw.lt (by rw [a3]; decide)) (by rintro ⟨k, r, e, -⟩; rw [a6] at e; cases e)
  have sL := lt (lA h wn) (hw.lt (by rw [b2]; decide)) (by rintro ⟨k, r, e, -⟩; rw [b4] at e; cases e)
  have sdd := lt d (hw.lt (by rw [sd.1]; decide)) (by rintro ⟨k, r, e, hk⟩; rw [sd.2.1] at e; cases e; omega)
  have oth : ∀ i', i' ≠ i → ∀ b, b < hN h → ndc h wn i' b → same1 h h' b := by
    intro i' hne b hb ⟨k, r, e, hk⟩
    refine lt b hb ?_
    rintro ⟨k', r', e', -⟩
    rw [e] at e'
    cases e'
    exact hne rfl
  have eA := nA_same sw
  have eL := lA_same sw
  refine ⟨⟨⟨sw.tg.trans a1, by rw [eA, sw.2.2.1]; exact a2, by rw [eA, sA.tg]; exact a3, by rw [eA, sA.ln]; exact a4⟩, sw.gh.trans a5, by rw [eA, sA.gh]; exact a6, ⟨by rw [eL, sw.2.2.1]; exact b1, by rw [eL, sL.tg]; exact b2, by rw [eL, sL.ln]; exact b3, by rw [eL, sL.gh]; exact b4⟩, fun i' n hi' hn => ?_⟩, ⟨sw, sA, sL, sdd⟩, oth⟩
  rw [eA, sA.2.2.1] at hn
  by_cases c : i' = i
  · subst c
    rw [d1] at hn
    cases hn
    refine ⟨sdd.tg.trans sd.1, sdd.gh.trans sd.2.1, fun t' ht' => ?_⟩
    rw [sdd.2.2.1, t1] at ht'
    cases ht'
    exact sh
  · exact (nod i' n hi' hn).keep hw (oth i' c)
/-- the translator of node i has been given new numbers and mappings -/
theorem NwG.setT {i d t nc n : Nat} {sz cnt sz' cnt' : Nat → Nat} (hw : WF h) (k : NwG h wn z nc n sz cnt) (hi : i < 10) (d1 : hR h (nA h wn) i = some d) (t1 : hR h d 4 = some t) (lt : Lt wn i h h') (sh : ShT h' wn i t) (tg' : TlG h' t z' i (sz' i) (cnt' i)) (tk : z' (16 + 16 * i) = nI 1) (e : ∀ j, ¬ tPl i j → z' j = z j) (n10 : n ≤ 10) (hs : ∀ i', i' < n → i' ≠ i → sz' i' = sz i' ∧ cnt' i' = cnt i') (hc : ∀ i', i' < n → z (16 + 16 * i') = nI 1 → cnt i' ≤ 8 ∧ ∀ j, j < cnt i' → knw z i' j ≤ 8) (hc0 : ∀ i', i' < n → cnt i' ≤ 8) : NwG h' wn z' nc n sz' cnt' := by
  obtain ⟨s1, ⟨sw, sA, sL, sdd⟩, oth⟩ := k.1.setT hw hi d1 t1 lt sh
  obtain ⟨k1, ⟨k2, k3, k4, k5⟩, k6, k7⟩ := k
  have eA := nA_same sw
  refine ⟨s1, ⟨by rw [sw.2.1]; exact k2, by rw [sw.2.1, e 0 (by unfold tPl mA cA; omega)]; exact k3, by rw [sw.2.1, e 2 (by unfold tPl mA cA; omega)]; exact k4, by rw [sw.2.1, e 3 (by unfold tPl mA cA; omega)]; exact k5⟩, fun q q1 q2 => ?_, fun i' hi' => ?_⟩
  · rw [lA_same sw, sL.2.1, e (3 + q) (by unfold tPl mA cA; omega)]
    exact k6 q q1 q2
  · by_cases c : i' = i
    · subst c
      obtain ⟨d', e1, e2, e3⟩ := k7 i' hi'
      rw [d1] at e1
      cases e1
      exact ⟨d, by rw [eA, sA.2.2.1]; exact d1, e2.keep' sdd (e _ (by unfold tPl mA cA; omega)) (e _ (by unfold tPl mA cA; omega)) (e _ (by unfold tPl mA cA; omega)) (e _ (by unfold tPl mA cA; omega)) (e _ (by unfold tPl mA cA; omega)), fun _ => ⟨t, by rw [sdd.2.2.1]; exact t1, tg'⟩⟩
    · rw [(hs i' hi' c).1, (hs i' hi' c).2]
      exact (k7 i' hi').keep hw k1 (by omega) (hc0 i' hi') (fun q => (hc i' hi' q).2) ⟨sw, sA⟩ (oth i' c) (fun w hw => e _ (by unfold tPl mA cA; omega)) (fun _ => ⟨fun w hw => e _ (by unfold tPl mA cA; omega), fun w hw => e _ (by unfold tPl mA cA; omega)⟩)
/-- knowns of all mappings -/
theorem inv_kn (k : Inv0 z) {i : Nat} (hi : i < mny z) (tk : z (16 + 16 * i) = nI 1) : own z i ≤ 8 ∧ ∀ j, j < own z i → knw z i j ≤ 8 := by
  have tra := (k.2.2.2 i hi).2.2.2 tk
  exact ⟨tra.1.2, fun j hj => (tra.2.2.1 j hj).2.2.2.2.2.1.2⟩
theorem NwR.setT {i d t : Nat} (hw : WF h) (inv : Inv0 z) (k : NwR h wn z) (hi : i < mny z) (d1 : hR h (nA h wn) i = some d) (t1 : hR h d 4 = some t) (lt : Lt wn i h h') (sh : ShT h' wn i t) (tg' : TlG h' t z' i (own z' i) (own z' i)) (tk : z (16 + 16 * i) = nI 1) (e : ∀ j, ¬ tPl i j → z' j = z j) : NwR h' wn z' := by
  have m10 := inv.1.at.2
  have em : mny z' = mny z := mny_eq (e 1 (by unfold tPl mA cA; omega))
  unfold NwR
  rw [em]
  refine NwG.setT hw k (by omega) d1 t1 lt sh tg' ((e _ (by unfold tPl mA cA; omega)).trans tk) e m10 (fun i' hi' hne => ?_) (fun i' hi' q => inv_kn inv hi' q) (fun i' hi' => (inv.own i' (by omega)).2)
  have : own z' i' = own z i' := own_eq (e _ (by unfold tPl mA cA; omega))
  exact ⟨this, this⟩
end
