/-! NUMBERS THAT AGREE WHERE THERE ARE PLACES -/
theorem eqA.rf (z : Nat → Int32) : eqA z z := fun _ _ => rfl
theorem inv_cg {z z' : Nat → Int32} (inv : Inv z) (e : eqA z z') : Inv z' ∧ mny z' = mny z ∧ ∀ t, t < 10 → own z' t = own z t := by
  have ow := inv.1.own
  have m10 := inv.1.1.at.2
  obtain ⟨⟨h1, h2, h3, h4⟩, lv⟩ := inv
  have em : mny z' = mny z := by unfold mny; rw [e 1 (by omega)]
  have eo : ∀ t, t < 10 → own z' t = own z t := fun t ht => by unfold own; rw [e _ (by omega)]
  have el : ∀ t j, t < 10 → j < 8 → livZ z' t j = livZ z t j := by
    intro t j ht hj
    unfold livZ
    rw [e _ (by omega), e _ (by omega), e _ (by omega)]
  refine ⟨⟨⟨?_, by rw [e 0 (by omega)]; exact h2, fun n n1 n2 => ?_, fun n hn => ?_⟩, fun t j ht hj => ?_⟩, em, eo⟩
  · obtain ⟨k, k1, k2⟩ := h1
    exact ⟨k, k1, by rw [e 1 (by omega)]; exact k2⟩
  · rw [em] at n1
    obtain ⟨a1, a2, a3, a4⟩ := h3 n (by omega) n2
    rw [e _ (by omega), e _ (by omega), e _ (by omega), e _ (by omega)]
    exact ⟨a1, a2, a3, a4⟩
  · rw [em] at hn
    obtain ⟨⟨a1, a2⟩, b, c1, d⟩ := h4 n hn
    refine ⟨⟨?_, ?_⟩, ?_, ?_, fun w => ?_⟩
    · rw [e _ (by omega)]; exact a1
    · rw [e _ (by omega)]
      rcases a2 with q | ⟨j, j1, j2, j3⟩
      · exact Or.inl q
      · exact Or.inr ⟨j, j1, j2, by rw [e _ (by omega)]; exact j3⟩
    · unfold DelI
      rw [em, e (16 + 16 * n) (by omega), e (16 + 16 * n + 12) (by omega), e (16 + 16 * n + 13) (by omega), e (16 + 16 * n + 14) (by omega)]
      exact b
    · rw [e (16 + 16 * n) (by omega), e (16 + 16 * n + 11) (by omega)]; exact c1
    · rw [e (16 + 16 * n) (by omega)] at w
      obtain ⟨⟨o1, o2⟩, ti, mi, pi⟩ := d w
      have n10 : n < 10 := by omega
      have o8 : own z n ≤ 8 := o2
      have eM : ∀ j k, j < 8 → k < 8 → z' (mA n j + k) = z (mA n j + k) := fun j k _ _ => e _ (by unfold mA; omega)
      have eC : ∀ j k, j < 8 → k < 8 → z' (cA n j k) = z (cA n j k) := fun j k _ _ => e _ (by unfold cA; omega)
      have eC1 : ∀ j k, j < 8 → k < 8 → z' (cA n j k + 1) = z (cA n j k + 1) := fun j k _ _ => e _ (by unfold cA; omega)
      refine ⟨⟨?_, by rw [eo n n10]; exact o2⟩, ?_, fun j hj => ?_, fun j j' hj hj' => ?_⟩
      · rw [eo n n10, e _ (by omega)]; exact o1
      · unfold TrI at ti ⊢
        rw [e _ (by omega), e _ (by omega), e _ (by omega), e _ (by omega), e _ (by omega), e _ (by omega), e _ (by omega), e _ (by omega), e _ (by omega)]
        exact ti
      · rw [eo n n10] at hj
        have j8 : j < 8 := by omega
        obtain ⟨⟨i, i1, i2, i3⟩, p1, p2, ⟨k1, k2, k3, k4⟩, ⟨u, T, u1, u2, u3, u4⟩, cn, c2, c3⟩ := mi j hj
        have ekn : knw z' n j = knw z n j := by unfold knw; exact congrArg Int32.toNatClampNeg (eM j 6 j8 (by omega))
        have kn8 : knw z n j ≤ 8 := cn.2
        refine ⟨⟨i, by omega, by rw [eM j 0 j8 (by omega)]; exact i2, by rw [e _ (by omega)]; exact i3⟩, by rw [eM j 1 j8 (by omega)]; exact p1, by rw [eM j 2 j8 (by omega)]; exact p2, ⟨?_, ?_, ?_, ?_⟩, ⟨u, T, u1, u2, by rw [eM j 5 j8 (by omega)]; exact u3, by rw [e 0 (by omega)]; exact u4⟩, ?_, ?_, ?_⟩
        · rw [e _ (by omega), eM j 3 j8 (by omega)]; exact k1
        · rw [e _ (by omega), eM j 3 j8 (by omega), em]; exact k2
        · rw [e _ (by omega), eM j 4 j8 (by omega)]; exact k3
        · rw [e _ (by omega), eM j 4 j8 (by omega)]; exact k4
        · unfold KnwOK at cn ⊢
          rw [ekn]
          have := eM j 6 j8 (by omega)
          unfold mA at this
          rw [this]
          exact cn
        · intro k hk
          rw [ekn] at hk
          rw [eC j k j8 (by omega), eC1 j k j8 (by omega), em]
          exact c2 k hk
        · intro k k' hk hk'
          rw [ekn] at hk'
          rw [eC j k j8 (by omega), eC1 j k j8 (by omega), eC j k' j8 (by omega), eC1 j k' j8 (by omega)]
          exact c3 k k' hk hk'
      · rw [eo n n10] at hj'
        rw [eM j 0 (by omega) (by omega), eM j 1 (by omega) (by omega), eM j 3 (by omega) (by omega), eM j 4 (by omega) (by omega), eM j' 0 (by omega) (by omega), eM j' 1 (by omega) (by omega), eM j' 3 (by omega) (by omega), eM j' 4 (by omega) (by omega)]
        exact pi j j' hj hj'
  · rw [em] at ht
    rw [eo t (by omega)] at hj
    have o8 : own z t ≤ 8 := (ow t (by omega)).2
    rw [el t j (by omega) (by omega)]
    exact lv t j ht hj
/-- a network whose cells have not changed, and numbers that agree -/
theorem NwR.mv {h h' : AH} {wo : Nat} {z z' : Nat → Int32} (hw : WF h) (inv : Inv z) (k : NwR h wo z) (f : ∀ b, b < hN h → rt h b = some wo → same1 h h' b) (e : eqA z z') : NwR h' wo z' := by
  have m10 := inv.1.1.at.2
  obtain ⟨-, em, eo⟩ := inv_cg inv e
  obtain ⟨⟨⟨a1, a2, a3, a4⟩, a5, a6, ⟨b1, b2, b3, b4⟩, nod⟩, ⟨k2, k3, k4, k5⟩, k6, k7⟩ := id k
  have sw := f wo (hw.lt (show tg h wo ≠ 99 by rw [a1]; decide)) (rt_gh a5)
  have sA := f (nA h wo) (hw.lt (show tg h (nA h wo) ≠ 99 by rw [a3]; decide)) (rt_gh a6)
  have sL := f (lA h wo) (hw.lt (show tg h (lA h wo) ≠ 99 by rw [b2]; decide)) (rt_gh b4)
  have eL := lA_same sw
  refine ⟨k.1.low hw (fun {b} hb hr => f b hb hr), ⟨by rw [sw.2.1, em]; exact k2, by rw [sw.2.1, e 0 (by omega)]; exact k3, by rw [sw.2.1, e 2 (by omega)]; exact k4, by rw [sw.2.1, e 3 (by omega)]; exact k5⟩, fun q q1 q2 => by rw [eL, sL.2.1, e _ (by omega)]; exact k6 q q1 q2, fun i hi => ?_⟩
  rw [em] at hi
  rw [eo i (by omega)]
  exact (k7 i hi).keep hw k.1 (by omega) (inv.1.own i (by omega)).2 (fun q => (inv_kn inv.1 hi q).2) ⟨sw, sA⟩ (fun b hb ⟨_, _, e, _⟩ => f b hb (rt_gh e)) (fun w hw => e _ (by omega)) (fun _ => ⟨fun e' he => e _ (by unfold mA; omega), fun e' he => e _ (by unfold cA; omega)⟩)
/-- the class, where only cells that have no owner have changed -/
theorem HpR.mv {h h' : AH} {A : Nat → Nat} {z zs t z' zs' t' : Nat → Int32} {n : Nat} (k : HpR h A z zs t n) (hw' : WF h') (iv : Inv z) (is : hI h (A 0) 6 = nI 1 → Inv zs) (f : ∀ b, b < hN h → rt h b ≠ none → same1 h h' b) (e : eqA z z') (es : hI h (A 0) 6 = nI 1 → eqA zs zs') (et : ∀ k, k < n → t' k = t k) : HpR h' A z' zs' t' n ∧ hI h' (A 0) = hI h (A 0) := by
  obtain ⟨a, k1, k2, k3, k4, k5, k6, k7, k8, k9⟩ := k
  obtain ⟨⟨a1, a2⟩, b, ⟨c1, c2, c3⟩, ⟨d1, d2, d3, d4⟩, ⟨e1, e2, e3⟩, g, g0, hw⟩ := id a
  have fs : ∀ {w : Nat} (b : Nat), b < hN h → rt h b = some w → same1 h h' b := fun b hb hr => f b hb (by rw [hr]; intro q; cases q)
  have s0 := fs (A 0) (hw.lt (show tg h (A 0) ≠ 99 by rw [a1]; decide)) (rt_gh a2)
  have s7 := fs (A 7) (hw.lt (show tg h (A 7) ≠ 99 by rw [c1]; decide)) (rt_gh c3)
  have s4 := fs (A 4) (hw.lt (show tg h (A 4) ≠ 99 by rw [d1]; decide)) (rt_gh d2)
  have s6 := fs (A 6) (hw.lt (show tg h (A 6) ≠ 99 by rw [e1]; decide)) (rt_gh e3)
  refine ⟨⟨⟨⟨s0.tg.trans a1, s0.gh.trans a2⟩, by rw [s0.2.2.1]; exact b, ⟨s7.tg.trans c1, s7.ln.trans c2, s7.gh.trans c3⟩, ⟨s4.tg.trans d1, s4.gh.trans d2, by rw [s4.2.2.1]; exact d3, by rw [s4.2.2.1]; exact d4⟩, ⟨s6.tg.trans e1, s6.ln.trans e2, s6.gh.trans e3⟩, g, g0, hw'⟩, k1.mv hw iv (fun b hb hr => fs b hb hr) e, k2.low hw (fun {b} hb hr => fs b hb hr), fun q => ?_, by rw [s0.2.1]; exact k4, k5.low hw (fun {b} hb hr => fs b hb hr), k6.low hw (fun {b} hb hr => fs b hb hr), by rw [s0.2.1]; exact k7, k8, fun q hq => by rw [s7.2.1, et q hq]; exact k9 q hq⟩, s0.2.1⟩
  rw [s0.2.1] at q
  exact (k3 q).mv hw (is q) (fun b hb hr => fs b hb hr) (es q)
