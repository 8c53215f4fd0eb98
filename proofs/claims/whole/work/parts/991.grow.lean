/-! WHAT HOLDS OF THE NUMBERS: a node more -/
theorem inv_grow {z z' : Nat → Int32} {N : Nat} (inv : Inv z) (hN : N = mny z) (n10 : N < 10) (e1 : z' 1 = nI (N + 1)) (e : ∀ q, q ≠ 1 → (q < 16 + 16 * N ∨ 32 + 16 * N ≤ q) → z' q = z q) (e11 : z' (16 + 16 * N + 11) = nI 0) (ek : z' (16 + 16 * N) = nI 0 ∨ z' (16 + 16 * N) = nI 1 ∧ TrI z' N) (en : NeZ z (z' (16 + 16 * N + 1))) (ed : z' (16 + 16 * N + 12) = nN ∧ z' (16 + 16 * N + 13) = nN ∧ z' (16 + 16 * N + 14) = nN) : Inv z' ∧ mny z' = N + 1 := by
  have ow := inv.1.own
  obtain ⟨⟨h1, h2, h3, h4⟩, lv⟩ := inv
  subst hN
  have em : mny z' = mny z + 1 := mny_nI e1 (by omega)
  have eo : ∀ t, t < mny z → own z' t = own z t := fun t ht => by unfold own; rw [e _ (by omega) (by omega)]
  have oN : own z' (mny z) = 0 := (own0 e11).2
  have el : ∀ t j, t < mny z → j < 8 → livZ z' t j = livZ z t j := by
    intro t j ht hj
    unfold livZ
    rw [e _ (by omega) (by omega), e _ (by omega) (by omega), e _ (by omega) (by omega)]
  refine ⟨⟨⟨⟨mny z + 1, by omega, e1⟩, by rw [e 0 (by omega) (by omega)]; exact h2, fun n n1 n2 => ?_, fun n hn => ?_⟩, fun t j ht hj => ?_⟩, em⟩
  · rw [em] at n1
    obtain ⟨a1, a2, a3, a4⟩ := h3 n (by omega) n2
    rw [e _ (by omega) (by omega), e _ (by omega) (by omega), e _ (by omega) (by omega), e _ (by omega) (by omega)]
    exact ⟨a1, a2, a3, a4⟩
  · rw [em] at hn
    by_cases c : n = mny z
    · subst c
      refine ⟨⟨ek.elim Or.inl (fun w => Or.inr w.1), ?_⟩, Or.inl ed, fun _ => e11, fun w => ⟨(own0 e11).1, ?_, fun j hj => ?_, fun j j' _ hj => ?_⟩⟩
      · rcases en with q | ⟨j, j1, j2, j3⟩
        · exact Or.inl q
        · exact Or.inr ⟨j, j1, j2, by rw [e _ (by omega) (by omega)]; exact j3⟩
      · rcases ek with q | q
        · rw [q] at w; exact absurd w (by decide)
        · exact q.2
      · rw [oN] at hj; omega
      · rw [oN] at hj; omega
    · obtain ⟨⟨a1, a2⟩, b, c1, d⟩ := h4 n (by omega)
      have ln : n < mny z := by omega
      refine ⟨⟨?_, ?_⟩, ?_, ?_, fun w => ?_⟩
      · rw [e _ (by omega) (by omega)]; exact a1
      · rw [e _ (by omega) (by omega)]
        rcases a2 with q | ⟨j, j1, j2, j3⟩
        · exact Or.inl q
        · exact Or.inr ⟨j, j1, j2, by rw [e _ (by omega) (by omega)]; exact j3⟩
      · unfold DelI
        rw [em, e (16 + 16 * n) (by omega) (by omega), e (16 + 16 * n + 12) (by omega) (by omega), e (16 + 16 * n + 13) (by omega) (by omega), e (16 + 16 * n + 14) (by omega) (by omega)]
        rcases b with q | ⟨q1, ⟨b', q2, q3⟩, q4, q5⟩
        · exact Or.inl q
        · exact Or.inr ⟨q1, ⟨b', by omega, q3⟩, q4, q5⟩
      · rw [e (16 + 16 * n) (by omega) (by omega), e (16 + 16 * n + 11) (by omega) (by omega)]; exact c1
      · rw [e (16 + 16 * n) (by omega) (by omega)] at w
        obtain ⟨⟨o1, o2⟩, ti, mi, pi⟩ := d w
        have o8 : own z n ≤ 8 := o2
        have eM : ∀ j k, j < 8 → z' (mA n j + k) = z (mA n j + k) := fun j k _ => e _ (by unfold mA; omega) (by unfold mA; omega)
        have eC : ∀ j k, z' (cA n j k) = z (cA n j k) := fun j k => e _ (by unfold cA; omega) (by unfold cA; omega)
        have eC1 : ∀ j k, z' (cA n j k + 1) = z (cA n j k + 1) := fun j k => e _ (by unfold cA; omega) (by unfold cA; omega)
        refine ⟨⟨?_, by rw [eo n ln]; exact o2⟩, ?_, fun j hj => ?_, fun j j' hj hj' => ?_⟩
        · rw [eo n ln, e _ (by omega) (by omega)]; exact o1
        · unfold TrI at ti ⊢
          rw [e _ (by omega) (by omega), e _ (by omega) (by omega), e _ (by omega) (by omega), e _ (by omega) (by omega), e _ (by omega) (by omega), e _ (by omega) (by omega), e _ (by omega) (by omega), e _ (by omega) (by omega), e _ (by omega) (by omega)]
          exact ti
        · rw [eo n ln] at hj
          have j8 : j < 8 := by omega
          obtain ⟨⟨i, i1, i2, i3⟩, p1, p2, ⟨k1, k2, k3, k4⟩, ⟨u, T, u1, u2, u3, u4⟩, cn, c2, c3⟩ := mi j hj
          have ekn : knw z' n j = knw z n j := by unfold knw; exact congrArg Int32.toNatClampNeg (eM j 6 j8)
          refine ⟨⟨i, by omega, by rw [eM j 0 j8]; exact i2, by rw [e _ (by omega) (by omega)]; exact i3⟩, by rw [eM j 1 j8]; exact p1, by rw [eM j 2 j8]; exact p2, ⟨?_, ?_, ?_, ?_⟩, ⟨u, T, u1, u2, by rw [eM j 5 j8]; exact u3, by rw [e 0 (by omega) (by omega)]; exact u4⟩, ?_, ?_, ?_⟩
          · rw [e _ (by omega) (by omega), eM j 3 j8]; exact k1
          · rw [e _ (by omega) (by omega), eM j 3 j8]
            intro q
            obtain ⟨b', b1, b2⟩ := k2 q
            exact ⟨b', by omega, b2⟩
          · rw [e _ (by omega) (by omega), eM j 4 j8]; exact k3
          · rw [e _ (by omega) (by omega), eM j 4 j8]; exact k4
          · unfold KnwOK at cn ⊢
            rw [ekn]
            have := eM j 6 j8
            unfold mA at this
            rw [this]
            exact cn
          · intro k hk
            rw [ekn] at hk
            obtain ⟨⟨b', b1, b2⟩, b3⟩ := c2 k hk
            rw [eC, eC1]
            exact ⟨⟨b', by omega, b2⟩, b3⟩
          · intro k k' hk hk'
            rw [ekn] at hk'
            rw [eC, eC1, eC, eC1]
            exact c3 k k' hk hk'
        · rw [eo n ln] at hj'
          rw [eM j 0 (by omega), eM j 1 (by omega), eM j 3 (by omega), eM j 4 (by omega), eM j' 0 (by omega), eM j' 1 (by omega), eM j' 3 (by omega), eM j' 4 (by omega)]
          exact pi j j' hj hj'
  · rw [em] at ht
    by_cases c : t = mny z
    · subst c
      rw [oN] at hj; omega
    · rw [eo t (by omega)] at hj
      have o8 : own z t ≤ 8 := (ow t (by omega)).2
      rw [el t j (by omega) (by omega)]
      exact lv t j (by omega) hj
theorem inv_addZ {z : Nat → Int32} {net : Int32} (inv : Inv z) (n10 : mny z < 10) (hn : NeZ z net) : Inv (addZ z net) ∧ mny (addZ z net) = mny z + 1 := by
  obtain ⟨f1, f2, f3, f4⟩ := inv.1.2.2.1 (mny z) (Nat.le_refl _) n10
  refine inv_grow inv rfl n10 ?_ (fun q q1 q2 => ?_) ?_ (Or.inl ?_) ?_ ⟨?_, ?_, ?_⟩ <;> unfold addZ
  · rw [upd_ne (by omega), upd_ne (by omega), upd_ne (by omega), upd_ne (by omega), upd_s]
  · rw [upd_ne (by omega), upd_ne (by omega), upd_ne (by omega), upd_ne (by omega), upd_ne (by omega)]
  · rw [upd_ne (by omega), upd_ne (by omega), upd_ne (by omega), upd_ne (by omega), upd_ne (by omega)]; exact f4
  · rw [upd_ne (by omega), upd_ne (by omega), upd_ne (by omega), upd_ne (by omega), upd_ne (by omega)]; exact f1
  · rw [upd_ne (by omega), upd_ne (by omega), upd_ne (by omega), upd_s]; exact hn
  · rw [upd_ne (by omega), upd_ne (by omega), upd_s]
  · rw [upd_ne (by omega), upd_s]
  · rw [upd_s]
theorem inv_addTZ {z : Nat → Int32} {net a b c : Int32} (inv : Inv z) (n10 : mny z < 10) (hn : NeZ z net) (ha : in1 a 0 2) (hb : in1 b 0 2) (hc : in1 c 0 2) : Inv (addTZ z net a b c) ∧ mny (addTZ z net a b c) = mny z + 1 ∧ TrZ (addTZ z net a b c) (nI (mny z)) := by
  obtain ⟨f1, f2, f3, f4⟩ := inv.1.2.2.1 (mny z) (Nat.le_refl _) n10
  have k1 : addTZ z net a b c (16 + 16 * mny z) = nI 1 := by
    unfold addTZ wN
    rw [upd_ne (by omega), upd_ne (by omega), upd_ne (by omega), upd_ne (by omega), upd_ne (by omega), upd_ne (by omega), upd_ne (by omega)]
    exact upd_s _ _ _
  have r : Inv (addTZ z net a b c) ∧ mny (addTZ z net a b c) = mny z + 1 := by
    refine inv_grow inv rfl n10 ?_ (fun q q1 q2 => ?_) ?_ (Or.inr ⟨k1, ?_, ?_, ?_, ?_, ?_, ?_, ?_, ?_, ?_⟩) ?_ ⟨?_, ?_, ?_⟩ <;> unfold addTZ wN addZ
    · repeat rw [upd_ne (by omega)]
      exact upd_s _ _ _
    · repeat rw [upd_ne (by omega)]
    · repeat rw [upd_ne (by omega)]
      exact f4
    · repeat rw [upd_ne (by omega)]
      rw [upd_s]; exact ha
    · repeat rw [upd_ne (by omega)]
      rw [upd_s]; exact hb
    · repeat rw [upd_ne (by omega)]
      rw [upd_s]; exact hc
    · repeat rw [upd_ne (by omega)]
      rw [upd_s]; exact ⟨1, by omega, by omega, rfl⟩
    · repeat rw [upd_ne (by omega)]
      rw [upd_s]; exact ⟨60, by omega, by omega, rfl⟩
    · repeat rw [upd_ne (by omega)]
      exact ⟨0, by omega, by omega, f2⟩
    · repeat rw [upd_ne (by omega)]
      exact ⟨0, by omega, by omega, f3⟩
    · repeat rw [upd_ne (by omega)]
      rw [upd_s]; exact ⟨1000, by omega, by omega, rfl⟩
    · rw [upd_s]; exact ⟨mny z + 1, by omega, by omega, rfl⟩
    · repeat rw [upd_ne (by omega)]
      rw [upd_s]; exact hn
    · repeat rw [upd_ne (by omega)]
      exact upd_s _ _ _
    · repeat rw [upd_ne (by omega)]
      exact upd_s _ _ _
    · repeat rw [upd_ne (by omega)]
      exact upd_s _ _ _
  exact ⟨r.1, r.2, mny z, by rw [r.2]; omega, rfl, k1⟩
/-- nothing is there -/
theorem inv_zero {z : Nat → Int32} (h : ∀ q, q < 176 → z q = nI 0) : Inv z ∧ mny z = 0 := by
  have m0 : mny z = 0 := by unfold mny; rw [h 1 (by omega)]; rfl
  refine ⟨⟨⟨⟨0, by omega, h 1 (by omega)⟩, ⟨0, by omega, by omega, h 0 (by omega)⟩, fun n _ hn => ⟨h _ (by omega), h _ (by omega), h _ (by omega), h _ (by omega)⟩, fun n hn => by omega⟩, fun t j ht => by omega⟩, m0⟩
