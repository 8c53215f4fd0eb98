/-! WHAT PACKETS LEAVE TRUE -/
section
variable {z z' : Nat → Int32} {t j j0 : Nat}
theorem mny_eq (e : z' 1 = z 1) : mny z' = mny z := by unfold mny; rw [e]
theorem MapI.congr (h1 : z' 1 = z 1) (h0 : ∃ T T', T ≤ T' ∧ T' ≤ 100000 ∧ z 0 = nI T ∧ z' 0 = nI T') (hr : z' (16 + 16 * t + 2) = z (16 + 16 * t + 2)) (hm : ∀ w, w < 7 → z' (mA t j + w) = z (mA t j0 + w)) (hc : ∀ e, e < 16 → z' (cA t j 0 + e) = z (cA t j0 0 + e)) (hn : ∀ i, i < mny z → z' (16 + 16 * i + 1) = z (16 + 16 * i + 1)) (k : MapI z t j0) : MapI z' t j := by
  have em := mny_eq h1
  obtain ⟨⟨i, i1, i2, i3⟩, p1, p2, ⟨k1, k2, k3, k4⟩, ⟨u, T, u1, u2', u3, u4⟩, ⟨n1, n2⟩, c1, c2⟩ := k
  have ek : knw z' t j = knw z t j0 := by
    unfold knw
    exact congrArg Int32.toNatClampNeg (hm 6 (by omega))
  have ca : ∀ k, k < 8 → z' (cA t j k) = z (cA t j0 k) ∧ z' (cA t j k + 1) = z (cA t j0 k + 1) := by
    intro k hk
    have q1 := hc (2 * k) (by omega)
    have q2 := hc (2 * k + 1) (by omega)
    rw [show cA t j 0 + 2 * k = cA t j k by unfold cA; omega, show cA t j0 0 + 2 * k = cA t j0 k by unfold cA; omega] at q1
    rw [show cA t j 0 + (2 * k + 1) = cA t j k + 1 by unfold cA; omega, show cA t j0 0 + (2 * k + 1) = cA t j0 k + 1 by unfold cA; omega] at q2
    exact ⟨q1, q2⟩
  obtain ⟨T0, T', t1, t2, t3, t4⟩ := h0
  refine ⟨⟨i, by rw [em]; exact i1, by rw [hm 0 (by omega)]; exact i2, by rw [hn i i1]; exact i3⟩, by rw [hm 1 (by omega)]; exact p1, by rw [hm 2 (by omega)]; exact p2, ⟨?_, ?_, ?_, ?_⟩, ⟨u, T', ?_, t2, by rw [hm 5 (by omega)]; exact u3, t4⟩, ⟨⟨?_, by rw [ek]; exact n2⟩, fun k hk => ?_, fun k k' hk hk' => ?_⟩⟩
  · rw [hr, hm 3 (by omega)]; exact k1
  · rw [hr, hm 3 (by omega), em]; exact k2
  · rw [hr, hm 4 (by omega)]; exact k3
  · rw [hr, hm 4 (by omega)]; exact k4
  · rw [u4, nI_eq (by omega) (by omega)] at t3; omega
  · rw [ek]
    exact (hm 6 (by omega)).trans n1
  · rw [ek] at hk
    rw [(ca k (by omega)).1, (ca k (by omega)).2, em]
    exact c1 k hk
  · rw [ek] at hk'
    rw [(ca k (by omega)).1, (ca k (by omega)).2, (ca k' (by omega)).1, (ca k' (by omega)).2]
    exact c2 k k' hk hk'
theorem TrI.congr (h : ∀ w, w < 11 → z' (16 + 16 * t + w) = z (16 + 16 * t + w)) (k : TrI z t) : TrI z' t := by
  unfold TrI at k ⊢
  rw [h 2 (by omega), h 3 (by omega), h 4 (by omega), h 5 (by omega), h 6 (by omega), h 7 (by omega), h 8 (by omega), h 9 (by omega), h 10 (by omega)]
  exact k
theorem own_eq (h : z' (16 + 16 * t + 11) = z (16 + 16 * t + 11)) : own z' t = own z t := by unfold own; rw [h]
theorem TraI.congr (h1 : z' 1 = z 1) (h0 : ∃ T T', T ≤ T' ∧ T' ≤ 100000 ∧ z 0 = nI T ∧ z' 0 = nI T') (en : eqN z z' t) (em : eqM z z' t) (hn : ∀ i, i < mny z → z' (16 + 16 * i + 1) = z (16 + 16 * i + 1)) (k : TraI z t) : TraI z' t := by
  obtain ⟨⟨o1, o2⟩, k1, k2, k3⟩ := k
  have eo := own_eq (z := z) (z' := z') (t := t) (en 11 (by omega))
  refine ⟨⟨by rw [eo, en 11 (by omega)]; exact o1, by rw [eo]; exact o2⟩, k1.congr (fun w hw => en w (by omega)), fun j hj => ?_, fun j j' hj hj' => ?_⟩
  · rw [eo] at hj
    exact (k2 j hj).congr h1 h0 (en 2 (by omega)) (fun w hw => em.mr (by omega) hw) (fun e he => em.cr (by omega) he) hn
  · rw [eo] at hj'
    rw [em.mr (w := 0) (by omega) (by omega), em.mr (w := 1) (by omega) (by omega), em.mr (w := 3) (by omega) (by omega), em.mr (w := 4) (by omega) (by omega), em.mr (j := j') (w := 0) (by omega) (by omega), em.mr (j := j') (w := 1) (by omega) (by omega), em.mr (j := j') (w := 3) (by omega) (by omega), em.mr (j := j') (w := 4) (by omega) (by omega)]
    exact k3 j j' hj hj'
end
/-- places of translator t that packets change -/
def tPl (t j : Nat) : Prop := (16 + 16 * t + 9 ≤ j ∧ j ≤ 16 + 16 * t + 11) ∨ (mA t 0 ≤ j ∧ j < mA t 0 + 64) ∨ (cA t 0 0 ≤ j ∧ j < cA t 0 0 + 128)
/-- only numbers of translator t have changed -/
theorem Inv.tr {z z' : Nat → Int32} {t : Nat} (k : Inv z) (ht : t < mny z) (tk : z (16 + 16 * t) = nI 1) (e : ∀ j, ¬ tPl t j → z' j = z j) (tr : TraI z' t) (lv : ∀ j, j < own z' t → nI 0 ≤ livZ z' t j) : Inv z' ∧ mny z' = mny z := by
  obtain ⟨⟨z10, tick, fre, nod⟩, liv⟩ := k
  have t10 : t < 10 := by have := z10.at.2; omega
  have e0 : z' 0 = z 0 := e 0 (by unfold tPl mA cA; omega)
  have e1 : z' 1 = z 1 := e 1 (by unfold tPl mA cA; omega)
  have em := mny_eq e1
  have row : ∀ n k, n < 10 → k < 16 → (n ≠ t ∨ k < 9 ∨ 11 < k) → z' (16 + 16 * n + k) = z (16 + 16 * n + k) := by
    intro n k hn hk c
    refine e _ ?_
    unfold tPl mA cA
    omega
  have row0 : ∀ n, n < 10 → z' (16 + 16 * n) = z (16 + 16 * n) := fun n hn => row n 0 hn (by omega) (Or.inr (Or.inl (by omega)))
  have net : ∀ i, i < 10 → z' (16 + 16 * i + 1) = z (16 + 16 * i + 1) := fun i hi => row i 1 hi (by omega) (Or.inr (Or.inl (by omega)))
  have hz := z10.at.2
  obtain ⟨T, T1, T2, T3⟩ := tick
  have ht0 : ∃ T T', T ≤ T' ∧ T' ≤ 100000 ∧ z 0 = nI T ∧ z' 0 = nI T' := ⟨T, T, Nat.le_refl _, T2, T3, e0.trans T3⟩
  have eqn : ∀ n, n < 10 → n ≠ t → eqN z z' n := fun n hn hne w hw => row n w hn hw (Or.inl hne)
  have eqm : ∀ n, n < 10 → n ≠ t → eqM z z' n := fun n hn hne => ⟨fun w hw => e _ (by unfold tPl mA cA; omega), fun w hw => e _ (by unfold tPl mA cA; omega)⟩
  refine ⟨⟨⟨?_, ⟨T, T1, T2, e0.trans T3⟩, fun n h1 h2 => ?_, fun n hn => ?_⟩, fun s j hs hj => ?_⟩, em⟩
  · obtain ⟨k, k1, k2⟩ := z10
    exact ⟨k, k1, e1.trans k2⟩
  · rw [em] at h1
    have hne : n ≠ t := by omega
    rw [row0 n h2, row n 7 h2 (by omega) (Or.inl hne), row n 8 h2 (by omega) (Or.inl hne), row n 11 h2 (by omega) (Or.inl hne)]
    exact fre n h1 h2
  · rw [em] at hn
    have h10 : n < 10 := by omega
    obtain ⟨a1, a2, a3, a4⟩ := nod n hn
    refine ⟨⟨?_, ?_⟩, ?_, fun q => ?_, fun q => ?_⟩
    · rw [row0 n h10]; exact a1.1
    · rw [net n h10]
      rcases a1.2 with q | ⟨i, i1, i2, i3⟩
      · exact Or.inl q
      · exact Or.inr ⟨i, i1, i2, by rw [row0 i (by omega)]; exact i3⟩
    · unfold DelI
      rw [row n 12 h10 (by omega) (Or.inr (Or.inr (by omega))), row n 13 h10 (by omega) (Or.inr (Or.inr (by omega))), row n 14 h10 (by omega) (Or.inr (Or.inr (by omega))), row0 n h10, em]
      exact a2
    · rw [row0 n h10] at q
      have hne : n ≠ t := fun q2 => by
        rw [q2, tk] at q
        exact absurd q (by decide)
      rw [row n 11 h10 (by omega) (Or.inl hne)]
      exact a3 q
    · by_cases hne : n = t
      · rw [hne]; exact tr
      · rw [row0 n h10] at q
        exact (a4 q).congr e1 ht0 (eqn n h10 hne) (eqm n h10 hne) (fun i hi => net i (by omega))
  · rw [em] at hs
    by_cases hne : s = t
    · rw [hne] at hj ⊢
      exact lv j hj
    · have s10 : s < 10 := by omega
      have eo : own z' s = own z s := own_eq (row s 11 s10 (by omega) (Or.inl hne))
      rw [eo] at hj
      have o8 := (Inv0.own (show Inv0 z from ⟨z10, ⟨T, T1, T2, T3⟩, fre, nod⟩) s s10).2
      have q := liv s j hs hj
      unfold livZ at q ⊢
      rw [row s 6 s10 (by omega) (Or.inl hne), e0, show z' (176 + 8 * (8 * s + j) + 5) = z (176 + 8 * (8 * s + j) + 5) from (eqm s s10 hne).mr (j := j) (w := 5) (by omega) (by omega)]
      exact q
section
variable {z : Nat → Int32} {t m c b d : Nat}
/-- what meet does to contacts -/
theorem ConI.mee (k : ConI z t m) (ec : knw z t m = c) (hb : b < mny z) (hm : mny z ≤ 10) (hd : 1 ≤ d ∧ d ≤ 9999) : ConI (meeZ z t m c (nI b) (nI d)) t m := by
  obtain ⟨⟨n1, n2⟩, c1, c2⟩ := k
  rw [ec] at n1 n2 c1 c2
  have em : mny (meeZ z t m c (nI b) (nI d)) = mny z := mny_eq (mee_low n2 (by unfold cA; omega) (by unfold mA; omega) c2)
  have fin : ∀ (y : Nat → Int32) (c' : Nat) (g : Nat → Nat), mny y = mny z → 1 ≤ c' → c' ≤ 8 → y (mA t m + 6) = nI c' → (∀ k, k + 1 < c' → g k < c ∧ ¬ cMt z t m (nI b) (nI d) (g k) ∧ y (cA t m k) = z (cA t m (g k)) ∧ y (cA t m k + 1) = z (cA t m (g k) + 1)) → (∀ k k', k < k' → g k < g k') → cMt y t m (nI b) (nI d) (c' - 1) → ConI y t m := by
    intro y c' g ey h1 h8 e6 all mono last
    have ek : knw y t m = c' := by
      unfold knw
      rw [show 176 + 8 * (8 * t + m) + 6 = mA t m + 6 from rfl, e6, nI_clamp (by omega)]
    refine ⟨⟨by rw [ek]; exact e6, by rw [ek]; exact h8⟩, fun k hk => ?_, fun k k' hk hk' => ?_⟩
    · rw [ek] at hk
      rw [ey]
      by_cases l : k + 1 < c'
      · obtain ⟨g1, -, g2, g3⟩ := all k l
        rw [g2, g3]
        exact c1 _ g1
      · have : k = c' - 1 := by omega
        rw [this, last.1, last.2]
        exact ⟨⟨b, hb, rfl⟩, ⟨d, hd.1, hd.2, rfl⟩⟩
    · rw [ek] at hk'
      obtain ⟨g1, g2, g3, g4⟩ := all k (by omega)
      rintro ⟨q1, q2⟩
      rw [g3] at q1
      rw [g4] at q2
      by_cases l : k' + 1 < c'
      · obtain ⟨g1', g2', g3', g4'⟩ := all k' l
        rw [g3'] at q1
        rw [g4'] at q2
        exact c2 _ _ (mono k k' hk) g1' ⟨q1, q2⟩
      · have : k' = c' - 1 := by omega
        rw [this, last.1] at q1
        rw [this, last.2] at q2
        exact g2 ⟨q1, q2⟩
  by_cases q : ∃ g, g < c ∧ cMt z t m (nI b) (nI d) g
  · obtain ⟨g, g1, g2⟩ := q
    have h2 : ∀ k, k < c → k ≠ g → ¬ cMt z t m (nI b) (nI d) k := by
      intro k hk hne hm
      rcases Nat.lt_or_gt_of_ne hne with l | l
      · exact c2 k g l g1 ⟨hm.1.trans g2.1.symm, hm.2.trans g2.2.symm⟩
      · exact c2 g k l hk ⟨g2.1.trans hm.1.symm, g2.2.trans hm.2.symm⟩
    rw [meeC g1 n2 g2 h2] at em ⊢
    refine fin _ c (fun k => if k < g then k else k + 1) em (by omega) n2 ?_ (fun k hk => ?_) (fun k k' hk => ?_) ⟨?_, ?_⟩
    · unfold putC; rw [upd_eq rfl]; congr 1; omega
    · unfold putC sh2
      by_cases l : k < g
      · rw [if_pos l, upd_ne (by unfold cA; omega), upd_ne (by unfold cA; omega), upd_ne (by unfold cA; omega), upd_ne (by unfold cA; omega), upd_ne (by unfold cA; omega), upd_ne (by unfold cA; omega), if_neg (by unfold cA; omega), if_neg (by unfold cA; omega)]
        exact ⟨by omega, h2 k (by omega) (by omega), rfl, rfl⟩
      · rw [if_neg l, upd_ne (by unfold cA; omega), upd_ne (by unfold cA; omega), upd_ne (by unfold cA; omega), upd_ne (by unfold cA; omega), upd_ne (by unfold cA; omega), upd_ne (by unfold cA; omega), if_pos (by unfold cA; omega), if_pos (by unfold cA; omega)]
        exact ⟨by omega, h2 (k + 1) (by omega) (by omega), rfl, rfl⟩
    · split <;> split <;> omega
    · unfold putC; rw [upd_ne (by unfold cA; omega), upd_ne (by omega), upd_s]
    · unfold putC; rw [upd_ne (by unfold cA; omega), upd_s]
  · have h2 : ∀ k, k < c → ¬ cMt z t m (nI b) (nI d) k := fun k hk hm => q ⟨k, hk, hm⟩
    by_cases c8 : c < 8
    · rw [meeA h2 c8] at em ⊢
      refine fin _ (c + 1) (fun k => k) em (by omega) (by omega) ?_ (fun k hk => ?_) (fun k k' hk => hk) ⟨?_, ?_⟩
      · unfold putC; rw [upd_eq rfl]
      · unfold putC
        rw [upd_ne (by unfold cA; omega), upd_ne (by unfold cA; omega), upd_ne (by unfold cA; omega), upd_ne (by unfold cA; omega), upd_ne (by unfold cA; omega), upd_ne (by unfold cA; omega)]
        exact ⟨by omega, h2 k (by omega), rfl, rfl⟩
      · rw [Nat.add_sub_cancel]; unfold putC; rw [upd_ne (by unfold cA; omega), upd_ne (by omega), upd_s]
      · rw [Nat.add_sub_cancel]; unfold putC; rw [upd_ne (by unfold cA; omega), upd_s]
    · rw [meeB h2 (by omega)] at em ⊢
      refine fin _ 8 (fun k => k + 1) em (by omega) (by omega) ?_ (fun k hk => ?_) (fun k k' hk => by omega) ⟨?_, ?_⟩
      · unfold putC; rw [upd_eq rfl]
      · unfold putC shl0
        rw [upd_ne (by unfold cA; omega), upd_ne (by unfold cA; omega), upd_ne (by unfold cA; omega), upd_ne (by unfold cA; omega), upd_ne (by unfold cA; omega), upd_ne (by unfold cA; omega), if_pos (by unfold cA; omega), if_pos (by unfold cA; omega)]
        exact ⟨by omega, h2 (k + 1) (by omega), rfl, rfl⟩
      · show putC (shl0 z t m 2) t m 7 (nI b) (nI d) (cA t m 7) = _
        unfold putC; rw [upd_ne (by unfold cA; omega), upd_ne (by omega), upd_s]
      · show putC (shl0 z t m 2) t m 7 (nI b) (nI d) (cA t m 7 + 1) = _
        unfold putC; rw [upd_ne (by unfold cA; omega), upd_s]
end
