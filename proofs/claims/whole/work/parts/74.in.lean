/-! THE CLASS: numbers of the network itself, deliveries -/
section
variable {h h' : AH} {wn : Nat} {z z' : Nat → Int32}
theorem ShN.congr (e1 : hT h' = hT h) (e2 : hR h' = hR h) (k : ShN h wn) : ShN h' wn := by
  simp only [ShN, ShD, ShT, TlK, NwK, ShM, nA, lA, mM, cC, tg, ln, gh, e1, e2] at k ⊢
  exact k
/-- the network's own numbers alone have changed -/
theorem NwG.hdr {nc nc' n n' : Nat} {sz cnt : Nat → Nat} (hw : WF h) (k : NwG h wn z nc n sz cnt) (e1 : hT h' = hT h) (e2 : hR h' = hR h) (e3 : hL h' = hL h) (ho : ∀ b, b ≠ wn → b ≠ lA h wn → hI h' b = hI h b) (hz : ∀ j, 16 ≤ j → z' j = z j) (hd : hI h' wn 2 = nI nc' ∧ hI h' wn 3 = z' 0 ∧ hI h' wn 4 = z' 2 ∧ hI h' wn 5 = z' 3) (hl : ∀ k, 1 ≤ k → k ≤ 5 → hI h' (lA h wn) k = z' (3 + k)) (hn : n' ≤ n) (n10 : n ≤ 10) (hc : ∀ i', i' < n → z (16 + 16 * i') = nI 1 → ∀ j, j < cnt i' → knw z i' j ≤ 8) (hc0 : ∀ i', i' < n → cnt i' ≤ 8) : NwG h' wn z' nc' n' sz cnt := by
  have s' := k.1.congr e1 e2
  have eL : lA h' wn = lA h wn := by unfold lA; rw [e2]
  have eA : nA h' wn = nA h wn := by unfold nA; rw [e2]
  refine ⟨s', hd, fun q q1 q2 => by rw [eL]; exact hl q q1 q2, fun i hi => ?_⟩
  obtain ⟨⟨a1, a2, a3, a4⟩, a5, a6, ⟨b1, b2, b3, b4⟩, nod⟩ := k.1
  have sam : ∀ b, b < hN h → ndc h wn i b → same1 h h' b := by
    intro b hb ⟨k9, r9, e9, h9⟩
    refine ⟨by rw [e1], ho b (fun q => ?_) (fun q => ?_), by rw [e2], by rw [e3]⟩
    · rw [q, a5] at e9; cases e9
    · rw [q, b4] at e9; cases e9
  obtain ⟨d, d1, d2, d3⟩ := k.2.2.2 i (by omega)
  have sd := nod i d (by omega) d1
  have sdd := sam d (hw.lt (by rw [sd.1]; decide)) ⟨3, [], sd.2.1, by omega⟩
  have en : eqN z z' i := fun w hw => hz _ (by omega)
  refine ⟨d, by rw [eA, e2]; exact d1, d2.keep sdd en, fun q => ?_⟩
  rw [hz _ (by omega)] at q
  obtain ⟨t, t1, t2⟩ := d3 q
  exact ⟨t, by rw [e2]; exact t1, t2.keep hw (sd.2.2 t t1) (hc0 i (by omega)) (hc i (by omega) q) (fun b hb ⟨k9, r9, e9, h9⟩ => sam b hb ⟨k9, r9, e9, by omega⟩) en ⟨fun w hw => hz _ (by unfold mA; omega), fun w hw => hz _ (by unfold cA; omega)⟩⟩
theorem NwR.hdr (hw : WF h) (inv : Inv0 z) (k : NwR h wn z) (e1 : hT h' = hT h) (e2 : hR h' = hR h) (e3 : hL h' = hL h) (ho : ∀ b, b ≠ wn → b ≠ lA h wn → hI h' b = hI h b) (h1 : z' 1 = z 1) (hz : ∀ j, 16 ≤ j → z' j = z j) (hd : hI h' wn 2 = nI (mny z) ∧ hI h' wn 3 = z' 0 ∧ hI h' wn 4 = z' 2 ∧ hI h' wn 5 = z' 3) (hl : ∀ k, 1 ≤ k → k ≤ 5 → hI h' (lA h wn) k = z' (3 + k)) : NwR h' wn z' := by
  have m10 := inv.1.at.2
  have em := mny_eq h1
  have eo : own z' = own z := by
    funext t
    exact own_eq (hz _ (by omega))
  unfold NwR
  rw [em, eo]
  exact NwG.hdr hw k e1 e2 e3 ho hz hd hl (Nat.le_refl _) m10 (fun i hi q => (inv_kn inv hi q).2) (fun i hi => (inv.own i (by omega)).2)
/-- node i has a delivery -/
theorem NwR.setD {i d : Nat} {f : Nat → Int32} (hw : WF h) (inv : Inv0 z) (k : NwR h wn z) (hi : i < mny z) (d1 : hR h (nA h wn) i = some d) (hz : ∀ j, j ≠ 16 + 16 * i + 12 → j ≠ 16 + 16 * i + 13 → j ≠ 16 + 16 * i + 14 → z' j = z j) (nv : NoV (zw h d f) d z' i) : NwR (zw h d f) wn z' := by
  have m10 := inv.1.at.2
  have em : mny z' = mny z := mny_eq (hz 1 (by omega) (by omega) (by omega))
  obtain ⟨k1, ⟨k2, k3, k4, k5⟩, k6, k7⟩ := id k
  obtain ⟨⟨a1, a2, a3, a4⟩, a5, a6, ⟨b1, b2, b3, b4⟩, nod⟩ := id k1
  have sd := nod i d (by omega) d1
  have nw' : wn ≠ d := ne_tg (by rw [a1, sd.1]; decide)
  have nl : lA h wn ≠ d := ne_tg (by rw [b2, sd.1]; decide)
  have eo : ∀ t, t < 10 → own z' t = own z t := fun t ht => own_eq (hz _ (by omega) (by omega) (by omega))
  have eqm : ∀ t, t < 10 → eqM z z' t := fun t ht => ⟨fun w hw => hz _ (by unfold mA; omega) (by unfold mA; omega) (by unfold mA; omega), fun w hw => hz _ (by unfold cA; omega) (by unfold cA; omega) (by unfold cA; omega)⟩
  unfold NwR
  rw [em]
  refine ⟨k1.congr rfl rfl, ⟨?_, ?_, ?_, ?_⟩, fun q q1 q2 => ?_, fun i' hi' => ?_⟩
  · rw [hI_zw_ne _ nw']; exact k2
  · rw [hI_zw_ne _ nw', hz 0 (by omega) (by omega) (by omega)]; exact k3
  · rw [hI_zw_ne _ nw', hz 2 (by omega) (by omega) (by omega)]; exact k4
  · rw [hI_zw_ne _ nw', hz 3 (by omega) (by omega) (by omega)]; exact k5
  · show hI (zw h d f) (lA h wn) q = _
    rw [hI_zw_ne _ nl, hz (3 + q) (by omega) (by omega) (by omega)]; exact k6 q q1 q2
  · rw [eo i' (by omega)]
    obtain ⟨d', e1, e2, e3⟩ := k7 i' hi'
    have sd' := nod i' d' (by omega) e1
    have e0 : z' (16 + 16 * i') = z (16 + 16 * i') := hz _ (by omega) (by omega) (by omega)
    refine ⟨d', e1, ?_, fun q => ?_⟩
    · by_cases c : i' = i
      · subst c
        rw [d1] at e1
        cases e1
        exact nv
      · have nd : d' ≠ d := by
          intro e
          have := sd'.2.1
          rw [e, sd.2.1] at this
          cases this
          exact c rfl
        exact e2.keep' ⟨rfl, hI_zw_ne _ nd, rfl, rfl⟩ e0 (hz _ (by omega) (by omega) (by omega)) (hz _ (by omega) (by omega) (by omega)) (hz _ (by omega) (by omega) (by omega)) (hz _ (by omega) (by omega) (by omega))
    · rw [e0] at q
      obtain ⟨t, t1, t2⟩ := e3 q
      have sh := sd'.2.2 t t1
      have tv : TlV (zw h d f) t z' i' (own z i') := by
        have nt : t ≠ d := ne_tg (by rw [sh.1.1, sd.1]; decide)
        obtain ⟨⟨w0, w1, w2, w3, w4, w5, w6, w7⟩, w8, w10⟩ := t2.1
        refine ⟨⟨?_, ?_, ?_, ?_, ?_, ?_, ?_, ?_⟩, ?_, by rw [hI_zw_ne _ nt]; exact w10⟩
        all_goals first
          | (rw [hI_zw_ne _ nt, hz _ (by omega) (by omega) (by omega)]; assumption)
          | (rw [hz _ (by omega) (by omega) (by omega)]; assumption)
      refine ⟨t, t1, tv, fun j hj => ?_⟩
      have kn := inv_kn inv hi' q
      obtain ⟨m, m1, m2⟩ := t2.2 j hj
      have sm := sh.2.2.2.1 j m (by omega) m1
      have n1 : m ≠ d := ne_tg (by rw [sm.1, sd.1]; decide)
      have n2 : cC h m ≠ d := ne_tg (by rw [sm.2.2.2.1, sd.1]; decide)
      exact ⟨m, m1, m2.keep ⟨rfl, hI_zw_ne _ n1, rfl, rfl⟩ ⟨rfl, hI_zw_ne _ n2, rfl, rfl⟩ (fun w hw => (eqm i' (by omega)).mr (by omega) hw) (fun e he => (eqm i' (by omega)).cr (by omega) he) (kn.2 j hj)⟩
/-- deliveries keep what is true -/
theorem Inv.del {i s q p : Nat} (k : Inv z) (hi : i < mny z) (hk : z (16 + 16 * i) = nI 0) (hs : s < mny z) (hq : 1 ≤ q ∧ q ≤ 9999) (hp : 1 ≤ p ∧ p ≤ 9999) : Inv (delZ z i (nI s) (nI q) (nI p)) ∧ mny (delZ z i (nI s) (nI q) (nI p)) = mny z := by
  have m10 := k.1.1.at.2
  have hz : ∀ j, j ≠ 16 + 16 * i + 12 → j ≠ 16 + 16 * i + 13 → j ≠ 16 + 16 * i + 14 → delZ z i (nI s) (nI q) (nI p) j = z j := by
    intro j q1 q2 q3
    unfold delZ
    rw [upd_ne q3, upd_ne q2, upd_ne q1]
  have y12 : delZ z i (nI s) (nI q) (nI p) (16 + 16 * i + 12) = nI s := by unfold delZ; rw [upd_ne (by omega), upd_ne (by omega), upd_s]
  have y13 : delZ z i (nI s) (nI q) (nI p) (16 + 16 * i + 13) = nI q := by unfold delZ; rw [upd_ne (by omega), upd_s]
  have y14 : delZ z i (nI s) (nI q) (nI p) (16 + 16 * i + 14) = nI p := by unfold delZ; rw [upd_s]
  generalize delZ z i (nI s) (nI q) (nI p) = y at *
  have e1 : y 1 = z 1 := hz 1 (by omega) (by omega) (by omega)
  have e0 : y 0 = z 0 := hz 0 (by omega) (by omega) (by omega)
  have em := mny_eq e1
  obtain ⟨⟨z10, ⟨T, T1, T2, T3⟩, fre, nod⟩, liv⟩ := id k
  have row : ∀ n w, n < 10 → w < 12 → y (16 + 16 * n + w) = z (16 + 16 * n + w) := fun n w hn hw => hz _ (by omega) (by omega) (by omega)
  have row0 : ∀ n, n < 10 → y (16 + 16 * n) = z (16 + 16 * n) := fun n hn => row n 0 hn (by omega)
  have eo : ∀ t, t < 10 → own y t = own z t := fun t ht => own_eq (row t 11 ht (by omega))
  have eqm : ∀ t, t < 10 → eqM z y t := fun t ht => ⟨fun w hw => hz _ (by unfold mA; omega) (by unfold mA; omega) (by unfold mA; omega), fun w hw => hz _ (by unfold cA; omega) (by unfold cA; omega) (by unfold cA; omega)⟩
  refine ⟨⟨⟨?_, ⟨T, T1, T2, e0.trans T3⟩, fun n h1 h2 => ?_, fun n hn => ?_⟩, fun t j ht hj => ?_⟩, em⟩
  · obtain ⟨k9, k91, k92⟩ := z10
    exact ⟨k9, k91, e1.trans k92⟩
  · rw [em] at h1
    rw [row0 n h2, row n 7 h2 (by omega), row n 8 h2 (by omega), row n 11 h2 (by omega)]
    exact fre n h1 h2
  · rw [em] at hn
    have h10 : n < 10 := by omega
    obtain ⟨a1, a2, a3, a4⟩ := nod n hn
    refine ⟨⟨?_, ?_⟩, ?_, fun q9 => ?_, fun q9 => ?_⟩
    · rw [row0 n h10]; exact a1.1
    · rw [row n 1 h10 (by omega)]
      rcases a1.2 with q9 | ⟨j, j1, j2, j3⟩
      · exact Or.inl q9
      · exact Or.inr ⟨j, j1, j2, by rw [row0 j (by omega)]; exact j3⟩
    · by_cases c : n = i
      · subst c
        refine Or.inr ⟨by rw [row0 n h10]; exact hk, ⟨s, by rw [em]; exact hs, y12⟩, ⟨q, hq.1, hq.2, y13⟩, ⟨p, hp.1, hp.2, y14⟩⟩
      · unfold DelI
        rw [hz _ (by omega) (by omega) (by omega), hz (16 + 16 * n + 13) (by omega) (by omega) (by omega), hz (16 + 16 * n + 14) (by omega) (by omega) (by omega), row0 n h10, em]
        exact a2
    · rw [row0 n h10] at q9
      rw [row n 11 h10 (by omega)]
      exact a3 q9
    · rw [row0 n h10] at q9
      have tra := a4 q9
      obtain ⟨⟨o1, o2⟩, t2, t3, t4⟩ := tra
      refine ⟨⟨by rw [eo n h10, row n 11 h10 (by omega)]; exact o1, by rw [eo n h10]; exact o2⟩, t2.congr (fun w hw => row n w h10 (by omega)), fun j hj => ?_, fun j j' hj hj' => ?_⟩
      · rw [eo n h10] at hj
        exact (t3 j hj).congr e1 ⟨T, T, Nat.le_refl _, T2, T3, e0.trans T3⟩ (row n 2 h10 (by omega)) (fun w hw => (eqm n h10).mr (by omega) hw) (fun e he => (eqm n h10).cr (by omega) he) (fun i hi => row i 1 (by omega) (by omega))
      · rw [eo n h10] at hj'
        rw [(eqm n h10).mr (w := 0) (by omega) (by omega), (eqm n h10).mr (w := 1) (by omega) (by omega), (eqm n h10).mr (w := 3) (by omega) (by omega), (eqm n h10).mr (w := 4) (by omega) (by omega), (eqm n h10).mr (j := j') (w := 0) (by omega) (by omega), (eqm n h10).mr (j := j') (w := 1) (by omega) (by omega), (eqm n h10).mr (j := j') (w := 3) (by omega) (by omega), (eqm n h10).mr (j := j') (w := 4) (by omega) (by omega)]
        exact t4 j j' hj hj'
  · rw [em] at ht
    rw [eo t (by omega)] at hj
    have o8 := (k.1.own t (by omega)).2
    have q9 := liv t j ht hj
    unfold livZ at q9 ⊢
    rw [row t 6 (by omega) (by omega), e0, show y (176 + 8 * (8 * t + j) + 5) = z (176 + 8 * (8 * t + j) + 5) from (eqm t (by omega)).mr (j := j) (w := 5) (by omega) (by omega)]
    exact q9
/-- a mapping is refreshed -/
theorem Inv.ref {t i : Nat} (k : Inv z) (ht : t < mny z) (tk : z (16 + 16 * t) = nI 1) (hi : i < own z t) : Inv (upd z (176 + 8 * (8 * t + i) + 5) (z 0)) ∧ mny (upd z (176 + 8 * (8 * t + i) + 5) (z 0)) = mny z := by
  have m10 := k.1.1.at.2
  have tra := (k.1.2.2.2 t ht).2.2.2 tk
  obtain ⟨⟨o1, o2⟩, t2, t3, t4⟩ := tra
  obtain ⟨T, T1, T2, T3⟩ := k.1.2.1
  have eo : own (upd z (176 + 8 * (8 * t + i) + 5) (z 0)) t = own z t := own_eq (upd_ne (by omega))
  refine k.tr ht tk (fun j hj => upd_ne (by unfold tPl mA cA at hj; omega)) ⟨⟨by rw [eo, upd_ne (by omega)]; exact o1, by rw [eo]; exact o2⟩, t2.congr (fun w hw => upd_ne (by omega)), fun j hj => ?_, fun j j' hj hj' => ?_⟩ (fun j hj => ?_)
  · rw [eo] at hj
    by_cases c : j = i
    · subst c
      obtain ⟨⟨n, n1, n2, n3⟩, m2, m3, ⟨k1, k2, k3, k4⟩, -, m6⟩ := t3 j hj
      refine ⟨⟨n, by rw [mny_eq (z := z) (upd_ne (by omega))]; exact n1, by rw [upd_ne (by unfold mA; omega)]; exact n2, by rw [upd_ne (by omega)]; exact n3⟩, by rw [upd_ne (by unfold mA; omega)]; exact m2, by rw [upd_ne (by unfold mA; omega)]; exact m3, ⟨?_, ?_, ?_, ?_⟩, ⟨T, T, Nat.le_refl _, T2, by rw [show mA t j + 5 = 176 + 8 * (8 * t + j) + 5 from rfl, upd_s]; exact T3, by rw [upd_ne (by omega)]; exact T3⟩, (m6.congr (upd_ne (by omega)) (upd_ne (by unfold mA; omega)) (fun e he => upd_ne (by unfold cA; omega))).1⟩
      · rw [upd_ne (by omega), upd_ne (by unfold mA; omega)]; exact k1
      · rw [upd_ne (by omega), upd_ne (by unfold mA; omega), mny_eq (z := z) (upd_ne (by omega))]; exact k2
      · rw [upd_ne (by omega), upd_ne (by unfold mA; omega)]; exact k3
      · rw [upd_ne (by omega), upd_ne (by unfold mA; omega)]; exact k4
    · exact (t3 j hj).congr (upd_ne (by omega)) ⟨T, T, Nat.le_refl _, T2, T3, by rw [upd_ne (by omega)]; exact T3⟩ (upd_ne (by omega)) (fun w hw => upd_ne (by unfold mA; omega)) (fun e he => upd_ne (by unfold cA; omega)) (fun i hi => upd_ne (by omega))
  · rw [eo] at hj'
    rw [upd_ne (by unfold mA; omega), upd_ne (by unfold mA; omega), upd_ne (by unfold mA; omega), upd_ne (by unfold mA; omega), upd_ne (by unfold mA; omega), upd_ne (by unfold mA; omega), upd_ne (by unfold mA; omega), upd_ne (by unfold mA; omega)]
    exact t4 j j' hj hj'
  · rw [eo] at hj
    unfold livZ
    by_cases c : j = i
    · subst c
      obtain ⟨L, L1, L2, L3⟩ := t2.2.2.2.2.1
      rw [upd_ne (by omega), upd_ne (by omega), upd_s, L3, T3, pk_sub (Nat.le_refl T), Nat.sub_self, pk_sub (Nat.zero_le _), nI_leP (by omega) (by omega)]
      omega
    · rw [upd_ne (by omega), upd_ne (by omega), upd_ne (by omega)]
      exact k.2 t j ht hj
end
