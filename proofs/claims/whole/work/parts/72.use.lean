/-! THE CLASS: a mapping is used -/
/-- a mapping of the class is the one that the reference looks for -/
theorem mIn_iff {h : AH} {m a p b d t j : Nat} {z : Nat → Int32} (v : MpV h m z t j) (mi : MapI z t j) (hr : in1 (z (16 + 16 * t + 2)) 0 2) (hm : mny z ≤ 10) (ha : a < 100) (hp : p < 10000) (hb : b < 100) (hd1 : 1 ≤ d) (hd : d < 10000) :
    (hI h m 0 = nI (a * 10000 + p) ∧ hI h m 2 = encK (if z (16 + 16 * t + 2) = nI 0 then nN else nI b) (if nI 2 ≤ z (16 + 16 * t + 2) then nI d else nN)) ↔ mtZ z t (nI a) (nI p) (nI b) (nI d) j := by
  obtain ⟨⟨v0, -, v2, -, -⟩, -⟩ := v
  obtain ⟨⟨n, n1, n2, -⟩, ⟨q, q1, q2, q3⟩, -, ⟨k1, k2, k3, k4⟩, -⟩ := mi
  obtain ⟨r, -, r2, er⟩ := hr
  have i0 : hI h m 0 = nI (a * 10000 + p) ↔ (z (176 + 8 * (8 * t + j) + 0) = nI a ∧ z (176 + 8 * (8 * t + j) + 1) = nI p) := by
    have n2' : z (176 + 8 * (8 * t + j) + 0) = nI n := n2
    have q3' : z (176 + 8 * (8 * t + j) + 1) = nI q := q3
    rw [v0, n2, q3, enc_N]
    constructor
    · intro e
      obtain ⟨e1, e2⟩ := enc_inj (by omega) (by omega) ha hp e
      rw [e1, e2]
      exact ⟨rfl, rfl⟩
    · rintro ⟨e1, e2⟩
      rw [nI_eq (by omega) (by omega)] at e1 e2
      rw [e1, e2]
  have cs : r = 0 ∨ r = 1 ∨ r = 2 := by omega
  unfold mtZ
  rw [i0, v2]
  refine and_congr_right (fun _ => ?_)
  rw [er] at k1 k2 k3 k4 ⊢
  rcases cs with rfl | rfl | rfl
  · have n2 : ¬ nI 2 ≤ nI 0 := by decide
    have l2 : nI 0 < nI 2 := by decide
    rw [if_pos rfl, if_neg n2, k1 rfl]
    unfold encK
    rw [if_pos rfl, if_pos rfl]
    exact ⟨fun _ => ⟨Or.inl rfl, Or.inl l2⟩, fun _ => rfl⟩
  · have n0 : ¬ nI 1 = nI 0 := by decide
    have n2 : ¬ nI 2 ≤ nI 1 := by decide
    have l2 : nI 1 < nI 2 := by decide
    have n12 : ¬ nI 1 = nI 2 := by decide
    obtain ⟨b', hb', eb'⟩ := k2 n0
    have eb2 : z (176 + 8 * (8 * t + j) + 3) = nI b' := eb'
    rw [if_neg n0, if_neg n2, k3 n12, eb']
    unfold encK
    rw [if_neg (by rw [nN_e2 (by omega)]; exact id), if_pos rfl, if_neg (by rw [nN_e2 (by omega)]; exact id), if_pos rfl, enc_N, enc_N]
    constructor
    · intro e
      obtain ⟨e1, -⟩ := enc_inj (p := 0) (p' := 0) (by omega) (by omega) hb (by omega) e
      exact ⟨Or.inr (by rw [e1]), Or.inl l2⟩
    · rintro ⟨e, -⟩
      rcases e with e | e
      · exact absurd e n0
      · rw [nI_eq (by omega) (by omega)] at e
        rw [e]
  · have n0 : ¬ nI 2 = nI 0 := by decide
    have n2 : nI 2 ≤ nI 2 := by decide
    have l2 : ¬ nI 2 < nI 2 := by decide
    obtain ⟨b', hb', eb'⟩ := k2 n0
    obtain ⟨d', d1, d2, ed'⟩ := k4 rfl
    have eb2 : z (176 + 8 * (8 * t + j) + 3) = nI b' := eb'
    have ed2 : z (176 + 8 * (8 * t + j) + 4) = nI d' := ed'
    rw [if_neg n0, if_pos n2, eb', ed']
    unfold encK
    rw [if_neg (by rw [nN_e2 (by omega)]; exact id), if_neg (by rw [nN_e2 (by omega)]; exact id), if_neg (by rw [nN_e2 (by omega)]; exact id), if_neg (by rw [nN_e2 (by omega)]; exact id), enc_N, enc_N]
    constructor
    · intro e
      obtain ⟨e1, e2⟩ := enc_inj (by omega) (by omega) hb hd e
      rw [e1, e2]
      exact ⟨Or.inr rfl, Or.inr rfl⟩
    · rintro ⟨e1, e2⟩
      rcases e1 with e1 | e1
      · exact absurd e1 n0
      · rcases e2 with e2 | e2
        · exact absurd e2 l2
        · rw [nI_eq (by omega) (by omega)] at e1 e2
          rw [e1, e2]
/-- at most one mapping fits -/
theorem mt_uniq {z : Nat → Int32} {t i j : Nat} {a p b d : Int32} (tra : TraI z t) (hi : i < own z t) (hj : j < own z t) (e1 : mtZ z t a p b d i) (e2 : mtZ z t a p b d j) : i = j := by
  have key : ∀ i j, i < own z t → j < own z t → mtZ z t a p b d i → mtZ z t a p b d j → z (mA t i + 0) = z (mA t j + 0) ∧ z (mA t i + 1) = z (mA t j + 1) ∧ z (mA t i + 3) = z (mA t j + 3) ∧ z (mA t i + 4) = z (mA t j + 4) := by
    intro i j hi hj e1 e2
    obtain ⟨-, -, -, ⟨k1, k2, k3, k4⟩, -⟩ := tra.2.2.1 i hi
    obtain ⟨-, -, -, ⟨l1, l2, l3, l4⟩, -⟩ := tra.2.2.1 j hj
    obtain ⟨⟨a1, a2⟩, a3, a4⟩ := e1
    obtain ⟨⟨b1, b2⟩, b3, b4⟩ := e2
    refine ⟨a1.trans b1.symm, a2.trans b2.symm, ?_, ?_⟩
    · by_cases c : z (16 + 16 * t + 2) = nI 0
      · rw [k1 c, l1 c]
      · rcases a3 with q | q
        · exact absurd q c
        · rcases b3 with q' | q'
          · exact absurd q' c
          · exact q.trans q'.symm
    · by_cases c : z (16 + 16 * t + 2) = nI 2
      · have n2 : ¬ nI 2 < nI 2 := by decide
        rw [c] at a4 b4
        rcases a4 with q | q
        · exact absurd q n2
        · rcases b4 with q' | q'
          · exact absurd q' n2
          · exact q.trans q'.symm
      · rw [k3 c, l3 c]
  rcases Nat.lt_trichotomy i j with q | q | q
  · exact absurd (key i j hi hj e1 e2) (tra.2.2.2 i j q hj)
  · exact q
  · exact absurd (key j i hj hi e2 e1) (tra.2.2.2 j i q hi)
section
variable {l : Launch} {G : Gc}
theorem go_use (wn t tt dd i m c b d a p c1 : Nat) (z z1 : Nat → Int32) (h h1 : AH) (Q : Po) (hw : WF h) (k : NwR h wn z) (gi : GoI z t a p b d) (d1 : hR h (nA h wn) t = some dd) (t1 : hR h dd 4 = some tt) (fr : Fr wn c1 h h1) (lt : Lt wn t h h1) (sh : ShT h1 wn t tt) (te : TlE h1 tt z1 t (own z1 t) i m) (g1 : Go1 z z1 t i) (ec : z1 (176 + 8 * (8 * t + i) + 6) = nI c) (c8 : c ≤ 8)
    (hQ : ∀ h', NwR h' wn (meeZ (upd z1 (176 + 8 * (8 * t + i) + 5) (z1 0)) t i c (nI b) (nI d)) → Fr wn c1 h h' → hI h' m 1 = meeZ (upd z1 (176 + 8 * (8 * t + i) + 5) (z1 0)) t i c (nI b) (nI d) (mA t i + 2) → tg h' m = 0 → Q (.inl none) h') : Call l G M_Mp_addContact [.ref m, .int (nI (b * 10000 + d))] (zw h1 m (upd (hI h1 m) 3 (z 0))) Q := by
  have m10 := gi.m10
  obtain ⟨⟨I, mI⟩, pl, eo, rows, ek, con⟩ := g1.inv gi ec c8
  have tra := gi.tra
  obtain ⟨⟨inv, ti, tk⟩, -, ⟨hb, hd⟩⟩ := id gi
  have t10 : t < 10 := by omega
  have e0 : z1 0 = z 0 := g1.1 0 (by unfold tPl mA cA; omega)
  obtain ⟨ownz, hi, htr⟩ := g1.2.1
  obtain ⟨tv, oth, slot, v0⟩ := te
  have i8 : i < 8 := by have := ownz.2; omega
  have sm := sh.2.2.2.1 i m i8 slot
  have nC : cC h1 m ≠ m := ne_tg (by rw [sm.1, sm.2.2.2.1]; decide)
  have hw1 : WF h1 := fr.2.2.2.2
  -- the latest use
  have v2 : MpV (zw h1 m (upd (hI h1 m) 3 (z 0))) m (upd z1 (176 + 8 * (8 * t + i) + 5) (z1 0)) t i := by
    obtain ⟨⟨w0, w1, w2, w5⟩, w6⟩ := v0
    refine ⟨⟨?_, ?_, ?_, ?_, ?_⟩, fun k hk => ?_⟩
    · rw [hI_zw, upd_ne (by omega), upd_ne (by unfold mA; omega), upd_ne (by unfold mA; omega)]; exact w0
    · rw [hI_zw, upd_ne (by omega), upd_ne (by unfold mA; omega)]; exact w1
    · rw [hI_zw, upd_ne (by omega), upd_ne (by unfold mA; omega), upd_ne (by unfold mA; omega)]; exact w2
    · rw [hI_zw, upd_s, show mA t i + 5 = 176 + 8 * (8 * t + i) + 5 from rfl, upd_s, e0]
    · rw [hI_zw, upd_ne (by omega), upd_ne (by unfold mA; omega)]; exact w5
    · show hI (zw h1 m _) (cC h1 m) k = _
      have : knw (upd z1 (176 + 8 * (8 * t + i) + 5) (z1 0)) t i = knw z1 t i := by unfold knw; rw [upd_ne (by omega)]
      rw [this] at hk
      rw [hI_zw_ne _ nC, upd_ne (by unfold cA; omega), upd_ne (by unfold cA; omega)]
      exact w6 k hk
  have hct : CtK (zw h1 m (upd (hI h1 m) 3 (z 0))) m c := by
    refine ⟨sm.1, sm.2.2.1, sm.2.2.2.1, sm.2.2.2.2.1, ?_, c8⟩
    rw [hI_zw, upd_ne (by omega), v0.1.2.2.2]
    exact ec
  have hep : ∀ k, k < c → cEp (upd z1 (176 + 8 * (8 * t + i) + 5) (z1 0)) t i k := by
    intro k hk
    obtain ⟨⟨b', b1, b2⟩, ⟨d', d1', d2', d3'⟩⟩ := con.2.1 k (by rw [ek]; exact hk)
    have : mny (upd z1 (176 + 8 * (8 * t + i) + 5) (z1 0)) = mny z := (mny_eq (z := z1) (upd_ne (by omega))).trans (mny_eq (g1.1 1 (by unfold tPl mA cA; omega)))
    exact ⟨b', d', by omega, by omega, b2, d3'⟩
  have hdi := con.2.2
  rw [ek] at hdi
  refine c_meets m t i c b d _ _ _ hct v2 t10 i8 ek hep hdi (by omega) (by omega) (fun f g v3 eg => ?_)
  have low : ∀ j, (j < cA t i 0 ∨ cA t i 0 + 16 ≤ j) → j ≠ mA t i + 6 → j ≠ mA t i + 5 → meeZ (upd z1 (176 + 8 * (8 * t + i) + 5) (z1 0)) t i c (nI b) (nI d) j = z1 j := by
    intro j q1 q2 q3
    rw [mee_low c8 q1 q2 hdi, upd_ne (by unfold mA at q3; omega)]
  generalize meeZ (upd z1 (176 + 8 * (8 * t + i) + 5) (z1 0)) t i c (nI b) (nI d) = y at *
  have eC : cC (zw h1 m (upd (hI h1 m) 3 (z 0))) m = cC h1 m := rfl
  rw [eC] at v3 ⊢
  have rm : rt h1 m = some wn := rt_gh sm.2.1
  have rC : rt h1 (cC h1 m) = some wn := rt_gh sm.2.2.2.2.2
  have sam : ∀ q, q ≠ m → q ≠ cC h1 m → same1 h1 (zw (zw (zw h1 m (upd (hI h1 m) 3 (z 0))) (cC h1 m) f) m g) q := by
    intro q q1 q2
    refine ⟨rfl, ?_, rfl, rfl⟩
    rw [hI_zw_ne _ q1, hI_zw_ne _ q2, hI_zw_ne _ q1]
  have fr3 : Fr wn 0 h1 (zw (zw (zw h1 m (upd (hI h1 m) 3 (z 0))) (cC h1 m) f) m g) := Fr.ints hw1 rfl rfl rfl (fun q hq => ⟨(sam q (fun e => hq (by rw [e]; exact rm)) (fun e => hq (by rw [e]; exact rC))).2.1, rfl, rfl⟩)
  have lt3 : Lt wn t h1 (zw (zw (zw h1 m (upd (hI h1 m) 3 (z 0))) (cC h1 m) f) m g) := fun q _ hq => sam q (fun e => hq (by rw [e]; exact ⟨6, [], sm.2.1, by omega⟩)) (fun e => hq (by rw [e]; exact ⟨7, [m], sm.2.2.2.2.2, by omega⟩))
  refine hQ _ ?_ (fr.tr fr3) v3.1.2.1 sm.1
  have ntm : tt ≠ m := ne_tg (by rw [sm.1, sh.1.1]; decide)
  have ntC : tt ≠ cC h1 m := ne_tg (by rw [sm.2.2.2.1, sh.1.1]; decide)
  have stt := sam tt ntm ntC
  refine NwR.setT hw inv.1 k ti d1 t1 (lt.tr fr lt3) (sh.congr rfl rfl) ⟨⟨⟨?_, ?_, ?_, ?_, ?_, ?_, ?_, ?_⟩, ?_, ?_⟩, fun j hj => ?_⟩ tk pl
  · rw [stt.2.1, low _ (by unfold cA; omega) (by unfold mA; omega) (by unfold mA; omega)]; exact tv.1.1
  · rw [stt.2.1, low _ (by unfold cA; omega) (by unfold mA; omega) (by unfold mA; omega)]; exact tv.1.2.1
  · rw [stt.2.1, low _ (by unfold cA; omega) (by unfold mA; omega) (by unfold mA; omega)]; exact tv.1.2.2.1
  · rw [stt.2.1, low _ (by unfold cA; omega) (by unfold mA; omega) (by unfold mA; omega)]; exact tv.1.2.2.2.1
  · rw [stt.2.1, low _ (by unfold cA; omega) (by unfold mA; omega) (by unfold mA; omega)]; exact tv.1.2.2.2.2.1
  · rw [stt.2.1, low _ (by unfold cA; omega) (by unfold mA; omega) (by unfold mA; omega)]; exact tv.1.2.2.2.2.2.1
  · rw [stt.2.1, low _ (by unfold cA; omega) (by unfold mA; omega) (by unfold mA; omega)]; exact tv.1.2.2.2.2.2.2.1
  · rw [stt.2.1, low _ (by unfold cA; omega) (by unfold mA; omega) (by unfold mA; omega)]; exact tv.1.2.2.2.2.2.2.2
  · rw [stt.2.2.2, low _ (by unfold cA; omega) (by unfold mA; omega) (by unfold mA; omega)]; exact tv.2.1
  · rw [stt.2.1, eo]; exact tv.2.2
  · rw [eo] at hj
    by_cases q : j = i
    · subst q
      exact ⟨m, slot, v3⟩
    · obtain ⟨m', m1, m2⟩ := oth j hj q
      have j8 : j < 8 := by have := ownz.2; omega
      have sm' := sh.2.2.2.1 j m' j8 m1
      have n1 : m' ≠ m := fun e => q (sh.2.2.2.2 j i m j8 i8 (by rw [← e]; exact m1) slot)
      have n2 : m' ≠ cC h1 m := ne_tg (by rw [sm'.1, sm.2.2.2.1]; decide)
      have n3 : cC h1 m' ≠ m := ne_tg (by rw [sm'.2.2.2.1, sm.1]; decide)
      have n4 : cC h1 m' ≠ cC h1 m := by
        intro e
        have g1' := sm'.2.2.2.2.2
        rw [e, sm.2.2.2.2.2] at g1'
        cases g1'
        exact n1 rfl
      have knj : knw z1 t j ≤ 8 := by
        obtain ⟨w1, w2, w3⟩ := g1.2.2.1 j hj q
        have : knw z1 t j = knw z t j := by unfold knw; exact congrArg Int32.toNatClampNeg (w2 6 (by omega))
        rw [this]
        exact (tra.2.2.1 j w1).2.2.2.2.2.1.2
      exact ⟨m', m1, m2.keep (sam m' n1 n2) (sam _ n3 n4) (fun w hw => low _ (by unfold mA cA; omega) (by unfold mA; omega) (by unfold mA; omega)) (fun e he => low _ (by unfold cA; omega) (by unfold mA cA; omega) (by unfold mA cA; omega)) knj⟩
end
