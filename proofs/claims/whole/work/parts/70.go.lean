/-! GOING OUT, OF NUMBERS -/
/-- a packet of (a, p) for (b, d) can go out through t -/
def GoI (z : Nat → Int32) (t a p b d : Nat) : Prop := (Inv z ∧ t < mny z ∧ z (16 + 16 * t) = nI 1) ∧ (a < mny z ∧ z (16 + 16 * a + 1) = nI t ∧ 1 ≤ p ∧ p ≤ 9999) ∧ (b < mny z ∧ 1 ≤ d ∧ d ≤ 9999)
theorem GoI.tra {z : Nat → Int32} {t a p b d : Nat} (k : GoI z t a p b d) : TraI z t := (k.1.1.1.2.2.2 t k.1.2.1).2.2.2 k.1.2.2
theorem GoI.m10 {z : Nat → Int32} {t a p b d : Nat} (k : GoI z t a p b d) : mny z ≤ 10 := k.1.1.1.1.at.2
theorem ConI.congr {z z' : Nat → Int32} {t j : Nat} (h1 : z' 1 = z 1) (h6 : z' (mA t j + 6) = z (mA t j + 6)) (hc : ∀ e, e < 16 → z' (cA t j 0 + e) = z (cA t j 0 + e)) (k : ConI z t j) : ConI z' t j ∧ knw z' t j = knw z t j := by
  have em := mny_eq h1
  obtain ⟨⟨n1, n2⟩, c1, c2⟩ := k
  have ek : knw z' t j = knw z t j := by
    unfold knw
    exact congrArg Int32.toNatClampNeg h6
  have ca : ∀ k, k < 8 → z' (cA t j k) = z (cA t j k) ∧ z' (cA t j k + 1) = z (cA t j k + 1) := by
    intro k hk
    have q1 := hc (2 * k) (by omega)
    have q2 := hc (2 * k + 1) (by omega)
    rw [show cA t j 0 + 2 * k = cA t j k by unfold cA; omega] at q1
    rw [show cA t j 0 + (2 * k + 1) = cA t j k + 1 by unfold cA; omega] at q2
    exact ⟨q1, q2⟩
  refine ⟨⟨⟨by rw [ek]; exact h6.trans n1, by rw [ek]; exact n2⟩, fun k hk => ?_, fun k k' hk hk' => ?_⟩, ek⟩
  · rw [ek] at hk
    rw [(ca k (by omega)).1, (ca k (by omega)).2, em]
    exact c1 k hk
  · rw [ek] at hk'
    rw [(ca k (by omega)).1, (ca k (by omega)).2, (ca k' (by omega)).1, (ca k' (by omega)).2]
    exact c2 k k' hk hk'
theorem mf_no {z : Nat → Int32} {t : Nat} {a p b d : Int32} : ∀ {n : Nat}, n ≤ 8 → mfZ z t a p b d n = nN → ∀ j, j < n → ¬ mtZ z t a p b d j := by
  intro n
  induction n with
  | zero => intro _ _ j hj; omega
  | succ n ih =>
    intro h8 e j hj
    by_cases q : mtZ z t a p b d n
    · rw [mfZ, if_pos q, nN_e2 (by omega)] at e
      exact e.elim
    · rw [mfZ, if_neg q] at e
      by_cases w : j = n
      · rw [w]; exact q
      · exact ih (by omega) e j (by omega)
/-- what is known of the numbers once a mapping (i) is found or made -/
def Go1 (z z1 : Nat → Int32) (t i : Nat) : Prop := (∀ j, ¬ tPl t j → z1 j = z j) ∧ (OwnOK z1 t ∧ i < own z1 t ∧ TrI z1 t) ∧
  (∀ j, j < own z1 t → j ≠ i → j < own z t ∧ (∀ w, w < 7 → z1 (mA t j + w) = z (mA t j + w)) ∧ ∀ e, e < 16 → z1 (cA t j 0 + e) = z (cA t j 0 + e)) ∧
  ((∃ n, n < mny z ∧ z1 (mA t i + 0) = nI n ∧ z (16 + 16 * n + 1) = nI t) ∧ in1 (z1 (mA t i + 1)) 1 9999 ∧ in1 (z1 (mA t i + 2)) 1 9999 ∧ KeyI z1 t i ∧ ConI z1 t i) ∧ PrI z1 t
/-- a found or made mapping is used and meets (b, d): all stays true -/
theorem Go1.inv {z z1 : Nat → Int32} {t a p b d i c : Nat} (k : GoI z t a p b d) (g : Go1 z z1 t i) (ec : z1 (176 + 8 * (8 * t + i) + 6) = nI c) (c8 : c ≤ 8) :
    (Inv (meeZ (upd z1 (176 + 8 * (8 * t + i) + 5) (z1 0)) t i c (nI b) (nI d)) ∧ mny (meeZ (upd z1 (176 + 8 * (8 * t + i) + 5) (z1 0)) t i c (nI b) (nI d)) = mny z) ∧ (∀ j, ¬ tPl t j → meeZ (upd z1 (176 + 8 * (8 * t + i) + 5) (z1 0)) t i c (nI b) (nI d) j = z j) ∧
    (own (meeZ (upd z1 (176 + 8 * (8 * t + i) + 5) (z1 0)) t i c (nI b) (nI d)) t = own z1 t) ∧ (∀ j w, j < own z1 t → w < 5 → meeZ (upd z1 (176 + 8 * (8 * t + i) + 5) (z1 0)) t i c (nI b) (nI d) (mA t j + w) = z1 (mA t j + w)) ∧ (knw (upd z1 (176 + 8 * (8 * t + i) + 5) (z1 0)) t i = c ∧ ConI (upd z1 (176 + 8 * (8 * t + i) + 5) (z1 0)) t i) := by
  have tra := k.tra
  have m10 := k.m10
  obtain ⟨⟨inv, t1, tk⟩, -, ⟨hb, hd⟩⟩ := k
  obtain ⟨g1, ⟨⟨o1, o2⟩, gi, gt⟩, g2, ⟨⟨n, n1, n2, n3⟩, gp, gq, gk, gc⟩, gpr⟩ := g
  have t10 : t < 10 := by omega
  obtain ⟨T, T1, T2, T3⟩ := inv.1.2.1
  have e0 : z1 0 = z 0 := g1 0 (by unfold tPl mA cA; omega)
  have e1 : z1 1 = z 1 := g1 1 (by unfold tPl mA cA; omega)
  have ec2 := gc.congr (z' := upd z1 (176 + 8 * (8 * t + i) + 5) (z1 0)) (upd_ne (by omega)) (upd_ne (by unfold mA; omega)) (fun e he => upd_ne (by unfold cA; omega))
  have ek : knw (upd z1 (176 + 8 * (8 * t + i) + 5) (z1 0)) t i = c := by
    rw [ec2.2]
    unfold knw
    rw [ec, nI_clamp (by omega)]
  have hdi := ec2.1.2.2
  rw [ek] at hdi
  have low : ∀ j, (j < cA t i 0 ∨ cA t i 0 + 16 ≤ j) → j ≠ mA t i + 6 → j ≠ mA t i + 5 → meeZ (upd z1 (176 + 8 * (8 * t + i) + 5) (z1 0)) t i c (nI b) (nI d) j = z1 j := by
    intro j q1 q2 q3
    rw [mee_low c8 q1 q2 hdi, upd_ne (by unfold mA at q3; omega)]
  have u5 : meeZ (upd z1 (176 + 8 * (8 * t + i) + 5) (z1 0)) t i c (nI b) (nI d) (mA t i + 5) = z1 0 := by
    rw [mee_low c8 (by unfold mA cA; omega) (by omega) hdi]
    exact upd_s _ _ _
  have cm := ec2.1.mee ek (b := b) (d := d) (by rw [mny_eq (z := z1) (upd_ne (by omega)), mny_eq e1]; exact hb) (by rw [mny_eq (z := z1) (upd_ne (by omega)), mny_eq e1]; exact m10) hd
  generalize hy : meeZ (upd z1 (176 + 8 * (8 * t + i) + 5) (z1 0)) t i c (nI b) (nI d) = y at low u5 cm ⊢
  have y0 : y 0 = z 0 := (low 0 (by unfold cA; omega) (by unfold mA; omega) (by unfold mA; omega)).trans e0
  have y1 : y 1 = z 1 := (low 1 (by unfold cA; omega) (by unfold mA; omega) (by unfold mA; omega)).trans e1
  have em := mny_eq y1
  have pl : ∀ j, ¬ tPl t j → y j = z j := by
    intro j hj
    rw [low j (by unfold tPl at hj; unfold cA at *; omega) (by unfold tPl at hj; unfold mA at *; omega) (by unfold tPl at hj; unfold mA at *; omega)]
    exact g1 j hj
  have y11 : y (16 + 16 * t + 11) = z1 (16 + 16 * t + 11) := low _ (by unfold cA; omega) (by unfold mA; omega) (by unfold mA; omega)
  have eo := own_eq y11
  have rows : ∀ j w, j < own z1 t → w < 5 → y (mA t j + w) = z1 (mA t j + w) := fun j w hj hw => low _ (by unfold mA cA; omega) (by unfold mA; omega) (by unfold mA; omega)
  have ht0 : ∃ T T', T ≤ T' ∧ T' ≤ 100000 ∧ z 0 = nI T ∧ y 0 = nI T' := ⟨T, T, Nat.le_refl _, T2, T3, y0.trans T3⟩
  have net : ∀ q, q < mny z → y (16 + 16 * q + 1) = z (16 + 16 * q + 1) := fun q hq => pl _ (by unfold tPl mA cA; omega)
  have y2 : y (16 + 16 * t + 2) = z1 (16 + 16 * t + 2) := low _ (by unfold cA; omega) (by unfold mA; omega) (by unfold mA; omega)
  have y2' : y (16 + 16 * t + 2) = z (16 + 16 * t + 2) := pl _ (by unfold tPl mA cA; omega)
  have traY : TraI y t := by
    refine ⟨⟨by rw [eo, y11]; exact o1, by rw [eo]; exact o2⟩, gt.congr (fun w hw => low _ (by unfold cA; omega) (by unfold mA; omega) (by unfold mA; omega)), fun j hj => ?_, fun j j' hj hj' => ?_⟩
    · rw [eo] at hj
      by_cases q : j = i
      · subst q
        refine ⟨⟨n, by rw [em]; exact n1, by rw [rows j 0 hj (by omega)]; exact n2, by rw [net n n1]; exact n3⟩, by rw [rows j 1 hj (by omega)]; exact gp, by rw [rows j 2 hj (by omega)]; exact gq, ?_, ⟨T, T, Nat.le_refl _, T2, by rw [u5, e0]; exact T3, y0.trans T3⟩, cm⟩
        obtain ⟨k1, k2, k3, k4⟩ := gk
        refine ⟨?_, ?_, ?_, ?_⟩
        · rw [y2, rows j 3 hj (by omega)]; exact k1
        · rw [y2, rows j 3 hj (by omega), em, ← mny_eq e1]; exact k2
        · rw [y2, rows j 4 hj (by omega)]; exact k3
        · rw [y2, rows j 4 hj (by omega)]; exact k4
      · obtain ⟨h1, h2, h3⟩ := g2 j hj q
        refine (tra.2.2.1 j h1).congr y1 ht0 y2' (fun w hw => ?_) (fun e he => ?_) net
        · rw [low _ (by unfold mA cA; omega) (by unfold mA; omega) (by unfold mA; omega)]
          exact h2 w hw
        · rw [low _ (by unfold cA; omega) (by unfold mA cA; omega) (by unfold mA cA; omega)]
          exact h3 e he
    · rw [eo] at hj'
      rw [rows j 0 (by omega) (by omega), rows j 1 (by omega) (by omega), rows j 3 (by omega) (by omega), rows j 4 (by omega) (by omega), rows j' 0 hj' (by omega), rows j' 1 hj' (by omega), rows j' 3 hj' (by omega), rows j' 4 hj' (by omega)]
      exact gpr j j' hj hj'
  have y6 : y (16 + 16 * t + 6) = z (16 + 16 * t + 6) := pl _ (by unfold tPl mA cA; omega)
  have I := inv.tr t1 tk pl traY (fun j hj => by
    rw [eo] at hj
    unfold livZ
    by_cases q : j = i
    · subst q
      have u5' : y (176 + 8 * (8 * t + j) + 5) = z1 0 := u5
      obtain ⟨L, L1, L2, L3⟩ := tra.2.1.2.2.2.2.1
      rw [y6, L3, y0, u5', e0, T3, pk_sub (Nat.le_refl T), Nat.sub_self, pk_sub (Nat.zero_le _), nI_leP (by omega) (by omega)]
      omega
    · obtain ⟨h1, h2, h3⟩ := g2 j hj q
      have q5 : y (176 + 8 * (8 * t + j) + 5) = z (176 + 8 * (8 * t + j) + 5) := by
        rw [low _ (by unfold cA; omega) (by unfold mA; omega) (by unfold mA; omega)]
        exact h2 5 (by omega)
      rw [y6, y0, q5]
      exact inv.2 t j t1 h1)
  exact ⟨I, pl, eo, rows, ek, ec2.1⟩
/-- the mapping that is found -/
theorem Go1.found {z : Nat → Int32} {t a p b d i : Nat} (k : GoI z t a p b d) (hi : i < own z t) : Go1 z z t i := by
  have tra := k.tra
  obtain ⟨h1, h2, h3, h4⟩ := tra
  obtain ⟨m1, m2, m3, m4, m5, m6⟩ := h3 i hi
  exact ⟨fun _ _ => rfl, ⟨h1, hi, h2⟩, fun j hj _ => ⟨hj, fun _ _ => rfl, fun _ _ => rfl⟩, ⟨m1, m2, m3, m4, m6⟩, h4⟩
/-- the mapping that is made -/
theorem Go1.made {z z' : Nat → Int32} {t a p b d : Nat} {r : Int32} (k : GoI z t a p b d) (no : mfZ z t (nI a) (nI p) (nI b) (nI d) (own z t) = nN) (o8 : own z t < 8) (hX : FpX z t (nI p) r z') (hr : in1 r 1 9999) : Go1 z (makZ z' t (own z t) (nI a) (nI p) r (nI b) (nI d)) t (own z t) := by
  have tra := k.tra
  have m10 := k.m10
  obtain ⟨⟨inv, t1, tk⟩, ⟨ha, hn, hp⟩, ⟨hb, hd⟩⟩ := k
  obtain ⟨⟨o1, o2⟩, h2, h3, h4⟩ := tra
  have t10 : t < 10 := by omega
  have hf := hX.to
  have lowF : ∀ j, j ≠ 16 + 16 * t + 9 → j ≠ 16 + 16 * t + 10 → z' j = z j := fun j q1 q2 => hf.low q1 q2
  have e2 : z' (16 + 16 * t + 2) = z (16 + 16 * t + 2) := lowF _ (by omega) (by omega)
  have low : ∀ j, j ≠ 16 + 16 * t + 11 → (j < 176 + 8 * (8 * t + own z t) ∨ 176 + 8 * (8 * t + own z t) + 7 ≤ j) → makZ z' t (own z t) (nI a) (nI p) r (nI b) (nI d) j = z' j := by
    intro j c1 c2
    unfold makZ
    rw [upd_ne (by omega), upd_ne (by omega), upd_ne (by omega), upd_ne (by omega), upd_ne (by omega), upd_ne (by omega), upd_ne c1]
  have y0 : makZ z' t (own z t) (nI a) (nI p) r (nI b) (nI d) (mA t (own z t) + 0) = nI a := by
    unfold makZ mA; rw [upd_ne (by omega), upd_ne (by omega), upd_ne (by omega), upd_ne (by omega), upd_ne (by omega), upd_s]
  have y1 : makZ z' t (own z t) (nI a) (nI p) r (nI b) (nI d) (mA t (own z t) + 1) = nI p := by
    unfold makZ mA; rw [upd_ne (by omega), upd_ne (by omega), upd_ne (by omega), upd_ne (by omega), upd_s]
  have y2 : makZ z' t (own z t) (nI a) (nI p) r (nI b) (nI d) (mA t (own z t) + 2) = r := by
    unfold makZ mA; rw [upd_ne (by omega), upd_ne (by omega), upd_ne (by omega), upd_s]
  have y3 : makZ z' t (own z t) (nI a) (nI p) r (nI b) (nI d) (mA t (own z t) + 3) = (if z (16 + 16 * t + 2) = nI 0 then nN else nI b) := by
    unfold makZ mA; rw [upd_ne (by omega), upd_ne (by omega), upd_s, e2]
  have y4 : makZ z' t (own z t) (nI a) (nI p) r (nI b) (nI d) (mA t (own z t) + 4) = (if nI 2 ≤ z (16 + 16 * t + 2) then nI d else nN) := by
    unfold makZ mA; rw [upd_ne (by omega), upd_s, e2]
  have y6 : makZ z' t (own z t) (nI a) (nI p) r (nI b) (nI d) (mA t (own z t) + 6) = nI 0 := by
    unfold makZ mA; rw [upd_s]
  have y11 : makZ z' t (own z t) (nI a) (nI p) r (nI b) (nI d) (16 + 16 * t + 11) = nI (own z t + 1) := by
    unfold makZ; rw [upd_ne (by omega), upd_ne (by omega), upd_ne (by omega), upd_ne (by omega), upd_ne (by omega), upd_ne (by omega), upd_s]
  generalize makZ z' t (own z t) (nI a) (nI p) r (nI b) (nI d) = y at low y0 y1 y2 y3 y4 y6 y11 ⊢
  have eo : own y t = own z t + 1 := by
    unfold own
    rw [y11, nI_clamp]
    · rfl
    · have : (z (16 + 16 * t + 11)).toNatClampNeg = own z t := rfl
      omega
  have yr : ∀ j w, j < own z t → w < 7 → y (mA t j + w) = z (mA t j + w) := by
    intro j w hj hw
    rw [low _ (by unfold mA; omega) (by unfold mA; omega)]
    exact lowF _ (by unfold mA; omega) (by unfold mA; omega)
  have yc : ∀ j e, j < own z t → e < 16 → y (cA t j 0 + e) = z (cA t j 0 + e) := by
    intro j e hj he
    rw [low _ (by unfold cA; omega) (by unfold cA; omega)]
    exact lowF _ (by unfold cA; omega) (by unfold cA; omega)
  have y2r : y (16 + 16 * t + 2) = z (16 + 16 * t + 2) := by rw [low _ (by omega) (by omega)]; exact e2
  have ym : mny y = mny z := mny_eq (by rw [low 1 (by omega) (by omega)]; exact lowF _ (by omega) (by omega))
  obtain ⟨rk, -, rk2, rke⟩ := h2.1
  have nmt : ∀ j, j < own z t → ¬ mtZ z t (nI a) (nI p) (nI b) (nI d) j := by
    exact mf_no o2 no
  refine ⟨fun j hj => ?_, ⟨⟨by rw [eo]; exact y11, by omega⟩, by omega, (hX.tr h2).congr (fun w hw => low _ (by omega) (by omega))⟩, fun j hj hne => ⟨by omega, fun w hw => yr j w (by omega) hw, fun e he => yc j e (by omega) he⟩, ⟨⟨a, ha, y0, hn⟩, by rw [y1]; exact ⟨p, hp.1, hp.2, rfl⟩, by rw [y2]; exact hr, ⟨?_, ?_, ?_, ?_⟩, ⟨⟨?_, ?_⟩, fun k hk => ?_, fun k k' hk hk' => ?_⟩⟩, fun j j' hj hj' => ?_⟩
  · unfold tPl mA cA at hj
    rw [low j (by omega) (by omega)]
    exact lowF _ (by omega) (by omega)
  · intro q; rw [y2r] at q; rw [y3, if_pos q]
  · intro q; rw [y2r] at q; rw [y3, if_neg q]; exact ⟨b, by rw [ym]; exact hb, rfl⟩
  · intro q
    rw [y2r] at q
    rw [y4, if_neg]
    intro q2
    rw [rke] at q q2
    rw [nI_leP (by omega) (by omega)] at q2
    exact q (by congr 1; omega)
  · intro q
    rw [y2r] at q
    rw [y4, if_pos (by rw [q]; decide)]
    exact ⟨d, hd.1, hd.2, rfl⟩
  · have : knw y t (own z t) = 0 := by unfold knw; rw [show 176 + 8 * (8 * t + own z t) + 6 = mA t (own z t) + 6 from rfl, y6]; rfl
    rw [this]; exact y6
  · have : knw y t (own z t) = 0 := by unfold knw; rw [show 176 + 8 * (8 * t + own z t) + 6 = mA t (own z t) + 6 from rfl, y6]; rfl
    omega
  · have : knw y t (own z t) = 0 := by unfold knw; rw [show 176 + 8 * (8 * t + own z t) + 6 = mA t (own z t) + 6 from rfl, y6]; rfl
    omega
  · have : knw y t (own z t) = 0 := by unfold knw; rw [show 176 + 8 * (8 * t + own z t) + 6 = mA t (own z t) + 6 from rfl, y6]; rfl
    omega
  · rw [eo] at hj'
    by_cases q : j' = own z t
    · subst q
      rw [y0, y1, y3, y4, yr j 0 hj (by omega), yr j 1 hj (by omega), yr j 3 hj (by omega), yr j 4 hj (by omega)]
      rintro ⟨q1, q2, q3, q4⟩
      refine nmt j hj ⟨⟨q1, q2⟩, ?_, ?_⟩
      · by_cases c : z (16 + 16 * t + 2) = nI 0
        · exact Or.inl c
        · rw [if_neg c] at q3; exact Or.inr q3
      · by_cases c : nI 2 ≤ z (16 + 16 * t + 2)
        · rw [if_pos c] at q4; exact Or.inr q4
        · refine Or.inl ?_
          simp only [Int32.lt_iff_toInt_lt, Int32.le_iff_toInt_le] at c ⊢
          omega
    · rw [yr j 0 (by omega) (by omega), yr j 1 (by omega) (by omega), yr j 3 (by omega) (by omega), yr j 4 (by omega) (by omega), yr j' 0 (by omega) (by omega), yr j' 1 (by omega) (by omega), yr j' 3 (by omega) (by omega), yr j' 4 (by omega) (by omega)]
      exact h4 j j' hj (by omega)
/-- what goes out, in one way or the other -/
theorem Go_ex {z : Nat → Int32} {t a p b d : Nat} (k : GoI z t a p b d) : (∃ z', GoF z t (nI a) (nI p) (nI b) (nI d) z') ∨ (∃ i z', GoS z t (nI a) (nI p) (nI b) (nI d) i z') := by
  have tra := k.tra
  have o2 := tra.1.2
  rcases mfZ_range (z := z) (t := t) (a := nI a) (p := nI p) (b := nI b) (q := nI d) (own z t) with e | ⟨i, h1, h2, -⟩
  · by_cases o8 : own z t < 8
    · obtain ⟨r, z', hX⟩ := FpX_ex (p := nI p) o8 tra.2.1 ⟨p, k.2.1.2.2.1, k.2.1.2.2.2, rfl⟩
      by_cases c : r = nN
      · exact Or.inl ⟨z', e, Or.inr ⟨o8, r, z', hX.to, Or.inl ⟨c, rfl, rfl⟩⟩⟩
      · refine Or.inr ⟨own z t, _, makZ z' t (own z t) (nI a) (nI p) r (nI b) (nI d), 0, o8, Or.inr ⟨e, Or.inr ⟨o8, r, z', hX.to, Or.inr ⟨c, rfl, rfl⟩⟩⟩, ?_, by omega, rfl⟩
        unfold makZ; rw [upd_s]
    · exact Or.inl ⟨z, e, Or.inl ⟨by omega, rfl, rfl⟩⟩
  · obtain ⟨⟨n1, n2⟩, -⟩ := (tra.2.2.1 i h1).2.2.2.2.2
    exact Or.inr ⟨i, _, z, knw z t i, by omega, Or.inl ⟨h2, rfl⟩, n1, n2, rfl⟩
/-- GoS with what it rests on -/
theorem GoS.to {z z' : Nat → Int32} {t a p b d i : Nat} (k : GoI z t a p b d) (g : GoS z t (nI a) (nI p) (nI b) (nI d) i z') : ∃ z1 c, Go1 z z1 t i ∧ z1 (176 + 8 * (8 * t + i) + 6) = nI c ∧ c ≤ 8 ∧ z' = meeZ (upd z1 (176 + 8 * (8 * t + i) + 5) (z1 0)) t i c (nI b) (nI d) ∧
    ((mfZ z t (nI a) (nI p) (nI b) (nI d) (own z t) = nI i ∧ i < own z t ∧ z1 = z) ∨ (mfZ z t (nI a) (nI p) (nI b) (nI d) (own z t) = nN ∧ i = own z t ∧ own z t < 8 ∧ MakR z t (nI a) (nI p) (nI b) (nI d) (nI i) z1)) := by
  have tra := k.tra
  have o2 := tra.1.2
  obtain ⟨z1, c, i8, src, ec, c8, ez⟩ := g
  rcases src with ⟨e, rfl⟩ | ⟨e, mk⟩
  · rcases mfZ_range (z := z1) (t := t) (a := nI a) (p := nI p) (b := nI b) (q := nI d) (own z1 t) with e' | ⟨i', h1, h2, -⟩
    · rw [e', nN_e1 (by omega)] at e; exact e.elim
    · rw [h2, nI_eq (by omega) (by omega)] at e
      subst e
      exact ⟨z1, c, Go1.found k h1, ec, c8, ez, Or.inl ⟨h2, h1, rfl⟩⟩
  · rcases id mk with ⟨-, q, -⟩ | ⟨o8, r, y, hf, q⟩
    · rw [nN_e2 (by omega)] at q; exact q.elim
    · rcases q with ⟨-, q, -⟩ | ⟨rn, q, eq⟩
      · rw [nN_e2 (by omega)] at q; exact q.elim
      · rw [nI_eq (by omega) (by omega)] at q
        subst q
        have hX := hf.to o8 tra.2.1 ⟨p, k.2.1.2.2.1, k.2.1.2.2.2, rfl⟩
        have hr : in1 r 1 9999 := by
          rcases hX.rng with q | q
          · exact absurd q rn
          · exact q
        refine ⟨z1, c, ?_, ec, c8, ez, Or.inr ⟨e, rfl, o8, mk⟩⟩
        rw [eq]
        exact Go1.made k e o8 hX hr
theorem GoF.inv {z z' : Nat → Int32} {t a p b d : Nat} (k : GoI z t a p b d) (g : GoF z t (nI a) (nI p) (nI b) (nI d) z') : (Inv z' ∧ mny z' = mny z) ∧ ∀ j, ¬ tPl t j → z' j = z j := by
  have tra := k.tra
  obtain ⟨-, mk⟩ := g
  rcases mk with ⟨-, -, rfl⟩ | ⟨o8, r, y, hf, q⟩
  · exact ⟨⟨k.1.1, rfl⟩, fun _ _ => rfl⟩
  · rcases q with ⟨-, -, rfl⟩ | ⟨-, q, -⟩
    · have hX := hf.to o8 tra.2.1 ⟨p, k.2.1.2.2.1, k.2.1.2.2.2, rfl⟩
      have m10 := k.m10
      have t1 := k.1.2.1
      have low : ∀ j, j ≠ 16 + 16 * t + 9 → j ≠ 16 + 16 * t + 10 → z' j = z j := fun j q1 q2 => hf.low q1 q2
      have pl : ∀ j, ¬ tPl t j → z' j = z j := fun j hj => low j (by unfold tPl at hj; omega) (by unfold tPl at hj; omega)
      have eo : own z' t = own z t := own_eq (low _ (by omega) (by omega))
      obtain ⟨T, T1, T2, T3⟩ := k.1.1.1.2.1
      refine ⟨k.1.1.tr t1 k.1.2.2 pl ⟨⟨?_, ?_⟩, hX.tr tra.2.1, fun j hj => ?_, fun j j' hj hj' => ?_⟩ (fun j hj => ?_), pl⟩
      · rw [eo, low _ (by omega) (by omega)]; exact tra.1.1
      · rw [eo]; exact tra.1.2
      · rw [eo] at hj
        exact (tra.2.2.1 j hj).congr (low _ (by omega) (by omega)) ⟨T, T, Nat.le_refl _, T2, T3, (low 0 (by omega) (by omega)).trans T3⟩ (low _ (by omega) (by omega)) (fun w hw => low _ (by unfold mA; omega) (by unfold mA; omega)) (fun e he => low _ (by unfold cA; omega) (by unfold cA; omega)) (fun i hi => low _ (by omega) (by omega))
      · rw [eo] at hj'
        rw [low _ (by unfold mA; omega) (by unfold mA; omega), low _ (by unfold mA; omega) (by unfold mA; omega), low _ (by unfold mA; omega) (by unfold mA; omega), low _ (by unfold mA; omega) (by unfold mA; omega), low _ (by unfold mA; omega) (by unfold mA; omega), low _ (by unfold mA; omega) (by unfold mA; omega), low _ (by unfold mA; omega) (by unfold mA; omega), low _ (by unfold mA; omega) (by unfold mA; omega)]
        exact tra.2.2.2 j j' hj hj'
      · rw [eo] at hj
        unfold livZ
        rw [low _ (by omega) (by omega), low 0 (by omega) (by omega), low (176 + 8 * (8 * t + j) + 5) (by omega) (by omega)]
        exact k.1.1.2 t j t1 hj
    · rw [nN_e1 (by have := tra.1.2; omega)] at q
      exact q.elim
