/-! CONTACTS -/
def cMt (z : Nat → Int32) (t m : Nat) (n p : Int32) (k : Nat) : Prop := z (cA t m k) = n ∧ z (cA t m k + 1) = p
theorem cmpA {t m : Nat} {n p : Int32} : ∀ (f r : Nat) (z : Nat → Int32), (∀ k, r ≤ k → k < r + f → ¬ cMt z t m n p k) → cmp0 t m n p f r r z = (z, r + f) := by
  intro f
  induction f with
  | zero => exact fun r z _ => rfl
  | succ f ih =>
    intro r z h
    have h0 : ¬ (z (cA t m r) = n ∧ z (cA t m r + 1) = p) := h r (Nat.le_refl _) (by omega)
    rw [cmp0, if_neg h0]
    have e : upd (upd z (cA t m r) (z (cA t m r))) (cA t m r + 1) (z (cA t m r + 1)) = z := by
      rw [upd_self, upd_self]
    rw [e, ih (r + 1) z (fun k k1 k2 => h k (by omega) (by omega))]
    congr 1
    omega
/-- contacts from the w-th on, f of them, take the next one's -/
def sh2 (z : Nat → Int32) (t m w f j : Nat) : Int32 := if cA t m w ≤ j ∧ j < cA t m w + 2 * f then z (j + 2) else z j
theorem cmpB {t m : Nat} {n p : Int32} : ∀ (f w : Nat) (z : Nat → Int32), (∀ k, w + 1 ≤ k → k < w + 1 + f → ¬ cMt z t m n p k) → cmp0 t m n p f (w + 1) w z = (sh2 z t m w f, w + f) := by
  intro f
  induction f with
  | zero =>
    intro w z _
    rw [cmp0]
    have : sh2 z t m w 0 = z := by
      funext j
      unfold sh2
      rw [if_neg (by omega)]
    rw [this]
    rfl
  | succ f ih =>
    intro w z h
    have h0 : ¬ (z (cA t m (w + 1)) = n ∧ z (cA t m (w + 1) + 1) = p) := h (w + 1) (Nat.le_refl _) (by omega)
    rw [cmp0, if_neg h0, ih (w + 1)]
    · have e : sh2 (upd (upd z (cA t m w) (z (cA t m (w + 1)))) (cA t m w + 1) (z (cA t m (w + 1) + 1))) t m (w + 1) f = sh2 z t m w (f + 1) := by
        funext j
        unfold sh2
        have c1 : cA t m (w + 1) = cA t m w + 2 := by unfold cA; omega
        rw [c1]
        by_cases q : cA t m w + 2 ≤ j ∧ j < cA t m w + 2 + 2 * f
        · rw [if_pos q, if_pos (by omega), upd_ne (by omega), upd_ne (by omega)]
        · rw [if_neg q]
          by_cases q2 : j = cA t m w + 1
          · subst q2
            rw [upd_s, if_pos (by omega)]
          · rw [upd_ne q2]
            by_cases q3 : j = cA t m w
            · subst q3
              rw [upd_s, if_pos (by omega)]
            · rw [upd_ne q3, if_neg (by omega)]
      rw [e]
      congr 1
      omega
    · intro k k1 k2
      have := h k (by omega) (by omega)
      unfold cMt at this ⊢
      rw [upd_ne (by unfold cA; omega), upd_ne (by unfold cA; omega), upd_ne (by unfold cA; omega), upd_ne (by unfold cA; omega)]
      exact this
theorem cmpC {t m : Nat} {n p : Int32} : ∀ (g r f : Nat) (z : Nat → Int32), (∀ k, r ≤ k → k < r + g → ¬ cMt z t m n p k) → cMt z t m n p (r + g) → (∀ k, r + g < k → k < r + g + 1 + f → ¬ cMt z t m n p k) → cmp0 t m n p (g + 1 + f) r r z = (sh2 z t m (r + g) f, r + g + f) := by
  intro g
  induction g with
  | zero =>
    intro r f z h1 h2 h3
    rw [show 0 + 1 + f = f + 1 by omega, cmp0]
    have h2' : z (cA t m r) = n ∧ z (cA t m r + 1) = p := h2
    rw [if_pos h2']
    exact cmpB f r z (fun k k1 k2 => h3 k (by omega) (by omega))
  | succ g ih =>
    intro r f z h1 h2 h3
    have h0 : ¬ (z (cA t m r) = n ∧ z (cA t m r + 1) = p) := h1 r (Nat.le_refl _) (by omega)
    rw [show g + 1 + 1 + f = (g + 1 + f) + 1 by omega, cmp0, if_neg h0]
    have e : upd (upd z (cA t m r) (z (cA t m r))) (cA t m r + 1) (z (cA t m r + 1)) = z := by
      rw [upd_self, upd_self]
    have e2 : r + (g + 1) = r + 1 + g := by omega
    rw [e, ih (r + 1) f z (fun k k1 k2 => h1 k (by omega) (by omega)) (by rw [← e2]; exact h2) (fun k k1 k2 => h3 k (by omega) (by omega)), e2]
section
variable {z : Nat → Int32} {t m c : Nat} {n p : Int32}
/-- nobody was there: it comes last -/
theorem meeA (h : ∀ k, k < c → ¬ cMt z t m n p k) (hc : c < 8) : meeZ z t m c n p = putC z t m c n p := by
  unfold meeZ
  rw [cmpA c 0 z (fun k _ k2 => h k (by omega)), Nat.zero_add]
  simp only []
  rw [if_neg (by omega)]
theorem meeB (h : ∀ k, k < c → ¬ cMt z t m n p k) (hc : c = 8) : meeZ z t m c n p = putC (shl0 z t m 2) t m 7 n p := by
  unfold meeZ
  rw [cmpA c 0 z (fun k _ k2 => h k (by omega)), Nat.zero_add]
  simp only []
  rw [if_pos hc]
theorem meeC {g : Nat} (hg : g < c) (hc : c ≤ 8) (h1 : cMt z t m n p g) (h2 : ∀ k, k < c → k ≠ g → ¬ cMt z t m n p k) : meeZ z t m c n p = putC (sh2 z t m g (c - 1 - g)) t m (c - 1) n p := by
  unfold meeZ
  have := cmpC (t := t) (m := m) (n := n) (p := p) g 0 (c - 1 - g) z (fun k _ k2 => h2 k (by omega) (by omega)) (by rw [Nat.zero_add]; exact h1) (fun k k1 k2 => h2 k (by omega) (by omega))
  rw [show g + 1 + (c - 1 - g) = c by omega, Nat.zero_add] at this
  rw [this]
  simp only []
  rw [if_neg (by omega)]
  congr 1
  omega
/-- what meet leaves as it is -/
theorem mee_low {j : Nat} (hc : c ≤ 8) (h : j < cA t m 0 ∨ cA t m 0 + 16 ≤ j) (h6 : j ≠ mA t m + 6) (hd : ∀ k k', k < k' → k' < c → ¬ (z (cA t m k) = z (cA t m k') ∧ z (cA t m k + 1) = z (cA t m k' + 1))) : meeZ z t m c n p j = z j := by
  by_cases q : ∃ g, g < c ∧ cMt z t m n p g
  · obtain ⟨g, g1, g2⟩ := q
    have h2 : ∀ k, k < c → k ≠ g → ¬ cMt z t m n p k := by
      intro k hk hne hm
      rcases Nat.lt_or_gt_of_ne hne with l | l
      · exact hd k g l g1 ⟨hm.1.trans g2.1.symm, hm.2.trans g2.2.symm⟩
      · exact hd g k l hk ⟨g2.1.trans hm.1.symm, g2.2.trans hm.2.symm⟩
    rw [meeC g1 hc g2 h2]
    unfold putC sh2
    rw [upd_ne h6, upd_ne (by unfold cA at *; omega), upd_ne (by unfold cA at *; omega), if_neg (by unfold cA at *; omega)]
  · have h2 : ∀ k, k < c → ¬ cMt z t m n p k := fun k hk hm => q ⟨k, hk, hm⟩
    by_cases c8 : c < 8
    · rw [meeA h2 c8]
      unfold putC
      rw [upd_ne h6, upd_ne (by unfold cA at *; omega), upd_ne (by unfold cA at *; omega)]
    · rw [meeB h2 (by omega)]
      unfold putC shl0
      rw [upd_ne h6, upd_ne (by unfold cA at *; omega), upd_ne (by unfold cA at *; omega), if_neg (by unfold cA at *; omega)]
end
/-- endpoints as numbers are told apart -/
theorem enc_inj {a p a' p' : Nat} (ha : a < 100) (hp : p < 10000) (ha' : a' < 100) (hp' : p' < 10000) (e : nI (a * 10000 + p) = nI (a' * 10000 + p')) : a = a' ∧ p = p' := by
  rw [nI_eq (by omega) (by omega)] at e
  omega
/-- contact k is an endpoint -/
def cEp (z : Nat → Int32) (t m k : Nat) : Prop := ∃ b d, b < 100 ∧ d < 10000 ∧ z (cA t m k) = nI b ∧ z (cA t m k + 1) = nI d
theorem cEp.mt {z : Nat → Int32} {t m k b d : Nat} {x : Int32} (e : cEp z t m k) (hx : x = enc (z (cA t m k)) (z (cA t m k + 1))) (hb : b < 100) (hd : d < 10000) : (x = nI (b * 10000 + d)) ↔ cMt z t m (nI b) (nI d) k := by
  obtain ⟨b', d', h1, h2, h3, h4⟩ := e
  subst hx
  unfold cMt
  rw [h3, h4, enc_N]
  constructor
  · intro q
    obtain ⟨q1, q2⟩ := enc_inj h1 h2 hb hd q
    rw [q1, q2]
    exact ⟨rfl, rfl⟩
  · rintro ⟨q1, q2⟩
    rw [nI_eq (by omega) (by omega)] at q1 q2
    rw [q1, q2]
section
variable {l : Launch} {G : Gc}
/-- a mapping that is used meets (b, d) -/
theorem c_meets (m i j c b d : Nat) (z : Nat → Int32) (h : AH) (Q : Po) (hk : CtK h m c) (v : MpV h m z i j) (hi : i < 10) (hj : j < 8) (ek : knw z i j = c) (hep : ∀ k, k < c → cEp z i j k) (hdi : ∀ k k', k < k' → k' < c → ¬ (z (cA i j k) = z (cA i j k') ∧ z (cA i j k + 1) = z (cA i j k' + 1))) (hb : b < 100) (hd : d < 10000)
    (hQ : ∀ f g, MpV (zw (zw h (cC h m) f) m g) m (meeZ z i j c (nI b) (nI d)) i j → g 1 = hI h m 1 → Q (.inl none) (zw (zw h (cC h m) f) m g)) : Call l G M_Mp_addContact [.ref m, .int (nI (b * 10000 + d))] h Q := by
  obtain ⟨h1, h2, h3, h4, h5, h6⟩ := id hk
  obtain ⟨⟨v0, v1, v2, v3, v5⟩, v6⟩ := v
  have nc : cC h m ≠ m := ne_tg (by rw [h1, h3]; decide)
  rw [ek] at v6
  have cc : ∀ f g, cC (zw (zw h (cC h m) f) m g) m = cC h m := fun _ _ => rfl
  have iff : ∀ k, k < c → ((hI h (cC h m) k = nI (b * 10000 + d)) ↔ cMt z i j (nI b) (nI d) k) := fun k hk => (hep k hk).mt (v6 k hk) hb hd
  have low : ∀ w, w < 6 → meeZ z i j c (nI b) (nI d) (mA i j + w) = z (mA i j + w) := fun w hw => mee_low h6 (by unfold mA cA; omega) (by omega) hdi
  have fin : ∀ f g c', g 0 = hI h m 0 → g 1 = hI h m 1 → g 2 = hI h m 2 → g 3 = hI h m 3 → g 5 = nI c' → c' ≤ 8 → meeZ z i j c (nI b) (nI d) (mA i j + 6) = nI c' → (∀ k, k < c' → f k = enc (meeZ z i j c (nI b) (nI d) (cA i j k)) (meeZ z i j c (nI b) (nI d) (cA i j k + 1))) → MpV (zw (zw h (cC h m) f) m g) m (meeZ z i j c (nI b) (nI d)) i j := by
    intro f g c' g0 g1 g2 g3 g5 hc' e6 ef
    refine ⟨⟨?_, ?_, ?_, ?_, ?_⟩, fun k hk => ?_⟩
    · rw [hI_zw, g0, v0, low 0 (by omega), low 1 (by omega)]
    · rw [hI_zw, g1, v1, low 2 (by omega)]
    · rw [hI_zw, g2, v2, low 3 (by omega), low 4 (by omega)]
    · rw [hI_zw, g3, v3, low 5 (by omega)]
    · rw [hI_zw, g5]
      exact e6.symm
    · rw [cc, hI_zw_ne _ nc, hI_zw]
      refine ef k ?_
      unfold knw at hk
      rw [show 176 + 8 * (8 * i + j) + 6 = mA i j + 6 from rfl, e6, nI_clamp (by omega)] at hk
      exact hk
  refine c_Mp_addContact m c _ h Q hk (fun no c8 => ?_) (fun g hg e fi => ?_) (fun no c8 => ?_)
  · have no' : ∀ k, k < c → ¬ cMt z i j (nI b) (nI d) k := fun k hk q => no k hk ((iff k hk).mpr q)
    have em := meeA no' c8
    refine hQ _ _ (fin _ _ (c + 1) (upd_ne (by omega)) (upd_ne (by omega)) (upd_ne (by omega)) (upd_ne (by omega)) (upd_s _ _ _) (by omega) ?_ (fun k hk => ?_)) (upd_ne (by omega))
    · rw [em]; unfold putC; rw [upd_eq rfl]
    · rw [em]
      unfold putC
      by_cases q : k = c
      · subst q
        rw [upd_s, upd_ne (by unfold cA; omega), upd_ne (by omega), upd_s, upd_ne (by unfold cA; omega), upd_s, enc_N]
      · rw [upd_ne q, upd_ne (by unfold cA; omega), upd_ne (by unfold cA; omega), upd_ne (by unfold cA; omega), upd_ne (by unfold cA; omega), upd_ne (by unfold cA; omega), upd_ne (by unfold cA; omega)]
        exact v6 k (by omega)
  · have mg := (iff g hg).mp e
    have oth : ∀ k, k < c → k ≠ g → ¬ cMt z i j (nI b) (nI d) k := by
      intro k hk hne hm
      rcases Nat.lt_or_gt_of_ne hne with q | q
      · exact hdi k g q hg ⟨hm.1.trans mg.1.symm, hm.2.trans mg.2.symm⟩
      · exact hdi g k q hk ⟨mg.1.trans hm.1.symm, mg.2.trans hm.2.symm⟩
    have em := meeC hg h6 mg oth
    have es : zw h (cC h m) (adC (hI h (cC h m)) g c (nI (b * 10000 + d))) = zw (zw h (cC h m) (adC (hI h (cC h m)) g c (nI (b * 10000 + d)))) m (hI h m) := by
      have := zw_self (zw h (cC h m) (adC (hI h (cC h m)) g c (nI (b * 10000 + d)))) m
      rw [hI_zw_ne _ nc.symm] at this
      exact this.symm
    rw [es]
    refine hQ _ _ (fin _ _ c rfl rfl rfl rfl h5 h6 ?_ (fun k hk => ?_)) rfl
    · rw [em]; unfold putC; rw [upd_eq rfl]
      congr 1
      omega
    · rw [em]
      unfold putC adC sh1 sh2
      by_cases q : k = c - 1
      · subst q
        rw [upd_s, upd_ne (by unfold cA; omega), upd_ne (by omega), upd_s, upd_ne (by unfold cA; omega), upd_s, enc_N]
      · rw [upd_ne q, upd_ne (by unfold cA; omega), upd_ne (by unfold cA; omega), upd_ne (by unfold cA; omega), upd_ne (by unfold cA; omega), upd_ne (by unfold cA; omega), upd_ne (by unfold cA; omega)]
        by_cases q2 : g ≤ k
        · rw [if_pos (by omega), if_pos (by unfold cA; omega), if_pos (by unfold cA; omega), v6 (k + 1) (by omega)]
          rfl
        · rw [if_neg (by omega), if_neg (by unfold cA; omega), if_neg (by unfold cA; omega)]
          exact v6 k (by omega)
  · have no' : ∀ k, k < c → ¬ cMt z i j (nI b) (nI d) k := fun k hk q => no k hk ((iff k hk).mpr q)
    have em := meeB no' c8
    subst c8
    have es : zw h (cC h m) (adC (hI h (cC h m)) 0 8 (nI (b * 10000 + d))) = zw (zw h (cC h m) (adC (hI h (cC h m)) 0 8 (nI (b * 10000 + d)))) m (hI h m) := by
      have := zw_self (zw h (cC h m) (adC (hI h (cC h m)) 0 8 (nI (b * 10000 + d)))) m
      rw [hI_zw_ne _ nc.symm] at this
      exact this.symm
    rw [es]
    refine hQ _ _ (fin _ _ 8 rfl rfl rfl rfl h5 h6 ?_ (fun k hk => ?_)) rfl
    · rw [em]; unfold putC; rw [upd_eq rfl]
    · rw [em]
      unfold putC adC sh1 shl0
      by_cases q : k = 7
      · subst q
        rw [upd_s, upd_ne (by unfold cA; omega), upd_ne (by omega), upd_s, upd_ne (by unfold cA; omega), upd_s, enc_N]
      · rw [upd_ne (by omega), upd_ne (by unfold cA; omega), upd_ne (by unfold cA; omega), upd_ne (by unfold cA; omega), upd_ne (by unfold cA; omega), upd_ne (by unfold cA; omega), upd_ne (by unfold cA; omega), if_pos (by omega), if_pos (by unfold cA; omega), if_pos (by unfold cA; omega), v6 (k + 1) (by omega)]
        rfl
end
