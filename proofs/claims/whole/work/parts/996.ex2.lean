/-! keepAlive and punch have an answer -/
theorem adv_keep {z : Nat → Int32} {T v : Nat} (inv : Inv z) (hT : z 0 = nI T) (hv : T + v ≤ 100000) : Inv (ddZ (upd z 0 (z 0 + nI v))).1 ∧ (ddZ (upd z 0 (z 0 + nI v))).1 0 = nI (T + v) ∧ mny (ddZ (upd z 0 (z 0 + nI v))).1 = mny z ∧ ∀ j, j < 10 → (ddZ (upd z 0 (z 0 + nI v))).1 (16 + 16 * j) = z (16 + 16 * j) := by
  have ee : z 0 + nI v = nI (T + v) := by rw [hT, nI_add]
  have tick := inv.1.tick (n := v) T hT hv
  rw [ee]
  have d0 := ddA0 (mny (upd z 0 (nI (T + v)))) 0 (upd z 0 (nI (T + v))) 0 (by omega) tick.1
  refine ⟨(ddZ_inv tick.1).1, ?_, ?_, fun j hj => ?_⟩
  · rw [ddZ0 tick.1, upd_s]
  · rw [(ddZ_inv tick.1).2]
    exact mny_eq (by rw [upd_ne (by omega)])
  · have := (d0.2 j hj).1
    rw [upd_ne (by omega)] at this
    exact this
theorem KaR_ex {n b : Nat} {p d : Int32} {v : Nat} (hp : in1 p 1 9999) (hd : in1 d 1 9999) : ∀ (k : Nat) (z : Nat → Int32) (c : Int32) (T : Nat), Inv z → z 0 = nI T → T + k * v ≤ 100000 → n < mny z → z (16 + 16 * n) = nI 0 → b < mny z → ∃ c' z', KaR n p b d (nI v) k z c c' z'
  | 0, z, c, _, _, _, _, _, _, _ => ⟨c, z, rfl, rfl⟩
  | k + 1, z, c, T, inv, hT, hle, hn, hk, hb => by
    obtain ⟨r, z1, hs, -, -⟩ := Snd_ex inv hn hk hb hp hd
    have hle' : T + (k * v + v) ≤ 100000 := by rw [← Nat.succ_mul]; exact hle
    have em := hs.1.2.2
    have m10 := inv.1.1.at.2
    obtain ⟨a1, a2, a3, a4⟩ := adv_keep (v := v) hs.1.2.1 ((snd_0 hs).trans hT) (by omega)
    obtain ⟨c', z', hr⟩ := KaR_ex (v := v) (n := n) (b := b) hp hd k _ (c + (if r < nI 0 then nI 0 else nI 1)) (T + v) a1 a2 (by omega) (by rw [a3, em]; exact hn) (by rw [a4 n (by omega), (snd_k hs (by omega)).1]; exact hk) (by rw [a3, em]; exact hb)
    exact ⟨c', z', r, z1, hs, hr⟩
/-- targets that there are -/
def TgK (N : Nat) (tn tp : Nat → Int32) : Prop := ∀ o, o < 2 → (∃ b, b < N ∧ tn o = nI b) ∧ in1 (tp o) 1 9999
theorem Try_ex {n o m : Nat} {z tn tp hd : Nat → Int32} (ho : o < 2) (inv : Inv z) (hn : n < mny z ∧ z (16 + 16 * n) = nI 0) (hm : m < mny z) (tk : TgK (mny z) tn tp) : ∃ z' tn' tp' hd', TryR n o m z tn tp hd z' tn' tp' hd' ∧ Inv z' ∧ KpS z z' ∧ TgK (mny z) tn' tp' := by
  obtain ⟨⟨b, b1, eb⟩, pb⟩ := tk o ho
  obtain ⟨r, z', hs, -, -⟩ := Snd_ex inv hn.1 hn.2 b1 (p := nI 500) (d := tp o) ⟨500, by omega, by omega, rfl⟩ pb
  have m10 := inv.1.1.at.2
  have em := hs.1.2.2
  by_cases c : r = nI m ∧ z' (16 + 16 * m + 14) = nI 500
  · obtain ⟨rfl, c2⟩ := c
    obtain ⟨⟨a, a1, ea⟩, pa, -⟩ := snd_del hs hm
    refine ⟨z', _, _, _, ⟨b, _, eb, hs, by omega, Or.inr ⟨rfl, c2, rfl, rfl, rfl⟩⟩, hs.1.2.1, KpS.of hs, fun o' ho' => ?_⟩
    by_cases e : o' = 1 - o
    · subst e
      rw [upd_s, upd_s]
      exact ⟨⟨a, by omega, ea⟩, pa⟩
    · rw [upd_ne e, upd_ne e]
      exact tk o' ho'
  · exact ⟨z', tn, tp, hd, ⟨b, r, eb, hs, by omega, Or.inl ⟨c, rfl, rfl, rfl⟩⟩, hs.1.2.1, KpS.of hs, tk⟩
theorem Pr_ex {n m : Nat} : ∀ (k i : Nat) (z tn tp hd : Nat → Int32) (T : Nat), Inv z → z 0 = nI T → T + k ≤ 100000 → (n < mny z ∧ z (16 + 16 * n) = nI 0) → (m < mny z ∧ z (16 + 16 * m) = nI 0) → TgK (mny z) tn tp → ∃ r z', PrR n m k i z tn tp hd r z'
  | 0, i, z, tn, tp, hd, _, _, _, _, _, _, _ => by
    by_cases c : ¬ hd 0 = nI 0 ∧ ¬ hd 1 = nI 0
    · exact ⟨nI i, z, rfl, Or.inl ⟨c.1, c.2, rfl⟩⟩
    · exact ⟨nN, z, rfl, Or.inr ⟨c, rfl⟩⟩
  | k + 1, i, z, tn, tp, hd, T, inv, hT, hle, hn, hm, tk => by
    by_cases c : ¬ hd 0 = nI 0 ∧ ¬ hd 1 = nI 0
    · exact ⟨nI i, z, Or.inl ⟨c.1, c.2, rfl, rfl⟩⟩
    · have m10 := inv.1.1.at.2
      obtain ⟨z1, tn1, tp1, hd1, t1, i1, k1, g1⟩ := Try_ex (n := n) (o := 0) (m := m) (hd := hd) (by omega) inv hn hm.1 tk
      obtain ⟨z2, tn2, tp2, hd2, t2, i2, k2, g2⟩ := Try_ex (n := m) (o := 1) (m := n) (hd := hd1) (by omega) i1 ⟨by rw [k1.1]; exact hm.1, by rw [(k1.2.2 m (by omega)).1]; exact hm.2⟩ (by rw [k1.1]; exact hn.1) (by rw [k1.1]; exact g1)
      have k12 := k1.tr k2
      obtain ⟨a1, a2, a3, a4⟩ := adv_keep (v := 1) i2 (k12.2.1.trans hT) (by omega)
      have eM : mny (ddZ (upd z2 0 (z2 0 + nI 1))).1 = mny z := a3.trans k12.1
      obtain ⟨r, z', hr⟩ := Pr_ex k (i + 1) _ tn2 tp2 hd2 (T + 1) a1 a2 (by omega) ⟨by rw [eM]; exact hn.1, by rw [a4 n (by omega), (k12.2.2 n (by omega)).1]; exact hn.2⟩ ⟨by rw [eM]; exact hm.1, by rw [a4 m (by omega), (k12.2.2 m (by omega)).1]; exact hm.2⟩ (by rw [eM, ← k1.1]; exact g2)
      exact ⟨r, z', Or.inr ⟨c, z1, tn1, tp1, hd1, z2, tn2, tp2, hd2, t1, t2, i2, hr⟩⟩
theorem ahd_in {f e : Int32} (hf : in1 f 1 9999) : in1 (ahd f e) 1 9999 := by
  unfold ahd
  by_cases c : nI 1 ≤ f + f - e ∧ f + f - e ≤ nI 9999
  · rw [if_pos c]; exact n_in1 (by omega) c.1 c.2 (by omega)
  · rw [if_neg c]; exact hf
/-- host n shows itself, and the half of the targets that it tells -/
theorem Shw_ex {n s : Nat} {d : Int32} {z : Nat → Int32} (inv : Inv z) (hn : n < mny z ∧ z (16 + 16 * n) = nI 0) (hs : s < mny z) (hd : in1 d 1 9999) (o : Nat) (tn tp : Nat → Int32) (pr : Int32) (hpr : pr = nI 0 ∨ pr = nI 1) : ∃ ok z' tn' tp', ShwR n o s d pr z tn tp ok z' tn' tp' ∧ Inv z' ∧ KpS z z' ∧ (ok = nI 0 ∨ ok = nI 1 ∧ (∀ o', o' ≠ o → tn' o' = tn o' ∧ tp' o' = tp o') ∧ in1 (tp' o) 1 9999 ∧ (pr = nI 1 → tn' o = tn o) ∧ (pr = nI 0 → ∃ b, b < mny z ∧ tn' o = nI b)) := by
  obtain ⟨r, z', h, -, -⟩ := Snd_ex inv hn.1 hn.2 hs (p := nI 500) (d := d) ⟨500, by omega, by omega, rfl⟩ hd
  have em := h.1.2.2
  by_cases c : r = nI s
  · subst c
    obtain ⟨⟨a, a1, ea⟩, pa, -⟩ := snd_del h hs
    rcases hpr with rfl | rfl
    · refine ⟨nI 1, z', _, _, ⟨_, h, Or.inr ⟨rfl, rfl, Or.inl ⟨rfl, rfl, rfl⟩⟩⟩, h.1.2.1, KpS.of h, Or.inr ⟨rfl, fun o' e => ?_, ?_, fun q => absurd q (by decide), fun _ => ⟨a, by omega, ?_⟩⟩⟩
      · rw [upd_ne e, upd_ne e]; exact ⟨rfl, rfl⟩
      · rw [upd_s]; exact pa
      · rw [upd_s]; exact ea
    · refine ⟨nI 1, z', _, _, ⟨_, h, Or.inr ⟨rfl, rfl, Or.inr ⟨rfl, rfl, rfl⟩⟩⟩, h.1.2.1, KpS.of h, Or.inr ⟨rfl, fun o' e => ?_, ?_, fun _ => rfl, fun q => absurd q (by decide)⟩⟩
      · rw [upd_ne e]; exact ⟨rfl, rfl⟩
      · rw [upd_s]; exact ahd_in pa
  · exact ⟨nI 0, z', tn, tp, ⟨r, h, Or.inl ⟨c, rfl, rfl, rfl⟩⟩, h.1.2.1, KpS.of h, Or.inl rfl⟩
theorem Pun_ex {n m s : Nat} {pr : Int32} {z : Nat → Int32} {T : Nat} (inv : Inv z) (hT : z 0 = nI T) (hle : T ≤ 99990) (hn : n < mny z ∧ z (16 + 16 * n) = nI 0) (hm : m < mny z ∧ z (16 + 16 * m) = nI 0) (hs : s < mny z) (hpr : pr = nI 0 ∨ pr = nI 1) (tn tp hd : Nat → Int32) : ∃ r z', PunR n m s pr z tn tp hd r z' := by
  have m10 := inv.1.1.at.2
  have hd1 : in1 (nI 1) 1 9999 := ⟨1, by omega, by omega, rfl⟩
  have hd2 : in1 (nI 2) 1 9999 := ⟨2, by omega, by omega, rfl⟩
  have mv : ∀ {y : Nat → Int32} (x : Nat), KpS z y → (x < mny z ∧ z (16 + 16 * x) = nI 0) → (x < mny y ∧ y (16 + 16 * x) = nI 0) := fun x k h => ⟨by rw [k.1]; exact h.1, by rw [(k.2.2 x (by omega)).1]; exact h.2⟩
  obtain ⟨k1, z1, tn1, tp1, w1, i1, p1, o1⟩ := Shw_ex inv hn hs hd1 1 tn tp (nI 0) (Or.inl rfl)
  rcases o1 with rfl | ⟨rfl, a1, b1, -, d1⟩
  · exact ⟨nI 0, z1, _, z1, _, _, w1, Or.inl ⟨rfl, rfl, rfl⟩⟩
  obtain ⟨k2, z2, tn2, tp2, w2, i2, p2', o2⟩ := Shw_ex i1 (mv m p1 hm) (by rw [p1.1]; exact hs) hd1 0 tn1 tp1 (nI 0) (Or.inl rfl)
  have p2 := p1.tr p2'
  rcases o2 with rfl | ⟨rfl, a2, b2, -, d2⟩
  · exact ⟨nI 0, z2, _, z1, _, _, w1, Or.inr ⟨rfl, _, z2, _, _, w2, Or.inl ⟨rfl, rfl, rfl⟩⟩⟩
  have tk2 : TgK (mny z2) tn2 tp2 := by
    intro o ho
    have cs : o = 0 ∨ o = 1 := by omega
    rcases cs with rfl | rfl
    · obtain ⟨b, q1, q2⟩ := d2 rfl
      exact ⟨⟨b, by rw [p2'.1]; exact q1, q2⟩, b2⟩
    · obtain ⟨b, q1, q2⟩ := d1 rfl
      obtain ⟨e1, e2⟩ := a2 1 (by omega)
      rw [e1, e2]
      exact ⟨⟨b, by rw [p2.1]; exact q1, q2⟩, b1⟩
  rcases hpr with rfl | rfl
  · obtain ⟨r, z', hr⟩ := Pr_ex (n := n) (m := m) 5 0 z2 tn2 tp2 (upd (upd hd 0 (nI 0)) 1 (nI 0)) T i2 (p2.2.1.trans hT) (by omega) (mv n p2 hn) (mv m p2 hm) tk2
    exact ⟨r, z', _, z1, _, _, w1, Or.inr ⟨rfl, _, z2, _, _, w2, Or.inr ⟨rfl, Or.inl ⟨rfl, hr⟩⟩⟩⟩
  obtain ⟨k3, z3, tn3, tp3, w3, i3, p3', o3⟩ := Shw_ex i2 (mv n p2 hn) (by rw [p2.1]; exact hs) hd2 1 tn2 tp2 (nI 1) (Or.inr rfl)
  have p3 := p2.tr p3'
  rcases o3 with rfl | ⟨rfl, a3, b3, c3, -⟩
  · exact ⟨nI 0, z3, _, z1, _, _, w1, Or.inr ⟨rfl, _, z2, _, _, w2, Or.inr ⟨rfl, Or.inr ⟨rfl, _, z3, _, _, w3, Or.inl ⟨rfl, rfl, rfl⟩⟩⟩⟩⟩
  obtain ⟨k4, z4, tn4, tp4, w4, i4, p4', o4⟩ := Shw_ex i3 (mv m p3 hm) (by rw [p3.1]; exact hs) hd2 0 tn3 tp3 (nI 1) (Or.inr rfl)
  have p4 := p3.tr p4'
  rcases o4 with rfl | ⟨rfl, a4, b4, c4, -⟩
  · exact ⟨nI 0, z4, _, z1, _, _, w1, Or.inr ⟨rfl, _, z2, _, _, w2, Or.inr ⟨rfl, Or.inr ⟨rfl, _, z3, _, _, w3, Or.inr ⟨rfl, _, z4, _, _, w4, Or.inl ⟨rfl, rfl, rfl⟩⟩⟩⟩⟩⟩
  have tk4 : TgK (mny z4) tn4 tp4 := by
    intro o ho
    have em : mny z4 = mny z2 := p4.1.trans p2.1.symm
    have cs : o = 0 ∨ o = 1 := by omega
    rw [em]
    rcases cs with rfl | rfl
    · refine ⟨?_, b4⟩
      rw [c4 rfl, (a3 0 (by omega)).1]
      exact (tk2 0 (by omega)).1
    · rw [(a4 1 (by omega)).1, (a4 1 (by omega)).2, c3 rfl]
      exact ⟨(tk2 1 (by omega)).1, b3⟩
  obtain ⟨r, z', hr⟩ := Pr_ex (n := n) (m := m) 5 0 z4 tn4 tp4 (upd (upd hd 0 (nI 0)) 1 (nI 0)) T i4 (p4.2.1.trans hT) (by omega) (mv n p4 hn) (mv m p4 hm) tk4
  exact ⟨r, z', _, z1, _, _, w1, Or.inr ⟨rfl, _, z2, _, _, w2, Or.inr ⟨rfl, Or.inr ⟨rfl, _, z3, _, _, w3, Or.inr ⟨rfl, _, z4, _, _, w4, Or.inr ⟨rfl, hr⟩⟩⟩⟩⟩⟩
