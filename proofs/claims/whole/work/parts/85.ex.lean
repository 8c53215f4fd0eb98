/-! PACKETS COME TO AN END -/
/-- the latest delivery of k is an endpoint -/
def DelK (z : Nat → Int32) (k : Nat) : Prop := (∃ a, a < mny z ∧ z (16 + 16 * k + 12) = nI a) ∧ in1 (z (16 + 16 * k + 13)) 1 9999 ∧ in1 (z (16 + 16 * k + 14)) 1 9999
/-- a host was reached: its delivery is told -/
def RchK (z z' : Nat → Int32) (r : Int32) : Prop := (∃ k, k < mny z ∧ z (16 + 16 * k) = nI 0 ∧ r = nI k ∧ DelK z' k) ∨ r = nN ∨ r = (-2) ∨ r = (-3) ∨ r = (-4) ∨ r = (-5)
theorem least {P : Nat → Prop} : ∀ (n : Nat), P n → ∃ i, i ≤ n ∧ P i ∧ ∀ j, j < i → ¬ P j := by
  intro n
  induction n using Nat.strongRecOn with
  | _ n ih =>
    intro h
    by_cases c : ∃ m, m < n ∧ P m
    · obtain ⟨m, m1, m2⟩ := c
      obtain ⟨i, i1, i2, i3⟩ := ih m m1 m2
      exact ⟨i, by omega, i2, i3⟩
    · exact ⟨n, Nat.le_refl _, h, fun j hj q => c ⟨j, hj, q⟩⟩
/-- kinds and nets stay -/
def KnS (z z' : Nat → Int32) : Prop := mny z' = mny z ∧ (∀ n, n < 10 → z' (16 + 16 * n) = z (16 + 16 * n) ∧ z' (16 + 16 * n + 1) = z (16 + 16 * n + 1)) ∧ z' 0 = z 0
theorem KnS.tr {x y z : Nat → Int32} (a : KnS x y) (b : KnS y z) : KnS x z := ⟨b.1.trans a.1, fun n hn => ⟨((b.2.1 n hn).1).trans (a.2.1 n hn).1, ((b.2.1 n hn).2).trans (a.2.1 n hn).2⟩, b.2.2.trans a.2.2⟩
theorem KnS.rf (z : Nat → Int32) : KnS z z := ⟨rfl, fun _ _ => ⟨rfl, rfl⟩, rfl⟩
theorem Cin_ex {sa sp : Nat} (hsp : 1 ≤ sp ∧ sp ≤ 9999) : ∀ (f : Nat) (z : Nat → Int32) (n q : Nat), Inv z → sa < mny z → n < mny z → 11 ≤ n + f → (1 ≤ q ∧ q ≤ 9999) → ∃ r z', CinR (nI sa) (nI sp) f z (nI n) (nI q) r z' ∧ Inv z' ∧ KnS z z' ∧ RchK z z' r := by
  intro f
  induction f with
  | zero => intro z n q inv _ hn hf _; have := inv.1.1.at.2; omega
  | succ f ih =>
    intro z n q inv hsa hn hf hq
    have m10 := inv.1.1.at.2
    rcases (inv.1.2.2.2 n hn).1.1 with hk | hk
    · have nt : ¬ TrZ z (nI n) := by
        rintro ⟨j, j1, j2, j3⟩
        rw [nI_eq (by omega) (by omega)] at j2
        subst j2
        rw [hk] at j3
        exact absurd j3 (by decide)
      obtain ⟨I, mI⟩ := inv.del hn hk hsa hsp hq
      refine ⟨nI n, _, Or.inl ⟨nt, n, rfl, by omega, rfl, rfl⟩, I, ⟨mI, fun m hm => ?_, by unfold delZ; rw [upd_ne (by omega), upd_ne (by omega), upd_ne (by omega)]⟩, Or.inl ⟨n, hn, hk, rfl, ⟨sa, by rw [mI]; exact hsa, ?_⟩, ⟨sp, hsp.1, hsp.2, ?_⟩, ⟨q, hq.1, hq.2, ?_⟩⟩⟩
      · unfold delZ
        rw [upd_ne (by omega), upd_ne (by omega), upd_ne (by omega), upd_ne (by omega), upd_ne (by omega), upd_ne (by omega)]
        exact ⟨rfl, rfl⟩
      · unfold delZ; rw [upd_ne (by omega), upd_ne (by omega), upd_s]
      · unfold delZ; rw [upd_ne (by omega), upd_s]
      · unfold delZ; rw [upd_s]
    · have tra := (inv.1.2.2.2 n hn).2.2.2 hk
      by_cases hp : HasP z n (nI q)
      · obtain ⟨i0, h0, e0⟩ := hp
        obtain ⟨i, i1, i2, i3⟩ := least (P := fun i => z (176 + 8 * (8 * n + i) + 2) = nI q) i0 e0
        have hi : i < own z n := by omega
        obtain ⟨⟨nn, nn1, nn2, nn3⟩, ⟨qq, qq1, qq2, qq3⟩, -, -, -, con⟩ := tra.2.2.1 i hi
        have nlt := (net_tr inv.1 nn1 nn3 (by omega)).1
        by_cases pf : pfZ z n i (nI sa) (nI sp) (knw z n i)
        · have nn2' : z (176 + 8 * (8 * n + i) + 0) = nI nn := nn2
          have qq3' : z (176 + 8 * (8 * n + i) + 1) = nI qq := qq3
          have nx : ∃ z1, z1 = upd z (176 + 8 * (8 * n + i) + 5) (if z (16 + 16 * n + 8) = nI 1 then z 0 else z (176 + 8 * (8 * n + i) + 5)) ∧ Inv z1 ∧ KnS z z1 := by
            refine ⟨_, rfl, ?_, ?_⟩
            · by_cases c : z (16 + 16 * n + 8) = nI 1
              · rw [if_pos c]; exact (inv.ref hn hk hi).1
              · rw [if_neg c, upd_self]; exact inv
            · exact ⟨mny_eq (upd_ne (by omega)), fun m hm => ⟨upd_ne (by omega), upd_ne (by omega)⟩, upd_ne (by omega)⟩
          obtain ⟨z1, ez1, I1, K1⟩ := nx
          obtain ⟨r, z', c1, c2, c3, c4⟩ := ih z1 nn qq I1 (by rw [K1.1]; exact hsa) (by rw [K1.1]; exact nn1) (by omega) ⟨qq1, qq2⟩
          refine ⟨r, z', Or.inr ⟨n, rfl, hn, hk, tra.1, Or.inr ⟨i, hi, i2, i3, con.1, Or.inr ⟨pf, ?_⟩⟩⟩, c2, K1.tr c3, ?_⟩
          · rw [← ez1, nn2', qq3']; exact c1
          · rcases c4 with ⟨k, k1, k2, k3, k4⟩ | q9
            · refine Or.inl ⟨k, by rw [← K1.1]; exact k1, ?_, k3, k4⟩
              rw [← (K1.2.1 k (by have := K1.1; omega)).1]; exact k2
            · exact Or.inr q9
        · exact ⟨(-3), z, Or.inr ⟨n, rfl, hn, hk, tra.1, Or.inr ⟨i, hi, i2, i3, con.1, Or.inl ⟨pf, rfl, rfl⟩⟩⟩, inv, KnS.rf z, Or.inr (Or.inr (Or.inr (Or.inl rfl)))⟩
      · exact ⟨(-2), z, Or.inr ⟨n, rfl, hn, hk, tra.1, Or.inl ⟨hp, rfl, rfl⟩⟩, inv, KnS.rf z, Or.inr (Or.inr (Or.inl rfl))⟩
theorem Trv_ex {b d : Nat} (hd : 1 ≤ d ∧ d ≤ 9999) : ∀ (f : Nat) (z : Nat → Int32) (net last : Int32) (sa sp : Nat), Inv z → b < mny z → sa < mny z → z (16 + 16 * sa + 1) = net → (1 ≤ sp ∧ sp ≤ 9999) → (net = nN ∨ ∃ t, net = nI t ∧ t + 1 < f) → 1 ≤ f → f ≤ 20 → ∃ r z' s' q', TrvR b (nI d) f z net last (nI sa) (nI sp) r z' s' q' ∧ Inv z' ∧ KnS z z' ∧ RchK z z' r := by
  intro f
  induction f with
  | zero => intro z net last sa sp _ _ _ _ _ _ h1 _; omega
  | succ f ih =>
    intro z net last sa sp inv hb hsa esa hsp hnet _ f20
    have m10 := inv.1.1.at.2
    by_cases c : z (16 + 16 * b + 1) = net
    · by_cases c2 : nI b = last ∧ z (16 + 16 * b + 7) = nI 0
      · exact ⟨(-4), z, nI sa, nI sp, Or.inl ⟨c, rfl, rfl, Or.inl ⟨c2.1, trivial, c2.2, rfl, rfl⟩⟩, inv, KnS.rf z, Or.inr (Or.inr (Or.inr (Or.inr (Or.inl rfl))))⟩
      · obtain ⟨r, z', c1, c2', c3, c4⟩ := Cin_ex (sa := sa) hsp 11 z b d inv hsa hb (by omega) hd
        refine ⟨r, z', nI sa, nI sp, Or.inl ⟨c, rfl, rfl, Or.inr ⟨?_, 11, c1⟩⟩, c2', c3, c4⟩
        by_cases q : nI b = last
        · exact Or.inr (fun q2 => c2 ⟨q, q2⟩)
        · exact Or.inl q
    · rcases hnet with e | ⟨t, e, ht⟩
      · exact ⟨nN, z, nI sa, nI sp, Or.inr (Or.inl ⟨c, e, rfl, rfl, rfl, rfl⟩), inv, KnS.rf z, Or.inr (Or.inl rfl)⟩
      · have esa' : z (16 + 16 * sa + 1) = nI t := esa.trans e
        have t9 : t < 100 := by omega
        obtain ⟨ta, tm, tk⟩ := net_tr inv.1 hsa esa' t9
        have gi : GoI z t sa sp b d := ⟨⟨inv, tm, tk⟩, ⟨hsa, esa', hsp⟩, ⟨hb, hd⟩⟩
        have ow := inv.1.own t (by omega)
        rcases Go_ex gi with ⟨z', hf⟩ | ⟨i, z1, hg⟩
        · obtain ⟨⟨I, mI⟩, pl⟩ := GoF.inv gi hf
          exact ⟨(-5), z', nI sa, nI sp, Or.inr (Or.inr ⟨c, t, e, tm, ow, Or.inl ⟨hf, rfl, rfl, rfl⟩⟩), I, ⟨mI, fun n hn => ⟨pl _ (by unfold tPl mA cA; omega), pl _ (by unfold tPl mA cA; omega)⟩, pl 0 (by unfold tPl mA cA; omega)⟩, Or.inr (Or.inr (Or.inr (Or.inr (Or.inr rfl))))⟩
        · obtain ⟨y, c9, g9, ec, c8, ez, -⟩ := hg.to gi
          obtain ⟨⟨I, mI⟩, pl, eo, rows, -, -⟩ := g9.inv gi ec c8
          rw [← ez] at I mI pl eo rows
          have K1 : KnS z z1 := ⟨mI, fun n hn => ⟨pl _ (by unfold tPl mA cA; omega), pl _ (by unfold tPl mA cA; omega)⟩, pl 0 (by unfold tPl mA cA; omega)⟩
          have tkY : z1 (16 + 16 * t) = nI 1 := (K1.2.1 t (by omega)).1.trans tk
          obtain ⟨o, op1, op2, op3⟩ := (((I.1.2.2.2 t (by omega)).2.2.2 tkY).2.2.1 i (by rw [eo]; exact g9.2.1.2.1)).2.2.1
          have nx : z1 (16 + 16 * t + 1) = nN ∨ ∃ t', z1 (16 + 16 * t + 1) = nI t' ∧ t' + 1 < f := by
            rcases (I.1.2.2.2 t (by omega)).1.2 with q | ⟨j, j1, j2, -⟩
            · exact Or.inl q
            · exact Or.inr ⟨j, j2, by omega⟩
          obtain ⟨r, z', s', q', h1, h2, h3, h4⟩ := ih z1 (z1 (16 + 16 * t + 1)) (nI t) t o I (by omega) (by omega) rfl ⟨op1, op2⟩ nx (by omega) (by omega)
          have op3' : z1 (176 + 8 * (8 * t + i) + 2) = nI o := op3
          refine ⟨r, z', s', q', Or.inr (Or.inr ⟨c, t, e, tm, ow, Or.inr ⟨i, z1, hg, ?_, ?_⟩⟩), h2, K1.tr h3, ?_⟩
          · exact pl 1 (by unfold tPl mA cA; omega)
          · rw [op3']; exact h1
          · rcases h4 with ⟨k, k1, k2, k3, k4⟩ | q9
            · refine Or.inl ⟨k, by rw [← K1.1]; exact k1, ?_, k3, k4⟩
              rw [← (K1.2.1 k (by omega)).1]; exact k2
            · exact Or.inr q9
theorem RchK.an {z z' : Nat → Int32} {r : Int32} (k : RchK z z' r) (hm : mny z ≤ 10) : ∃ q, anK r q ∧ 3 ≤ q ∧ q ≤ 8 := by
  rcases k with ⟨k, k1, -, rfl, -⟩ | rfl | rfl | rfl | rfl | rfl
  · exact ⟨3, Or.inl ⟨by rw [nI_ltP (by omega) (by omega)]; omega, rfl⟩, by omega, by omega⟩
  · exact ⟨4, Or.inr ⟨by decide, by decide, by decide, by decide⟩, by omega, by omega⟩
  · exact ⟨5, Or.inr ⟨by decide, by decide, by decide, by decide⟩, by omega, by omega⟩
  · exact ⟨6, Or.inr ⟨by decide, by decide, by decide, by decide⟩, by omega, by omega⟩
  · exact ⟨7, Or.inr ⟨by decide, by decide, by decide, by decide⟩, by omega, by omega⟩
  · exact ⟨8, Or.inr ⟨by decide, by decide, by decide, by decide⟩, by omega, by omega⟩
/-- every packet has an answer -/
theorem Snd_ex {z : Nat → Int32} {n b : Nat} {p d : Int32} (inv : Inv z) (hn : n < mny z) (hk : z (16 + 16 * n) = nI 0) (hb : b < mny z) (hp : in1 p 1 9999) (hd : in1 d 1 9999) : ∃ r z', SndR z n p b d r z' ∧ KnS z z' ∧ RchK z z' r := by
  have m10 := inv.1.1.at.2
  obtain ⟨pp, p1, p2, rfl⟩ := id hp
  obtain ⟨dd, d1, d2, rfl⟩ := id hd
  have nx : z (16 + 16 * n + 1) = nN ∨ ∃ t, z (16 + 16 * n + 1) = nI t ∧ t + 1 < 11 := by
    rcases (inv.1.2.2.2 n hn).1.2 with q | ⟨j, j1, j2, -⟩
    · exact Or.inl q
    · exact Or.inr ⟨j, j2, by omega⟩
  obtain ⟨r, y, s', q', h1, h2, h3, h4⟩ := Trv_ex (b := b) ⟨d1, d2⟩ 11 z _ nN n pp inv hb hn rfl ⟨p1, p2⟩ nx (by omega) (by omega)
  obtain ⟨k, k1, k2, k3⟩ := h4.an m10
  have low : ∀ j, j < 2 ∨ 9 ≤ j → sndZ y k j = y j := fun j hj => snd_low ⟨k2, k3⟩ hj
  have I : Inv (sndZ y k) := h2.ext (low 0 (by omega)) (low 1 (by omega)) (fun j hj => low j (by omega))
  have em : mny (sndZ y k) = mny y := mny_eq (low 1 (by omega))
  have K : KnS z (sndZ y k) := h3.tr ⟨em, fun m hm => ⟨low _ (by omega), low _ (by omega)⟩, low 0 (by omega)⟩
  refine ⟨r, sndZ y k, ⟨⟨inv, I, K.1⟩, ⟨hn, hk, hb, hp, hd⟩, 11, y, s', q', k, h1, k1, rfl⟩, K, ?_⟩
  · rcases h4 with ⟨q, q1, q2, q3, ⟨a, a1, a2⟩, a3, a4⟩ | q9
    · exact Or.inl ⟨q, q1, q2, q3, ⟨a, by rw [em]; exact a1, by rw [low _ (by omega)]; exact a2⟩, by rw [low _ (by omega)]; exact a3, by rw [low _ (by omega)]; exact a4⟩
    · exact Or.inr q9
