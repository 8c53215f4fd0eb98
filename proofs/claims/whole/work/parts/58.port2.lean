theorem Fp_keep {z : Nat → Int32} {t p : Nat} (ho : own z t < 8) (hp : p ≤ 9999) : ∃ n, n < 8 ∧ fst0 (fun k => nI p + nI k) (HasP z t) n := by
  obtain ⟨n, h1, h2⟩ := freeP (f := fun k => nI p + nI k) ho (fun a b hab hb e => by
    simp only [nI_add] at e
    rw [nI_eq (by omega) (by omega)] at e
    omega)
  obtain ⟨m, h3, h4⟩ := fst0_ex (f := fun k => nI p + nI k) n h2
  exact ⟨m, by omega, h4⟩
theorem itC {s c : Nat} (hs1 : 1 ≤ s) (hs : s ≤ 9) (hc : 1000 ≤ c ∧ c ≤ 9999) (n : Nat) : itr (nxC (nI s)) n (nI c) = nI (itN (nxN s) n c) ∧ (1000 ≤ itN (nxN s) n c ∧ itN (nxN s) n c ≤ 9999) :=
  itr_N (P := fun c => 1000 ≤ c ∧ c ≤ 9999) (fun c h => ⟨nxC_N hs h.2, nxN_in hs1 h⟩) n c hc
theorem itR {s : Nat} (hs : s < 2147483648) (n : Nat) : itr rnd n (nI s) = nI (itN rN n s) ∧ itN rN n s < 2147483648 :=
  itr_N (P := fun c => c < 2147483648) (fun c h => ⟨rnd_N h, rN_lt c⟩) n s hs
theorem Fp_cnt {z : Nat → Int32} {t s c : Nat} (ho : own z t < 8) (hs1 : 1 ≤ s) (hs : s ≤ 9) (hc : 1000 ≤ c ∧ c ≤ 9999) : ∃ n, n < 8 ∧ fst0 (fun k => itr (nxC (nI s)) k (nI c)) (HasP z t) n := by
  obtain ⟨n, h1, h2⟩ := freeP (f := fun k => itr (nxC (nI s)) k (nI c)) ho (fun a b hab hb e => by
    obtain ⟨a1, a2⟩ := itC hs1 hs hc a
    obtain ⟨b1, b2⟩ := itC hs1 hs hc b
    replace e : itr (nxC (nI s)) a (nI c) = itr (nxC (nI s)) b (nI c) := e
    rw [a1, b1, nI_eq (by omega) (by omega)] at e
    obtain ⟨d, rfl, hd⟩ : ∃ d, b = a + d ∧ 1 ≤ d := ⟨b - a, by omega, by omega⟩
    rw [itN_add] at e
    exact nxN_ne hs1 hs a2 hd (by omega) e.symm)
  obtain ⟨m, h3, h4⟩ := fst0_ex (f := fun k => itr (nxC (nI s)) k (nI c)) n h2
  exact ⟨m, by omega, h4⟩
theorem Fp_rnd {z : Nat → Int32} {t s : Nat} (ho : own z t < 8) (hs : s < 2147483648) : ∃ n, n < 500000 ∧ fst0 (fun k => ptR (itr rnd (k + 1) (nI s))) (HasP z t) n := by
  have e1 : ∀ j, itr rnd (65536 * j + 1) (nI s) = nI (itN rN (65536 * j) (rN s)) := by
    intro j
    rw [(itR hs _).1]
    rfl
  have lt : ∀ j, itN rN j (rN s) < 2147483648 := fun j => (itR (rN_lt s) j).2
  have pl : ∀ y, pN y < 10000 := by
    intro y
    unfold pN
    have := Nat.mod_lt (y / 65536) (show 0 < 9000 by decide)
    omega
  obtain ⟨n, h1, h2⟩ := freeP (z := z) (t := t) (f := fun j => ptR (itr rnd (65536 * j + 1) (nI s))) ho (fun a b hab hb e => by
    simp only [e1, ptR_N (lt _)] at e
    rw [nI_eq (by have := pl (itN rN (65536 * a) (rN s)); omega) (by have := pl (itN rN (65536 * b) (rN s)); omega)] at e
    exact big_ne (rN s) (rN_lt s) hab hb e)
  obtain ⟨m, h3, h4⟩ := fst0_ex (f := fun k => ptR (itr rnd (k + 1) (nI s))) (P := HasP z t) (65536 * n) h2
  exact ⟨m, by omega, h4⟩
/-- what freshPort does, with bounds -/
def FpX (z : Nat → Int32) (t : Nat) (p r : Int32) (z' : Nat → Int32) : Prop :=
  (z (16 + 16 * t + 4) = nI 0 ∧ z' = z ∧ ∃ n pp, n < 8 ∧ 1 ≤ pp ∧ pp ≤ 9999 ∧ p = nI pp ∧ fst0 (fun k => nI pp + nI k) (HasP z t) n ∧ r = (if nI 9999 < nI pp + nI n then nN else nI pp + nI n)) ∨
  (z (16 + 16 * t + 4) = nI 1 ∧ ∃ n s c, n < 8 ∧ (1 ≤ s ∧ s ≤ 9) ∧ (1000 ≤ c ∧ c ≤ 9999) ∧ z (16 + 16 * t + 5) = nI s ∧ z (16 + 16 * t + 9) = nI c ∧ fst0 (fun k => itr (nxC (nI s)) k (nI c)) (HasP z t) n ∧ r = itr (nxC (nI s)) n (nI c) ∧ z' = upd z (16 + 16 * t + 9) (itr (nxC (nI s)) (n + 1) (nI c))) ∨
  (z (16 + 16 * t + 4) = nI 2 ∧ ∃ n s, n < 500000 ∧ s < 2147483648 ∧ z (16 + 16 * t + 10) = nI s ∧ fst0 (fun k => ptR (itr rnd (k + 1) (nI s))) (HasP z t) n ∧ r = ptR (itr rnd (n + 1) (nI s)) ∧ z' = upd z (16 + 16 * t + 10) (itr rnd (n + 1) (nI s)))
theorem as_n {z : Nat → Int32} {t : Nat} (h : in1 (z (16 + 16 * t + 4)) 0 2) : z (16 + 16 * t + 4) = nI 0 ∨ z (16 + 16 * t + 4) = nI 1 ∨ z (16 + 16 * t + 4) = nI 2 := by
  obtain ⟨k, -, h2, h3⟩ := h
  have : k = 0 ∨ k = 1 ∨ k = 2 := by omega
  rcases this with rfl | rfl | rfl
  · exact Or.inl h3
  · exact Or.inr (Or.inl h3)
  · exact Or.inr (Or.inr h3)
theorem FpX_ex {z : Nat → Int32} {t : Nat} {p : Int32} (ho : own z t < 8) (ht : TrI z t) (hp : in1 p 1 9999) : ∃ r z', FpX z t p r z' := by
  obtain ⟨pp, p1, p2, rfl⟩ := hp
  obtain ⟨-, -, ha, ⟨s, s1, s2, es⟩, -, -, -, ⟨c, c1, c2, ec⟩, ⟨q, -, q2, eq⟩⟩ := ht
  rcases as_n ha with a | a | a
  · obtain ⟨n, h1, h2⟩ := Fp_keep (p := pp) ho p2
    exact ⟨_, _, Or.inl ⟨a, rfl, n, pp, h1, p1, p2, rfl, h2, rfl⟩⟩
  · obtain ⟨n, h1, h2⟩ := Fp_cnt (s := s) (c := c) ho s1 s2 ⟨c1, c2⟩
    exact ⟨_, _, Or.inr (Or.inl ⟨a, n, s, c, h1, ⟨s1, s2⟩, ⟨c1, c2⟩, es, ec, h2, rfl, rfl⟩)⟩
  · obtain ⟨n, h1, h2⟩ := Fp_rnd (s := q) ho (by omega)
    exact ⟨_, _, Or.inr (Or.inr ⟨a, n, q, h1, by omega, eq, h2, rfl, rfl⟩)⟩
theorem FpX.to {z z' : Nat → Int32} {t : Nat} {p r : Int32} (k : FpX z t p r z') : FpR z t p r z' := by
  rcases k with ⟨a, e, n, pp, -, -, -, rfl, hf, er⟩ | ⟨a, n, s, c, -, -, -, es, ec, hf, er, ez⟩ | ⟨a, n, s, -, -, es, hf, er, ez⟩
  · exact Or.inl ⟨a, e, n, hf, er⟩
  · refine Or.inr (Or.inl ⟨a, n, ?_, ?_, ?_⟩)
    · rw [es, ec]; exact hf
    · rw [es, ec]; exact er
    · rw [es, ec]; exact ez
  · refine Or.inr (Or.inr ⟨by rw [a]; decide, by rw [a]; decide, n, ?_, ?_, ?_⟩)
    · rw [es]; exact hf
    · rw [es]; exact er
    · rw [es]; exact ez
theorem FpR.to {z z' : Nat → Int32} {t : Nat} {p r : Int32} (k : FpR z t p r z') (ho : own z t < 8) (ht : TrI z t) (hp : in1 p 1 9999) : FpX z t p r z' := by
  obtain ⟨pp, p1, p2, rfl⟩ := hp
  obtain ⟨-, -, ha, ⟨s, s1, s2, es⟩, -, -, -, ⟨c, c1, c2, ec⟩, ⟨q, -, q2, eq⟩⟩ := ht
  rcases k with ⟨a, e, n, hf, er⟩ | ⟨a, n, hf, er, e⟩ | ⟨a, a', n, hf, er, e⟩
  · obtain ⟨m, h1, h2⟩ := Fp_keep (p := pp) ho p2
    have := hf.det h2
    subst this
    exact Or.inl ⟨a, e, n, pp, h1, p1, p2, rfl, h2, er⟩
  · obtain ⟨m, h1, h2⟩ := Fp_cnt (s := s) (c := c) ho s1 s2 ⟨c1, c2⟩
    rw [es, ec] at hf er e
    have := hf.det h2
    subst this
    exact Or.inr (Or.inl ⟨a, n, s, c, h1, ⟨s1, s2⟩, ⟨c1, c2⟩, es, ec, h2, er, e⟩)
  · obtain ⟨m, h1, h2⟩ := Fp_rnd (s := q) ho (show q < 2147483648 by omega)
    rw [eq] at hf er e
    have := hf.det h2
    subst this
    rcases as_n ha with b | b | b
    · exact absurd b a
    · exact absurd b a'
    · exact Or.inr (Or.inr ⟨b, n, q, h1, by omega, eq, h2, er, e⟩)
/-- the port that freshPort gives -/
theorem FpX.rng {z z' : Nat → Int32} {t : Nat} {p r : Int32} (k : FpX z t p r z') : r = nN ∨ in1 r 1 9999 := by
  rcases k with ⟨a, e, n, pp, hn, h1, h2, rfl, hf, er⟩ | ⟨a, n, s, c, -, hs, hc, es, ec, hf, er, ez⟩ | ⟨a, n, s, -, hs, es, hf, er, ez⟩
  · rw [nI_add] at er
    by_cases c : nI 9999 < nI (pp + n)
    · rw [if_pos c] at er; exact Or.inl er
    · rw [if_neg c] at er
      rw [nI_ltP (by omega) (by omega)] at c
      exact Or.inr ⟨pp + n, by omega, by omega, er⟩
  · obtain ⟨a1, a2⟩ := itC hs.1 hs.2 hc n
    exact Or.inr ⟨_, by omega, a2.2, er.trans a1⟩
  · obtain ⟨a1, a2⟩ := itR hs (n + 1)
    rw [a1, ptR_N a2] at er
    have := Nat.mod_lt (itN rN (n + 1) s / 65536) (show 0 < 9000 by decide)
    exact Or.inr ⟨_, by unfold pN; omega, by unfold pN; omega, er⟩
/-- what freshPort changes stays in range -/
theorem FpX.tr {z z' : Nat → Int32} {t : Nat} {p r : Int32} (k : FpX z t p r z') (ht : TrI z t) : TrI z' t := by
  rcases k with ⟨a, rfl, -⟩ | ⟨a, n, s, c, -, hs, hc, es, ec, hf, er, rfl⟩ | ⟨a, n, s, -, hs, es, hf, er, rfl⟩
  · exact ht
  · obtain ⟨b1, b2, b3, b4, b5, b6, b7, b8, b9⟩ := ht
    obtain ⟨a1, a2⟩ := itC hs.1 hs.2 hc (n + 1)
    refine ⟨?_, ?_, ?_, ?_, ?_, ?_, ?_, ?_, ?_⟩
    all_goals first
      | (rw [upd_ne (by omega)]; assumption)
      | (rw [upd_s]; exact ⟨_, a2.1, a2.2, a1⟩)
  · obtain ⟨b1, b2, b3, b4, b5, b6, b7, b8, b9⟩ := ht
    obtain ⟨a1, a2⟩ := itR hs (n + 1)
    refine ⟨?_, ?_, ?_, ?_, ?_, ?_, ?_, ?_, ?_⟩
    all_goals first
      | (rw [upd_ne (by omega)]; assumption)
      | (rw [upd_s]; exact ⟨_, Nat.zero_le _, by omega, a1⟩)
