/-! DEAD MAPPINGS, OF NUMBERS -/
/-- those of i, i + 1, .. (n of them) that live -/
def sel (z : Nat → Int32) (t : Nat) : Nat → Nat → List Nat
  | _, 0 => []
  | i, n + 1 => if nI 0 ≤ livZ z t i then i :: sel z t (i + 1) n else sel z t (i + 1) n
theorem sel_len (z : Nat → Int32) (t : Nat) : ∀ (n i : Nat), (sel z t i n).length ≤ n
  | 0, i => Nat.le_refl _
  | n + 1, i => by
    rw [sel]
    have := sel_len z t n (i + 1)
    split
    · simp only [List.length_cons]; omega
    · omega
theorem sel_mem (z : Nat → Int32) (t : Nat) : ∀ (n i k : Nat) (j : Nat), (sel z t i n)[k]? = some j → i + k ≤ j ∧ j < i + n ∧ nI 0 ≤ livZ z t j
  | 0, i, k, j, h => by simp [sel] at h
  | n + 1, i, k, j, h => by
    rw [sel] at h
    split at h
    · rename_i c
      cases k with
      | zero =>
        simp at h
        subst h
        exact ⟨by omega, by omega, c⟩
      | succ k =>
        simp at h
        have := sel_mem z t n (i + 1) k j h
        exact ⟨by omega, by omega, this.2.2⟩
    · have := sel_mem z t n (i + 1) k j h
      exact ⟨by omega, by omega, this.2.2⟩
theorem sel_mono (z : Nat → Int32) (t : Nat) : ∀ (n i k k' : Nat) (j j' : Nat), k < k' → (sel z t i n)[k]? = some j → (sel z t i n)[k']? = some j' → j < j'
  | 0, i, k, k', j, j', hk, h, h' => by simp [sel] at h
  | n + 1, i, k, k', j, j', hk, h, h' => by
    rw [sel] at h h'
    split at h
    · rename_i c
      rw [if_pos c] at h'
      cases k' with
      | zero => omega
      | succ k' =>
        simp at h'
        cases k with
        | zero =>
          simp at h
          have := (sel_mem z t n (i + 1) k' j' h').1
          omega
        | succ k =>
          simp at h
          exact sel_mono z t n (i + 1) k k' j j' (by omega) h h'
    · rename_i c
      rw [if_neg c] at h'
      exact sel_mono z t n (i + 1) k k' j j' hk h h'
/-- place k of y holds mapping j of z -/
def rowE (y z : Nat → Int32) (t k j : Nat) : Prop := (∀ w, w < 8 → y (mA t k + w) = z (mA t j + w)) ∧ ∀ e, e < 16 → y (cA t k 0 + e) = z (cA t j 0 + e)
/-- places that dropping changes -/
def dPl (t j : Nat) : Prop := j = 16 + 16 * t + 11 ∨ (mA t 0 ≤ j ∧ j < mA t 0 + 64) ∨ (cA t 0 0 ≤ j ∧ j < cA t 0 0 + 128)
theorem drop_row {y : Nat → Int32} {t i : Nat} (ht : t < 10) (ho : own y t ≤ 8) : (∀ m, m < i → m < 8 → rowE (dropZ y t i) y t m m) ∧ (∀ m, i ≤ m → m + 1 < own y t → rowE (dropZ y t i) y t m (m + 1)) ∧ ∀ j, ¬ dPl t j → dropZ y t i j = y j := by
  refine ⟨fun m h1 h2 => ⟨fun w hw => ?_, fun e he => ?_⟩, fun m h1 h2 => ⟨fun w hw => ?_, fun e he => ?_⟩, fun j hj => ?_⟩
  · unfold dropZ dsh mA
    rw [if_neg (by omega), if_neg (by omega), upd_ne (by omega)]
  · unfold dropZ dsh cA
    rw [if_neg (by omega), if_neg (by omega), upd_ne (by omega)]
  · unfold dropZ dsh mA
    rw [if_pos (by omega), upd_ne (by omega)]
    exact congrArg y (by omega)
  · unfold dropZ dsh cA
    rw [if_neg (by omega), if_pos (by omega), upd_ne (by omega)]
    exact congrArg y (by omega)
  · unfold dPl mA cA at hj
    unfold dropZ dsh
    rw [if_neg (by omega), if_neg (by omega), upd_ne (by omega)]
/-- dropping from the last down to i -/
def Jd (z y : Nat → Int32) (t o i : Nat) : Prop := OwnOK y t ∧ own y t = i + (sel z t i (o - i)).length ∧ (∀ m, m < i → rowE y z t m m) ∧ (∀ k j, (sel z t i (o - i))[k]? = some j → rowE y z t (i + k) j) ∧ ∀ j, ¬ dPl t j → y j = z j
theorem rowE.tr {x y z : Nat → Int32} {t a b c : Nat} (h1 : rowE x y t a b) (h2 : rowE y z t b c) : rowE x z t a c := ⟨fun w hw => (h1.1 w hw).trans (h2.1 w hw), fun e he => (h1.2 e he).trans (h2.2 e he)⟩
theorem ddT_sel {z : Nat → Int32} {t o : Nat} (ht : t < 10) (h8 : o ≤ 8) : ∀ (i : Nat) (y : Nat → Int32) (c : Nat), i ≤ o → Jd z y t o i → Jd z (ddT t i y c).1 t o 0 ∧ (ddT t i y c).2 + (sel z t 0 o).length = c + i + (sel z t i (o - i)).length := by
  intro i
  induction i with
  | zero => exact fun y c _ hj => ⟨hj, by rw [ddT, Nat.sub_zero]; omega⟩
  | succ i ih =>
    intro y c hi hj
    obtain ⟨j1, j2, j3, j4, j5⟩ := hj
    have hl := sel_len z t (o - (i + 1)) (i + 1)
    have es : sel z t i (o - i) = if nI 0 ≤ livZ z t i then i :: sel z t (i + 1) (o - (i + 1)) else sel z t (i + 1) (o - (i + 1)) := by
      rw [show o - i = (o - (i + 1)) + 1 by omega, sel]
    have el : livZ y t i = livZ z t i := by
      unfold livZ
      rw [j5 _ (by unfold dPl mA cA; omega), j5 0 (by unfold dPl mA cA; omega), show y (176 + 8 * (8 * t + i) + 5) = z (176 + 8 * (8 * t + i) + 5) from (j3 i (by omega)).1 5 (by omega)]
    rw [ddT, el]
    by_cases cc : nI 0 ≤ livZ z t i
    · rw [if_pos cc]
      rw [if_pos cc] at es
      obtain ⟨r1, r2⟩ := ih y c (by omega) ⟨j1, by rw [es, List.length_cons]; omega, fun m hm => j3 m (by omega), fun k j hk => by
        rw [es] at hk
        cases k with
        | zero =>
          simp at hk
          subst hk
          exact j3 i (by omega)
        | succ k =>
          simp at hk
          have := j4 k j hk
          rw [show i + (k + 1) = i + 1 + k by omega]
          exact this, j5⟩
      refine ⟨r1, ?_⟩
      rw [r2, es, List.length_cons]
      omega
    · rw [if_neg cc]
      rw [if_neg cc] at es
      have o8 := j1.2
      obtain ⟨d1, d2, d3⟩ := drop_row (i := i) ht o8
      obtain ⟨ok1, ok2⟩ := drop_ok (m := i) ht j1
      obtain ⟨r1, r2⟩ := ih (dropZ y t i) (c + 1) (by omega) ⟨ok1, by rw [ok2, es]; omega, fun m hm => (d1 m hm (by omega)).tr (j3 m (by omega)), fun k j hk => by
        rw [es] at hk
        have hb : k < (sel z t (i + 1) (o - (i + 1))).length := by
          have := List.getElem?_eq_some_iff.mp hk
          exact this.1
        have := (d2 (i + k) (by omega) (by omega)).tr (show rowE y z t (i + k + 1) j by
          rw [show i + k + 1 = i + 1 + k by omega]
          exact j4 k j hk)
        exact this, fun j hj => (d3 j hj).trans (j5 j hj)⟩
      refine ⟨r1, ?_⟩
      rw [r2, es]
      omega
/-- what is left of translator t's mappings, and how many died -/
theorem ddT_ends {z : Nat → Int32} {t : Nat} (ht : t < 10) (ho : OwnOK z t) (c : Nat) : (OwnOK (ddT t (own z t) z c).1 t ∧ own (ddT t (own z t) z c).1 t = (sel z t 0 (own z t)).length) ∧ (∀ k j, (sel z t 0 (own z t))[k]? = some j → rowE (ddT t (own z t) z c).1 z t k j) ∧ (∀ j, ¬ dPl t j → (ddT t (own z t) z c).1 j = z j) ∧ (ddT t (own z t) z c).2 + (sel z t 0 (own z t)).length = c + own z t := by
  obtain ⟨⟨r1, r2, r3, r4, r5⟩, r6⟩ := ddT_sel ht ho.2 (own z t) z c (Nat.le_refl _) ⟨ho, by rw [Nat.sub_self]; simp [sel], fun m hm => ⟨fun _ _ => rfl, fun _ _ => rfl⟩, fun k j hk => by
    rw [Nat.sub_self] at hk
    simp [sel] at hk, fun _ _ => rfl⟩
  rw [Nat.sub_zero] at r2 r4
  refine ⟨⟨r1, by rw [r2, Nat.zero_add]⟩, fun k j hk => ?_, r5, ?_⟩
  · have := r4 k j hk
    rw [Nat.zero_add] at this
    exact this
  · rw [r6, Nat.sub_self]
    simp [sel]
theorem rowE.liv {y z : Nat → Int32} {t k j : Nat} (h : rowE y z t k j) (h6 : y (16 + 16 * t + 6) = z (16 + 16 * t + 6)) (h0 : y 0 = z 0) : livZ y t k = livZ z t j := by
  unfold livZ
  rw [h6, h0, show y (176 + 8 * (8 * t + k) + 5) = z (176 + 8 * (8 * t + j) + 5) from h.1 5 (by omega)]
/-- translator t keeps what must hold of it, and has no dead -/
theorem dd_tra {z : Nat → Int32} {t : Nat} (inv : Inv0 z) (ht : t < mny z) (tk : z (16 + 16 * t) = nI 1) (c : Nat) : TraI (ddT t (own z t) z c).1 t ∧ ∀ k, k < own (ddT t (own z t) z c).1 t → nI 0 ≤ livZ (ddT t (own z t) z c).1 t k := by
  have m10 := inv.1.at.2
  have tra := (inv.2.2.2 t ht).2.2.2 tk
  obtain ⟨⟨e1, e2⟩, e3, e4, -⟩ := ddT_ends (t := t) (by omega) tra.1 c
  obtain ⟨T, T1, T2, T3⟩ := inv.2.1
  generalize (ddT t (own z t) z c).1 = y at *
  have y0 : y 0 = z 0 := e4 0 (by unfold dPl mA cA; omega)
  have y1 : y 1 = z 1 := e4 1 (by unfold dPl mA cA; omega)
  have at_ : ∀ k, k < own y t → ∃ j, (sel z t 0 (own z t))[k]? = some j ∧ j < own z t ∧ nI 0 ≤ livZ z t j := by
    intro k hk
    rw [e2] at hk
    refine ⟨(sel z t 0 (own z t))[k], List.getElem?_eq_getElem hk, ?_⟩
    have := sel_mem z t _ _ _ _ (List.getElem?_eq_getElem hk)
    exact ⟨by omega, this.2.2⟩
  have row : ∀ w, w < 11 → y (16 + 16 * t + w) = z (16 + 16 * t + w) := fun w hw => e4 _ (by unfold dPl mA cA; omega)
  refine ⟨⟨e1, tra.2.1.congr row, fun k hk => ?_, fun k k' hk hk' => ?_⟩, fun k hk => ?_⟩
  · obtain ⟨j, j1, j2, j3⟩ := at_ k hk
    have r := e3 k j j1
    exact (tra.2.2.1 j j2).congr y1 ⟨T, T, Nat.le_refl _, T2, T3, y0.trans T3⟩ (row 2 (by omega)) (fun w hw => r.1 w (by omega)) r.2 (fun i hi => e4 _ (by unfold dPl mA cA; omega))
  · obtain ⟨j, j1, j2, -⟩ := at_ k (by omega)
    obtain ⟨j', j1', j2', -⟩ := at_ k' hk'
    have r := e3 k j j1
    have r' := e3 k' j' j1'
    rw [r.1 0 (by omega), r.1 1 (by omega), r.1 3 (by omega), r.1 4 (by omega), r'.1 0 (by omega), r'.1 1 (by omega), r'.1 3 (by omega), r'.1 4 (by omega)]
    exact tra.2.2.2 j j' (sel_mono z t _ _ k k' j j' hk j1 j1') j2'
  · obtain ⟨j, j1, j2, j3⟩ := at_ k hk
    rw [(e3 k j j1).liv (row 6 (by omega)) y0]
    exact j3
/-- only mappings of translator t have gone -/
theorem Inv0.tr {z z' : Nat → Int32} {t : Nat} (k : Inv0 z) (ht : t < mny z) (tk : z (16 + 16 * t) = nI 1) (e : ∀ j, ¬ tPl t j → z' j = z j) (tr : TraI z' t) : Inv0 z' ∧ mny z' = mny z := by
  obtain ⟨z10, ⟨T, T1, T2, T3⟩, fre, nod⟩ := k
  have hz := z10.at.2
  have e0 : z' 0 = z 0 := e 0 (by unfold tPl mA cA; omega)
  have e1 : z' 1 = z 1 := e 1 (by unfold tPl mA cA; omega)
  have em := mny_eq e1
  have row : ∀ n k, n < 10 → k < 16 → (n ≠ t ∨ k < 9 ∨ 11 < k) → z' (16 + 16 * n + k) = z (16 + 16 * n + k) := by
    intro n k hn hk c
    refine e _ ?_
    unfold tPl mA cA
    omega
  have row0 : ∀ n, n < 10 → z' (16 + 16 * n) = z (16 + 16 * n) := fun n hn => row n 0 hn (by omega) (Or.inr (Or.inl (by omega)))
  have net : ∀ i, i < 10 → z' (16 + 16 * i + 1) = z (16 + 16 * i + 1) := fun i hi => row i 1 hi (by omega) (Or.inr (Or.inl (by omega)))
  refine ⟨⟨?_, ⟨T, T1, T2, e0.trans T3⟩, fun n h1 h2 => ?_, fun n hn => ?_⟩, em⟩
  · obtain ⟨k, k1, k2⟩ := z10
    exact ⟨k, k1, e1.trans k2⟩
  · rw [em] at h1
    have hne : n ≠ t := by omega
    rw [row0 n h2, row n 7 h2 (by omega) (Or.inl hne), row n 8 h2 (by omega) (Or.inl hne), row n 11 h2 (by omega) (Or.inl hne)]
    exact fre n h1 h2
  · rw [em] at hn
    have h10 : n < 10 := by omega
    obtain ⟨a1, a2, a3, a4⟩ := nod n hn
    refine ⟨⟨?_, ?_⟩, ?_, fun q => ?_, fun q => ?_⟩
    · rw [row0 n h10]; exact a1.1
    · rw [net n h10]
      rcases a1.2 with q | ⟨i, i1, i2, i3⟩
      · exact Or.inl q
      · exact Or.inr ⟨i, i1, i2, by rw [row0 i (by omega)]; exact i3⟩
    · unfold DelI
      rw [row n 12 h10 (by omega) (Or.inr (Or.inr (by omega))), row n 13 h10 (by omega) (Or.inr (Or.inr (by omega))), row n 14 h10 (by omega) (Or.inr (Or.inr (by omega))), row0 n h10, em]
      exact a2
    · rw [row0 n h10] at q
      have hne : n ≠ t := fun q2 => by
        rw [q2, tk] at q
        exact absurd q (by decide)
      rw [row n 11 h10 (by omega) (Or.inl hne)]
      exact a3 q
    · by_cases hne : n = t
      · rw [hne]; exact tr
      · rw [row0 n h10] at q
        exact (a4 q).congr e1 ⟨T, T, Nat.le_refl _, T2, T3, e0.trans T3⟩ (fun w hw => row n w h10 hw (Or.inl hne)) ⟨fun w hw => e _ (by unfold tPl mA cA; omega), fun w hw => e _ (by unfold tPl mA cA; omega)⟩ (fun i hi => net i (by omega))
theorem dPl_tPl {t j : Nat} (h : ¬ tPl t j) : ¬ dPl t j := by
  unfold tPl at h
  unfold dPl
  omega
/-- one translator after the other: what holds, and of which ones no mapping is dead -/
theorem dd_one {z : Nat → Int32} {t : Nat} (inv : Inv0 z) (ht : t < mny z) (c : Nat) : (Inv0 (ddT t (own z t) z c).1 ∧ mny (ddT t (own z t) z c).1 = mny z) ∧ (∀ j, ¬ tPl t j → (ddT t (own z t) z c).1 j = z j) ∧ (∀ j, j < own (ddT t (own z t) z c).1 t → nI 0 ≤ livZ (ddT t (own z t) z c).1 t j) := by
  have m10 := inv.1.at.2
  rcases (inv.2.2.2 t ht).1.1 with q | q
  · have e := (own0 ((inv.2.2.2 t ht).2.2.1 q)).2
    rw [e]
    refine ⟨⟨inv, rfl⟩, fun _ _ => rfl, fun j hj => ?_⟩
    have hj' : j < own z t := hj
    omega
  · obtain ⟨h1, h2⟩ := dd_tra inv ht q c
    have h3 := (ddT_ends (t := t) (by omega) (inv.own t (by omega)) c).2.2.1
    exact ⟨inv.tr ht q (fun j hj => h3 j (dPl_tPl hj)) h1, fun j hj => h3 j (dPl_tPl hj), h2⟩
