/-! BETWEEN THE LAW'S CALLS. B: 0 the reference, 1 its row, 2 the saved one, 3 the third one, 4 its characters, 5 6 7 its rows for punching, 8 the law's answer, 9 the script -/
def MoL (h : AH) (B : Nat → Nat) (L : Nat) (xs : Nat → Int32) : Prop := (tg h (B 0) = 7 ∧ WF h) ∧ (hR h (B 0) 1 = some (B 1) ∧ tg h (B 1) = 8 ∧ ln h (B 1) = 2096) ∧ (hR h (B 0) 2 = some (B 2) ∧ tg h (B 2) = 8 ∧ ln h (B 2) = 2096) ∧ (hR h (B 0) 4 = some (B 3) ∧ tg h (B 3) = 8 ∧ ln h (B 3) = 2096) ∧ (hR h (B 0) 6 = some (B 4) ∧ tg h (B 4) = 8 ∧ ln h (B 4) = 40) ∧ (hR h (B 0) 12 = some (B 5) ∧ tg h (B 5) = 8 ∧ ln h (B 5) = 2) ∧ (hR h (B 0) 13 = some (B 6) ∧ tg h (B 6) = 8 ∧ ln h (B 6) = 2) ∧ (hR h (B 0) 14 = some (B 7) ∧ tg h (B 7) = 9 ∧ ln h (B 7) = 2) ∧ (tg h (B 8) = 12 ∧ ln h (B 8) = 1) ∧ (tg h (B 9) = 13 ∧ ln h (B 9) = L ∧ hI h (B 9) = xs) ∧ (∀ i j, i < 10 → j < 10 → i ≠ j → B i ≠ B j) ∧ ∀ i, i < 10 → rt h (B i) = none ∧ B i < hN h
section
variable {h h1 h2 : AH} {A B : Nat → Nat} {L : Nat} {xs : Nat → Int32}
theorem MoL.S (k : MoL h B L xs) : MoS h (B 0) (B 1) := ⟨k.1.1, k.2.1⟩
theorem MoL.Bf (k : MoL h B L xs) : MoB h (B 0) (B 1) (B 2) (B 4) := ⟨k.S, k.2.2.1, k.2.2.2.2.1, k.2.2.2.2.2.2.2.2.2.2.1 1 2 (by omega) (by omega) (by omega), k.2.2.2.2.2.2.2.2.2.2.1 1 4 (by omega) (by omega) (by omega), k.2.2.2.2.2.2.2.2.2.2.1 2 4 (by omega) (by omega) (by omega)⟩
theorem MoL.Ar (k : MoL h B L xs) : MoA h (B 0) (B 1) (B 3) := ⟨k.2.2.2.1.1, k.2.2.2.1.2.1, k.2.2.2.1.2.2, k.2.2.2.2.2.2.2.2.2.2.1 1 3 (by omega) (by omega) (by omega)⟩
theorem MoL.P (k : MoL h B L xs) : MoP h (B 0) (B 1) (B 5) (B 6) (B 7) := ⟨k.S, k.2.2.2.2.2.1, k.2.2.2.2.2.2.1, k.2.2.2.2.2.2.2.1, k.2.2.2.2.2.2.2.2.2.2.1 1 5 (by omega) (by omega) (by omega), k.2.2.2.2.2.2.2.2.2.2.1 1 6 (by omega) (by omega) (by omega), k.2.2.2.2.2.2.2.2.2.2.1 5 6 (by omega) (by omega) (by omega)⟩
theorem MoL.T {n : Nat} (k : MoL h B L xs) (h5 : hI h (B 0) 5 = nI n) (hn : n ≤ 40) : MoT h (B 0) (B 4) n := ⟨k.1.1, k.2.2.2.2.1.1, k.2.2.2.2.1.2.1, k.2.2.2.2.1.2.2, h5, hn⟩
theorem MoL.ne (k : MoL h B L xs) {i j : Nat} (hi : i < 10) (hj : j < 10) (hij : i ≠ j) : B i ≠ B j := k.2.2.2.2.2.2.2.2.2.2.1 i j hi hj hij
theorem MoL.low (k : MoL h B L xs) {i : Nat} (hi : i < 10) : rt h (B i) = none ∧ B i < hN h := k.2.2.2.2.2.2.2.2.2.2.2 i hi
/-- its cells are the same in kind, and so are its references -/
theorem MoL.cp (k : MoL h B L xs) (hw : WF h1) (hn : hN h ≤ hN h1) (e1 : ∀ i, i < 10 → hT h1 (B i) = hT h (B i)) (e2 : hR h1 (B 0) = hR h (B 0)) (e3 : hI h1 (B 9) = hI h (B 9)) : MoL h1 B L xs := by
  obtain ⟨⟨a1, -⟩, a2, a3, a4, a5, a6, a7, a8, a9, a10, a11, a12⟩ := k
  have et : ∀ i, i < 10 → tg h1 (B i) = tg h (B i) := fun i hi => by unfold tg; rw [e1 i hi]
  have el : ∀ i, i < 10 → ln h1 (B i) = ln h (B i) := fun i hi => by unfold ln; rw [e1 i hi]
  refine ⟨⟨by rw [et 0 (by omega)]; exact a1, hw⟩, ?_, ?_, ?_, ?_, ?_, ?_, ?_, ?_, ?_, a11, fun i hi => ⟨by rw [rt_eq (e1 i hi)]; exact (a12 i hi).1, by have := (a12 i hi).2; omega⟩⟩
  · rw [e2, et 1 (by omega), el 1 (by omega)]; exact a2
  · rw [e2, et 2 (by omega), el 2 (by omega)]; exact a3
  · rw [e2, et 3 (by omega), el 3 (by omega)]; exact a4
  · rw [e2, et 4 (by omega), el 4 (by omega)]; exact a5
  · rw [e2, et 5 (by omega), el 5 (by omega)]; exact a6
  · rw [e2, et 6 (by omega), el 6 (by omega)]; exact a7
  · rw [e2, et 7 (by omega), el 7 (by omega)]; exact a8
  · rw [et 8 (by omega), el 8 (by omega)]; exact a9
  · rw [et 9 (by omega), el 9 (by omega), e3]; exact a10
/-- what holds between two calls of the law -/
def LwI (h : AH) (A B : Nat → Nat) (L : Nat) (xs : Nat → Int32) : Prop := ∃ n, MoL h B L xs ∧ HpR h A (hI h (B 1)) (hI h (B 2)) (hI h (B 4)) n ∧ Inv (hI h (B 1)) ∧ (hI h (A 0) 6 = nI 1 → Inv (hI h (B 2))) ∧ hI h (B 0) 3 = hI h (A 0) 6 ∧ hI h (B 0) 5 = nI n
/-- the room of one call -/
def Rm (c : Nat) (h h1 : AH) : Prop := hN h ≤ hN h1 ∧ hN h1 ≤ hN h + c ∧ hM h1 + 12 * hN h ≤ hM h + 12 * hN h1 ∧ hM h ≤ hM h1
/-- the class has answered, the reference not yet -/
def Mid (c : Nat) (h h1 : AH) (A B : Nat → Nat) (L : Nat) (xs z' zs' t' : Nat → Int32) (n' : Nat) (f' : Int32) : Prop := MoL h1 B L xs ∧ (∀ i, i < 8 → hI h1 (B i) = hI h (B i)) ∧ HpR h1 A z' zs' t' n' ∧ hI h1 (A 0) 6 = f' ∧ (Inv z' ∧ (f' = nI 1 → Inv zs')) ∧ Rm c h h1
section
variable {c n' : Nat} {z' zs' t' : Nat → Int32} {f' : Int32}
theorem mid_of (k : MoL h B L xs) (kh : HpR h1 A z' zs' t' n') (fx : FrX c h h1) (h6 : hI h1 (A 0) 6 = f') (iv : Inv z') (is : f' = nI 1 → Inv zs') : Mid c h h1 A B L xs z' zs' t' n' f' := by
  have s : ∀ i, i < 10 → same1 h h1 (B i) := fun i hi => fx.2.2.1 _ (k.low hi).2 (k.low hi).1
  exact ⟨k.cp fx.2.2.2 fx.1.1 (fun i hi => (s i hi).1) (s 0 (by omega)).2.2.1 (s 9 (by omega)).2.1, fun i hi => (s i (by omega)).2.1, kh, h6, ⟨iv, is⟩, fx.1⟩
/-- the class has thrown -/
theorem Mid.tw (m : Mid c h h1 A B L xs z' zs' t' n' f') : Mid (c + 1) h (nx h1) A B L xs z' zs' t' n' f' := by
  obtain ⟨k, e, kh, h6, ⟨iv, is⟩, r1, r2, r3, r4⟩ := m
  have hw := k.1.2
  have x := nx_X hw
  obtain ⟨q1, q2⟩ := kh.mv (h' := nx h1) (z' := z') (zs' := zs') (t' := t') x.2.2.2 iv (by rw [h6]; exact is) (fun b _ _ => ⟨rfl, rfl, rfl, rfl⟩) (eqA.rf _) (fun _ => eqA.rf _) (fun _ _ => rfl)
  refine ⟨k.cp x.2.2.2 x.1.1 (fun _ _ => rfl) rfl rfl, e, q1, by rw [q2]; exact h6, ⟨iv, is⟩, ?_, ?_, ?_, ?_⟩
  · have := x.1.1; omega
  · have := x.1.2.1; omega
  · have := x.1.2.2.1; omega
  · have := x.1.2.2.2; omega
/-- the answer is laid down -/
theorem Mid.out (m : Mid c h h1 A B L xs z' zs' t' n' f') (v : Int64) : Mid c h (sL h1 (B 8) 0 v) A B L xs z' zs' t' n' f' := by
  obtain ⟨k, e, kh, h6, ⟨iv, is⟩, r⟩ := m
  have hw : WF (sL h1 (B 8) 0 v) := k.1.2
  have r8 := (k.low (i := 8) (by omega)).1
  obtain ⟨q1, q2⟩ := kh.mv (z' := z') (zs' := zs') (t' := t') hw iv (by rw [h6]; exact is) (fun b _ hr => ⟨rfl, rfl, rfl, hL_sLo (fun q => hr (by rw [q]; exact r8))⟩) (eqA.rf _) (fun _ => eqA.rf _) (fun _ _ => rfl)
  exact ⟨k.cp hw (Nat.le_refl _) (fun _ _ => rfl) rfl rfl, e, q1, by rw [q2]; exact h6, ⟨iv, is⟩, r⟩
end
/-- only the reference's cells have changed -/
def ModW (h1 h2 : AH) (B : Nat → Nat) : Prop := hN h2 = hN h1 ∧ hM h2 = hM h1 ∧ hT h2 = hT h1 ∧ hR h2 = hR h1 ∧ ∀ b, (∀ i, i < 8 → b ≠ B i) → hI h2 b = hI h1 b ∧ hL h2 b = hL h1 b
theorem ModW.rf : ModW h1 h1 B := ⟨rfl, rfl, rfl, rfl, fun _ _ => ⟨rfl, rfl⟩⟩
theorem ModW.zw {i : Nat} {f : Nat → Int32} (w : ModW h1 h2 B) (hi : i < 8) : ModW h1 (zw h2 (B i) f) B := ⟨w.1, w.2.1, w.2.2.1, w.2.2.2.1, fun b hb => ⟨(hI_zw_ne f (hb i hi)).trans (w.2.2.2.2 b hb).1, (w.2.2.2.2 b hb).2⟩⟩
theorem ModW.sL {i k : Nat} {x : Int64} (w : ModW h1 h2 B) (hi : i < 8) : ModW h1 (sL h2 (B i) k x) B := ⟨w.1, w.2.1, w.2.2.1, w.2.2.2.1, fun b hb => ⟨(w.2.2.2.2 b hb).1, (hL_sLo (hb i hi)).trans (w.2.2.2.2 b hb).2⟩⟩
theorem Mid.fin {c n' : Nat} {z' zs' t' : Nat → Int32} {f' : Int32} (m : Mid c h h1 A B L xs z' zs' t' n' f') (w : ModW h1 h2 B) (e1 : eqA z' (hI h2 (B 1))) (e2 : f' = nI 1 → eqA zs' (hI h2 (B 2))) (e4 : ∀ k, k < n' → hI h2 (B 4) k = t' k) (e3 : hI h2 (B 0) 3 = f') (e5 : hI h2 (B 0) 5 = nI n') : LwI h2 A B L xs ∧ hN h2 = hN h1 ∧ hM h2 = hM h1 := by
  obtain ⟨k, e, kh, h6, ⟨iv, is⟩, r⟩ := m
  obtain ⟨w1, w2, w3, w4, w5⟩ := w
  have hw : WF h2 := fun b hb => by
    have := k.1.2 b (by omega)
    unfold tg at this ⊢
    rw [w3]
    exact this
  obtain ⟨q1, q2⟩ := kh.mv (h' := h2) (z' := hI h2 (B 1)) (zs' := hI h2 (B 2)) (t' := hI h2 (B 4)) hw iv (by rw [h6]; exact is) (fun b _ hr => ⟨by rw [w3], (w5 b (fun i hi q => hr (by rw [q]; exact (k.low (by omega)).1))).1, by rw [w4], (w5 b (fun i hi q => hr (by rw [q]; exact (k.low (by omega)).1))).2⟩) e1 (by rw [h6]; exact e2) e4
  refine ⟨⟨n', k.cp hw (by omega) (fun _ _ => by rw [w3]) (by rw [w4]) (w5 _ (fun i hi => k.ne (by omega) (by omega) (by omega))).1, q1, (inv_cg iv e1).1, fun q => ?_, by rw [q2, h6]; exact e3, e5⟩, w1, w2⟩
  rw [q2, h6] at q
  exact (inv_cg (is q) (e2 q)).1
/-- both have answered -/
def Aft (h1 : AH) (A B : Nat → Nat) (L : Nat) (xs : Nat → Int32) (kk : Nat) (r : Int32) (h2 : AH) : Prop := (LwI h2 A B L xs ∧ hN h2 = hN h1 ∧ hM h2 = hM h1) ∧ hI h2 (B 0) 0 = nI kk ∧ (kk = 0 → hL h2 (B 8) 0 = r.toInt64)
/-- the class has answered through the law's own method, with kk; the reference will do as well -/
def Sim (l : Launch) (G : Gc) (M : Md) (as : List Value) (A B : Nat → Nat) (L : Nat) (xs : Nat → Int32) (kk : Nat) (h h1 : AH) : Prop := MoL h1 B L xs ∧ Rm 401 h h1 ∧ ∀ P : Po, (∀ r h2, Aft h1 A B L xs kk r h2 → P (.inl (some (.int r))) h2) → Call l G M as h1 P
/-- the class has answered v; the reference will answer the same -/
def Sim0 (l : Launch) (G : Gc) (M : Md) (as : List Value) (A B : Nat → Nat) (L : Nat) (xs : Nat → Int32) (v : Value) (h h1 : AH) : Prop := MoL h1 B L xs ∧ Rm 401 h h1 ∧ ∀ P : Po, (∀ h2, LwI h2 A B L xs ∧ hN h2 = hN h1 ∧ hM h2 = hM h1 → P (.inl (some v)) h2) → Call l G M as h1 P
theorem Rm.mono {c d : Nat} (r : Rm c h h1) (e : c ≤ d) : Rm d h h1 := ⟨r.1, by have := r.2.1; omega, r.2.2⟩
theorem upd_o {f : Nat → Int32} {k j : Nat} {x : Int32} (h : j ≠ k) : upd f k x j = f j := upd_ne h
end
