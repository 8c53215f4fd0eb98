/-! THE CLASS: its cells. A network nw owns all cells whose label begins with nw. -/
def nA (h : AH) (nw : Nat) : Nat := (hR h nw 0).getD 0
def lA (h : AH) (nw : Nat) : Nat := (hR h nw 1).getD 0
def mM (h : AH) (t : Nat) : Nat := (hR h t 9).getD 0
def cC (h : AH) (m : Nat) : Nat := (hR h m 4).getD 0
def rt (h : AH) (a : Nat) : Option Nat := (gh h a).head?
/-- no kind is known of cells to come -/
def WF (h : AH) : Prop := ∀ a, hN h ≤ a → tg h a = 99
theorem WF.lt {h : AH} (k : WF h) {a : Nat} (ht : tg h a ≠ 99) : a < hN h := Classical.not_not.mp (fun q => ht (k a (Nat.le_of_not_lt q)))
def TlK (h : AH) (t : Nat) : Prop := tg h t = 5 ∧ hR h t 9 = some (mM h t) ∧ tg h (mM h t) = 10 ∧ ln h (mM h t) = 8
def NwK (h : AH) (nw : Nat) : Prop := tg h nw = 1 ∧ hR h nw 0 = some (nA h nw) ∧ tg h (nA h nw) = 11 ∧ ln h (nA h nw) = 10
/-- a mapping of node i of nw -/
def ShM (h : AH) (nw i m : Nat) : Prop := tg h m = 0 ∧ gh h m = [nw, 6, i] ∧ hR h m 4 = some (cC h m) ∧ tg h (cC h m) = 8 ∧ ln h (cC h m) = 8 ∧ gh h (cC h m) = [nw, 7, i, m]
/-- the translator of node i of nw -/
def ShT (h : AH) (nw i t : Nat) : Prop := TlK h t ∧ gh h t = [nw, 4, i] ∧ gh h (mM h t) = [nw, 5, i] ∧ (∀ j m, j < 8 → hR h (mM h t) j = some m → ShM h nw i m) ∧ (∀ j j' m, j < 8 → j' < 8 → hR h (mM h t) j = some m → hR h (mM h t) j' = some m → j = j')
/-- node i of nw -/
def ShD (h : AH) (nw i n : Nat) : Prop := tg h n = 3 ∧ gh h n = [nw, 3, i] ∧ ∀ t, hR h n 4 = some t → ShT h nw i t
def ShN (h : AH) (nw : Nat) : Prop := NwK h nw ∧ gh h nw = [nw] ∧ gh h (nA h nw) = [nw, 1] ∧ (hR h nw 1 = some (lA h nw) ∧ tg h (lA h nw) = 8 ∧ ln h (lA h nw) = 6 ∧ gh h (lA h nw) = [nw, 2]) ∧ ∀ i n, i < 10 → hR h (nA h nw) i = some n → ShD h nw i n
/-- an endpoint as one number -/
def enc (a p : Int32) : Int32 := a * nI 10000 + p
/-- the same, where there may be none -/
def encD (a p : Int32) : Int32 := if a = nN then nN else enc a p
/-- a key -/
def encK (a p : Int32) : Int32 := if a = nN then nN else if p = nN then enc a (nI 0) else enc a p
/-- the node n holds what z says of node i -/
def NoV (h : AH) (n : Nat) (z : Nat → Int32) (i : Nat) : Prop := (z (16 + 16 * i) = nI 0 → hI h n 0 = nI 1) ∧ (z (16 + 16 * i) = nI 1 → hI h n 0 = nI 0) ∧ hI h n 1 = z (16 + 16 * i + 1) ∧ hI h n 2 = encD (z (16 + 16 * i + 12)) (z (16 + 16 * i + 13)) ∧ hI h n 3 = z (16 + 16 * i + 14)
/-- the translator t holds what z says of i; it has s mappings -/
def TlV (h : AH) (t : Nat) (z : Nat → Int32) (i s : Nat) : Prop := (hI h t 0 = z (16 + 16 * i + 2) ∧ hI h t 1 = z (16 + 16 * i + 3) ∧ hI h t 2 = z (16 + 16 * i + 4) ∧ hI h t 3 = z (16 + 16 * i + 5) ∧ hI h t 4 = z (16 + 16 * i + 6) ∧ hI h t 5 = z (16 + 16 * i + 7) ∧ hI h t 6 = z (16 + 16 * i + 8) ∧ hI h t 7 = z (16 + 16 * i + 9)) ∧ hL h t 8 = (z (16 + 16 * i + 10)).toInt64 ∧ hI h t 10 = nI s
/-- the mapping m holds what z says of mapping j of i -/
def MpV (h : AH) (m : Nat) (z : Nat → Int32) (i j : Nat) : Prop := (hI h m 0 = enc (z (mA i j + 0)) (z (mA i j + 1)) ∧ hI h m 1 = z (mA i j + 2) ∧ hI h m 2 = encK (z (mA i j + 3)) (z (mA i j + 4)) ∧ hI h m 3 = z (mA i j + 5) ∧ hI h m 5 = z (mA i j + 6)) ∧ ∀ k, k < knw z i j → hI h (cC h m) k = enc (z (cA i j k)) (z (cA i j k + 1))
/-- the translator t, with its mappings, holds what z says of i: s are counted, c are right -/
def TlG (h : AH) (t : Nat) (z : Nat → Int32) (i s c : Nat) : Prop := TlV h t z i s ∧ ∀ j, j < c → ∃ m, hR h (mM h t) j = some m ∧ MpV h m z i j
/-- node i of nw holds what z says -/
def NodG (h : AH) (nw : Nat) (z : Nat → Int32) (i s c : Nat) : Prop := ∃ d, hR h (nA h nw) i = some d ∧ NoV h d z i ∧ (z (16 + 16 * i) = nI 1 → ∃ t, hR h d 4 = some t ∧ TlG h t z i s c)
/-- the network nw holds what z says: nc nodes are counted, n are right; translator i counts sz i mappings, cnt i are right -/
def NwG (h : AH) (nw : Nat) (z : Nat → Int32) (nc n : Nat) (sz cnt : Nat → Nat) : Prop :=
  ShN h nw ∧ (hI h nw 2 = nI nc ∧ hI h nw 3 = z 0 ∧ hI h nw 4 = z 2 ∧ hI h nw 5 = z 3) ∧ (∀ k, 1 ≤ k → k ≤ 5 → hI h (lA h nw) k = z (3 + k)) ∧ ∀ i, i < n → NodG h nw z i (sz i) (cnt i)
/-- the network nw holds what z says -/
def NwR (h : AH) (nw : Nat) (z : Nat → Int32) : Prop := NwG h nw z (mny z) (mny z) (own z) (own z)
/-- from h to h' at most c new cells, all of nw; of the old ones only those of nw have changed -/
def Fr (nw c : Nat) (h h' : AH) : Prop := (hN h ≤ hN h' ∧ hN h' ≤ hN h + c ∧ hM h' + 12 * hN h ≤ hM h + 12 * hN h' ∧ hM h ≤ hM h') ∧ (∀ b, b < hN h → hT h' b = hT h b) ∧ (∀ b, b < hN h → rt h b ≠ some nw → same1 h h' b) ∧ (∀ b, hN h ≤ b → b < hN h' → rt h' b = some nw) ∧ WF h'
theorem Fr.rf {nw : Nat} {h : AH} (k : WF h) : Fr nw 0 h h := ⟨⟨Nat.le_refl _, Nat.le_refl _, Nat.le_refl _, Nat.le_refl _⟩, fun _ _ => rfl, fun b _ _ => same1.rf h b, fun b h1 h2 => by omega, k⟩
theorem rt_eq {h h' : AH} {b : Nat} (e : hT h' b = hT h b) : rt h' b = rt h b := by unfold rt gh; rw [e]
theorem Fr.tr {nw c d : Nat} {h h' h'' : AH} (x : Fr nw c h h') (y : Fr nw d h' h'') : Fr nw (c + d) h h'' := by
  obtain ⟨⟨a1, a2, a3, a4⟩, b1, c1, d1, -⟩ := x
  obtain ⟨⟨a5, a6, a7, a8⟩, b2, c2, d2, w⟩ := y
  refine ⟨⟨by omega, by omega, by omega, by omega⟩, fun b hb => (b2 b (by omega)).trans (b1 b hb), fun b hb hr => (c1 b hb hr).tr (c2 b (by omega) (by rw [rt_eq (b1 b hb)]; exact hr)), fun b h1 h2 => ?_, w⟩
  by_cases e : b < hN h'
  · rw [rt_eq (b2 b e)]
    exact d1 b h1 e
  · exact d2 b (by omega) h2
theorem Fr.mono {nw c d : Nat} {h h' : AH} (x : Fr nw c h h') (e : c ≤ d) : Fr nw d h h' := ⟨⟨x.1.1, by have := x.1.2.1; omega, x.1.2.2⟩, x.2⟩
/-- writes of numbers into cells of nw -/
theorem Fr.ints {nw : Nat} {h h' : AH} (k : WF h) (e1 : hN h' = hN h) (e2 : hM h' = hM h) (e3 : hT h' = hT h) (e4 : ∀ b, rt h b ≠ some nw → hI h' b = hI h b ∧ hR h' b = hR h b ∧ hL h' b = hL h b) : Fr nw 0 h h' := by
  refine ⟨⟨by omega, by omega, by omega, by omega⟩, fun b _ => by rw [e3], fun b _ hr => ⟨by rw [e3], e4 b hr⟩, fun b h1 h2 => by omega, fun b hb => ?_⟩
  have := k b (by omega)
  unfold tg at this ⊢
  rw [e3]
  exact this
theorem Fr.zw {nw a : Nat} {h : AH} {f : Nat → Int32} (k : WF h) (hr : rt h a = some nw) : Fr nw 0 h (zw h a f) := Fr.ints k rfl rfl rfl (fun b hb => ⟨hI_zw_ne f (fun e => hb (by rw [e]; exact hr)), rfl, rfl⟩)
theorem rt_gh {h : AH} {a nw : Nat} {r : List Nat} (e : gh h a = nw :: r) : rt h a = some nw := by unfold rt; rw [e]; rfl
