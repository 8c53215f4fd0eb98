/-! NEW CELLS -/
theorem hN_nw (h : AH) (t n : Nat) (g : List Nat) : hN (nw h t n g) = hN h + 1 := rfl
theorem hM_nw (h : AH) (t n : Nat) (g : List Nat) : hM (nw h t n g) = hM h + n := rfl
theorem hN_sR (h : AH) (a k : Nat) (x : Option Nat) : hN (sR h a k x) = hN h := rfl
theorem hM_sR (h : AH) (a k : Nat) (x : Option Nat) : hM (sR h a k x) = hM h := rfl
theorem hN_sL (h : AH) (a k : Nat) (x : Int64) : hN (sL h a k x) = hN h := rfl
theorem hM_sL (h : AH) (a k : Nat) (x : Int64) : hM (sL h a k x) = hM h := rfl
theorem hT_sR (h : AH) (a k : Nat) (x : Option Nat) : hT (sR h a k x) = hT h := rfl
theorem hT_sL (h : AH) (a k : Nat) (x : Int64) : hT (sL h a k x) = hT h := rfl
theorem tg_sR (h : AH) (a k : Nat) (x : Option Nat) (b : Nat) : tg (sR h a k x) b = tg h b := rfl
theorem ln_sR (h : AH) (a k : Nat) (x : Option Nat) (b : Nat) : ln (sR h a k x) b = ln h b := rfl
theorem gh_sR (h : AH) (a k : Nat) (x : Option Nat) (b : Nat) : gh (sR h a k x) b = gh h b := rfl
theorem gh_sL (h : AH) (a k : Nat) (x : Int64) (b : Nat) : gh (sL h a k x) b = gh h b := rfl
theorem hI_sR (h : AH) (a k : Nat) (x : Option Nat) : hI (sR h a k x) = hI h := rfl
theorem hL_sR (h : AH) (a k : Nat) (x : Option Nat) : hL (sR h a k x) = hL h := rfl
theorem hR_sR (h : AH) (a k : Nat) (x : Option Nat) : hR (sR h a k x) a k = x := by simp [hR, sR, u2]
theorem hR_sRo {h : AH} {a b k : Nat} {x : Option Nat} (hb : b ≠ a) : hR (sR h a k x) b = hR h b := by
  funext j
  simp [hR, sR, u2, hb]
theorem hR_sRk {h : AH} {a k j : Nat} {x : Option Nat} (hj : j ≠ k) : hR (sR h a k x) a j = hR h a j := by simp [hR, sR, u2, hj]
theorem hL_sLo {h : AH} {a b k : Nat} {x : Int64} (hb : b ≠ a) : hL (sL h a k x) b = hL h b := by
  funext j
  simp [hL, sL, u2, hb]
theorem tg_nw0 (h : AH) (t n : Nat) (g : List Nat) : tg (nw h t n g) (hN h) = t := by simp [tg, hT, nw, hN]
theorem ln_nw0 (h : AH) (t n : Nat) (g : List Nat) : ln (nw h t n g) (hN h) = n := by simp [ln, hT, nw, hN]
theorem gh_nw0 (h : AH) (t n : Nat) (g : List Nat) : gh (nw h t n g) (hN h) = g := by simp [gh, hT, nw, hN]
theorem hI_nw0 (h : AH) (t n : Nat) (g : List Nat) : hI (nw h t n g) (hN h) = fun _ => 0 := by simp [hI, nw, hN]
theorem hR_nw0 (h : AH) (t n : Nat) (g : List Nat) : hR (nw h t n g) (hN h) = fun _ => none := by simp [hR, nw, hN]
theorem hL_nw0 (h : AH) (t n : Nat) (g : List Nat) : hL (nw h t n g) (hN h) = fun _ => 0 := by simp [hL, nw, hN]
section
variable {h : AH} {t n b : Nat} {g : List Nat}
theorem hT_nw (hb : b ≠ hN h) : hT (nw h t n g) b = hT h b := by
  have hb' : b ≠ h.1 := hb
  simp [hT, nw, hb']
theorem gh_nw (hb : b ≠ hN h) : gh (nw h t n g) b = gh h b := by unfold gh; rw [hT_nw hb]
theorem hI_nw (hb : b ≠ hN h) : hI (nw h t n g) b = hI h b := by
  have hb' : b ≠ h.1 := hb
  funext j
  simp [hI, nw, hb']
theorem hR_nw (hb : b ≠ hN h) : hR (nw h t n g) b = hR h b := by
  have hb' : b ≠ h.1 := hb
  funext j
  simp [hR, nw, hb']
theorem hL_nw (hb : b ≠ hN h) : hL (nw h t n g) b = hL h b := by
  have hb' : b ≠ h.1 := hb
  funext j
  simp [hL, nw, hb']
end
/-- a cell is as it was -/
def same1 (h h' : AH) (b : Nat) : Prop := hT h' b = hT h b ∧ hI h' b = hI h b ∧ hR h' b = hR h b ∧ hL h' b = hL h b
theorem same1.rf (h : AH) (b : Nat) : same1 h h b := ⟨rfl, rfl, rfl, rfl⟩
theorem same1.tr {h h' h'' : AH} {b : Nat} (x : same1 h h' b) (y : same1 h' h'' b) : same1 h h'' b := ⟨y.1.trans x.1, y.2.1.trans x.2.1, y.2.2.1.trans x.2.2.1, y.2.2.2.trans x.2.2.2⟩
theorem same1.tg {h h' : AH} {b : Nat} (x : same1 h h' b) : tg h' b = tg h b := congrArg (fun q => q.1) x.1
theorem same1.ln {h h' : AH} {b : Nat} (x : same1 h h' b) : ln h' b = ln h b := congrArg (fun q => q.2.1) x.1
theorem same1.gh {h h' : AH} {b : Nat} (x : same1 h h' b) : gh h' b = gh h b := congrArg (fun q => q.2.2) x.1
section
variable {l : Launch} {G : Gc}
/-- a new model at a -/
def MoNew (h h' : AH) (a : Nat) : Prop :=
  hN h' = hN h + 7 ∧ hM h' = hM h + 6334 ∧ (∀ b, b < hN h → b ≠ a → same1 h h' b) ∧ hT h' a = hT h a ∧ hI h' a = hI h a ∧
  (hR h' a 1 = some (hN h) ∧ tg h' (hN h) = 8 ∧ ln h' (hN h) = 2096 ∧ hI h' (hN h) = fun _ => 0) ∧
  (hR h' a 2 = some (hN h + 1) ∧ tg h' (hN h + 1) = 8 ∧ ln h' (hN h + 1) = 2096) ∧
  (hR h' a 4 = some (hN h + 2) ∧ tg h' (hN h + 2) = 8 ∧ ln h' (hN h + 2) = 2096) ∧
  (hR h' a 6 = some (hN h + 3) ∧ tg h' (hN h + 3) = 8 ∧ ln h' (hN h + 3) = 40) ∧
  (hR h' a 12 = some (hN h + 4) ∧ tg h' (hN h + 4) = 8 ∧ ln h' (hN h + 4) = 2) ∧
  (hR h' a 13 = some (hN h + 5) ∧ tg h' (hN h + 5) = 8 ∧ ln h' (hN h + 5) = 2) ∧
  (hR h' a 14 = some (hN h + 6) ∧ tg h' (hN h + 6) = 9 ∧ ln h' (hN h + 6) = 2)
end
