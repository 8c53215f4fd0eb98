/-! a row of ints written as a whole -/
def zw (h : AH) (a : Nat) (f : Nat → Int32) : AH := (h.1, h.2.1, h.2.2.1, fun b => if b = a then f else h.2.2.2.1 b, h.2.2.2.2.1, h.2.2.2.2.2)
theorem sI_zw (h : AH) (a k : Nat) (x : Int32) : sI h a k x = zw h a (upd (hI h a) k x) := by
  unfold sI zw
  refine congrArg (fun q => (h.1, h.2.1, h.2.2.1, q, h.2.2.2.2.1, h.2.2.2.2.2)) ?_
  funext b j
  by_cases e : b = a
  · subst e; simp [u2, upd, hI]
  · simp [u2, e]
theorem zw_zw (h : AH) (a : Nat) (f g : Nat → Int32) : zw (zw h a f) a g = zw h a g := by
  unfold zw
  refine congrArg (fun q => (h.1, h.2.1, h.2.2.1, q, h.2.2.2.2.1, h.2.2.2.2.2)) ?_
  funext b
  by_cases e : b = a <;> simp [e]
theorem zw_comm {a b : Nat} (hne : a ≠ b) (h : AH) (f g : Nat → Int32) : zw (zw h a f) b g = zw (zw h b g) a f := by
  unfold zw
  refine congrArg (fun q => (h.1, h.2.1, h.2.2.1, q, h.2.2.2.2.1, h.2.2.2.2.2)) ?_
  funext c
  by_cases e : c = a
  · subst e; simp [hne]
  · simp [e]
theorem zw_self (h : AH) (a : Nat) : zw h a (hI h a) = h := by
  unfold zw
  have : (fun b => if b = a then hI h a else h.2.2.2.1 b) = h.2.2.2.1 := by
    funext b
    by_cases e : b = a
    · subst e; simp [hI]
    · simp [e]
  rw [this]
theorem hI_zw (h : AH) (a : Nat) (f : Nat → Int32) : hI (zw h a f) a = f := by simp [hI, zw]
theorem hI_zw_ne {h : AH} {a b : Nat} (f : Nat → Int32) (hne : b ≠ a) : hI (zw h a f) b = hI h b := by simp [hI, zw, hne]
theorem hT_zw (h : AH) (a : Nat) (f : Nat → Int32) : hT (zw h a f) = hT h := rfl
theorem tg_zw (h : AH) (a : Nat) (f : Nat → Int32) (b : Nat) : tg (zw h a f) b = tg h b := rfl
theorem ln_zw (h : AH) (a : Nat) (f : Nat → Int32) (b : Nat) : ln (zw h a f) b = ln h b := rfl
theorem gh_zw (h : AH) (a : Nat) (f : Nat → Int32) (b : Nat) : gh (zw h a f) b = gh h b := rfl
theorem hR_zw (h : AH) (a : Nat) (f : Nat → Int32) : hR (zw h a f) = hR h := rfl
theorem hL_zw (h : AH) (a : Nat) (f : Nat → Int32) : hL (zw h a f) = hL h := rfl
theorem hN_zw (h : AH) (a : Nat) (f : Nat → Int32) : hN (zw h a f) = hN h := rfl
theorem hM_zw (h : AH) (a : Nat) (f : Nat → Int32) : hM (zw h a f) = hM h := rfl
theorem ne_tg {h : AH} {a b : Nat} (e : tg h a ≠ tg h b) : a ≠ b := fun q => e (by rw [q])
theorem MoS.zw {h : AH} {m zr b : Nat} {f : Nat → Int32} (k : MoS h m zr) : MoS (zw h b f) m zr := k
theorem MoS.ne {h : AH} {m zr : Nat} (k : MoS h m zr) : zr ≠ m := ne_tg (by rw [k.1, k.2.2.1]; decide)
theorem MoS.ne' {h : AH} {m zr : Nat} (k : MoS h m zr) : m ≠ zr := fun e => k.ne e.symm
theorem upd_ne {f : Nat → Int32} {k j : Nat} {x : Int32} (h : j ≠ k) : upd f k x j = f j := pk_un h
theorem upd_eq {f : Nat → Int32} {k j : Nat} {x : Int32} (h : j = k) : upd f k x j = x := by rw [h]; exact pk_us
theorem upd_s (f : Nat → Int32) (k : Nat) (x : Int32) : upd f k x k = x := pk_us
theorem upd_u (f : Nat → Int32) (k : Nat) (x y : Int32) : upd (upd f k x) k y = upd f k y := by
  funext j
  by_cases e : j = k
  · rw [upd_eq e, upd_eq e]
  · rw [upd_ne e, upd_ne e, upd_ne e]
