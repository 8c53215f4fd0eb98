/-! WHAT PACKETS NEVER CHANGE -/
def stJ (j : Nat) : Prop := j < 176 ∧ j % 16 < 9
theorem cmp0_low {t m j : Nat} {n p : Int32} (hj : j < 176) : ∀ (f r w : Nat) (z : Nat → Int32), (cmp0 t m n p f r w z).1 j = z j := by
  intro f
  induction f with
  | zero => exact fun _ _ _ => rfl
  | succ f ih =>
    intro r w z
    rw [cmp0]
    split
    · exact ih _ _ _
    · rw [ih, upd_ne (by unfold cA; omega), upd_ne (by unfold cA; omega)]
theorem mee_low2 {z : Nat → Int32} {t m c j : Nat} {n p : Int32} (hj : j < 176) : meeZ z t m c n p j = z j := by
  unfold meeZ
  split
  · unfold putC shl0
    rw [upd_ne (by omega), upd_ne (by unfold cA; omega), upd_ne (by unfold cA; omega), if_neg (by unfold cA; omega), cmp0_low hj]
  · unfold putC
    rw [upd_ne (by omega), upd_ne (by unfold cA; omega), upd_ne (by unfold cA; omega), cmp0_low hj]
theorem mak_low {z z' : Nat → Int32} {t j : Nat} {n p kn kp res : Int32} (h : MakR z t n p kn kp res z') (hj : stJ j) : z' j = z j := by
  obtain ⟨j1, j2⟩ := hj
  rcases h with ⟨-, -, rfl⟩ | ⟨-, r, y, hf, q⟩
  · rfl
  · have ey : y j = z j := hf.low (by omega) (by omega)
    rcases q with ⟨-, -, rfl⟩ | ⟨-, -, rfl⟩
    · exact ey
    · unfold makZ
      rw [upd_ne (by omega), upd_ne (by omega), upd_ne (by omega), upd_ne (by omega), upd_ne (by omega), upd_ne (by omega), upd_ne (by omega)]
      exact ey
theorem cin_low {s q : Int32} {j : Nat} (hj : stJ j) : ∀ (f : Nat) (z : Nat → Int32) (n p r : Int32) (z' : Nat → Int32), CinR s q f z n p r z' → z' j = z j := by
  obtain ⟨j1, j2⟩ := hj
  intro f
  induction f with
  | zero => exact fun z n p r z' h => h.elim
  | succ f ih =>
    intro z n p r z' h
    rcases h with ⟨-, k, -, -, -, rfl⟩ | ⟨t, -, -, -, -, h⟩
    · unfold delZ
      rw [upd_ne (by omega), upd_ne (by omega), upd_ne (by omega)]
    · rcases h with ⟨-, -, rfl⟩ | ⟨i, -, -, -, -, h⟩
      · rfl
      · rcases h with ⟨-, -, rfl⟩ | ⟨-, h⟩
        · rfl
        · rw [ih _ _ _ _ _ h, upd_ne (by omega)]
theorem trv_low {b j : Nat} {d : Int32} (hj : stJ j) : ∀ (f : Nat) (z : Nat → Int32) (net last s q r : Int32) (z' : Nat → Int32) (s' q' : Int32), TrvR b d f z net last s q r z' s' q' → z' j = z j := by
  intro f
  induction f with
  | zero => exact fun z net last s q r z' s' q' h => h.elim
  | succ f ih =>
    intro z net last s q r z' s' q' h
    rcases h with ⟨-, -, -, h⟩ | ⟨-, -, -, rfl, -, -⟩ | ⟨-, t, -, -, -, h⟩
    · rcases h with ⟨-, -, -, -, rfl⟩ | ⟨-, k, h⟩
      · rfl
      · exact cin_low hj _ _ _ _ _ _ h
    · rfl
    · rcases h with ⟨h, -⟩ | ⟨i, z1, h, -, h2⟩
      · exact mak_low h.2 hj
      · rw [ih _ _ _ _ _ _ _ _ _ h2]
        obtain ⟨y, c, -, src, -, -, rfl⟩ := h
        rw [mee_low2 hj.1, upd_ne (by have := hj.1; omega)]
        rcases src with ⟨-, rfl⟩ | ⟨-, mk⟩
        · rfl
        · exact mak_low mk hj
theorem snd_st {z z' : Nat → Int32} {n b j : Nat} {p d r : Int32} (h : SndR z n p b d r z') (hj : stJ j) (h2 : j < 2 ∨ 9 ≤ j) : z' j = z j := by
  obtain ⟨-, -, f, y, s', q', k, hr, hk, rfl⟩ := h
  have k8 : 3 ≤ k ∧ k ≤ 8 := by
    rcases hk with ⟨-, rfl⟩ | ⟨-, -, k1, k2⟩
    · omega
    · omega
  rw [snd_low k8 h2]
  exact trv_low hj _ _ _ _ _ _ _ _ _ _ hr
theorem snd_0 {z z' : Nat → Int32} {n b : Nat} {p d r : Int32} (h : SndR z n p b d r z') : z' 0 = z 0 := snd_st h ⟨by omega, by omega⟩ (by omega)
theorem snd_k {z z' : Nat → Int32} {n b m : Nat} {p d r : Int32} (h : SndR z n p b d r z') (hm : m < 10) : z' (16 + 16 * m) = z (16 + 16 * m) ∧ z' (16 + 16 * m + 1) = z (16 + 16 * m + 1) := ⟨snd_st h ⟨by omega, by omega⟩ (by omega), snd_st h ⟨by omega, by omega⟩ (by omega)⟩
theorem cin_out {s q : Int32} : ∀ (f : Nat) (z : Nat → Int32) (n p r : Int32) (z' : Nat → Int32), CinR s q f z n p r z' → (∃ k, r = nI k ∧ k < 10 ∧ z' (16 + 16 * k + 12) = s ∧ z' (16 + 16 * k + 13) = q) ∨ r = (-2) ∨ r = (-3) := by
  intro f
  induction f with
  | zero => exact fun z n p r z' h => h.elim
  | succ f ih =>
    intro z n p r z' h
    rcases h with ⟨-, k, -, k10, er, rfl⟩ | ⟨t, -, -, -, -, h⟩
    · refine Or.inl ⟨k, er, k10, ?_, ?_⟩
      · unfold delZ; rw [upd_ne (by omega), upd_ne (by omega), upd_s]
      · unfold delZ; rw [upd_ne (by omega), upd_s]
    · rcases h with ⟨-, er, -⟩ | ⟨i, -, -, -, -, h⟩
      · exact Or.inr (Or.inl er)
      · rcases h with ⟨-, er, -⟩ | ⟨-, h⟩
        · exact Or.inr (Or.inr er)
        · exact ih _ _ _ _ _ h
theorem trv_out {b : Nat} {d : Int32} : ∀ (f : Nat) (z : Nat → Int32) (net last s q r : Int32) (z' : Nat → Int32) (s' q' : Int32), TrvR b d f z net last s q r z' s' q' → (∃ a, a < 1000 ∧ s = nI a) → mny z ≤ 10 → (∃ k, r = nI k ∧ k < 10 ∧ ∃ a, a < 1000 ∧ z' (16 + 16 * k + 12) = nI a) ∨ r = nN ∨ r = (-2) ∨ r = (-3) ∨ r = (-4) ∨ r = (-5) := by
  intro f
  induction f with
  | zero => exact fun z net last s q r z' s' q' h => h.elim
  | succ f ih =>
    intro z net last s q r z' s' q' h ⟨a, a1, ea⟩ m10
    rcases h with ⟨-, -, -, h⟩ | ⟨-, -, er, -⟩ | ⟨-, t, -, t10, -, h⟩
    · rcases h with ⟨-, -, -, er, -⟩ | ⟨-, k, h⟩
      · exact Or.inr (Or.inr (Or.inr (Or.inr (Or.inl er))))
      · rcases cin_out _ _ _ _ _ _ h with ⟨k, k1, k2, k3, -⟩ | er | er
        · exact Or.inl ⟨k, k1, k2, a, a1, k3.trans ea⟩
        · exact Or.inr (Or.inr (Or.inl er))
        · exact Or.inr (Or.inr (Or.inr (Or.inl er)))
    · exact Or.inr (Or.inl er)
    · rcases h with ⟨-, er, -⟩ | ⟨i, z1, h, e1, h2⟩
      · exact Or.inr (Or.inr (Or.inr (Or.inr (Or.inr er))))
      · exact ih _ _ _ _ _ _ _ _ _ h2 ⟨t, by omega, rfl⟩ (by rw [mny_eq e1]; exact m10)
/-- a host that was reached has a delivery -/
theorem snd_del {z z' : Nat → Int32} {n b k : Nat} {p d : Int32} (h : SndR z n p b d (nI k) z') (hkm : k < mny z) : (∃ a, a < mny z' ∧ z' (16 + 16 * k + 12) = nI a) ∧ in1 (z' (16 + 16 * k + 13)) 1 9999 ∧ in1 (z' (16 + 16 * k + 14)) 1 9999 := by
  obtain ⟨⟨inv, inv', em⟩, ⟨n1, -, -, -, -⟩, f, y, s', q', kk, hr, han, rfl⟩ := h
  have m10 := inv.1.1.at.2
  have hk : k < 10 := by omega
  have k8 : 3 ≤ kk ∧ kk ≤ 8 := by
    rcases han with ⟨-, rfl⟩ | ⟨-, -, k1, k2⟩
    · omega
    · omega
  have neg : ∀ c : Int32, c < nI 0 → ¬ nI k = c := fun c hc e => by
    rw [← e, nI_ltP (by omega) (by omega)] at hc; omega
  rcases trv_out _ _ _ _ _ _ _ _ _ _ hr ⟨n, by omega, rfl⟩ m10 with ⟨k', e, k10, a, a1, ea⟩ | e | e | e | e | e
  · rw [nI_eq (by omega) (by omega)] at e
    subst e
    have ea' : sndZ y kk (16 + 16 * k + 12) = nI a := by rw [snd_low k8 (by omega)]; exact ea
    rcases (inv'.1.2.2.2 k (by rw [em]; exact hkm)).2.1 with ⟨q, -, -⟩ | ⟨-, q1, q2, q3⟩
    · rw [ea', nN_e2 (by omega)] at q; exact q.elim
    · exact ⟨q1, q2, q3⟩
  · exact absurd e (neg _ (by decide))
  · exact absurd e (neg _ (by decide))
  · exact absurd e (neg _ (by decide))
  · exact absurd e (neg _ (by decide))
  · exact absurd e (neg _ (by decide))
