/-! THE CLASS: punch -/
theorem gos_low {z z' : Nat → Int32} {t i j : Nat} {s q b d : Int32} (h : GoS z t s q b d i z') (hj : stJ j) : z' j = z j := by
  obtain ⟨y, c, -, src, -, -, rfl⟩ := h
  rw [mee_low2 hj.1, upd_ne (by have := hj.1; omega)]
  rcases src with ⟨-, rfl⟩ | ⟨-, mk⟩
  · rfl
  · exact mak_low mk hj
/-- packets of one host for one node are seen from one node -/
theorem trv_src {b : Nat} {d d2 : Int32} (hb : b < 10) : ∀ (f g : Nat) (z w : Nat → Int32) (net last last2 s q q2 : Int32) (k k2 : Nat) (z' w' : Nat → Int32) (s' q' s2 q2' : Int32), k < 10 → k2 < 10 → mny z ≤ 10 → mny w = mny z → (∀ m, m < 10 → w (16 + 16 * m + 1) = z (16 + 16 * m + 1)) → TrvR b d f z net last s q (nI k) z' s' q' → TrvR b d2 g w net last2 s q2 (nI k2) w' s2 q2' → w' (16 + 16 * k2 + 12) = z' (16 + 16 * k + 12) := by
  have neg : ∀ k, k < 10 → ∀ c : Int32, c < nI 0 → ¬ nI k = c := fun k hk c hc e => by
    rw [← e, nI_ltP (by omega) (by omega)] at hc; omega
  intro f
  induction f with
  | zero => exact fun g z w net last last2 s q q2 k k2 z' w' s' q' s2 q2' _ _ _ _ _ h => h.elim
  | succ f ih =>
    intro g z w net last last2 s q q2 k k2 z' w' s' q' s2 q2' hk hk2 m10 em en h h2
    cases g with
    | zero => exact h2.elim
    | succ g =>
      have eb := en b hb
      rcases h with ⟨c, -, -, h⟩ | ⟨-, -, er, -⟩ | ⟨c, t, et, t10, -, h⟩
      · rcases h with ⟨-, -, -, er, -⟩ | ⟨-, j, h⟩
        · exact absurd er (neg k hk _ (by decide))
        · rcases cin_out _ _ _ _ _ _ h with ⟨k', e1, e2, e3, -⟩ | er | er
          · rw [nI_eq (by omega) (by omega)] at e1
            subst e1
            rcases h2 with ⟨-, -, -, h2⟩ | ⟨c2, -⟩ | ⟨c2, -⟩
            · rcases h2 with ⟨-, -, -, er, -⟩ | ⟨-, j2, h2⟩
              · exact absurd er (neg k2 hk2 _ (by decide))
              · rcases cin_out _ _ _ _ _ _ h2 with ⟨k', g1, g2, g3, -⟩ | er | er
                · rw [nI_eq (by omega) (by omega)] at g1
                  subst g1
                  rw [e3, g3]
                · exact absurd er (neg k2 hk2 _ (by decide))
                · exact absurd er (neg k2 hk2 _ (by decide))
            · exact absurd (eb.trans c) c2
            · exact absurd (eb.trans c) c2
          · exact absurd er (neg k hk _ (by decide))
          · exact absurd er (neg k hk _ (by decide))
      · exact absurd er (neg k hk _ (by decide))
      · rcases h with ⟨-, er, -⟩ | ⟨i, z1, gs, e1, h⟩
        · exact absurd er (neg k hk _ (by decide))
        · rcases h2 with ⟨c2, -⟩ | ⟨-, -, er, -⟩ | ⟨-, t2, et2, t20, -, h2⟩
          · exact absurd (eb.symm.trans c2) c
          · exact absurd er (neg k2 hk2 _ (by decide))
          · rcases h2 with ⟨-, er, -⟩ | ⟨i2, w1, gs2, e2, h2⟩
            · exact absurd er (neg k2 hk2 _ (by decide))
            · rw [et, nI_eq (by omega) (by omega)] at et2
              subst et2
              have a1 : ∀ m, m < 10 → z1 (16 + 16 * m + 1) = z (16 + 16 * m + 1) := fun m hm => gos_low gs ⟨by omega, by omega⟩
              have a2 : ∀ m, m < 10 → w1 (16 + 16 * m + 1) = w (16 + 16 * m + 1) := fun m hm => gos_low gs2 ⟨by omega, by omega⟩
              rw [a2 t (by omega), en t (by omega), ← a1 t (by omega)] at h2
              exact ih g z1 w1 _ _ _ _ _ _ k k2 z' w' _ _ _ _ hk hk2 (by rw [mny_eq e1]; exact m10) (by rw [mny_eq e1, mny_eq e2]; exact em) (fun m hm => by rw [a1 m hm, a2 m hm]; exact en m hm) h h2
theorem snd_src {z w z' w' : Nat → Int32} {n b k k2 : Nat} {p d p2 d2 : Int32} (h : SndR z n p b d (nI k) z') (h2 : SndR w n p2 b d2 (nI k2) w') (hk : k < 10) (hk2 : k2 < 10) (en : ∀ m, m < 10 → w (16 + 16 * m + 1) = z (16 + 16 * m + 1)) (em : mny w = mny z) : w' (16 + 16 * k2 + 12) = z' (16 + 16 * k + 12) := by
  obtain ⟨⟨inv, -, -⟩, ⟨n1, -, b1, -, -⟩, f, y, s', q', kk, hr, han, rfl⟩ := h
  obtain ⟨-, -, f2, y2, s2, q2, kk2, hr2, han2, rfl⟩ := h2
  have m10 := inv.1.1.at.2
  have k8 : 3 ≤ kk ∧ kk ≤ 8 := by
    rcases han with ⟨-, rfl⟩ | ⟨-, -, k1, k2⟩ <;> omega
  have k9 : 3 ≤ kk2 ∧ kk2 ≤ 8 := by
    rcases han2 with ⟨-, rfl⟩ | ⟨-, -, k1, k2⟩ <;> omega
  rw [snd_low k8 (by omega), snd_low k9 (by omega)]
  rw [en n (by omega)] at hr2
  exact trv_src (by omega) f f2 z w _ _ _ _ _ _ k k2 y y2 _ _ _ _ hk hk2 m10 em en hr hr2
/-- one of two that meet: its number, where it was seen, its target, whether it heard -/
def PeC (h : AH) (p n : Nat) (sn ta hd : Int32) : Prop := (tg h p = 4 ∧ gh h p = [0]) ∧ hI h p 0 = nI n ∧ hI h p 1 = enc (nI n) (nI 500) ∧ hI h p 2 = sn ∧ hI h p 3 = ta ∧ hI h p 4 = hd
section
variable {h h' : AH} {A : Nat → Nat} {z zs t : Nat → Int32} {n p q m : Nat} {sn ta hd : Int32}
theorem PeC.same (k : PeC h p m sn ta hd) (s : same1 h h' p) : PeC h' p m sn ta hd := by
  obtain ⟨⟨a1, a2⟩, b⟩ := k
  refine ⟨⟨s.tg.trans a1, s.gh.trans a2⟩, ?_⟩
  rw [s.2.1]
  exact b
theorem PeC.fr {w c : Nat} (k : PeC h p m sn ta hd) (hw : WF h) (f : Fr w c h h') (w0 : w ≠ 0) : PeC h' p m sn ta hd :=
  k.same (f.oth (fun q => w0 q.symm) (hw.lt (by rw [k.1.1]; decide)) (rt_gh k.1.2))
theorem PeC.zw (k : PeC h p m sn ta hd) {f : Nat → Int32} (ne : p ≠ q) : PeC (zw h q f) p m sn ta hd := k.same ⟨rfl, hI_zw_ne _ ne, rfl, rfl⟩
/-- cells that the class had not -/
theorem HpR.loc {c : Nat} (k : HpR h A z zs t n) (iv : Inv z) (is : hI h (A 0) 6 = nI 1 → Inv zs) (f : Fr 0 c h h') (s : ∀ b, b < hN h → tg h b ≠ 4 → same1 h h' b) : HpR h' A z zs t n ∧ hI h' (A 0) = hI h (A 0) := by
  obtain ⟨a, k1, k2, k3, k4, k5, k6, k7, k8, k9⟩ := k
  obtain ⟨⟨a1, a2⟩, b, ⟨c1, c2, c3⟩, ⟨d1, d2, d3, d4⟩, ⟨e1, e2, e3⟩, g, g0, hw⟩ := a
  have s0 := s (A 0) (hw.lt (by rw [a1]; decide)) (by rw [a1]; decide)
  have s7 := s (A 7) (hw.lt (by rw [c1]; decide)) (by rw [c1]; decide)
  have s4 := s (A 4) (hw.lt (by rw [d1]; decide)) (by rw [d1]; decide)
  have s6 := s (A 6) (hw.lt (by rw [e1]; decide)) (by rw [e1]; decide)
  have e0 := s0.2.1
  have e7 := s7.2.1
  refine ⟨⟨⟨⟨s0.tg.trans a1, s0.gh.trans a2⟩, by rw [s0.2.2.1]; exact b, ⟨s7.tg.trans c1, s7.ln.trans c2, s7.gh.trans c3⟩, ⟨s4.tg.trans d1, s4.gh.trans d2, by rw [s4.2.2.1]; exact d3, by rw [s4.2.2.1]; exact d4⟩, ⟨s6.tg.trans e1, s6.ln.trans e2, s6.gh.trans e3⟩, g, g0, f.2.2.2.2⟩, k1.frame hw iv.1 f (g0 1 (by omega) (by omega) (by omega)), k2.frame hw f (g0 2 (by omega) (by omega) (by omega)), fun q => ?_, by rw [e0]; exact k4, k5.frame hw f (g0 3 (by omega) (by omega) (by omega)), k6.frame hw f (g0 5 (by omega) (by omega) (by omega)), by rw [e0]; exact k7, k8, fun q hq => by rw [e7]; exact k9 q hq⟩, e0⟩
  rw [e0] at q
  exact (k3 q).frame hw (is q).1 f (g0 2 (by omega) (by omega) (by omega))
theorem HpR.pee {f : Nat → Int32} (k : HpR h A z zs t n) (iv : Inv z) (is : hI h (A 0) 6 = nI 1 → Inv zs) (tp : tg h p = 4) (gp : gh h p = [0]) : HpR (zw h p f) A z zs t n ∧ hI (zw h p f) (A 0) = hI h (A 0) ∧ FrX 0 h (zw h p f) := by
  have hw := k.1.2.2.2.2.2.2.2
  have fz : Fr 0 0 h (zw h p f) := Fr.zw hw (rt_gh gp)
  have r := k.loc iv is fz (fun b _ hb => ⟨rfl, hI_zw_ne _ (fun e => hb (by rw [e]; exact tp)), rfl, rfl⟩)
  exact ⟨r.1, r.2, fz.X⟩
theorem HpR.pen (k : HpR h A z zs t n) (iv : Inv z) (is : hI h (A 0) 6 = nI 1 → Inv zs) : HpR (nw h 4 5 [0]) A z zs t n ∧ hI (nw h 4 5 [0]) (A 0) = hI h (A 0) ∧ FrX 1 h (nw h 4 5 [0]) := by
  have hw := k.1.2.2.2.2.2.2.2
  have sm : ∀ b, b < hN h → same1 h (nw h 4 5 [0]) b := fun b hb => ⟨hT_nw (by omega), hI_nw (by omega), hR_nw (by omega), hL_nw (by omega)⟩
  have fz : Fr 0 1 h (nw h 4 5 [0]) := by
    refine ⟨⟨?_, ?_, ?_, ?_⟩, fun b hb => (sm b hb).1, fun b hb _ => sm b hb, fun b b1 b2 => ?_, fun b hb => ?_⟩
    · rw [hN_nw]; omega
    · rw [hN_nw]; omega
    · rw [hN_nw, hM_nw]; omega
    · rw [hM_nw]; omega
    · rw [hN_nw] at b2
      have : b = hN h := by omega
      subst this
      exact rt_gh (gh_nw0 h 4 5 [0])
    · rw [hN_nw] at hb
      rw [tg_nwo (by omega)]
      exact hw b (by omega)
  have r := k.loc iv is fz (fun b hb _ => sm b hb)
  exact ⟨r.1, r.2, fz.X⟩
end
