/-! THE LAW: the loop -/
def lwB (N b : Nat) : Nat → Nat
  | 0 => N + 16
  | 1 => N + 17
  | 2 => N + 18
  | 3 => N + 19
  | 4 => N + 20
  | 5 => N + 21
  | 6 => N + 22
  | 7 => N + 23
  | 8 => N + 24
  | _ => b
theorem lwB_v (N b : Nat) {i : Nat} (h : i < 9) : lwB N b i = N + 16 + i := by
  have c : i = 0 ∨ i = 1 ∨ i = 2 ∨ i = 3 ∨ i = 4 ∨ i = 5 ∨ i = 6 ∨ i = 7 ∨ i = 8 := by omega
  rcases c with rfl | rfl | rfl | rfl | rfl | rfl | rfl | rfl | rfl <;> rfl
theorem lwB_9 (N b : Nat) {i : Nat} (h : i < 10) (h9 : ¬ i < 9) : lwB N b i = b := by
  have c : i = 9 := by omega
  rw [c]
  rfl
theorem lw_init {h h1 h2 : AH} {b L : Nat} {xs : Nat → Int32} (hw : WF h) (b1 : tg h b = 13) (b2 : ln h b = L) (b3 : hI h b = xs) (b4 : gh h b = []) (n1 : hN h1 = hN h + 16) (s1 : ∀ c, c < hN h + 1 → c ≠ hN h → same1 (nw h 6 7 [0]) h1 c) (k1 : ∀ z zs t : Nat → Int32, (∀ q, q < 176 → z q = nI 0) → HpR h1 (hpA (hN h) (hN h + 1)) z zs t 0) (f1 : hI h1 (hN h) 6 = nI 0) (k2 : MoNew2 (nw h1 7 16 []) h2 (hN h1)) : LwI (nw h2 12 1 []) (hpA (hN h) (hN h + 1)) (lwB (hN h) b) L xs ∧ hN (nw h2 12 1 []) = hN h + 25 ∧ hM (nw h2 12 1 []) = hM h1 + 6351 := by
  have hb : b < hN h := hw.lt (by rw [b1]; decide)
  have w1 : WF h1 := (k1 (fun _ => nI 0) (fun _ => nI 0) (fun _ => nI 0) (fun _ _ => rfl)).1.2.2.2.2.2.2.2
  obtain ⟨⟨m1, m2, m3, m4, m5, ⟨z1, z2, z3, z4⟩, ⟨y1, y2, y3⟩, ⟨x1, x2, x3⟩, ⟨u1, u2, u3⟩, ⟨t1, t2, t3⟩, ⟨p1, p2, p3⟩, ⟨q1, q2, q3⟩⟩, ⟨g0, g1, g2, g3, g4, g5, g6⟩, wf⟩ := k2
  have eN : hN (nw h1 7 16 []) = hN h + 17 := by rw [hN_nw, n1]
  rw [hM_nw] at m2
  rw [eN] at m1 m3 z1 z2 z3 z4 y1 y2 y3 x1 x2 x3 u1 u2 u3 t1 t2 t3 p1 p2 p3 q1 q2 q3 g0 g1 g2 g3 g4 g5 g6 wf
  rw [n1] at m3 m4 m5 z1 y1 x1 u1 t1 p1 q1
  have n2 : hN h2 = hN h + 24 := m1
  -- cells of h2, seen in the last heap
  have s23 : ∀ c, c < hN h + 24 → same1 h2 (nw h2 12 1 []) c := fun c hc => ⟨hT_nw (by omega), hI_nw (by omega), hR_nw (by omega), hL_nw (by omega)⟩
  have s12 : ∀ c, c < hN h + 16 → same1 h1 (nw h2 12 1 []) c := fun c hc => (show same1 h1 (nw h1 7 16 []) c from ⟨hT_nw (by omega), hI_nw (by omega), hR_nw (by omega), hL_nw (by omega)⟩).tr ((m3 c (by omega) (by omega)).tr (s23 c (by omega)))
  have s02 : same1 h (nw h2 12 1 []) b := (show same1 h (nw h 6 7 [0]) b from ⟨hT_nw (by omega), hI_nw (by omega), hR_nw (by omega), hL_nw (by omega)⟩).tr ((s1 b (by omega) (by omega)).tr (s12 b (by omega)))
  have w3 : WF (nw h2 12 1 []) := fun c hc => by
    rw [hN_nw, n2] at hc
    rw [tg_nwo (by omega), wf c (by omega), tg_nwo (by omega)]
    exact w1 c (by omega)
  have sM := s23 (hN h + 16) (by omega)
  have hM4 : hT (nw h1 7 16 []) (hN h + 16) = (7, 16, []) := by
    rw [← n1]
    simp [hT, nw, hN]
  have tM : hT (nw h2 12 1 []) (hN h + 16) = (7, 16, []) := by rw [sM.1, m4, hM4]
  have iM : hI (nw h2 12 1 []) (hN h + 16) = fun _ => 0 := by
    rw [sM.2.1, m5, ← n1]
    exact hI_nw0 _ _ _ _
  have zero : (0 : Int32) = nI 0 := rfl
  have kz : MoL (nw h2 12 1 []) (lwB (hN h) b) L xs := by
    refine ⟨⟨?_, w3⟩, ⟨?_, ?_, ?_⟩, ⟨?_, ?_, ?_⟩, ⟨?_, ?_, ?_⟩, ⟨?_, ?_, ?_⟩, ⟨?_, ?_, ?_⟩, ⟨?_, ?_, ?_⟩, ⟨?_, ?_, ?_⟩, ⟨?_, ?_⟩, ⟨?_, ?_, ?_⟩, fun i j hi hj hij => ?_, fun i hi => ?_⟩
    · show tg (nw h2 12 1 []) (hN h + 16) = 7
      unfold tg; rw [tM]
    · show hR (nw h2 12 1 []) (hN h + 16) 1 = some (hN h + 17)
      rw [sM.2.2.1]; exact z1
    · exact (s23 (hN h + 17) (by omega)).tg.trans z2
    · exact (s23 (hN h + 17) (by omega)).ln.trans z3
    · show hR (nw h2 12 1 []) (hN h + 16) 2 = some (hN h + 18)
      rw [sM.2.2.1]; exact y1
    · exact (s23 (hN h + 18) (by omega)).tg.trans y2
    · exact (s23 (hN h + 18) (by omega)).ln.trans y3
    · show hR (nw h2 12 1 []) (hN h + 16) 4 = some (hN h + 19)
      rw [sM.2.2.1]; exact x1
    · exact (s23 (hN h + 19) (by omega)).tg.trans x2
    · exact (s23 (hN h + 19) (by omega)).ln.trans x3
    · show hR (nw h2 12 1 []) (hN h + 16) 6 = some (hN h + 20)
      rw [sM.2.2.1]; exact u1
    · exact (s23 (hN h + 20) (by omega)).tg.trans u2
    · exact (s23 (hN h + 20) (by omega)).ln.trans u3
    · show hR (nw h2 12 1 []) (hN h + 16) 12 = some (hN h + 21)
      rw [sM.2.2.1]; exact t1
    · exact (s23 (hN h + 21) (by omega)).tg.trans t2
    · exact (s23 (hN h + 21) (by omega)).ln.trans t3
    · show hR (nw h2 12 1 []) (hN h + 16) 13 = some (hN h + 22)
      rw [sM.2.2.1]; exact p1
    · exact (s23 (hN h + 22) (by omega)).tg.trans p2
    · exact (s23 (hN h + 22) (by omega)).ln.trans p3
    · show hR (nw h2 12 1 []) (hN h + 16) 14 = some (hN h + 23)
      rw [sM.2.2.1]; exact q1
    · exact (s23 (hN h + 23) (by omega)).tg.trans q2
    · exact (s23 (hN h + 23) (by omega)).ln.trans q3
    · exact tg_nw' n2.symm
    · exact ln_nw' n2.symm
    · exact s02.tg.trans b1
    · exact s02.ln.trans b2
    · exact s02.2.1.trans b3
    · by_cases c1 : i < 9
      · rw [lwB_v _ _ c1]
        by_cases c2 : j < 9
        · rw [lwB_v _ _ c2]; omega
        · rw [lwB_9 _ _ hj c2]; omega
      · rw [lwB_9 _ _ hi c1]
        rw [lwB_v _ _ (show j < 9 by omega)]; omega
    · have rn : ∀ {c : Nat}, gh (nw h2 12 1 []) c = [] → rt (nw h2 12 1 []) c = none := fun e => by unfold rt; rw [e]; rfl
      by_cases c1 : i < 9
      · refine ⟨rn ?_, by rw [lwB_v _ _ c1, hN_nw, n2]; omega⟩
        have cs : i = 0 ∨ i = 1 ∨ i = 2 ∨ i = 3 ∨ i = 4 ∨ i = 5 ∨ i = 6 ∨ i = 7 ∨ i = 8 := by omega
        rcases cs with rfl | rfl | rfl | rfl | rfl | rfl | rfl | rfl | rfl
        · show gh (nw h2 12 1 []) (hN h + 16) = []
          unfold gh; rw [tM]
        · exact (s23 (hN h + 17) (by omega)).gh.trans g0
        · exact (s23 (hN h + 18) (by omega)).gh.trans g1
        · exact (s23 (hN h + 19) (by omega)).gh.trans g2
        · exact (s23 (hN h + 20) (by omega)).gh.trans g3
        · exact (s23 (hN h + 21) (by omega)).gh.trans g4
        · exact (s23 (hN h + 22) (by omega)).gh.trans g5
        · exact (s23 (hN h + 23) (by omega)).gh.trans g6
        · exact gh_nw' n2.symm
      · rw [lwB_9 _ _ hi c1]
        exact ⟨rn (s02.gh.trans b4), by rw [hN_nw, n2]; omega⟩
  have ez : hI (nw h2 12 1 []) (lwB (hN h) b 1) = fun _ => 0 := (s23 (hN h + 17) (by omega)).2.1.trans z4
  have z0 : ∀ q, q < 176 → hI (nw h2 12 1 []) (lwB (hN h) b 1) q = nI 0 := fun q _ => by rw [ez]; rfl
  have iv := (inv_zero z0).1
  have f1' : hI h1 (hpA (hN h) (hN h + 1) 0) 6 = nI 0 := f1
  obtain ⟨kh, e0⟩ := (k1 _ (hI (nw h2 12 1 []) (lwB (hN h) b 2)) (hI (nw h2 12 1 []) (lwB (hN h) b 4)) z0).mv (h' := nw h2 12 1 []) w3 iv (fun q => by rw [f1'] at q; exact absurd q (by decide)) (fun c hc _ => s12 c (by omega)) (eqA.rf _) (fun _ => eqA.rf _) (fun _ _ => rfl)
  have e6 : hI (nw h2 12 1 []) (hpA (hN h) (hN h + 1) 0) 6 = nI 0 := by rw [e0]; exact f1'
  refine ⟨⟨0, kz, kh, iv, fun q => by rw [e6] at q; exact absurd q (by decide), ?_, ?_⟩, by rw [hN_nw, n2], by rw [hM_nw, m2]⟩
  · rw [e6]
    show hI (nw h2 12 1 []) (hN h + 16) 3 = nI 0
    rw [iM]; rfl
  · show hI (nw h2 12 1 []) (hN h + 16) 5 = nI 0
    rw [iM]; rfl
