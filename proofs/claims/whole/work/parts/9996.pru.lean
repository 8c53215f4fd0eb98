/-! THE LAW: pairs of calls that send -/
theorem rdS_ok (t : Nat → Int32) : ∀ (f i dp bg dg i' dp' bg' dg' : Nat), bg ≤ 10 → dg ≤ 4 → rdS t f i (dp, bg, dg) = (i', dp', bg', dg') → i' ≤ i + f ∧ dp' ≤ dp + f ∧ bg' ≤ 10 ∧ dg' ≤ 4 := by
  intro f
  induction f with
  | zero =>
    intro i dp bg dg i' dp' bg' dg' hb hg h
    rw [rdS] at h
    cases h
    exact ⟨by omega, by omega, hb, hg⟩
  | succ f ih =>
    intro i dp bg dg i' dp' bg' dg' hb hg h
    rw [rdS] at h
    simp only [] at h
    cases c : tkS (t i) dp bg dg with
    | none =>
      simp only [c] at h
      cases h
      exact ⟨by omega, by omega, hb, hg⟩
    | some s =>
      simp only [c] at h
      obtain ⟨d2, b2, g2⟩ := s
      have ok := tkS_ok c hb hg
      simp only [] at ok
      have := ih _ _ _ _ _ _ _ _ ok.2.1 ok.2.2 h
      omega
section
variable {l : Launch} {G : Gc}
theorem m_send (a zr n b : Nat) (p d r : Int32) (z' : Nat → Int32) (h : AH) (Q : Po) (hm : MoS h a zr) (hs : SndR (hI h zr) n p b d r z') (hw : wpZ (hI h zr) (nI n) p (nI b) d = nI 0) (hQ : ∀ x y, Q (.inl (some (.int r))) (zw (zw h zr z') a (upd (upd (upd (hI h a) 0 (nI 0)) 10 x) 11 y))) : Call l G M_Mo_send [.ref a, .int (nI n), .int p, .int (nI b), .int d] h Q := by
  obtain ⟨⟨i1, i2, -⟩, ⟨n1, -, b1, -, -⟩, f, y, s', q', k, hr, hk, rfl⟩ := hs
  have hz := i1.1.1
  have := hz.at.2
  exact c_Mo_sendG a zr n b f k p d r s' q' y h Q hm (by omega) (by omega) hz hw hr hk (hQ _ _)
theorem m_reply (a zr n b : Nat) (r : Int32) (z' : Nat → Int32) (h : AH) (Q : Po) (hm : MoS h a zr) (e12 : hI h zr (16 + 16 * n + 12) = nI b) (hs : SndR (hI h zr) n (hI h zr (16 + 16 * n + 14)) b (hI h zr (16 + 16 * n + 13)) r z') (hQ : ∀ x y, Q (.inl (some (.int r))) (zw (zw h zr z') a (upd (upd (upd (hI h a) 0 (nI 0)) 10 x) 11 y))) : Call l G M_Mo_reply [.ref a, .int (nI n)] h Q := by
  obtain ⟨⟨i1, i2, -⟩, ⟨n1, n0, b1, -, -⟩, f, y, s', q', k, hr, hk, rfl⟩ := hs
  have hz := i1.1.1
  have := hz.at.2
  exact c_Mo_replyG a zr n b f k _ _ r s' q' y h Q hm hz n1 n0 (by omega) e12 rfl rfl hr hk (hQ _ _)
end
section
variable {l : Launch} {G : Gc} {A B : Nat → Nat} {L : Nat} {xs : Nat → Int32}
theorem pr_send (p0 p1 p2 p3 : Int32) (h : AH) (P : Po) (I : LwI h A B L xs) (hP : ∀ kk h1, kk ≤ 3 → Sim l G M_Mo_send [.ref (B 0), .int p0, .int p1, .int p2, .int p3] A B L xs kk h h1 → P (.inl (some (.int (nI kk)))) h1) : Call l G M_Lw_send [.ref (A 0), .int p0, .int p1, .int p2, .int p3, .ref (B 8)] h P := by
  obtain ⟨n, k, kh, iv, is, e3, e5⟩ := I
  have m0 := mid_of k kh (FrX.rf k.1.2) e3.symm iv (by rw [e3]; exact is)
  have n40 := kh.2.2.2.2.2.2.2.2.1
  refine lw_send (A 0) (B 8) p0 p1 p2 p3 h P kh.1.1.1 ?_
  refine c_Hp_send A p0 p1 p2 p3 (wpZ (hI h (B 1)) p0 p1 p2 p3) _ _ _ n h _ kh iv is rfl (fun c => ?_) (fun c => ?_) (fun c => ?_)
  · refine pr_thr m0 e5 (by omega) rfl (by omega) (by omega) hP (fun h1 P' k1 e hq => ?_)
    have ez := e 1 (by omega)
    exact c_Mo_sendX (B 0) (B 1) p0 p1 p2 p3 (nI 1) h1 P' k1.S (by rw [ez]; exact iv.1.1) (by rw [ez]; exact c) (by decide) (hq _ (fo _ _).1 (fo _ _).2.1 (fo _ _).2.2)
  · refine pr_thr m0 e5 (by omega) rfl (by omega) (by omega) hP (fun h1 P' k1 e hq => ?_)
    have ez := e 1 (by omega)
    exact c_Mo_sendX (B 0) (B 1) p0 p1 p2 p3 (nI 2) h1 P' k1.S (by rw [ez]; exact iv.1.1) (by rw [ez]; exact c) (by decide) (hq _ (fo _ _).1 (fo _ _).2.1 (fo _ _).2.2)
  · obtain ⟨⟨a', a1, rfl, a3⟩, ⟨b', b1, rfl⟩, ip, iq⟩ := wpZ_0 c
    obtain ⟨r, z', hs, -, -⟩ := Snd_ex iv a1 a3 b1 ip iq
    refine ⟨a', b', r, z', rfl, rfl, hs, fun h1 kh1 h6 fx => ?_⟩
    have m1 := mid_of k kh1 fx (h6.trans e3.symm) hs.1.2.1 (by rw [e3]; exact is)
    refine pr_chg m1 e5 (by omega) hP (fun h1 P' k1 e hq => ?_)
    have ez := e 1 (by omega)
    exact m_send (B 0) (B 1) a' b' p1 p3 r z' h1 P' k1.S (by rw [ez]; exact hs) (by rw [ez]; exact c) (fun x y => hq _ (fo2 _ _ _ _).1 (fo2 _ _ _ _).2.1 (fo2 _ _ _ _).2.2)
theorem pr_reply (p0 : Int32) (h : AH) (P : Po) (I : LwI h A B L xs) (hP : ∀ kk h1, kk ≤ 3 → Sim l G M_Mo_reply [.ref (B 0), .int p0] A B L xs kk h h1 → P (.inl (some (.int (nI kk)))) h1) : Call l G M_Lw_reply [.ref (A 0), .int p0, .ref (B 8)] h P := by
  obtain ⟨n, k, kh, iv, is, e3, e5⟩ := I
  have m0 := mid_of k kh (FrX.rf k.1.2) e3.symm iv (by rw [e3]; exact is)
  have n40 := kh.2.2.2.2.2.2.2.2.1
  refine lw_reply (A 0) (B 8) p0 h P kh.1.1.1 ?_
  refine c_Hp_reply A p0 _ _ _ n h _ kh iv is (fun c => ?_) (fun j c c1 c2 c3 => ?_) (fun j b c c1 c2 c3 c4 => ?_)
  · refine pr_thr m0 e5 (by omega) rfl (by omega) (by omega) hP (fun h1 P' k1 e hq => ?_)
    have ez := e 1 (by omega)
    exact c_Mo_replyX (B 0) (B 1) p0 (nI 1) h1 P' k1.S (by rw [ez]; exact iv.1.1) (Or.inl ⟨by rw [ez]; exact c, rfl⟩) (hq _ (fo _ _).1 (fo _ _).2.1 (fo _ _).2.2)
  · refine pr_thr m0 e5 (by omega) rfl (by omega) (by omega) hP (fun h1 P' k1 e hq => ?_)
    have ez := e 1 (by omega)
    exact c_Mo_replyX (B 0) (B 1) p0 (nI 2) h1 P' k1.S (by rw [ez]; exact iv.1.1) (Or.inr ⟨j, by rw [ez]; exact c, c1, by rw [ez]; exact c2, by rw [ez]; exact c3, rfl⟩) (hq _ (fo _ _).1 (fo _ _).2.1 (fo _ _).2.2)
  · have m10 := iv.1.1.at.2
    rcases (iv.1.2.2.2 j c).2.1 with q | ⟨-, -, i13, i14⟩
    · have := q.1
      rw [c4, nN_e2 (by omega)] at this
      exact this.elim
    · obtain ⟨r, z', hs, -, -⟩ := Snd_ex iv c c2 c3 i14 i13
      refine ⟨r, z', hs, fun h1 kh1 h6 fx => ?_⟩
      have m1 := mid_of k kh1 fx (h6.trans e3.symm) hs.1.2.1 (by rw [e3]; exact is)
      refine pr_chg m1 e5 (by omega) hP (fun h1 P' k1 e hq => ?_)
      have ez := e 1 (by omega)
      rw [c1]
      exact m_reply (B 0) (B 1) j b r z' h1 P' k1.S (by rw [ez]; exact c4) (by rw [ez]; exact hs) (fun x y => hq _ (fo2 _ _ _ _).1 (fo2 _ _ _ _).2.1 (fo2 _ _ _ _).2.2)
theorem pr_timeLeft (p0 p1 p2 p3 : Int32) (h : AH) (P : Po) (I : LwI h A B L xs) (hP : ∀ kk h1, kk ≤ 3 → Sim l G M_Mo_timeLeft [.ref (B 0), .int p0, .int p1, .int p2, .int p3] A B L xs kk h h1 → P (.inl (some (.int (nI kk)))) h1) : Call l G M_Lw_timeLeft [.ref (A 0), .int p0, .int p1, .int p2, .int p3, .ref (B 8)] h P := by
  obtain ⟨n, k, kh, iv, is, e3, e5⟩ := I
  have m0 := mid_of k kh (FrX.rf k.1.2) e3.symm iv (by rw [e3]; exact is)
  have n40 := kh.2.2.2.2.2.2.2.2.1
  have m10 := iv.1.1.at.2
  refine lw_timeLeft (A 0) (B 8) p0 p1 p2 p3 h P kh.1.1.1 ?_
  refine c_Hp_timeLeft A p0 p1 p2 p3 (wpZ (hI h (B 1)) p0 p1 p2 p3) _ _ _ n h _ kh iv rfl (fun c => ?_) (fun c => ?_) (fun c i j c1 c2 c3 c4 => ?_)
  · refine pr_thr m0 e5 (by omega) rfl (by omega) (by omega) hP (fun h1 P' k1 e hq => ?_)
    have ez := e 1 (by omega)
    exact c_Mo_timeLeft (B 0) (B 1) p0 p1 p2 p3 (nI 1) h1 P' k1.S (by rw [ez]; exact iv.1.1) (by rw [ez]; exact iv.1.net) (by rw [ez]; exact iv.1.ownA) (by rw [ez]; exact c) (fun _ => hq _ (fo _ _).1 (fo _ _).2.1 (fo _ _).2.2) (fun d => absurd d (by decide))
  · refine pr_thr m0 e5 (by omega) rfl (by omega) (by omega) hP (fun h1 P' k1 e hq => ?_)
    have ez := e 1 (by omega)
    exact c_Mo_timeLeft (B 0) (B 1) p0 p1 p2 p3 (nI 2) h1 P' k1.S (by rw [ez]; exact iv.1.1) (by rw [ez]; exact iv.1.net) (by rw [ez]; exact iv.1.ownA) (by rw [ez]; exact c) (fun _ => hq _ (fo _ _).1 (fo _ _).2.1 (fo _ _).2.2) (fun d => absurd d (by decide))
  · refine pr_ask m0 e5 (by omega) hP (fun h1 P' k1 e hq => ?_)
    have ez := e 1 (by omega)
    refine c_Mo_timeLeft (B 0) (B 1) p0 p1 p2 p3 (nI 0) h1 P' k1.S (by rw [ez]; exact iv.1.1) (by rw [ez]; exact iv.1.net) (by rw [ez]; exact iv.1.ownA) (by rw [ez]; exact c) (fun d => absurd (by decide) d) (fun _ => ?_)
    rw [ez]
    exact ⟨i, j, c1, c2, c3, c4, hq _ (fo _ _).1 (fo _ _).2.1 (fo _ _).2.2⟩
theorem pr_keepAlive (p0 p1 p2 p3 p4 p5 : Int32) (h : AH) (P : Po) (I : LwI h A B L xs) (hP : ∀ kk h1, kk ≤ 3 → Sim l G M_Mo_keepAlive [.ref (B 0), .int p0, .int p1, .int p2, .int p3, .int p4, .int p5] A B L xs kk h h1 → P (.inl (some (.int (nI kk)))) h1) : Call l G M_Lw_keepAlive [.ref (A 0), .int p0, .int p1, .int p2, .int p3, .int p4, .int p5, .ref (B 8)] h P := by
  obtain ⟨n, k, kh, iv, is, e3, e5⟩ := I
  have m0 := mid_of k kh (FrX.rf k.1.2) e3.symm iv (by rw [e3]; exact is)
  have n40 := kh.2.2.2.2.2.2.2.2.1
  refine lw_keepAlive (A 0) (B 8) p0 p1 p2 p3 p4 p5 h P kh.1.1.1 ?_
  refine c_Hp_keepAlive A p0 p1 p2 p3 p4 p5 (wpZ (hI h (B 1)) p0 p1 p2 p3) _ _ _ n h _ kh iv is rfl (fun c => ?_) (fun c => ?_) (fun c c1 => ?_) (fun c c1 c2 c3 => ?_) (fun c c1 c2 c3 => ?_)
  · refine pr_thr m0 e5 (by omega) rfl (by omega) (by omega) hP (fun h1 P' k1 e hq => ?_)
    have ez := e 1 (by omega)
    exact c_Mo_keepAlive (B 0) (B 1) p0 p1 p2 p3 p4 p5 (nI 1) h1 P' k1.S (by rw [ez]; exact iv.1.1) (by rw [ez]; exact c) (fun _ => hq _ (fo _ _).1 (fo _ _).2.1 (fo _ _).2.2) (fun d => absurd d (by decide)) (fun d => absurd d (by decide)) (fun d => absurd d (by decide))
  · refine pr_thr m0 e5 (by omega) rfl (by omega) (by omega) hP (fun h1 P' k1 e hq => ?_)
    have ez := e 1 (by omega)
    exact c_Mo_keepAlive (B 0) (B 1) p0 p1 p2 p3 p4 p5 (nI 2) h1 P' k1.S (by rw [ez]; exact iv.1.1) (by rw [ez]; exact c) (fun _ => hq _ (fo _ _).1 (fo _ _).2.1 (fo _ _).2.2) (fun d => absurd d (by decide)) (fun d => absurd d (by decide)) (fun d => absurd d (by decide))
  · refine pr_thr m0 e5 (by omega) rfl (by omega) (by omega) hP (fun h1 P' k1 e hq => ?_)
    have ez := e 1 (by omega)
    exact c_Mo_keepAlive (B 0) (B 1) p0 p1 p2 p3 p4 p5 (nI 0) h1 P' k1.S (by rw [ez]; exact iv.1.1) (by rw [ez]; exact c) (fun d => absurd rfl d) (fun _ _ => hq _ (fo _ _).1 (fo _ _).2.1 (fo _ _).2.2) (fun _ d1 d2 => absurd ⟨d1, d2⟩ c1) (fun _ d1 d2 => absurd ⟨d1, d2⟩ c1)
  · refine pr_thr m0 e5 (by omega) rfl (by omega) (by omega) hP (fun h1 P' k1 e hq => ?_)
    have ez := e 1 (by omega)
    refine c_Mo_keepAlive (B 0) (B 1) p0 p1 p2 p3 p4 p5 (nI 0) h1 P' k1.S (by rw [ez]; exact iv.1.1) (by rw [ez]; exact c) (fun d => absurd rfl d) (fun _ d => absurd ⟨c1, c2⟩ d) (fun _ _ _ _ => hq _ (fo _ _).1 (fo _ _).2.1 (fo _ _).2.2) (fun _ _ _ d => ?_)
    rw [ez] at d
    exact absurd d c3
  · obtain ⟨T, -, T2, eT⟩ := iv.1.2.1
    obtain ⟨i, i1, i2, rfl⟩ := n_in1 (a := 1) (b := 1000) (by omega) c1.1 c1.2 (by omega)
    obtain ⟨m', m1, m2, rfl⟩ := n_in1 (a := 1) (b := 20) (by omega) c2.1 c2.2 (by omega)
    have le : T + m' * i ≤ 100000 := by
      have b2 : i * m' ≤ 1000 * 20 := Nat.mul_le_mul i2 m2
      have c3' := c3
      rw [eT, pk_mul, nI_add, nI_leP (by omega) (by omega)] at c3'
      rw [Nat.mul_comm]
      exact c3'
    obtain ⟨⟨a', a1, rfl, a3⟩, ⟨b', b1, rfl⟩, ip, iq⟩ := wpZ_0 c
    obtain ⟨c', z', hr⟩ := KaR_ex ip iq m' (hI h (B 1)) (nI 0) T iv eT le a1 a3 b1
    refine ⟨a', b', m', c', z', rfl, rfl, rfl, m2, hr, fun h1 kh1 iv1 h6 fx => ?_⟩
    have mm := mid_of k kh1 fx (h6.trans e3.symm) iv1 (by rw [e3]; exact is)
    refine pr_chg mm e5 (by omega) hP (fun h1 P' k1 e hq => ?_)
    have ez := e 1 (by omega)
    refine c_Mo_keepAlive (B 0) (B 1) (nI a') p1 (nI b') p3 (nI i) (nI m') (nI 0) h1 P' k1.S (by rw [ez]; exact iv.1.1) (by rw [ez]; exact c) (fun d => absurd rfl d) (fun _ d => absurd ⟨c1, c2⟩ d) (fun _ _ _ d => ?_) (fun _ _ _ _ => ⟨a', b', m', c', z', rfl, rfl, rfl, m2, by rw [ez]; exact hr, fun x y => hq _ (fo2 _ _ _ _).1 (fo2 _ _ _ _).2.1 (fo2 _ _ _ _).2.2⟩)
    rw [ez] at d
    exact absurd c3 d
theorem wr_mw {h : AH} (k : MoL h B L xs) (u z' tn tp hd : Nat → Int32) (x y : Int32) : ModW h (mw (zw h (B 0) u) (B 0) (B 1) (B 5) (B 6) (B 7) z' tn tp hd x y) B ∧ hI (mw (zw h (B 0) u) (B 0) (B 1) (B 5) (B 6) (B 7) z' tn tp hd x y) (B 0) = upd (upd u 10 x) 11 y ∧ hI (mw (zw h (B 0) u) (B 0) (B 1) (B 5) (B 6) (B 7) z' tn tp hd x y) (B 1) = z' ∧ hI (mw (zw h (B 0) u) (B 0) (B 1) (B 5) (B 6) (B 7) z' tn tp hd x y) (B 2) = hI h (B 2) ∧ hI (mw (zw h (B 0) u) (B 0) (B 1) (B 5) (B 6) (B 7) z' tn tp hd x y) (B 4) = hI h (B 4) := by
  have ne : ∀ i j, i < 10 → j < 10 → i ≠ j → B i ≠ B j := fun i j hi hj hij => k.ne hi hj hij
  unfold mw
  refine ⟨(((((ModW.rf.zw (i := 0) (by omega)).zw (i := 1) (by omega)).zw (i := 5) (by omega)).zw (i := 6) (by omega)).zw (i := 7) (by omega)).zw (i := 0) (by omega), ?_, ?_, ?_, ?_⟩
  · rw [hI_zw, hI_zw]
  · rw [hI_zw_ne _ (ne 1 0 (by omega) (by omega) (by omega)), hI_zw_ne _ (ne 1 7 (by omega) (by omega) (by omega)), hI_zw_ne _ (ne 1 6 (by omega) (by omega) (by omega)), hI_zw_ne _ (ne 1 5 (by omega) (by omega) (by omega)), hI_zw]
  · rw [hI_zw_ne _ (ne 2 0 (by omega) (by omega) (by omega)), hI_zw_ne _ (ne 2 7 (by omega) (by omega) (by omega)), hI_zw_ne _ (ne 2 6 (by omega) (by omega) (by omega)), hI_zw_ne _ (ne 2 5 (by omega) (by omega) (by omega)), hI_zw_ne _ (ne 2 1 (by omega) (by omega) (by omega)), hI_zw_ne _ (ne 2 0 (by omega) (by omega) (by omega))]
  · rw [hI_zw_ne _ (ne 4 0 (by omega) (by omega) (by omega)), hI_zw_ne _ (ne 4 7 (by omega) (by omega) (by omega)), hI_zw_ne _ (ne 4 6 (by omega) (by omega) (by omega)), hI_zw_ne _ (ne 4 5 (by omega) (by omega) (by omega)), hI_zw_ne _ (ne 4 1 (by omega) (by omega) (by omega)), hI_zw_ne _ (ne 4 0 (by omega) (by omega) (by omega))]
theorem pr_punch (p0 p1 p2 p3 : Int32) (h : AH) (P : Po) (hpr : p3 = nI 0 ∨ p3 = nI 1) (I : LwI h A B L xs) (hP : ∀ kk h1, kk ≤ 3 → Sim l G M_Mo_punch [.ref (B 0), .int p0, .int p1, .int p2, .int p3] A B L xs kk h h1 → P (.inl (some (.int (nI kk)))) h1) : Call l G M_Lw_punch [.ref (A 0), .int p0, .int p1, .int p2, .int p3, .ref (B 8)] h P := by
  obtain ⟨n, k, kh, iv, is, e3, e5⟩ := I
  have m0 := mid_of k kh (FrX.rf k.1.2) e3.symm iv (by rw [e3]; exact is)
  have n40 := kh.2.2.2.2.2.2.2.2.1
  refine lw_punch (A 0) (B 8) p0 p1 p2 p3 h P kh.1.1.1 ?_
  refine c_Hp_punch A p0 p1 p2 p3 (puW (hI h (B 1)) p0 p1 p2) _ _ _ n h _ kh iv is rfl (fun c => ?_) (fun c => ?_) (fun c => ?_) (fun c => ?_)
  · refine pr_thr m0 e5 (by omega) rfl (by omega) (by omega) hP (fun h1 P' k1 e hq => ?_)
    have ez := e 1 (by omega)
    exact c_Mo_punch (B 0) (B 1) (B 5) (B 6) (B 7) p0 p1 p2 p3 (nI 1) h1 P' k1.P (by rw [ez]; exact iv.1.1) (by rw [ez]; exact c) (fun _ => hq _ (fo _ _).1 (fo _ _).2.1 (fo _ _).2.2) (fun d => absurd d (by decide))
  · refine pr_thr m0 e5 (by omega) rfl (by omega) (by omega) hP (fun h1 P' k1 e hq => ?_)
    have ez := e 1 (by omega)
    exact c_Mo_punch (B 0) (B 1) (B 5) (B 6) (B 7) p0 p1 p2 p3 (nI 2) h1 P' k1.P (by rw [ez]; exact iv.1.1) (by rw [ez]; exact c) (fun _ => hq _ (fo _ _).1 (fo _ _).2.1 (fo _ _).2.2) (fun d => absurd d (by decide))
  · refine pr_thr m0 e5 (by omega) rfl (by omega) (by omega) hP (fun h1 P' k1 e hq => ?_)
    have ez := e 1 (by omega)
    exact c_Mo_punch (B 0) (B 1) (B 5) (B 6) (B 7) p0 p1 p2 p3 (nI 3) h1 P' k1.P (by rw [ez]; exact iv.1.1) (by rw [ez]; exact c) (fun _ => hq _ (fo _ _).1 (fo _ _).2.1 (fo _ _).2.2) (fun d => absurd d (by decide))
  · obtain ⟨⟨⟨a', a1, rfl, a3⟩, ⟨b', b1, rfl, b3⟩, ⟨c', s1, rfl, s3⟩⟩, nn, le⟩ := puW_0 c
    have m10 := iv.1.1.at.2
    obtain ⟨T, -, T2, eT⟩ := iv.1.2.1
    have le' : T ≤ 99990 := by
      rw [eT, nI_leP (by omega) (by omega)] at le
      exact le
    obtain ⟨r, z', hr⟩ := Pun_ex iv eT le' ⟨a1, a3⟩ ⟨b1, b3⟩ s1 hpr (hI h (B 5)) (hI h (B 6)) (hI h (B 7))
    refine ⟨a', b', c', r, _, _, _, z', rfl, rfl, rfl, by omega, by omega, by omega, hr, fun h1 kh1 iv1 h6 fx => ?_⟩
    have mm := mid_of k kh1 fx (h6.trans e3.symm) iv1 (by rw [e3]; exact is)
    refine pr_ret mm (by omega) hP (fun h1 P' k1 e hq => ?_)
    have ez := e 1 (by omega)
    refine c_Mo_punch (B 0) (B 1) (B 5) (B 6) (B 7) (nI a') (nI b') (nI c') p3 (nI 0) h1 P' k1.P (by rw [ez]; exact iv.1.1) (by rw [ez]; exact c) (fun d => absurd rfl d) (fun _ => ⟨a', b', c', r, z', rfl, rfl, rfl, by rw [ez, e 5 (by omega), e 6 (by omega), e 7 (by omega)]; exact hr, fun tn tp hd x y => ?_⟩)
    obtain ⟨w, w0, w1, w2, w4⟩ := wr_mw k1 (upd (hI h1 (B 0)) 0 (nI 0)) z' tn tp hd x y
    refine hq _ w ?_ (fun _ => ?_) (fun q _ => ?_) ?_ ?_ ?_
    · rw [w1]; exact eqA.rf _
    · rw [w2, e 2 (by omega)]; exact eqA.rf _
    · rw [w4, e 4 (by omega)]
    · rw [w0, (fo2 _ _ _ _).2.1, e 0 (by omega)]
    · rw [w0, (fo2 _ _ _ _).2.2, e 0 (by omega), e5]
    · rw [w0, (fo2 _ _ _ _).1]
theorem pr_ifSent (p0 p1 p2 p3 : Int32) (h : AH) (P : Po) (I : LwI h A B L xs) (hP : ∀ kk h1, kk ≤ 3 → Sim l G M_Mo_ifSent [.ref (B 0), .int p0, .int p1, .int p2, .int p3] A B L xs kk h h1 → P (.inl (some (.int (nI kk)))) h1) : Call l G M_Lw_ifSent [.ref (A 0), .int p0, .int p1, .int p2, .int p3, .ref (B 8)] h P := by
  obtain ⟨n, k, kh, iv, is, e3, e5⟩ := I
  have m0 := mid_of k kh (FrX.rf k.1.2) e3.symm iv (by rw [e3]; exact is)
  have n40 := kh.2.2.2.2.2.2.2.2.1
  refine lw_ifSent (A 0) (B 8) p0 p1 p2 p3 h P kh.1.1.1 ?_
  refine c_Hp_ifSent A p0 p1 p2 p3 (wpZ (hI h (B 1)) p0 p1 p2 p3) _ _ _ n h _ kh iv is rfl (fun c => ?_) (fun c => ?_) (fun c => ?_)
  · refine pr_thr m0 e5 (by omega) rfl (by omega) (by omega) hP (fun h1 P' k1 e hq => ?_)
    have ez := e 1 (by omega)
    exact c_Mo_ifSent (B 0) (B 1) (B 3) p0 p1 p2 p3 (nI 1) h1 P' k1.S k1.Ar (by rw [ez]; exact iv.1.1) (by rw [ez]; exact c) (fun _ => hq _ (fo _ _).1 (fo _ _).2.1 (fo _ _).2.2) (fun d => absurd d (by decide))
  · refine pr_thr m0 e5 (by omega) rfl (by omega) (by omega) hP (fun h1 P' k1 e hq => ?_)
    have ez := e 1 (by omega)
    exact c_Mo_ifSent (B 0) (B 1) (B 3) p0 p1 p2 p3 (nI 2) h1 P' k1.S k1.Ar (by rw [ez]; exact iv.1.1) (by rw [ez]; exact c) (fun _ => hq _ (fo _ _).1 (fo _ _).2.1 (fo _ _).2.2) (fun d => absurd d (by decide))
  · obtain ⟨⟨a', a1, rfl, a3⟩, ⟨b', b1, rfl⟩, ip, iq⟩ := wpZ_0 c
    obtain ⟨r, z', hs, -, -⟩ := Snd_ex iv a1 a3 b1 ip iq
    refine ⟨a', b', r, z', rfl, rfl, hs, fun h1 kh1 h6 fx => ?_⟩
    have m1 := mid_of k kh1 fx (h6.trans e3.symm) iv (by rw [e3]; exact is)
    refine pr_ret m1 (by omega) hP (fun h1 P' k1 e hq => ?_)
    have ez := e 1 (by omega)
    refine c_Mo_ifSent (B 0) (B 1) (B 3) (nI a') p1 (nI b') p3 (nI 0) h1 P' k1.S k1.Ar (by rw [ez]; exact iv.1.1) (by rw [ez]; exact c) (fun d => absurd rfl d) (fun _ => ⟨a', b', r, z', rfl, rfl, by rw [ez]; exact hs, fun x y za zz ea => ?_⟩)
    have ne : ∀ i j, i < 10 → j < 10 → i ≠ j → B i ≠ B j := fun i j hi hj hij => k1.ne hi hj hij
    refine hq _ (((ModW.rf.zw (i := 3) (by omega)).zw (i := 1) (by omega)).zw (i := 0) (by omega)) ?_ (fun _ => ?_) (fun q _ => ?_) ?_ ?_ ?_
    · rw [hI_zw_ne _ (ne 1 0 (by omega) (by omega) (by omega)), hI_zw, ← ez]; exact ea
    · rw [hI_zw_ne _ (ne 2 0 (by omega) (by omega) (by omega)), hI_zw_ne _ (ne 2 1 (by omega) (by omega) (by omega)), hI_zw_ne _ (ne 2 3 (by omega) (by omega) (by omega)), e 2 (by omega)]; exact eqA.rf _
    · rw [hI_zw_ne _ (ne 4 0 (by omega) (by omega) (by omega)), hI_zw_ne _ (ne 4 1 (by omega) (by omega) (by omega)), hI_zw_ne _ (ne 4 3 (by omega) (by omega) (by omega)), e 4 (by omega)]
    · rw [hI_zw, (fo2 _ _ _ _).2.1, e 0 (by omega)]
    · rw [hI_zw, (fo2 _ _ _ _).2.2, e 0 (by omega), e5]
    · rw [hI_zw, (fo2 _ _ _ _).1]
theorem pr_load (h : AH) (P : Po) (I : LwI h A B L xs) (hP : ∀ kk h1, kk ≤ 3 → Sim l G M_Mo_load [.ref (B 0)] A B L xs kk h h1 → P (.inl (some (.int (nI kk)))) h1) : Call l G M_Lw_load [.ref (A 0), .ref (B 8)] h P := by
  obtain ⟨n, k, kh, iv, is, e3, e5⟩ := I
  have m0 := mid_of k kh (FrX.rf k.1.2) e3.symm iv (by rw [e3]; exact is)
  have n40 := kh.2.2.2.2.2.2.2.2.1
  refine lw_load (A 0) (B 8) h P kh.1.1.1 ?_
  have z0 : ∀ q, q < 176 → zr0 (hI h (B 1)) 0 q = nI 0 := fun q hq => if_pos ⟨by omega, by omega⟩
  have rb : ∀ i dp bg dg, rdS (hI h (B 4)) n 0 (0, 0, 4) = (i, dp, bg, dg) → i ≤ 40 ∧ dp ≤ 100 ∧ bg ≤ 10 ∧ dg ≤ 4 := fun i dp bg dg er => by
    have := rdS_ok _ _ _ _ _ _ _ _ _ _ (by omega) (by omega) er
    omega
  have s3o : ∀ (f : Nat → Int32) dp bg dg j, j < 7 → s3 f dp bg dg j = f j := fun f dp bg dg j hj => s3_r (by omega) (by omega) (by omega)
  refine c_Hp_load A _ _ _ (zr0 (hI h (B 1)) 0) n h _ kh iv is z0 (fun i dp bg dg er no h1 kh1 h6 fx => ?_) (fun i dp bg dg er i1 i2 i3 i4 zN h1 hb ivN kh1 h6 fx => ?_)
  · have m1 := mid_of k kh1 fx (h6.trans e3.symm) iv (by rw [e3]; exact is)
    refine pr_thr m1 e5 (by omega) rfl (by omega) (by omega) hP (fun h1 P' k1 e hq => ?_)
    refine c_Mo_load (B 0) (B 1) (B 4) n h1 P' k1.S (k1.T (by rw [e 0 (by omega)]; exact e5) n40) (k1.ne (by omega) (by omega) (by omega)) (fun i' dp' bg' dg' _ _ => hq _ (upd_s _ _ _) ?_ ?_) (fun i' dp' bg' dg' er' j1 j2 j3 j4 => ?_) (by rw [e 4 (by omega)]; exact rb)
    · rw [upd_ne (by omega), s3o _ _ _ _ _ (by omega)]
    · rw [upd_ne (by omega), s3o _ _ _ _ _ (by omega)]
    · rw [e 4 (by omega), er] at er'
      cases er'
      exact absurd ⟨j1, j2, j3, j4⟩ no
  · have mm := mid_of k kh1 fx h6 ivN (fun q => absurd q (by decide))
    refine pr_ret mm (by omega) hP (fun h1 P' k1 e hq => ?_)
    refine c_Mo_load (B 0) (B 1) (B 4) n h1 P' k1.S (k1.T (by rw [e 0 (by omega)]; exact e5) n40) (k1.ne (by omega) (by omega) (by omega)) (fun i' dp' bg' dg' er' no => ?_) (fun i' dp' bg' dg' er' j1 j2 j3 j4 => ⟨1 + n, zN, by rw [e 4 (by omega), e 1 (by omega)]; exact hb, ?_⟩) (by rw [e 4 (by omega)]; exact rb)
    · rw [e 4 (by omega), er] at er'
      cases er'
      exact absurd ⟨i1, i2, i3, i4⟩ no
    · obtain ⟨w, w0, wj, wi⟩ := wr_row k1 (j := 1) (by omega) (by omega) zN (upd (upd (upd (s3 (hI h1 (B 0)) dp' bg' dg') 0 (nI 0)) 3 (nI 0)) 5 (nI 0))
      refine hq _ w ?_ (fun q => absurd q (by decide)) (fun q hq => by omega) ?_ ?_ ?_
      · rw [wj]; exact eqA.rf _
      · rw [w0, upd_ne (by omega), upd_s]
      · rw [w0, upd_s]
      · rw [w0, upd_ne (by omega), upd_ne (by omega), upd_s]
end
