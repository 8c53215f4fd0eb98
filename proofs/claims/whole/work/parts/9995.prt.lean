/-! THE LAW: pairs of calls -/
theorem fo (f : Nat → Int32) (x : Int32) : upd f 0 x 0 = x ∧ upd f 0 x 3 = f 3 ∧ upd f 0 x 5 = f 5 := ⟨upd_s _ _ _, upd_ne (by omega), upd_ne (by omega)⟩
theorem fo2 (f : Nat → Int32) (x a b : Int32) : upd (upd (upd f 0 x) 10 a) 11 b 0 = x ∧ upd (upd (upd f 0 x) 10 a) 11 b 3 = f 3 ∧ upd (upd (upd f 0 x) 10 a) 11 b 5 = f 5 := by
  refine ⟨?_, ?_, ?_⟩
  · rw [upd_ne (by omega), upd_ne (by omega), upd_s]
  · rw [upd_ne (by omega), upd_ne (by omega), upd_ne (by omega)]
  · rw [upd_ne (by omega), upd_ne (by omega), upd_ne (by omega)]
theorem set3_in {x : Int32} (h : set3 x) : in1 x 0 2 := n_in1 (by omega) h.1 h.2 (by omega)
section
variable {l : Launch} {G : Gc} {A B : Nat → Nat} {L : Nat} {xs : Nat → Int32}
theorem pr_addTranslator (p0 p1 p2 p3 : Int32) (h : AH) (P : Po) (I : LwI h A B L xs) (hP : ∀ kk h1, kk ≤ 3 → Sim l G M_Mo_addTranslator [.ref (B 0), .int p0, .int p1, .int p2, .int p3] A B L xs kk h h1 → P (.inl (some (.int (nI kk)))) h1) : Call l G M_Lw_addTranslator [.ref (A 0), .int p0, .int p1, .int p2, .int p3, .ref (B 8)] h P := by
  obtain ⟨n, k, kh, iv, is, e3, e5⟩ := I
  have m0 := mid_of k kh (FrX.rf k.1.2) e3.symm iv (by rw [e3]; exact is)
  have n40 := kh.2.2.2.2.2.2.2.2.1
  refine lw_addTranslator (A 0) (B 8) p0 p1 p2 p3 h P kh.1.1.1 ?_
  refine c_Hp_addTranslator A p0 p1 p2 p3 _ _ _ n h _ kh iv is (fun c => ?_) (fun c c1 => ?_) (fun c c1 c2 c3 c4 => ?_) (fun c c1 c2 c3 c4 h1 kh1 h6 fx => ?_)
  · refine pr_thr m0 e5 (by omega) rfl (by omega) (by omega) hP (fun h1 P' k1 e hq => ?_)
    have ez := e 1 (by omega)
    refine c_Mo_addTranslator (B 0) (B 1) p0 p1 p2 p3 h1 P' k1.S (by rw [ez]; exact iv.1.1) (fun _ => hq _ (fo _ _).1 (fo _ _).2.1 (fo _ _).2.2) (fun d => ?_) (fun d => ?_) (fun d => ?_)
    all_goals (rw [ez] at d; exact absurd d c)
  · refine pr_thr m0 e5 (by omega) rfl (by omega) (by omega) hP (fun h1 P' k1 e hq => ?_)
    have ez := e 1 (by omega)
    refine c_Mo_addTranslator (B 0) (B 1) p0 p1 p2 p3 h1 P' k1.S (by rw [ez]; exact iv.1.1) (fun d => ?_) (fun _ _ => hq _ (fo _ _).1 (fo _ _).2.1 (fo _ _).2.2) (fun d d1 d2 d3 => absurd ⟨d1, d2, d3⟩ c1) (fun d d1 d2 d3 => absurd ⟨d1, d2, d3⟩ c1)
    rw [ez] at d; exact absurd c d
  · refine pr_thr m0 e5 (by omega) rfl (by omega) (by omega) hP (fun h1 P' k1 e hq => ?_)
    have ez := e 1 (by omega)
    refine c_Mo_addTranslator (B 0) (B 1) p0 p1 p2 p3 h1 P' k1.S (by rw [ez]; exact iv.1.1) (fun d => ?_) (fun _ d => absurd ⟨c1, c2, c3⟩ d) (fun _ _ _ _ _ => hq _ (fo _ _).1 (fo _ _).2.1 (fo _ _).2.2) (fun d d1 d2 d3 d4 => ?_)
    · rw [ez] at d; exact absurd c d
    · rw [ez] at d4; omega
  · have m1 := mid_of k kh1 fx (h6.trans e3.symm) (inv_addTZ iv c4 c (set3_in c1) (set3_in c2) (set3_in c3)).1 (by rw [e3]; exact is)
    refine pr_chg m1 e5 (by omega) hP (fun h1 P' k1 e hq => ?_)
    have ez := e 1 (by omega)
    refine c_Mo_addTranslator (B 0) (B 1) p0 p1 p2 p3 h1 P' k1.S (by rw [ez]; exact iv.1.1) (fun d => ?_) (fun _ d => absurd ⟨c1, c2, c3⟩ d) (fun d d1 d2 d3 d4 => ?_) (fun d d1 d2 d3 d4 => ?_)
    · rw [ez] at d; exact absurd c d
    · rw [ez] at d4; omega
    · rw [ez]
      exact hq _ (fo _ _).1 (fo _ _).2.1 (fo _ _).2.2
theorem pr_setNumber (p0 p1 p2 : Int32) (h : AH) (P : Po) (I : LwI h A B L xs) (hP : ∀ kk h1, kk ≤ 3 → Sim l G M_Mo_setNumber [.ref (B 0), .int p0, .int p1, .int p2] A B L xs kk h h1 → P (.inl (some (.int (nI kk)))) h1) : Call l G M_Lw_setNumber [.ref (A 0), .int p0, .int p1, .int p2, .ref (B 8)] h P := by
  obtain ⟨n, k, kh, iv, is, e3, e5⟩ := I
  have m0 := mid_of k kh (FrX.rf k.1.2) e3.symm iv (by rw [e3]; exact is)
  have n40 := kh.2.2.2.2.2.2.2.2.1
  have m10 := iv.1.1.at.2
  refine lw_setNumber (A 0) (B 8) p0 p1 p2 h P kh.1.1.1 ?_
  refine c_Hp_setNumber A p0 p1 p2 _ _ _ n h _ kh iv is (fun c => ?_) (fun c c1 => ?_) (fun j m c c1 c2 c3 c4 c5 h1 kh1 iv1 h6 fx => ?_)
  · refine pr_thr m0 e5 (by omega) rfl (by omega) (by omega) hP (fun h1 P' k1 e hq => ?_)
    have ez := e 1 (by omega)
    refine c_Mo_setNumber (B 0) (B 1) p0 p1 p2 h1 P' k1.S (by rw [ez]; exact iv.1.1) (by rw [ez]; exact iv.1.own) (fun _ => hq _ (fo _ _).1 (fo _ _).2.1 (fo _ _).2.2) (fun d => ?_) (fun j' k' d d1 d2 => ?_)
    · rw [ez] at d; exact absurd d c
    · rw [ez] at d d2; exact absurd ⟨j', d, d1, d2⟩ c
  · refine pr_thr m0 e5 (by omega) rfl (by omega) (by omega) hP (fun h1 P' k1 e hq => ?_)
    have ez := e 1 (by omega)
    refine c_Mo_setNumber (B 0) (B 1) p0 p1 p2 h1 P' k1.S (by rw [ez]; exact iv.1.1) (by rw [ez]; exact iv.1.own) (fun d => ?_) (fun _ _ => hq _ (fo _ _).1 (fo _ _).2.1 (fo _ _).2.2) (fun j' k' d d1 d2 d3 d4 d5 => absurd d5 c1)
    rw [ez] at d; exact absurd c d
  · have m1 := mid_of k kh1 fx (h6.trans e3.symm) iv1 (by rw [e3]; exact is)
    refine pr_chg m1 e5 (by omega) hP (fun h1 P' k1 e hq => ?_)
    have ez := e 1 (by omega)
    refine c_Mo_setNumber (B 0) (B 1) p0 p1 p2 h1 P' k1.S (by rw [ez]; exact iv.1.1) (by rw [ez]; exact iv.1.own) (fun d => ?_) (fun _ d => absurd c5 d) (fun j' k' d d1 d2 d3 d4 d5 => ?_)
    · rw [ez] at d; exact absurd ⟨j, c, c1, c2⟩ d
    · rw [ez] at d d2 ⊢
      have ej : j' = j := (nI_eq (by omega) (by omega)).mp (d1.symm.trans c1)
      have ek : k' = m := (nI_eq (by omega) (by omega)).mp (d4.symm.trans c4)
      rw [ej, ek]
      exact hq _ (fo _ _).1 (fo _ _).2.1 (fo _ _).2.2
theorem pr_pass (p0 : Int32) (h : AH) (P : Po) (I : LwI h A B L xs) (hP : ∀ kk h1, kk ≤ 3 → Sim l G M_Mo_pass [.ref (B 0), .int p0] A B L xs kk h h1 → P (.inl (some (.int (nI kk)))) h1) : Call l G M_Lw_pass [.ref (A 0), .int p0, .ref (B 8)] h P := by
  obtain ⟨n, k, kh, iv, is, e3, e5⟩ := I
  have m0 := mid_of k kh (FrX.rf k.1.2) e3.symm iv (by rw [e3]; exact is)
  have n40 := kh.2.2.2.2.2.2.2.2.1
  refine lw_pass (A 0) (B 8) p0 h P kh.1.1.1 ?_
  refine c_Hp_pass A p0 _ _ _ n h _ kh iv is (fun c => ?_) (fun c c1 => ?_) (fun c c1 h1 kh1 iv1 h6 fx => ?_)
  · refine pr_thr m0 e5 (by omega) rfl (by omega) (by omega) hP (fun h1 P' k1 e hq => ?_)
    have ez := e 1 (by omega)
    exact c_Mo_pass (B 0) (B 1) p0 h1 P' k1.S (by rw [ez]; exact iv.1.1) (by rw [ez]; exact iv.1.own) (fun _ => hq _ (fo _ _).1 (fo _ _).2.1 (fo _ _).2.2) (fun d => absurd d c) (fun d => absurd d c)
  · refine pr_thr m0 e5 (by omega) rfl (by omega) (by omega) hP (fun h1 P' k1 e hq => ?_)
    have ez := e 1 (by omega)
    refine c_Mo_pass (B 0) (B 1) p0 h1 P' k1.S (by rw [ez]; exact iv.1.1) (by rw [ez]; exact iv.1.own) (fun d => absurd c d) (fun _ _ => hq _ (fo _ _).1 (fo _ _).2.1 (fo _ _).2.2) (fun _ d => ?_)
    rw [ez] at d; exact absurd d c1
  · have m1 := mid_of k kh1 fx (h6.trans e3.symm) iv1 (by rw [e3]; exact is)
    refine pr_chg m1 e5 (by omega) hP (fun h1 P' k1 e hq => ?_)
    have ez := e 1 (by omega)
    refine c_Mo_pass (B 0) (B 1) p0 h1 P' k1.S (by rw [ez]; exact iv.1.1) (by rw [ez]; exact iv.1.own) (fun d => absurd c d) (fun _ d => ?_) (fun _ _ => ?_)
    · rw [ez] at d; exact absurd c1 d
    · rw [ez]
      exact hq _ (fo _ _).1 (fo _ _).2.1 (fo _ _).2.2
theorem pr_restore (h : AH) (P : Po) (I : LwI h A B L xs) (hP : ∀ kk h1, kk ≤ 3 → Sim l G M_Mo_restore [.ref (B 0)] A B L xs kk h h1 → P (.inl (some (.int (nI kk)))) h1) : Call l G M_Lw_restore [.ref (A 0), .ref (B 8)] h P := by
  obtain ⟨n, k, kh, iv, is, e3, e5⟩ := I
  have m0 := mid_of k kh (FrX.rf k.1.2) e3.symm iv (by rw [e3]; exact is)
  have n40 := kh.2.2.2.2.2.2.2.2.1
  have f01 := kh.2.2.2.2.1
  refine lw_restore (A 0) (B 8) h P kh.1.1.1 ?_
  refine c_Hp_restore A _ _ _ n h _ kh is (fun c => ?_) (fun c h1 kh1 h6 fx => ?_)
  · refine pr_thr m0 e5 (by omega) rfl (by omega) (by omega) hP (fun h1 P' k1 e hq => ?_)
    have ez := e 1 (by omega)
    refine c_Mo_restore (B 0) (B 1) (B 2) (B 4) h1 P' k1.Bf (fun _ => hq _ (fo _ _).1 (fo _ _).2.1 (fo _ _).2.2) (fun d => ?_)
    rw [e 0 (by omega), e3] at d; exact absurd c d
  · have f1 : hI h (A 0) 6 = nI 1 := f01.elim (fun q => absurd q c) id
    have m1 := mid_of k kh1 fx (h6.trans e3.symm) (is f1) (by rw [e3]; exact is)
    refine pr_ret m1 (by omega) hP (fun h1 P' k1 e hq => ?_)
    refine c_Mo_restore (B 0) (B 1) (B 2) (B 4) h1 P' k1.Bf (fun d => ?_) (fun _ => ?_)
    · rw [e 0 (by omega), e3] at d; exact absurd d c
    · obtain ⟨w, w0, wj, wi⟩ := wr_row k1 (j := 1) (by omega) (by omega) (cpA (hI h1 (B 2)) (hI h1 (B 1)) 0) (upd (hI h1 (B 0)) 0 (nI 0))
      rw [show hI h (B 2) 0 = hI h1 (B 2) 0 by rw [e 2 (by omega)]] at hq
      refine hq _ w ?_ (fun _ => ?_) (fun q _ => ?_) ?_ ?_ ?_
      · rw [wj, e 2 (by omega)]
        exact fun q hq => if_pos ⟨by omega, hq⟩
      · rw [wi 2 (by omega) (by omega) (by omega), e 2 (by omega)]; exact eqA.rf _
      · rw [wi 4 (by omega) (by omega) (by omega), e 4 (by omega)]
      · rw [w0, (fo _ _).2.1, e 0 (by omega)]
      · rw [w0, (fo _ _).2.2, e 0 (by omega), e5]
      · rw [w0, (fo _ _).1]
theorem pr_append (p0 : Int32) (h : AH) (P : Po) (I : LwI h A B L xs) (hP : ∀ kk h1, kk ≤ 3 → Sim l G M_Mo_append [.ref (B 0), .int p0] A B L xs kk h h1 → P (.inl (some (.int (nI kk)))) h1) : Call l G M_Lw_append [.ref (A 0), .int p0, .ref (B 8)] h P := by
  obtain ⟨n, k, kh, iv, is, e3, e5⟩ := I
  have m0 := mid_of k kh (FrX.rf k.1.2) e3.symm iv (by rw [e3]; exact is)
  have n40 := kh.2.2.2.2.2.2.2.2.1
  refine lw_append (A 0) (B 8) p0 h P kh.1.1.1 ?_
  refine c_Hp_append A p0 _ _ _ n h _ kh iv is (fun c => ?_) (fun c c1 => ?_) (fun c c1 h1 kh1 h6 fx => ?_)
  · refine pr_thr m0 e5 (by omega) rfl (by omega) (by omega) hP (fun h1 P' k1 e hq => ?_)
    have ez := e 1 (by omega)
    exact c_Mo_append (B 0) (B 1) (B 2) (B 4) n p0 h1 P' k1.Bf (by rw [e 0 (by omega)]; exact e5) n40 (fun _ => hq _ (fo _ _).1 (fo _ _).2.1 (fo _ _).2.2) (fun d => absurd d c) (fun d => absurd d c)
  · refine pr_thr m0 e5 (by omega) rfl (by omega) (by omega) hP (fun h1 P' k1 e hq => ?_)
    have ez := e 1 (by omega)
    exact c_Mo_append (B 0) (B 1) (B 2) (B 4) n p0 h1 P' k1.Bf (by rw [e 0 (by omega)]; exact e5) n40 (fun d => absurd c d) (fun _ _ => hq _ (fo _ _).1 (fo _ _).2.1 (fo _ _).2.2) (fun _ d => by omega)
  · have m1 := mid_of k kh1 fx (h6.trans e3.symm) iv (by rw [e3]; exact is)
    refine pr_ret m1 (by omega) hP (fun h1 P' k1 e hq => ?_)
    refine c_Mo_append (B 0) (B 1) (B 2) (B 4) n p0 h1 P' k1.Bf (by rw [e 0 (by omega)]; exact e5) n40 (fun d => absurd c d) (fun _ d => by omega) (fun _ _ => ?_)
    obtain ⟨w, w0, wj, wi⟩ := wr_row k1 (j := 4) (by omega) (by omega) (upd (hI h1 (B 4)) n p0) (upd (upd (hI h1 (B 0)) 0 (nI 0)) 5 (nI (n + 1)))
    refine hq _ w ?_ (fun _ => ?_) (fun q _ => ?_) ?_ ?_ ?_
    · rw [wi 1 (by omega) (by omega) (by omega), e 1 (by omega)]; exact eqA.rf _
    · rw [wi 2 (by omega) (by omega) (by omega), e 2 (by omega)]; exact eqA.rf _
    · rw [wj, e 4 (by omega)]
    · rw [w0, upd_ne (by omega), (fo _ _).2.1, e 0 (by omega)]
    · rw [w0, upd_s]
    · rw [w0, upd_ne (by omega), (fo _ _).1]
theorem pr_count (p0 : Int32) (h : AH) (P : Po) (I : LwI h A B L xs) (hP : ∀ kk h1, kk ≤ 3 → Sim l G M_Mo_count [.ref (B 0), .int p0] A B L xs kk h h1 → P (.inl (some (.int (nI kk)))) h1) : Call l G M_Lw_count [.ref (A 0), .int p0, .ref (B 8)] h P := by
  obtain ⟨n, k, kh, iv, is, e3, e5⟩ := I
  have m0 := mid_of k kh (FrX.rf k.1.2) e3.symm iv (by rw [e3]; exact is)
  have n40 := kh.2.2.2.2.2.2.2.2.1
  refine lw_count (A 0) (B 8) p0 h P kh.1.1.1 ?_
  refine c_Hp_count A p0 _ _ _ n h _ kh iv (fun c => ?_) (fun j c c1 => ?_)
  · refine pr_thr m0 e5 (by omega) rfl (by omega) (by omega) hP (fun h1 P' k1 e hq => ?_)
    have ez := e 1 (by omega)
    refine c_Mo_count (B 0) (B 1) p0 h1 P' k1.S (by rw [ez]; exact iv.1.1) (fun _ => hq _ (fo _ _).1 (fo _ _).2.1 (fo _ _).2.2) (fun i d d1 => ?_)
    refine absurd ?_ c
    rw [d1, nI_leP (by omega) (by omega), nI_leP (by omega) (by omega)]
    omega
  · refine pr_ask m0 e5 (by omega) hP (fun h1 P' k1 e hq => ?_)
    have ez := e 1 (by omega)
    refine c_Mo_count (B 0) (B 1) p0 h1 P' k1.S (by rw [ez]; exact iv.1.1) (fun d => ?_) (fun i d d1 => ?_)
    · refine absurd ?_ d
      rw [c1, nI_leP (by omega) (by omega), nI_leP (by omega) (by omega)]
      omega
    · have ei : i = j := (nI_eq (by omega) (by omega)).mp (d1.symm.trans c1)
      rw [ei, ez, e 0 (by omega), e3]
      exact hq _ ((fo _ _).1) (by rw [e 0 (by omega)]; exact (fo _ _).2.1) (by rw [e 0 (by omega)]; exact (fo _ _).2.2)
theorem pr_node (p0 p1 : Int32) (h : AH) (P : Po) (I : LwI h A B L xs) (hP : ∀ kk h1, kk ≤ 3 → Sim l G M_Mo_node [.ref (B 0), .int p0, .int p1] A B L xs kk h h1 → P (.inl (some (.int (nI kk)))) h1) : Call l G M_Lw_node [.ref (A 0), .int p0, .int p1, .ref (B 8)] h P := by
  obtain ⟨n, k, kh, iv, is, e3, e5⟩ := I
  have m0 := mid_of k kh (FrX.rf k.1.2) e3.symm iv (by rw [e3]; exact is)
  have n40 := kh.2.2.2.2.2.2.2.2.1
  have m10 := iv.1.1.at.2
  refine lw_node (A 0) (B 8) p0 p1 h P kh.1.1.1 ?_
  refine c_Hp_node A p0 p1 _ _ _ n h _ kh iv (fun c => ?_) (fun c c1 => ?_) (fun i j c c1 c2 c3 => ?_)
  · refine pr_thr m0 e5 (by omega) rfl (by omega) (by omega) hP (fun h1 P' k1 e hq => ?_)
    have ez := e 1 (by omega)
    refine c_Mo_node (B 0) (B 1) p0 p1 h1 P' k1.S (by rw [ez]; exact iv.1.1) (by rw [ez]; exact iv.1.net) (fun _ => hq _ (fo _ _).1 (fo _ _).2.1 (fo _ _).2.2) (fun d => ?_) (fun i j d d1 => ?_)
    · rw [ez] at d; exact absurd d c
    · rw [ez] at d; exact absurd ⟨i, d, d1⟩ c
  · refine pr_thr m0 e5 (by omega) rfl (by omega) (by omega) hP (fun h1 P' k1 e hq => ?_)
    have ez := e 1 (by omega)
    refine c_Mo_node (B 0) (B 1) p0 p1 h1 P' k1.S (by rw [ez]; exact iv.1.1) (by rw [ez]; exact iv.1.net) (fun d => ?_) (fun _ _ => hq _ (fo _ _).1 (fo _ _).2.1 (fo _ _).2.2) (fun i j d d1 d2 d3 => ?_)
    · rw [ez] at d; exact absurd c d
    · refine absurd ?_ c1
      rw [d3, nI_leP (by omega) (by omega), nI_leP (by omega) (by omega)]
      omega
  · refine pr_ask m0 e5 (by omega) hP (fun h1 P' k1 e hq => ?_)
    have ez := e 1 (by omega)
    refine c_Mo_node (B 0) (B 1) p0 p1 h1 P' k1.S (by rw [ez]; exact iv.1.1) (by rw [ez]; exact iv.1.net) (fun d => ?_) (fun _ d => ?_) (fun i' j' d d1 d2 d3 => ?_)
    · rw [ez] at d; exact absurd ⟨i, c, c1⟩ d
    · refine absurd ?_ d
      rw [c3, nI_leP (by omega) (by omega), nI_leP (by omega) (by omega)]
      omega
    · rw [ez] at d ⊢
      have ei : i' = i := (nI_eq (by omega) (by omega)).mp (d1.symm.trans c1)
      have ej : j' = j := (nI_eq (by omega) (by omega)).mp (d3.symm.trans c3)
      rw [ei, ej]
      exact hq _ (fo _ _).1 (fo _ _).2.1 (fo _ _).2.2
theorem pr_translator (p0 p1 : Int32) (h : AH) (P : Po) (I : LwI h A B L xs) (hP : ∀ kk h1, kk ≤ 3 → Sim l G M_Mo_translator [.ref (B 0), .int p0, .int p1] A B L xs kk h h1 → P (.inl (some (.int (nI kk)))) h1) : Call l G M_Lw_translator [.ref (A 0), .int p0, .int p1, .ref (B 8)] h P := by
  obtain ⟨n, k, kh, iv, is, e3, e5⟩ := I
  have m0 := mid_of k kh (FrX.rf k.1.2) e3.symm iv (by rw [e3]; exact is)
  have n40 := kh.2.2.2.2.2.2.2.2.1
  have m10 := iv.1.1.at.2
  refine lw_translator (A 0) (B 8) p0 p1 h P kh.1.1.1 ?_
  refine c_Hp_translator A p0 p1 _ _ _ n h _ kh iv (fun c => ?_) (fun c c1 => ?_) (fun i j c c1 c4 c2 c3 => ?_)
  · refine pr_thr m0 e5 (by omega) rfl (by omega) (by omega) hP (fun h1 P' k1 e hq => ?_)
    have ez := e 1 (by omega)
    refine c_Mo_translator (B 0) (B 1) p0 p1 h1 P' k1.S (by rw [ez]; exact iv.1.1) (fun _ => hq _ (fo _ _).1 (fo _ _).2.1 (fo _ _).2.2) (fun d => ?_) (fun i j d d1 d2 => ?_)
    · rw [ez] at d; exact absurd d c
    · rw [ez] at d d2; exact absurd ⟨i, d, d1, d2⟩ c
  · refine pr_thr m0 e5 (by omega) rfl (by omega) (by omega) hP (fun h1 P' k1 e hq => ?_)
    have ez := e 1 (by omega)
    refine c_Mo_translator (B 0) (B 1) p0 p1 h1 P' k1.S (by rw [ez]; exact iv.1.1) (fun d => ?_) (fun _ _ => hq _ (fo _ _).1 (fo _ _).2.1 (fo _ _).2.2) (fun i j d d1 d4 d2 d3 => ?_)
    · rw [ez] at d; exact absurd c d
    · refine absurd ?_ c1
      rw [d3, nI_leP (by omega) (by omega), nI_leP (by omega) (by omega)]
      omega
  · refine pr_ask m0 e5 (by omega) hP (fun h1 P' k1 e hq => ?_)
    have ez := e 1 (by omega)
    refine c_Mo_translator (B 0) (B 1) p0 p1 h1 P' k1.S (by rw [ez]; exact iv.1.1) (fun d => ?_) (fun _ d => ?_) (fun i' j' d d1 d4 d2 d3 => ?_)
    · rw [ez] at d; exact absurd ⟨i, c, c1, c4⟩ d
    · refine absurd ?_ d
      rw [c3, nI_leP (by omega) (by omega), nI_leP (by omega) (by omega)]
      omega
    · rw [ez] at d ⊢
      have ei : i' = i := (nI_eq (by omega) (by omega)).mp (d1.symm.trans c1)
      have ej : j' = j := (nI_eq (by omega) (by omega)).mp (d3.symm.trans c3)
      rw [ei, ej]
      exact hq _ (fo _ _).1 (fo _ _).2.1 (fo _ _).2.2
theorem pr_mapping (p0 p1 p2 : Int32) (h : AH) (P : Po) (I : LwI h A B L xs) (hP : ∀ kk h1, kk ≤ 3 → Sim l G M_Mo_mapping [.ref (B 0), .int p0, .int p1, .int p2] A B L xs kk h h1 → P (.inl (some (.int (nI kk)))) h1) : Call l G M_Lw_mapping [.ref (A 0), .int p0, .int p1, .int p2, .ref (B 8)] h P := by
  obtain ⟨n, k, kh, iv, is, e3, e5⟩ := I
  have m0 := mid_of k kh (FrX.rf k.1.2) e3.symm iv (by rw [e3]; exact is)
  have n40 := kh.2.2.2.2.2.2.2.2.1
  have m10 := iv.1.1.at.2
  refine lw_mapping (A 0) (B 8) p0 p1 p2 h P kh.1.1.1 ?_
  refine c_Hp_mapping A p0 p1 p2 _ _ _ n h _ kh iv (fun c => ?_) (fun c c1 => ?_) (fun i m j c c1 c4 c5 c6 c2 c3 => ?_)
  · refine pr_thr m0 e5 (by omega) rfl (by omega) (by omega) hP (fun h1 P' k1 e hq => ?_)
    have ez := e 1 (by omega)
    refine c_Mo_mapping (B 0) (B 1) p0 p1 p2 h1 P' k1.S (by rw [ez]; exact iv.1.1) (by rw [ez]; exact iv.1.own) (fun _ => hq _ (fo _ _).1 (fo _ _).2.1 (fo _ _).2.2) (fun d => ?_) (fun i m j d d1 d2 d3 d4 => ?_)
    · rw [ez] at d; exact absurd d c
    · rw [ez] at d d2 d3; exact absurd ⟨i, m, d, d1, d2, d3, d4⟩ c
  · refine pr_thr m0 e5 (by omega) rfl (by omega) (by omega) hP (fun h1 P' k1 e hq => ?_)
    have ez := e 1 (by omega)
    refine c_Mo_mapping (B 0) (B 1) p0 p1 p2 h1 P' k1.S (by rw [ez]; exact iv.1.1) (by rw [ez]; exact iv.1.own) (fun d => ?_) (fun _ _ => hq _ (fo _ _).1 (fo _ _).2.1 (fo _ _).2.2) (fun i m j d d1 d2 d3 d4 d5 d6 => ?_)
    · rw [ez] at d; exact absurd c d
    · refine absurd ?_ c1
      rw [d6, nI_leP (by omega) (by omega), nI_leP (by omega) (by omega)]
      omega
  · refine pr_ask m0 e5 (by omega) hP (fun h1 P' k1 e hq => ?_)
    have ez := e 1 (by omega)
    have o8 : own (hI h (B 1)) i ≤ 8 := (iv.1.own i (by omega)).2
    refine c_Mo_mapping (B 0) (B 1) p0 p1 p2 h1 P' k1.S (by rw [ez]; exact iv.1.1) (by rw [ez]; exact iv.1.own) (fun d => ?_) (fun _ d => ?_) (fun i' m' j' d d1 d2 d3 d4 d5 d6 => ?_)
    · rw [ez] at d; exact absurd ⟨i, m, c, c1, c4, c5, c6⟩ d
    · refine absurd ?_ d
      rw [c3, nI_leP (by omega) (by omega), nI_leP (by omega) (by omega)]
      omega
    · rw [ez] at d d3 ⊢
      have ei : i' = i := (nI_eq (by omega) (by omega)).mp (d1.symm.trans c1)
      rw [ei] at d3
      have em : m' = m := (nI_eq (by omega) (by omega)).mp (d4.symm.trans c6)
      have ej : j' = j := (nI_eq (by omega) (by omega)).mp (d6.symm.trans c3)
      rw [ei, em, ej]
      exact hq _ (fo _ _).1 (fo _ _).2.1 (fo _ _).2.2
theorem pr_common (p0 p1 : Int32) (h : AH) (P : Po) (I : LwI h A B L xs) (hP : ∀ kk h1, kk ≤ 3 → Sim l G M_Mo_common [.ref (B 0), .int p0, .int p1] A B L xs kk h h1 → P (.inl (some (.int (nI kk)))) h1) : Call l G M_Lw_common [.ref (A 0), .int p0, .int p1, .ref (B 8)] h P := by
  obtain ⟨n, k, kh, iv, is, e3, e5⟩ := I
  have m0 := mid_of k kh (FrX.rf k.1.2) e3.symm iv (by rw [e3]; exact is)
  have n40 := kh.2.2.2.2.2.2.2.2.1
  have m10 := iv.1.1.at.2
  refine lw_common (A 0) (B 8) p0 p1 h P kh.1.1.1 ?_
  refine c_Hp_common A p0 p1 _ _ _ n h _ kh iv (fun c => ?_) (fun i j c c1 c2 c3 => ?_)
  · refine pr_thr m0 e5 (by omega) rfl (by omega) (by omega) hP (fun h1 P' k1 e hq => ?_)
    have ez := e 1 (by omega)
    refine c_Mo_common (B 0) (B 1) p0 p1 h1 P' k1.S (by rw [ez]; exact iv.1.1) (by rw [ez]; exact iv.1.net) (fun _ => hq _ (fo _ _).1 (fo _ _).2.1 (fo _ _).2.2) (fun i j d d1 d2 d3 => ?_)
    rw [ez] at d d2; exact absurd ⟨⟨i, d, d1⟩, ⟨j, d2, d3⟩⟩ c
  · refine pr_ask m0 e5 (by omega) hP (fun h1 P' k1 e hq => ?_)
    have ez := e 1 (by omega)
    refine c_Mo_common (B 0) (B 1) p0 p1 h1 P' k1.S (by rw [ez]; exact iv.1.1) (by rw [ez]; exact iv.1.net) (fun d => ?_) (fun i' j' d d1 d2 d3 => ?_)
    · rw [ez] at d; exact absurd ⟨⟨i, c, c1⟩, ⟨j, c2, c3⟩⟩ d
    · rw [ez] at d d2 ⊢
      have ei : i' = i := (nI_eq (by omega) (by omega)).mp (d1.symm.trans c1)
      have ej : j' = j := (nI_eq (by omega) (by omega)).mp (d3.symm.trans c3)
      rw [ei, ej]
      exact hq _ (fo _ _).1 (fo _ _).2.1 (fo _ _).2.2
end
