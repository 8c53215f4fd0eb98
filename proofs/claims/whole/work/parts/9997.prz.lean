/-! THE LAW: pairs of calls that are compared at once -/
section
variable {l : Launch} {G : Gc} {A B : Nat → Nat} {L : Nat} {xs : Nat → Int32}
theorem pr_begin (h : AH) (P : Po) (I : LwI h A B L xs) (hP : ∀ (r : Int32) h1, Sim0 l G M_Mo_begin [.ref (B 0)] A B L xs (.int r) h h1 → P (.inl (some (.int r))) h1) : Call l G M_Hp_begin [.ref (A 0)] h P := by
  obtain ⟨n, k, kh, iv, is, e3, e5⟩ := I
  have m0 := mid_of k kh (FrX.rf k.1.2) e3.symm iv (by rw [e3]; exact is)
  have n40 := kh.2.2.2.2.2.2.2.2.1
  have z0 : ∀ q, q < 176 → zr0 (hI h (B 1)) 0 q = nI 0 := fun q hq => if_pos ⟨by omega, by omega⟩
  have i0' := (inv_zero z0).1
  refine c_Hp_begin A _ _ _ (zr0 (hI h (B 1)) 0) n h _ kh iv (fun q hq => z0 q (by omega)) i0' (fun h1 kh1 h6 fx => ?_)
  have mm := mid_of k kh1 fx h6 i0' (fun q => absurd q (by decide))
  refine pr_ret0 mm (by omega) (hP _) (fun P' hq => ?_)
  have e := mm.2.1
  refine c_Mo_begin (B 0) (B 1) h1 P' mm.1.S ?_
  rw [e 1 (by omega), iv.1.1.at.1]
  obtain ⟨w, w0, wj, wi⟩ := wr_row mm.1 (j := 1) (by omega) (by omega) (zr0 (hI h (B 1)) 0) (upd (upd (hI h1 (B 0)) 0 (nI 0)) 3 (nI 0))
  refine hq _ w ?_ (fun q => absurd q (by decide)) (fun q _ => ?_) ?_ ?_
  · rw [wj]; exact eqA.rf _
  · rw [wi 4 (by omega) (by omega) (by omega), e 4 (by omega)]
  · rw [w0, upd_s]
  · rw [w0, upd_ne (by omega), (fo _ _).2.2, e 0 (by omega), e5]
theorem pr_save (h : AH) (P : Po) (I : LwI h A B L xs) (hP : ∀ (r : Int32) h1, Sim0 l G M_Mo_save [.ref (B 0)] A B L xs (.int r) h h1 → P (.inl (some (.int r))) h1) : Call l G M_Hp_save [.ref (A 0)] h P := by
  obtain ⟨n, k, kh, iv, is, e3, e5⟩ := I
  have m0 := mid_of k kh (FrX.rf k.1.2) e3.symm iv (by rw [e3]; exact is)
  have n40 := kh.2.2.2.2.2.2.2.2.1
  refine c_Hp_save A _ _ _ n h _ kh iv (fun h1 kh1 h6 fx => ?_)
  have mm := mid_of k kh1 fx h6 iv (fun _ => iv)
  refine pr_ret0 mm (by omega) (hP _) (fun P' hq => ?_)
  have e := mm.2.1
  refine c_Mo_save (B 0) (B 1) (B 2) (B 4) h1 P' mm.1.Bf ?_
  obtain ⟨w, w0, wj, wi⟩ := wr_row mm.1 (j := 2) (by omega) (by omega) (cpA (hI h1 (B 1)) (hI h1 (B 2)) 0) (upd (upd (hI h1 (B 0)) 0 (nI 0)) 3 (nI 1))
  rw [show hI h (B 1) 0 = hI h1 (B 1) 0 by rw [e 1 (by omega)]] at hq
  refine hq _ w ?_ (fun _ => ?_) (fun q _ => ?_) ?_ ?_
  · rw [wi 1 (by omega) (by omega) (by omega), e 1 (by omega)]; exact eqA.rf _
  · rw [wj, e 1 (by omega)]
    exact fun q hq => if_pos ⟨by omega, hq⟩
  · rw [wi 4 (by omega) (by omega) (by omega), e 4 (by omega)]
  · rw [w0, upd_s]
  · rw [w0, upd_ne (by omega), (fo _ _).2.2, e 0 (by omega), e5]
theorem pr_clearBuffer (h : AH) (P : Po) (I : LwI h A B L xs) (hP : ∀ (r : Int32) h1, Sim0 l G M_Mo_clearBuffer [.ref (B 0)] A B L xs (.int r) h h1 → P (.inl (some (.int r))) h1) : Call l G M_Hp_clearBuffer [.ref (A 0)] h P := by
  obtain ⟨n, k, kh, iv, is, e3, e5⟩ := I
  have m0 := mid_of k kh (FrX.rf k.1.2) e3.symm iv (by rw [e3]; exact is)
  have n40 := kh.2.2.2.2.2.2.2.2.1
  refine c_Hp_clearBuffer A _ _ _ n h _ kh iv is (fun h1 kh1 h6 fx => ?_)
  have mm := mid_of k kh1 fx (h6.trans e3.symm) iv (by rw [e3]; exact is)
  refine pr_ret0 mm (by omega) (hP _) (fun P' hq => ?_)
  have e := mm.2.1
  refine c_Mo_clearBuffer (B 0) h1 P' mm.1.1.1 ?_
  rw [show hI h1 (B 0) 5 = nI n by rw [e 0 (by omega)]; exact e5]
  obtain ⟨w, w0, wi⟩ := wr_own mm.1 (upd (upd (hI h1 (B 0)) 0 (nI 0)) 5 (nI 0))
  refine hq _ w ?_ (fun _ => ?_) (fun q hq => by omega) ?_ ?_
  · rw [wi 1 (by omega) (by omega), e 1 (by omega)]; exact eqA.rf _
  · rw [wi 2 (by omega) (by omega), e 2 (by omega)]; exact eqA.rf _
  · rw [w0, upd_ne (by omega), (fo _ _).2.1, e 0 (by omega)]
  · rw [w0, upd_s]
theorem pr_firstError (h : AH) (P : Po) (I : LwI h A B L xs) (hP : ∀ (r : Int32) h1, Sim0 l G M_Mo_firstError [.ref (B 0)] A B L xs (.int r) h h1 → P (.inl (some (.int r))) h1) : Call l G M_Hp_firstError [.ref (A 0)] h P := by
  obtain ⟨n, k, kh, iv, is, e3, e5⟩ := I
  have m0 := mid_of k kh (FrX.rf k.1.2) e3.symm iv (by rw [e3]; exact is)
  have n40 := kh.2.2.2.2.2.2.2.2.1
  refine c_Hp_firstError A _ _ _ n h _ kh iv is (fun i dp bg dg er h1 kh1 h6 fx => ?_)
  have mm := mid_of k kh1 fx (h6.trans e3.symm) iv (by rw [e3]; exact is)
  refine pr_ret0 mm (by omega) (hP _) (fun P' hq => ?_)
  have e := mm.2.1
  refine c_Mo_firstError (B 0) (B 4) n h1 P' (mm.1.T (by rw [e 0 (by omega)]; exact e5) n40) (fun i' dp' bg' dg' er' => ?_)
  rw [e 4 (by omega), er] at er'
  cases er'
  obtain ⟨w, w0, wi⟩ := wr_own mm.1 (s3 (upd (hI h1 (B 0)) 0 (nI 0)) dp bg dg)
  refine hq _ w ?_ (fun _ => ?_) (fun q _ => ?_) ?_ ?_
  · rw [wi 1 (by omega) (by omega), e 1 (by omega)]; exact eqA.rf _
  · rw [wi 2 (by omega) (by omega), e 2 (by omega)]; exact eqA.rf _
  · rw [wi 4 (by omega) (by omega), e 4 (by omega)]
  · rw [w0, s3_r (by omega) (by omega) (by omega), (fo _ _).2.1, e 0 (by omega)]
  · rw [w0, s3_r (by omega) (by omega) (by omega), (fo _ _).2.2, e 0 (by omega), e5]
theorem pr_delivery (h : AH) (P : Po) (I : LwI h A B L xs) (hP : ∀ (x y : Int32) h1, Sim0 l G M_Mo_delivery [.ref (B 0)] A B L xs (.double (dlZ x y)) h h1 → P (.inl (some (.double (dlZ x y)))) h1) : Call l G M_Hp_delivery [.ref (A 0)] h P := by
  obtain ⟨n, k, kh, iv, is, e3, e5⟩ := I
  have m0 := mid_of k kh (FrX.rf k.1.2) e3.symm iv (by rw [e3]; exact is)
  have n40 := kh.2.2.2.2.2.2.2.2.1
  refine c_Hp_delivery A _ _ _ n h _ kh ?_
  refine pr_ret0 m0 (by omega) (hP _ _) (fun P' hq => ?_)
  refine m_delivery (B 0) (B 1) h P' k.S ?_
  obtain ⟨w, w0, wi⟩ := wr_own k (upd (hI h (B 0)) 0 (nI 0))
  refine hq _ w ?_ (fun _ => ?_) (fun q _ => ?_) ?_ ?_
  · rw [wi 1 (by omega) (by omega)]; exact eqA.rf _
  · rw [wi 2 (by omega) (by omega)]; exact eqA.rf _
  · rw [wi 4 (by omega) (by omega)]
  · rw [w0, (fo _ _).2.1]
  · rw [w0, (fo _ _).2.2, e5]
theorem pr_digest (h : AH) (P : Po) (I : LwI h A B L xs) (hP : ∀ (r : Int64) h1, Sim0 l G M_Mo_digest [.ref (B 0)] A B L xs (.long r) h h1 → P (.inl (some (.long r))) h1) : Call l G M_Hp_digest [.ref (A 0)] h P := by
  obtain ⟨n, k, kh, iv, is, e3, e5⟩ := I
  have m0 := mid_of k kh (FrX.rf k.1.2) e3.symm iv (by rw [e3]; exact is)
  have n40 := kh.2.2.2.2.2.2.2.2.1
  refine c_Hp_digest A _ _ _ n h _ kh iv ?_
  refine pr_ret0 m0 (by omega) (hP _) (fun P' hq => ?_)
  refine c_Mo_digest (B 0) (B 1) (B 4) n h P' k.S (k.T e5 n40) iv.1.1 iv.1.net iv.1.ownA (fun x => ?_)
  rw [e3]
  obtain ⟨w, w0, wi⟩ := wr_own k (upd (hI h (B 0)) 0 (nI 0))
  refine hq _ (w.sL (i := 0) (by omega)) ?_ (fun _ => ?_) (fun q _ => ?_) ?_ ?_
  · show eqA _ (hI (zw h (B 0) (upd (hI h (B 0)) 0 (nI 0))) (B 1))
    rw [wi 1 (by omega) (by omega)]; exact eqA.rf _
  · show eqA _ (hI (zw h (B 0) (upd (hI h (B 0)) 0 (nI 0))) (B 2))
    rw [wi 2 (by omega) (by omega)]; exact eqA.rf _
  · show hI (zw h (B 0) (upd (hI h (B 0)) 0 (nI 0))) (B 4) q = _
    rw [wi 4 (by omega) (by omega)]
  · show hI (zw h (B 0) (upd (hI h (B 0)) 0 (nI 0))) (B 0) 3 = _
    rw [w0, (fo _ _).2.1]
  · show hI (zw h (B 0) (upd (hI h (B 0)) 0 (nI 0))) (B 0) 5 = _
    rw [w0, (fo _ _).2.2, e5]
end
