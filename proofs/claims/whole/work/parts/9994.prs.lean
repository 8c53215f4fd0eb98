/-! THE LAW: how a pair of calls ends -/
section
variable {l : Launch} {G : Gc} {h h1 : AH} {A B : Nat → Nat} {L : Nat} {xs : Nat → Int32} {c n' : Nat} {z' zs' t' : Nat → Int32} {f' : Int32} {M : Md} {as : List Value} {P : Po} {cs : List (String × Nat)}
/-- the numbers of the reference behind a write of its own cell -/
theorem wr_own (k : MoL h B L xs) (f : Nat → Int32) : ModW h (zw h (B 0) f) B ∧ hI (zw h (B 0) f) (B 0) = f ∧ ∀ i, 0 < i → i < 10 → hI (zw h (B 0) f) (B i) = hI h (B i) := ⟨ModW.rf.zw (i := 0) (by omega), hI_zw _ _ _, fun i h0 hi => hI_zw_ne _ (k.ne hi (by omega) (by omega))⟩
/-- and of one of its rows -/
theorem wr_row (k : MoL h B L xs) {j : Nat} (hj : 0 < j) (hj8 : j < 8) (g f : Nat → Int32) : ModW h (zw (zw h (B j) g) (B 0) f) B ∧ hI (zw (zw h (B j) g) (B 0) f) (B 0) = f ∧ hI (zw (zw h (B j) g) (B 0) f) (B j) = g ∧ ∀ i, 0 < i → i ≠ j → i < 10 → hI (zw (zw h (B j) g) (B 0) f) (B i) = hI h (B i) := by
  refine ⟨(ModW.rf.zw hj8).zw (i := 0) (by omega), hI_zw _ _ _, ?_, fun i h0 hij hi => ?_⟩
  · rw [hI_zw_ne _ (k.ne (by omega) (by omega) (by omega)), hI_zw]
  · rw [hI_zw_ne _ (k.ne hi (by omega) (by omega)), hI_zw_ne _ (k.ne hi (by omega) hij)]
/-- the class throws: the reference must tell it -/
theorem pr_thr {E : String} {n kk : Nat} (m : Mid c h h1 A B L xs (hI h (B 1)) (hI h (B 2)) (hI h (B 4)) n (hI h (B 0) 3)) (e5 : hI h (B 0) 5 = nI n) (hc : c ≤ 400) (hk : hfd cs E = some kk) (k0 : 0 < kk) (k3 : kk ≤ 3) (hP : ∀ kk h1, kk ≤ 3 → Sim l G M as A B L xs kk h h1 → P (.inl (some (.int (nI kk)))) h1)
    (hm : ∀ (h1 : AH) (P' : Po), MoL h1 B L xs → (∀ i, i < 8 → hI h1 (B i) = hI h (B i)) → (∀ f : Nat → Int32, f 0 = nI kk → f 3 = hI h1 (B 0) 3 → f 5 = hI h1 (B 0) 5 → P' (.inl (some (.int (nI 0)))) (zw h1 (B 0) f)) → Call l G M as h1 P') : LwP P (B 8) cs (.inr E) (nx h1) := by
  have m' := m.tw
  obtain ⟨k, e, -, -, -, r⟩ := id m'
  refine ⟨kk, hk, hP kk _ k3 ⟨k, r.mono (by omega), fun P' hP' => hm _ P' k e (fun f f0 f3 f5 => hP' _ _ ?_)⟩⟩
  obtain ⟨w, w0, wi⟩ := wr_own k f
  refine ⟨m'.fin w ?_ (fun _ => ?_) (fun q _ => ?_) ?_ ?_, by rw [w0]; exact f0, fun q => by omega⟩
  · rw [wi 1 (by omega) (by omega), e 1 (by omega)]; exact eqA.rf _
  · rw [wi 2 (by omega) (by omega), e 2 (by omega)]; exact eqA.rf _
  · rw [wi 4 (by omega) (by omega), e 4 (by omega)]
  · rw [w0, f3, e 0 (by omega)]
  · rw [w0, f5, e 0 (by omega), e5]
/-- the class returns r: the reference must do the same -/
theorem pr_ret {r : Int32} (m : Mid c h h1 A B L xs z' zs' t' n' f') (hc : c ≤ 401) (hP : ∀ kk h1, kk ≤ 3 → Sim l G M as A B L xs kk h h1 → P (.inl (some (.int (nI kk)))) h1)
    (hm : ∀ (h1 : AH) (P' : Po), MoL h1 B L xs → (∀ i, i < 8 → hI h1 (B i) = hI h (B i)) → (∀ h2, ModW h1 h2 B → eqA z' (hI h2 (B 1)) → (f' = nI 1 → eqA zs' (hI h2 (B 2))) → (∀ k, k < n' → hI h2 (B 4) k = t' k) → hI h2 (B 0) 3 = f' → hI h2 (B 0) 5 = nI n' → hI h2 (B 0) 0 = nI 0 → P' (.inl (some (.int r))) h2) → Call l G M as h1 P') : LwP P (B 8) cs (.inl (some (.int r))) h1 := by
  have m' := m.out r.toInt64
  obtain ⟨k, e, -, -, -, rr⟩ := id m'
  refine ⟨m.1.2.2.2.2.2.2.2.2.1, hP 0 _ (by omega) ⟨k, rr.mono (by omega), fun P' hP' => hm _ P' k e (fun h2 w e1 e2 e4 e3 e5 e0 => hP' _ _ ⟨m'.fin w e1 e2 e4 e3 e5, e0, fun _ => ?_⟩)⟩⟩
  rw [(w.2.2.2.2 (B 8) (fun i hi => k.ne (by omega) (by omega) (by omega))).2, hL_sL]
/-- a question: nothing has changed -/
theorem pr_ask {n : Nat} {r : Int32} (m : Mid c h h1 A B L xs (hI h (B 1)) (hI h (B 2)) (hI h (B 4)) n (hI h (B 0) 3)) (e5 : hI h (B 0) 5 = nI n) (hc : c ≤ 401) (hP : ∀ kk h1, kk ≤ 3 → Sim l G M as A B L xs kk h h1 → P (.inl (some (.int (nI kk)))) h1)
    (hm : ∀ (h1 : AH) (P' : Po), MoL h1 B L xs → (∀ i, i < 8 → hI h1 (B i) = hI h (B i)) → (∀ f : Nat → Int32, f 0 = nI 0 → f 3 = hI h1 (B 0) 3 → f 5 = hI h1 (B 0) 5 → P' (.inl (some (.int r))) (zw h1 (B 0) f)) → Call l G M as h1 P') : LwP P (B 8) cs (.inl (some (.int r))) h1 := by
  refine pr_ret m hc hP (fun h1 P' k e hP' => hm h1 P' k e (fun f f0 f3 f5 => ?_))
  obtain ⟨w, w0, wi⟩ := wr_own k f
  refine hP' _ w ?_ (fun _ => ?_) (fun q _ => ?_) ?_ ?_ ?_
  · rw [wi 1 (by omega) (by omega), e 1 (by omega)]; exact eqA.rf _
  · rw [wi 2 (by omega) (by omega), e 2 (by omega)]; exact eqA.rf _
  · rw [wi 4 (by omega) (by omega), e 4 (by omega)]
  · rw [w0, f3, e 0 (by omega)]
  · rw [w0, f5, e 0 (by omega), e5]
  · rw [w0]; exact f0
/-- the numbers have changed, to z' -/
theorem pr_chg {n : Nat} {r : Int32} (m : Mid c h h1 A B L xs z' (hI h (B 2)) (hI h (B 4)) n (hI h (B 0) 3)) (e5 : hI h (B 0) 5 = nI n) (hc : c ≤ 401) (hP : ∀ kk h1, kk ≤ 3 → Sim l G M as A B L xs kk h h1 → P (.inl (some (.int (nI kk)))) h1)
    (hm : ∀ (h1 : AH) (P' : Po), MoL h1 B L xs → (∀ i, i < 8 → hI h1 (B i) = hI h (B i)) → (∀ f : Nat → Int32, f 0 = nI 0 → f 3 = hI h1 (B 0) 3 → f 5 = hI h1 (B 0) 5 → P' (.inl (some (.int r))) (zw (zw h1 (B 1) z') (B 0) f)) → Call l G M as h1 P') : LwP P (B 8) cs (.inl (some (.int r))) h1 := by
  refine pr_ret m hc hP (fun h1 P' k e hP' => hm h1 P' k e (fun f f0 f3 f5 => ?_))
  obtain ⟨w, w0, wj, wi⟩ := wr_row k (j := 1) (by omega) (by omega) z' f
  refine hP' _ w ?_ (fun _ => ?_) (fun q _ => ?_) ?_ ?_ ?_
  · rw [wj]; exact eqA.rf _
  · rw [wi 2 (by omega) (by omega) (by omega), e 2 (by omega)]; exact eqA.rf _
  · rw [wi 4 (by omega) (by omega) (by omega), e 4 (by omega)]
  · rw [w0, f3, e 0 (by omega)]
  · rw [w0, f5, e 0 (by omega), e5]
  · rw [w0]; exact f0
/-- an answer that is compared at once -/
theorem pr_ret0 {v : Value} (m : Mid c h h1 A B L xs z' zs' t' n' f') (hc : c ≤ 401) (hP : ∀ h1, Sim0 l G M as A B L xs v h h1 → P (.inl (some v)) h1)
    (hm : ∀ (P' : Po), (∀ h2, ModW h1 h2 B → eqA z' (hI h2 (B 1)) → (f' = nI 1 → eqA zs' (hI h2 (B 2))) → (∀ k, k < n' → hI h2 (B 4) k = t' k) → hI h2 (B 0) 3 = f' → hI h2 (B 0) 5 = nI n' → P' (.inl (some v)) h2) → Call l G M as h1 P') : P (.inl (some v)) h1 :=
  hP h1 ⟨m.1, m.2.2.2.2.2.mono hc, fun P' hP' => hm P' (fun h2 w e1 e2 e4 e3 e5 => hP' h2 (m.fin w e1 e2 e4 e3 e5))⟩
end
section
variable {l : Launch} {G : Gc} {A B : Nat → Nat} {L : Nat} {xs : Nat → Int32}
theorem pr_addHost (p0 : Int32) (h : AH) (P : Po) (I : LwI h A B L xs) (hP : ∀ kk h1, kk ≤ 3 → Sim l G M_Mo_addHost [.ref (B 0), .int p0] A B L xs kk h h1 → P (.inl (some (.int (nI kk)))) h1) : Call l G M_Lw_addHost [.ref (A 0), .int p0, .ref (B 8)] h P := by
  obtain ⟨n, k, kh, iv, is, e3, e5⟩ := I
  have m0 := mid_of k kh (FrX.rf k.1.2) e3.symm iv (by rw [e3]; exact is)
  have f0 : ∀ (f : Nat → Int32) x, upd f 0 x 0 = x ∧ upd f 0 x 3 = f 3 ∧ upd f 0 x 5 = f 5 := fun f x => ⟨upd_s _ _ _, upd_ne (by omega), upd_ne (by omega)⟩
  refine lw_addHost (A 0) (B 8) p0 h P kh.1.1.1 ?_
  refine c_Hp_addHost A p0 _ _ _ n h _ kh iv is (fun c => ?_) (fun c c2 => ?_) (fun c c2 h1 kh1 h6 fx => ?_)
  · refine pr_thr m0 e5 (by omega) rfl (by omega) (by omega) hP (fun h1 P' k1 e hq => ?_)
    have ez := e 1 (by omega)
    refine c_Mo_addHost (B 0) (B 1) p0 h1 P' k1.S (by rw [ez]; exact iv.1.1) (fun _ => hq _ (f0 _ _).1 (f0 _ _).2.1 (f0 _ _).2.2) (fun d => ?_) (fun d => ?_)
    · rw [ez] at d; exact absurd d c
    · rw [ez] at d; exact absurd d c
  · refine pr_thr m0 e5 (by omega) rfl (by omega) (by omega) hP (fun h1 P' k1 e hq => ?_)
    have ez := e 1 (by omega)
    refine c_Mo_addHost (B 0) (B 1) p0 h1 P' k1.S (by rw [ez]; exact iv.1.1) (fun d => ?_) (fun _ _ => hq _ (f0 _ _).1 (f0 _ _).2.1 (f0 _ _).2.2) (fun d d2 => ?_)
    · rw [ez] at d; exact absurd c d
    · rw [ez] at d2; omega
  · have m1 := mid_of k kh1 fx (h6.trans e3.symm) (inv_addZ iv c2 c).1 (by rw [e3]; exact is)
    refine pr_chg m1 e5 (by omega) hP (fun h1 P' k1 e hq => ?_)
    have ez := e 1 (by omega)
    refine c_Mo_addHost (B 0) (B 1) p0 h1 P' k1.S (by rw [ez]; exact iv.1.1) (fun d => ?_) (fun d d2 => ?_) (fun d d2 => ?_)
    · rw [ez] at d; exact absurd c d
    · rw [ez] at d2; omega
    · rw [ez]
      exact hq _ (f0 _ _).1 (f0 _ _).2.1 (f0 _ _).2.2
end
