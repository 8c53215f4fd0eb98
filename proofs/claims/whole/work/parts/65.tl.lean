/-! THE CLASS: translators get mappings -/
def k_Tl_nextMapping (l : Launch) (G : Gc) (pc : Nat) : Tr :=
  if pc < 37 then
   if pc < 19 then
    if pc < 8 then
     if pc < 4 then
      if pc < 1 then
       if pc = 0 then tz_aload 1 0 else dead
      else
       if pc = 1 then tz_getf 4 5 10 0 else dead
     else
      if pc < 7 then
       if pc = 4 then tz_if 7 19 (fun a => a < 0) else dead
      else
       if pc = 7 then tz_aload 8 0 else dead
    else
     if pc < 12 then
      if pc < 11 then
       if pc = 8 then tz_getf 11 5 10 0 else dead
      else
       if pc = 11 then tz_aload 12 0 else dead
     else
      if pc < 15 then
       if pc = 12 then tz_getf 15 5 9 1 else dead
      else
       if pc < 16 then
        if pc = 15 then tz_alen 16 else dead
       else
        if pc = 16 then tz_icmp 19 21 (fun a b => a < b) else dead
   else
    if pc < 26 then
     if pc < 21 then
      if pc < 20 then
       if pc = 19 then tz_const 20 .null else dead
      else
       if pc = 20 then tz_aret else dead
     else
      if pc < 22 then
       if pc = 21 then tz_aload 22 0 else dead
      else
       if pc < 25 then
        if pc = 22 then tz_getf 25 5 9 1 else dead
       else
        if pc = 25 then tz_aload 26 0 else dead
    else
     if pc < 30 then
      if pc < 29 then
       if pc = 26 then tz_getf 29 5 10 0 else dead
      else
       if pc = 29 then tz_aaload 30 else dead
     else
      if pc < 33 then
       if pc = 30 then tz_null 33 49 else dead
      else
       if pc < 34 then
        if pc = 33 then tz_aload 34 0 else dead
       else
        if pc = 34 then tz_getf 37 5 9 1 else dead
  else
   if pc < 55 then
    if pc < 48 then
     if pc < 41 then
      if pc < 38 then
       if pc = 37 then tz_aload 38 0 else dead
      else
       if pc = 38 then tz_getf 41 5 10 0 else dead
     else
      if pc < 44 then
       if pc = 41 then tz_new 44 0 6 else dead
      else
       if pc < 45 then
        if pc = 44 then tz_dup 45 else dead
       else
        if pc = 45 then tz_callI l G 48 M_Mp_init 0 0 else dead
    else
     if pc < 50 then
      if pc < 49 then
       if pc = 48 then tz_aastore 49 else dead
      else
       if pc = 49 then tz_aload 50 0 else dead
     else
      if pc < 51 then
       if pc = 50 then tz_dup 51 else dead
      else
       if pc < 54 then
        if pc = 51 then tz_getf 54 5 10 0 else dead
       else
        if pc = 54 then tz_const 55 (.int (nI 1)) else dead
   else
    if pc < 64 then
     if pc < 59 then
      if pc < 56 then
       if pc = 55 then tz_i2 56 (fun a b => a + b) else dead
      else
       if pc = 56 then tz_puti 59 5 10 else dead
     else
      if pc < 60 then
       if pc = 59 then tz_aload 60 0 else dead
      else
       if pc < 63 then
        if pc = 60 then tz_getf 63 5 9 1 else dead
       else
        if pc = 63 then tz_aload 64 0 else dead
    else
     if pc < 68 then
      if pc < 67 then
       if pc = 64 then tz_getf 67 5 10 0 else dead
      else
       if pc = 67 then tz_const 68 (.int (nI 1)) else dead
     else
      if pc < 69 then
       if pc = 68 then tz_i2 69 (fun a b => a - b) else dead
      else
       if pc < 70 then
        if pc = 69 then tz_aaload 70 else dead
       else
        if pc = 70 then tz_aret else dead
set_option maxRecDepth 100000 in
theorem T_Tl_nextMapping (l : Launch) (G : Gc) : TabOK l G M_Tl_nextMapping (k_Tl_nextMapping l G) := by
  intro pc
  unfold k_Tl_nextMapping
  exact
   (sd_br
    (sd_br
     (sd_br
      (sd_br
       (sd_br
        (sd_lf (sd_aload_n (k := 0) (by decide +kernel : decode prog_7_method_8_code 0 = .ok (.aload_n 0, 1))))
        (sd_lf (sd_getf (q := (RX5, TX5, 11)) (by decide +kernel : decode prog_7_method_8_code 1 = .ok (.getfield 17, 3)) rfl (by decide +kernel) (gm 261 (by decide +kernel) rfl))))
       (sd_br
        (sd_lf (sd_if_lt (by decide +kernel : decode prog_7_method_8_code 4 = .ok (.ifCond .lt 15, 3)) (by decide +kernel)))
        (sd_lf (sd_aload_n (k := 0) (by decide +kernel : decode prog_7_method_8_code 7 = .ok (.aload_n 0, 1))))))
      (sd_br
       (sd_br
        (sd_lf (sd_getf (q := (RX5, TX5, 11)) (by decide +kernel : decode prog_7_method_8_code 8 = .ok (.getfield 17, 3)) rfl (by decide +kernel) (gm 261 (by decide +kernel) rfl)))
        (sd_lf (sd_aload_n (k := 0) (by decide +kernel : decode prog_7_method_8_code 11 = .ok (.aload_n 0, 1)))))
       (sd_br
        (sd_lf (sd_getf (q := (RX5, TX5, 11)) (by decide +kernel : decode prog_7_method_8_code 12 = .ok (.getfield 11, 3)) rfl (by decide +kernel) (gm 260 (by decide +kernel) rfl)))
        (sd_br
         (sd_lf (sd_alen (by decide +kernel : decode prog_7_method_8_code 15 = .ok (.arraylength, 1))))
         (sd_lf (sd_icmp_lt (by decide +kernel : decode prog_7_method_8_code 16 = .ok (.if_icmp .lt 5, 3)) (by decide +kernel)))))))
     (sd_br
      (sd_br
       (sd_br
        (sd_lf (sd_null (by decide +kernel : decode prog_7_method_8_code 19 = .ok (.aconst_null, 1))))
        (sd_lf (sd_aret (by decide +kernel : decode prog_7_method_8_code 20 = .ok (.areturn, 1)) rfl (Or.inl ⟨_, rfl⟩))))
       (sd_br
        (sd_lf (sd_aload_n (k := 0) (by decide +kernel : decode prog_7_method_8_code 21 = .ok (.aload_n 0, 1))))
        (sd_br
         (sd_lf (sd_getf (q := (RX5, TX5, 11)) (by decide +kernel : decode prog_7_method_8_code 22 = .ok (.getfield 11, 3)) rfl (by decide +kernel) (gm 260 (by decide +kernel) rfl)))
         (sd_lf (sd_aload_n (k := 0) (by decide +kernel : decode prog_7_method_8_code 25 = .ok (.aload_n 0, 1)))))))
      (sd_br
       (sd_br
        (sd_lf (sd_getf (q := (RX5, TX5, 11)) (by decide +kernel : decode prog_7_method_8_code 26 = .ok (.getfield 17, 3)) rfl (by decide +kernel) (gm 261 (by decide +kernel) rfl)))
        (sd_lf (sd_aaload (by decide +kernel : decode prog_7_method_8_code 29 = .ok (.aaload, 1)))))
       (sd_br
        (sd_lf (sd_ifnonnull (by decide +kernel : decode prog_7_method_8_code 30 = .ok (.ifnonnull 19, 3)) (by decide +kernel)))
        (sd_br
         (sd_lf (sd_aload_n (k := 0) (by decide +kernel : decode prog_7_method_8_code 33 = .ok (.aload_n 0, 1))))
         (sd_lf (sd_getf (q := (RX5, TX5, 11)) (by decide +kernel : decode prog_7_method_8_code 34 = .ok (.getfield 11, 3)) rfl (by decide +kernel) (gm 260 (by decide +kernel) rfl))))))))
    (sd_br
     (sd_br
      (sd_br
       (sd_br
        (sd_lf (sd_aload_n (k := 0) (by decide +kernel : decode prog_7_method_8_code 37 = .ok (.aload_n 0, 1))))
        (sd_lf (sd_getf (q := (RX5, TX5, 11)) (by decide +kernel : decode prog_7_method_8_code 38 = .ok (.getfield 17, 3)) rfl (by decide +kernel) (gm 261 (by decide +kernel) rfl))))
       (sd_br
        (sd_lf (sd_new (q := (RX0, TX0, 6)) (by decide +kernel : decode prog_7_method_8_code 41 = .ok (.new 9, 3)) rfl (gm 246 (by decide +kernel) rfl)))
        (sd_br
         (sd_lf (sd_dup (by decide +kernel : decode prog_7_method_8_code 44 = .ok (.dup, 1))))
         (sd_lf (sd_callIN (host := "HolePuncher") (by decide +kernel : decode prog_7_method_8_code 45 = .ok (.invokespecial 92, 3)) ok_Mp_init (List.mem_of_getElem? (i := 228) (by decide +kernel)) (gm 301 (by decide +kernel) rfl) rfl rfl (by decide +kernel) rfl rfl)))))
      (sd_br
       (sd_br
        (sd_lf (sd_aastore (by decide +kernel : decode prog_7_method_8_code 48 = .ok (.aastore, 1))))
        (sd_lf (sd_aload_n (k := 0) (by decide +kernel : decode prog_7_method_8_code 49 = .ok (.aload_n 0, 1)))))
       (sd_br
        (sd_lf (sd_dup (by decide +kernel : decode prog_7_method_8_code 50 = .ok (.dup, 1))))
        (sd_br
         (sd_lf (sd_getf (q := (RX5, TX5, 11)) (by decide +kernel : decode prog_7_method_8_code 51 = .ok (.getfield 17, 3)) rfl (by decide +kernel) (gm 261 (by decide +kernel) rfl)))
         (sd_lf (sd_iconst (by decide +kernel : decode prog_7_method_8_code 54 = .ok (.iconst 1, 1)) (by decide +kernel)))))))
     (sd_br
      (sd_br
       (sd_br
        (sd_lf (sd_iadd (by decide +kernel : decode prog_7_method_8_code 55 = .ok (.iadd, 1))))
        (sd_lf (sd_puti (q := (RX5, TX5, 11)) (by decide +kernel : decode prog_7_method_8_code 56 = .ok (.putfield 17, 3)) rfl (by decide +kernel) (gm 261 (by decide +kernel) rfl) rfl rfl (Or.inl rfl))))
       (sd_br
        (sd_lf (sd_aload_n (k := 0) (by decide +kernel : decode prog_7_method_8_code 59 = .ok (.aload_n 0, 1))))
        (sd_br
         (sd_lf (sd_getf (q := (RX5, TX5, 11)) (by decide +kernel : decode prog_7_method_8_code 60 = .ok (.getfield 11, 3)) rfl (by decide +kernel) (gm 260 (by decide +kernel) rfl)))
         (sd_lf (sd_aload_n (k := 0) (by decide +kernel : decode prog_7_method_8_code 63 = .ok (.aload_n 0, 1)))))))
      (sd_br
       (sd_br
        (sd_lf (sd_getf (q := (RX5, TX5, 11)) (by decide +kernel : decode prog_7_method_8_code 64 = .ok (.getfield 17, 3)) rfl (by decide +kernel) (gm 261 (by decide +kernel) rfl)))
        (sd_lf (sd_iconst (by decide +kernel : decode prog_7_method_8_code 67 = .ok (.iconst 1, 1)) (by decide +kernel))))
       (sd_br
        (sd_lf (sd_isub (by decide +kernel : decode prog_7_method_8_code 68 = .ok (.isub, 1))))
        (sd_br
         (sd_lf (sd_aaload (by decide +kernel : decode prog_7_method_8_code 69 = .ok (.aaload, 1))))
         (sd_lf (sd_aret (by decide +kernel : decode prog_7_method_8_code 70 = .ok (.areturn, 1)) rfl (Or.inl ⟨_, rfl⟩)))))))))
def MpNew (h h' : AH) (nw i m : Nat) : Prop := hN h' = hN h + 1 ∧ hM h' = hM h + 8 ∧ (∀ b, b ≠ m → b ≠ hN h → same1 h h' b) ∧ hT h' m = hT h m ∧ hR h' m 4 = some (hN h) ∧ tg h' (hN h) = 8 ∧ ln h' (hN h) = 8 ∧ gh h' (hN h) = [nw, 7, i, m]
section
variable {l : Launch} {G : Gc}
theorem c_Mp_init (nw i m : Nat) (h : AH) (Q : Po) (hm : m < hN h) (h1 : tg h m = 0) (hQ : ∀ h', MpNew h h' nw i m → Q (.inl none) h') : Call l G M_Mp_init [.ref m] h Q := by
  refine call_of rfl rfl (Nat.le_of_ble_eq_true rfl) ?_
  (obtain ⟨W9, hW9, hgo9⟩ := wp_ex (T_Mp_init l G) [] _; refine hgo9 200 _ _ _ _ ?_; simp -implicitDefEqProofs (disch := first | omega | (simp only [hN_nw, hN_sR, hN_zw, hN_sL]; first | done | omega)) only [hW9, inl, gate, Xq, tz_const, tz_iload, tz_lload, tz_dload, tz_aload, tz_istore, tz_astore, tz_lstore, tz_dstore, tz_iinc, tz_i1, tz_i2, tz_i2z, tz_l2, tz_l2z, tz_i2l, tz_l2i, tz_lcmp, tz_i2d, tz_d2, tz_dcmp, tz_dup, tz_dup2, tz_pop, tz_if, tz_icmp, tz_null, tz_goto, tz_sw, tz_getf, tz_puti, tz_putz, tz_putr, tz_putl, tz_iaload, tz_baload, tz_laload, tz_aaload, tz_iastore, tz_bastore, tz_lastore, tz_aastore, tz_alen, tz_new, tz_newa, tz_oinit, tz_iret, tz_zret, tz_lret, tz_dret, tz_aret, tz_vret, tz_throw, tz_callS, tz_callV, tz_callI, tz_callR, tz_pureS, tz_pureV, tz_callVH, lg, lset, lkill, lst1, lst2, entL, isRf, is1, vl, va_rf_none, va_rf_some, isRf_rf, is1_rf, i0, i1, bI_eq0, bI_eq1, nm_em, nI_eqP, nI_leP, nI_ltP, nN_e1, nN_e2, nN_l1, nN_l2, nN_l3, nN_l4, nI_add, pk_mul, vp_inN, nI_cl, n01, n10, P_i, P_ii, P_iii, f_Mo_at, f_Mo_map, f_Mo_contact, f_Mo_within, f_Mo_isPort, f_Hp_endpoint, f_Hp_nodeOf, f_Hp_portOf, f_Ma_max, f_Ma_min, f_Hp_isSetting, popN, rok, a1, noX, swc, mL, if_true, if_false, ↓reduceIte, cond_true, cond_false, true_and, and_true, List.length_cons, List.length_nil, List.nil_append, List.cons_append, List.append_nil, Option.toList, Nat.reduceEqDiff, Bool.false_eq_true, reduceCtorEq, Nat.reduceAdd, Nat.reduceLT, Nat.reduceLeDiff, Nat.reduceSub, List.replicate, Nat.zero_add, Nat.lt_add_one, Nat.le_refl, Nat.zero_le, Nat.succ_ne_zero, not_false_eq_true, not_true_eq_false, false_implies, true_implies, forall_const, imp_self, true_or, or_true, eq_self, sI_zw, zw_zw, hI_zw, tg_zw, ln_zw, hR_zw, hL_zw, hN_zw, hM_zw, upd_s, upd_u, upd_ne, Classical.not_not, k_Mp_init, h1, tg_nwo, tg_sR, hN_nw, hN_sR]; try clear hgo9 hW9)
  refine ⟨[nw, 7, i, m], hQ _ ?_⟩
  unfold MpNew
  refine ⟨?_, ?_, fun b hb hne => ⟨?_, ?_, ?_, ?_⟩, ?_, ?_, ?_, ?_, ?_⟩
  all_goals first
    | rfl
    | (simp (disch := first | omega | (simp only [hN_nw, hN_sR, hN_zw]; first | done | omega)) only [hN_nw, hN_sR, hM_nw, hM_sR, hN_zw, hM_zw, hT_zw, hR_zw, hL_zw, tg_zw, ln_zw, gh_zw, hI_zw_ne, hT_sR, hT_nw, hI_sR, hI_nw, hR_sRo, hR_sRk, hR_sR, hR_nw, hL_sR, hL_nw, tg_sR, ln_sR, gh_sR, tg_nwo, ln_nwo, gh_nw]; done)
    | exact tg_nw' rfl
    | exact ln_nw' rfl
    | exact gh_nw' rfl
end
/-- slot s of t is taken by m -/
def NxM (h h' : AH) (nw i t s m : Nat) : Prop := Fr nw 2 h h' ∧ (hI h' t = upd (hI h t) 10 (nI (s + 1)) ∧ hR h' t = hR h t ∧ hL h' t = hL h t) ∧ ((∀ j, j ≠ s → hR h' (mM h t) j = hR h (mM h t) j) ∧ hR h' (mM h t) s = some m) ∧ (∀ b, b < hN h → b ≠ t → b ≠ mM h t → same1 h h' b) ∧ ShM h' nw i m ∧ (∀ j, j < 8 → j ≠ s → ¬ hR h (mM h t) j = some m)
theorem NxM.eM {h h' : AH} {nw i t s m : Nat} (k : NxM h h' nw i t s m) : mM h' t = mM h t := by
  unfold mM
  rw [k.2.1.2.1]
theorem NxM.lt {h h' : AH} {nw i t s m : Nat} (k : NxM h h' nw i t s m) (sh : ShT h nw i t) : Lt nw i h h' := by
  intro b hb hc
  refine k.2.2.2.1 b hb (fun e => hc ⟨4, [], ?_, by omega⟩) (fun e => hc ⟨5, [], ?_, by omega⟩)
  · rw [e]; exact sh.2.1
  · rw [e]; exact sh.2.2.1
theorem NxM.shT {h h' : AH} {nw i t s m : Nat} (k : NxM h h' nw i t s m) (hw : WF h) (sh : ShT h nw i t) (hs : s < 8) : ShT h' nw i t := by
  have eM := k.eM
  obtain ⟨f, ⟨e1, e2, e3⟩, ⟨g1, g2⟩, o, sm, ne⟩ := k
  obtain ⟨⟨a1, a2, a3, a4⟩, a5, a6, a7, a8⟩ := sh
  have lt : t < hN h := hw.lt (by rw [a1]; decide)
  have lM : mM h t < hN h := hw.lt (by rw [a3]; decide)
  have tt := f.2.1 t lt
  have tM := f.2.1 (mM h t) lM
  refine ⟨⟨?_, ?_, ?_, ?_⟩, ?_, ?_, fun j m' hj hm => ?_, fun j j' m' hj hj' q q' => ?_⟩
  · unfold tg; rw [tt]; exact a1
  · rw [eM, e2]; exact a2
  · rw [eM]; unfold tg; rw [tM]; exact a3
  · rw [eM]; unfold ln; rw [tM]; exact a4
  · unfold gh; rw [tt]; exact a5
  · rw [eM]; unfold gh; rw [tM]; exact a6
  · rw [eM] at hm
    by_cases c : j = s
    · subst c
      rw [g2] at hm
      cases hm
      exact sm
    · rw [g1 j c] at hm
      have g := a7 j m' hj hm
      have q1 : m' ≠ t := ne_tg (by rw [g.1, a1]; decide)
      have q2 : m' ≠ mM h t := ne_tg (by rw [g.1, a3]; decide)
      have q3 : cC h m' ≠ t := ne_tg (by rw [g.2.2.2.1, a1]; decide)
      have q4 : cC h m' ≠ mM h t := ne_tg (by rw [g.2.2.2.1, a3]; decide)
      exact g.keep (o m' (hw.lt (by rw [g.1]; decide)) q1 q2) (o _ (hw.lt (by rw [g.2.2.2.1]; decide)) q3 q4)
  · rw [eM] at q q'
    by_cases c : j = s
    · by_cases c' : j' = s
      · omega
      · rw [c, g2] at q
        rw [g1 j' c'] at q'
        cases q
        exact absurd q' (ne j' hj' c')
    · by_cases c' : j' = s
      · rw [c', g2] at q'
        rw [g1 j c] at q
        cases q'
        exact absurd q (ne j hj c)
      · rw [g1 j c] at q
        rw [g1 j' c'] at q'
        exact a8 j j' m' hj hj' q q'
section
variable {l : Launch} {G : Gc}
theorem c_Tl_nextMapping (wn i t s : Nat) (h : AH) (Q : Po) (hw : WF h) (sh : ShT h wn i t) (hsz : hI h t 10 = nI s) (hs : s < 8) (hQ : ∀ h' m, NxM h h' wn i t s m → Q (.inl (some (.ref m))) h') : Call l G M_Tl_nextMapping [.ref t] h Q := by
  obtain ⟨⟨h1, h2, h3, h4⟩, a5, a6, a7, a8⟩ := id sh
  have lt : t < hN h := hw.lt (by rw [h1]; decide)
  have lM : mM h t < hN h := hw.lt (by rw [h3]; decide)
  have nM : mM h t ≠ t := ne_tg (by rw [h1, h3]; decide)
  have s0 : ¬ nI s < nI 0 := by rw [nI_ltP (by omega) (by omega)]; omega
  refine call_of rfl rfl (Nat.le_of_ble_eq_true rfl) ?_
  cases e : hR h (mM h t) s with
  | some m =>
    have g := a7 s m hs e
    ((obtain ⟨W9, hW9, hgo9⟩ := wp_ex (T_Tl_nextMapping l G) [] _; refine hgo9 200 _ _ _ _ ?_; simp -implicitDefEqProofs (disch := omega) only [hW9, inl, gate, Xq, tz_const, tz_iload, tz_lload, tz_dload, tz_aload, tz_istore, tz_astore, tz_lstore, tz_dstore, tz_iinc, tz_i1, tz_i2, tz_i2z, tz_l2, tz_l2z, tz_i2l, tz_l2i, tz_lcmp, tz_i2d, tz_d2, tz_dcmp, tz_dup, tz_dup2, tz_pop, tz_if, tz_icmp, tz_null, tz_goto, tz_sw, tz_getf, tz_puti, tz_putz, tz_putr, tz_putl, tz_iaload, tz_baload, tz_laload, tz_aaload, tz_iastore, tz_bastore, tz_lastore, tz_aastore, tz_alen, tz_new, tz_newa, tz_oinit, tz_iret, tz_zret, tz_lret, tz_dret, tz_aret, tz_vret, tz_throw, tz_callS, tz_callV, tz_callI, tz_callR, tz_pureS, tz_pureV, tz_callVH, lg, lset, lkill, lst1, lst2, entL, isRf, is1, vl, va_rf_none, va_rf_some, isRf_rf, is1_rf, i0, i1, bI_eq0, bI_eq1, nm_em, nI_eqP, nI_leP, nI_ltP, nN_e1, nN_e2, nN_l1, nN_l2, nN_l3, nN_l4, nI_add, pk_mul, vp_inN, nI_cl, n01, n10, P_i, P_ii, P_iii, f_Mo_at, f_Mo_map, f_Mo_contact, f_Mo_within, f_Mo_isPort, f_Hp_endpoint, f_Hp_nodeOf, f_Hp_portOf, f_Ma_max, f_Ma_min, f_Hp_isSetting, popN, rok, a1, noX, swc, mL, if_true, if_false, ↓reduceIte, cond_true, cond_false, true_and, and_true, List.length_cons, List.length_nil, List.nil_append, List.cons_append, List.append_nil, Option.toList, Nat.reduceEqDiff, Bool.false_eq_true, reduceCtorEq, Nat.reduceAdd, Nat.reduceLT, Nat.reduceLeDiff, Nat.reduceSub, List.replicate, Nat.zero_add, Nat.lt_add_one, Nat.le_refl, Nat.zero_le, Nat.succ_ne_zero, not_false_eq_true, not_true_eq_false, false_implies, true_implies, forall_const, imp_self, true_or, or_true, eq_self, sI_zw, zw_zw, hI_zw, tg_zw, ln_zw, hR_zw, hL_zw, hN_zw, hM_zw, upd_s, upd_u, upd_ne, Classical.not_not, k_Tl_nextMapping, h1, h2, h3, h4, hsz, s0, hs, e, pk_sub, Nat.add_sub_cancel]; try clear hgo9 hW9); try (obtain ⟨W9, hW9, hgo9⟩ := wp_ex (T_Tl_nextMapping l G) [] _; refine hgo9 200 _ _ _ _ ?_; simp -implicitDefEqProofs (disch := omega) only [hW9, inl, gate, Xq, tz_const, tz_iload, tz_lload, tz_dload, tz_aload, tz_istore, tz_astore, tz_lstore, tz_dstore, tz_iinc, tz_i1, tz_i2, tz_i2z, tz_l2, tz_l2z, tz_i2l, tz_l2i, tz_lcmp, tz_i2d, tz_d2, tz_dcmp, tz_dup, tz_dup2, tz_pop, tz_if, tz_icmp, tz_null, tz_goto, tz_sw, tz_getf, tz_puti, tz_putz, tz_putr, tz_putl, tz_iaload, tz_baload, tz_laload, tz_aaload, tz_iastore, tz_bastore, tz_lastore, tz_aastore, tz_alen, tz_new, tz_newa, tz_oinit, tz_iret, tz_zret, tz_lret, tz_dret, tz_aret, tz_vret, tz_throw, tz_callS, tz_callV, tz_callI, tz_callR, tz_pureS, tz_pureV, tz_callVH, lg, lset, lkill, lst1, lst2, entL, isRf, is1, vl, va_rf_none, va_rf_some, isRf_rf, is1_rf, i0, i1, bI_eq0, bI_eq1, nm_em, nI_eqP, nI_leP, nI_ltP, nN_e1, nN_e2, nN_l1, nN_l2, nN_l3, nN_l4, nI_add, pk_mul, vp_inN, nI_cl, n01, n10, P_i, P_ii, P_iii, f_Mo_at, f_Mo_map, f_Mo_contact, f_Mo_within, f_Mo_isPort, f_Hp_endpoint, f_Hp_nodeOf, f_Hp_portOf, f_Ma_max, f_Ma_min, f_Hp_isSetting, popN, rok, a1, noX, swc, mL, if_true, if_false, ↓reduceIte, cond_true, cond_false, true_and, and_true, List.length_cons, List.length_nil, List.nil_append, List.cons_append, List.append_nil, Option.toList, Nat.reduceEqDiff, Bool.false_eq_true, reduceCtorEq, Nat.reduceAdd, Nat.reduceLT, Nat.reduceLeDiff, Nat.reduceSub, List.replicate, Nat.zero_add, Nat.lt_add_one, Nat.le_refl, Nat.zero_le, Nat.succ_ne_zero, not_false_eq_true, not_true_eq_false, false_implies, true_implies, forall_const, imp_self, true_or, or_true, eq_self, sI_zw, zw_zw, hI_zw, tg_zw, ln_zw, hR_zw, hL_zw, hN_zw, hM_zw, upd_s, upd_u, upd_ne, Classical.not_not, k_Tl_nextMapping, h1, h2, h3, h4, hsz, s0, hs, e, pk_sub, Nat.add_sub_cancel]; try clear hgo9 hW9); try (obtain ⟨W9, hW9, hgo9⟩ := wp_ex (T_Tl_nextMapping l G) [] _; refine hgo9 200 _ _ _ _ ?_; simp -implicitDefEqProofs (disch := omega) only [hW9, inl, gate, Xq, tz_const, tz_iload, tz_lload, tz_dload, tz_aload, tz_istore, tz_astore, tz_lstore, tz_dstore, tz_iinc, tz_i1, tz_i2, tz_i2z, tz_l2, tz_l2z, tz_i2l, tz_l2i, tz_lcmp, tz_i2d, tz_d2, tz_dcmp, tz_dup, tz_dup2, tz_pop, tz_if, tz_icmp, tz_null, tz_goto, tz_sw, tz_getf, tz_puti, tz_putz, tz_putr, tz_putl, tz_iaload, tz_baload, tz_laload, tz_aaload, tz_iastore, tz_bastore, tz_lastore, tz_aastore, tz_alen, tz_new, tz_newa, tz_oinit, tz_iret, tz_zret, tz_lret, tz_dret, tz_aret, tz_vret, tz_throw, tz_callS, tz_callV, tz_callI, tz_callR, tz_pureS, tz_pureV, tz_callVH, lg, lset, lkill, lst1, lst2, entL, isRf, is1, vl, va_rf_none, va_rf_some, isRf_rf, is1_rf, i0, i1, bI_eq0, bI_eq1, nm_em, nI_eqP, nI_leP, nI_ltP, nN_e1, nN_e2, nN_l1, nN_l2, nN_l3, nN_l4, nI_add, pk_mul, vp_inN, nI_cl, n01, n10, P_i, P_ii, P_iii, f_Mo_at, f_Mo_map, f_Mo_contact, f_Mo_within, f_Mo_isPort, f_Hp_endpoint, f_Hp_nodeOf, f_Hp_portOf, f_Ma_max, f_Ma_min, f_Hp_isSetting, popN, rok, a1, noX, swc, mL, if_true, if_false, ↓reduceIte, cond_true, cond_false, true_and, and_true, List.length_cons, List.length_nil, List.nil_append, List.cons_append, List.append_nil, Option.toList, Nat.reduceEqDiff, Bool.false_eq_true, reduceCtorEq, Nat.reduceAdd, Nat.reduceLT, Nat.reduceLeDiff, Nat.reduceSub, List.replicate, Nat.zero_add, Nat.lt_add_one, Nat.le_refl, Nat.zero_le, Nat.succ_ne_zero, not_false_eq_true, not_true_eq_false, false_implies, true_implies, forall_const, imp_self, true_or, or_true, eq_self, sI_zw, zw_zw, hI_zw, tg_zw, ln_zw, hR_zw, hL_zw, hN_zw, hM_zw, upd_s, upd_u, upd_ne, Classical.not_not, k_Tl_nextMapping, h1, h2, h3, h4, hsz, s0, hs, e, pk_sub, Nat.add_sub_cancel]; try clear hgo9 hW9); try (obtain ⟨W9, hW9, hgo9⟩ := wp_ex (T_Tl_nextMapping l G) [] _; refine hgo9 200 _ _ _ _ ?_; simp -implicitDefEqProofs (disch := omega) only [hW9, inl, gate, Xq, tz_const, tz_iload, tz_lload, tz_dload, tz_aload, tz_istore, tz_astore, tz_lstore, tz_dstore, tz_iinc, tz_i1, tz_i2, tz_i2z, tz_l2, tz_l2z, tz_i2l, tz_l2i, tz_lcmp, tz_i2d, tz_d2, tz_dcmp, tz_dup, tz_dup2, tz_pop, tz_if, tz_icmp, tz_null, tz_goto, tz_sw, tz_getf, tz_puti, tz_putz, tz_putr, tz_putl, tz_iaload, tz_baload, tz_laload, tz_aaload, tz_iastore, tz_bastore, tz_lastore, tz_aastore, tz_alen, tz_new, tz_newa, tz_oinit, tz_iret, tz_zret, tz_lret, tz_dret, tz_aret, tz_vret, tz_throw, tz_callS, tz_callV, tz_callI, tz_callR, tz_pureS, tz_pureV, tz_callVH, lg, lset, lkill, lst1, lst2, entL, isRf, is1, vl, va_rf_none, va_rf_some, isRf_rf, is1_rf, i0, i1, bI_eq0, bI_eq1, nm_em, nI_eqP, nI_leP, nI_ltP, nN_e1, nN_e2, nN_l1, nN_l2, nN_l3, nN_l4, nI_add, pk_mul, vp_inN, nI_cl, n01, n10, P_i, P_ii, P_iii, f_Mo_at, f_Mo_map, f_Mo_contact, f_Mo_within, f_Mo_isPort, f_Hp_endpoint, f_Hp_nodeOf, f_Hp_portOf, f_Ma_max, f_Ma_min, f_Hp_isSetting, popN, rok, a1, noX, swc, mL, if_true, if_false, ↓reduceIte, cond_true, cond_false, true_and, and_true, List.length_cons, List.length_nil, List.nil_append, List.cons_append, List.append_nil, Option.toList, Nat.reduceEqDiff, Bool.false_eq_true, reduceCtorEq, Nat.reduceAdd, Nat.reduceLT, Nat.reduceLeDiff, Nat.reduceSub, List.replicate, Nat.zero_add, Nat.lt_add_one, Nat.le_refl, Nat.zero_le, Nat.succ_ne_zero, not_false_eq_true, not_true_eq_false, false_implies, true_implies, forall_const, imp_self, true_or, or_true, eq_self, sI_zw, zw_zw, hI_zw, tg_zw, ln_zw, hR_zw, hL_zw, hN_zw, hM_zw, upd_s, upd_u, upd_ne, Classical.not_not, k_Tl_nextMapping, h1, h2, h3, h4, hsz, s0, hs, e, pk_sub, Nat.add_sub_cancel]; try clear hgo9 hW9))
    refine hQ _ m ⟨?_, ⟨hI_zw _ _ _, rfl, rfl⟩, ⟨fun _ _ => rfl, e⟩, fun b _ hb _ => ⟨rfl, hI_zw_ne _ hb, rfl, rfl⟩, g, fun j hj hne q => hne (a8 j s m hj hs q e)⟩
    exact (Fr.zw hw (rt_gh a5)).mono (by omega)
  | none =>
    have tgn : ∀ g, tg (nw h 0 6 g) (hN h) = 0 := fun g => tg_nw0 h 0 6 g
    ((obtain ⟨W9, hW9, hgo9⟩ := wp_ex (T_Tl_nextMapping l G) [] _; refine hgo9 200 _ _ _ _ ?_; simp -implicitDefEqProofs (disch := omega) only [hW9, inl, gate, Xq, tz_const, tz_iload, tz_lload, tz_dload, tz_aload, tz_istore, tz_astore, tz_lstore, tz_dstore, tz_iinc, tz_i1, tz_i2, tz_i2z, tz_l2, tz_l2z, tz_i2l, tz_l2i, tz_lcmp, tz_i2d, tz_d2, tz_dcmp, tz_dup, tz_dup2, tz_pop, tz_if, tz_icmp, tz_null, tz_goto, tz_sw, tz_getf, tz_puti, tz_putz, tz_putr, tz_putl, tz_iaload, tz_baload, tz_laload, tz_aaload, tz_iastore, tz_bastore, tz_lastore, tz_aastore, tz_alen, tz_new, tz_newa, tz_oinit, tz_iret, tz_zret, tz_lret, tz_dret, tz_aret, tz_vret, tz_throw, tz_callS, tz_callV, tz_callI, tz_callR, tz_pureS, tz_pureV, tz_callVH, lg, lset, lkill, lst1, lst2, entL, isRf, is1, vl, va_rf_none, va_rf_some, isRf_rf, is1_rf, i0, i1, bI_eq0, bI_eq1, nm_em, nI_eqP, nI_leP, nI_ltP, nN_e1, nN_e2, nN_l1, nN_l2, nN_l3, nN_l4, nI_add, pk_mul, vp_inN, nI_cl, n01, n10, P_i, P_ii, P_iii, f_Mo_at, f_Mo_map, f_Mo_contact, f_Mo_within, f_Mo_isPort, f_Hp_endpoint, f_Hp_nodeOf, f_Hp_portOf, f_Ma_max, f_Ma_min, f_Hp_isSetting, popN, rok, a1, noX, swc, mL, if_true, if_false, ↓reduceIte, cond_true, cond_false, true_and, and_true, List.length_cons, List.length_nil, List.nil_append, List.cons_append, List.append_nil, Option.toList, Nat.reduceEqDiff, Bool.false_eq_true, reduceCtorEq, Nat.reduceAdd, Nat.reduceLT, Nat.reduceLeDiff, Nat.reduceSub, List.replicate, Nat.zero_add, Nat.lt_add_one, Nat.le_refl, Nat.zero_le, Nat.succ_ne_zero, not_false_eq_true, not_true_eq_false, false_implies, true_implies, forall_const, imp_self, true_or, or_true, eq_self, sI_zw, zw_zw, hI_zw, tg_zw, ln_zw, hR_zw, hL_zw, hN_zw, hM_zw, upd_s, upd_u, upd_ne, Classical.not_not, k_Tl_nextMapping, h1, h2, h3, h4, hsz, s0, hs, e, tgn]; try clear hgo9 hW9); try (obtain ⟨W9, hW9, hgo9⟩ := wp_ex (T_Tl_nextMapping l G) [] _; refine hgo9 200 _ _ _ _ ?_; simp -implicitDefEqProofs (disch := omega) only [hW9, inl, gate, Xq, tz_const, tz_iload, tz_lload, tz_dload, tz_aload, tz_istore, tz_astore, tz_lstore, tz_dstore, tz_iinc, tz_i1, tz_i2, tz_i2z, tz_l2, tz_l2z, tz_i2l, tz_l2i, tz_lcmp, tz_i2d, tz_d2, tz_dcmp, tz_dup, tz_dup2, tz_pop, tz_if, tz_icmp, tz_null, tz_goto, tz_sw, tz_getf, tz_puti, tz_putz, tz_putr, tz_putl, tz_iaload, tz_baload, tz_laload, tz_aaload, tz_iastore, tz_bastore, tz_lastore, tz_aastore, tz_alen, tz_new, tz_newa, tz_oinit, tz_iret, tz_zret, tz_lret, tz_dret, tz_aret, tz_vret, tz_throw, tz_callS, tz_callV, tz_callI, tz_callR, tz_pureS, tz_pureV, tz_callVH, lg, lset, lkill, lst1, lst2, entL, isRf, is1, vl, va_rf_none, va_rf_some, isRf_rf, is1_rf, i0, i1, bI_eq0, bI_eq1, nm_em, nI_eqP, nI_leP, nI_ltP, nN_e1, nN_e2, nN_l1, nN_l2, nN_l3, nN_l4, nI_add, pk_mul, vp_inN, nI_cl, n01, n10, P_i, P_ii, P_iii, f_Mo_at, f_Mo_map, f_Mo_contact, f_Mo_within, f_Mo_isPort, f_Hp_endpoint, f_Hp_nodeOf, f_Hp_portOf, f_Ma_max, f_Ma_min, f_Hp_isSetting, popN, rok, a1, noX, swc, mL, if_true, if_false, ↓reduceIte, cond_true, cond_false, true_and, and_true, List.length_cons, List.length_nil, List.nil_append, List.cons_append, List.append_nil, Option.toList, Nat.reduceEqDiff, Bool.false_eq_true, reduceCtorEq, Nat.reduceAdd, Nat.reduceLT, Nat.reduceLeDiff, Nat.reduceSub, List.replicate, Nat.zero_add, Nat.lt_add_one, Nat.le_refl, Nat.zero_le, Nat.succ_ne_zero, not_false_eq_true, not_true_eq_false, false_implies, true_implies, forall_const, imp_self, true_or, or_true, eq_self, sI_zw, zw_zw, hI_zw, tg_zw, ln_zw, hR_zw, hL_zw, hN_zw, hM_zw, upd_s, upd_u, upd_ne, Classical.not_not, k_Tl_nextMapping, h1, h2, h3, h4, hsz, s0, hs, e, tgn]; try clear hgo9 hW9); try (obtain ⟨W9, hW9, hgo9⟩ := wp_ex (T_Tl_nextMapping l G) [] _; refine hgo9 200 _ _ _ _ ?_; simp -implicitDefEqProofs (disch := omega) only [hW9, inl, gate, Xq, tz_const, tz_iload, tz_lload, tz_dload, tz_aload, tz_istore, tz_astore, tz_lstore, tz_dstore, tz_iinc, tz_i1, tz_i2, tz_i2z, tz_l2, tz_l2z, tz_i2l, tz_l2i, tz_lcmp, tz_i2d, tz_d2, tz_dcmp, tz_dup, tz_dup2, tz_pop, tz_if, tz_icmp, tz_null, tz_goto, tz_sw, tz_getf, tz_puti, tz_putz, tz_putr, tz_putl, tz_iaload, tz_baload, tz_laload, tz_aaload, tz_iastore, tz_bastore, tz_lastore, tz_aastore, tz_alen, tz_new, tz_newa, tz_oinit, tz_iret, tz_zret, tz_lret, tz_dret, tz_aret, tz_vret, tz_throw, tz_callS, tz_callV, tz_callI, tz_callR, tz_pureS, tz_pureV, tz_callVH, lg, lset, lkill, lst1, lst2, entL, isRf, is1, vl, va_rf_none, va_rf_some, isRf_rf, is1_rf, i0, i1, bI_eq0, bI_eq1, nm_em, nI_eqP, nI_leP, nI_ltP, nN_e1, nN_e2, nN_l1, nN_l2, nN_l3, nN_l4, nI_add, pk_mul, vp_inN, nI_cl, n01, n10, P_i, P_ii, P_iii, f_Mo_at, f_Mo_map, f_Mo_contact, f_Mo_within, f_Mo_isPort, f_Hp_endpoint, f_Hp_nodeOf, f_Hp_portOf, f_Ma_max, f_Ma_min, f_Hp_isSetting, popN, rok, a1, noX, swc, mL, if_true, if_false, ↓reduceIte, cond_true, cond_false, true_and, and_true, List.length_cons, List.length_nil, List.nil_append, List.cons_append, List.append_nil, Option.toList, Nat.reduceEqDiff, Bool.false_eq_true, reduceCtorEq, Nat.reduceAdd, Nat.reduceLT, Nat.reduceLeDiff, Nat.reduceSub, List.replicate, Nat.zero_add, Nat.lt_add_one, Nat.le_refl, Nat.zero_le, Nat.succ_ne_zero, not_false_eq_true, not_true_eq_false, false_implies, true_implies, forall_const, imp_self, true_or, or_true, eq_self, sI_zw, zw_zw, hI_zw, tg_zw, ln_zw, hR_zw, hL_zw, hN_zw, hM_zw, upd_s, upd_u, upd_ne, Classical.not_not, k_Tl_nextMapping, h1, h2, h3, h4, hsz, s0, hs, e, tgn]; try clear hgo9 hW9); try (obtain ⟨W9, hW9, hgo9⟩ := wp_ex (T_Tl_nextMapping l G) [] _; refine hgo9 200 _ _ _ _ ?_; simp -implicitDefEqProofs (disch := omega) only [hW9, inl, gate, Xq, tz_const, tz_iload, tz_lload, tz_dload, tz_aload, tz_istore, tz_astore, tz_lstore, tz_dstore, tz_iinc, tz_i1, tz_i2, tz_i2z, tz_l2, tz_l2z, tz_i2l, tz_l2i, tz_lcmp, tz_i2d, tz_d2, tz_dcmp, tz_dup, tz_dup2, tz_pop, tz_if, tz_icmp, tz_null, tz_goto, tz_sw, tz_getf, tz_puti, tz_putz, tz_putr, tz_putl, tz_iaload, tz_baload, tz_laload, tz_aaload, tz_iastore, tz_bastore, tz_lastore, tz_aastore, tz_alen, tz_new, tz_newa, tz_oinit, tz_iret, tz_zret, tz_lret, tz_dret, tz_aret, tz_vret, tz_throw, tz_callS, tz_callV, tz_callI, tz_callR, tz_pureS, tz_pureV, tz_callVH, lg, lset, lkill, lst1, lst2, entL, isRf, is1, vl, va_rf_none, va_rf_some, isRf_rf, is1_rf, i0, i1, bI_eq0, bI_eq1, nm_em, nI_eqP, nI_leP, nI_ltP, nN_e1, nN_e2, nN_l1, nN_l2, nN_l3, nN_l4, nI_add, pk_mul, vp_inN, nI_cl, n01, n10, P_i, P_ii, P_iii, f_Mo_at, f_Mo_map, f_Mo_contact, f_Mo_within, f_Mo_isPort, f_Hp_endpoint, f_Hp_nodeOf, f_Hp_portOf, f_Ma_max, f_Ma_min, f_Hp_isSetting, popN, rok, a1, noX, swc, mL, if_true, if_false, ↓reduceIte, cond_true, cond_false, true_and, and_true, List.length_cons, List.length_nil, List.nil_append, List.cons_append, List.append_nil, Option.toList, Nat.reduceEqDiff, Bool.false_eq_true, reduceCtorEq, Nat.reduceAdd, Nat.reduceLT, Nat.reduceLeDiff, Nat.reduceSub, List.replicate, Nat.zero_add, Nat.lt_add_one, Nat.le_refl, Nat.zero_le, Nat.succ_ne_zero, not_false_eq_true, not_true_eq_false, false_implies, true_implies, forall_const, imp_self, true_or, or_true, eq_self, sI_zw, zw_zw, hI_zw, tg_zw, ln_zw, hR_zw, hL_zw, hN_zw, hM_zw, upd_s, upd_u, upd_ne, Classical.not_not, k_Tl_nextMapping, h1, h2, h3, h4, hsz, s0, hs, e, tgn]; try clear hgo9 hW9))
    refine ⟨[wn, 6, i], ?_⟩
    refine c_Mp_init wn i (hN h) _ _ (by rw [hN_nw]; omega) (tgn _) (fun h' hn => ?_)
    simp only [aft]
    obtain ⟨n1, n2, n3, n4, n5, n6, n7, n8⟩ := hn
    rw [hN_nw] at n1 n3 n5 n6 n7 n8
    rw [hM_nw] at n2
    have st := n3 t (by omega) (by omega)
    have sM := n3 (mM h t) (by omega) (by omega)
    have u1 : tg h' t = 5 := by rw [st.tg, tg_nwo (by omega)]; exact h1
    have u2' : hR h' t 9 = some (mM h t) := by rw [st.2.2.1, hR_nw (by omega)]; exact h2
    have u3 : tg h' (mM h t) = 10 := by rw [sM.tg, tg_nwo (by omega)]; exact h3
    have u4 : ln h' (mM h t) = 8 := by rw [sM.ln, ln_nwo (by omega)]; exact h4
    have u5 : hI h' t = hI h t := by rw [st.2.1, hI_nw (by omega)]
    have u6 : tg h' (hN h) = 0 := by unfold tg; rw [n4]; exact tgn _
    have u7 : hI h' t 10 = nI s := by rw [u5]; exact hsz
    have e10 : ecl 10 = 0 := rfl
    have ro : ∀ x, hR (sR h' (mM h t) s x) t = hR h' t := fun x => hR_sRo nM.symm
    have rs : ∀ x, hR (sR h' (mM h t) s x) (mM h t) s = x := fun x => hR_sR _ _ _ _
    ((obtain ⟨W9, hW9, hgo9⟩ := wp_ex (T_Tl_nextMapping l G) [] _; refine hgo9 200 _ _ _ _ ?_; simp -implicitDefEqProofs (disch := omega) only [hW9, inl, gate, Xq, tz_const, tz_iload, tz_lload, tz_dload, tz_aload, tz_istore, tz_astore, tz_lstore, tz_dstore, tz_iinc, tz_i1, tz_i2, tz_i2z, tz_l2, tz_l2z, tz_i2l, tz_l2i, tz_lcmp, tz_i2d, tz_d2, tz_dcmp, tz_dup, tz_dup2, tz_pop, tz_if, tz_icmp, tz_null, tz_goto, tz_sw, tz_getf, tz_puti, tz_putz, tz_putr, tz_putl, tz_iaload, tz_baload, tz_laload, tz_aaload, tz_iastore, tz_bastore, tz_lastore, tz_aastore, tz_alen, tz_new, tz_newa, tz_oinit, tz_iret, tz_zret, tz_lret, tz_dret, tz_aret, tz_vret, tz_throw, tz_callS, tz_callV, tz_callI, tz_callR, tz_pureS, tz_pureV, tz_callVH, lg, lset, lkill, lst1, lst2, entL, isRf, is1, vl, va_rf_none, va_rf_some, isRf_rf, is1_rf, i0, i1, bI_eq0, bI_eq1, nm_em, nI_eqP, nI_leP, nI_ltP, nN_e1, nN_e2, nN_l1, nN_l2, nN_l3, nN_l4, nI_add, pk_mul, vp_inN, nI_cl, n01, n10, P_i, P_ii, P_iii, f_Mo_at, f_Mo_map, f_Mo_contact, f_Mo_within, f_Mo_isPort, f_Hp_endpoint, f_Hp_nodeOf, f_Hp_portOf, f_Ma_max, f_Ma_min, f_Hp_isSetting, popN, rok, a1, noX, swc, mL, if_true, if_false, ↓reduceIte, cond_true, cond_false, true_and, and_true, List.length_cons, List.length_nil, List.nil_append, List.cons_append, List.append_nil, Option.toList, Nat.reduceEqDiff, Bool.false_eq_true, reduceCtorEq, Nat.reduceAdd, Nat.reduceLT, Nat.reduceLeDiff, Nat.reduceSub, List.replicate, Nat.zero_add, Nat.lt_add_one, Nat.le_refl, Nat.zero_le, Nat.succ_ne_zero, not_false_eq_true, not_true_eq_false, false_implies, true_implies, forall_const, imp_self, true_or, or_true, eq_self, sI_zw, zw_zw, hI_zw, tg_zw, ln_zw, hR_zw, hL_zw, hN_zw, hM_zw, upd_s, upd_u, upd_ne, Classical.not_not, k_Tl_nextMapping, u1, u2', u3, u4, u6, u7, e10, pk_sub, Nat.add_sub_cancel, tg_sR, ln_sR, hI_sR, ro, rs]; try clear hgo9 hW9); try (obtain ⟨W9, hW9, hgo9⟩ := wp_ex (T_Tl_nextMapping l G) [] _; refine hgo9 200 _ _ _ _ ?_; simp -implicitDefEqProofs (disch := omega) only [hW9, inl, gate, Xq, tz_const, tz_iload, tz_lload, tz_dload, tz_aload, tz_istore, tz_astore, tz_lstore, tz_dstore, tz_iinc, tz_i1, tz_i2, tz_i2z, tz_l2, tz_l2z, tz_i2l, tz_l2i, tz_lcmp, tz_i2d, tz_d2, tz_dcmp, tz_dup, tz_dup2, tz_pop, tz_if, tz_icmp, tz_null, tz_goto, tz_sw, tz_getf, tz_puti, tz_putz, tz_putr, tz_putl, tz_iaload, tz_baload, tz_laload, tz_aaload, tz_iastore, tz_bastore, tz_lastore, tz_aastore, tz_alen, tz_new, tz_newa, tz_oinit, tz_iret, tz_zret, tz_lret, tz_dret, tz_aret, tz_vret, tz_throw, tz_callS, tz_callV, tz_callI, tz_callR, tz_pureS, tz_pureV, tz_callVH, lg, lset, lkill, lst1, lst2, entL, isRf, is1, vl, va_rf_none, va_rf_some, isRf_rf, is1_rf, i0, i1, bI_eq0, bI_eq1, nm_em, nI_eqP, nI_leP, nI_ltP, nN_e1, nN_e2, nN_l1, nN_l2, nN_l3, nN_l4, nI_add, pk_mul, vp_inN, nI_cl, n01, n10, P_i, P_ii, P_iii, f_Mo_at, f_Mo_map, f_Mo_contact, f_Mo_within, f_Mo_isPort, f_Hp_endpoint, f_Hp_nodeOf, f_Hp_portOf, f_Ma_max, f_Ma_min, f_Hp_isSetting, popN, rok, a1, noX, swc, mL, if_true, if_false, ↓reduceIte, cond_true, cond_false, true_and, and_true, List.length_cons, List.length_nil, List.nil_append, List.cons_append, List.append_nil, Option.toList, Nat.reduceEqDiff, Bool.false_eq_true, reduceCtorEq, Nat.reduceAdd, Nat.reduceLT, Nat.reduceLeDiff, Nat.reduceSub, List.replicate, Nat.zero_add, Nat.lt_add_one, Nat.le_refl, Nat.zero_le, Nat.succ_ne_zero, not_false_eq_true, not_true_eq_false, false_implies, true_implies, forall_const, imp_self, true_or, or_true, eq_self, sI_zw, zw_zw, hI_zw, tg_zw, ln_zw, hR_zw, hL_zw, hN_zw, hM_zw, upd_s, upd_u, upd_ne, Classical.not_not, k_Tl_nextMapping, u1, u2', u3, u4, u6, u7, e10, pk_sub, Nat.add_sub_cancel, tg_sR, ln_sR, hI_sR, ro, rs]; try clear hgo9 hW9))
    have hl : ∀ b, b < hN h → hT (nw h 0 6 [wn, 6, i]) b = hT h b := fun b hb => hT_nw (by omega)
    have cl : ∀ b, b < hN h → same1 h h' b := fun b hb => (show same1 h (nw h 0 6 [wn, 6, i]) b from ⟨hT_nw (by omega), hI_nw (by omega), hR_nw (by omega), hL_nw (by omega)⟩).tr (n3 b (by omega) (by omega))
    have ghm : gh h' (hN h) = [wn, 6, i] := by unfold gh; rw [n4]; exact gh_nw0 _ _ _ _
    have ec : cC h' (hN h) = hN h + 1 := by unfold cC; rw [n5]; rfl
    refine hQ _ (hN h) ⟨⟨⟨?_, ?_, ?_, ?_⟩, ?_, ?_, ?_, ?_⟩, ⟨?_, ?_, ?_⟩, ⟨fun j hj => ?_, ?_⟩, fun b hb b1 b2 => ⟨?_, ?_, ?_, ?_⟩, ⟨u6, ghm, ?_, ?_, ?_, ?_⟩, fun j hj hne q => ?_⟩
    · show hN h ≤ hN h'; omega
    · show hN h' ≤ hN h + 2; omega
    · show hM h' + 12 * hN h ≤ hM h + 12 * hN h'; omega
    · show hM h ≤ hM h'; omega
    · exact fun b hb => (cl b hb).1
    · intro b hb hr
      have b1 : b ≠ t := fun q => hr (by rw [q]; exact rt_gh a5)
      have b2 : b ≠ mM h t := fun q => hr (by rw [q]; exact rt_gh a6)
      refine ⟨(cl b hb).1, ?_, ?_, (cl b hb).2.2.2⟩
      · rw [hI_zw_ne _ b1]; exact (cl b hb).2.1
      · show hR (sR h' (mM h t) s _) b = _
        rw [hR_sRo b2]; exact (cl b hb).2.2.1
    · intro b b1 b2
      replace b2 : b < hN h' := b2
      have : b = hN h ∨ b = hN h + 1 := by omega
      rcases this with q | q
      · subst q; exact rt_gh ghm
      · subst q; exact rt_gh n8
    · intro b hb
      replace hb : hN h' ≤ b := hb
      show tg h' b = 99
      rw [(n3 b (by omega) (by omega)).tg, tg_nwo (by omega)]
      exact hw b (by omega)
    · rw [hI_zw, u5]
    · show hR (sR h' (mM h t) s _) t = _
      rw [ro]; exact (cl t lt).2.2.1
    · exact (cl t lt).2.2.2
    · show hR (sR h' (mM h t) s _) (mM h t) j = _
      rw [hR_sRk hj]; rw [(cl _ lM).2.2.1]
    · exact rs _
    · exact (cl b hb).1
    · rw [hI_zw_ne _ b1]; exact (cl b hb).2.1
    · show hR (sR h' (mM h t) s _) b = _
      rw [hR_sRo b2]; exact (cl b hb).2.2.1
    · exact (cl b hb).2.2.2
    · have : cC (zw (sR h' (mM h t) s (some (hN h))) t (upd (hI h' t) 10 (nI (s + 1)))) (hN h) = hN h + 1 := by
        unfold cC
        show (hR (sR h' (mM h t) s _) (hN h) 4).getD 0 = _
        rw [hR_sRo (by omega), n5]; rfl
      rw [this]
      show hR (sR h' (mM h t) s _) (hN h) 4 = _
      rw [hR_sRo (by omega)]; exact n5
    · have : cC (zw (sR h' (mM h t) s (some (hN h))) t (upd (hI h' t) 10 (nI (s + 1)))) (hN h) = hN h + 1 := by
        unfold cC
        show (hR (sR h' (mM h t) s _) (hN h) 4).getD 0 = _
        rw [hR_sRo (by omega), n5]; rfl
      rw [this]
      exact n6
    · have : cC (zw (sR h' (mM h t) s (some (hN h))) t (upd (hI h' t) 10 (nI (s + 1)))) (hN h) = hN h + 1 := by
        unfold cC
        show (hR (sR h' (mM h t) s _) (hN h) 4).getD 0 = _
        rw [hR_sRo (by omega), n5]; rfl
      rw [this]
      exact n7
    · have : cC (zw (sR h' (mM h t) s (some (hN h))) t (upd (hI h' t) 10 (nI (s + 1)))) (hN h) = hN h + 1 := by
        unfold cC
        show (hR (sR h' (mM h t) s _) (hN h) 4).getD 0 = _
        rw [hR_sRo (by omega), n5]; rfl
      rw [this]
      exact n8
    · have g := a7 j (hN h) hj q
      have := hw.lt (a := hN h) (by rw [g.1]; decide)
      omega
end
