/-- cell a gets a new network as its k-th -/
def StN (g g' : AH) (a k : Nat) : Prop := (hN g' = hN g + 3 ∧ hM g' = hM g + 22 ∧ WF g') ∧ (∀ b, b < hN g → b ≠ a → same1 g g' b) ∧ (hT g' a = hT g a ∧ (∀ j, j ≠ k → hR g' a j = hR g a j) ∧ hR g' a k = some (hN g)) ∧ ShN g' (hN g) ∧ ∀ z : Nat → Int32, (∀ q, q < 176 → z q = nI 0) → NwR g' (hN g) z
theorem stN {g g' : AH} {a k : Nat} (hw : WF g) (ha : a < hN g) (ga : gh g a = [0]) (kk : NwNew (nw g 1 6 [hN g]) g' (hN g)) : StN g (sR g' a k (some (hN g))) a k := by
  obtain ⟨⟨e1, e2, -, w2⟩, cl, sn, nz⟩ := nw_net hw kk
  have ra : rt g' a = some 0 := rt_gh ((cl a ha).gh.trans ga)
  have s2 : ∀ b, b ≠ a → same1 g' (sR g' a k (some (hN g))) b := fun b hb => ⟨rfl, rfl, hR_sRo hb, rfl⟩
  have nr : ∀ {b : Nat}, b < hN g' → rt g' b = some (hN g) → same1 g' (sR g' a k (some (hN g))) b := fun {b} _ hr => s2 b (fun e => by rw [e, ra] at hr; have := Option.some.inj hr; omega)
  refine ⟨⟨e1, e2, fun b hb => w2 b hb⟩, fun b hb hne => (cl b hb).tr (s2 b hne), ⟨(cl a ha).1, fun j hj => ?_, hR_sR _ _ _ _⟩, sn.low w2 nr, fun z hz => (nz z hz).low w2 (mny_nI (hz 1 (by omega)) (by omega)) nr⟩
  rw [hR_sRk hj, (cl a ha).2.2.1]
/-- the last cells -/
def EdN (x h' : AH) (a r bf : Nat) (f : Nat → Int32) : Prop := (hN h' = hN x + 1 ∧ hM h' = hM x + 40 ∧ WF h') ∧ (∀ b, b < hN x → b ≠ a → same1 x h' b) ∧ (hT h' a = hT x a ∧ hI h' a = f ∧ hR h' a 3 = some r ∧ hR h' a 4 = some bf ∧ ∀ j, j < 3 → hR h' a j = hR x a j) ∧ tg h' bf = 8 ∧ ln h' bf = 40 ∧ gh h' bf = [0]
theorem edN {x : AH} {a r bf : Nat} {f : Nat → Int32} (hw : WF x) (ha : a < hN x) (eb : bf = hN x) : EdN x (zw (sR (nw (sR x a 3 (some r)) 8 40 [0]) a 4 (some bf)) a f) a r bf f := by
  refine ⟨⟨rfl, rfl, fun b hb => ?_⟩, fun b hb hne => ⟨?_, ?_, ?_, ?_⟩, ⟨?_, hI_zw _ _ _, ?_, hR_sR _ _ _ _, fun j hj => ?_⟩, ?_, ?_, ?_⟩
  · replace hb : hN x + 1 ≤ b := hb
    show tg (nw (sR x a 3 (some r)) 8 40 [0]) b = 99
    rw [tg_nwo (by rw [hN_sR]; omega)]
    exact hw b (by omega)
  · show hT (nw (sR x a 3 (some r)) 8 40 [0]) b = hT x b
    rw [hT_nw (by rw [hN_sR]; omega)]
    rfl
  · rw [hI_zw_ne _ hne]
    show hI (nw (sR x a 3 (some r)) 8 40 [0]) b = hI x b
    rw [hI_nw (by rw [hN_sR]; omega)]
    rfl
  · show hR (sR (nw (sR x a 3 (some r)) 8 40 [0]) a 4 (some bf)) b = hR x b
    rw [hR_sRo hne, hR_nw (by rw [hN_sR]; omega), hR_sRo hne]
  · show hL (nw (sR x a 3 (some r)) 8 40 [0]) b = hL x b
    rw [hL_nw (by rw [hN_sR]; omega)]
    rfl
  · show hT (nw (sR x a 3 (some r)) 8 40 [0]) a = hT x a
    rw [hT_nw (by rw [hN_sR]; omega)]
    rfl
  · show hR (sR (nw (sR x a 3 (some r)) 8 40 [0]) a 4 (some bf)) a 3 = some r
    rw [hR_sRk (by omega), hR_nw (by rw [hN_sR]; omega), hR_sR]
  · show hR (sR (nw (sR x a 3 (some r)) 8 40 [0]) a 4 (some bf)) a j = hR x a j
    rw [hR_sRk (by omega), hR_nw (by rw [hN_sR]; omega), hR_sRk (by omega)]
  · show tg (nw (sR x a 3 (some r)) 8 40 [0]) bf = 8
    exact tg_nw' (by rw [hN_sR]; exact eb)
  · show ln (nw (sR x a 3 (some r)) 8 40 [0]) bf = 40
    exact ln_nw' (by rw [hN_sR]; exact eb)
  · show gh (nw (sR x a 3 (some r)) 8 40 [0]) bf = [0]
    exact gh_nw' (by rw [hN_sR]; exact eb)
def hpA (a n : Nat) : Nat → Nat
  | 0 => a
  | 1 => n
  | 2 => n + 3
  | 3 => n + 6
  | 4 => n + 9
  | 5 => n + 10
  | 6 => n + 13
  | _ => n + 14
section
variable {l : Launch} {G : Gc}
theorem c_Hp_init (a : Nat) (h : AH) (Q : Po) (hw : WF h) (h1 : tg h a = 6) (g1 : gh h a = [0]) (hQ : ∀ h', hN h' = hN h + 15 → hM h' = hM h + 136 → (∀ b, b < hN h → b ≠ a → same1 h h' b) → (∀ z zs t : Nat → Int32, (∀ q, q < 176 → z q = nI 0) → HpR h' (hpA a (hN h)) z zs t 0) → hI h' a 6 = nI 0 → Q (.inl none) h') : Call l G M_Hp_init [.ref a] h Q := by
  have ha : a < hN h := hw.lt (by rw [h1]; decide)
  have tgn : ∀ (h : AH) g, tg (nw h 1 6 g) (hN h) = 1 := fun h g => tg_nw0 h 1 6 g
  have tgm : ∀ (h : AH) g, tg (nw h 2 5 g) (hN h) = 2 := fun h g => tg_nw0 h 2 5 g
  refine call_of rfl rfl (Nat.le_of_ble_eq_true rfl) ?_
  (obtain ⟨W9, hW9, hgo9⟩ := wp_ex (T_Hp_init l G) [] _; refine hgo9 200 _ _ _ _ ?_; simp -implicitDefEqProofs (disch := omega) only [hW9, inl, gate, Xq, tz_const, tz_iload, tz_lload, tz_dload, tz_aload, tz_istore, tz_astore, tz_lstore, tz_dstore, tz_iinc, tz_i1, tz_i2, tz_i2z, tz_l2, tz_l2z, tz_i2l, tz_l2i, tz_lcmp, tz_i2d, tz_d2, tz_dcmp, tz_dup, tz_dup2, tz_pop, tz_if, tz_icmp, tz_null, tz_goto, tz_sw, tz_getf, tz_puti, tz_putz, tz_putr, tz_putl, tz_iaload, tz_baload, tz_laload, tz_aaload, tz_iastore, tz_bastore, tz_lastore, tz_aastore, tz_alen, tz_new, tz_newa, tz_oinit, tz_iret, tz_zret, tz_lret, tz_dret, tz_aret, tz_vret, tz_throw, tz_callS, tz_callV, tz_callI, tz_callR, tz_pureS, tz_pureV, tz_callVH, lg, lset, lkill, lst1, lst2, entL, isRf, is1, vl, va_rf_none, va_rf_some, isRf_rf, is1_rf, i0, i1, bI_eq0, bI_eq1, nm_em, nI_eqP, nI_leP, nI_ltP, nN_e1, nN_e2, nN_l1, nN_l2, nN_l3, nN_l4, nI_add, pk_mul, vp_inN, nI_cl, n01, n10, P_i, P_ii, P_iii, f_Mo_at, f_Mo_map, f_Mo_contact, f_Mo_within, f_Mo_isPort, f_Hp_endpoint, f_Hp_nodeOf, f_Hp_portOf, f_Ma_max, f_Ma_min, f_Hp_isSetting, popN, rok, a1, noX, swc, mL, if_true, if_false, ↓reduceIte, cond_true, cond_false, true_and, and_true, List.length_cons, List.length_nil, List.nil_append, List.cons_append, List.append_nil, Option.toList, Nat.reduceEqDiff, Bool.false_eq_true, reduceCtorEq, Nat.reduceAdd, Nat.reduceLT, Nat.reduceLeDiff, Nat.reduceSub, List.replicate, Nat.zero_add, Nat.lt_add_one, Nat.le_refl, Nat.zero_le, Nat.succ_ne_zero, not_false_eq_true, not_true_eq_false, false_implies, true_implies, forall_const, imp_self, true_or, or_true, eq_self, sI_zw, zw_zw, hI_zw, tg_zw, ln_zw, hR_zw, hL_zw, hN_zw, hM_zw, upd_s, upd_u, upd_ne, Classical.not_not, k_Hp_init, h1, tgn]; try clear hgo9 hW9)
  refine ⟨[hN h], ?_⟩
  refine c_Nw_init (hN h) _ _ (by rw [hN_nw]; omega) (tgn _ _) (fun x1 k1 => ?_)
  simp only [aft]
  have p1 := stN (k := 0) hw ha g1 k1
  have n1 := nw_net hw k1
  have t1 : tg x1 a = 6 := (n1.2.1 a ha).tg.trans h1
  have u1 : tg x1 (hN h) = 1 := n1.2.2.1.1.1
  have t1' : tg (sR x1 a 0 (some (hN h))) a = 6 := t1
  have g1' : gh (sR x1 a 0 (some (hN h))) a = [0] := by unfold gh; rw [p1.2.2.1.1]; exact g1
  (obtain ⟨W9, hW9, hgo9⟩ := wp_ex (T_Hp_init l G) [15] _; refine hgo9 200 _ _ _ _ ?_; simp -implicitDefEqProofs (disch := omega) only [hW9, inl, gate, Xq, tz_const, tz_iload, tz_lload, tz_dload, tz_aload, tz_istore, tz_astore, tz_lstore, tz_dstore, tz_iinc, tz_i1, tz_i2, tz_i2z, tz_l2, tz_l2z, tz_i2l, tz_l2i, tz_lcmp, tz_i2d, tz_d2, tz_dcmp, tz_dup, tz_dup2, tz_pop, tz_if, tz_icmp, tz_null, tz_goto, tz_sw, tz_getf, tz_puti, tz_putz, tz_putr, tz_putl, tz_iaload, tz_baload, tz_laload, tz_aaload, tz_iastore, tz_bastore, tz_lastore, tz_aastore, tz_alen, tz_new, tz_newa, tz_oinit, tz_iret, tz_zret, tz_lret, tz_dret, tz_aret, tz_vret, tz_throw, tz_callS, tz_callV, tz_callI, tz_callR, tz_pureS, tz_pureV, tz_callVH, lg, lset, lkill, lst1, lst2, entL, isRf, is1, vl, va_rf_none, va_rf_some, isRf_rf, is1_rf, i0, i1, bI_eq0, bI_eq1, nm_em, nI_eqP, nI_leP, nI_ltP, nN_e1, nN_e2, nN_l1, nN_l2, nN_l3, nN_l4, nI_add, pk_mul, vp_inN, nI_cl, n01, n10, P_i, P_ii, P_iii, f_Mo_at, f_Mo_map, f_Mo_contact, f_Mo_within, f_Mo_isPort, f_Hp_endpoint, f_Hp_nodeOf, f_Hp_portOf, f_Ma_max, f_Ma_min, f_Hp_isSetting, popN, rok, a1, noX, swc, mL, if_true, if_false, ↓reduceIte, cond_true, cond_false, true_and, and_true, List.length_cons, List.length_nil, List.nil_append, List.cons_append, List.append_nil, Option.toList, Nat.reduceEqDiff, Bool.false_eq_true, reduceCtorEq, Nat.reduceAdd, Nat.reduceLT, Nat.reduceLeDiff, Nat.reduceSub, List.replicate, Nat.zero_add, Nat.lt_add_one, Nat.le_refl, Nat.zero_le, Nat.succ_ne_zero, not_false_eq_true, not_true_eq_false, false_implies, true_implies, forall_const, imp_self, true_or, or_true, eq_self, sI_zw, zw_zw, hI_zw, tg_zw, ln_zw, hR_zw, hL_zw, hN_zw, hM_zw, upd_s, upd_u, upd_ne, Classical.not_not, k_Hp_init, t1, u1]; try clear hgo9 hW9)
  generalize sR x1 a 0 (some (hN h)) = y1 at p1 t1' g1' ⊢
  have a1 : a < hN y1 := by rw [p1.1.1]; omega
  (obtain ⟨W9, hW9, hgo9⟩ := wp_ex (T_Hp_init l G) [] _; refine hgo9 200 _ _ _ _ ?_; simp -implicitDefEqProofs (disch := omega) only [hW9, inl, gate, Xq, tz_const, tz_iload, tz_lload, tz_dload, tz_aload, tz_istore, tz_astore, tz_lstore, tz_dstore, tz_iinc, tz_i1, tz_i2, tz_i2z, tz_l2, tz_l2z, tz_i2l, tz_l2i, tz_lcmp, tz_i2d, tz_d2, tz_dcmp, tz_dup, tz_dup2, tz_pop, tz_if, tz_icmp, tz_null, tz_goto, tz_sw, tz_getf, tz_puti, tz_putz, tz_putr, tz_putl, tz_iaload, tz_baload, tz_laload, tz_aaload, tz_iastore, tz_bastore, tz_lastore, tz_aastore, tz_alen, tz_new, tz_newa, tz_oinit, tz_iret, tz_zret, tz_lret, tz_dret, tz_aret, tz_vret, tz_throw, tz_callS, tz_callV, tz_callI, tz_callR, tz_pureS, tz_pureV, tz_callVH, lg, lset, lkill, lst1, lst2, entL, isRf, is1, vl, va_rf_none, va_rf_some, isRf_rf, is1_rf, i0, i1, bI_eq0, bI_eq1, nm_em, nI_eqP, nI_leP, nI_ltP, nN_e1, nN_e2, nN_l1, nN_l2, nN_l3, nN_l4, nI_add, pk_mul, vp_inN, nI_cl, n01, n10, P_i, P_ii, P_iii, f_Mo_at, f_Mo_map, f_Mo_contact, f_Mo_within, f_Mo_isPort, f_Hp_endpoint, f_Hp_nodeOf, f_Hp_portOf, f_Ma_max, f_Ma_min, f_Hp_isSetting, popN, rok, a1, noX, swc, mL, if_true, if_false, ↓reduceIte, cond_true, cond_false, true_and, and_true, List.length_cons, List.length_nil, List.nil_append, List.cons_append, List.append_nil, Option.toList, Nat.reduceEqDiff, Bool.false_eq_true, reduceCtorEq, Nat.reduceAdd, Nat.reduceLT, Nat.reduceLeDiff, Nat.reduceSub, List.replicate, Nat.zero_add, Nat.lt_add_one, Nat.le_refl, Nat.zero_le, Nat.succ_ne_zero, not_false_eq_true, not_true_eq_false, false_implies, true_implies, forall_const, imp_self, true_or, or_true, eq_self, sI_zw, zw_zw, hI_zw, tg_zw, ln_zw, hR_zw, hL_zw, hN_zw, hM_zw, upd_s, upd_u, upd_ne, Classical.not_not, k_Hp_init, t1', tgn]; try clear hgo9 hW9)
  refine ⟨[hN y1], ?_⟩
  refine c_Nw_init (hN y1) _ _ (by rw [hN_nw]; omega) (tgn _ _) (fun x2 k2 => ?_)
  simp only [aft]
  have p2 := stN (k := 1) p1.1.2.2 a1 g1' k2
  have n2 := nw_net p1.1.2.2 k2
  have t2 : tg x2 a = 6 := (n2.2.1 a a1).tg.trans t1'
  have u2 : tg x2 (hN y1) = 1 := n2.2.2.1.1.1
  have t2' : tg (sR x2 a 1 (some (hN y1))) a = 6 := t2
  have g2' : gh (sR x2 a 1 (some (hN y1))) a = [0] := by unfold gh; rw [p2.2.2.1.1]; exact g1'
  (obtain ⟨W9, hW9, hgo9⟩ := wp_ex (T_Hp_init l G) [26] _; refine hgo9 200 _ _ _ _ ?_; simp -implicitDefEqProofs (disch := omega) only [hW9, inl, gate, Xq, tz_const, tz_iload, tz_lload, tz_dload, tz_aload, tz_istore, tz_astore, tz_lstore, tz_dstore, tz_iinc, tz_i1, tz_i2, tz_i2z, tz_l2, tz_l2z, tz_i2l, tz_l2i, tz_lcmp, tz_i2d, tz_d2, tz_dcmp, tz_dup, tz_dup2, tz_pop, tz_if, tz_icmp, tz_null, tz_goto, tz_sw, tz_getf, tz_puti, tz_putz, tz_putr, tz_putl, tz_iaload, tz_baload, tz_laload, tz_aaload, tz_iastore, tz_bastore, tz_lastore, tz_aastore, tz_alen, tz_new, tz_newa, tz_oinit, tz_iret, tz_zret, tz_lret, tz_dret, tz_aret, tz_vret, tz_throw, tz_callS, tz_callV, tz_callI, tz_callR, tz_pureS, tz_pureV, tz_callVH, lg, lset, lkill, lst1, lst2, entL, isRf, is1, vl, va_rf_none, va_rf_some, isRf_rf, is1_rf, i0, i1, bI_eq0, bI_eq1, nm_em, nI_eqP, nI_leP, nI_ltP, nN_e1, nN_e2, nN_l1, nN_l2, nN_l3, nN_l4, nI_add, pk_mul, vp_inN, nI_cl, n01, n10, P_i, P_ii, P_iii, f_Mo_at, f_Mo_map, f_Mo_contact, f_Mo_within, f_Mo_isPort, f_Hp_endpoint, f_Hp_nodeOf, f_Hp_portOf, f_Ma_max, f_Ma_min, f_Hp_isSetting, popN, rok, a1, noX, swc, mL, if_true, if_false, ↓reduceIte, cond_true, cond_false, true_and, and_true, List.length_cons, List.length_nil, List.nil_append, List.cons_append, List.append_nil, Option.toList, Nat.reduceEqDiff, Bool.false_eq_true, reduceCtorEq, Nat.reduceAdd, Nat.reduceLT, Nat.reduceLeDiff, Nat.reduceSub, List.replicate, Nat.zero_add, Nat.lt_add_one, Nat.le_refl, Nat.zero_le, Nat.succ_ne_zero, not_false_eq_true, not_true_eq_false, false_implies, true_implies, forall_const, imp_self, true_or, or_true, eq_self, sI_zw, zw_zw, hI_zw, tg_zw, ln_zw, hR_zw, hL_zw, hN_zw, hM_zw, upd_s, upd_u, upd_ne, Classical.not_not, k_Hp_init, t2, u2]; try clear hgo9 hW9)
  generalize sR x2 a 1 (some (hN y1)) = y2 at p2 t2' g2' ⊢
  have a2 : a < hN y2 := by rw [p2.1.1]; omega
  (obtain ⟨W9, hW9, hgo9⟩ := wp_ex (T_Hp_init l G) [] _; refine hgo9 200 _ _ _ _ ?_; simp -implicitDefEqProofs (disch := omega) only [hW9, inl, gate, Xq, tz_const, tz_iload, tz_lload, tz_dload, tz_aload, tz_istore, tz_astore, tz_lstore, tz_dstore, tz_iinc, tz_i1, tz_i2, tz_i2z, tz_l2, tz_l2z, tz_i2l, tz_l2i, tz_lcmp, tz_i2d, tz_d2, tz_dcmp, tz_dup, tz_dup2, tz_pop, tz_if, tz_icmp, tz_null, tz_goto, tz_sw, tz_getf, tz_puti, tz_putz, tz_putr, tz_putl, tz_iaload, tz_baload, tz_laload, tz_aaload, tz_iastore, tz_bastore, tz_lastore, tz_aastore, tz_alen, tz_new, tz_newa, tz_oinit, tz_iret, tz_zret, tz_lret, tz_dret, tz_aret, tz_vret, tz_throw, tz_callS, tz_callV, tz_callI, tz_callR, tz_pureS, tz_pureV, tz_callVH, lg, lset, lkill, lst1, lst2, entL, isRf, is1, vl, va_rf_none, va_rf_some, isRf_rf, is1_rf, i0, i1, bI_eq0, bI_eq1, nm_em, nI_eqP, nI_leP, nI_ltP, nN_e1, nN_e2, nN_l1, nN_l2, nN_l3, nN_l4, nI_add, pk_mul, vp_inN, nI_cl, n01, n10, P_i, P_ii, P_iii, f_Mo_at, f_Mo_map, f_Mo_contact, f_Mo_within, f_Mo_isPort, f_Hp_endpoint, f_Hp_nodeOf, f_Hp_portOf, f_Ma_max, f_Ma_min, f_Hp_isSetting, popN, rok, a1, noX, swc, mL, if_true, if_false, ↓reduceIte, cond_true, cond_false, true_and, and_true, List.length_cons, List.length_nil, List.nil_append, List.cons_append, List.append_nil, Option.toList, Nat.reduceEqDiff, Bool.false_eq_true, reduceCtorEq, Nat.reduceAdd, Nat.reduceLT, Nat.reduceLeDiff, Nat.reduceSub, List.replicate, Nat.zero_add, Nat.lt_add_one, Nat.le_refl, Nat.zero_le, Nat.succ_ne_zero, not_false_eq_true, not_true_eq_false, false_implies, true_implies, forall_const, imp_self, true_or, or_true, eq_self, sI_zw, zw_zw, hI_zw, tg_zw, ln_zw, hR_zw, hL_zw, hN_zw, hM_zw, upd_s, upd_u, upd_ne, Classical.not_not, k_Hp_init, t2', tgn]; try clear hgo9 hW9)
  refine ⟨[hN y2], ?_⟩
  refine c_Nw_init (hN y2) _ _ (by rw [hN_nw]; omega) (tgn _ _) (fun x3 k3 => ?_)
  simp only [aft]
  have p3 := stN (k := 2) p2.1.2.2 a2 g2' k3
  have n3 := nw_net p2.1.2.2 k3
  have t3 : tg x3 a = 6 := (n3.2.1 a a2).tg.trans t2'
  have u3 : tg x3 (hN y2) = 1 := n3.2.2.1.1.1
  have t3' : tg (sR x3 a 2 (some (hN y2))) a = 6 := t3
  have g3' : gh (sR x3 a 2 (some (hN y2))) a = [0] := by unfold gh; rw [p3.2.2.1.1]; exact g2'
  (obtain ⟨W9, hW9, hgo9⟩ := wp_ex (T_Hp_init l G) [37] _; refine hgo9 200 _ _ _ _ ?_; simp -implicitDefEqProofs (disch := omega) only [hW9, inl, gate, Xq, tz_const, tz_iload, tz_lload, tz_dload, tz_aload, tz_istore, tz_astore, tz_lstore, tz_dstore, tz_iinc, tz_i1, tz_i2, tz_i2z, tz_l2, tz_l2z, tz_i2l, tz_l2i, tz_lcmp, tz_i2d, tz_d2, tz_dcmp, tz_dup, tz_dup2, tz_pop, tz_if, tz_icmp, tz_null, tz_goto, tz_sw, tz_getf, tz_puti, tz_putz, tz_putr, tz_putl, tz_iaload, tz_baload, tz_laload, tz_aaload, tz_iastore, tz_bastore, tz_lastore, tz_aastore, tz_alen, tz_new, tz_newa, tz_oinit, tz_iret, tz_zret, tz_lret, tz_dret, tz_aret, tz_vret, tz_throw, tz_callS, tz_callV, tz_callI, tz_callR, tz_pureS, tz_pureV, tz_callVH, lg, lset, lkill, lst1, lst2, entL, isRf, is1, vl, va_rf_none, va_rf_some, isRf_rf, is1_rf, i0, i1, bI_eq0, bI_eq1, nm_em, nI_eqP, nI_leP, nI_ltP, nN_e1, nN_e2, nN_l1, nN_l2, nN_l3, nN_l4, nI_add, pk_mul, vp_inN, nI_cl, n01, n10, P_i, P_ii, P_iii, f_Mo_at, f_Mo_map, f_Mo_contact, f_Mo_within, f_Mo_isPort, f_Hp_endpoint, f_Hp_nodeOf, f_Hp_portOf, f_Ma_max, f_Ma_min, f_Hp_isSetting, popN, rok, a1, noX, swc, mL, if_true, if_false, ↓reduceIte, cond_true, cond_false, true_and, and_true, List.length_cons, List.length_nil, List.nil_append, List.cons_append, List.append_nil, Option.toList, Nat.reduceEqDiff, Bool.false_eq_true, reduceCtorEq, Nat.reduceAdd, Nat.reduceLT, Nat.reduceLeDiff, Nat.reduceSub, List.replicate, Nat.zero_add, Nat.lt_add_one, Nat.le_refl, Nat.zero_le, Nat.succ_ne_zero, not_false_eq_true, not_true_eq_false, false_implies, true_implies, forall_const, imp_self, true_or, or_true, eq_self, sI_zw, zw_zw, hI_zw, tg_zw, ln_zw, hR_zw, hL_zw, hN_zw, hM_zw, upd_s, upd_u, upd_ne, Classical.not_not, k_Hp_init, t3, u3]; try clear hgo9 hW9)
  generalize sR x3 a 2 (some (hN y2)) = y3 at p3 t3' g3' ⊢
  have a3 : a < hN y3 := by rw [p3.1.1]; omega
  (obtain ⟨W9, hW9, hgo9⟩ := wp_ex (T_Hp_init l G) [] _; refine hgo9 200 _ _ _ _ ?_; simp -implicitDefEqProofs (disch := omega) only [hW9, inl, gate, Xq, tz_const, tz_iload, tz_lload, tz_dload, tz_aload, tz_istore, tz_astore, tz_lstore, tz_dstore, tz_iinc, tz_i1, tz_i2, tz_i2z, tz_l2, tz_l2z, tz_i2l, tz_l2i, tz_lcmp, tz_i2d, tz_d2, tz_dcmp, tz_dup, tz_dup2, tz_pop, tz_if, tz_icmp, tz_null, tz_goto, tz_sw, tz_getf, tz_puti, tz_putz, tz_putr, tz_putl, tz_iaload, tz_baload, tz_laload, tz_aaload, tz_iastore, tz_bastore, tz_lastore, tz_aastore, tz_alen, tz_new, tz_newa, tz_oinit, tz_iret, tz_zret, tz_lret, tz_dret, tz_aret, tz_vret, tz_throw, tz_callS, tz_callV, tz_callI, tz_callR, tz_pureS, tz_pureV, tz_callVH, lg, lset, lkill, lst1, lst2, entL, isRf, is1, vl, va_rf_none, va_rf_some, isRf_rf, is1_rf, i0, i1, bI_eq0, bI_eq1, nm_em, nI_eqP, nI_leP, nI_ltP, nN_e1, nN_e2, nN_l1, nN_l2, nN_l3, nN_l4, nI_add, pk_mul, vp_inN, nI_cl, n01, n10, P_i, P_ii, P_iii, f_Mo_at, f_Mo_map, f_Mo_contact, f_Mo_within, f_Mo_isPort, f_Hp_endpoint, f_Hp_nodeOf, f_Hp_portOf, f_Ma_max, f_Ma_min, f_Hp_isSetting, popN, rok, a1, noX, swc, mL, if_true, if_false, ↓reduceIte, cond_true, cond_false, true_and, and_true, List.length_cons, List.length_nil, List.nil_append, List.cons_append, List.append_nil, Option.toList, Nat.reduceEqDiff, Bool.false_eq_true, reduceCtorEq, Nat.reduceAdd, Nat.reduceLT, Nat.reduceLeDiff, Nat.reduceSub, List.replicate, Nat.zero_add, Nat.lt_add_one, Nat.le_refl, Nat.zero_le, Nat.succ_ne_zero, not_false_eq_true, not_true_eq_false, false_implies, true_implies, forall_const, imp_self, true_or, or_true, eq_self, sI_zw, zw_zw, hI_zw, tg_zw, ln_zw, hR_zw, hL_zw, hN_zw, hM_zw, upd_s, upd_u, upd_ne, Classical.not_not, k_Hp_init, t3', tgm]; try clear hgo9 hW9)
  refine ⟨[0], ?_⟩
  have wm : WF (nw y3 2 5 [0]) := fun b hb => by
    rw [hN_nw] at hb
    rw [tg_nwo (by omega)]
    exact p3.1.2.2 b (by omega)
  refine c_Rd_init (hN y3) _ _ wm (tgm _ _) (gh_nw0 _ _ _ _) (fun x4 k4 => ?_)
  simp only [aft]
  obtain ⟨⟨e1, e2, e3, w4⟩, e4, ⟨e5, e6⟩, e7, e8⟩ := k4
  rw [hN_nw] at e1 e3 e5 e6 e7 e8
  rw [hM_nw] at e2
  have cl : ∀ b, b < hN y3 → same1 y3 x4 b := fun b hb => (show same1 y3 (nw y3 2 5 [0]) b from ⟨hT_nw (by omega), hI_nw (by omega), hR_nw (by omega), hL_nw (by omega)⟩).tr (e3 b (by omega) (by omega))
  have t4 : tg x4 a = 6 := (cl a a3).tg.trans t3'
  have t5 : tg x4 (hN y3) = 2 := by unfold tg; rw [e4]; exact tgm _ _
  (obtain ⟨W9, hW9, hgo9⟩ := wp_ex (T_Hp_init l G) [] _; refine hgo9 200 _ _ _ _ ?_; simp -implicitDefEqProofs (disch := first | omega | (simp only [hN_nw, hN_sR, hN_zw, hN_sL]; first | done | omega)) only [hW9, inl, gate, Xq, tz_const, tz_iload, tz_lload, tz_dload, tz_aload, tz_istore, tz_astore, tz_lstore, tz_dstore, tz_iinc, tz_i1, tz_i2, tz_i2z, tz_l2, tz_l2z, tz_i2l, tz_l2i, tz_lcmp, tz_i2d, tz_d2, tz_dcmp, tz_dup, tz_dup2, tz_pop, tz_if, tz_icmp, tz_null, tz_goto, tz_sw, tz_getf, tz_puti, tz_putz, tz_putr, tz_putl, tz_iaload, tz_baload, tz_laload, tz_aaload, tz_iastore, tz_bastore, tz_lastore, tz_aastore, tz_alen, tz_new, tz_newa, tz_oinit, tz_iret, tz_zret, tz_lret, tz_dret, tz_aret, tz_vret, tz_throw, tz_callS, tz_callV, tz_callI, tz_callR, tz_pureS, tz_pureV, tz_callVH, lg, lset, lkill, lst1, lst2, entL, isRf, is1, vl, va_rf_none, va_rf_some, isRf_rf, is1_rf, i0, i1, bI_eq0, bI_eq1, nm_em, nI_eqP, nI_leP, nI_ltP, nN_e1, nN_e2, nN_l1, nN_l2, nN_l3, nN_l4, nI_add, pk_mul, vp_inN, nI_cl, n01, n10, P_i, P_ii, P_iii, f_Mo_at, f_Mo_map, f_Mo_contact, f_Mo_within, f_Mo_isPort, f_Hp_endpoint, f_Hp_nodeOf, f_Hp_portOf, f_Ma_max, f_Ma_min, f_Hp_isSetting, popN, rok, a1, noX, swc, mL, if_true, if_false, ↓reduceIte, cond_true, cond_false, true_and, and_true, List.length_cons, List.length_nil, List.nil_append, List.cons_append, List.append_nil, Option.toList, Nat.reduceEqDiff, Bool.false_eq_true, reduceCtorEq, Nat.reduceAdd, Nat.reduceLT, Nat.reduceLeDiff, Nat.reduceSub, List.replicate, Nat.zero_add, Nat.lt_add_one, Nat.le_refl, Nat.zero_le, Nat.succ_ne_zero, not_false_eq_true, not_true_eq_false, false_implies, true_implies, forall_const, imp_self, true_or, or_true, eq_self, sI_zw, zw_zw, hI_zw, tg_zw, ln_zw, hR_zw, hL_zw, hN_zw, hM_zw, upd_s, upd_u, upd_ne, Classical.not_not, k_Hp_init, t4, t5, tg_nwo, tg_sR, hN_nw, hN_sR, e1]; try clear hgo9 hW9)
  refine ⟨[0], ?_⟩
  have a4 : a < hN x4 := by omega
  have N1 := p1.1.1
  have N2 := p2.1.1
  have N3 := p3.1.1
  have M1 := p1.1.2.1
  have M2 := p2.1.2.1
  have M3 := p3.1.2.1
  have fin : ∀ h' f, EdN x4 h' a (hN y3) (hN h + 14) f → f 5 = nI 0 → f 6 = nI 0 → Q (.inl none) h' := by
    intro h' f ⟨⟨d1, d2, d3⟩, ed, ⟨d4, d5, d6, d7, d8⟩, d9, d10, d11⟩ f5 f6
    have s34 : ∀ b, b < hN y3 → b ≠ a → same1 y3 h' b := fun b hb hne => (cl b hb).tr (ed b (by omega) hne)
    have s24 : ∀ b, b < hN y2 → b ≠ a → same1 y2 h' b := fun b hb hne => (p3.2.1 b hb hne).tr (s34 b (by omega) hne)
    have s14 : ∀ b, b < hN y1 → b ≠ a → same1 y1 h' b := fun b hb hne => (p2.2.1 b hb hne).tr (s24 b (by omega) hne)
    have s04 : ∀ b, b < hN h → b ≠ a → same1 h h' b := fun b hb hne => (p1.2.1 b hb hne).tr (s14 b (by omega) hne)
    have g4' : gh x4 a = [0] := (cl a a3).gh.trans g3'
    have na : ∀ {y : AH} {b w : Nat}, gh y a = [0] → w ≠ 0 → rt y b = some w → b ≠ a := by
      intro y b w gy w0 hr e
      rw [e, rt_gh gy] at hr
      exact w0 (Option.some.inj hr).symm
    have er : hpA a (hN h) 4 = hN y3 := by show hN h + 9 = _; omega
    have en5 : hpA a (hN h) 5 = hN y3 + 1 := by show hN h + 10 = _; omega
    have en6 : hpA a (hN h) 6 = hN y3 + 1 + 3 := by show hN h + 13 = _; omega
    have en2 : hpA a (hN h) 2 = hN y1 := by show hN h + 3 = _; omega
    have en3 : hpA a (hN h) 3 = hN y2 := by show hN h + 6 = _; omega
    have sr := ed (hN y3) (by omega) (by omega)
    have sd := ed (hN y3 + 1 + 3) (by omega) (by omega)
    have g5 : gh x4 (hN y3) = [0] := by unfold gh; rw [e4]; exact gh_nw0 _ _ _ _
    have tA : tg h' a = 6 := by unfold tg; rw [d4]; exact t4
    have gA : gh h' a = [0] := by unfold gh; rw [d4]; exact g4'
    have rA := (cl a a3).2.2.1
    refine hQ h' (by omega) (by omega) s04 (fun z zs t hz => ⟨⟨⟨tA, gA⟩, ⟨?_, ?_, ?_, by rw [er]; exact d6, d7⟩, ⟨d9, d10, d11⟩, ⟨by rw [er]; exact sr.tg.trans t5, by rw [er]; exact sr.gh.trans g5, by rw [er, en5, sr.2.2.1]; exact e5, by rw [er, en6, sr.2.2.1]; exact e6⟩, ⟨by rw [en6]; exact sd.tg.trans e7.1, by rw [en6]; exact sd.ln.trans e7.2.1, by rw [en6]; exact sd.gh.trans e7.2.2⟩, ?_, ?_, d3⟩, ?_, ?_, fun q => ?_, ?_, ?_, ?_, ?_, by omega, fun k hk => by omega⟩) (by rw [d5]; exact f6)
    · show hR h' a 0 = some (hN h)
      rw [d8 0 (by omega), rA, p3.2.2.1.2.1 0 (by omega), p2.2.2.1.2.1 0 (by omega)]
      exact p1.2.2.1.2.2
    · show hR h' a 1 = _
      rw [en2, d8 1 (by omega), rA, p3.2.2.1.2.1 1 (by omega)]
      exact p2.2.2.1.2.2
    · show hR h' a 2 = _
      rw [en3, d8 2 (by omega), rA]
      exact p3.2.2.1.2.2
    · intro i j i1 i5 i4 j1 j5 j4 hij
      have ci : i = 1 ∨ i = 2 ∨ i = 3 ∨ i = 5 := by omega
      have cj : j = 1 ∨ j = 2 ∨ j = 3 ∨ j = 5 := by omega
      rcases ci with rfl | rfl | rfl | rfl <;> rcases cj with rfl | rfl | rfl | rfl <;> simp only [hpA] <;> omega
    · intro i i1 i5 i4
      have ci : i = 1 ∨ i = 2 ∨ i = 3 ∨ i = 5 := by omega
      rcases ci with rfl | rfl | rfl | rfl <;> simp only [hpA] <;> omega
    · exact (p1.2.2.2.2 z hz).low p1.1.2.2 (mny_nI (hz 1 (by omega)) (by omega)) (fun {b} hb hr => s14 b hb (na (w := hN h) g1' (by omega) hr))
    · rw [en2]
      exact p2.2.2.2.1.low p2.1.2.2 (fun {b} hb hr => s24 b hb (na g2' (by omega) hr))
    · exfalso
      have q' : hI h' a 6 = nI 1 := q
      rw [d5, f6] at q'
      exact absurd q' (by decide)
    · refine Or.inl ?_
      show hI h' a 6 = nI 0
      rw [d5]; exact f6
    · rw [en3]
      exact p3.2.2.2.1.low p3.1.2.2 (fun {b} hb hr => s34 b hb (na g3' (by omega) hr))
    · rw [en5]
      exact e8.low w4 (fun {b} hb hr => ed b hb (na g4' (by omega) hr))
    · show hI h' a 5 = nI 0
      rw [d5]; exact f5
  have ebf : hN y3 + 1 + 4 = hN h + 14 := by omega
  rw [ebf]
  refine fin _ _ (edN w4 a4 (by omega)) ?_ ?_
  · rw [upd_ne (by omega), upd_s]
  · rw [upd_s]
end
