def k_Mo_isPort (l : Launch) (G : Gc) (pc : Nat) : Tr :=
  if pc < 2 then
   if pc < 1 then
    if pc = 0 then tz_iload 1 0 else dead
   else
    if pc = 1 then tz_const 2 (.int (nI 1)) else dead
  else
   if pc < 5 then
    if pc = 2 then tz_const 5 (.int (nI 9999)) else dead
   else
    if pc < 8 then
     if pc = 5 then tz_pureS 8 3 P_Mo_within f_Mo_within else dead
    else
     if pc = 8 then tz_zret else dead
set_option maxRecDepth 100000 in
theorem T_Mo_isPort (l : Launch) (G : Gc) : TabOK l G M_Mo_isPort (k_Mo_isPort l G) := by
  intro pc
  unfold k_Mo_isPort
  exact
   (sd_br
    (sd_br
     (sd_lf (sd_iload_n (k := 0) (by decide +kernel : decode prog_9_method_10_code 0 = .ok (.iload_n 0, 1))))
     (sd_lf (sd_iconst (by decide +kernel : decode prog_9_method_10_code 1 = .ok (.iconst 1, 1)) (by decide +kernel))))
    (sd_br
     (sd_lf (sd_sipush (by decide +kernel : decode prog_9_method_10_code 2 = .ok (.sipush 9999, 3)) (by decide +kernel)))
     (sd_br
      (sd_lf (sd_pureS (sd_callS (by decide +kernel : decode prog_9_method_10_code 5 = .ok (.invokestatic 36, 3)) ok_Mo_within (gm 990 (by decide +kernel) rfl) (gm 991 (by decide +kernel) rfl) (by decide +kernel) rfl rfl) c_Mo_within))
      (sd_lf (sd_zret (by decide +kernel : decode prog_9_method_10_code 8 = .ok (.ireturn, 1)) rfl)))))
def k_Hp_isSetting (l : Launch) (G : Gc) (pc : Nat) : Tr :=
  if pc < 42 then
   if pc < 34 then
    if pc < 32 then
     if pc < 1 then
      if pc = 0 then tz_iload 1 0 else dead
     else
      if pc = 1 then tz_sw [(nI 0, 32), (nI 1, 40), (nI 2, 49), (nI 3, 49)] 56 else dead
    else
     if pc < 33 then
      if pc = 32 then tz_iload 33 1 else dead
     else
      if pc = 33 then tz_const 34 (.int (nI 1)) else dead
   else
    if pc < 39 then
     if pc < 36 then
      if pc = 34 then tz_const 36 (.int (nI 9)) else dead
     else
      if pc = 36 then tz_pureS 39 3 P_Hp_isWithin f_Hp_isWithin else dead
    else
     if pc < 40 then
      if pc = 39 then tz_zret else dead
     else
      if pc < 41 then
       if pc = 40 then tz_iload 41 1 else dead
      else
       if pc = 41 then tz_const 42 (.int (nI 1)) else dead
  else
   if pc < 51 then
    if pc < 48 then
     if pc < 45 then
      if pc = 42 then tz_const 45 (.int (nI 1000)) else dead
     else
      if pc = 45 then tz_pureS 48 3 P_Hp_isWithin f_Hp_isWithin else dead
    else
     if pc < 49 then
      if pc = 48 then tz_zret else dead
     else
      if pc < 50 then
       if pc = 49 then tz_iload 50 1 else dead
      else
       if pc = 50 then tz_const 51 (.int (nI 0)) else dead
   else
    if pc < 55 then
     if pc < 52 then
      if pc = 51 then tz_const 52 (.int (nI 1)) else dead
     else
      if pc = 52 then tz_pureS 55 3 P_Hp_isWithin f_Hp_isWithin else dead
    else
     if pc < 56 then
      if pc = 55 then tz_zret else dead
     else
      if pc < 57 then
       if pc = 56 then tz_const 57 (.int (nI 0)) else dead
      else
       if pc = 57 then tz_zret else dead
set_option maxRecDepth 100000 in
theorem T_Hp_isSetting (l : Launch) (G : Gc) : TabOK l G M_Hp_isSetting (k_Hp_isSetting l G) := by
  intro pc
  unfold k_Hp_isSetting
  exact
   (sd_br
    (sd_br
     (sd_br
      (sd_br
       (sd_lf (sd_iload_n (k := 0) (by decide +kernel : decode prog_1_method_36_code 0 = .ok (.iload_n 0, 1))))
       (sd_lf (sd_tsw (by decide +kernel : decode prog_1_method_36_code 1 = .ok (.tableswitch 55 0 3 #[31, 39, 48, 48], 31)) (by decide +kernel) (by decide +kernel) (by decide +kernel))))
      (sd_br
       (sd_lf (sd_iload_n (k := 1) (by decide +kernel : decode prog_1_method_36_code 32 = .ok (.iload_n 1, 1))))
       (sd_lf (sd_iconst (by decide +kernel : decode prog_1_method_36_code 33 = .ok (.iconst 1, 1)) (by decide +kernel)))))
     (sd_br
      (sd_br
       (sd_lf (sd_bipush (by decide +kernel : decode prog_1_method_36_code 34 = .ok (.bipush 9, 2)) (by decide +kernel)))
       (sd_lf (sd_pureS (sd_callS (by decide +kernel : decode prog_1_method_36_code 36 = .ok (.invokestatic 66, 3)) ok_Hp_isWithin (gm 588 (by decide +kernel) rfl) (gm 589 (by decide +kernel) rfl) (by decide +kernel) rfl rfl) c_Hp_isWithin)))
      (sd_br
       (sd_lf (sd_zret (by decide +kernel : decode prog_1_method_36_code 39 = .ok (.ireturn, 1)) rfl))
       (sd_br
        (sd_lf (sd_iload_n (k := 1) (by decide +kernel : decode prog_1_method_36_code 40 = .ok (.iload_n 1, 1))))
        (sd_lf (sd_iconst (by decide +kernel : decode prog_1_method_36_code 41 = .ok (.iconst 1, 1)) (by decide +kernel)))))))
    (sd_br
     (sd_br
      (sd_br
       (sd_lf (sd_sipush (by decide +kernel : decode prog_1_method_36_code 42 = .ok (.sipush 1000, 3)) (by decide +kernel)))
       (sd_lf (sd_pureS (sd_callS (by decide +kernel : decode prog_1_method_36_code 45 = .ok (.invokestatic 66, 3)) ok_Hp_isWithin (gm 588 (by decide +kernel) rfl) (gm 589 (by decide +kernel) rfl) (by decide +kernel) rfl rfl) c_Hp_isWithin)))
      (sd_br
       (sd_lf (sd_zret (by decide +kernel : decode prog_1_method_36_code 48 = .ok (.ireturn, 1)) rfl))
       (sd_br
        (sd_lf (sd_iload_n (k := 1) (by decide +kernel : decode prog_1_method_36_code 49 = .ok (.iload_n 1, 1))))
        (sd_lf (sd_iconst (by decide +kernel : decode prog_1_method_36_code 50 = .ok (.iconst 0, 1)) (by decide +kernel))))))
     (sd_br
      (sd_br
       (sd_lf (sd_iconst (by decide +kernel : decode prog_1_method_36_code 51 = .ok (.iconst 1, 1)) (by decide +kernel)))
       (sd_lf (sd_pureS (sd_callS (by decide +kernel : decode prog_1_method_36_code 52 = .ok (.invokestatic 66, 3)) ok_Hp_isWithin (gm 588 (by decide +kernel) rfl) (gm 589 (by decide +kernel) rfl) (by decide +kernel) rfl rfl) c_Hp_isWithin)))
      (sd_br
       (sd_lf (sd_zret (by decide +kernel : decode prog_1_method_36_code 55 = .ok (.ireturn, 1)) rfl))
       (sd_br
        (sd_lf (sd_iconst (by decide +kernel : decode prog_1_method_36_code 56 = .ok (.iconst 0, 1)) (by decide +kernel)))
        (sd_lf (sd_zret (by decide +kernel : decode prog_1_method_36_code 57 = .ok (.ireturn, 1)) rfl)))))))
section
variable {l : Launch} {G : Gc}
theorem c_Mo_isPort (as : List Value) (h : AH) (Q : Po) (hl : as.length = 1) (hP : P_Mo_isPort as h) (hQ : Q (.inl (some (f_Mo_isPort as h))) h) : Call l G M_Mo_isPort as h Q := by
  match as, hP, hQ with
  | [.int v], _, hQ =>
    refine call_of rfl rfl (Nat.le_of_ble_eq_true rfl) ?_
    (obtain ⟨W9, hW9, hgo9⟩ := wp_ex (T_Mo_isPort l G) [] _; refine hgo9 200 _ _ _ _ ?_; simp -implicitDefEqProofs (disch := omega) only [hW9, inl, gate, Xq, tz_const, tz_iload, tz_lload, tz_dload, tz_aload, tz_istore, tz_astore, tz_lstore, tz_dstore, tz_iinc, tz_i1, tz_i2, tz_i2z, tz_l2, tz_l2z, tz_i2l, tz_l2i, tz_lcmp, tz_i2d, tz_d2, tz_dcmp, tz_dup, tz_dup2, tz_pop, tz_if, tz_icmp, tz_null, tz_goto, tz_sw, tz_getf, tz_puti, tz_putz, tz_putr, tz_putl, tz_iaload, tz_baload, tz_laload, tz_aaload, tz_iastore, tz_bastore, tz_lastore, tz_aastore, tz_alen, tz_new, tz_newa, tz_oinit, tz_iret, tz_zret, tz_lret, tz_dret, tz_aret, tz_vret, tz_throw, tz_callS, tz_callV, tz_callI, tz_callR, tz_pureS, tz_pureV, tz_callVH, lg, lset, lkill, lst1, lst2, entL, isRf, is1, vl, va_rf_none, va_rf_some, isRf_rf, is1_rf, i0, i1, bI_eq0, bI_eq1, nm_em, nI_eqP, nI_leP, nI_ltP, nN_e1, nN_e2, nN_l1, nN_l2, nN_l3, nN_l4, nI_add, pk_mul, vp_inN, nI_cl, n01, n10, P_i, P_ii, P_iii, f_Mo_at, f_Mo_map, f_Mo_contact, f_Mo_within, f_Mo_isPort, f_Hp_endpoint, f_Hp_nodeOf, f_Hp_portOf, f_Ma_max, f_Ma_min, f_Hp_isSetting, popN, rok, a1, noX, swc, mL, if_true, if_false, ↓reduceIte, cond_true, cond_false, true_and, and_true, List.length_cons, List.length_nil, List.nil_append, List.cons_append, List.append_nil, Option.toList, Nat.reduceEqDiff, Bool.false_eq_true, reduceCtorEq, Nat.reduceAdd, Nat.reduceLT, Nat.reduceLeDiff, Nat.reduceSub, List.replicate, Nat.zero_add, Nat.lt_add_one, Nat.le_refl, Nat.zero_le, Nat.succ_ne_zero, not_false_eq_true, not_true_eq_false, false_implies, true_implies, forall_const, imp_self, true_or, or_true, eq_self, k_Mo_isPort]; try clear hgo9 hW9)
    exact hQ
theorem c_Hp_isSetting (as : List Value) (h : AH) (Q : Po) (hl : as.length = 2) (hP : P_Hp_isSetting as h) (hQ : Q (.inl (some (f_Hp_isSetting as h))) h) : Call l G M_Hp_isSetting as h Q := by
  match as, hP, hQ with
  | [.int w, .int v], _, hQ =>
    refine call_of rfl rfl (Nat.le_of_ble_eq_true rfl) ?_
    (obtain ⟨W9, hW9, hgo9⟩ := wp_ex (T_Hp_isSetting l G) [] _; refine hgo9 200 _ _ _ _ ?_; simp -implicitDefEqProofs (disch := omega) only [hW9, inl, gate, Xq, tz_const, tz_iload, tz_lload, tz_dload, tz_aload, tz_istore, tz_astore, tz_lstore, tz_dstore, tz_iinc, tz_i1, tz_i2, tz_i2z, tz_l2, tz_l2z, tz_i2l, tz_l2i, tz_lcmp, tz_i2d, tz_d2, tz_dcmp, tz_dup, tz_dup2, tz_pop, tz_if, tz_icmp, tz_null, tz_goto, tz_sw, tz_getf, tz_puti, tz_putz, tz_putr, tz_putl, tz_iaload, tz_baload, tz_laload, tz_aaload, tz_iastore, tz_bastore, tz_lastore, tz_aastore, tz_alen, tz_new, tz_newa, tz_oinit, tz_iret, tz_zret, tz_lret, tz_dret, tz_aret, tz_vret, tz_throw, tz_callS, tz_callV, tz_callI, tz_callR, tz_pureS, tz_pureV, tz_callVH, lg, lset, lkill, lst1, lst2, entL, isRf, is1, vl, va_rf_none, va_rf_some, isRf_rf, is1_rf, i0, i1, bI_eq0, bI_eq1, nm_em, nI_eqP, nI_leP, nI_ltP, nN_e1, nN_e2, nN_l1, nN_l2, nN_l3, nN_l4, nI_add, pk_mul, vp_inN, nI_cl, n01, n10, P_i, P_ii, P_iii, f_Mo_at, f_Mo_map, f_Mo_contact, f_Mo_within, f_Mo_isPort, f_Hp_endpoint, f_Hp_nodeOf, f_Hp_portOf, f_Ma_max, f_Ma_min, f_Hp_isSetting, popN, rok, a1, noX, swc, mL, if_true, if_false, ↓reduceIte, cond_true, cond_false, true_and, and_true, List.length_cons, List.length_nil, List.nil_append, List.cons_append, List.append_nil, Option.toList, Nat.reduceEqDiff, Bool.false_eq_true, reduceCtorEq, Nat.reduceAdd, Nat.reduceLT, Nat.reduceLeDiff, Nat.reduceSub, List.replicate, Nat.zero_add, Nat.lt_add_one, Nat.le_refl, Nat.zero_le, Nat.succ_ne_zero, not_false_eq_true, not_true_eq_false, false_implies, true_implies, forall_const, imp_self, true_or, or_true, eq_self, k_Hp_isSetting]; try clear hgo9 hW9)
    simp only [f_Hp_isSetting] at hQ
    refine ⟨fun c => ?_, fun c => ⟨fun c2 => ?_, fun c2 => ⟨fun c3 => ?_, fun c3 => ⟨fun c4 => ?_, fun c4 => ?_⟩⟩⟩⟩
    · (obtain ⟨W9, hW9, hgo9⟩ := wp_ex (T_Hp_isSetting l G) [] _; refine hgo9 200 _ _ _ _ ?_; simp -implicitDefEqProofs (disch := omega) only [hW9, inl, gate, Xq, tz_const, tz_iload, tz_lload, tz_dload, tz_aload, tz_istore, tz_astore, tz_lstore, tz_dstore, tz_iinc, tz_i1, tz_i2, tz_i2z, tz_l2, tz_l2z, tz_i2l, tz_l2i, tz_lcmp, tz_i2d, tz_d2, tz_dcmp, tz_dup, tz_dup2, tz_pop, tz_if, tz_icmp, tz_null, tz_goto, tz_sw, tz_getf, tz_puti, tz_putz, tz_putr, tz_putl, tz_iaload, tz_baload, tz_laload, tz_aaload, tz_iastore, tz_bastore, tz_lastore, tz_aastore, tz_alen, tz_new, tz_newa, tz_oinit, tz_iret, tz_zret, tz_lret, tz_dret, tz_aret, tz_vret, tz_throw, tz_callS, tz_callV, tz_callI, tz_callR, tz_pureS, tz_pureV, tz_callVH, lg, lset, lkill, lst1, lst2, entL, isRf, is1, vl, va_rf_none, va_rf_some, isRf_rf, is1_rf, i0, i1, bI_eq0, bI_eq1, nm_em, nI_eqP, nI_leP, nI_ltP, nN_e1, nN_e2, nN_l1, nN_l2, nN_l3, nN_l4, nI_add, pk_mul, vp_inN, nI_cl, n01, n10, P_i, P_ii, P_iii, f_Mo_at, f_Mo_map, f_Mo_contact, f_Mo_within, f_Mo_isPort, f_Hp_endpoint, f_Hp_nodeOf, f_Hp_portOf, f_Ma_max, f_Ma_min, f_Hp_isSetting, popN, rok, a1, noX, swc, mL, if_true, if_false, ↓reduceIte, cond_true, cond_false, true_and, and_true, List.length_cons, List.length_nil, List.nil_append, List.cons_append, List.append_nil, Option.toList, Nat.reduceEqDiff, Bool.false_eq_true, reduceCtorEq, Nat.reduceAdd, Nat.reduceLT, Nat.reduceLeDiff, Nat.reduceSub, List.replicate, Nat.zero_add, Nat.lt_add_one, Nat.le_refl, Nat.zero_le, Nat.succ_ne_zero, not_false_eq_true, not_true_eq_false, false_implies, true_implies, forall_const, imp_self, true_or, or_true, eq_self, k_Hp_isSetting]; try clear hgo9 hW9)
      have e : (w = nI 0 ∧ nI 1 ≤ v ∧ v ≤ nI 9 ∨ w = nI 1 ∧ nI 1 ≤ v ∧ v ≤ nI 1000 ∨ (w = nI 2 ∨ w = nI 3) ∧ nI 0 ≤ v ∧ v ≤ nI 1) = (nI 1 ≤ v ∧ v ≤ nI 9) := by
        subst c; simp [show ¬ (nI 0 = nI 1) by decide, show ¬ (nI 0 = nI 2) by decide, show ¬ (nI 0 = nI 3) by decide]
      rwa [e] at hQ
    · (obtain ⟨W9, hW9, hgo9⟩ := wp_ex (T_Hp_isSetting l G) [] _; refine hgo9 200 _ _ _ _ ?_; simp -implicitDefEqProofs (disch := omega) only [hW9, inl, gate, Xq, tz_const, tz_iload, tz_lload, tz_dload, tz_aload, tz_istore, tz_astore, tz_lstore, tz_dstore, tz_iinc, tz_i1, tz_i2, tz_i2z, tz_l2, tz_l2z, tz_i2l, tz_l2i, tz_lcmp, tz_i2d, tz_d2, tz_dcmp, tz_dup, tz_dup2, tz_pop, tz_if, tz_icmp, tz_null, tz_goto, tz_sw, tz_getf, tz_puti, tz_putz, tz_putr, tz_putl, tz_iaload, tz_baload, tz_laload, tz_aaload, tz_iastore, tz_bastore, tz_lastore, tz_aastore, tz_alen, tz_new, tz_newa, tz_oinit, tz_iret, tz_zret, tz_lret, tz_dret, tz_aret, tz_vret, tz_throw, tz_callS, tz_callV, tz_callI, tz_callR, tz_pureS, tz_pureV, tz_callVH, lg, lset, lkill, lst1, lst2, entL, isRf, is1, vl, va_rf_none, va_rf_some, isRf_rf, is1_rf, i0, i1, bI_eq0, bI_eq1, nm_em, nI_eqP, nI_leP, nI_ltP, nN_e1, nN_e2, nN_l1, nN_l2, nN_l3, nN_l4, nI_add, pk_mul, vp_inN, nI_cl, n01, n10, P_i, P_ii, P_iii, f_Mo_at, f_Mo_map, f_Mo_contact, f_Mo_within, f_Mo_isPort, f_Hp_endpoint, f_Hp_nodeOf, f_Hp_portOf, f_Ma_max, f_Ma_min, f_Hp_isSetting, popN, rok, a1, noX, swc, mL, if_true, if_false, ↓reduceIte, cond_true, cond_false, true_and, and_true, List.length_cons, List.length_nil, List.nil_append, List.cons_append, List.append_nil, Option.toList, Nat.reduceEqDiff, Bool.false_eq_true, reduceCtorEq, Nat.reduceAdd, Nat.reduceLT, Nat.reduceLeDiff, Nat.reduceSub, List.replicate, Nat.zero_add, Nat.lt_add_one, Nat.le_refl, Nat.zero_le, Nat.succ_ne_zero, not_false_eq_true, not_true_eq_false, false_implies, true_implies, forall_const, imp_self, true_or, or_true, eq_self, k_Hp_isSetting]; try clear hgo9 hW9)
      have e : (w = nI 0 ∧ nI 1 ≤ v ∧ v ≤ nI 9 ∨ w = nI 1 ∧ nI 1 ≤ v ∧ v ≤ nI 1000 ∨ (w = nI 2 ∨ w = nI 3) ∧ nI 0 ≤ v ∧ v ≤ nI 1) = (nI 1 ≤ v ∧ v ≤ nI 1000) := by
        subst c2; simp [show ¬ (nI 1 = nI 0) by decide, show ¬ (nI 1 = nI 2) by decide, show ¬ (nI 1 = nI 3) by decide]
      rwa [e] at hQ
    · (obtain ⟨W9, hW9, hgo9⟩ := wp_ex (T_Hp_isSetting l G) [] _; refine hgo9 200 _ _ _ _ ?_; simp -implicitDefEqProofs (disch := omega) only [hW9, inl, gate, Xq, tz_const, tz_iload, tz_lload, tz_dload, tz_aload, tz_istore, tz_astore, tz_lstore, tz_dstore, tz_iinc, tz_i1, tz_i2, tz_i2z, tz_l2, tz_l2z, tz_i2l, tz_l2i, tz_lcmp, tz_i2d, tz_d2, tz_dcmp, tz_dup, tz_dup2, tz_pop, tz_if, tz_icmp, tz_null, tz_goto, tz_sw, tz_getf, tz_puti, tz_putz, tz_putr, tz_putl, tz_iaload, tz_baload, tz_laload, tz_aaload, tz_iastore, tz_bastore, tz_lastore, tz_aastore, tz_alen, tz_new, tz_newa, tz_oinit, tz_iret, tz_zret, tz_lret, tz_dret, tz_aret, tz_vret, tz_throw, tz_callS, tz_callV, tz_callI, tz_callR, tz_pureS, tz_pureV, tz_callVH, lg, lset, lkill, lst1, lst2, entL, isRf, is1, vl, va_rf_none, va_rf_some, isRf_rf, is1_rf, i0, i1, bI_eq0, bI_eq1, nm_em, nI_eqP, nI_leP, nI_ltP, nN_e1, nN_e2, nN_l1, nN_l2, nN_l3, nN_l4, nI_add, pk_mul, vp_inN, nI_cl, n01, n10, P_i, P_ii, P_iii, f_Mo_at, f_Mo_map, f_Mo_contact, f_Mo_within, f_Mo_isPort, f_Hp_endpoint, f_Hp_nodeOf, f_Hp_portOf, f_Ma_max, f_Ma_min, f_Hp_isSetting, popN, rok, a1, noX, swc, mL, if_true, if_false, ↓reduceIte, cond_true, cond_false, true_and, and_true, List.length_cons, List.length_nil, List.nil_append, List.cons_append, List.append_nil, Option.toList, Nat.reduceEqDiff, Bool.false_eq_true, reduceCtorEq, Nat.reduceAdd, Nat.reduceLT, Nat.reduceLeDiff, Nat.reduceSub, List.replicate, Nat.zero_add, Nat.lt_add_one, Nat.le_refl, Nat.zero_le, Nat.succ_ne_zero, not_false_eq_true, not_true_eq_false, false_implies, true_implies, forall_const, imp_self, true_or, or_true, eq_self, k_Hp_isSetting]; try clear hgo9 hW9)
      have e : (w = nI 0 ∧ nI 1 ≤ v ∧ v ≤ nI 9 ∨ w = nI 1 ∧ nI 1 ≤ v ∧ v ≤ nI 1000 ∨ (w = nI 2 ∨ w = nI 3) ∧ nI 0 ≤ v ∧ v ≤ nI 1) = (nI 0 ≤ v ∧ v ≤ nI 1) := by
        simp [c3, show ¬ nI 2 = nI 0 by decide, show ¬ nI 2 = nI 1 by decide]
      rwa [e] at hQ
    · (obtain ⟨W9, hW9, hgo9⟩ := wp_ex (T_Hp_isSetting l G) [] _; refine hgo9 200 _ _ _ _ ?_; simp -implicitDefEqProofs (disch := omega) only [hW9, inl, gate, Xq, tz_const, tz_iload, tz_lload, tz_dload, tz_aload, tz_istore, tz_astore, tz_lstore, tz_dstore, tz_iinc, tz_i1, tz_i2, tz_i2z, tz_l2, tz_l2z, tz_i2l, tz_l2i, tz_lcmp, tz_i2d, tz_d2, tz_dcmp, tz_dup, tz_dup2, tz_pop, tz_if, tz_icmp, tz_null, tz_goto, tz_sw, tz_getf, tz_puti, tz_putz, tz_putr, tz_putl, tz_iaload, tz_baload, tz_laload, tz_aaload, tz_iastore, tz_bastore, tz_lastore, tz_aastore, tz_alen, tz_new, tz_newa, tz_oinit, tz_iret, tz_zret, tz_lret, tz_dret, tz_aret, tz_vret, tz_throw, tz_callS, tz_callV, tz_callI, tz_callR, tz_pureS, tz_pureV, tz_callVH, lg, lset, lkill, lst1, lst2, entL, isRf, is1, vl, va_rf_none, va_rf_some, isRf_rf, is1_rf, i0, i1, bI_eq0, bI_eq1, nm_em, nI_eqP, nI_leP, nI_ltP, nN_e1, nN_e2, nN_l1, nN_l2, nN_l3, nN_l4, nI_add, pk_mul, vp_inN, nI_cl, n01, n10, P_i, P_ii, P_iii, f_Mo_at, f_Mo_map, f_Mo_contact, f_Mo_within, f_Mo_isPort, f_Hp_endpoint, f_Hp_nodeOf, f_Hp_portOf, f_Ma_max, f_Ma_min, f_Hp_isSetting, popN, rok, a1, noX, swc, mL, if_true, if_false, ↓reduceIte, cond_true, cond_false, true_and, and_true, List.length_cons, List.length_nil, List.nil_append, List.cons_append, List.append_nil, Option.toList, Nat.reduceEqDiff, Bool.false_eq_true, reduceCtorEq, Nat.reduceAdd, Nat.reduceLT, Nat.reduceLeDiff, Nat.reduceSub, List.replicate, Nat.zero_add, Nat.lt_add_one, Nat.le_refl, Nat.zero_le, Nat.succ_ne_zero, not_false_eq_true, not_true_eq_false, false_implies, true_implies, forall_const, imp_self, true_or, or_true, eq_self, k_Hp_isSetting]; try clear hgo9 hW9)
      have e : (w = nI 0 ∧ nI 1 ≤ v ∧ v ≤ nI 9 ∨ w = nI 1 ∧ nI 1 ≤ v ∧ v ≤ nI 1000 ∨ (w = nI 2 ∨ w = nI 3) ∧ nI 0 ≤ v ∧ v ≤ nI 1) = (nI 0 ≤ v ∧ v ≤ nI 1) := by
        simp [c4, show ¬ nI 3 = nI 0 by decide, show ¬ nI 3 = nI 1 by decide]
      rwa [e] at hQ
    · (obtain ⟨W9, hW9, hgo9⟩ := wp_ex (T_Hp_isSetting l G) [] _; refine hgo9 200 _ _ _ _ ?_; simp -implicitDefEqProofs (disch := omega) only [hW9, inl, gate, Xq, tz_const, tz_iload, tz_lload, tz_dload, tz_aload, tz_istore, tz_astore, tz_lstore, tz_dstore, tz_iinc, tz_i1, tz_i2, tz_i2z, tz_l2, tz_l2z, tz_i2l, tz_l2i, tz_lcmp, tz_i2d, tz_d2, tz_dcmp, tz_dup, tz_dup2, tz_pop, tz_if, tz_icmp, tz_null, tz_goto, tz_sw, tz_getf, tz_puti, tz_putz, tz_putr, tz_putl, tz_iaload, tz_baload, tz_laload, tz_aaload, tz_iastore, tz_bastore, tz_lastore, tz_aastore, tz_alen, tz_new, tz_newa, tz_oinit, tz_iret, tz_zret, tz_lret, tz_dret, tz_aret, tz_vret, tz_throw, tz_callS, tz_callV, tz_callI, tz_callR, tz_pureS, tz_pureV, tz_callVH, lg, lset, lkill, lst1, lst2, entL, isRf, is1, vl, va_rf_none, va_rf_some, isRf_rf, is1_rf, i0, i1, bI_eq0, bI_eq1, nm_em, nI_eqP, nI_leP, nI_ltP, nN_e1, nN_e2, nN_l1, nN_l2, nN_l3, nN_l4, nI_add, pk_mul, vp_inN, nI_cl, n01, n10, P_i, P_ii, P_iii, f_Mo_at, f_Mo_map, f_Mo_contact, f_Mo_within, f_Mo_isPort, f_Hp_endpoint, f_Hp_nodeOf, f_Hp_portOf, f_Ma_max, f_Ma_min, f_Hp_isSetting, popN, rok, a1, noX, swc, mL, if_true, if_false, ↓reduceIte, cond_true, cond_false, true_and, and_true, List.length_cons, List.length_nil, List.nil_append, List.cons_append, List.append_nil, Option.toList, Nat.reduceEqDiff, Bool.false_eq_true, reduceCtorEq, Nat.reduceAdd, Nat.reduceLT, Nat.reduceLeDiff, Nat.reduceSub, List.replicate, Nat.zero_add, Nat.lt_add_one, Nat.le_refl, Nat.zero_le, Nat.succ_ne_zero, not_false_eq_true, not_true_eq_false, false_implies, true_implies, forall_const, imp_self, true_or, or_true, eq_self, k_Hp_isSetting]; try clear hgo9 hW9)
      rwa [bI_f (by simp [c, c2, c3, c4])] at hQ
end
