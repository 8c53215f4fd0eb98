def k_Nw_hostAt (l : Launch) (G : Gc) (pc : Nat) : Tr :=
  if pc < 10 then
   if pc < 5 then
    if pc < 1 then
     if pc = 0 then tz_aload 1 0 else dead
    else
     if pc < 2 then
      if pc = 1 then tz_iload 2 1 else dead
     else
      if pc = 2 then tz_pureV 5 1 1 P_Nw_nodeAt f_Nw_nodeAt else dead
   else
    if pc < 6 then
     if pc = 5 then tz_astore 6 2 else dead
    else
     if pc < 7 then
      if pc = 6 then tz_aload 7 2 else dead
     else
      if pc = 7 then tz_null 21 10 else dead
  else
   if pc < 17 then
    if pc < 11 then
     if pc = 10 then tz_aload 11 2 else dead
    else
     if pc < 14 then
      if pc = 11 then tz_getf 14 3 0 0 else dead
     else
      if pc = 14 then tz_if 17 21 (fun a => a = 0) else dead
   else
    if pc < 21 then
     if pc < 18 then
      if pc = 17 then tz_aload 18 2 else dead
     else
      if pc = 18 then tz_goto 22 else dead
    else
     if pc < 22 then
      if pc = 21 then tz_const 22 .null else dead
     else
      if pc = 22 then tz_aret else dead
set_option maxRecDepth 100000 in
theorem T_Nw_hostAt (l : Launch) (G : Gc) : TabOK l G M_Nw_hostAt (k_Nw_hostAt l G) := by
  intro pc
  unfold k_Nw_hostAt
  exact
   (sd_br
    (sd_br
     (sd_br
      (sd_lf (sd_aload_n (k := 0) (by decide +kernel : decode prog_3_method_6_code 0 = .ok (.aload_n 0, 1))))
      (sd_br
       (sd_lf (sd_iload_n (k := 1) (by decide +kernel : decode prog_3_method_6_code 1 = .ok (.iload_n 1, 1))))
       (sd_lf (sd_pureV (sd_callV (q := (RX1, TX1, 6)) (by decide +kernel : decode prog_3_method_6_code 2 = .ok (.invokevirtual 34, 3)) ok_Nw_nodeAt (gm 192 (by decide +kernel) rfl) (gm 193 (by decide +kernel) rfl) (gm 194 (by decide +kernel) rfl) rfl rfl (by decide +kernel) rfl rfl) c_Nw_nodeAt))))
     (sd_br
      (sd_lf (sd_astore_n (k := 2) (by decide +kernel : decode prog_3_method_6_code 5 = .ok (.astore_n 2, 1))))
      (sd_br
       (sd_lf (sd_aload_n (k := 2) (by decide +kernel : decode prog_3_method_6_code 6 = .ok (.aload_n 2, 1))))
       (sd_lf (sd_ifnull (by decide +kernel : decode prog_3_method_6_code 7 = .ok (.ifnull 14, 3)) (by decide +kernel))))))
    (sd_br
     (sd_br
      (sd_lf (sd_aload_n (k := 2) (by decide +kernel : decode prog_3_method_6_code 10 = .ok (.aload_n 2, 1))))
      (sd_br
       (sd_lf (sd_getf (q := (RX3, TX3, 5)) (by decide +kernel : decode prog_3_method_6_code 11 = .ok (.getfield 46, 3)) rfl (by decide +kernel) (gm 206 (by decide +kernel) rfl)))
       (sd_lf (sd_if_eq (by decide +kernel : decode prog_3_method_6_code 14 = .ok (.ifCond .eq 7, 3)) (by decide +kernel)))))
     (sd_br
      (sd_br
       (sd_lf (sd_aload_n (k := 2) (by decide +kernel : decode prog_3_method_6_code 17 = .ok (.aload_n 2, 1))))
       (sd_lf (sd_goto (by decide +kernel : decode prog_3_method_6_code 18 = .ok (.goto 4, 3)) (by decide +kernel))))
      (sd_br
       (sd_lf (sd_null (by decide +kernel : decode prog_3_method_6_code 21 = .ok (.aconst_null, 1))))
       (sd_lf (sd_aret (by decide +kernel : decode prog_3_method_6_code 22 = .ok (.areturn, 1)) rfl (Or.inl ⟨_, rfl⟩)))))))
def k_Nw_translatorAt (l : Launch) (G : Gc) (pc : Nat) : Tr :=
  if pc < 11 then
   if pc < 5 then
    if pc < 1 then
     if pc = 0 then tz_aload 1 0 else dead
    else
     if pc < 2 then
      if pc = 1 then tz_iload 2 1 else dead
     else
      if pc = 2 then tz_pureV 5 1 1 P_Nw_nodeAt f_Nw_nodeAt else dead
   else
    if pc < 7 then
     if pc < 6 then
      if pc = 5 then tz_astore 6 2 else dead
     else
      if pc = 6 then tz_aload 7 2 else dead
    else
     if pc < 10 then
      if pc = 7 then tz_null 17 10 else dead
     else
      if pc = 10 then tz_aload 11 2 else dead
  else
   if pc < 18 then
    if pc < 14 then
     if pc = 11 then tz_getf 14 3 0 0 else dead
    else
     if pc < 17 then
      if pc = 14 then tz_if 17 21 (fun a => a = 0) else dead
     else
      if pc = 17 then tz_const 18 .null else dead
   else
    if pc < 22 then
     if pc < 21 then
      if pc = 18 then tz_goto 25 else dead
     else
      if pc = 21 then tz_aload 22 2 else dead
    else
     if pc < 25 then
      if pc = 22 then tz_getf 25 3 4 1 else dead
     else
      if pc = 25 then tz_aret else dead
set_option maxRecDepth 100000 in
theorem T_Nw_translatorAt (l : Launch) (G : Gc) : TabOK l G M_Nw_translatorAt (k_Nw_translatorAt l G) := by
  intro pc
  unfold k_Nw_translatorAt
  exact
   (sd_br
    (sd_br
     (sd_br
      (sd_lf (sd_aload_n (k := 0) (by decide +kernel : decode prog_3_method_7_code 0 = .ok (.aload_n 0, 1))))
      (sd_br
       (sd_lf (sd_iload_n (k := 1) (by decide +kernel : decode prog_3_method_7_code 1 = .ok (.iload_n 1, 1))))
       (sd_lf (sd_pureV (sd_callV (q := (RX1, TX1, 6)) (by decide +kernel : decode prog_3_method_7_code 2 = .ok (.invokevirtual 34, 3)) ok_Nw_nodeAt (gm 192 (by decide +kernel) rfl) (gm 193 (by decide +kernel) rfl) (gm 194 (by decide +kernel) rfl) rfl rfl (by decide +kernel) rfl rfl) c_Nw_nodeAt))))
     (sd_br
      (sd_br
       (sd_lf (sd_astore_n (k := 2) (by decide +kernel : decode prog_3_method_7_code 5 = .ok (.astore_n 2, 1))))
       (sd_lf (sd_aload_n (k := 2) (by decide +kernel : decode prog_3_method_7_code 6 = .ok (.aload_n 2, 1)))))
      (sd_br
       (sd_lf (sd_ifnull (by decide +kernel : decode prog_3_method_7_code 7 = .ok (.ifnull 10, 3)) (by decide +kernel)))
       (sd_lf (sd_aload_n (k := 2) (by decide +kernel : decode prog_3_method_7_code 10 = .ok (.aload_n 2, 1)))))))
    (sd_br
     (sd_br
      (sd_lf (sd_getf (q := (RX3, TX3, 5)) (by decide +kernel : decode prog_3_method_7_code 11 = .ok (.getfield 46, 3)) rfl (by decide +kernel) (gm 206 (by decide +kernel) rfl)))
      (sd_br
       (sd_lf (sd_if_eq (by decide +kernel : decode prog_3_method_7_code 14 = .ok (.ifCond .eq 7, 3)) (by decide +kernel)))
       (sd_lf (sd_null (by decide +kernel : decode prog_3_method_7_code 17 = .ok (.aconst_null, 1))))))
     (sd_br
      (sd_br
       (sd_lf (sd_goto (by decide +kernel : decode prog_3_method_7_code 18 = .ok (.goto 7, 3)) (by decide +kernel)))
       (sd_lf (sd_aload_n (k := 2) (by decide +kernel : decode prog_3_method_7_code 21 = .ok (.aload_n 2, 1)))))
      (sd_br
       (sd_lf (sd_getf (q := (RX3, TX3, 5)) (by decide +kernel : decode prog_3_method_7_code 22 = .ok (.getfield 50, 3)) rfl (by decide +kernel) (gm 216 (by decide +kernel) rfl)))
       (sd_lf (sd_aret (by decide +kernel : decode prog_3_method_7_code 25 = .ok (.areturn, 1)) rfl (Or.inl ⟨_, rfl⟩)))))))
def k_Nw_netOf (l : Launch) (G : Gc) (pc : Nat) : Tr :=
  if pc < 7 then
   if pc < 2 then
    if pc < 1 then
     if pc = 0 then tz_aload 1 0 else dead
    else
     if pc = 1 then tz_iload 2 1 else dead
   else
    if pc < 5 then
     if pc = 2 then tz_pureV 5 1 1 P_Nw_nodeAt f_Nw_nodeAt else dead
    else
     if pc < 6 then
      if pc = 5 then tz_astore 6 2 else dead
     else
      if pc = 6 then tz_aload 7 2 else dead
  else
   if pc < 14 then
    if pc < 10 then
     if pc = 7 then tz_null 10 14 else dead
    else
     if pc < 11 then
      if pc = 10 then tz_const 11 (.int (nN)) else dead
     else
      if pc = 11 then tz_goto 18 else dead
   else
    if pc < 15 then
     if pc = 14 then tz_aload 15 2 else dead
    else
     if pc < 18 then
      if pc = 15 then tz_getf 18 3 1 0 else dead
     else
      if pc = 18 then tz_iret else dead
set_option maxRecDepth 100000 in
theorem T_Nw_netOf (l : Launch) (G : Gc) : TabOK l G M_Nw_netOf (k_Nw_netOf l G) := by
  intro pc
  unfold k_Nw_netOf
  exact
   (sd_br
    (sd_br
     (sd_br
      (sd_lf (sd_aload_n (k := 0) (by decide +kernel : decode prog_3_method_8_code 0 = .ok (.aload_n 0, 1))))
      (sd_lf (sd_iload_n (k := 1) (by decide +kernel : decode prog_3_method_8_code 1 = .ok (.iload_n 1, 1)))))
     (sd_br
      (sd_lf (sd_pureV (sd_callV (q := (RX1, TX1, 6)) (by decide +kernel : decode prog_3_method_8_code 2 = .ok (.invokevirtual 34, 3)) ok_Nw_nodeAt (gm 192 (by decide +kernel) rfl) (gm 193 (by decide +kernel) rfl) (gm 194 (by decide +kernel) rfl) rfl rfl (by decide +kernel) rfl rfl) c_Nw_nodeAt))
      (sd_br
       (sd_lf (sd_astore_n (k := 2) (by decide +kernel : decode prog_3_method_8_code 5 = .ok (.astore_n 2, 1))))
       (sd_lf (sd_aload_n (k := 2) (by decide +kernel : decode prog_3_method_8_code 6 = .ok (.aload_n 2, 1)))))))
    (sd_br
     (sd_br
      (sd_lf (sd_ifnonnull (by decide +kernel : decode prog_3_method_8_code 7 = .ok (.ifnonnull 7, 3)) (by decide +kernel)))
      (sd_br
       (sd_lf (sd_iconst (by decide +kernel : decode prog_3_method_8_code 10 = .ok (.iconst (-1), 1)) (by decide +kernel)))
       (sd_lf (sd_goto (by decide +kernel : decode prog_3_method_8_code 11 = .ok (.goto 7, 3)) (by decide +kernel)))))
     (sd_br
      (sd_lf (sd_aload_n (k := 2) (by decide +kernel : decode prog_3_method_8_code 14 = .ok (.aload_n 2, 1))))
      (sd_br
       (sd_lf (sd_getf (q := (RX3, TX3, 5)) (by decide +kernel : decode prog_3_method_8_code 15 = .ok (.getfield 54, 3)) rfl (by decide +kernel) (gm 208 (by decide +kernel) rfl)))
       (sd_lf (sd_iret (by decide +kernel : decode prog_3_method_8_code 18 = .ok (.ireturn, 1)) rfl))))))
/-- what nodeAt finds is a node -/
def NdK (h : AH) (nw : Nat) (x : Int32) : Prop := NwK h nw ∧ ∀ n, ndF h nw x = some n → tg h n = 3
def P_Nw_hostAt : List Value → AH → Prop
  | [.ref nw, .int x], h => NdK h nw x
  | _, _ => False
def P_Nw_translatorAt := P_Nw_hostAt
def P_Nw_netOf := P_Nw_hostAt
def hoF (h : AH) (nw : Nat) (x : Int32) : Option Nat := match ndF h nw x with
  | none => none
  | some n => if hI h n 0 = nI 0 then none else some n
def trF (h : AH) (nw : Nat) (x : Int32) : Option Nat := match ndF h nw x with
  | none => none
  | some n => if hI h n 0 = nI 0 then hR h n 4 else none
def neF (h : AH) (nw : Nat) (x : Int32) : Int32 := match ndF h nw x with
  | none => nN
  | some n => hI h n 1
def f_Nw_hostAt : List Value → AH → Value
  | [.ref nw, .int x], h => va_rf (hoF h nw x)
  | _, _ => .null
def f_Nw_translatorAt : List Value → AH → Value
  | [.ref nw, .int x], h => va_rf (trF h nw x)
  | _, _ => .null
def f_Nw_netOf : List Value → AH → Value
  | [.ref nw, .int x], h => .int (neF h nw x)
  | _, _ => .null
section
variable {l : Launch} {G : Gc}
theorem c_Nw_hostAt (a : Nat) (as : List Value) (h : AH) (Q : Po) (hl : as.length = 1) (ht : tg h a = 1) (hP : P_Nw_hostAt (.ref a :: as) h) (hQ : Q (.inl (some (f_Nw_hostAt (.ref a :: as) h))) h) : Call l G M_Nw_hostAt (.ref a :: as) h Q := by
  match as, hP, hQ with
  | [.int x], hP, hQ =>
    obtain ⟨h1, h2⟩ := hP
    simp only [f_Nw_hostAt, hoF] at hQ
    have hPn : P_Nw_nodeAt [.ref a, .int x] h := h1
    refine call_of rfl rfl (Nat.le_of_ble_eq_true rfl) ?_
    cases e : ndF h a x with
    | none =>
      rw [e] at hQ
      ((obtain ⟨W9, hW9, hgo9⟩ := wp_ex (T_Nw_hostAt l G) [] _; refine hgo9 200 _ _ _ _ ?_; simp -implicitDefEqProofs (disch := omega) only [hW9, inl, gate, Xq, tz_const, tz_iload, tz_lload, tz_dload, tz_aload, tz_istore, tz_astore, tz_lstore, tz_dstore, tz_iinc, tz_i1, tz_i2, tz_i2z, tz_l2, tz_l2z, tz_i2l, tz_l2i, tz_lcmp, tz_i2d, tz_d2, tz_dcmp, tz_dup, tz_dup2, tz_pop, tz_if, tz_icmp, tz_null, tz_goto, tz_sw, tz_getf, tz_puti, tz_putz, tz_putr, tz_putl, tz_iaload, tz_baload, tz_laload, tz_aaload, tz_iastore, tz_bastore, tz_lastore, tz_aastore, tz_alen, tz_new, tz_newa, tz_oinit, tz_iret, tz_zret, tz_lret, tz_dret, tz_aret, tz_vret, tz_throw, tz_callS, tz_callV, tz_callI, tz_callR, tz_pureS, tz_pureV, tz_callVH, lg, lset, lkill, lst1, lst2, entL, isRf, is1, vl, va_rf_none, va_rf_some, isRf_rf, is1_rf, i0, i1, bI_eq0, bI_eq1, nm_em, nI_eqP, nI_leP, nI_ltP, nN_e1, nN_e2, nN_l1, nN_l2, nN_l3, nN_l4, nI_add, pk_mul, vp_inN, nI_cl, n01, n10, P_i, P_ii, P_iii, f_Mo_at, f_Mo_map, f_Mo_contact, f_Mo_within, f_Mo_isPort, f_Hp_endpoint, f_Hp_nodeOf, f_Hp_portOf, f_Ma_max, f_Ma_min, f_Hp_isSetting, popN, rok, a1, noX, swc, mL, if_true, if_false, ↓reduceIte, cond_true, cond_false, true_and, and_true, List.length_cons, List.length_nil, List.nil_append, List.cons_append, List.append_nil, Option.toList, Nat.reduceEqDiff, Bool.false_eq_true, reduceCtorEq, Nat.reduceAdd, Nat.reduceLT, Nat.reduceLeDiff, Nat.reduceSub, List.replicate, Nat.zero_add, Nat.lt_add_one, Nat.le_refl, Nat.zero_le, Nat.succ_ne_zero, not_false_eq_true, not_true_eq_false, false_implies, true_implies, forall_const, imp_self, true_or, or_true, eq_self, sI_zw, zw_zw, hI_zw, tg_zw, ln_zw, hR_zw, hL_zw, hN_zw, hM_zw, upd_s, upd_u, upd_ne, Classical.not_not, k_Nw_hostAt, ht, hPn, f_Nw_nodeAt, e]; try clear hgo9 hW9); try (obtain ⟨W9, hW9, hgo9⟩ := wp_ex (T_Nw_hostAt l G) [] _; refine hgo9 200 _ _ _ _ ?_; simp -implicitDefEqProofs (disch := omega) only [hW9, inl, gate, Xq, tz_const, tz_iload, tz_lload, tz_dload, tz_aload, tz_istore, tz_astore, tz_lstore, tz_dstore, tz_iinc, tz_i1, tz_i2, tz_i2z, tz_l2, tz_l2z, tz_i2l, tz_l2i, tz_lcmp, tz_i2d, tz_d2, tz_dcmp, tz_dup, tz_dup2, tz_pop, tz_if, tz_icmp, tz_null, tz_goto, tz_sw, tz_getf, tz_puti, tz_putz, tz_putr, tz_putl, tz_iaload, tz_baload, tz_laload, tz_aaload, tz_iastore, tz_bastore, tz_lastore, tz_aastore, tz_alen, tz_new, tz_newa, tz_oinit, tz_iret, tz_zret, tz_lret, tz_dret, tz_aret, tz_vret, tz_throw, tz_callS, tz_callV, tz_callI, tz_callR, tz_pureS, tz_pureV, tz_callVH, lg, lset, lkill, lst1, lst2, entL, isRf, is1, vl, va_rf_none, va_rf_some, isRf_rf, is1_rf, i0, i1, bI_eq0, bI_eq1, nm_em, nI_eqP, nI_leP, nI_ltP, nN_e1, nN_e2, nN_l1, nN_l2, nN_l3, nN_l4, nI_add, pk_mul, vp_inN, nI_cl, n01, n10, P_i, P_ii, P_iii, f_Mo_at, f_Mo_map, f_Mo_contact, f_Mo_within, f_Mo_isPort, f_Hp_endpoint, f_Hp_nodeOf, f_Hp_portOf, f_Ma_max, f_Ma_min, f_Hp_isSetting, popN, rok, a1, noX, swc, mL, if_true, if_false, ↓reduceIte, cond_true, cond_false, true_and, and_true, List.length_cons, List.length_nil, List.nil_append, List.cons_append, List.append_nil, Option.toList, Nat.reduceEqDiff, Bool.false_eq_true, reduceCtorEq, Nat.reduceAdd, Nat.reduceLT, Nat.reduceLeDiff, Nat.reduceSub, List.replicate, Nat.zero_add, Nat.lt_add_one, Nat.le_refl, Nat.zero_le, Nat.succ_ne_zero, not_false_eq_true, not_true_eq_false, false_implies, true_implies, forall_const, imp_self, true_or, or_true, eq_self, sI_zw, zw_zw, hI_zw, tg_zw, ln_zw, hR_zw, hL_zw, hN_zw, hM_zw, upd_s, upd_u, upd_ne, Classical.not_not, k_Nw_hostAt, ht, hPn, f_Nw_nodeAt, e]; try clear hgo9 hW9))
      exact hQ
    | some n =>
      have h3 := h2 n e
      rw [e] at hQ
      simp only [] at hQ
      (obtain ⟨W9, hW9, hgo9⟩ := wp_ex (T_Nw_hostAt l G) [] _; refine hgo9 200 _ _ _ _ ?_; simp -implicitDefEqProofs (disch := omega) only [hW9, inl, gate, Xq, tz_const, tz_iload, tz_lload, tz_dload, tz_aload, tz_istore, tz_astore, tz_lstore, tz_dstore, tz_iinc, tz_i1, tz_i2, tz_i2z, tz_l2, tz_l2z, tz_i2l, tz_l2i, tz_lcmp, tz_i2d, tz_d2, tz_dcmp, tz_dup, tz_dup2, tz_pop, tz_if, tz_icmp, tz_null, tz_goto, tz_sw, tz_getf, tz_puti, tz_putz, tz_putr, tz_putl, tz_iaload, tz_baload, tz_laload, tz_aaload, tz_iastore, tz_bastore, tz_lastore, tz_aastore, tz_alen, tz_new, tz_newa, tz_oinit, tz_iret, tz_zret, tz_lret, tz_dret, tz_aret, tz_vret, tz_throw, tz_callS, tz_callV, tz_callI, tz_callR, tz_pureS, tz_pureV, tz_callVH, lg, lset, lkill, lst1, lst2, entL, isRf, is1, vl, va_rf_none, va_rf_some, isRf_rf, is1_rf, i0, i1, bI_eq0, bI_eq1, nm_em, nI_eqP, nI_leP, nI_ltP, nN_e1, nN_e2, nN_l1, nN_l2, nN_l3, nN_l4, nI_add, pk_mul, vp_inN, nI_cl, n01, n10, P_i, P_ii, P_iii, f_Mo_at, f_Mo_map, f_Mo_contact, f_Mo_within, f_Mo_isPort, f_Hp_endpoint, f_Hp_nodeOf, f_Hp_portOf, f_Ma_max, f_Ma_min, f_Hp_isSetting, popN, rok, a1, noX, swc, mL, if_true, if_false, ↓reduceIte, cond_true, cond_false, true_and, and_true, List.length_cons, List.length_nil, List.nil_append, List.cons_append, List.append_nil, Option.toList, Nat.reduceEqDiff, Bool.false_eq_true, reduceCtorEq, Nat.reduceAdd, Nat.reduceLT, Nat.reduceLeDiff, Nat.reduceSub, List.replicate, Nat.zero_add, Nat.lt_add_one, Nat.le_refl, Nat.zero_le, Nat.succ_ne_zero, not_false_eq_true, not_true_eq_false, false_implies, true_implies, forall_const, imp_self, true_or, or_true, eq_self, sI_zw, zw_zw, hI_zw, tg_zw, ln_zw, hR_zw, hL_zw, hN_zw, hM_zw, upd_s, upd_u, upd_ne, Classical.not_not, k_Nw_hostAt, ht, hPn, f_Nw_nodeAt, e, h3]; try clear hgo9 hW9)
      refine ⟨fun c => ?_, fun c => ?_⟩
      · rw [if_pos c] at hQ
        (obtain ⟨W9, hW9, hgo9⟩ := wp_ex (T_Nw_hostAt l G) [] _; refine hgo9 200 _ _ _ _ ?_; simp -implicitDefEqProofs (disch := omega) only [hW9, inl, gate, Xq, tz_const, tz_iload, tz_lload, tz_dload, tz_aload, tz_istore, tz_astore, tz_lstore, tz_dstore, tz_iinc, tz_i1, tz_i2, tz_i2z, tz_l2, tz_l2z, tz_i2l, tz_l2i, tz_lcmp, tz_i2d, tz_d2, tz_dcmp, tz_dup, tz_dup2, tz_pop, tz_if, tz_icmp, tz_null, tz_goto, tz_sw, tz_getf, tz_puti, tz_putz, tz_putr, tz_putl, tz_iaload, tz_baload, tz_laload, tz_aaload, tz_iastore, tz_bastore, tz_lastore, tz_aastore, tz_alen, tz_new, tz_newa, tz_oinit, tz_iret, tz_zret, tz_lret, tz_dret, tz_aret, tz_vret, tz_throw, tz_callS, tz_callV, tz_callI, tz_callR, tz_pureS, tz_pureV, tz_callVH, lg, lset, lkill, lst1, lst2, entL, isRf, is1, vl, va_rf_none, va_rf_some, isRf_rf, is1_rf, i0, i1, bI_eq0, bI_eq1, nm_em, nI_eqP, nI_leP, nI_ltP, nN_e1, nN_e2, nN_l1, nN_l2, nN_l3, nN_l4, nI_add, pk_mul, vp_inN, nI_cl, n01, n10, P_i, P_ii, P_iii, f_Mo_at, f_Mo_map, f_Mo_contact, f_Mo_within, f_Mo_isPort, f_Hp_endpoint, f_Hp_nodeOf, f_Hp_portOf, f_Ma_max, f_Ma_min, f_Hp_isSetting, popN, rok, a1, noX, swc, mL, if_true, if_false, ↓reduceIte, cond_true, cond_false, true_and, and_true, List.length_cons, List.length_nil, List.nil_append, List.cons_append, List.append_nil, Option.toList, Nat.reduceEqDiff, Bool.false_eq_true, reduceCtorEq, Nat.reduceAdd, Nat.reduceLT, Nat.reduceLeDiff, Nat.reduceSub, List.replicate, Nat.zero_add, Nat.lt_add_one, Nat.le_refl, Nat.zero_le, Nat.succ_ne_zero, not_false_eq_true, not_true_eq_false, false_implies, true_implies, forall_const, imp_self, true_or, or_true, eq_self, sI_zw, zw_zw, hI_zw, tg_zw, ln_zw, hR_zw, hL_zw, hN_zw, hM_zw, upd_s, upd_u, upd_ne, Classical.not_not, k_Nw_hostAt, ht]; try clear hgo9 hW9)
        exact hQ
      · rw [if_neg c] at hQ
        (obtain ⟨W9, hW9, hgo9⟩ := wp_ex (T_Nw_hostAt l G) [] _; refine hgo9 200 _ _ _ _ ?_; simp -implicitDefEqProofs (disch := omega) only [hW9, inl, gate, Xq, tz_const, tz_iload, tz_lload, tz_dload, tz_aload, tz_istore, tz_astore, tz_lstore, tz_dstore, tz_iinc, tz_i1, tz_i2, tz_i2z, tz_l2, tz_l2z, tz_i2l, tz_l2i, tz_lcmp, tz_i2d, tz_d2, tz_dcmp, tz_dup, tz_dup2, tz_pop, tz_if, tz_icmp, tz_null, tz_goto, tz_sw, tz_getf, tz_puti, tz_putz, tz_putr, tz_putl, tz_iaload, tz_baload, tz_laload, tz_aaload, tz_iastore, tz_bastore, tz_lastore, tz_aastore, tz_alen, tz_new, tz_newa, tz_oinit, tz_iret, tz_zret, tz_lret, tz_dret, tz_aret, tz_vret, tz_throw, tz_callS, tz_callV, tz_callI, tz_callR, tz_pureS, tz_pureV, tz_callVH, lg, lset, lkill, lst1, lst2, entL, isRf, is1, vl, va_rf_none, va_rf_some, isRf_rf, is1_rf, i0, i1, bI_eq0, bI_eq1, nm_em, nI_eqP, nI_leP, nI_ltP, nN_e1, nN_e2, nN_l1, nN_l2, nN_l3, nN_l4, nI_add, pk_mul, vp_inN, nI_cl, n01, n10, P_i, P_ii, P_iii, f_Mo_at, f_Mo_map, f_Mo_contact, f_Mo_within, f_Mo_isPort, f_Hp_endpoint, f_Hp_nodeOf, f_Hp_portOf, f_Ma_max, f_Ma_min, f_Hp_isSetting, popN, rok, a1, noX, swc, mL, if_true, if_false, ↓reduceIte, cond_true, cond_false, true_and, and_true, List.length_cons, List.length_nil, List.nil_append, List.cons_append, List.append_nil, Option.toList, Nat.reduceEqDiff, Bool.false_eq_true, reduceCtorEq, Nat.reduceAdd, Nat.reduceLT, Nat.reduceLeDiff, Nat.reduceSub, List.replicate, Nat.zero_add, Nat.lt_add_one, Nat.le_refl, Nat.zero_le, Nat.succ_ne_zero, not_false_eq_true, not_true_eq_false, false_implies, true_implies, forall_const, imp_self, true_or, or_true, eq_self, sI_zw, zw_zw, hI_zw, tg_zw, ln_zw, hR_zw, hL_zw, hN_zw, hM_zw, upd_s, upd_u, upd_ne, Classical.not_not, k_Nw_hostAt, ht]; try clear hgo9 hW9)
        exact hQ
theorem c_Nw_translatorAt (a : Nat) (as : List Value) (h : AH) (Q : Po) (hl : as.length = 1) (ht : tg h a = 1) (hP : P_Nw_translatorAt (.ref a :: as) h) (hQ : Q (.inl (some (f_Nw_translatorAt (.ref a :: as) h))) h) : Call l G M_Nw_translatorAt (.ref a :: as) h Q := by
  match as, hP, hQ with
  | [.int x], hP, hQ =>
    obtain ⟨h1, h2⟩ := hP
    simp only [f_Nw_translatorAt, trF] at hQ
    have hPn : P_Nw_nodeAt [.ref a, .int x] h := h1
    refine call_of rfl rfl (Nat.le_of_ble_eq_true rfl) ?_
    cases e : ndF h a x with
    | none =>
      rw [e] at hQ
      ((obtain ⟨W9, hW9, hgo9⟩ := wp_ex (T_Nw_translatorAt l G) [] _; refine hgo9 200 _ _ _ _ ?_; simp -implicitDefEqProofs (disch := omega) only [hW9, inl, gate, Xq, tz_const, tz_iload, tz_lload, tz_dload, tz_aload, tz_istore, tz_astore, tz_lstore, tz_dstore, tz_iinc, tz_i1, tz_i2, tz_i2z, tz_l2, tz_l2z, tz_i2l, tz_l2i, tz_lcmp, tz_i2d, tz_d2, tz_dcmp, tz_dup, tz_dup2, tz_pop, tz_if, tz_icmp, tz_null, tz_goto, tz_sw, tz_getf, tz_puti, tz_putz, tz_putr, tz_putl, tz_iaload, tz_baload, tz_laload, tz_aaload, tz_iastore, tz_bastore, tz_lastore, tz_aastore, tz_alen, tz_new, tz_newa, tz_oinit, tz_iret, tz_zret, tz_lret, tz_dret, tz_aret, tz_vret, tz_throw, tz_callS, tz_callV, tz_callI, tz_callR, tz_pureS, tz_pureV, tz_callVH, lg, lset, lkill, lst1, lst2, entL, isRf, is1, vl, va_rf_none, va_rf_some, isRf_rf, is1_rf, i0, i1, bI_eq0, bI_eq1, nm_em, nI_eqP, nI_leP, nI_ltP, nN_e1, nN_e2, nN_l1, nN_l2, nN_l3, nN_l4, nI_add, pk_mul, vp_inN, nI_cl, n01, n10, P_i, P_ii, P_iii, f_Mo_at, f_Mo_map, f_Mo_contact, f_Mo_within, f_Mo_isPort, f_Hp_endpoint, f_Hp_nodeOf, f_Hp_portOf, f_Ma_max, f_Ma_min, f_Hp_isSetting, popN, rok, a1, noX, swc, mL, if_true, if_false, ↓reduceIte, cond_true, cond_false, true_and, and_true, List.length_cons, List.length_nil, List.nil_append, List.cons_append, List.append_nil, Option.toList, Nat.reduceEqDiff, Bool.false_eq_true, reduceCtorEq, Nat.reduceAdd, Nat.reduceLT, Nat.reduceLeDiff, Nat.reduceSub, List.replicate, Nat.zero_add, Nat.lt_add_one, Nat.le_refl, Nat.zero_le, Nat.succ_ne_zero, not_false_eq_true, not_true_eq_false, false_implies, true_implies, forall_const, imp_self, true_or, or_true, eq_self, sI_zw, zw_zw, hI_zw, tg_zw, ln_zw, hR_zw, hL_zw, hN_zw, hM_zw, upd_s, upd_u, upd_ne, Classical.not_not, k_Nw_translatorAt, ht, hPn, f_Nw_nodeAt, e]; try clear hgo9 hW9); try (obtain ⟨W9, hW9, hgo9⟩ := wp_ex (T_Nw_translatorAt l G) [] _; refine hgo9 200 _ _ _ _ ?_; simp -implicitDefEqProofs (disch := omega) only [hW9, inl, gate, Xq, tz_const, tz_iload, tz_lload, tz_dload, tz_aload, tz_istore, tz_astore, tz_lstore, tz_dstore, tz_iinc, tz_i1, tz_i2, tz_i2z, tz_l2, tz_l2z, tz_i2l, tz_l2i, tz_lcmp, tz_i2d, tz_d2, tz_dcmp, tz_dup, tz_dup2, tz_pop, tz_if, tz_icmp, tz_null, tz_goto, tz_sw, tz_getf, tz_puti, tz_putz, tz_putr, tz_putl, tz_iaload, tz_baload, tz_laload, tz_aaload, tz_iastore, tz_bastore, tz_lastore, tz_aastore, tz_alen, tz_new, tz_newa, tz_oinit, tz_iret, tz_zret, tz_lret, tz_dret, tz_aret, tz_vret, tz_throw, tz_callS, tz_callV, tz_callI, tz_callR, tz_pureS, tz_pureV, tz_callVH, lg, lset, lkill, lst1, lst2, entL, isRf, is1, vl, va_rf_none, va_rf_some, isRf_rf, is1_rf, i0, i1, bI_eq0, bI_eq1, nm_em, nI_eqP, nI_leP, nI_ltP, nN_e1, nN_e2, nN_l1, nN_l2, nN_l3, nN_l4, nI_add, pk_mul, vp_inN, nI_cl, n01, n10, P_i, P_ii, P_iii, f_Mo_at, f_Mo_map, f_Mo_contact, f_Mo_within, f_Mo_isPort, f_Hp_endpoint, f_Hp_nodeOf, f_Hp_portOf, f_Ma_max, f_Ma_min, f_Hp_isSetting, popN, rok, a1, noX, swc, mL, if_true, if_false, ↓reduceIte, cond_true, cond_false, true_and, and_true, List.length_cons, List.length_nil, List.nil_append, List.cons_append, List.append_nil, Option.toList, Nat.reduceEqDiff, Bool.false_eq_true, reduceCtorEq, Nat.reduceAdd, Nat.reduceLT, Nat.reduceLeDiff, Nat.reduceSub, List.replicate, Nat.zero_add, Nat.lt_add_one, Nat.le_refl, Nat.zero_le, Nat.succ_ne_zero, not_false_eq_true, not_true_eq_false, false_implies, true_implies, forall_const, imp_self, true_or, or_true, eq_self, sI_zw, zw_zw, hI_zw, tg_zw, ln_zw, hR_zw, hL_zw, hN_zw, hM_zw, upd_s, upd_u, upd_ne, Classical.not_not, k_Nw_translatorAt, ht, hPn, f_Nw_nodeAt, e]; try clear hgo9 hW9))
      exact hQ
    | some n =>
      have h3 := h2 n e
      rw [e] at hQ
      simp only [] at hQ
      (obtain ⟨W9, hW9, hgo9⟩ := wp_ex (T_Nw_translatorAt l G) [] _; refine hgo9 200 _ _ _ _ ?_; simp -implicitDefEqProofs (disch := omega) only [hW9, inl, gate, Xq, tz_const, tz_iload, tz_lload, tz_dload, tz_aload, tz_istore, tz_astore, tz_lstore, tz_dstore, tz_iinc, tz_i1, tz_i2, tz_i2z, tz_l2, tz_l2z, tz_i2l, tz_l2i, tz_lcmp, tz_i2d, tz_d2, tz_dcmp, tz_dup, tz_dup2, tz_pop, tz_if, tz_icmp, tz_null, tz_goto, tz_sw, tz_getf, tz_puti, tz_putz, tz_putr, tz_putl, tz_iaload, tz_baload, tz_laload, tz_aaload, tz_iastore, tz_bastore, tz_lastore, tz_aastore, tz_alen, tz_new, tz_newa, tz_oinit, tz_iret, tz_zret, tz_lret, tz_dret, tz_aret, tz_vret, tz_throw, tz_callS, tz_callV, tz_callI, tz_callR, tz_pureS, tz_pureV, tz_callVH, lg, lset, lkill, lst1, lst2, entL, isRf, is1, vl, va_rf_none, va_rf_some, isRf_rf, is1_rf, i0, i1, bI_eq0, bI_eq1, nm_em, nI_eqP, nI_leP, nI_ltP, nN_e1, nN_e2, nN_l1, nN_l2, nN_l3, nN_l4, nI_add, pk_mul, vp_inN, nI_cl, n01, n10, P_i, P_ii, P_iii, f_Mo_at, f_Mo_map, f_Mo_contact, f_Mo_within, f_Mo_isPort, f_Hp_endpoint, f_Hp_nodeOf, f_Hp_portOf, f_Ma_max, f_Ma_min, f_Hp_isSetting, popN, rok, a1, noX, swc, mL, if_true, if_false, ↓reduceIte, cond_true, cond_false, true_and, and_true, List.length_cons, List.length_nil, List.nil_append, List.cons_append, List.append_nil, Option.toList, Nat.reduceEqDiff, Bool.false_eq_true, reduceCtorEq, Nat.reduceAdd, Nat.reduceLT, Nat.reduceLeDiff, Nat.reduceSub, List.replicate, Nat.zero_add, Nat.lt_add_one, Nat.le_refl, Nat.zero_le, Nat.succ_ne_zero, not_false_eq_true, not_true_eq_false, false_implies, true_implies, forall_const, imp_self, true_or, or_true, eq_self, sI_zw, zw_zw, hI_zw, tg_zw, ln_zw, hR_zw, hL_zw, hN_zw, hM_zw, upd_s, upd_u, upd_ne, Classical.not_not, k_Nw_translatorAt, ht, hPn, f_Nw_nodeAt, e, h3]; try clear hgo9 hW9)
      refine ⟨fun c => ?_, fun c => ?_⟩
      · rw [if_pos c] at hQ
        cases e4 : hR h n 4 with
        | none =>
          rw [e4] at hQ
          (obtain ⟨W9, hW9, hgo9⟩ := wp_ex (T_Nw_translatorAt l G) [] _; refine hgo9 200 _ _ _ _ ?_; simp -implicitDefEqProofs (disch := omega) only [hW9, inl, gate, Xq, tz_const, tz_iload, tz_lload, tz_dload, tz_aload, tz_istore, tz_astore, tz_lstore, tz_dstore, tz_iinc, tz_i1, tz_i2, tz_i2z, tz_l2, tz_l2z, tz_i2l, tz_l2i, tz_lcmp, tz_i2d, tz_d2, tz_dcmp, tz_dup, tz_dup2, tz_pop, tz_if, tz_icmp, tz_null, tz_goto, tz_sw, tz_getf, tz_puti, tz_putz, tz_putr, tz_putl, tz_iaload, tz_baload, tz_laload, tz_aaload, tz_iastore, tz_bastore, tz_lastore, tz_aastore, tz_alen, tz_new, tz_newa, tz_oinit, tz_iret, tz_zret, tz_lret, tz_dret, tz_aret, tz_vret, tz_throw, tz_callS, tz_callV, tz_callI, tz_callR, tz_pureS, tz_pureV, tz_callVH, lg, lset, lkill, lst1, lst2, entL, isRf, is1, vl, va_rf_none, va_rf_some, isRf_rf, is1_rf, i0, i1, bI_eq0, bI_eq1, nm_em, nI_eqP, nI_leP, nI_ltP, nN_e1, nN_e2, nN_l1, nN_l2, nN_l3, nN_l4, nI_add, pk_mul, vp_inN, nI_cl, n01, n10, P_i, P_ii, P_iii, f_Mo_at, f_Mo_map, f_Mo_contact, f_Mo_within, f_Mo_isPort, f_Hp_endpoint, f_Hp_nodeOf, f_Hp_portOf, f_Ma_max, f_Ma_min, f_Hp_isSetting, popN, rok, a1, noX, swc, mL, if_true, if_false, ↓reduceIte, cond_true, cond_false, true_and, and_true, List.length_cons, List.length_nil, List.nil_append, List.cons_append, List.append_nil, Option.toList, Nat.reduceEqDiff, Bool.false_eq_true, reduceCtorEq, Nat.reduceAdd, Nat.reduceLT, Nat.reduceLeDiff, Nat.reduceSub, List.replicate, Nat.zero_add, Nat.lt_add_one, Nat.le_refl, Nat.zero_le, Nat.succ_ne_zero, not_false_eq_true, not_true_eq_false, false_implies, true_implies, forall_const, imp_self, true_or, or_true, eq_self, sI_zw, zw_zw, hI_zw, tg_zw, ln_zw, hR_zw, hL_zw, hN_zw, hM_zw, upd_s, upd_u, upd_ne, Classical.not_not, k_Nw_translatorAt, ht, h3, e4]; try clear hgo9 hW9)
          exact hQ
        | some t =>
          rw [e4] at hQ
          (obtain ⟨W9, hW9, hgo9⟩ := wp_ex (T_Nw_translatorAt l G) [] _; refine hgo9 200 _ _ _ _ ?_; simp -implicitDefEqProofs (disch := omega) only [hW9, inl, gate, Xq, tz_const, tz_iload, tz_lload, tz_dload, tz_aload, tz_istore, tz_astore, tz_lstore, tz_dstore, tz_iinc, tz_i1, tz_i2, tz_i2z, tz_l2, tz_l2z, tz_i2l, tz_l2i, tz_lcmp, tz_i2d, tz_d2, tz_dcmp, tz_dup, tz_dup2, tz_pop, tz_if, tz_icmp, tz_null, tz_goto, tz_sw, tz_getf, tz_puti, tz_putz, tz_putr, tz_putl, tz_iaload, tz_baload, tz_laload, tz_aaload, tz_iastore, tz_bastore, tz_lastore, tz_aastore, tz_alen, tz_new, tz_newa, tz_oinit, tz_iret, tz_zret, tz_lret, tz_dret, tz_aret, tz_vret, tz_throw, tz_callS, tz_callV, tz_callI, tz_callR, tz_pureS, tz_pureV, tz_callVH, lg, lset, lkill, lst1, lst2, entL, isRf, is1, vl, va_rf_none, va_rf_some, isRf_rf, is1_rf, i0, i1, bI_eq0, bI_eq1, nm_em, nI_eqP, nI_leP, nI_ltP, nN_e1, nN_e2, nN_l1, nN_l2, nN_l3, nN_l4, nI_add, pk_mul, vp_inN, nI_cl, n01, n10, P_i, P_ii, P_iii, f_Mo_at, f_Mo_map, f_Mo_contact, f_Mo_within, f_Mo_isPort, f_Hp_endpoint, f_Hp_nodeOf, f_Hp_portOf, f_Ma_max, f_Ma_min, f_Hp_isSetting, popN, rok, a1, noX, swc, mL, if_true, if_false, ↓reduceIte, cond_true, cond_false, true_and, and_true, List.length_cons, List.length_nil, List.nil_append, List.cons_append, List.append_nil, Option.toList, Nat.reduceEqDiff, Bool.false_eq_true, reduceCtorEq, Nat.reduceAdd, Nat.reduceLT, Nat.reduceLeDiff, Nat.reduceSub, List.replicate, Nat.zero_add, Nat.lt_add_one, Nat.le_refl, Nat.zero_le, Nat.succ_ne_zero, not_false_eq_true, not_true_eq_false, false_implies, true_implies, forall_const, imp_self, true_or, or_true, eq_self, sI_zw, zw_zw, hI_zw, tg_zw, ln_zw, hR_zw, hL_zw, hN_zw, hM_zw, upd_s, upd_u, upd_ne, Classical.not_not, k_Nw_translatorAt, ht, h3, e4]; try clear hgo9 hW9)
          exact hQ
      · rw [if_neg c] at hQ
        (obtain ⟨W9, hW9, hgo9⟩ := wp_ex (T_Nw_translatorAt l G) [] _; refine hgo9 200 _ _ _ _ ?_; simp -implicitDefEqProofs (disch := omega) only [hW9, inl, gate, Xq, tz_const, tz_iload, tz_lload, tz_dload, tz_aload, tz_istore, tz_astore, tz_lstore, tz_dstore, tz_iinc, tz_i1, tz_i2, tz_i2z, tz_l2, tz_l2z, tz_i2l, tz_l2i, tz_lcmp, tz_i2d, tz_d2, tz_dcmp, tz_dup, tz_dup2, tz_pop, tz_if, tz_icmp, tz_null, tz_goto, tz_sw, tz_getf, tz_puti, tz_putz, tz_putr, tz_putl, tz_iaload, tz_baload, tz_laload, tz_aaload, tz_iastore, tz_bastore, tz_lastore, tz_aastore, tz_alen, tz_new, tz_newa, tz_oinit, tz_iret, tz_zret, tz_lret, tz_dret, tz_aret, tz_vret, tz_throw, tz_callS, tz_callV, tz_callI, tz_callR, tz_pureS, tz_pureV, tz_callVH, lg, lset, lkill, lst1, lst2, entL, isRf, is1, vl, va_rf_none, va_rf_some, isRf_rf, is1_rf, i0, i1, bI_eq0, bI_eq1, nm_em, nI_eqP, nI_leP, nI_ltP, nN_e1, nN_e2, nN_l1, nN_l2, nN_l3, nN_l4, nI_add, pk_mul, vp_inN, nI_cl, n01, n10, P_i, P_ii, P_iii, f_Mo_at, f_Mo_map, f_Mo_contact, f_Mo_within, f_Mo_isPort, f_Hp_endpoint, f_Hp_nodeOf, f_Hp_portOf, f_Ma_max, f_Ma_min, f_Hp_isSetting, popN, rok, a1, noX, swc, mL, if_true, if_false, ↓reduceIte, cond_true, cond_false, true_and, and_true, List.length_cons, List.length_nil, List.nil_append, List.cons_append, List.append_nil, Option.toList, Nat.reduceEqDiff, Bool.false_eq_true, reduceCtorEq, Nat.reduceAdd, Nat.reduceLT, Nat.reduceLeDiff, Nat.reduceSub, List.replicate, Nat.zero_add, Nat.lt_add_one, Nat.le_refl, Nat.zero_le, Nat.succ_ne_zero, not_false_eq_true, not_true_eq_false, false_implies, true_implies, forall_const, imp_self, true_or, or_true, eq_self, sI_zw, zw_zw, hI_zw, tg_zw, ln_zw, hR_zw, hL_zw, hN_zw, hM_zw, upd_s, upd_u, upd_ne, Classical.not_not, k_Nw_translatorAt, ht]; try clear hgo9 hW9)
        exact hQ
theorem c_Nw_netOf (a : Nat) (as : List Value) (h : AH) (Q : Po) (hl : as.length = 1) (ht : tg h a = 1) (hP : P_Nw_netOf (.ref a :: as) h) (hQ : Q (.inl (some (f_Nw_netOf (.ref a :: as) h))) h) : Call l G M_Nw_netOf (.ref a :: as) h Q := by
  match as, hP, hQ with
  | [.int x], hP, hQ =>
    obtain ⟨h1, h2⟩ := hP
    simp only [f_Nw_netOf, neF] at hQ
    have hPn : P_Nw_nodeAt [.ref a, .int x] h := h1
    refine call_of rfl rfl (Nat.le_of_ble_eq_true rfl) ?_
    cases e : ndF h a x with
    | none =>
      rw [e] at hQ
      ((obtain ⟨W9, hW9, hgo9⟩ := wp_ex (T_Nw_netOf l G) [] _; refine hgo9 200 _ _ _ _ ?_; simp -implicitDefEqProofs (disch := omega) only [hW9, inl, gate, Xq, tz_const, tz_iload, tz_lload, tz_dload, tz_aload, tz_istore, tz_astore, tz_lstore, tz_dstore, tz_iinc, tz_i1, tz_i2, tz_i2z, tz_l2, tz_l2z, tz_i2l, tz_l2i, tz_lcmp, tz_i2d, tz_d2, tz_dcmp, tz_dup, tz_dup2, tz_pop, tz_if, tz_icmp, tz_null, tz_goto, tz_sw, tz_getf, tz_puti, tz_putz, tz_putr, tz_putl, tz_iaload, tz_baload, tz_laload, tz_aaload, tz_iastore, tz_bastore, tz_lastore, tz_aastore, tz_alen, tz_new, tz_newa, tz_oinit, tz_iret, tz_zret, tz_lret, tz_dret, tz_aret, tz_vret, tz_throw, tz_callS, tz_callV, tz_callI, tz_callR, tz_pureS, tz_pureV, tz_callVH, lg, lset, lkill, lst1, lst2, entL, isRf, is1, vl, va_rf_none, va_rf_some, isRf_rf, is1_rf, i0, i1, bI_eq0, bI_eq1, nm_em, nI_eqP, nI_leP, nI_ltP, nN_e1, nN_e2, nN_l1, nN_l2, nN_l3, nN_l4, nI_add, pk_mul, vp_inN, nI_cl, n01, n10, P_i, P_ii, P_iii, f_Mo_at, f_Mo_map, f_Mo_contact, f_Mo_within, f_Mo_isPort, f_Hp_endpoint, f_Hp_nodeOf, f_Hp_portOf, f_Ma_max, f_Ma_min, f_Hp_isSetting, popN, rok, a1, noX, swc, mL, if_true, if_false, ↓reduceIte, cond_true, cond_false, true_and, and_true, List.length_cons, List.length_nil, List.nil_append, List.cons_append, List.append_nil, Option.toList, Nat.reduceEqDiff, Bool.false_eq_true, reduceCtorEq, Nat.reduceAdd, Nat.reduceLT, Nat.reduceLeDiff, Nat.reduceSub, List.replicate, Nat.zero_add, Nat.lt_add_one, Nat.le_refl, Nat.zero_le, Nat.succ_ne_zero, not_false_eq_true, not_true_eq_false, false_implies, true_implies, forall_const, imp_self, true_or, or_true, eq_self, sI_zw, zw_zw, hI_zw, tg_zw, ln_zw, hR_zw, hL_zw, hN_zw, hM_zw, upd_s, upd_u, upd_ne, Classical.not_not, k_Nw_netOf, ht, hPn, f_Nw_nodeAt, e]; try clear hgo9 hW9); try (obtain ⟨W9, hW9, hgo9⟩ := wp_ex (T_Nw_netOf l G) [] _; refine hgo9 200 _ _ _ _ ?_; simp -implicitDefEqProofs (disch := omega) only [hW9, inl, gate, Xq, tz_const, tz_iload, tz_lload, tz_dload, tz_aload, tz_istore, tz_astore, tz_lstore, tz_dstore, tz_iinc, tz_i1, tz_i2, tz_i2z, tz_l2, tz_l2z, tz_i2l, tz_l2i, tz_lcmp, tz_i2d, tz_d2, tz_dcmp, tz_dup, tz_dup2, tz_pop, tz_if, tz_icmp, tz_null, tz_goto, tz_sw, tz_getf, tz_puti, tz_putz, tz_putr, tz_putl, tz_iaload, tz_baload, tz_laload, tz_aaload, tz_iastore, tz_bastore, tz_lastore, tz_aastore, tz_alen, tz_new, tz_newa, tz_oinit, tz_iret, tz_zret, tz_lret, tz_dret, tz_aret, tz_vret, tz_throw, tz_callS, tz_callV, tz_callI, tz_callR, tz_pureS, tz_pureV, tz_callVH, lg, lset, lkill, lst1, lst2, entL, isRf, is1, vl, va_rf_none, va_rf_some, isRf_rf, is1_rf, i0, i1, bI_eq0, bI_eq1, nm_em, nI_eqP, nI_leP, nI_ltP, nN_e1, nN_e2, nN_l1, nN_l2, nN_l3, nN_l4, nI_add, pk_mul, vp_inN, nI_cl, n01, n10, P_i, P_ii, P_iii, f_Mo_at, f_Mo_map, f_Mo_contact, f_Mo_within, f_Mo_isPort, f_Hp_endpoint, f_Hp_nodeOf, f_Hp_portOf, f_Ma_max, f_Ma_min, f_Hp_isSetting, popN, rok, a1, noX, swc, mL, if_true, if_false, ↓reduceIte, cond_true, cond_false, true_and, and_true, List.length_cons, List.length_nil, List.nil_append, List.cons_append, List.append_nil, Option.toList, Nat.reduceEqDiff, Bool.false_eq_true, reduceCtorEq, Nat.reduceAdd, Nat.reduceLT, Nat.reduceLeDiff, Nat.reduceSub, List.replicate, Nat.zero_add, Nat.lt_add_one, Nat.le_refl, Nat.zero_le, Nat.succ_ne_zero, not_false_eq_true, not_true_eq_false, false_implies, true_implies, forall_const, imp_self, true_or, or_true, eq_self, sI_zw, zw_zw, hI_zw, tg_zw, ln_zw, hR_zw, hL_zw, hN_zw, hM_zw, upd_s, upd_u, upd_ne, Classical.not_not, k_Nw_netOf, ht, hPn, f_Nw_nodeAt, e]; try clear hgo9 hW9))
      exact hQ
    | some n =>
      have h3 := h2 n e
      rw [e] at hQ
      simp only [] at hQ
      (obtain ⟨W9, hW9, hgo9⟩ := wp_ex (T_Nw_netOf l G) [] _; refine hgo9 200 _ _ _ _ ?_; simp -implicitDefEqProofs (disch := omega) only [hW9, inl, gate, Xq, tz_const, tz_iload, tz_lload, tz_dload, tz_aload, tz_istore, tz_astore, tz_lstore, tz_dstore, tz_iinc, tz_i1, tz_i2, tz_i2z, tz_l2, tz_l2z, tz_i2l, tz_l2i, tz_lcmp, tz_i2d, tz_d2, tz_dcmp, tz_dup, tz_dup2, tz_pop, tz_if, tz_icmp, tz_null, tz_goto, tz_sw, tz_getf, tz_puti, tz_putz, tz_putr, tz_putl, tz_iaload, tz_baload, tz_laload, tz_aaload, tz_iastore, tz_bastore, tz_lastore, tz_aastore, tz_alen, tz_new, tz_newa, tz_oinit, tz_iret, tz_zret, tz_lret, tz_dret, tz_aret, tz_vret, tz_throw, tz_callS, tz_callV, tz_callI, tz_callR, tz_pureS, tz_pureV, tz_callVH, lg, lset, lkill, lst1, lst2, entL, isRf, is1, vl, va_rf_none, va_rf_some, isRf_rf, is1_rf, i0, i1, bI_eq0, bI_eq1, nm_em, nI_eqP, nI_leP, nI_ltP, nN_e1, nN_e2, nN_l1, nN_l2, nN_l3, nN_l4, nI_add, pk_mul, vp_inN, nI_cl, n01, n10, P_i, P_ii, P_iii, f_Mo_at, f_Mo_map, f_Mo_contact, f_Mo_within, f_Mo_isPort, f_Hp_endpoint, f_Hp_nodeOf, f_Hp_portOf, f_Ma_max, f_Ma_min, f_Hp_isSetting, popN, rok, a1, noX, swc, mL, if_true, if_false, ↓reduceIte, cond_true, cond_false, true_and, and_true, List.length_cons, List.length_nil, List.nil_append, List.cons_append, List.append_nil, Option.toList, Nat.reduceEqDiff, Bool.false_eq_true, reduceCtorEq, Nat.reduceAdd, Nat.reduceLT, Nat.reduceLeDiff, Nat.reduceSub, List.replicate, Nat.zero_add, Nat.lt_add_one, Nat.le_refl, Nat.zero_le, Nat.succ_ne_zero, not_false_eq_true, not_true_eq_false, false_implies, true_implies, forall_const, imp_self, true_or, or_true, eq_self, sI_zw, zw_zw, hI_zw, tg_zw, ln_zw, hR_zw, hL_zw, hN_zw, hM_zw, upd_s, upd_u, upd_ne, Classical.not_not, k_Nw_netOf, ht, hPn, f_Nw_nodeAt, e, h3]; try clear hgo9 hW9)
      exact hQ
end
def k_Tl_mappingIn (l : Launch) (G : Gc) (pc : Nat) : Tr :=
  if pc < 24 then
   if pc < 11 then
    if pc < 3 then
     if pc < 1 then
      if pc = 0 then tz_const 1 (.int (nI 0)) else dead
     else
      if pc < 2 then
       if pc = 1 then tz_istore 2 2 else dead
      else
       if pc = 2 then tz_iload 3 2 else dead
    else
     if pc < 7 then
      if pc < 4 then
       if pc = 3 then tz_aload 4 0 else dead
      else
       if pc = 4 then tz_getf 7 5 10 0 else dead
     else
      if pc < 10 then
       if pc = 7 then tz_icmp 10 46 (fun a b => b ≤ a) else dead
      else
       if pc = 10 then tz_iload 11 2 else dead
   else
    if pc < 16 then
     if pc < 12 then
      if pc = 11 then tz_aload 12 0 else dead
     else
      if pc < 15 then
       if pc = 12 then tz_getf 15 5 9 1 else dead
      else
       if pc = 15 then tz_alen 16 else dead
    else
     if pc < 20 then
      if pc < 19 then
       if pc = 16 then tz_icmp 19 46 (fun a b => b ≤ a) else dead
      else
       if pc = 19 then tz_aload 20 0 else dead
     else
      if pc < 23 then
       if pc = 20 then tz_getf 23 5 9 1 else dead
      else
       if pc = 23 then tz_iload 24 2 else dead
  else
   if pc < 35 then
    if pc < 27 then
     if pc < 25 then
      if pc = 24 then tz_aaload 25 else dead
     else
      if pc < 26 then
       if pc = 25 then tz_astore 26 3 else dead
      else
       if pc = 26 then tz_aload 27 3 else dead
    else
     if pc < 31 then
      if pc < 30 then
       if pc = 27 then tz_null 40 30 else dead
      else
       if pc = 30 then tz_aload 31 3 else dead
     else
      if pc < 34 then
       if pc = 31 then tz_getf 34 0 1 0 else dead
      else
       if pc = 34 then tz_iload 35 1 else dead
   else
    if pc < 40 then
     if pc < 38 then
      if pc = 35 then tz_icmp 38 40 (fun a b => ¬ a = b) else dead
     else
      if pc < 39 then
       if pc = 38 then tz_aload 39 3 else dead
      else
       if pc = 39 then tz_aret else dead
    else
     if pc < 46 then
      if pc < 43 then
       if pc = 40 then tz_iinc 43 2 (nI 1) else dead
      else
       if pc = 43 then tz_goto 2 else dead
     else
      if pc < 47 then
       if pc = 46 then tz_const 47 .null else dead
      else
       if pc = 47 then tz_aret else dead
set_option maxRecDepth 100000 in
theorem T_Tl_mappingIn (l : Launch) (G : Gc) : TabOK l G M_Tl_mappingIn (k_Tl_mappingIn l G) := by
  intro pc
  unfold k_Tl_mappingIn
  exact
   (sd_br
    (sd_br
     (sd_br
      (sd_br
       (sd_lf (sd_iconst (by decide +kernel : decode prog_7_method_6_code 0 = .ok (.iconst 0, 1)) (by decide +kernel)))
       (sd_br
        (sd_lf (sd_istore_n (k := 2) (by decide +kernel : decode prog_7_method_6_code 1 = .ok (.istore_n 2, 1))))
        (sd_lf (sd_iload_n (k := 2) (by decide +kernel : decode prog_7_method_6_code 2 = .ok (.iload_n 2, 1))))))
      (sd_br
       (sd_br
        (sd_lf (sd_aload_n (k := 0) (by decide +kernel : decode prog_7_method_6_code 3 = .ok (.aload_n 0, 1))))
        (sd_lf (sd_getf (q := (RX5, TX5, 11)) (by decide +kernel : decode prog_7_method_6_code 4 = .ok (.getfield 17, 3)) rfl (by decide +kernel) (gm 261 (by decide +kernel) rfl))))
       (sd_br
        (sd_lf (sd_icmp_ge (by decide +kernel : decode prog_7_method_6_code 7 = .ok (.if_icmp .ge 39, 3)) (by decide +kernel)))
        (sd_lf (sd_iload_n (k := 2) (by decide +kernel : decode prog_7_method_6_code 10 = .ok (.iload_n 2, 1)))))))
     (sd_br
      (sd_br
       (sd_lf (sd_aload_n (k := 0) (by decide +kernel : decode prog_7_method_6_code 11 = .ok (.aload_n 0, 1))))
       (sd_br
        (sd_lf (sd_getf (q := (RX5, TX5, 11)) (by decide +kernel : decode prog_7_method_6_code 12 = .ok (.getfield 11, 3)) rfl (by decide +kernel) (gm 260 (by decide +kernel) rfl)))
        (sd_lf (sd_alen (by decide +kernel : decode prog_7_method_6_code 15 = .ok (.arraylength, 1))))))
      (sd_br
       (sd_br
        (sd_lf (sd_icmp_ge (by decide +kernel : decode prog_7_method_6_code 16 = .ok (.if_icmp .ge 30, 3)) (by decide +kernel)))
        (sd_lf (sd_aload_n (k := 0) (by decide +kernel : decode prog_7_method_6_code 19 = .ok (.aload_n 0, 1)))))
       (sd_br
        (sd_lf (sd_getf (q := (RX5, TX5, 11)) (by decide +kernel : decode prog_7_method_6_code 20 = .ok (.getfield 11, 3)) rfl (by decide +kernel) (gm 260 (by decide +kernel) rfl)))
        (sd_lf (sd_iload_n (k := 2) (by decide +kernel : decode prog_7_method_6_code 23 = .ok (.iload_n 2, 1))))))))
    (sd_br
     (sd_br
      (sd_br
       (sd_lf (sd_aaload (by decide +kernel : decode prog_7_method_6_code 24 = .ok (.aaload, 1))))
       (sd_br
        (sd_lf (sd_astore_n (k := 3) (by decide +kernel : decode prog_7_method_6_code 25 = .ok (.astore_n 3, 1))))
        (sd_lf (sd_aload_n (k := 3) (by decide +kernel : decode prog_7_method_6_code 26 = .ok (.aload_n 3, 1))))))
      (sd_br
       (sd_br
        (sd_lf (sd_ifnull (by decide +kernel : decode prog_7_method_6_code 27 = .ok (.ifnull 13, 3)) (by decide +kernel)))
        (sd_lf (sd_aload_n (k := 3) (by decide +kernel : decode prog_7_method_6_code 30 = .ok (.aload_n 3, 1)))))
       (sd_br
        (sd_lf (sd_getf (q := (RX0, TX0, 6)) (by decide +kernel : decode prog_7_method_6_code 31 = .ok (.getfield 72, 3)) rfl (by decide +kernel) (gm 308 (by decide +kernel) rfl)))
        (sd_lf (sd_iload_n (k := 1) (by decide +kernel : decode prog_7_method_6_code 34 = .ok (.iload_n 1, 1)))))))
     (sd_br
      (sd_br
       (sd_lf (sd_icmp_ne (by decide +kernel : decode prog_7_method_6_code 35 = .ok (.if_icmp .ne 5, 3)) (by decide +kernel)))
       (sd_br
        (sd_lf (sd_aload_n (k := 3) (by decide +kernel : decode prog_7_method_6_code 38 = .ok (.aload_n 3, 1))))
        (sd_lf (sd_aret (by decide +kernel : decode prog_7_method_6_code 39 = .ok (.areturn, 1)) rfl (Or.inl ⟨_, rfl⟩)))))
      (sd_br
       (sd_br
        (sd_lf (sd_iinc (by decide +kernel : decode prog_7_method_6_code 40 = .ok (.iinc 2 1, 3)) (by decide +kernel)))
        (sd_lf (sd_goto (by decide +kernel : decode prog_7_method_6_code 43 = .ok (.goto (-41), 3)) (by decide +kernel))))
       (sd_br
        (sd_lf (sd_null (by decide +kernel : decode prog_7_method_6_code 46 = .ok (.aconst_null, 1))))
        (sd_lf (sd_aret (by decide +kernel : decode prog_7_method_6_code 47 = .ok (.areturn, 1)) rfl (Or.inl ⟨_, rfl⟩))))))))
def k_Tl_mappingOut (l : Launch) (G : Gc) (pc : Nat) : Tr :=
  if pc < 34 then
   if pc < 15 then
    if pc < 6 then
     if pc < 2 then
      if pc < 1 then
       if pc = 0 then tz_aload 1 0 else dead
      else
       if pc = 1 then tz_iload 2 2 else dead
     else
      if pc < 5 then
       if pc = 2 then tz_pureV 5 1 5 P_Tl_keyFor f_Tl_keyFor else dead
      else
       if pc = 5 then tz_istore 6 3 else dead
    else
     if pc < 9 then
      if pc < 7 then
       if pc = 6 then tz_const 7 (.int (nI 0)) else dead
      else
       if pc = 7 then tz_istore 9 4 else dead
     else
      if pc < 11 then
       if pc = 9 then tz_iload 11 4 else dead
      else
       if pc < 12 then
        if pc = 11 then tz_aload 12 0 else dead
       else
        if pc = 12 then tz_getf 15 5 10 0 else dead
   else
    if pc < 24 then
     if pc < 20 then
      if pc < 18 then
       if pc = 15 then tz_icmp 18 69 (fun a b => b ≤ a) else dead
      else
       if pc = 18 then tz_iload 20 4 else dead
     else
      if pc < 21 then
       if pc = 20 then tz_aload 21 0 else dead
      else
       if pc = 21 then tz_getf 24 5 9 1 else dead
    else
     if pc < 28 then
      if pc < 25 then
       if pc = 24 then tz_alen 25 else dead
      else
       if pc = 25 then tz_icmp 28 69 (fun a b => b ≤ a) else dead
     else
      if pc < 29 then
       if pc = 28 then tz_aload 29 0 else dead
      else
       if pc < 32 then
        if pc = 29 then tz_getf 32 5 9 1 else dead
       else
        if pc = 32 then tz_iload 34 4 else dead
  else
   if pc < 53 then
    if pc < 42 then
     if pc < 37 then
      if pc < 35 then
       if pc = 34 then tz_aaload 35 else dead
      else
       if pc = 35 then tz_astore 37 5 else dead
     else
      if pc < 39 then
       if pc = 37 then tz_aload 39 5 else dead
      else
       if pc = 39 then tz_null 63 42 else dead
    else
     if pc < 47 then
      if pc < 44 then
       if pc = 42 then tz_aload 44 5 else dead
      else
       if pc = 44 then tz_getf 47 0 0 0 else dead
     else
      if pc < 48 then
       if pc = 47 then tz_iload 48 1 else dead
      else
       if pc < 51 then
        if pc = 48 then tz_icmp 51 63 (fun a b => ¬ a = b) else dead
       else
        if pc = 51 then tz_aload 53 5 else dead
   else
    if pc < 62 then
     if pc < 57 then
      if pc < 56 then
       if pc = 53 then tz_getf 56 0 2 0 else dead
      else
       if pc = 56 then tz_iload 57 3 else dead
     else
      if pc < 60 then
       if pc = 57 then tz_icmp 60 63 (fun a b => ¬ a = b) else dead
      else
       if pc = 60 then tz_aload 62 5 else dead
    else
     if pc < 66 then
      if pc < 63 then
       if pc = 62 then tz_aret else dead
      else
       if pc = 63 then tz_iinc 66 4 (nI 1) else dead
     else
      if pc < 69 then
       if pc = 66 then tz_goto 9 else dead
      else
       if pc < 70 then
        if pc = 69 then tz_const 70 .null else dead
       else
        if pc = 70 then tz_aret else dead
set_option maxRecDepth 100000 in
theorem T_Tl_mappingOut (l : Launch) (G : Gc) : TabOK l G M_Tl_mappingOut (k_Tl_mappingOut l G) := by
  intro pc
  unfold k_Tl_mappingOut
  exact
   (sd_br
    (sd_br
     (sd_br
      (sd_br
       (sd_br
        (sd_lf (sd_aload_n (k := 0) (by decide +kernel : decode prog_7_method_5_code 0 = .ok (.aload_n 0, 1))))
        (sd_lf (sd_iload_n (k := 2) (by decide +kernel : decode prog_7_method_5_code 1 = .ok (.iload_n 2, 1)))))
       (sd_br
        (sd_lf (sd_pureV (sd_callV (q := (RX5, TX5, 11)) (by decide +kernel : decode prog_7_method_5_code 2 = .ok (.invokevirtual 62, 3)) ok_Tl_keyFor (gm 707 (by decide +kernel) rfl) (gm 709 (by decide +kernel) rfl) (gm 18 (by decide +kernel) rfl) rfl rfl (by decide +kernel) rfl rfl) c_Tl_keyFor))
        (sd_lf (sd_istore_n (k := 3) (by decide +kernel : decode prog_7_method_5_code 5 = .ok (.istore_n 3, 1))))))
      (sd_br
       (sd_br
        (sd_lf (sd_iconst (by decide +kernel : decode prog_7_method_5_code 6 = .ok (.iconst 0, 1)) (by decide +kernel)))
        (sd_lf (sd_istore (by decide +kernel : decode prog_7_method_5_code 7 = .ok (.istore 4, 2)))))
       (sd_br
        (sd_lf (sd_iload (by decide +kernel : decode prog_7_method_5_code 9 = .ok (.iload 4, 2))))
        (sd_br
         (sd_lf (sd_aload_n (k := 0) (by decide +kernel : decode prog_7_method_5_code 11 = .ok (.aload_n 0, 1))))
         (sd_lf (sd_getf (q := (RX5, TX5, 11)) (by decide +kernel : decode prog_7_method_5_code 12 = .ok (.getfield 17, 3)) rfl (by decide +kernel) (gm 261 (by decide +kernel) rfl)))))))
     (sd_br
      (sd_br
       (sd_br
        (sd_lf (sd_icmp_ge (by decide +kernel : decode prog_7_method_5_code 15 = .ok (.if_icmp .ge 54, 3)) (by decide +kernel)))
        (sd_lf (sd_iload (by decide +kernel : decode prog_7_method_5_code 18 = .ok (.iload 4, 2)))))
       (sd_br
        (sd_lf (sd_aload_n (k := 0) (by decide +kernel : decode prog_7_method_5_code 20 = .ok (.aload_n 0, 1))))
        (sd_lf (sd_getf (q := (RX5, TX5, 11)) (by decide +kernel : decode prog_7_method_5_code 21 = .ok (.getfield 11, 3)) rfl (by decide +kernel) (gm 260 (by decide +kernel) rfl)))))
      (sd_br
       (sd_br
        (sd_lf (sd_alen (by decide +kernel : decode prog_7_method_5_code 24 = .ok (.arraylength, 1))))
        (sd_lf (sd_icmp_ge (by decide +kernel : decode prog_7_method_5_code 25 = .ok (.if_icmp .ge 44, 3)) (by decide +kernel))))
       (sd_br
        (sd_lf (sd_aload_n (k := 0) (by decide +kernel : decode prog_7_method_5_code 28 = .ok (.aload_n 0, 1))))
        (sd_br
         (sd_lf (sd_getf (q := (RX5, TX5, 11)) (by decide +kernel : decode prog_7_method_5_code 29 = .ok (.getfield 11, 3)) rfl (by decide +kernel) (gm 260 (by decide +kernel) rfl)))
         (sd_lf (sd_iload (by decide +kernel : decode prog_7_method_5_code 32 = .ok (.iload 4, 2)))))))))
    (sd_br
     (sd_br
      (sd_br
       (sd_br
        (sd_lf (sd_aaload (by decide +kernel : decode prog_7_method_5_code 34 = .ok (.aaload, 1))))
        (sd_lf (sd_astore (by decide +kernel : decode prog_7_method_5_code 35 = .ok (.astore 5, 2)))))
       (sd_br
        (sd_lf (sd_aload (by decide +kernel : decode prog_7_method_5_code 37 = .ok (.aload 5, 2))))
        (sd_lf (sd_ifnull (by decide +kernel : decode prog_7_method_5_code 39 = .ok (.ifnull 24, 3)) (by decide +kernel)))))
      (sd_br
       (sd_br
        (sd_lf (sd_aload (by decide +kernel : decode prog_7_method_5_code 42 = .ok (.aload 5, 2))))
        (sd_lf (sd_getf (q := (RX0, TX0, 6)) (by decide +kernel : decode prog_7_method_5_code 44 = .ok (.getfield 66, 3)) rfl (by decide +kernel) (gm 305 (by decide +kernel) rfl))))
       (sd_br
        (sd_lf (sd_iload_n (k := 1) (by decide +kernel : decode prog_7_method_5_code 47 = .ok (.iload_n 1, 1))))
        (sd_br
         (sd_lf (sd_icmp_ne (by decide +kernel : decode prog_7_method_5_code 48 = .ok (.if_icmp .ne 15, 3)) (by decide +kernel)))
         (sd_lf (sd_aload (by decide +kernel : decode prog_7_method_5_code 51 = .ok (.aload 5, 2))))))))
     (sd_br
      (sd_br
       (sd_br
        (sd_lf (sd_getf (q := (RX0, TX0, 6)) (by decide +kernel : decode prog_7_method_5_code 53 = .ok (.getfield 69, 3)) rfl (by decide +kernel) (gm 311 (by decide +kernel) rfl)))
        (sd_lf (sd_iload_n (k := 3) (by decide +kernel : decode prog_7_method_5_code 56 = .ok (.iload_n 3, 1)))))
       (sd_br
        (sd_lf (sd_icmp_ne (by decide +kernel : decode prog_7_method_5_code 57 = .ok (.if_icmp .ne 6, 3)) (by decide +kernel)))
        (sd_lf (sd_aload (by decide +kernel : decode prog_7_method_5_code 60 = .ok (.aload 5, 2))))))
      (sd_br
       (sd_br
        (sd_lf (sd_aret (by decide +kernel : decode prog_7_method_5_code 62 = .ok (.areturn, 1)) rfl (Or.inl ⟨_, rfl⟩)))
        (sd_lf (sd_iinc (by decide +kernel : decode prog_7_method_5_code 63 = .ok (.iinc 4 1, 3)) (by decide +kernel))))
       (sd_br
        (sd_lf (sd_goto (by decide +kernel : decode prog_7_method_5_code 66 = .ok (.goto (-57), 3)) (by decide +kernel)))
        (sd_br
         (sd_lf (sd_null (by decide +kernel : decode prog_7_method_5_code 69 = .ok (.aconst_null, 1))))
         (sd_lf (sd_aret (by decide +kernel : decode prog_7_method_5_code 70 = .ok (.areturn, 1)) rfl (Or.inl ⟨_, rfl⟩)))))))))
def k_Mp_contactPlace (l : Launch) (G : Gc) (pc : Nat) : Tr :=
  if pc < 19 then
   if pc < 7 then
    if pc < 2 then
     if pc < 1 then
      if pc = 0 then tz_const 1 (.int (nI 0)) else dead
     else
      if pc = 1 then tz_istore 2 2 else dead
    else
     if pc < 3 then
      if pc = 2 then tz_iload 3 2 else dead
     else
      if pc < 4 then
       if pc = 3 then tz_aload 4 0 else dead
      else
       if pc = 4 then tz_getf 7 0 5 0 else dead
   else
    if pc < 12 then
     if pc < 10 then
      if pc = 7 then tz_icmp 10 37 (fun a b => b ≤ a) else dead
     else
      if pc < 11 then
       if pc = 10 then tz_iload 11 2 else dead
      else
       if pc = 11 then tz_aload 12 0 else dead
    else
     if pc < 15 then
      if pc = 12 then tz_getf 15 0 4 1 else dead
     else
      if pc < 16 then
       if pc = 15 then tz_alen 16 else dead
      else
       if pc = 16 then tz_icmp 19 37 (fun a b => b ≤ a) else dead
  else
   if pc < 29 then
    if pc < 24 then
     if pc < 20 then
      if pc = 19 then tz_aload 20 0 else dead
     else
      if pc < 23 then
       if pc = 20 then tz_getf 23 0 4 1 else dead
      else
       if pc = 23 then tz_iload 24 2 else dead
    else
     if pc < 25 then
      if pc = 24 then tz_iaload 25 else dead
     else
      if pc < 26 then
       if pc = 25 then tz_iload 26 1 else dead
      else
       if pc = 26 then tz_icmp 29 31 (fun a b => ¬ a = b) else dead
   else
    if pc < 34 then
     if pc < 30 then
      if pc = 29 then tz_iload 30 2 else dead
     else
      if pc < 31 then
       if pc = 30 then tz_iret else dead
      else
       if pc = 31 then tz_iinc 34 2 (nI 1) else dead
    else
     if pc < 37 then
      if pc = 34 then tz_goto 2 else dead
     else
      if pc < 38 then
       if pc = 37 then tz_const 38 (.int (nN)) else dead
      else
       if pc = 38 then tz_iret else dead
set_option maxRecDepth 100000 in
theorem T_Mp_contactPlace (l : Launch) (G : Gc) : TabOK l G M_Mp_contactPlace (k_Mp_contactPlace l G) := by
  intro pc
  unfold k_Mp_contactPlace
  exact
   (sd_br
    (sd_br
     (sd_br
      (sd_br
       (sd_lf (sd_iconst (by decide +kernel : decode prog_2_method_5_code 0 = .ok (.iconst 0, 1)) (by decide +kernel)))
       (sd_lf (sd_istore_n (k := 2) (by decide +kernel : decode prog_2_method_5_code 1 = .ok (.istore_n 2, 1)))))
      (sd_br
       (sd_lf (sd_iload_n (k := 2) (by decide +kernel : decode prog_2_method_5_code 2 = .ok (.iload_n 2, 1))))
       (sd_br
        (sd_lf (sd_aload_n (k := 0) (by decide +kernel : decode prog_2_method_5_code 3 = .ok (.aload_n 0, 1))))
        (sd_lf (sd_getf (q := (RX0, TX0, 6)) (by decide +kernel : decode prog_2_method_5_code 4 = .ok (.getfield 28, 3)) rfl (by decide +kernel) (gm 316 (by decide +kernel) rfl))))))
     (sd_br
      (sd_br
       (sd_lf (sd_icmp_ge (by decide +kernel : decode prog_2_method_5_code 7 = .ok (.if_icmp .ge 30, 3)) (by decide +kernel)))
       (sd_br
        (sd_lf (sd_iload_n (k := 2) (by decide +kernel : decode prog_2_method_5_code 10 = .ok (.iload_n 2, 1))))
        (sd_lf (sd_aload_n (k := 0) (by decide +kernel : decode prog_2_method_5_code 11 = .ok (.aload_n 0, 1))))))
      (sd_br
       (sd_lf (sd_getf (q := (RX0, TX0, 6)) (by decide +kernel : decode prog_2_method_5_code 12 = .ok (.getfield 24, 3)) rfl (by decide +kernel) (gm 315 (by decide +kernel) rfl)))
       (sd_br
        (sd_lf (sd_alen (by decide +kernel : decode prog_2_method_5_code 15 = .ok (.arraylength, 1))))
        (sd_lf (sd_icmp_ge (by decide +kernel : decode prog_2_method_5_code 16 = .ok (.if_icmp .ge 21, 3)) (by decide +kernel)))))))
    (sd_br
     (sd_br
      (sd_br
       (sd_lf (sd_aload_n (k := 0) (by decide +kernel : decode prog_2_method_5_code 19 = .ok (.aload_n 0, 1))))
       (sd_br
        (sd_lf (sd_getf (q := (RX0, TX0, 6)) (by decide +kernel : decode prog_2_method_5_code 20 = .ok (.getfield 24, 3)) rfl (by decide +kernel) (gm 315 (by decide +kernel) rfl)))
        (sd_lf (sd_iload_n (k := 2) (by decide +kernel : decode prog_2_method_5_code 23 = .ok (.iload_n 2, 1))))))
      (sd_br
       (sd_lf (sd_iaload (by decide +kernel : decode prog_2_method_5_code 24 = .ok (.iaload, 1))))
       (sd_br
        (sd_lf (sd_iload_n (k := 1) (by decide +kernel : decode prog_2_method_5_code 25 = .ok (.iload_n 1, 1))))
        (sd_lf (sd_icmp_ne (by decide +kernel : decode prog_2_method_5_code 26 = .ok (.if_icmp .ne 5, 3)) (by decide +kernel))))))
     (sd_br
      (sd_br
       (sd_lf (sd_iload_n (k := 2) (by decide +kernel : decode prog_2_method_5_code 29 = .ok (.iload_n 2, 1))))
       (sd_br
        (sd_lf (sd_iret (by decide +kernel : decode prog_2_method_5_code 30 = .ok (.ireturn, 1)) rfl))
        (sd_lf (sd_iinc (by decide +kernel : decode prog_2_method_5_code 31 = .ok (.iinc 2 1, 3)) (by decide +kernel)))))
      (sd_br
       (sd_lf (sd_goto (by decide +kernel : decode prog_2_method_5_code 34 = .ok (.goto (-32), 3)) (by decide +kernel)))
       (sd_br
        (sd_lf (sd_iconst (by decide +kernel : decode prog_2_method_5_code 37 = .ok (.iconst (-1), 1)) (by decide +kernel)))
        (sd_lf (sd_iret (by decide +kernel : decode prog_2_method_5_code 38 = .ok (.ireturn, 1)) rfl)))))))
def k_Mp_hasContactAt (l : Launch) (G : Gc) (pc : Nat) : Tr :=
  if pc < 20 then
   if pc < 10 then
    if pc < 3 then
     if pc < 1 then
      if pc = 0 then tz_const 1 (.int (nI 0)) else dead
     else
      if pc < 2 then
       if pc = 1 then tz_istore 2 2 else dead
      else
       if pc = 2 then tz_iload 3 2 else dead
    else
     if pc < 4 then
      if pc = 3 then tz_aload 4 0 else dead
     else
      if pc < 7 then
       if pc = 4 then tz_getf 7 0 5 0 else dead
      else
       if pc = 7 then tz_icmp 10 40 (fun a b => b ≤ a) else dead
   else
    if pc < 15 then
     if pc < 11 then
      if pc = 10 then tz_iload 11 2 else dead
     else
      if pc < 12 then
       if pc = 11 then tz_aload 12 0 else dead
      else
       if pc = 12 then tz_getf 15 0 4 1 else dead
    else
     if pc < 16 then
      if pc = 15 then tz_alen 16 else dead
     else
      if pc < 19 then
       if pc = 16 then tz_icmp 19 40 (fun a b => b ≤ a) else dead
      else
       if pc = 19 then tz_aload 20 0 else dead
  else
   if pc < 32 then
    if pc < 25 then
     if pc < 23 then
      if pc = 20 then tz_getf 23 0 4 1 else dead
     else
      if pc < 24 then
       if pc = 23 then tz_iload 24 2 else dead
      else
       if pc = 24 then tz_iaload 25 else dead
    else
     if pc < 28 then
      if pc = 25 then tz_pureS 28 1 P_Hp_nodeOf f_Hp_nodeOf else dead
     else
      if pc < 29 then
       if pc = 28 then tz_iload 29 1 else dead
      else
       if pc = 29 then tz_icmp 32 34 (fun a b => ¬ a = b) else dead
   else
    if pc < 37 then
     if pc < 33 then
      if pc = 32 then tz_const 33 (.int (nI 1)) else dead
     else
      if pc < 34 then
       if pc = 33 then tz_zret else dead
      else
       if pc = 34 then tz_iinc 37 2 (nI 1) else dead
    else
     if pc < 40 then
      if pc = 37 then tz_goto 2 else dead
     else
      if pc < 41 then
       if pc = 40 then tz_const 41 (.int (nI 0)) else dead
      else
       if pc = 41 then tz_zret else dead
set_option maxRecDepth 100000 in
theorem T_Mp_hasContactAt (l : Launch) (G : Gc) : TabOK l G M_Mp_hasContactAt (k_Mp_hasContactAt l G) := by
  intro pc
  unfold k_Mp_hasContactAt
  exact
   (sd_br
    (sd_br
     (sd_br
      (sd_br
       (sd_lf (sd_iconst (by decide +kernel : decode prog_2_method_7_code 0 = .ok (.iconst 0, 1)) (by decide +kernel)))
       (sd_br
        (sd_lf (sd_istore_n (k := 2) (by decide +kernel : decode prog_2_method_7_code 1 = .ok (.istore_n 2, 1))))
        (sd_lf (sd_iload_n (k := 2) (by decide +kernel : decode prog_2_method_7_code 2 = .ok (.iload_n 2, 1))))))
      (sd_br
       (sd_lf (sd_aload_n (k := 0) (by decide +kernel : decode prog_2_method_7_code 3 = .ok (.aload_n 0, 1))))
       (sd_br
        (sd_lf (sd_getf (q := (RX0, TX0, 6)) (by decide +kernel : decode prog_2_method_7_code 4 = .ok (.getfield 28, 3)) rfl (by decide +kernel) (gm 316 (by decide +kernel) rfl)))
        (sd_lf (sd_icmp_ge (by decide +kernel : decode prog_2_method_7_code 7 = .ok (.if_icmp .ge 33, 3)) (by decide +kernel))))))
     (sd_br
      (sd_br
       (sd_lf (sd_iload_n (k := 2) (by decide +kernel : decode prog_2_method_7_code 10 = .ok (.iload_n 2, 1))))
       (sd_br
        (sd_lf (sd_aload_n (k := 0) (by decide +kernel : decode prog_2_method_7_code 11 = .ok (.aload_n 0, 1))))
        (sd_lf (sd_getf (q := (RX0, TX0, 6)) (by decide +kernel : decode prog_2_method_7_code 12 = .ok (.getfield 24, 3)) rfl (by decide +kernel) (gm 315 (by decide +kernel) rfl)))))
      (sd_br
       (sd_lf (sd_alen (by decide +kernel : decode prog_2_method_7_code 15 = .ok (.arraylength, 1))))
       (sd_br
        (sd_lf (sd_icmp_ge (by decide +kernel : decode prog_2_method_7_code 16 = .ok (.if_icmp .ge 24, 3)) (by decide +kernel)))
        (sd_lf (sd_aload_n (k := 0) (by decide +kernel : decode prog_2_method_7_code 19 = .ok (.aload_n 0, 1))))))))
    (sd_br
     (sd_br
      (sd_br
       (sd_lf (sd_getf (q := (RX0, TX0, 6)) (by decide +kernel : decode prog_2_method_7_code 20 = .ok (.getfield 24, 3)) rfl (by decide +kernel) (gm 315 (by decide +kernel) rfl)))
       (sd_br
        (sd_lf (sd_iload_n (k := 2) (by decide +kernel : decode prog_2_method_7_code 23 = .ok (.iload_n 2, 1))))
        (sd_lf (sd_iaload (by decide +kernel : decode prog_2_method_7_code 24 = .ok (.iaload, 1))))))
      (sd_br
       (sd_lf (sd_pureSN (sd_callSN (host := "HolePuncher") (by decide +kernel : decode prog_2_method_7_code 25 = .ok (.invokestatic 45, 3)) ok_Hp_nodeOf (List.mem_of_getElem? (i := 407) (by decide +kernel)) (gm 449 (by decide +kernel) rfl) (by decide +kernel) rfl rfl) c_Hp_nodeOf))
       (sd_br
        (sd_lf (sd_iload_n (k := 1) (by decide +kernel : decode prog_2_method_7_code 28 = .ok (.iload_n 1, 1))))
        (sd_lf (sd_icmp_ne (by decide +kernel : decode prog_2_method_7_code 29 = .ok (.if_icmp .ne 5, 3)) (by decide +kernel))))))
     (sd_br
      (sd_br
       (sd_lf (sd_iconst (by decide +kernel : decode prog_2_method_7_code 32 = .ok (.iconst 1, 1)) (by decide +kernel)))
       (sd_br
        (sd_lf (sd_zret (by decide +kernel : decode prog_2_method_7_code 33 = .ok (.ireturn, 1)) rfl))
        (sd_lf (sd_iinc (by decide +kernel : decode prog_2_method_7_code 34 = .ok (.iinc 2 1, 3)) (by decide +kernel)))))
      (sd_br
       (sd_lf (sd_goto (by decide +kernel : decode prog_2_method_7_code 37 = .ok (.goto (-35), 3)) (by decide +kernel)))
       (sd_br
        (sd_lf (sd_iconst (by decide +kernel : decode prog_2_method_7_code 40 = .ok (.iconst 0, 1)) (by decide +kernel)))
        (sd_lf (sd_zret (by decide +kernel : decode prog_2_method_7_code 41 = .ok (.ireturn, 1)) rfl)))))))
/-- the mapping in slot j -/
def mpO (h : AH) (t j : Nat) : Nat := (hR h (mM h t) j).getD 0
/-- the first s slots hold mappings -/
def SlK (h : AH) (t s : Nat) : Prop := TlK h t ∧ hI h t 10 = nI s ∧ s ≤ 8 ∧ ∀ j, j < s → hR h (mM h t) j = some (mpO h t j) ∧ tg h (mpO h t j) = 0
section
variable {l : Launch} {G : Gc}
theorem lp_mi {t s : Nat} {p : Int32} {h : AH} {Q : Po} (hk : SlK h t s) (q1 : (∀ j, j < s → ¬ hI h (mpO h t j) 1 = p) → Q (.inl (some .null)) h) (q2 : ∀ j, j < s → hI h (mpO h t j) 1 = p → (∀ i, i < j → ¬ hI h (mpO h t i) 1 = p) → Q (.inl (some (.ref (mpO h t j)))) h) :
    ∀ (d i : Nat) (v : Option Value), i + d = s → (∀ j, j < i → ¬ hI h (mpO h t j) 1 = p) → AWp l G M_Tl_mappingIn 2 [some (.ref t), some (.int p), some (.int (nI i)), v] [] h Q := by
  obtain ⟨⟨h1, h2, h3, h4⟩, h5, h6, h7⟩ := hk
  intro d
  induction d with
  | zero =>
    intro i v e hno
    have ei : s ≤ i := by omega
    ((obtain ⟨W9, hW9, hgo9⟩ := wp_ex (T_Tl_mappingIn l G) [2] _; refine hgo9 200 _ _ _ _ ?_; simp -implicitDefEqProofs (disch := omega) only [hW9, inl, gate, Xq, tz_const, tz_iload, tz_lload, tz_dload, tz_aload, tz_istore, tz_astore, tz_lstore, tz_dstore, tz_iinc, tz_i1, tz_i2, tz_i2z, tz_l2, tz_l2z, tz_i2l, tz_l2i, tz_lcmp, tz_i2d, tz_d2, tz_dcmp, tz_dup, tz_dup2, tz_pop, tz_if, tz_icmp, tz_null, tz_goto, tz_sw, tz_getf, tz_puti, tz_putz, tz_putr, tz_putl, tz_iaload, tz_baload, tz_laload, tz_aaload, tz_iastore, tz_bastore, tz_lastore, tz_aastore, tz_alen, tz_new, tz_newa, tz_oinit, tz_iret, tz_zret, tz_lret, tz_dret, tz_aret, tz_vret, tz_throw, tz_callS, tz_callV, tz_callI, tz_callR, tz_pureS, tz_pureV, tz_callVH, lg, lset, lkill, lst1, lst2, entL, isRf, is1, vl, va_rf_none, va_rf_some, isRf_rf, is1_rf, i0, i1, bI_eq0, bI_eq1, nm_em, nI_eqP, nI_leP, nI_ltP, nN_e1, nN_e2, nN_l1, nN_l2, nN_l3, nN_l4, nI_add, pk_mul, vp_inN, nI_cl, n01, n10, P_i, P_ii, P_iii, f_Mo_at, f_Mo_map, f_Mo_contact, f_Mo_within, f_Mo_isPort, f_Hp_endpoint, f_Hp_nodeOf, f_Hp_portOf, f_Ma_max, f_Ma_min, f_Hp_isSetting, popN, rok, a1, noX, swc, mL, if_true, if_false, ↓reduceIte, cond_true, cond_false, true_and, and_true, List.length_cons, List.length_nil, List.nil_append, List.cons_append, List.append_nil, Option.toList, Nat.reduceEqDiff, Bool.false_eq_true, reduceCtorEq, Nat.reduceAdd, Nat.reduceLT, Nat.reduceLeDiff, Nat.reduceSub, List.replicate, Nat.zero_add, Nat.lt_add_one, Nat.le_refl, Nat.zero_le, Nat.succ_ne_zero, not_false_eq_true, not_true_eq_false, false_implies, true_implies, forall_const, imp_self, true_or, or_true, eq_self, sI_zw, zw_zw, hI_zw, tg_zw, ln_zw, hR_zw, hL_zw, hN_zw, hM_zw, upd_s, upd_u, upd_ne, Classical.not_not, k_Tl_mappingIn, h1, h2, h3, h4, h5, ei]; try clear hgo9 hW9); try (obtain ⟨W9, hW9, hgo9⟩ := wp_ex (T_Tl_mappingIn l G) [2] _; refine hgo9 200 _ _ _ _ ?_; simp -implicitDefEqProofs (disch := omega) only [hW9, inl, gate, Xq, tz_const, tz_iload, tz_lload, tz_dload, tz_aload, tz_istore, tz_astore, tz_lstore, tz_dstore, tz_iinc, tz_i1, tz_i2, tz_i2z, tz_l2, tz_l2z, tz_i2l, tz_l2i, tz_lcmp, tz_i2d, tz_d2, tz_dcmp, tz_dup, tz_dup2, tz_pop, tz_if, tz_icmp, tz_null, tz_goto, tz_sw, tz_getf, tz_puti, tz_putz, tz_putr, tz_putl, tz_iaload, tz_baload, tz_laload, tz_aaload, tz_iastore, tz_bastore, tz_lastore, tz_aastore, tz_alen, tz_new, tz_newa, tz_oinit, tz_iret, tz_zret, tz_lret, tz_dret, tz_aret, tz_vret, tz_throw, tz_callS, tz_callV, tz_callI, tz_callR, tz_pureS, tz_pureV, tz_callVH, lg, lset, lkill, lst1, lst2, entL, isRf, is1, vl, va_rf_none, va_rf_some, isRf_rf, is1_rf, i0, i1, bI_eq0, bI_eq1, nm_em, nI_eqP, nI_leP, nI_ltP, nN_e1, nN_e2, nN_l1, nN_l2, nN_l3, nN_l4, nI_add, pk_mul, vp_inN, nI_cl, n01, n10, P_i, P_ii, P_iii, f_Mo_at, f_Mo_map, f_Mo_contact, f_Mo_within, f_Mo_isPort, f_Hp_endpoint, f_Hp_nodeOf, f_Hp_portOf, f_Ma_max, f_Ma_min, f_Hp_isSetting, popN, rok, a1, noX, swc, mL, if_true, if_false, ↓reduceIte, cond_true, cond_false, true_and, and_true, List.length_cons, List.length_nil, List.nil_append, List.cons_append, List.append_nil, Option.toList, Nat.reduceEqDiff, Bool.false_eq_true, reduceCtorEq, Nat.reduceAdd, Nat.reduceLT, Nat.reduceLeDiff, Nat.reduceSub, List.replicate, Nat.zero_add, Nat.lt_add_one, Nat.le_refl, Nat.zero_le, Nat.succ_ne_zero, not_false_eq_true, not_true_eq_false, false_implies, true_implies, forall_const, imp_self, true_or, or_true, eq_self, sI_zw, zw_zw, hI_zw, tg_zw, ln_zw, hR_zw, hL_zw, hN_zw, hM_zw, upd_s, upd_u, upd_ne, Classical.not_not, k_Tl_mappingIn, h1, h2, h3, h4, h5, ei]; try clear hgo9 hW9))
    exact q1 (fun j hj => hno j (by omega))
  | succ d ih =>
    intro i v e hno
    have ei : ¬ s ≤ i := by omega
    have ei8 : ¬ 8 ≤ i := by omega
    obtain ⟨g1, g2⟩ := h7 i (by omega)
    ((obtain ⟨W9, hW9, hgo9⟩ := wp_ex (T_Tl_mappingIn l G) [2] _; refine hgo9 200 _ _ _ _ ?_; simp -implicitDefEqProofs (disch := omega) only [hW9, inl, gate, Xq, tz_const, tz_iload, tz_lload, tz_dload, tz_aload, tz_istore, tz_astore, tz_lstore, tz_dstore, tz_iinc, tz_i1, tz_i2, tz_i2z, tz_l2, tz_l2z, tz_i2l, tz_l2i, tz_lcmp, tz_i2d, tz_d2, tz_dcmp, tz_dup, tz_dup2, tz_pop, tz_if, tz_icmp, tz_null, tz_goto, tz_sw, tz_getf, tz_puti, tz_putz, tz_putr, tz_putl, tz_iaload, tz_baload, tz_laload, tz_aaload, tz_iastore, tz_bastore, tz_lastore, tz_aastore, tz_alen, tz_new, tz_newa, tz_oinit, tz_iret, tz_zret, tz_lret, tz_dret, tz_aret, tz_vret, tz_throw, tz_callS, tz_callV, tz_callI, tz_callR, tz_pureS, tz_pureV, tz_callVH, lg, lset, lkill, lst1, lst2, entL, isRf, is1, vl, va_rf_none, va_rf_some, isRf_rf, is1_rf, i0, i1, bI_eq0, bI_eq1, nm_em, nI_eqP, nI_leP, nI_ltP, nN_e1, nN_e2, nN_l1, nN_l2, nN_l3, nN_l4, nI_add, pk_mul, vp_inN, nI_cl, n01, n10, P_i, P_ii, P_iii, f_Mo_at, f_Mo_map, f_Mo_contact, f_Mo_within, f_Mo_isPort, f_Hp_endpoint, f_Hp_nodeOf, f_Hp_portOf, f_Ma_max, f_Ma_min, f_Hp_isSetting, popN, rok, a1, noX, swc, mL, if_true, if_false, ↓reduceIte, cond_true, cond_false, true_and, and_true, List.length_cons, List.length_nil, List.nil_append, List.cons_append, List.append_nil, Option.toList, Nat.reduceEqDiff, Bool.false_eq_true, reduceCtorEq, Nat.reduceAdd, Nat.reduceLT, Nat.reduceLeDiff, Nat.reduceSub, List.replicate, Nat.zero_add, Nat.lt_add_one, Nat.le_refl, Nat.zero_le, Nat.succ_ne_zero, not_false_eq_true, not_true_eq_false, false_implies, true_implies, forall_const, imp_self, true_or, or_true, eq_self, sI_zw, zw_zw, hI_zw, tg_zw, ln_zw, hR_zw, hL_zw, hN_zw, hM_zw, upd_s, upd_u, upd_ne, Classical.not_not, k_Tl_mappingIn, h1, h2, h3, h4, h5, ei, ei8, g1, g2]; try clear hgo9 hW9); try (obtain ⟨W9, hW9, hgo9⟩ := wp_ex (T_Tl_mappingIn l G) [2] _; refine hgo9 200 _ _ _ _ ?_; simp -implicitDefEqProofs (disch := omega) only [hW9, inl, gate, Xq, tz_const, tz_iload, tz_lload, tz_dload, tz_aload, tz_istore, tz_astore, tz_lstore, tz_dstore, tz_iinc, tz_i1, tz_i2, tz_i2z, tz_l2, tz_l2z, tz_i2l, tz_l2i, tz_lcmp, tz_i2d, tz_d2, tz_dcmp, tz_dup, tz_dup2, tz_pop, tz_if, tz_icmp, tz_null, tz_goto, tz_sw, tz_getf, tz_puti, tz_putz, tz_putr, tz_putl, tz_iaload, tz_baload, tz_laload, tz_aaload, tz_iastore, tz_bastore, tz_lastore, tz_aastore, tz_alen, tz_new, tz_newa, tz_oinit, tz_iret, tz_zret, tz_lret, tz_dret, tz_aret, tz_vret, tz_throw, tz_callS, tz_callV, tz_callI, tz_callR, tz_pureS, tz_pureV, tz_callVH, lg, lset, lkill, lst1, lst2, entL, isRf, is1, vl, va_rf_none, va_rf_some, isRf_rf, is1_rf, i0, i1, bI_eq0, bI_eq1, nm_em, nI_eqP, nI_leP, nI_ltP, nN_e1, nN_e2, nN_l1, nN_l2, nN_l3, nN_l4, nI_add, pk_mul, vp_inN, nI_cl, n01, n10, P_i, P_ii, P_iii, f_Mo_at, f_Mo_map, f_Mo_contact, f_Mo_within, f_Mo_isPort, f_Hp_endpoint, f_Hp_nodeOf, f_Hp_portOf, f_Ma_max, f_Ma_min, f_Hp_isSetting, popN, rok, a1, noX, swc, mL, if_true, if_false, ↓reduceIte, cond_true, cond_false, true_and, and_true, List.length_cons, List.length_nil, List.nil_append, List.cons_append, List.append_nil, Option.toList, Nat.reduceEqDiff, Bool.false_eq_true, reduceCtorEq, Nat.reduceAdd, Nat.reduceLT, Nat.reduceLeDiff, Nat.reduceSub, List.replicate, Nat.zero_add, Nat.lt_add_one, Nat.le_refl, Nat.zero_le, Nat.succ_ne_zero, not_false_eq_true, not_true_eq_false, false_implies, true_implies, forall_const, imp_self, true_or, or_true, eq_self, sI_zw, zw_zw, hI_zw, tg_zw, ln_zw, hR_zw, hL_zw, hN_zw, hM_zw, upd_s, upd_u, upd_ne, Classical.not_not, k_Tl_mappingIn, h1, h2, h3, h4, h5, ei, ei8, g1, g2]; try clear hgo9 hW9); try (obtain ⟨W9, hW9, hgo9⟩ := wp_ex (T_Tl_mappingIn l G) [2] _; refine hgo9 200 _ _ _ _ ?_; simp -implicitDefEqProofs (disch := omega) only [hW9, inl, gate, Xq, tz_const, tz_iload, tz_lload, tz_dload, tz_aload, tz_istore, tz_astore, tz_lstore, tz_dstore, tz_iinc, tz_i1, tz_i2, tz_i2z, tz_l2, tz_l2z, tz_i2l, tz_l2i, tz_lcmp, tz_i2d, tz_d2, tz_dcmp, tz_dup, tz_dup2, tz_pop, tz_if, tz_icmp, tz_null, tz_goto, tz_sw, tz_getf, tz_puti, tz_putz, tz_putr, tz_putl, tz_iaload, tz_baload, tz_laload, tz_aaload, tz_iastore, tz_bastore, tz_lastore, tz_aastore, tz_alen, tz_new, tz_newa, tz_oinit, tz_iret, tz_zret, tz_lret, tz_dret, tz_aret, tz_vret, tz_throw, tz_callS, tz_callV, tz_callI, tz_callR, tz_pureS, tz_pureV, tz_callVH, lg, lset, lkill, lst1, lst2, entL, isRf, is1, vl, va_rf_none, va_rf_some, isRf_rf, is1_rf, i0, i1, bI_eq0, bI_eq1, nm_em, nI_eqP, nI_leP, nI_ltP, nN_e1, nN_e2, nN_l1, nN_l2, nN_l3, nN_l4, nI_add, pk_mul, vp_inN, nI_cl, n01, n10, P_i, P_ii, P_iii, f_Mo_at, f_Mo_map, f_Mo_contact, f_Mo_within, f_Mo_isPort, f_Hp_endpoint, f_Hp_nodeOf, f_Hp_portOf, f_Ma_max, f_Ma_min, f_Hp_isSetting, popN, rok, a1, noX, swc, mL, if_true, if_false, ↓reduceIte, cond_true, cond_false, true_and, and_true, List.length_cons, List.length_nil, List.nil_append, List.cons_append, List.append_nil, Option.toList, Nat.reduceEqDiff, Bool.false_eq_true, reduceCtorEq, Nat.reduceAdd, Nat.reduceLT, Nat.reduceLeDiff, Nat.reduceSub, List.replicate, Nat.zero_add, Nat.lt_add_one, Nat.le_refl, Nat.zero_le, Nat.succ_ne_zero, not_false_eq_true, not_true_eq_false, false_implies, true_implies, forall_const, imp_self, true_or, or_true, eq_self, sI_zw, zw_zw, hI_zw, tg_zw, ln_zw, hR_zw, hL_zw, hN_zw, hM_zw, upd_s, upd_u, upd_ne, Classical.not_not, k_Tl_mappingIn, h1, h2, h3, h4, h5, ei, ei8, g1, g2]; try clear hgo9 hW9))
    refine ⟨fun c => ?_, fun c => ?_⟩
    · (obtain ⟨W9, hW9, hgo9⟩ := wp_ex (T_Tl_mappingIn l G) [2] _; refine hgo9 200 _ _ _ _ ?_; simp -implicitDefEqProofs (disch := omega) only [hW9, inl, gate, Xq, tz_const, tz_iload, tz_lload, tz_dload, tz_aload, tz_istore, tz_astore, tz_lstore, tz_dstore, tz_iinc, tz_i1, tz_i2, tz_i2z, tz_l2, tz_l2z, tz_i2l, tz_l2i, tz_lcmp, tz_i2d, tz_d2, tz_dcmp, tz_dup, tz_dup2, tz_pop, tz_if, tz_icmp, tz_null, tz_goto, tz_sw, tz_getf, tz_puti, tz_putz, tz_putr, tz_putl, tz_iaload, tz_baload, tz_laload, tz_aaload, tz_iastore, tz_bastore, tz_lastore, tz_aastore, tz_alen, tz_new, tz_newa, tz_oinit, tz_iret, tz_zret, tz_lret, tz_dret, tz_aret, tz_vret, tz_throw, tz_callS, tz_callV, tz_callI, tz_callR, tz_pureS, tz_pureV, tz_callVH, lg, lset, lkill, lst1, lst2, entL, isRf, is1, vl, va_rf_none, va_rf_some, isRf_rf, is1_rf, i0, i1, bI_eq0, bI_eq1, nm_em, nI_eqP, nI_leP, nI_ltP, nN_e1, nN_e2, nN_l1, nN_l2, nN_l3, nN_l4, nI_add, pk_mul, vp_inN, nI_cl, n01, n10, P_i, P_ii, P_iii, f_Mo_at, f_Mo_map, f_Mo_contact, f_Mo_within, f_Mo_isPort, f_Hp_endpoint, f_Hp_nodeOf, f_Hp_portOf, f_Ma_max, f_Ma_min, f_Hp_isSetting, popN, rok, a1, noX, swc, mL, if_true, if_false, ↓reduceIte, cond_true, cond_false, true_and, and_true, List.length_cons, List.length_nil, List.nil_append, List.cons_append, List.append_nil, Option.toList, Nat.reduceEqDiff, Bool.false_eq_true, reduceCtorEq, Nat.reduceAdd, Nat.reduceLT, Nat.reduceLeDiff, Nat.reduceSub, List.replicate, Nat.zero_add, Nat.lt_add_one, Nat.le_refl, Nat.zero_le, Nat.succ_ne_zero, not_false_eq_true, not_true_eq_false, false_implies, true_implies, forall_const, imp_self, true_or, or_true, eq_self, sI_zw, zw_zw, hI_zw, tg_zw, ln_zw, hR_zw, hL_zw, hN_zw, hM_zw, upd_s, upd_u, upd_ne, Classical.not_not, k_Tl_mappingIn, h1]; try clear hgo9 hW9)
      refine ih (i + 1) _ (by omega) (fun j hj => ?_)
      by_cases e2 : j = i
      · rw [e2]; exact c
      · exact hno j (by omega)
    · (obtain ⟨W9, hW9, hgo9⟩ := wp_ex (T_Tl_mappingIn l G) [2] _; refine hgo9 200 _ _ _ _ ?_; simp -implicitDefEqProofs (disch := omega) only [hW9, inl, gate, Xq, tz_const, tz_iload, tz_lload, tz_dload, tz_aload, tz_istore, tz_astore, tz_lstore, tz_dstore, tz_iinc, tz_i1, tz_i2, tz_i2z, tz_l2, tz_l2z, tz_i2l, tz_l2i, tz_lcmp, tz_i2d, tz_d2, tz_dcmp, tz_dup, tz_dup2, tz_pop, tz_if, tz_icmp, tz_null, tz_goto, tz_sw, tz_getf, tz_puti, tz_putz, tz_putr, tz_putl, tz_iaload, tz_baload, tz_laload, tz_aaload, tz_iastore, tz_bastore, tz_lastore, tz_aastore, tz_alen, tz_new, tz_newa, tz_oinit, tz_iret, tz_zret, tz_lret, tz_dret, tz_aret, tz_vret, tz_throw, tz_callS, tz_callV, tz_callI, tz_callR, tz_pureS, tz_pureV, tz_callVH, lg, lset, lkill, lst1, lst2, entL, isRf, is1, vl, va_rf_none, va_rf_some, isRf_rf, is1_rf, i0, i1, bI_eq0, bI_eq1, nm_em, nI_eqP, nI_leP, nI_ltP, nN_e1, nN_e2, nN_l1, nN_l2, nN_l3, nN_l4, nI_add, pk_mul, vp_inN, nI_cl, n01, n10, P_i, P_ii, P_iii, f_Mo_at, f_Mo_map, f_Mo_contact, f_Mo_within, f_Mo_isPort, f_Hp_endpoint, f_Hp_nodeOf, f_Hp_portOf, f_Ma_max, f_Ma_min, f_Hp_isSetting, popN, rok, a1, noX, swc, mL, if_true, if_false, ↓reduceIte, cond_true, cond_false, true_and, and_true, List.length_cons, List.length_nil, List.nil_append, List.cons_append, List.append_nil, Option.toList, Nat.reduceEqDiff, Bool.false_eq_true, reduceCtorEq, Nat.reduceAdd, Nat.reduceLT, Nat.reduceLeDiff, Nat.reduceSub, List.replicate, Nat.zero_add, Nat.lt_add_one, Nat.le_refl, Nat.zero_le, Nat.succ_ne_zero, not_false_eq_true, not_true_eq_false, false_implies, true_implies, forall_const, imp_self, true_or, or_true, eq_self, sI_zw, zw_zw, hI_zw, tg_zw, ln_zw, hR_zw, hL_zw, hN_zw, hM_zw, upd_s, upd_u, upd_ne, Classical.not_not, k_Tl_mappingIn, h1]; try clear hgo9 hW9)
      exact q2 i (by omega) c hno
theorem c_Tl_mappingIn (t s : Nat) (p : Int32) (h : AH) (Q : Po) (hk : SlK h t s) (q1 : (∀ j, j < s → ¬ hI h (mpO h t j) 1 = p) → Q (.inl (some .null)) h) (q2 : ∀ j, j < s → hI h (mpO h t j) 1 = p → (∀ i, i < j → ¬ hI h (mpO h t i) 1 = p) → Q (.inl (some (.ref (mpO h t j)))) h) : Call l G M_Tl_mappingIn [.ref t, .int p] h Q := by
  refine call_of rfl rfl (Nat.le_of_ble_eq_true rfl) ?_
  (obtain ⟨W9, hW9, hgo9⟩ := wp_ex (T_Tl_mappingIn l G) [2] _; refine hgo9 200 _ _ _ _ ?_; simp -implicitDefEqProofs (disch := omega) only [hW9, inl, gate, Xq, tz_const, tz_iload, tz_lload, tz_dload, tz_aload, tz_istore, tz_astore, tz_lstore, tz_dstore, tz_iinc, tz_i1, tz_i2, tz_i2z, tz_l2, tz_l2z, tz_i2l, tz_l2i, tz_lcmp, tz_i2d, tz_d2, tz_dcmp, tz_dup, tz_dup2, tz_pop, tz_if, tz_icmp, tz_null, tz_goto, tz_sw, tz_getf, tz_puti, tz_putz, tz_putr, tz_putl, tz_iaload, tz_baload, tz_laload, tz_aaload, tz_iastore, tz_bastore, tz_lastore, tz_aastore, tz_alen, tz_new, tz_newa, tz_oinit, tz_iret, tz_zret, tz_lret, tz_dret, tz_aret, tz_vret, tz_throw, tz_callS, tz_callV, tz_callI, tz_callR, tz_pureS, tz_pureV, tz_callVH, lg, lset, lkill, lst1, lst2, entL, isRf, is1, vl, va_rf_none, va_rf_some, isRf_rf, is1_rf, i0, i1, bI_eq0, bI_eq1, nm_em, nI_eqP, nI_leP, nI_ltP, nN_e1, nN_e2, nN_l1, nN_l2, nN_l3, nN_l4, nI_add, pk_mul, vp_inN, nI_cl, n01, n10, P_i, P_ii, P_iii, f_Mo_at, f_Mo_map, f_Mo_contact, f_Mo_within, f_Mo_isPort, f_Hp_endpoint, f_Hp_nodeOf, f_Hp_portOf, f_Ma_max, f_Ma_min, f_Hp_isSetting, popN, rok, a1, noX, swc, mL, if_true, if_false, ↓reduceIte, cond_true, cond_false, true_and, and_true, List.length_cons, List.length_nil, List.nil_append, List.cons_append, List.append_nil, Option.toList, Nat.reduceEqDiff, Bool.false_eq_true, reduceCtorEq, Nat.reduceAdd, Nat.reduceLT, Nat.reduceLeDiff, Nat.reduceSub, List.replicate, Nat.zero_add, Nat.lt_add_one, Nat.le_refl, Nat.zero_le, Nat.succ_ne_zero, not_false_eq_true, not_true_eq_false, false_implies, true_implies, forall_const, imp_self, true_or, or_true, eq_self, sI_zw, zw_zw, hI_zw, tg_zw, ln_zw, hR_zw, hL_zw, hN_zw, hM_zw, upd_s, upd_u, upd_ne, Classical.not_not, k_Tl_mappingIn, hk.1.1]; try clear hgo9 hW9)
  exact lp_mi hk q1 q2 s 0 _ (by omega) (fun j hj => by omega)
/-- slot j has this inner endpoint and key -/
def mIn (h : AH) (t : Nat) (x k : Int32) (j : Nat) : Prop := hI h (mpO h t j) 0 = x ∧ hI h (mpO h t j) 2 = k
theorem lp_mo {t s : Nat} {x r k : Int32} {h : AH} {Q : Po} (hk : SlK h t s) (q1 : (∀ j, j < s → ¬ mIn h t x k j) → Q (.inl (some .null)) h) (q2 : ∀ j, j < s → mIn h t x k j → Q (.inl (some (.ref (mpO h t j)))) h) :
    ∀ (d i : Nat) (v : Option Value), i + d = s → (∀ j, j < i → ¬ mIn h t x k j) → AWp l G M_Tl_mappingOut 9 [some (.ref t), some (.int x), some (.int r), some (.int k), some (.int (nI i)), v] [] h Q := by
  obtain ⟨⟨h1, h2, h3, h4⟩, h5, h6, h7⟩ := hk
  intro d
  induction d with
  | zero =>
    intro i v e hno
    have ei : s ≤ i := by omega
    ((obtain ⟨W9, hW9, hgo9⟩ := wp_ex (T_Tl_mappingOut l G) [9] _; refine hgo9 200 _ _ _ _ ?_; simp -implicitDefEqProofs (disch := omega) only [hW9, inl, gate, Xq, tz_const, tz_iload, tz_lload, tz_dload, tz_aload, tz_istore, tz_astore, tz_lstore, tz_dstore, tz_iinc, tz_i1, tz_i2, tz_i2z, tz_l2, tz_l2z, tz_i2l, tz_l2i, tz_lcmp, tz_i2d, tz_d2, tz_dcmp, tz_dup, tz_dup2, tz_pop, tz_if, tz_icmp, tz_null, tz_goto, tz_sw, tz_getf, tz_puti, tz_putz, tz_putr, tz_putl, tz_iaload, tz_baload, tz_laload, tz_aaload, tz_iastore, tz_bastore, tz_lastore, tz_aastore, tz_alen, tz_new, tz_newa, tz_oinit, tz_iret, tz_zret, tz_lret, tz_dret, tz_aret, tz_vret, tz_throw, tz_callS, tz_callV, tz_callI, tz_callR, tz_pureS, tz_pureV, tz_callVH, lg, lset, lkill, lst1, lst2, entL, isRf, is1, vl, va_rf_none, va_rf_some, isRf_rf, is1_rf, i0, i1, bI_eq0, bI_eq1, nm_em, nI_eqP, nI_leP, nI_ltP, nN_e1, nN_e2, nN_l1, nN_l2, nN_l3, nN_l4, nI_add, pk_mul, vp_inN, nI_cl, n01, n10, P_i, P_ii, P_iii, f_Mo_at, f_Mo_map, f_Mo_contact, f_Mo_within, f_Mo_isPort, f_Hp_endpoint, f_Hp_nodeOf, f_Hp_portOf, f_Ma_max, f_Ma_min, f_Hp_isSetting, popN, rok, a1, noX, swc, mL, if_true, if_false, ↓reduceIte, cond_true, cond_false, true_and, and_true, List.length_cons, List.length_nil, List.nil_append, List.cons_append, List.append_nil, Option.toList, Nat.reduceEqDiff, Bool.false_eq_true, reduceCtorEq, Nat.reduceAdd, Nat.reduceLT, Nat.reduceLeDiff, Nat.reduceSub, List.replicate, Nat.zero_add, Nat.lt_add_one, Nat.le_refl, Nat.zero_le, Nat.succ_ne_zero, not_false_eq_true, not_true_eq_false, false_implies, true_implies, forall_const, imp_self, true_or, or_true, eq_self, sI_zw, zw_zw, hI_zw, tg_zw, ln_zw, hR_zw, hL_zw, hN_zw, hM_zw, upd_s, upd_u, upd_ne, Classical.not_not, k_Tl_mappingOut, h1, h2, h3, h4, h5, ei]; try clear hgo9 hW9); try (obtain ⟨W9, hW9, hgo9⟩ := wp_ex (T_Tl_mappingOut l G) [9] _; refine hgo9 200 _ _ _ _ ?_; simp -implicitDefEqProofs (disch := omega) only [hW9, inl, gate, Xq, tz_const, tz_iload, tz_lload, tz_dload, tz_aload, tz_istore, tz_astore, tz_lstore, tz_dstore, tz_iinc, tz_i1, tz_i2, tz_i2z, tz_l2, tz_l2z, tz_i2l, tz_l2i, tz_lcmp, tz_i2d, tz_d2, tz_dcmp, tz_dup, tz_dup2, tz_pop, tz_if, tz_icmp, tz_null, tz_goto, tz_sw, tz_getf, tz_puti, tz_putz, tz_putr, tz_putl, tz_iaload, tz_baload, tz_laload, tz_aaload, tz_iastore, tz_bastore, tz_lastore, tz_aastore, tz_alen, tz_new, tz_newa, tz_oinit, tz_iret, tz_zret, tz_lret, tz_dret, tz_aret, tz_vret, tz_throw, tz_callS, tz_callV, tz_callI, tz_callR, tz_pureS, tz_pureV, tz_callVH, lg, lset, lkill, lst1, lst2, entL, isRf, is1, vl, va_rf_none, va_rf_some, isRf_rf, is1_rf, i0, i1, bI_eq0, bI_eq1, nm_em, nI_eqP, nI_leP, nI_ltP, nN_e1, nN_e2, nN_l1, nN_l2, nN_l3, nN_l4, nI_add, pk_mul, vp_inN, nI_cl, n01, n10, P_i, P_ii, P_iii, f_Mo_at, f_Mo_map, f_Mo_contact, f_Mo_within, f_Mo_isPort, f_Hp_endpoint, f_Hp_nodeOf, f_Hp_portOf, f_Ma_max, f_Ma_min, f_Hp_isSetting, popN, rok, a1, noX, swc, mL, if_true, if_false, ↓reduceIte, cond_true, cond_false, true_and, and_true, List.length_cons, List.length_nil, List.nil_append, List.cons_append, List.append_nil, Option.toList, Nat.reduceEqDiff, Bool.false_eq_true, reduceCtorEq, Nat.reduceAdd, Nat.reduceLT, Nat.reduceLeDiff, Nat.reduceSub, List.replicate, Nat.zero_add, Nat.lt_add_one, Nat.le_refl, Nat.zero_le, Nat.succ_ne_zero, not_false_eq_true, not_true_eq_false, false_implies, true_implies, forall_const, imp_self, true_or, or_true, eq_self, sI_zw, zw_zw, hI_zw, tg_zw, ln_zw, hR_zw, hL_zw, hN_zw, hM_zw, upd_s, upd_u, upd_ne, Classical.not_not, k_Tl_mappingOut, h1, h2, h3, h4, h5, ei]; try clear hgo9 hW9))
    exact q1 (fun j hj => hno j (by omega))
  | succ d ih =>
    intro i v e hno
    have ei : ¬ s ≤ i := by omega
    have ei8 : ¬ 8 ≤ i := by omega
    obtain ⟨g1, g2⟩ := h7 i (by omega)
    have next : ¬ mIn h t x k i → ∀ v, AWp l G M_Tl_mappingOut 63 [some (.ref t), some (.int x), some (.int r), some (.int k), some (.int (nI i)), v] [] h Q := by
      intro c v
      (obtain ⟨W9, hW9, hgo9⟩ := wp_ex (T_Tl_mappingOut l G) [9] _; refine hgo9 200 _ _ _ _ ?_; simp -implicitDefEqProofs (disch := omega) only [hW9, inl, gate, Xq, tz_const, tz_iload, tz_lload, tz_dload, tz_aload, tz_istore, tz_astore, tz_lstore, tz_dstore, tz_iinc, tz_i1, tz_i2, tz_i2z, tz_l2, tz_l2z, tz_i2l, tz_l2i, tz_lcmp, tz_i2d, tz_d2, tz_dcmp, tz_dup, tz_dup2, tz_pop, tz_if, tz_icmp, tz_null, tz_goto, tz_sw, tz_getf, tz_puti, tz_putz, tz_putr, tz_putl, tz_iaload, tz_baload, tz_laload, tz_aaload, tz_iastore, tz_bastore, tz_lastore, tz_aastore, tz_alen, tz_new, tz_newa, tz_oinit, tz_iret, tz_zret, tz_lret, tz_dret, tz_aret, tz_vret, tz_throw, tz_callS, tz_callV, tz_callI, tz_callR, tz_pureS, tz_pureV, tz_callVH, lg, lset, lkill, lst1, lst2, entL, isRf, is1, vl, va_rf_none, va_rf_some, isRf_rf, is1_rf, i0, i1, bI_eq0, bI_eq1, nm_em, nI_eqP, nI_leP, nI_ltP, nN_e1, nN_e2, nN_l1, nN_l2, nN_l3, nN_l4, nI_add, pk_mul, vp_inN, nI_cl, n01, n10, P_i, P_ii, P_iii, f_Mo_at, f_Mo_map, f_Mo_contact, f_Mo_within, f_Mo_isPort, f_Hp_endpoint, f_Hp_nodeOf, f_Hp_portOf, f_Ma_max, f_Ma_min, f_Hp_isSetting, popN, rok, a1, noX, swc, mL, if_true, if_false, ↓reduceIte, cond_true, cond_false, true_and, and_true, List.length_cons, List.length_nil, List.nil_append, List.cons_append, List.append_nil, Option.toList, Nat.reduceEqDiff, Bool.false_eq_true, reduceCtorEq, Nat.reduceAdd, Nat.reduceLT, Nat.reduceLeDiff, Nat.reduceSub, List.replicate, Nat.zero_add, Nat.lt_add_one, Nat.le_refl, Nat.zero_le, Nat.succ_ne_zero, not_false_eq_true, not_true_eq_false, false_implies, true_implies, forall_const, imp_self, true_or, or_true, eq_self, sI_zw, zw_zw, hI_zw, tg_zw, ln_zw, hR_zw, hL_zw, hN_zw, hM_zw, upd_s, upd_u, upd_ne, Classical.not_not, k_Tl_mappingOut, h1]; try clear hgo9 hW9)
      refine ih (i + 1) _ (by omega) (fun j hj => ?_)
      by_cases e2 : j = i
      · rw [e2]; exact c
      · exact hno j (by omega)
    ((obtain ⟨W9, hW9, hgo9⟩ := wp_ex (T_Tl_mappingOut l G) [9, 63] _; refine hgo9 200 _ _ _ _ ?_; simp -implicitDefEqProofs (disch := omega) only [hW9, inl, gate, Xq, tz_const, tz_iload, tz_lload, tz_dload, tz_aload, tz_istore, tz_astore, tz_lstore, tz_dstore, tz_iinc, tz_i1, tz_i2, tz_i2z, tz_l2, tz_l2z, tz_i2l, tz_l2i, tz_lcmp, tz_i2d, tz_d2, tz_dcmp, tz_dup, tz_dup2, tz_pop, tz_if, tz_icmp, tz_null, tz_goto, tz_sw, tz_getf, tz_puti, tz_putz, tz_putr, tz_putl, tz_iaload, tz_baload, tz_laload, tz_aaload, tz_iastore, tz_bastore, tz_lastore, tz_aastore, tz_alen, tz_new, tz_newa, tz_oinit, tz_iret, tz_zret, tz_lret, tz_dret, tz_aret, tz_vret, tz_throw, tz_callS, tz_callV, tz_callI, tz_callR, tz_pureS, tz_pureV, tz_callVH, lg, lset, lkill, lst1, lst2, entL, isRf, is1, vl, va_rf_none, va_rf_some, isRf_rf, is1_rf, i0, i1, bI_eq0, bI_eq1, nm_em, nI_eqP, nI_leP, nI_ltP, nN_e1, nN_e2, nN_l1, nN_l2, nN_l3, nN_l4, nI_add, pk_mul, vp_inN, nI_cl, n01, n10, P_i, P_ii, P_iii, f_Mo_at, f_Mo_map, f_Mo_contact, f_Mo_within, f_Mo_isPort, f_Hp_endpoint, f_Hp_nodeOf, f_Hp_portOf, f_Ma_max, f_Ma_min, f_Hp_isSetting, popN, rok, a1, noX, swc, mL, if_true, if_false, ↓reduceIte, cond_true, cond_false, true_and, and_true, List.length_cons, List.length_nil, List.nil_append, List.cons_append, List.append_nil, Option.toList, Nat.reduceEqDiff, Bool.false_eq_true, reduceCtorEq, Nat.reduceAdd, Nat.reduceLT, Nat.reduceLeDiff, Nat.reduceSub, List.replicate, Nat.zero_add, Nat.lt_add_one, Nat.le_refl, Nat.zero_le, Nat.succ_ne_zero, not_false_eq_true, not_true_eq_false, false_implies, true_implies, forall_const, imp_self, true_or, or_true, eq_self, sI_zw, zw_zw, hI_zw, tg_zw, ln_zw, hR_zw, hL_zw, hN_zw, hM_zw, upd_s, upd_u, upd_ne, Classical.not_not, k_Tl_mappingOut, h1, h2, h3, h4, h5, ei, ei8, g1, g2]; try clear hgo9 hW9); try (obtain ⟨W9, hW9, hgo9⟩ := wp_ex (T_Tl_mappingOut l G) [9, 63] _; refine hgo9 200 _ _ _ _ ?_; simp -implicitDefEqProofs (disch := omega) only [hW9, inl, gate, Xq, tz_const, tz_iload, tz_lload, tz_dload, tz_aload, tz_istore, tz_astore, tz_lstore, tz_dstore, tz_iinc, tz_i1, tz_i2, tz_i2z, tz_l2, tz_l2z, tz_i2l, tz_l2i, tz_lcmp, tz_i2d, tz_d2, tz_dcmp, tz_dup, tz_dup2, tz_pop, tz_if, tz_icmp, tz_null, tz_goto, tz_sw, tz_getf, tz_puti, tz_putz, tz_putr, tz_putl, tz_iaload, tz_baload, tz_laload, tz_aaload, tz_iastore, tz_bastore, tz_lastore, tz_aastore, tz_alen, tz_new, tz_newa, tz_oinit, tz_iret, tz_zret, tz_lret, tz_dret, tz_aret, tz_vret, tz_throw, tz_callS, tz_callV, tz_callI, tz_callR, tz_pureS, tz_pureV, tz_callVH, lg, lset, lkill, lst1, lst2, entL, isRf, is1, vl, va_rf_none, va_rf_some, isRf_rf, is1_rf, i0, i1, bI_eq0, bI_eq1, nm_em, nI_eqP, nI_leP, nI_ltP, nN_e1, nN_e2, nN_l1, nN_l2, nN_l3, nN_l4, nI_add, pk_mul, vp_inN, nI_cl, n01, n10, P_i, P_ii, P_iii, f_Mo_at, f_Mo_map, f_Mo_contact, f_Mo_within, f_Mo_isPort, f_Hp_endpoint, f_Hp_nodeOf, f_Hp_portOf, f_Ma_max, f_Ma_min, f_Hp_isSetting, popN, rok, a1, noX, swc, mL, if_true, if_false, ↓reduceIte, cond_true, cond_false, true_and, and_true, List.length_cons, List.length_nil, List.nil_append, List.cons_append, List.append_nil, Option.toList, Nat.reduceEqDiff, Bool.false_eq_true, reduceCtorEq, Nat.reduceAdd, Nat.reduceLT, Nat.reduceLeDiff, Nat.reduceSub, List.replicate, Nat.zero_add, Nat.lt_add_one, Nat.le_refl, Nat.zero_le, Nat.succ_ne_zero, not_false_eq_true, not_true_eq_false, false_implies, true_implies, forall_const, imp_self, true_or, or_true, eq_self, sI_zw, zw_zw, hI_zw, tg_zw, ln_zw, hR_zw, hL_zw, hN_zw, hM_zw, upd_s, upd_u, upd_ne, Classical.not_not, k_Tl_mappingOut, h1, h2, h3, h4, h5, ei, ei8, g1, g2]; try clear hgo9 hW9); try (obtain ⟨W9, hW9, hgo9⟩ := wp_ex (T_Tl_mappingOut l G) [9, 63] _; refine hgo9 200 _ _ _ _ ?_; simp -implicitDefEqProofs (disch := omega) only [hW9, inl, gate, Xq, tz_const, tz_iload, tz_lload, tz_dload, tz_aload, tz_istore, tz_astore, tz_lstore, tz_dstore, tz_iinc, tz_i1, tz_i2, tz_i2z, tz_l2, tz_l2z, tz_i2l, tz_l2i, tz_lcmp, tz_i2d, tz_d2, tz_dcmp, tz_dup, tz_dup2, tz_pop, tz_if, tz_icmp, tz_null, tz_goto, tz_sw, tz_getf, tz_puti, tz_putz, tz_putr, tz_putl, tz_iaload, tz_baload, tz_laload, tz_aaload, tz_iastore, tz_bastore, tz_lastore, tz_aastore, tz_alen, tz_new, tz_newa, tz_oinit, tz_iret, tz_zret, tz_lret, tz_dret, tz_aret, tz_vret, tz_throw, tz_callS, tz_callV, tz_callI, tz_callR, tz_pureS, tz_pureV, tz_callVH, lg, lset, lkill, lst1, lst2, entL, isRf, is1, vl, va_rf_none, va_rf_some, isRf_rf, is1_rf, i0, i1, bI_eq0, bI_eq1, nm_em, nI_eqP, nI_leP, nI_ltP, nN_e1, nN_e2, nN_l1, nN_l2, nN_l3, nN_l4, nI_add, pk_mul, vp_inN, nI_cl, n01, n10, P_i, P_ii, P_iii, f_Mo_at, f_Mo_map, f_Mo_contact, f_Mo_within, f_Mo_isPort, f_Hp_endpoint, f_Hp_nodeOf, f_Hp_portOf, f_Ma_max, f_Ma_min, f_Hp_isSetting, popN, rok, a1, noX, swc, mL, if_true, if_false, ↓reduceIte, cond_true, cond_false, true_and, and_true, List.length_cons, List.length_nil, List.nil_append, List.cons_append, List.append_nil, Option.toList, Nat.reduceEqDiff, Bool.false_eq_true, reduceCtorEq, Nat.reduceAdd, Nat.reduceLT, Nat.reduceLeDiff, Nat.reduceSub, List.replicate, Nat.zero_add, Nat.lt_add_one, Nat.le_refl, Nat.zero_le, Nat.succ_ne_zero, not_false_eq_true, not_true_eq_false, false_implies, true_implies, forall_const, imp_self, true_or, or_true, eq_self, sI_zw, zw_zw, hI_zw, tg_zw, ln_zw, hR_zw, hL_zw, hN_zw, hM_zw, upd_s, upd_u, upd_ne, Classical.not_not, k_Tl_mappingOut, h1, h2, h3, h4, h5, ei, ei8, g1, g2]; try clear hgo9 hW9))
    refine ⟨fun c => next (fun q => c q.1) _, fun c => ?_⟩
    (obtain ⟨W9, hW9, hgo9⟩ := wp_ex (T_Tl_mappingOut l G) [9, 63] _; refine hgo9 200 _ _ _ _ ?_; simp -implicitDefEqProofs (disch := omega) only [hW9, inl, gate, Xq, tz_const, tz_iload, tz_lload, tz_dload, tz_aload, tz_istore, tz_astore, tz_lstore, tz_dstore, tz_iinc, tz_i1, tz_i2, tz_i2z, tz_l2, tz_l2z, tz_i2l, tz_l2i, tz_lcmp, tz_i2d, tz_d2, tz_dcmp, tz_dup, tz_dup2, tz_pop, tz_if, tz_icmp, tz_null, tz_goto, tz_sw, tz_getf, tz_puti, tz_putz, tz_putr, tz_putl, tz_iaload, tz_baload, tz_laload, tz_aaload, tz_iastore, tz_bastore, tz_lastore, tz_aastore, tz_alen, tz_new, tz_newa, tz_oinit, tz_iret, tz_zret, tz_lret, tz_dret, tz_aret, tz_vret, tz_throw, tz_callS, tz_callV, tz_callI, tz_callR, tz_pureS, tz_pureV, tz_callVH, lg, lset, lkill, lst1, lst2, entL, isRf, is1, vl, va_rf_none, va_rf_some, isRf_rf, is1_rf, i0, i1, bI_eq0, bI_eq1, nm_em, nI_eqP, nI_leP, nI_ltP, nN_e1, nN_e2, nN_l1, nN_l2, nN_l3, nN_l4, nI_add, pk_mul, vp_inN, nI_cl, n01, n10, P_i, P_ii, P_iii, f_Mo_at, f_Mo_map, f_Mo_contact, f_Mo_within, f_Mo_isPort, f_Hp_endpoint, f_Hp_nodeOf, f_Hp_portOf, f_Ma_max, f_Ma_min, f_Hp_isSetting, popN, rok, a1, noX, swc, mL, if_true, if_false, ↓reduceIte, cond_true, cond_false, true_and, and_true, List.length_cons, List.length_nil, List.nil_append, List.cons_append, List.append_nil, Option.toList, Nat.reduceEqDiff, Bool.false_eq_true, reduceCtorEq, Nat.reduceAdd, Nat.reduceLT, Nat.reduceLeDiff, Nat.reduceSub, List.replicate, Nat.zero_add, Nat.lt_add_one, Nat.le_refl, Nat.zero_le, Nat.succ_ne_zero, not_false_eq_true, not_true_eq_false, false_implies, true_implies, forall_const, imp_self, true_or, or_true, eq_self, sI_zw, zw_zw, hI_zw, tg_zw, ln_zw, hR_zw, hL_zw, hN_zw, hM_zw, upd_s, upd_u, upd_ne, Classical.not_not, k_Tl_mappingOut, h1, h2, h3, h4, g1, g2]; try clear hgo9 hW9)
    refine ⟨fun c2 => next (fun q => c2 q.2) _, fun c2 => ?_⟩
    (obtain ⟨W9, hW9, hgo9⟩ := wp_ex (T_Tl_mappingOut l G) [9, 63] _; refine hgo9 200 _ _ _ _ ?_; simp -implicitDefEqProofs (disch := omega) only [hW9, inl, gate, Xq, tz_const, tz_iload, tz_lload, tz_dload, tz_aload, tz_istore, tz_astore, tz_lstore, tz_dstore, tz_iinc, tz_i1, tz_i2, tz_i2z, tz_l2, tz_l2z, tz_i2l, tz_l2i, tz_lcmp, tz_i2d, tz_d2, tz_dcmp, tz_dup, tz_dup2, tz_pop, tz_if, tz_icmp, tz_null, tz_goto, tz_sw, tz_getf, tz_puti, tz_putz, tz_putr, tz_putl, tz_iaload, tz_baload, tz_laload, tz_aaload, tz_iastore, tz_bastore, tz_lastore, tz_aastore, tz_alen, tz_new, tz_newa, tz_oinit, tz_iret, tz_zret, tz_lret, tz_dret, tz_aret, tz_vret, tz_throw, tz_callS, tz_callV, tz_callI, tz_callR, tz_pureS, tz_pureV, tz_callVH, lg, lset, lkill, lst1, lst2, entL, isRf, is1, vl, va_rf_none, va_rf_some, isRf_rf, is1_rf, i0, i1, bI_eq0, bI_eq1, nm_em, nI_eqP, nI_leP, nI_ltP, nN_e1, nN_e2, nN_l1, nN_l2, nN_l3, nN_l4, nI_add, pk_mul, vp_inN, nI_cl, n01, n10, P_i, P_ii, P_iii, f_Mo_at, f_Mo_map, f_Mo_contact, f_Mo_within, f_Mo_isPort, f_Hp_endpoint, f_Hp_nodeOf, f_Hp_portOf, f_Ma_max, f_Ma_min, f_Hp_isSetting, popN, rok, a1, noX, swc, mL, if_true, if_false, ↓reduceIte, cond_true, cond_false, true_and, and_true, List.length_cons, List.length_nil, List.nil_append, List.cons_append, List.append_nil, Option.toList, Nat.reduceEqDiff, Bool.false_eq_true, reduceCtorEq, Nat.reduceAdd, Nat.reduceLT, Nat.reduceLeDiff, Nat.reduceSub, List.replicate, Nat.zero_add, Nat.lt_add_one, Nat.le_refl, Nat.zero_le, Nat.succ_ne_zero, not_false_eq_true, not_true_eq_false, false_implies, true_implies, forall_const, imp_self, true_or, or_true, eq_self, sI_zw, zw_zw, hI_zw, tg_zw, ln_zw, hR_zw, hL_zw, hN_zw, hM_zw, upd_s, upd_u, upd_ne, Classical.not_not, k_Tl_mappingOut, h1]; try clear hgo9 hW9)
    exact q2 i (by omega) ⟨c, c2⟩
theorem c_Tl_mappingOut (t s : Nat) (x r k : Int32) (h : AH) (Q : Po) (hk : SlK h t s) (ek : kyF (hI h t 0) r = k) (q1 : (∀ j, j < s → ¬ mIn h t x k j) → Q (.inl (some .null)) h) (q2 : ∀ j, j < s → mIn h t x k j → Q (.inl (some (.ref (mpO h t j)))) h) : Call l G M_Tl_mappingOut [.ref t, .int x, .int r] h Q := by
  have hP : P_Tl_keyFor [.ref t, .int r] h := trivial
  refine call_of rfl rfl (Nat.le_of_ble_eq_true rfl) ?_
  (obtain ⟨W9, hW9, hgo9⟩ := wp_ex (T_Tl_mappingOut l G) [9] _; refine hgo9 200 _ _ _ _ ?_; simp -implicitDefEqProofs (disch := omega) only [hW9, inl, gate, Xq, tz_const, tz_iload, tz_lload, tz_dload, tz_aload, tz_istore, tz_astore, tz_lstore, tz_dstore, tz_iinc, tz_i1, tz_i2, tz_i2z, tz_l2, tz_l2z, tz_i2l, tz_l2i, tz_lcmp, tz_i2d, tz_d2, tz_dcmp, tz_dup, tz_dup2, tz_pop, tz_if, tz_icmp, tz_null, tz_goto, tz_sw, tz_getf, tz_puti, tz_putz, tz_putr, tz_putl, tz_iaload, tz_baload, tz_laload, tz_aaload, tz_iastore, tz_bastore, tz_lastore, tz_aastore, tz_alen, tz_new, tz_newa, tz_oinit, tz_iret, tz_zret, tz_lret, tz_dret, tz_aret, tz_vret, tz_throw, tz_callS, tz_callV, tz_callI, tz_callR, tz_pureS, tz_pureV, tz_callVH, lg, lset, lkill, lst1, lst2, entL, isRf, is1, vl, va_rf_none, va_rf_some, isRf_rf, is1_rf, i0, i1, bI_eq0, bI_eq1, nm_em, nI_eqP, nI_leP, nI_ltP, nN_e1, nN_e2, nN_l1, nN_l2, nN_l3, nN_l4, nI_add, pk_mul, vp_inN, nI_cl, n01, n10, P_i, P_ii, P_iii, f_Mo_at, f_Mo_map, f_Mo_contact, f_Mo_within, f_Mo_isPort, f_Hp_endpoint, f_Hp_nodeOf, f_Hp_portOf, f_Ma_max, f_Ma_min, f_Hp_isSetting, popN, rok, a1, noX, swc, mL, if_true, if_false, ↓reduceIte, cond_true, cond_false, true_and, and_true, List.length_cons, List.length_nil, List.nil_append, List.cons_append, List.append_nil, Option.toList, Nat.reduceEqDiff, Bool.false_eq_true, reduceCtorEq, Nat.reduceAdd, Nat.reduceLT, Nat.reduceLeDiff, Nat.reduceSub, List.replicate, Nat.zero_add, Nat.lt_add_one, Nat.le_refl, Nat.zero_le, Nat.succ_ne_zero, not_false_eq_true, not_true_eq_false, false_implies, true_implies, forall_const, imp_self, true_or, or_true, eq_self, sI_zw, zw_zw, hI_zw, tg_zw, ln_zw, hR_zw, hL_zw, hN_zw, hM_zw, upd_s, upd_u, upd_ne, Classical.not_not, k_Tl_mappingOut, hk.1.1, hP, f_Tl_keyFor, ek]; try clear hgo9 hW9)
  exact lp_mo hk q1 q2 s 0 _ (by omega) (fun j hj => by omega)
/-- mapping m has c contacts -/
def CtK (h : AH) (m c : Nat) : Prop := tg h m = 0 ∧ hR h m 4 = some (cC h m) ∧ tg h (cC h m) = 8 ∧ ln h (cC h m) = 8 ∧ hI h m 5 = nI c ∧ c ≤ 8
theorem lp_cp {m c : Nat} {x : Int32} {h : AH} {Q : Po} (hk : CtK h m c) (q1 : (∀ j, j < c → ¬ hI h (cC h m) j = x) → Q (.inl (some (.int nN))) h) (q2 : ∀ j, j < c → hI h (cC h m) j = x → (∀ i, i < j → ¬ hI h (cC h m) i = x) → Q (.inl (some (.int (nI j)))) h) :
    ∀ (d i : Nat), i + d = c → (∀ j, j < i → ¬ hI h (cC h m) j = x) → AWp l G M_Mp_contactPlace 2 [some (.ref m), some (.int x), some (.int (nI i))] [] h Q := by
  obtain ⟨h1, h2, h3, h4, h5, h6⟩ := hk
  intro d
  induction d with
  | zero =>
    intro i e hno
    have ei : c ≤ i := by omega
    ((obtain ⟨W9, hW9, hgo9⟩ := wp_ex (T_Mp_contactPlace l G) [2] _; refine hgo9 200 _ _ _ _ ?_; simp -implicitDefEqProofs (disch := omega) only [hW9, inl, gate, Xq, tz_const, tz_iload, tz_lload, tz_dload, tz_aload, tz_istore, tz_astore, tz_lstore, tz_dstore, tz_iinc, tz_i1, tz_i2, tz_i2z, tz_l2, tz_l2z, tz_i2l, tz_l2i, tz_lcmp, tz_i2d, tz_d2, tz_dcmp, tz_dup, tz_dup2, tz_pop, tz_if, tz_icmp, tz_null, tz_goto, tz_sw, tz_getf, tz_puti, tz_putz, tz_putr, tz_putl, tz_iaload, tz_baload, tz_laload, tz_aaload, tz_iastore, tz_bastore, tz_lastore, tz_aastore, tz_alen, tz_new, tz_newa, tz_oinit, tz_iret, tz_zret, tz_lret, tz_dret, tz_aret, tz_vret, tz_throw, tz_callS, tz_callV, tz_callI, tz_callR, tz_pureS, tz_pureV, tz_callVH, lg, lset, lkill, lst1, lst2, entL, isRf, is1, vl, va_rf_none, va_rf_some, isRf_rf, is1_rf, i0, i1, bI_eq0, bI_eq1, nm_em, nI_eqP, nI_leP, nI_ltP, nN_e1, nN_e2, nN_l1, nN_l2, nN_l3, nN_l4, nI_add, pk_mul, vp_inN, nI_cl, n01, n10, P_i, P_ii, P_iii, f_Mo_at, f_Mo_map, f_Mo_contact, f_Mo_within, f_Mo_isPort, f_Hp_endpoint, f_Hp_nodeOf, f_Hp_portOf, f_Ma_max, f_Ma_min, f_Hp_isSetting, popN, rok, a1, noX, swc, mL, if_true, if_false, ↓reduceIte, cond_true, cond_false, true_and, and_true, List.length_cons, List.length_nil, List.nil_append, List.cons_append, List.append_nil, Option.toList, Nat.reduceEqDiff, Bool.false_eq_true, reduceCtorEq, Nat.reduceAdd, Nat.reduceLT, Nat.reduceLeDiff, Nat.reduceSub, List.replicate, Nat.zero_add, Nat.lt_add_one, Nat.le_refl, Nat.zero_le, Nat.succ_ne_zero, not_false_eq_true, not_true_eq_false, false_implies, true_implies, forall_const, imp_self, true_or, or_true, eq_self, sI_zw, zw_zw, hI_zw, tg_zw, ln_zw, hR_zw, hL_zw, hN_zw, hM_zw, upd_s, upd_u, upd_ne, Classical.not_not, k_Mp_contactPlace, h1, h2, h3, h4, h5, ei]; try clear hgo9 hW9); try (obtain ⟨W9, hW9, hgo9⟩ := wp_ex (T_Mp_contactPlace l G) [2] _; refine hgo9 200 _ _ _ _ ?_; simp -implicitDefEqProofs (disch := omega) only [hW9, inl, gate, Xq, tz_const, tz_iload, tz_lload, tz_dload, tz_aload, tz_istore, tz_astore, tz_lstore, tz_dstore, tz_iinc, tz_i1, tz_i2, tz_i2z, tz_l2, tz_l2z, tz_i2l, tz_l2i, tz_lcmp, tz_i2d, tz_d2, tz_dcmp, tz_dup, tz_dup2, tz_pop, tz_if, tz_icmp, tz_null, tz_goto, tz_sw, tz_getf, tz_puti, tz_putz, tz_putr, tz_putl, tz_iaload, tz_baload, tz_laload, tz_aaload, tz_iastore, tz_bastore, tz_lastore, tz_aastore, tz_alen, tz_new, tz_newa, tz_oinit, tz_iret, tz_zret, tz_lret, tz_dret, tz_aret, tz_vret, tz_throw, tz_callS, tz_callV, tz_callI, tz_callR, tz_pureS, tz_pureV, tz_callVH, lg, lset, lkill, lst1, lst2, entL, isRf, is1, vl, va_rf_none, va_rf_some, isRf_rf, is1_rf, i0, i1, bI_eq0, bI_eq1, nm_em, nI_eqP, nI_leP, nI_ltP, nN_e1, nN_e2, nN_l1, nN_l2, nN_l3, nN_l4, nI_add, pk_mul, vp_inN, nI_cl, n01, n10, P_i, P_ii, P_iii, f_Mo_at, f_Mo_map, f_Mo_contact, f_Mo_within, f_Mo_isPort, f_Hp_endpoint, f_Hp_nodeOf, f_Hp_portOf, f_Ma_max, f_Ma_min, f_Hp_isSetting, popN, rok, a1, noX, swc, mL, if_true, if_false, ↓reduceIte, cond_true, cond_false, true_and, and_true, List.length_cons, List.length_nil, List.nil_append, List.cons_append, List.append_nil, Option.toList, Nat.reduceEqDiff, Bool.false_eq_true, reduceCtorEq, Nat.reduceAdd, Nat.reduceLT, Nat.reduceLeDiff, Nat.reduceSub, List.replicate, Nat.zero_add, Nat.lt_add_one, Nat.le_refl, Nat.zero_le, Nat.succ_ne_zero, not_false_eq_true, not_true_eq_false, false_implies, true_implies, forall_const, imp_self, true_or, or_true, eq_self, sI_zw, zw_zw, hI_zw, tg_zw, ln_zw, hR_zw, hL_zw, hN_zw, hM_zw, upd_s, upd_u, upd_ne, Classical.not_not, k_Mp_contactPlace, h1, h2, h3, h4, h5, ei]; try clear hgo9 hW9))
    exact q1 (fun j hj => hno j (by omega))
  | succ d ih =>
    intro i e hno
    have ei : ¬ c ≤ i := by omega
    have ei8 : ¬ 8 ≤ i := by omega
    ((obtain ⟨W9, hW9, hgo9⟩ := wp_ex (T_Mp_contactPlace l G) [2] _; refine hgo9 200 _ _ _ _ ?_; simp -implicitDefEqProofs (disch := omega) only [hW9, inl, gate, Xq, tz_const, tz_iload, tz_lload, tz_dload, tz_aload, tz_istore, tz_astore, tz_lstore, tz_dstore, tz_iinc, tz_i1, tz_i2, tz_i2z, tz_l2, tz_l2z, tz_i2l, tz_l2i, tz_lcmp, tz_i2d, tz_d2, tz_dcmp, tz_dup, tz_dup2, tz_pop, tz_if, tz_icmp, tz_null, tz_goto, tz_sw, tz_getf, tz_puti, tz_putz, tz_putr, tz_putl, tz_iaload, tz_baload, tz_laload, tz_aaload, tz_iastore, tz_bastore, tz_lastore, tz_aastore, tz_alen, tz_new, tz_newa, tz_oinit, tz_iret, tz_zret, tz_lret, tz_dret, tz_aret, tz_vret, tz_throw, tz_callS, tz_callV, tz_callI, tz_callR, tz_pureS, tz_pureV, tz_callVH, lg, lset, lkill, lst1, lst2, entL, isRf, is1, vl, va_rf_none, va_rf_some, isRf_rf, is1_rf, i0, i1, bI_eq0, bI_eq1, nm_em, nI_eqP, nI_leP, nI_ltP, nN_e1, nN_e2, nN_l1, nN_l2, nN_l3, nN_l4, nI_add, pk_mul, vp_inN, nI_cl, n01, n10, P_i, P_ii, P_iii, f_Mo_at, f_Mo_map, f_Mo_contact, f_Mo_within, f_Mo_isPort, f_Hp_endpoint, f_Hp_nodeOf, f_Hp_portOf, f_Ma_max, f_Ma_min, f_Hp_isSetting, popN, rok, a1, noX, swc, mL, if_true, if_false, ↓reduceIte, cond_true, cond_false, true_and, and_true, List.length_cons, List.length_nil, List.nil_append, List.cons_append, List.append_nil, Option.toList, Nat.reduceEqDiff, Bool.false_eq_true, reduceCtorEq, Nat.reduceAdd, Nat.reduceLT, Nat.reduceLeDiff, Nat.reduceSub, List.replicate, Nat.zero_add, Nat.lt_add_one, Nat.le_refl, Nat.zero_le, Nat.succ_ne_zero, not_false_eq_true, not_true_eq_false, false_implies, true_implies, forall_const, imp_self, true_or, or_true, eq_self, sI_zw, zw_zw, hI_zw, tg_zw, ln_zw, hR_zw, hL_zw, hN_zw, hM_zw, upd_s, upd_u, upd_ne, Classical.not_not, k_Mp_contactPlace, h1, h2, h3, h4, h5, ei, ei8]; try clear hgo9 hW9); try (obtain ⟨W9, hW9, hgo9⟩ := wp_ex (T_Mp_contactPlace l G) [2] _; refine hgo9 200 _ _ _ _ ?_; simp -implicitDefEqProofs (disch := omega) only [hW9, inl, gate, Xq, tz_const, tz_iload, tz_lload, tz_dload, tz_aload, tz_istore, tz_astore, tz_lstore, tz_dstore, tz_iinc, tz_i1, tz_i2, tz_i2z, tz_l2, tz_l2z, tz_i2l, tz_l2i, tz_lcmp, tz_i2d, tz_d2, tz_dcmp, tz_dup, tz_dup2, tz_pop, tz_if, tz_icmp, tz_null, tz_goto, tz_sw, tz_getf, tz_puti, tz_putz, tz_putr, tz_putl, tz_iaload, tz_baload, tz_laload, tz_aaload, tz_iastore, tz_bastore, tz_lastore, tz_aastore, tz_alen, tz_new, tz_newa, tz_oinit, tz_iret, tz_zret, tz_lret, tz_dret, tz_aret, tz_vret, tz_throw, tz_callS, tz_callV, tz_callI, tz_callR, tz_pureS, tz_pureV, tz_callVH, lg, lset, lkill, lst1, lst2, entL, isRf, is1, vl, va_rf_none, va_rf_some, isRf_rf, is1_rf, i0, i1, bI_eq0, bI_eq1, nm_em, nI_eqP, nI_leP, nI_ltP, nN_e1, nN_e2, nN_l1, nN_l2, nN_l3, nN_l4, nI_add, pk_mul, vp_inN, nI_cl, n01, n10, P_i, P_ii, P_iii, f_Mo_at, f_Mo_map, f_Mo_contact, f_Mo_within, f_Mo_isPort, f_Hp_endpoint, f_Hp_nodeOf, f_Hp_portOf, f_Ma_max, f_Ma_min, f_Hp_isSetting, popN, rok, a1, noX, swc, mL, if_true, if_false, ↓reduceIte, cond_true, cond_false, true_and, and_true, List.length_cons, List.length_nil, List.nil_append, List.cons_append, List.append_nil, Option.toList, Nat.reduceEqDiff, Bool.false_eq_true, reduceCtorEq, Nat.reduceAdd, Nat.reduceLT, Nat.reduceLeDiff, Nat.reduceSub, List.replicate, Nat.zero_add, Nat.lt_add_one, Nat.le_refl, Nat.zero_le, Nat.succ_ne_zero, not_false_eq_true, not_true_eq_false, false_implies, true_implies, forall_const, imp_self, true_or, or_true, eq_self, sI_zw, zw_zw, hI_zw, tg_zw, ln_zw, hR_zw, hL_zw, hN_zw, hM_zw, upd_s, upd_u, upd_ne, Classical.not_not, k_Mp_contactPlace, h1, h2, h3, h4, h5, ei, ei8]; try clear hgo9 hW9); try (obtain ⟨W9, hW9, hgo9⟩ := wp_ex (T_Mp_contactPlace l G) [2] _; refine hgo9 200 _ _ _ _ ?_; simp -implicitDefEqProofs (disch := omega) only [hW9, inl, gate, Xq, tz_const, tz_iload, tz_lload, tz_dload, tz_aload, tz_istore, tz_astore, tz_lstore, tz_dstore, tz_iinc, tz_i1, tz_i2, tz_i2z, tz_l2, tz_l2z, tz_i2l, tz_l2i, tz_lcmp, tz_i2d, tz_d2, tz_dcmp, tz_dup, tz_dup2, tz_pop, tz_if, tz_icmp, tz_null, tz_goto, tz_sw, tz_getf, tz_puti, tz_putz, tz_putr, tz_putl, tz_iaload, tz_baload, tz_laload, tz_aaload, tz_iastore, tz_bastore, tz_lastore, tz_aastore, tz_alen, tz_new, tz_newa, tz_oinit, tz_iret, tz_zret, tz_lret, tz_dret, tz_aret, tz_vret, tz_throw, tz_callS, tz_callV, tz_callI, tz_callR, tz_pureS, tz_pureV, tz_callVH, lg, lset, lkill, lst1, lst2, entL, isRf, is1, vl, va_rf_none, va_rf_some, isRf_rf, is1_rf, i0, i1, bI_eq0, bI_eq1, nm_em, nI_eqP, nI_leP, nI_ltP, nN_e1, nN_e2, nN_l1, nN_l2, nN_l3, nN_l4, nI_add, pk_mul, vp_inN, nI_cl, n01, n10, P_i, P_ii, P_iii, f_Mo_at, f_Mo_map, f_Mo_contact, f_Mo_within, f_Mo_isPort, f_Hp_endpoint, f_Hp_nodeOf, f_Hp_portOf, f_Ma_max, f_Ma_min, f_Hp_isSetting, popN, rok, a1, noX, swc, mL, if_true, if_false, ↓reduceIte, cond_true, cond_false, true_and, and_true, List.length_cons, List.length_nil, List.nil_append, List.cons_append, List.append_nil, Option.toList, Nat.reduceEqDiff, Bool.false_eq_true, reduceCtorEq, Nat.reduceAdd, Nat.reduceLT, Nat.reduceLeDiff, Nat.reduceSub, List.replicate, Nat.zero_add, Nat.lt_add_one, Nat.le_refl, Nat.zero_le, Nat.succ_ne_zero, not_false_eq_true, not_true_eq_false, false_implies, true_implies, forall_const, imp_self, true_or, or_true, eq_self, sI_zw, zw_zw, hI_zw, tg_zw, ln_zw, hR_zw, hL_zw, hN_zw, hM_zw, upd_s, upd_u, upd_ne, Classical.not_not, k_Mp_contactPlace, h1, h2, h3, h4, h5, ei, ei8]; try clear hgo9 hW9))
    refine ⟨fun c => ?_, fun c => ?_⟩
    · (obtain ⟨W9, hW9, hgo9⟩ := wp_ex (T_Mp_contactPlace l G) [2] _; refine hgo9 200 _ _ _ _ ?_; simp -implicitDefEqProofs (disch := omega) only [hW9, inl, gate, Xq, tz_const, tz_iload, tz_lload, tz_dload, tz_aload, tz_istore, tz_astore, tz_lstore, tz_dstore, tz_iinc, tz_i1, tz_i2, tz_i2z, tz_l2, tz_l2z, tz_i2l, tz_l2i, tz_lcmp, tz_i2d, tz_d2, tz_dcmp, tz_dup, tz_dup2, tz_pop, tz_if, tz_icmp, tz_null, tz_goto, tz_sw, tz_getf, tz_puti, tz_putz, tz_putr, tz_putl, tz_iaload, tz_baload, tz_laload, tz_aaload, tz_iastore, tz_bastore, tz_lastore, tz_aastore, tz_alen, tz_new, tz_newa, tz_oinit, tz_iret, tz_zret, tz_lret, tz_dret, tz_aret, tz_vret, tz_throw, tz_callS, tz_callV, tz_callI, tz_callR, tz_pureS, tz_pureV, tz_callVH, lg, lset, lkill, lst1, lst2, entL, isRf, is1, vl, va_rf_none, va_rf_some, isRf_rf, is1_rf, i0, i1, bI_eq0, bI_eq1, nm_em, nI_eqP, nI_leP, nI_ltP, nN_e1, nN_e2, nN_l1, nN_l2, nN_l3, nN_l4, nI_add, pk_mul, vp_inN, nI_cl, n01, n10, P_i, P_ii, P_iii, f_Mo_at, f_Mo_map, f_Mo_contact, f_Mo_within, f_Mo_isPort, f_Hp_endpoint, f_Hp_nodeOf, f_Hp_portOf, f_Ma_max, f_Ma_min, f_Hp_isSetting, popN, rok, a1, noX, swc, mL, if_true, if_false, ↓reduceIte, cond_true, cond_false, true_and, and_true, List.length_cons, List.length_nil, List.nil_append, List.cons_append, List.append_nil, Option.toList, Nat.reduceEqDiff, Bool.false_eq_true, reduceCtorEq, Nat.reduceAdd, Nat.reduceLT, Nat.reduceLeDiff, Nat.reduceSub, List.replicate, Nat.zero_add, Nat.lt_add_one, Nat.le_refl, Nat.zero_le, Nat.succ_ne_zero, not_false_eq_true, not_true_eq_false, false_implies, true_implies, forall_const, imp_self, true_or, or_true, eq_self, sI_zw, zw_zw, hI_zw, tg_zw, ln_zw, hR_zw, hL_zw, hN_zw, hM_zw, upd_s, upd_u, upd_ne, Classical.not_not, k_Mp_contactPlace, h1]; try clear hgo9 hW9)
      refine ih (i + 1) (by omega) (fun j hj => ?_)
      by_cases e2 : j = i
      · rw [e2]; exact c
      · exact hno j (by omega)
    · (obtain ⟨W9, hW9, hgo9⟩ := wp_ex (T_Mp_contactPlace l G) [2] _; refine hgo9 200 _ _ _ _ ?_; simp -implicitDefEqProofs (disch := omega) only [hW9, inl, gate, Xq, tz_const, tz_iload, tz_lload, tz_dload, tz_aload, tz_istore, tz_astore, tz_lstore, tz_dstore, tz_iinc, tz_i1, tz_i2, tz_i2z, tz_l2, tz_l2z, tz_i2l, tz_l2i, tz_lcmp, tz_i2d, tz_d2, tz_dcmp, tz_dup, tz_dup2, tz_pop, tz_if, tz_icmp, tz_null, tz_goto, tz_sw, tz_getf, tz_puti, tz_putz, tz_putr, tz_putl, tz_iaload, tz_baload, tz_laload, tz_aaload, tz_iastore, tz_bastore, tz_lastore, tz_aastore, tz_alen, tz_new, tz_newa, tz_oinit, tz_iret, tz_zret, tz_lret, tz_dret, tz_aret, tz_vret, tz_throw, tz_callS, tz_callV, tz_callI, tz_callR, tz_pureS, tz_pureV, tz_callVH, lg, lset, lkill, lst1, lst2, entL, isRf, is1, vl, va_rf_none, va_rf_some, isRf_rf, is1_rf, i0, i1, bI_eq0, bI_eq1, nm_em, nI_eqP, nI_leP, nI_ltP, nN_e1, nN_e2, nN_l1, nN_l2, nN_l3, nN_l4, nI_add, pk_mul, vp_inN, nI_cl, n01, n10, P_i, P_ii, P_iii, f_Mo_at, f_Mo_map, f_Mo_contact, f_Mo_within, f_Mo_isPort, f_Hp_endpoint, f_Hp_nodeOf, f_Hp_portOf, f_Ma_max, f_Ma_min, f_Hp_isSetting, popN, rok, a1, noX, swc, mL, if_true, if_false, ↓reduceIte, cond_true, cond_false, true_and, and_true, List.length_cons, List.length_nil, List.nil_append, List.cons_append, List.append_nil, Option.toList, Nat.reduceEqDiff, Bool.false_eq_true, reduceCtorEq, Nat.reduceAdd, Nat.reduceLT, Nat.reduceLeDiff, Nat.reduceSub, List.replicate, Nat.zero_add, Nat.lt_add_one, Nat.le_refl, Nat.zero_le, Nat.succ_ne_zero, not_false_eq_true, not_true_eq_false, false_implies, true_implies, forall_const, imp_self, true_or, or_true, eq_self, sI_zw, zw_zw, hI_zw, tg_zw, ln_zw, hR_zw, hL_zw, hN_zw, hM_zw, upd_s, upd_u, upd_ne, Classical.not_not, k_Mp_contactPlace, h1]; try clear hgo9 hW9)
      exact q2 i (by omega) c hno
theorem c_Mp_contactPlace (m c : Nat) (x : Int32) (h : AH) (Q : Po) (hk : CtK h m c) (q1 : (∀ j, j < c → ¬ hI h (cC h m) j = x) → Q (.inl (some (.int nN))) h) (q2 : ∀ j, j < c → hI h (cC h m) j = x → (∀ i, i < j → ¬ hI h (cC h m) i = x) → Q (.inl (some (.int (nI j)))) h) : Call l G M_Mp_contactPlace [.ref m, .int x] h Q := by
  refine call_of rfl rfl (Nat.le_of_ble_eq_true rfl) ?_
  (obtain ⟨W9, hW9, hgo9⟩ := wp_ex (T_Mp_contactPlace l G) [2] _; refine hgo9 200 _ _ _ _ ?_; simp -implicitDefEqProofs (disch := omega) only [hW9, inl, gate, Xq, tz_const, tz_iload, tz_lload, tz_dload, tz_aload, tz_istore, tz_astore, tz_lstore, tz_dstore, tz_iinc, tz_i1, tz_i2, tz_i2z, tz_l2, tz_l2z, tz_i2l, tz_l2i, tz_lcmp, tz_i2d, tz_d2, tz_dcmp, tz_dup, tz_dup2, tz_pop, tz_if, tz_icmp, tz_null, tz_goto, tz_sw, tz_getf, tz_puti, tz_putz, tz_putr, tz_putl, tz_iaload, tz_baload, tz_laload, tz_aaload, tz_iastore, tz_bastore, tz_lastore, tz_aastore, tz_alen, tz_new, tz_newa, tz_oinit, tz_iret, tz_zret, tz_lret, tz_dret, tz_aret, tz_vret, tz_throw, tz_callS, tz_callV, tz_callI, tz_callR, tz_pureS, tz_pureV, tz_callVH, lg, lset, lkill, lst1, lst2, entL, isRf, is1, vl, va_rf_none, va_rf_some, isRf_rf, is1_rf, i0, i1, bI_eq0, bI_eq1, nm_em, nI_eqP, nI_leP, nI_ltP, nN_e1, nN_e2, nN_l1, nN_l2, nN_l3, nN_l4, nI_add, pk_mul, vp_inN, nI_cl, n01, n10, P_i, P_ii, P_iii, f_Mo_at, f_Mo_map, f_Mo_contact, f_Mo_within, f_Mo_isPort, f_Hp_endpoint, f_Hp_nodeOf, f_Hp_portOf, f_Ma_max, f_Ma_min, f_Hp_isSetting, popN, rok, a1, noX, swc, mL, if_true, if_false, ↓reduceIte, cond_true, cond_false, true_and, and_true, List.length_cons, List.length_nil, List.nil_append, List.cons_append, List.append_nil, Option.toList, Nat.reduceEqDiff, Bool.false_eq_true, reduceCtorEq, Nat.reduceAdd, Nat.reduceLT, Nat.reduceLeDiff, Nat.reduceSub, List.replicate, Nat.zero_add, Nat.lt_add_one, Nat.le_refl, Nat.zero_le, Nat.succ_ne_zero, not_false_eq_true, not_true_eq_false, false_implies, true_implies, forall_const, imp_self, true_or, or_true, eq_self, sI_zw, zw_zw, hI_zw, tg_zw, ln_zw, hR_zw, hL_zw, hN_zw, hM_zw, upd_s, upd_u, upd_ne, Classical.not_not, k_Mp_contactPlace, hk.1]; try clear hgo9 hW9)
  exact lp_cp hk q1 q2 c 0 (by omega) (fun j hj => by omega)
theorem lp_hc {m c : Nat} {x : Int32} {h : AH} {Q : Po} (hk : CtK h m c) (q1 : (∀ j, j < c → ¬ hI h (cC h m) j / nI 10000 = x) → Q (.inl (some (.int (nI 0)))) h) (q2 : ∀ j, j < c → hI h (cC h m) j / nI 10000 = x → Q (.inl (some (.int (nI 1)))) h) :
    ∀ (d i : Nat), i + d = c → (∀ j, j < i → ¬ hI h (cC h m) j / nI 10000 = x) → AWp l G M_Mp_hasContactAt 2 [some (.ref m), some (.int x), some (.int (nI i))] [] h Q := by
  obtain ⟨h1, h2, h3, h4, h5, h6⟩ := hk
  intro d
  induction d with
  | zero =>
    intro i e hno
    have ei : c ≤ i := by omega
    ((obtain ⟨W9, hW9, hgo9⟩ := wp_ex (T_Mp_hasContactAt l G) [2] _; refine hgo9 200 _ _ _ _ ?_; simp -implicitDefEqProofs (disch := omega) only [hW9, inl, gate, Xq, tz_const, tz_iload, tz_lload, tz_dload, tz_aload, tz_istore, tz_astore, tz_lstore, tz_dstore, tz_iinc, tz_i1, tz_i2, tz_i2z, tz_l2, tz_l2z, tz_i2l, tz_l2i, tz_lcmp, tz_i2d, tz_d2, tz_dcmp, tz_dup, tz_dup2, tz_pop, tz_if, tz_icmp, tz_null, tz_goto, tz_sw, tz_getf, tz_puti, tz_putz, tz_putr, tz_putl, tz_iaload, tz_baload, tz_laload, tz_aaload, tz_iastore, tz_bastore, tz_lastore, tz_aastore, tz_alen, tz_new, tz_newa, tz_oinit, tz_iret, tz_zret, tz_lret, tz_dret, tz_aret, tz_vret, tz_throw, tz_callS, tz_callV, tz_callI, tz_callR, tz_pureS, tz_pureV, tz_callVH, lg, lset, lkill, lst1, lst2, entL, isRf, is1, vl, va_rf_none, va_rf_some, isRf_rf, is1_rf, i0, i1, bI_eq0, bI_eq1, nm_em, nI_eqP, nI_leP, nI_ltP, nN_e1, nN_e2, nN_l1, nN_l2, nN_l3, nN_l4, nI_add, pk_mul, vp_inN, nI_cl, n01, n10, P_i, P_ii, P_iii, f_Mo_at, f_Mo_map, f_Mo_contact, f_Mo_within, f_Mo_isPort, f_Hp_endpoint, f_Hp_nodeOf, f_Hp_portOf, f_Ma_max, f_Ma_min, f_Hp_isSetting, popN, rok, a1, noX, swc, mL, if_true, if_false, ↓reduceIte, cond_true, cond_false, true_and, and_true, List.length_cons, List.length_nil, List.nil_append, List.cons_append, List.append_nil, Option.toList, Nat.reduceEqDiff, Bool.false_eq_true, reduceCtorEq, Nat.reduceAdd, Nat.reduceLT, Nat.reduceLeDiff, Nat.reduceSub, List.replicate, Nat.zero_add, Nat.lt_add_one, Nat.le_refl, Nat.zero_le, Nat.succ_ne_zero, not_false_eq_true, not_true_eq_false, false_implies, true_implies, forall_const, imp_self, true_or, or_true, eq_self, sI_zw, zw_zw, hI_zw, tg_zw, ln_zw, hR_zw, hL_zw, hN_zw, hM_zw, upd_s, upd_u, upd_ne, Classical.not_not, k_Mp_hasContactAt, h1, h2, h3, h4, h5, ei]; try clear hgo9 hW9); try (obtain ⟨W9, hW9, hgo9⟩ := wp_ex (T_Mp_hasContactAt l G) [2] _; refine hgo9 200 _ _ _ _ ?_; simp -implicitDefEqProofs (disch := omega) only [hW9, inl, gate, Xq, tz_const, tz_iload, tz_lload, tz_dload, tz_aload, tz_istore, tz_astore, tz_lstore, tz_dstore, tz_iinc, tz_i1, tz_i2, tz_i2z, tz_l2, tz_l2z, tz_i2l, tz_l2i, tz_lcmp, tz_i2d, tz_d2, tz_dcmp, tz_dup, tz_dup2, tz_pop, tz_if, tz_icmp, tz_null, tz_goto, tz_sw, tz_getf, tz_puti, tz_putz, tz_putr, tz_putl, tz_iaload, tz_baload, tz_laload, tz_aaload, tz_iastore, tz_bastore, tz_lastore, tz_aastore, tz_alen, tz_new, tz_newa, tz_oinit, tz_iret, tz_zret, tz_lret, tz_dret, tz_aret, tz_vret, tz_throw, tz_callS, tz_callV, tz_callI, tz_callR, tz_pureS, tz_pureV, tz_callVH, lg, lset, lkill, lst1, lst2, entL, isRf, is1, vl, va_rf_none, va_rf_some, isRf_rf, is1_rf, i0, i1, bI_eq0, bI_eq1, nm_em, nI_eqP, nI_leP, nI_ltP, nN_e1, nN_e2, nN_l1, nN_l2, nN_l3, nN_l4, nI_add, pk_mul, vp_inN, nI_cl, n01, n10, P_i, P_ii, P_iii, f_Mo_at, f_Mo_map, f_Mo_contact, f_Mo_within, f_Mo_isPort, f_Hp_endpoint, f_Hp_nodeOf, f_Hp_portOf, f_Ma_max, f_Ma_min, f_Hp_isSetting, popN, rok, a1, noX, swc, mL, if_true, if_false, ↓reduceIte, cond_true, cond_false, true_and, and_true, List.length_cons, List.length_nil, List.nil_append, List.cons_append, List.append_nil, Option.toList, Nat.reduceEqDiff, Bool.false_eq_true, reduceCtorEq, Nat.reduceAdd, Nat.reduceLT, Nat.reduceLeDiff, Nat.reduceSub, List.replicate, Nat.zero_add, Nat.lt_add_one, Nat.le_refl, Nat.zero_le, Nat.succ_ne_zero, not_false_eq_true, not_true_eq_false, false_implies, true_implies, forall_const, imp_self, true_or, or_true, eq_self, sI_zw, zw_zw, hI_zw, tg_zw, ln_zw, hR_zw, hL_zw, hN_zw, hM_zw, upd_s, upd_u, upd_ne, Classical.not_not, k_Mp_hasContactAt, h1, h2, h3, h4, h5, ei]; try clear hgo9 hW9))
    exact q1 (fun j hj => hno j (by omega))
  | succ d ih =>
    intro i e hno
    have ei : ¬ c ≤ i := by omega
    have ei8 : ¬ 8 ≤ i := by omega
    ((obtain ⟨W9, hW9, hgo9⟩ := wp_ex (T_Mp_hasContactAt l G) [2] _; refine hgo9 200 _ _ _ _ ?_; simp -implicitDefEqProofs (disch := omega) only [hW9, inl, gate, Xq, tz_const, tz_iload, tz_lload, tz_dload, tz_aload, tz_istore, tz_astore, tz_lstore, tz_dstore, tz_iinc, tz_i1, tz_i2, tz_i2z, tz_l2, tz_l2z, tz_i2l, tz_l2i, tz_lcmp, tz_i2d, tz_d2, tz_dcmp, tz_dup, tz_dup2, tz_pop, tz_if, tz_icmp, tz_null, tz_goto, tz_sw, tz_getf, tz_puti, tz_putz, tz_putr, tz_putl, tz_iaload, tz_baload, tz_laload, tz_aaload, tz_iastore, tz_bastore, tz_lastore, tz_aastore, tz_alen, tz_new, tz_newa, tz_oinit, tz_iret, tz_zret, tz_lret, tz_dret, tz_aret, tz_vret, tz_throw, tz_callS, tz_callV, tz_callI, tz_callR, tz_pureS, tz_pureV, tz_callVH, lg, lset, lkill, lst1, lst2, entL, isRf, is1, vl, va_rf_none, va_rf_some, isRf_rf, is1_rf, i0, i1, bI_eq0, bI_eq1, nm_em, nI_eqP, nI_leP, nI_ltP, nN_e1, nN_e2, nN_l1, nN_l2, nN_l3, nN_l4, nI_add, pk_mul, vp_inN, nI_cl, n01, n10, P_i, P_ii, P_iii, f_Mo_at, f_Mo_map, f_Mo_contact, f_Mo_within, f_Mo_isPort, f_Hp_endpoint, f_Hp_nodeOf, f_Hp_portOf, f_Ma_max, f_Ma_min, f_Hp_isSetting, popN, rok, a1, noX, swc, mL, if_true, if_false, ↓reduceIte, cond_true, cond_false, true_and, and_true, List.length_cons, List.length_nil, List.nil_append, List.cons_append, List.append_nil, Option.toList, Nat.reduceEqDiff, Bool.false_eq_true, reduceCtorEq, Nat.reduceAdd, Nat.reduceLT, Nat.reduceLeDiff, Nat.reduceSub, List.replicate, Nat.zero_add, Nat.lt_add_one, Nat.le_refl, Nat.zero_le, Nat.succ_ne_zero, not_false_eq_true, not_true_eq_false, false_implies, true_implies, forall_const, imp_self, true_or, or_true, eq_self, sI_zw, zw_zw, hI_zw, tg_zw, ln_zw, hR_zw, hL_zw, hN_zw, hM_zw, upd_s, upd_u, upd_ne, Classical.not_not, k_Mp_hasContactAt, h1, h2, h3, h4, h5, ei, ei8]; try clear hgo9 hW9); try (obtain ⟨W9, hW9, hgo9⟩ := wp_ex (T_Mp_hasContactAt l G) [2] _; refine hgo9 200 _ _ _ _ ?_; simp -implicitDefEqProofs (disch := omega) only [hW9, inl, gate, Xq, tz_const, tz_iload, tz_lload, tz_dload, tz_aload, tz_istore, tz_astore, tz_lstore, tz_dstore, tz_iinc, tz_i1, tz_i2, tz_i2z, tz_l2, tz_l2z, tz_i2l, tz_l2i, tz_lcmp, tz_i2d, tz_d2, tz_dcmp, tz_dup, tz_dup2, tz_pop, tz_if, tz_icmp, tz_null, tz_goto, tz_sw, tz_getf, tz_puti, tz_putz, tz_putr, tz_putl, tz_iaload, tz_baload, tz_laload, tz_aaload, tz_iastore, tz_bastore, tz_lastore, tz_aastore, tz_alen, tz_new, tz_newa, tz_oinit, tz_iret, tz_zret, tz_lret, tz_dret, tz_aret, tz_vret, tz_throw, tz_callS, tz_callV, tz_callI, tz_callR, tz_pureS, tz_pureV, tz_callVH, lg, lset, lkill, lst1, lst2, entL, isRf, is1, vl, va_rf_none, va_rf_some, isRf_rf, is1_rf, i0, i1, bI_eq0, bI_eq1, nm_em, nI_eqP, nI_leP, nI_ltP, nN_e1, nN_e2, nN_l1, nN_l2, nN_l3, nN_l4, nI_add, pk_mul, vp_inN, nI_cl, n01, n10, P_i, P_ii, P_iii, f_Mo_at, f_Mo_map, f_Mo_contact, f_Mo_within, f_Mo_isPort, f_Hp_endpoint, f_Hp_nodeOf, f_Hp_portOf, f_Ma_max, f_Ma_min, f_Hp_isSetting, popN, rok, a1, noX, swc, mL, if_true, if_false, ↓reduceIte, cond_true, cond_false, true_and, and_true, List.length_cons, List.length_nil, List.nil_append, List.cons_append, List.append_nil, Option.toList, Nat.reduceEqDiff, Bool.false_eq_true, reduceCtorEq, Nat.reduceAdd, Nat.reduceLT, Nat.reduceLeDiff, Nat.reduceSub, List.replicate, Nat.zero_add, Nat.lt_add_one, Nat.le_refl, Nat.zero_le, Nat.succ_ne_zero, not_false_eq_true, not_true_eq_false, false_implies, true_implies, forall_const, imp_self, true_or, or_true, eq_self, sI_zw, zw_zw, hI_zw, tg_zw, ln_zw, hR_zw, hL_zw, hN_zw, hM_zw, upd_s, upd_u, upd_ne, Classical.not_not, k_Mp_hasContactAt, h1, h2, h3, h4, h5, ei, ei8]; try clear hgo9 hW9); try (obtain ⟨W9, hW9, hgo9⟩ := wp_ex (T_Mp_hasContactAt l G) [2] _; refine hgo9 200 _ _ _ _ ?_; simp -implicitDefEqProofs (disch := omega) only [hW9, inl, gate, Xq, tz_const, tz_iload, tz_lload, tz_dload, tz_aload, tz_istore, tz_astore, tz_lstore, tz_dstore, tz_iinc, tz_i1, tz_i2, tz_i2z, tz_l2, tz_l2z, tz_i2l, tz_l2i, tz_lcmp, tz_i2d, tz_d2, tz_dcmp, tz_dup, tz_dup2, tz_pop, tz_if, tz_icmp, tz_null, tz_goto, tz_sw, tz_getf, tz_puti, tz_putz, tz_putr, tz_putl, tz_iaload, tz_baload, tz_laload, tz_aaload, tz_iastore, tz_bastore, tz_lastore, tz_aastore, tz_alen, tz_new, tz_newa, tz_oinit, tz_iret, tz_zret, tz_lret, tz_dret, tz_aret, tz_vret, tz_throw, tz_callS, tz_callV, tz_callI, tz_callR, tz_pureS, tz_pureV, tz_callVH, lg, lset, lkill, lst1, lst2, entL, isRf, is1, vl, va_rf_none, va_rf_some, isRf_rf, is1_rf, i0, i1, bI_eq0, bI_eq1, nm_em, nI_eqP, nI_leP, nI_ltP, nN_e1, nN_e2, nN_l1, nN_l2, nN_l3, nN_l4, nI_add, pk_mul, vp_inN, nI_cl, n01, n10, P_i, P_ii, P_iii, f_Mo_at, f_Mo_map, f_Mo_contact, f_Mo_within, f_Mo_isPort, f_Hp_endpoint, f_Hp_nodeOf, f_Hp_portOf, f_Ma_max, f_Ma_min, f_Hp_isSetting, popN, rok, a1, noX, swc, mL, if_true, if_false, ↓reduceIte, cond_true, cond_false, true_and, and_true, List.length_cons, List.length_nil, List.nil_append, List.cons_append, List.append_nil, Option.toList, Nat.reduceEqDiff, Bool.false_eq_true, reduceCtorEq, Nat.reduceAdd, Nat.reduceLT, Nat.reduceLeDiff, Nat.reduceSub, List.replicate, Nat.zero_add, Nat.lt_add_one, Nat.le_refl, Nat.zero_le, Nat.succ_ne_zero, not_false_eq_true, not_true_eq_false, false_implies, true_implies, forall_const, imp_self, true_or, or_true, eq_self, sI_zw, zw_zw, hI_zw, tg_zw, ln_zw, hR_zw, hL_zw, hN_zw, hM_zw, upd_s, upd_u, upd_ne, Classical.not_not, k_Mp_hasContactAt, h1, h2, h3, h4, h5, ei, ei8]; try clear hgo9 hW9))
    refine ⟨fun c => ?_, fun c => ?_⟩
    · (obtain ⟨W9, hW9, hgo9⟩ := wp_ex (T_Mp_hasContactAt l G) [2] _; refine hgo9 200 _ _ _ _ ?_; simp -implicitDefEqProofs (disch := omega) only [hW9, inl, gate, Xq, tz_const, tz_iload, tz_lload, tz_dload, tz_aload, tz_istore, tz_astore, tz_lstore, tz_dstore, tz_iinc, tz_i1, tz_i2, tz_i2z, tz_l2, tz_l2z, tz_i2l, tz_l2i, tz_lcmp, tz_i2d, tz_d2, tz_dcmp, tz_dup, tz_dup2, tz_pop, tz_if, tz_icmp, tz_null, tz_goto, tz_sw, tz_getf, tz_puti, tz_putz, tz_putr, tz_putl, tz_iaload, tz_baload, tz_laload, tz_aaload, tz_iastore, tz_bastore, tz_lastore, tz_aastore, tz_alen, tz_new, tz_newa, tz_oinit, tz_iret, tz_zret, tz_lret, tz_dret, tz_aret, tz_vret, tz_throw, tz_callS, tz_callV, tz_callI, tz_callR, tz_pureS, tz_pureV, tz_callVH, lg, lset, lkill, lst1, lst2, entL, isRf, is1, vl, va_rf_none, va_rf_some, isRf_rf, is1_rf, i0, i1, bI_eq0, bI_eq1, nm_em, nI_eqP, nI_leP, nI_ltP, nN_e1, nN_e2, nN_l1, nN_l2, nN_l3, nN_l4, nI_add, pk_mul, vp_inN, nI_cl, n01, n10, P_i, P_ii, P_iii, f_Mo_at, f_Mo_map, f_Mo_contact, f_Mo_within, f_Mo_isPort, f_Hp_endpoint, f_Hp_nodeOf, f_Hp_portOf, f_Ma_max, f_Ma_min, f_Hp_isSetting, popN, rok, a1, noX, swc, mL, if_true, if_false, ↓reduceIte, cond_true, cond_false, true_and, and_true, List.length_cons, List.length_nil, List.nil_append, List.cons_append, List.append_nil, Option.toList, Nat.reduceEqDiff, Bool.false_eq_true, reduceCtorEq, Nat.reduceAdd, Nat.reduceLT, Nat.reduceLeDiff, Nat.reduceSub, List.replicate, Nat.zero_add, Nat.lt_add_one, Nat.le_refl, Nat.zero_le, Nat.succ_ne_zero, not_false_eq_true, not_true_eq_false, false_implies, true_implies, forall_const, imp_self, true_or, or_true, eq_self, sI_zw, zw_zw, hI_zw, tg_zw, ln_zw, hR_zw, hL_zw, hN_zw, hM_zw, upd_s, upd_u, upd_ne, Classical.not_not, k_Mp_hasContactAt, h1]; try clear hgo9 hW9)
      refine ih (i + 1) (by omega) (fun j hj => ?_)
      by_cases e2 : j = i
      · rw [e2]; exact c
      · exact hno j (by omega)
    · (obtain ⟨W9, hW9, hgo9⟩ := wp_ex (T_Mp_hasContactAt l G) [2] _; refine hgo9 200 _ _ _ _ ?_; simp -implicitDefEqProofs (disch := omega) only [hW9, inl, gate, Xq, tz_const, tz_iload, tz_lload, tz_dload, tz_aload, tz_istore, tz_astore, tz_lstore, tz_dstore, tz_iinc, tz_i1, tz_i2, tz_i2z, tz_l2, tz_l2z, tz_i2l, tz_l2i, tz_lcmp, tz_i2d, tz_d2, tz_dcmp, tz_dup, tz_dup2, tz_pop, tz_if, tz_icmp, tz_null, tz_goto, tz_sw, tz_getf, tz_puti, tz_putz, tz_putr, tz_putl, tz_iaload, tz_baload, tz_laload, tz_aaload, tz_iastore, tz_bastore, tz_lastore, tz_aastore, tz_alen, tz_new, tz_newa, tz_oinit, tz_iret, tz_zret, tz_lret, tz_dret, tz_aret, tz_vret, tz_throw, tz_callS, tz_callV, tz_callI, tz_callR, tz_pureS, tz_pureV, tz_callVH, lg, lset, lkill, lst1, lst2, entL, isRf, is1, vl, va_rf_none, va_rf_some, isRf_rf, is1_rf, i0, i1, bI_eq0, bI_eq1, nm_em, nI_eqP, nI_leP, nI_ltP, nN_e1, nN_e2, nN_l1, nN_l2, nN_l3, nN_l4, nI_add, pk_mul, vp_inN, nI_cl, n01, n10, P_i, P_ii, P_iii, f_Mo_at, f_Mo_map, f_Mo_contact, f_Mo_within, f_Mo_isPort, f_Hp_endpoint, f_Hp_nodeOf, f_Hp_portOf, f_Ma_max, f_Ma_min, f_Hp_isSetting, popN, rok, a1, noX, swc, mL, if_true, if_false, ↓reduceIte, cond_true, cond_false, true_and, and_true, List.length_cons, List.length_nil, List.nil_append, List.cons_append, List.append_nil, Option.toList, Nat.reduceEqDiff, Bool.false_eq_true, reduceCtorEq, Nat.reduceAdd, Nat.reduceLT, Nat.reduceLeDiff, Nat.reduceSub, List.replicate, Nat.zero_add, Nat.lt_add_one, Nat.le_refl, Nat.zero_le, Nat.succ_ne_zero, not_false_eq_true, not_true_eq_false, false_implies, true_implies, forall_const, imp_self, true_or, or_true, eq_self, sI_zw, zw_zw, hI_zw, tg_zw, ln_zw, hR_zw, hL_zw, hN_zw, hM_zw, upd_s, upd_u, upd_ne, Classical.not_not, k_Mp_hasContactAt, h1]; try clear hgo9 hW9)
      exact q2 i (by omega) c
theorem c_Mp_hasContactAt (m c : Nat) (x : Int32) (h : AH) (Q : Po) (hk : CtK h m c) (q1 : (∀ j, j < c → ¬ hI h (cC h m) j / nI 10000 = x) → Q (.inl (some (.int (nI 0)))) h) (q2 : ∀ j, j < c → hI h (cC h m) j / nI 10000 = x → Q (.inl (some (.int (nI 1)))) h) : Call l G M_Mp_hasContactAt [.ref m, .int x] h Q := by
  refine call_of rfl rfl (Nat.le_of_ble_eq_true rfl) ?_
  (obtain ⟨W9, hW9, hgo9⟩ := wp_ex (T_Mp_hasContactAt l G) [2] _; refine hgo9 200 _ _ _ _ ?_; simp -implicitDefEqProofs (disch := omega) only [hW9, inl, gate, Xq, tz_const, tz_iload, tz_lload, tz_dload, tz_aload, tz_istore, tz_astore, tz_lstore, tz_dstore, tz_iinc, tz_i1, tz_i2, tz_i2z, tz_l2, tz_l2z, tz_i2l, tz_l2i, tz_lcmp, tz_i2d, tz_d2, tz_dcmp, tz_dup, tz_dup2, tz_pop, tz_if, tz_icmp, tz_null, tz_goto, tz_sw, tz_getf, tz_puti, tz_putz, tz_putr, tz_putl, tz_iaload, tz_baload, tz_laload, tz_aaload, tz_iastore, tz_bastore, tz_lastore, tz_aastore, tz_alen, tz_new, tz_newa, tz_oinit, tz_iret, tz_zret, tz_lret, tz_dret, tz_aret, tz_vret, tz_throw, tz_callS, tz_callV, tz_callI, tz_callR, tz_pureS, tz_pureV, tz_callVH, lg, lset, lkill, lst1, lst2, entL, isRf, is1, vl, va_rf_none, va_rf_some, isRf_rf, is1_rf, i0, i1, bI_eq0, bI_eq1, nm_em, nI_eqP, nI_leP, nI_ltP, nN_e1, nN_e2, nN_l1, nN_l2, nN_l3, nN_l4, nI_add, pk_mul, vp_inN, nI_cl, n01, n10, P_i, P_ii, P_iii, f_Mo_at, f_Mo_map, f_Mo_contact, f_Mo_within, f_Mo_isPort, f_Hp_endpoint, f_Hp_nodeOf, f_Hp_portOf, f_Ma_max, f_Ma_min, f_Hp_isSetting, popN, rok, a1, noX, swc, mL, if_true, if_false, ↓reduceIte, cond_true, cond_false, true_and, and_true, List.length_cons, List.length_nil, List.nil_append, List.cons_append, List.append_nil, Option.toList, Nat.reduceEqDiff, Bool.false_eq_true, reduceCtorEq, Nat.reduceAdd, Nat.reduceLT, Nat.reduceLeDiff, Nat.reduceSub, List.replicate, Nat.zero_add, Nat.lt_add_one, Nat.le_refl, Nat.zero_le, Nat.succ_ne_zero, not_false_eq_true, not_true_eq_false, false_implies, true_implies, forall_const, imp_self, true_or, or_true, eq_self, sI_zw, zw_zw, hI_zw, tg_zw, ln_zw, hR_zw, hL_zw, hN_zw, hM_zw, upd_s, upd_u, upd_ne, Classical.not_not, k_Mp_hasContactAt, hk.1]; try clear hgo9 hW9)
  exact lp_hc hk q1 q2 c 0 (by omega) (fun j hj => by omega)
end
