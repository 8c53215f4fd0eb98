/-! THE CLASS: copies of nodes and networks -/
def k_Nw_copyFrom (l : Launch) (G : Gc) (pc : Nat) : Tr :=
  if pc < 54 then
   if pc < 27 then
    if pc < 13 then
     if pc < 5 then
      if pc < 1 then
       if pc = 0 then tz_aload 1 0 else dead
      else
       if pc < 2 then
        if pc = 1 then tz_aload 2 1 else dead
       else
        if pc = 2 then tz_getf 5 1 3 0 else dead
     else
      if pc < 9 then
       if pc < 8 then
        if pc = 5 then tz_puti 8 1 3 else dead
       else
        if pc = 8 then tz_aload 9 0 else dead
      else
       if pc < 10 then
        if pc = 9 then tz_aload 10 1 else dead
       else
        if pc = 10 then tz_getf 13 1 4 0 else dead
    else
     if pc < 21 then
      if pc < 17 then
       if pc < 16 then
        if pc = 13 then tz_puti 16 1 4 else dead
       else
        if pc = 16 then tz_aload 17 0 else dead
      else
       if pc < 18 then
        if pc = 17 then tz_aload 18 1 else dead
       else
        if pc = 18 then tz_getf 21 1 5 0 else dead
     else
      if pc < 25 then
       if pc < 24 then
        if pc = 21 then tz_puti 24 1 5 else dead
       else
        if pc = 24 then tz_const 25 (.int (nI 0)) else dead
      else
       if pc < 26 then
        if pc = 25 then tz_istore 26 2 else dead
       else
        if pc = 26 then tz_iload 27 2 else dead
   else
    if pc < 40 then
     if pc < 32 then
      if pc < 28 then
       if pc = 27 then tz_aload 28 0 else dead
      else
       if pc < 31 then
        if pc = 28 then tz_getf 31 1 1 1 else dead
       else
        if pc = 31 then tz_alen 32 else dead
     else
      if pc < 36 then
       if pc < 35 then
        if pc = 32 then tz_icmp 35 62 (fun a b => b ≤ a) else dead
       else
        if pc = 35 then tz_iload 36 2 else dead
      else
       if pc < 37 then
        if pc = 36 then tz_aload 37 1 else dead
       else
        if pc = 37 then tz_getf 40 1 1 1 else dead
    else
     if pc < 48 then
      if pc < 44 then
       if pc < 41 then
        if pc = 40 then tz_alen 41 else dead
       else
        if pc = 41 then tz_icmp 44 62 (fun a b => b ≤ a) else dead
      else
       if pc < 45 then
        if pc = 44 then tz_aload 45 0 else dead
       else
        if pc = 45 then tz_getf 48 1 1 1 else dead
     else
      if pc < 50 then
       if pc < 49 then
        if pc = 48 then tz_iload 49 2 else dead
       else
        if pc = 49 then tz_aload 50 1 else dead
      else
       if pc < 53 then
        if pc = 50 then tz_getf 53 1 1 1 else dead
       else
        if pc = 53 then tz_iload 54 2 else dead
  else
   if pc < 79 then
    if pc < 67 then
     if pc < 59 then
      if pc < 55 then
       if pc = 54 then tz_iaload 55 else dead
      else
       if pc < 56 then
        if pc = 55 then tz_iastore 56 else dead
       else
        if pc = 56 then tz_iinc 59 2 (nI 1) else dead
     else
      if pc < 63 then
       if pc < 62 then
        if pc = 59 then tz_goto 26 else dead
       else
        if pc = 62 then tz_aload 63 0 else dead
      else
       if pc < 64 then
        if pc = 63 then tz_const 64 (.int (nI 0)) else dead
       else
        if pc = 64 then tz_puti 67 1 2 else dead
    else
     if pc < 71 then
      if pc < 69 then
       if pc < 68 then
        if pc = 67 then tz_const 68 (.int (nI 0)) else dead
       else
        if pc = 68 then tz_istore 69 2 else dead
      else
       if pc < 70 then
        if pc = 69 then tz_iload 70 2 else dead
       else
        if pc = 70 then tz_aload 71 1 else dead
     else
      if pc < 77 then
       if pc < 74 then
        if pc = 71 then tz_getf 74 1 2 0 else dead
       else
        if pc = 74 then tz_icmp 77 110 (fun a b => b ≤ a) else dead
      else
       if pc < 78 then
        if pc = 77 then tz_aload 78 1 else dead
       else
        if pc = 78 then tz_iload 79 2 else dead
   else
    if pc < 93 then
     if pc < 84 then
      if pc < 82 then
       if pc = 79 then tz_pureV 82 1 1 P_Nw_nodeAt f_Nw_nodeAt else dead
      else
       if pc < 83 then
        if pc = 82 then tz_astore 83 3 else dead
       else
        if pc = 83 then tz_aload 84 0 else dead
     else
      if pc < 89 then
       if pc < 87 then
        if pc = 84 then tz_callV l G 87 M_Nw_nextNode 0 1 else dead
       else
        if pc = 87 then tz_astore 89 4 else dead
      else
       if pc < 90 then
        if pc = 89 then tz_aload 90 3 else dead
       else
        if pc = 90 then tz_null 104 93 else dead
    else
     if pc < 101 then
      if pc < 98 then
       if pc < 95 then
        if pc = 93 then tz_aload 95 4 else dead
       else
        if pc = 95 then tz_null 104 98 else dead
      else
       if pc < 100 then
        if pc = 98 then tz_aload 100 4 else dead
       else
        if pc = 100 then tz_aload 101 3 else dead
     else
      if pc < 107 then
       if pc < 104 then
        if pc = 101 then tz_callV l G 104 M_No_copyFrom 1 3 else dead
       else
        if pc = 104 then tz_iinc 107 2 (nI 1) else dead
      else
       if pc < 110 then
        if pc = 107 then tz_goto 69 else dead
       else
        if pc = 110 then tz_vret else dead
set_option maxRecDepth 100000 in
theorem T_Nw_copyFrom (l : Launch) (G : Gc) : TabOK l G M_Nw_copyFrom (k_Nw_copyFrom l G) := by
  intro pc
  unfold k_Nw_copyFrom
  exact
   (sd_br
    (sd_br
     (sd_br
      (sd_br
       (sd_br
        (sd_lf (sd_aload_n (k := 0) (by decide +kernel : decode prog_3_method_3_code 0 = .ok (.aload_n 0, 1))))
        (sd_br
         (sd_lf (sd_aload_n (k := 1) (by decide +kernel : decode prog_3_method_3_code 1 = .ok (.aload_n 1, 1))))
         (sd_lf (sd_getf (q := (RX1, TX1, 6)) (by decide +kernel : decode prog_3_method_3_code 2 = .ok (.getfield 25, 3)) rfl (by decide +kernel) (gm 109 (by decide +kernel) rfl)))))
       (sd_br
        (sd_br
         (sd_lf (sd_puti (q := (RX1, TX1, 6)) (by decide +kernel : decode prog_3_method_3_code 5 = .ok (.putfield 25, 3)) rfl (by decide +kernel) (gm 109 (by decide +kernel) rfl) rfl rfl (Or.inl rfl)))
         (sd_lf (sd_aload_n (k := 0) (by decide +kernel : decode prog_3_method_3_code 8 = .ok (.aload_n 0, 1)))))
        (sd_br
         (sd_lf (sd_aload_n (k := 1) (by decide +kernel : decode prog_3_method_3_code 9 = .ok (.aload_n 1, 1))))
         (sd_lf (sd_getf (q := (RX1, TX1, 6)) (by decide +kernel : decode prog_3_method_3_code 10 = .ok (.getfield 28, 3)) rfl (by decide +kernel) (gm 111 (by decide +kernel) rfl))))))
      (sd_br
       (sd_br
        (sd_br
         (sd_lf (sd_puti (q := (RX1, TX1, 6)) (by decide +kernel : decode prog_3_method_3_code 13 = .ok (.putfield 28, 3)) rfl (by decide +kernel) (gm 111 (by decide +kernel) rfl) rfl rfl (Or.inl rfl)))
         (sd_lf (sd_aload_n (k := 0) (by decide +kernel : decode prog_3_method_3_code 16 = .ok (.aload_n 0, 1)))))
        (sd_br
         (sd_lf (sd_aload_n (k := 1) (by decide +kernel : decode prog_3_method_3_code 17 = .ok (.aload_n 1, 1))))
         (sd_lf (sd_getf (q := (RX1, TX1, 6)) (by decide +kernel : decode prog_3_method_3_code 18 = .ok (.getfield 31, 3)) rfl (by decide +kernel) (gm 113 (by decide +kernel) rfl)))))
       (sd_br
        (sd_br
         (sd_lf (sd_puti (q := (RX1, TX1, 6)) (by decide +kernel : decode prog_3_method_3_code 21 = .ok (.putfield 31, 3)) rfl (by decide +kernel) (gm 113 (by decide +kernel) rfl) rfl rfl (Or.inl rfl)))
         (sd_lf (sd_iconst (by decide +kernel : decode prog_3_method_3_code 24 = .ok (.iconst 0, 1)) (by decide +kernel))))
        (sd_br
         (sd_lf (sd_istore_n (k := 2) (by decide +kernel : decode prog_3_method_3_code 25 = .ok (.istore_n 2, 1))))
         (sd_lf (sd_iload_n (k := 2) (by decide +kernel : decode prog_3_method_3_code 26 = .ok (.iload_n 2, 1))))))))
     (sd_br
      (sd_br
       (sd_br
        (sd_lf (sd_aload_n (k := 0) (by decide +kernel : decode prog_3_method_3_code 27 = .ok (.aload_n 0, 1))))
        (sd_br
         (sd_lf (sd_getf (q := (RX1, TX1, 6)) (by decide +kernel : decode prog_3_method_3_code 28 = .ok (.getfield 17, 3)) rfl (by decide +kernel) (gm 105 (by decide +kernel) rfl)))
         (sd_lf (sd_alen (by decide +kernel : decode prog_3_method_3_code 31 = .ok (.arraylength, 1))))))
       (sd_br
        (sd_br
         (sd_lf (sd_icmp_ge (by decide +kernel : decode prog_3_method_3_code 32 = .ok (.if_icmp .ge 30, 3)) (by decide +kernel)))
         (sd_lf (sd_iload_n (k := 2) (by decide +kernel : decode prog_3_method_3_code 35 = .ok (.iload_n 2, 1)))))
        (sd_br
         (sd_lf (sd_aload_n (k := 1) (by decide +kernel : decode prog_3_method_3_code 36 = .ok (.aload_n 1, 1))))
         (sd_lf (sd_getf (q := (RX1, TX1, 6)) (by decide +kernel : decode prog_3_method_3_code 37 = .ok (.getfield 17, 3)) rfl (by decide +kernel) (gm 105 (by decide +kernel) rfl))))))
      (sd_br
       (sd_br
        (sd_br
         (sd_lf (sd_alen (by decide +kernel : decode prog_3_method_3_code 40 = .ok (.arraylength, 1))))
         (sd_lf (sd_icmp_ge (by decide +kernel : decode prog_3_method_3_code 41 = .ok (.if_icmp .ge 21, 3)) (by decide +kernel))))
        (sd_br
         (sd_lf (sd_aload_n (k := 0) (by decide +kernel : decode prog_3_method_3_code 44 = .ok (.aload_n 0, 1))))
         (sd_lf (sd_getf (q := (RX1, TX1, 6)) (by decide +kernel : decode prog_3_method_3_code 45 = .ok (.getfield 17, 3)) rfl (by decide +kernel) (gm 105 (by decide +kernel) rfl)))))
       (sd_br
        (sd_br
         (sd_lf (sd_iload_n (k := 2) (by decide +kernel : decode prog_3_method_3_code 48 = .ok (.iload_n 2, 1))))
         (sd_lf (sd_aload_n (k := 1) (by decide +kernel : decode prog_3_method_3_code 49 = .ok (.aload_n 1, 1)))))
        (sd_br
         (sd_lf (sd_getf (q := (RX1, TX1, 6)) (by decide +kernel : decode prog_3_method_3_code 50 = .ok (.getfield 17, 3)) rfl (by decide +kernel) (gm 105 (by decide +kernel) rfl)))
         (sd_lf (sd_iload_n (k := 2) (by decide +kernel : decode prog_3_method_3_code 53 = .ok (.iload_n 2, 1)))))))))
    (sd_br
     (sd_br
      (sd_br
       (sd_br
        (sd_lf (sd_iaload (by decide +kernel : decode prog_3_method_3_code 54 = .ok (.iaload, 1))))
        (sd_br
         (sd_lf (sd_iastore (by decide +kernel : decode prog_3_method_3_code 55 = .ok (.iastore, 1))))
         (sd_lf (sd_iinc (by decide +kernel : decode prog_3_method_3_code 56 = .ok (.iinc 2 1, 3)) (by decide +kernel)))))
       (sd_br
        (sd_br
         (sd_lf (sd_goto (by decide +kernel : decode prog_3_method_3_code 59 = .ok (.goto (-33), 3)) (by decide +kernel)))
         (sd_lf (sd_aload_n (k := 0) (by decide +kernel : decode prog_3_method_3_code 62 = .ok (.aload_n 0, 1)))))
        (sd_br
         (sd_lf (sd_iconst (by decide +kernel : decode prog_3_method_3_code 63 = .ok (.iconst 0, 1)) (by decide +kernel)))
         (sd_lf (sd_puti (q := (RX1, TX1, 6)) (by decide +kernel : decode prog_3_method_3_code 64 = .ok (.putfield 21, 3)) rfl (by decide +kernel) (gm 106 (by decide +kernel) rfl) rfl rfl (Or.inl rfl))))))
      (sd_br
       (sd_br
        (sd_br
         (sd_lf (sd_iconst (by decide +kernel : decode prog_3_method_3_code 67 = .ok (.iconst 0, 1)) (by decide +kernel)))
         (sd_lf (sd_istore_n (k := 2) (by decide +kernel : decode prog_3_method_3_code 68 = .ok (.istore_n 2, 1)))))
        (sd_br
         (sd_lf (sd_iload_n (k := 2) (by decide +kernel : decode prog_3_method_3_code 69 = .ok (.iload_n 2, 1))))
         (sd_lf (sd_aload_n (k := 1) (by decide +kernel : decode prog_3_method_3_code 70 = .ok (.aload_n 1, 1))))))
       (sd_br
        (sd_br
         (sd_lf (sd_getf (q := (RX1, TX1, 6)) (by decide +kernel : decode prog_3_method_3_code 71 = .ok (.getfield 21, 3)) rfl (by decide +kernel) (gm 106 (by decide +kernel) rfl)))
         (sd_lf (sd_icmp_ge (by decide +kernel : decode prog_3_method_3_code 74 = .ok (.if_icmp .ge 36, 3)) (by decide +kernel))))
        (sd_br
         (sd_lf (sd_aload_n (k := 1) (by decide +kernel : decode prog_3_method_3_code 77 = .ok (.aload_n 1, 1))))
         (sd_lf (sd_iload_n (k := 2) (by decide +kernel : decode prog_3_method_3_code 78 = .ok (.iload_n 2, 1))))))))
     (sd_br
      (sd_br
       (sd_br
        (sd_lf (sd_pureV (sd_callV (q := (RX1, TX1, 6)) (by decide +kernel : decode prog_3_method_3_code 79 = .ok (.invokevirtual 34, 3)) ok_Nw_nodeAt (gm 192 (by decide +kernel) rfl) (gm 193 (by decide +kernel) rfl) (gm 194 (by decide +kernel) rfl) rfl rfl (by decide +kernel) rfl rfl) c_Nw_nodeAt))
        (sd_br
         (sd_lf (sd_astore_n (k := 3) (by decide +kernel : decode prog_3_method_3_code 82 = .ok (.astore_n 3, 1))))
         (sd_lf (sd_aload_n (k := 0) (by decide +kernel : decode prog_3_method_3_code 83 = .ok (.aload_n 0, 1))))))
       (sd_br
        (sd_br
         (sd_lf (sd_callV (q := (RX1, TX1, 6)) (by decide +kernel : decode prog_3_method_3_code 84 = .ok (.invokevirtual 38, 3)) ok_Nw_nextNode (gm 196 (by decide +kernel) rfl) (gm 198 (by decide +kernel) rfl) (gm 0 (by decide +kernel) rfl) rfl rfl (by decide +kernel) rfl rfl))
         (sd_lf (sd_astore (by decide +kernel : decode prog_3_method_3_code 87 = .ok (.astore 4, 2)))))
        (sd_br
         (sd_lf (sd_aload_n (k := 3) (by decide +kernel : decode prog_3_method_3_code 89 = .ok (.aload_n 3, 1))))
         (sd_lf (sd_ifnull (by decide +kernel : decode prog_3_method_3_code 90 = .ok (.ifnull 14, 3)) (by decide +kernel))))))
      (sd_br
       (sd_br
        (sd_br
         (sd_lf (sd_aload (by decide +kernel : decode prog_3_method_3_code 93 = .ok (.aload 4, 2))))
         (sd_lf (sd_ifnull (by decide +kernel : decode prog_3_method_3_code 95 = .ok (.ifnull 9, 3)) (by decide +kernel))))
        (sd_br
         (sd_lf (sd_aload (by decide +kernel : decode prog_3_method_3_code 98 = .ok (.aload 4, 2))))
         (sd_lf (sd_aload_n (k := 3) (by decide +kernel : decode prog_3_method_3_code 100 = .ok (.aload_n 3, 1))))))
       (sd_br
        (sd_br
         (sd_lf (sd_callV (q := (RX3, TX3, 5)) (by decide +kernel : decode prog_3_method_3_code 101 = .ok (.invokevirtual 42, 3)) ok_No_copyFrom (gm 228 (by decide +kernel) rfl) (gm 229 (by decide +kernel) rfl) (gm 230 (by decide +kernel) rfl) rfl rfl (by decide +kernel) rfl rfl))
         (sd_lf (sd_iinc (by decide +kernel : decode prog_3_method_3_code 104 = .ok (.iinc 2 1, 3)) (by decide +kernel))))
        (sd_br
         (sd_lf (sd_goto (by decide +kernel : decode prog_3_method_3_code 107 = .ok (.goto (-38), 3)) (by decide +kernel)))
         (sd_lf (sd_vret (by decide +kernel : decode prog_3_method_3_code 110 = .ok (.return_, 1)) rfl))))))))
section
variable {l : Launch} {G : Gc}
/-- node n of wn has become what z says of node i -/
def NcR (h h' : AH) (wn i n : Nat) (z : Nat → Int32) : Prop := ShD h' wn i n ∧ NoV h' n z i ∧ (z (16 + 16 * i) = nI 1 → ∃ t, hR h' n 4 = some t ∧ TlG h' t z i (own z i) (own z i)) ∧ Fr wn 18 h h' ∧ ∀ b, b < hN h → ¬ ndc h wn i b → same1 h h' b
theorem c_No_copyFrom (wn wo n o i : Nat) (z : Nat → Int32) (h : AH) (Q : Po) (hw : WF h) (hne : wo ≠ wn) (sd : ShD h wn i n) (so : ShD h wo i o) (nv : NoV h o z i) (hk : z (16 + 16 * i) = nI 0 ∨ z (16 + 16 * i) = nI 1) (ot : z (16 + 16 * i) = nI 1 → (∃ t, hR h o 4 = some t ∧ TlG h t z i (own z i) (own z i)) ∧ own z i ≤ 8 ∧ (∀ j, j < own z i → knw z i j ≤ 8) ∧ TrI z i)
    (hQ : ∀ h', NcR h h' wn i n z → Q (.inl none) h') : Call l G M_No_copyFrom [.ref n, .ref o] h Q := by
  have n3 := sd.1
  have o3 := so.1
  have ln' : n < hN h := hw.lt (by rw [n3]; decide)
  have lo : o < hN h := hw.lt (by rw [o3]; decide)
  have nn : o ≠ n := by
    intro q
    have := so.2.1
    rw [q, sd.2.1] at this
    cases this
    exact hne rfl
  have ron := rd_ne nn
  have rn : rt h n = some wn := rt_gh sd.2.1
  refine call_of rfl rfl (Nat.le_of_ble_eq_true rfl) ?_
  rcases hk with hk | hk
  · have iz := nv.1 hk
    have n0 : ¬ nI 1 = nI 0 := by decide
    ((obtain ⟨W9, hW9, hgo9⟩ := wp_ex (T_No_copyFrom l G) [] _; refine hgo9 200 _ _ _ _ ?_; simp -implicitDefEqProofs (disch := omega) only [hW9, inl, gate, Xq, tz_const, tz_iload, tz_lload, tz_dload, tz_aload, tz_istore, tz_astore, tz_lstore, tz_dstore, tz_iinc, tz_i1, tz_i2, tz_i2z, tz_l2, tz_l2z, tz_i2l, tz_l2i, tz_lcmp, tz_i2d, tz_d2, tz_dcmp, tz_dup, tz_dup2, tz_pop, tz_if, tz_icmp, tz_null, tz_goto, tz_sw, tz_getf, tz_puti, tz_putz, tz_putr, tz_putl, tz_iaload, tz_baload, tz_laload, tz_aaload, tz_iastore, tz_bastore, tz_lastore, tz_aastore, tz_alen, tz_new, tz_newa, tz_oinit, tz_iret, tz_zret, tz_lret, tz_dret, tz_aret, tz_vret, tz_throw, tz_callS, tz_callV, tz_callI, tz_callR, tz_pureS, tz_pureV, tz_callVH, lg, lset, lkill, lst1, lst2, entL, isRf, is1, vl, va_rf_none, va_rf_some, isRf_rf, is1_rf, i0, i1, bI_eq0, bI_eq1, nm_em, nI_eqP, nI_leP, nI_ltP, nN_e1, nN_e2, nN_l1, nN_l2, nN_l3, nN_l4, nI_add, pk_mul, vp_inN, nI_cl, n01, n10, P_i, P_ii, P_iii, f_Mo_at, f_Mo_map, f_Mo_contact, f_Mo_within, f_Mo_isPort, f_Hp_endpoint, f_Hp_nodeOf, f_Hp_portOf, f_Ma_max, f_Ma_min, f_Hp_isSetting, popN, rok, a1, noX, swc, mL, if_true, if_false, ↓reduceIte, cond_true, cond_false, true_and, and_true, List.length_cons, List.length_nil, List.nil_append, List.cons_append, List.append_nil, Option.toList, Nat.reduceEqDiff, Bool.false_eq_true, reduceCtorEq, Nat.reduceAdd, Nat.reduceLT, Nat.reduceLeDiff, Nat.reduceSub, List.replicate, Nat.zero_add, Nat.lt_add_one, Nat.le_refl, Nat.zero_le, Nat.succ_ne_zero, not_false_eq_true, not_true_eq_false, false_implies, true_implies, forall_const, imp_self, true_or, or_true, eq_self, sI_zw, zw_zw, hI_zw, tg_zw, ln_zw, hR_zw, hL_zw, hN_zw, hM_zw, upd_s, upd_u, upd_ne, Classical.not_not, k_No_copyFrom, n3, o3, iz, n0]; try clear hgo9 hW9); try (obtain ⟨W9, hW9, hgo9⟩ := wp_ex (T_No_copyFrom l G) [] _; refine hgo9 200 _ _ _ _ ?_; simp -implicitDefEqProofs (disch := omega) only [hW9, inl, gate, Xq, tz_const, tz_iload, tz_lload, tz_dload, tz_aload, tz_istore, tz_astore, tz_lstore, tz_dstore, tz_iinc, tz_i1, tz_i2, tz_i2z, tz_l2, tz_l2z, tz_i2l, tz_l2i, tz_lcmp, tz_i2d, tz_d2, tz_dcmp, tz_dup, tz_dup2, tz_pop, tz_if, tz_icmp, tz_null, tz_goto, tz_sw, tz_getf, tz_puti, tz_putz, tz_putr, tz_putl, tz_iaload, tz_baload, tz_laload, tz_aaload, tz_iastore, tz_bastore, tz_lastore, tz_aastore, tz_alen, tz_new, tz_newa, tz_oinit, tz_iret, tz_zret, tz_lret, tz_dret, tz_aret, tz_vret, tz_throw, tz_callS, tz_callV, tz_callI, tz_callR, tz_pureS, tz_pureV, tz_callVH, lg, lset, lkill, lst1, lst2, entL, isRf, is1, vl, va_rf_none, va_rf_some, isRf_rf, is1_rf, i0, i1, bI_eq0, bI_eq1, nm_em, nI_eqP, nI_leP, nI_ltP, nN_e1, nN_e2, nN_l1, nN_l2, nN_l3, nN_l4, nI_add, pk_mul, vp_inN, nI_cl, n01, n10, P_i, P_ii, P_iii, f_Mo_at, f_Mo_map, f_Mo_contact, f_Mo_within, f_Mo_isPort, f_Hp_endpoint, f_Hp_nodeOf, f_Hp_portOf, f_Ma_max, f_Ma_min, f_Hp_isSetting, popN, rok, a1, noX, swc, mL, if_true, if_false, ↓reduceIte, cond_true, cond_false, true_and, and_true, List.length_cons, List.length_nil, List.nil_append, List.cons_append, List.append_nil, Option.toList, Nat.reduceEqDiff, Bool.false_eq_true, reduceCtorEq, Nat.reduceAdd, Nat.reduceLT, Nat.reduceLeDiff, Nat.reduceSub, List.replicate, Nat.zero_add, Nat.lt_add_one, Nat.le_refl, Nat.zero_le, Nat.succ_ne_zero, not_false_eq_true, not_true_eq_false, false_implies, true_implies, forall_const, imp_self, true_or, or_true, eq_self, sI_zw, zw_zw, hI_zw, tg_zw, ln_zw, hR_zw, hL_zw, hN_zw, hM_zw, upd_s, upd_u, upd_ne, Classical.not_not, k_No_copyFrom, n3, o3, iz, n0]; try clear hgo9 hW9))
    refine c_No_becomeHost n _ h _ n3 ?_
    simp only [aft]
    (obtain ⟨W9, hW9, hgo9⟩ := wp_ex (T_No_copyFrom l G) [] _; refine hgo9 200 _ _ _ _ ?_; simp -implicitDefEqProofs (disch := omega) only [hW9, inl, gate, Xq, tz_const, tz_iload, tz_lload, tz_dload, tz_aload, tz_istore, tz_astore, tz_lstore, tz_dstore, tz_iinc, tz_i1, tz_i2, tz_i2z, tz_l2, tz_l2z, tz_i2l, tz_l2i, tz_lcmp, tz_i2d, tz_d2, tz_dcmp, tz_dup, tz_dup2, tz_pop, tz_if, tz_icmp, tz_null, tz_goto, tz_sw, tz_getf, tz_puti, tz_putz, tz_putr, tz_putl, tz_iaload, tz_baload, tz_laload, tz_aaload, tz_iastore, tz_bastore, tz_lastore, tz_aastore, tz_alen, tz_new, tz_newa, tz_oinit, tz_iret, tz_zret, tz_lret, tz_dret, tz_aret, tz_vret, tz_throw, tz_callS, tz_callV, tz_callI, tz_callR, tz_pureS, tz_pureV, tz_callVH, lg, lset, lkill, lst1, lst2, entL, isRf, is1, vl, va_rf_none, va_rf_some, isRf_rf, is1_rf, i0, i1, bI_eq0, bI_eq1, nm_em, nI_eqP, nI_leP, nI_ltP, nN_e1, nN_e2, nN_l1, nN_l2, nN_l3, nN_l4, nI_add, pk_mul, vp_inN, nI_cl, n01, n10, P_i, P_ii, P_iii, f_Mo_at, f_Mo_map, f_Mo_contact, f_Mo_within, f_Mo_isPort, f_Hp_endpoint, f_Hp_nodeOf, f_Hp_portOf, f_Ma_max, f_Ma_min, f_Hp_isSetting, popN, rok, a1, noX, swc, mL, if_true, if_false, ↓reduceIte, cond_true, cond_false, true_and, and_true, List.length_cons, List.length_nil, List.nil_append, List.cons_append, List.append_nil, Option.toList, Nat.reduceEqDiff, Bool.false_eq_true, reduceCtorEq, Nat.reduceAdd, Nat.reduceLT, Nat.reduceLeDiff, Nat.reduceSub, List.replicate, Nat.zero_add, Nat.lt_add_one, Nat.le_refl, Nat.zero_le, Nat.succ_ne_zero, not_false_eq_true, not_true_eq_false, false_implies, true_implies, forall_const, imp_self, true_or, or_true, eq_self, sI_zw, zw_zw, hI_zw, tg_zw, ln_zw, hR_zw, hL_zw, hN_zw, hM_zw, upd_s, upd_u, upd_ne, Classical.not_not, k_No_copyFrom, n3, o3, ron]; try clear hgo9 hW9)
    have e : upd (upd (hoI (hI h n) (hI h o 1)) 2 (hI h o 2)) 3 (hI h o 3) = upd (upd (upd (upd (hI h n) 0 (nI 1)) 1 (hI h o 1)) 2 (hI h o 2)) 3 (hI h o 3) := by
      unfold hoI
      rw [upd_c (i := 3) (j := 2) (by omega), upd_u, upd_u]
    rw [e]
    refine hQ _ ⟨?_, ⟨fun _ => ?_, fun q => ?_, ?_, ?_, ?_⟩, fun q => ?_, (Fr.zw hw rn).mono (by omega), fun b hb hnb => ⟨rfl, hI_zw_ne _ (fun e => hnb (by rw [e]; exact ⟨3, [], sd.2.1, by omega⟩)), rfl, rfl⟩⟩
    · simp only [ShD, ShT, TlK, ShM, mM, cC] at sd ⊢
      exact sd
    · rw [hI_zw]; simp (disch := omega) only [upd_ne, upd_s]
    · rw [hk] at q; exact absurd q (by decide)
    · rw [hI_zw]; simp (disch := omega) only [upd_ne, upd_s]; exact nv.2.2.1
    · rw [hI_zw]; simp (disch := omega) only [upd_ne, upd_s]; exact nv.2.2.2.1
    · rw [hI_zw]; simp (disch := omega) only [upd_ne, upd_s]; exact nv.2.2.2.2
    · rw [hk] at q; exact absurd q (by decide)
  · have iz := nv.2.1 hk
    obtain ⟨⟨t, t1, t2⟩, o8, kn, htr⟩ := ot hk
    have sht := so.2.2 t t1
    ((obtain ⟨W9, hW9, hgo9⟩ := wp_ex (T_No_copyFrom l G) [] _; refine hgo9 200 _ _ _ _ ?_; simp -implicitDefEqProofs (disch := omega) only [hW9, inl, gate, Xq, tz_const, tz_iload, tz_lload, tz_dload, tz_aload, tz_istore, tz_astore, tz_lstore, tz_dstore, tz_iinc, tz_i1, tz_i2, tz_i2z, tz_l2, tz_l2z, tz_i2l, tz_l2i, tz_lcmp, tz_i2d, tz_d2, tz_dcmp, tz_dup, tz_dup2, tz_pop, tz_if, tz_icmp, tz_null, tz_goto, tz_sw, tz_getf, tz_puti, tz_putz, tz_putr, tz_putl, tz_iaload, tz_baload, tz_laload, tz_aaload, tz_iastore, tz_bastore, tz_lastore, tz_aastore, tz_alen, tz_new, tz_newa, tz_oinit, tz_iret, tz_zret, tz_lret, tz_dret, tz_aret, tz_vret, tz_throw, tz_callS, tz_callV, tz_callI, tz_callR, tz_pureS, tz_pureV, tz_callVH, lg, lset, lkill, lst1, lst2, entL, isRf, is1, vl, va_rf_none, va_rf_some, isRf_rf, is1_rf, i0, i1, bI_eq0, bI_eq1, nm_em, nI_eqP, nI_leP, nI_ltP, nN_e1, nN_e2, nN_l1, nN_l2, nN_l3, nN_l4, nI_add, pk_mul, vp_inN, nI_cl, n01, n10, P_i, P_ii, P_iii, f_Mo_at, f_Mo_map, f_Mo_contact, f_Mo_within, f_Mo_isPort, f_Hp_endpoint, f_Hp_nodeOf, f_Hp_portOf, f_Ma_max, f_Ma_min, f_Hp_isSetting, popN, rok, a1, noX, swc, mL, if_true, if_false, ↓reduceIte, cond_true, cond_false, true_and, and_true, List.length_cons, List.length_nil, List.nil_append, List.cons_append, List.append_nil, Option.toList, Nat.reduceEqDiff, Bool.false_eq_true, reduceCtorEq, Nat.reduceAdd, Nat.reduceLT, Nat.reduceLeDiff, Nat.reduceSub, List.replicate, Nat.zero_add, Nat.lt_add_one, Nat.le_refl, Nat.zero_le, Nat.succ_ne_zero, not_false_eq_true, not_true_eq_false, false_implies, true_implies, forall_const, imp_self, true_or, or_true, eq_self, sI_zw, zw_zw, hI_zw, tg_zw, ln_zw, hR_zw, hL_zw, hN_zw, hM_zw, upd_s, upd_u, upd_ne, Classical.not_not, k_No_copyFrom, n3, o3, iz, t1]; try clear hgo9 hW9); try (obtain ⟨W9, hW9, hgo9⟩ := wp_ex (T_No_copyFrom l G) [] _; refine hgo9 200 _ _ _ _ ?_; simp -implicitDefEqProofs (disch := omega) only [hW9, inl, gate, Xq, tz_const, tz_iload, tz_lload, tz_dload, tz_aload, tz_istore, tz_astore, tz_lstore, tz_dstore, tz_iinc, tz_i1, tz_i2, tz_i2z, tz_l2, tz_l2z, tz_i2l, tz_l2i, tz_lcmp, tz_i2d, tz_d2, tz_dcmp, tz_dup, tz_dup2, tz_pop, tz_if, tz_icmp, tz_null, tz_goto, tz_sw, tz_getf, tz_puti, tz_putz, tz_putr, tz_putl, tz_iaload, tz_baload, tz_laload, tz_aaload, tz_iastore, tz_bastore, tz_lastore, tz_aastore, tz_alen, tz_new, tz_newa, tz_oinit, tz_iret, tz_zret, tz_lret, tz_dret, tz_aret, tz_vret, tz_throw, tz_callS, tz_callV, tz_callI, tz_callR, tz_pureS, tz_pureV, tz_callVH, lg, lset, lkill, lst1, lst2, entL, isRf, is1, vl, va_rf_none, va_rf_some, isRf_rf, is1_rf, i0, i1, bI_eq0, bI_eq1, nm_em, nI_eqP, nI_leP, nI_ltP, nN_e1, nN_e2, nN_l1, nN_l2, nN_l3, nN_l4, nI_add, pk_mul, vp_inN, nI_cl, n01, n10, P_i, P_ii, P_iii, f_Mo_at, f_Mo_map, f_Mo_contact, f_Mo_within, f_Mo_isPort, f_Hp_endpoint, f_Hp_nodeOf, f_Hp_portOf, f_Ma_max, f_Ma_min, f_Hp_isSetting, popN, rok, a1, noX, swc, mL, if_true, if_false, ↓reduceIte, cond_true, cond_false, true_and, and_true, List.length_cons, List.length_nil, List.nil_append, List.cons_append, List.append_nil, Option.toList, Nat.reduceEqDiff, Bool.false_eq_true, reduceCtorEq, Nat.reduceAdd, Nat.reduceLT, Nat.reduceLeDiff, Nat.reduceSub, List.replicate, Nat.zero_add, Nat.lt_add_one, Nat.le_refl, Nat.zero_le, Nat.succ_ne_zero, not_false_eq_true, not_true_eq_false, false_implies, true_implies, forall_const, imp_self, true_or, or_true, eq_self, sI_zw, zw_zw, hI_zw, tg_zw, ln_zw, hR_zw, hL_zw, hN_zw, hM_zw, upd_s, upd_u, upd_ne, Classical.not_not, k_No_copyFrom, n3, o3, iz, t1]; try clear hgo9 hW9))
    refine c_No_becomeTranslator wn i n _ h _ hw sd (fun h1 tt bt => ?_)
    simp only [aft]
    obtain ⟨f1, i1, r1, sh1, o1⟩ := bt
    have hw1 : WF h1 := f1.2.2.2.2
    have so1 := o1 o lo nn
    have o31 : tg h1 o = 3 := so1.tg.trans o3
    have t11 : hR h1 o 4 = some t := by rw [so1.2.2.1]; exact t1
    have tt5 := sh1.1.1
    (obtain ⟨W9, hW9, hgo9⟩ := wp_ex (T_No_copyFrom l G) [] _; refine hgo9 200 _ _ _ _ ?_; simp -implicitDefEqProofs (disch := omega) only [hW9, inl, gate, Xq, tz_const, tz_iload, tz_lload, tz_dload, tz_aload, tz_istore, tz_astore, tz_lstore, tz_dstore, tz_iinc, tz_i1, tz_i2, tz_i2z, tz_l2, tz_l2z, tz_i2l, tz_l2i, tz_lcmp, tz_i2d, tz_d2, tz_dcmp, tz_dup, tz_dup2, tz_pop, tz_if, tz_icmp, tz_null, tz_goto, tz_sw, tz_getf, tz_puti, tz_putz, tz_putr, tz_putl, tz_iaload, tz_baload, tz_laload, tz_aaload, tz_iastore, tz_bastore, tz_lastore, tz_aastore, tz_alen, tz_new, tz_newa, tz_oinit, tz_iret, tz_zret, tz_lret, tz_dret, tz_aret, tz_vret, tz_throw, tz_callS, tz_callV, tz_callI, tz_callR, tz_pureS, tz_pureV, tz_callVH, lg, lset, lkill, lst1, lst2, entL, isRf, is1, vl, va_rf_none, va_rf_some, isRf_rf, is1_rf, i0, i1, bI_eq0, bI_eq1, nm_em, nI_eqP, nI_leP, nI_ltP, nN_e1, nN_e2, nN_l1, nN_l2, nN_l3, nN_l4, nI_add, pk_mul, vp_inN, nI_cl, n01, n10, P_i, P_ii, P_iii, f_Mo_at, f_Mo_map, f_Mo_contact, f_Mo_within, f_Mo_isPort, f_Hp_endpoint, f_Hp_nodeOf, f_Hp_portOf, f_Ma_max, f_Ma_min, f_Hp_isSetting, popN, rok, a1, noX, swc, mL, if_true, if_false, ↓reduceIte, cond_true, cond_false, true_and, and_true, List.length_cons, List.length_nil, List.nil_append, List.cons_append, List.append_nil, Option.toList, Nat.reduceEqDiff, Bool.false_eq_true, reduceCtorEq, Nat.reduceAdd, Nat.reduceLT, Nat.reduceLeDiff, Nat.reduceSub, List.replicate, Nat.zero_add, Nat.lt_add_one, Nat.le_refl, Nat.zero_le, Nat.succ_ne_zero, not_false_eq_true, not_true_eq_false, false_implies, true_implies, forall_const, imp_self, true_or, or_true, eq_self, sI_zw, zw_zw, hI_zw, tg_zw, ln_zw, hR_zw, hL_zw, hN_zw, hM_zw, upd_s, upd_u, upd_ne, Classical.not_not, k_No_copyFrom, o31, t11, tt5]; try clear hgo9 hW9)
    refine c_Tl_copyFrom wn wo tt t i z h1 _ hw1 hne sh1 (sht.frame hw f1 hne) (TlG.frame hw sht t2 o8 kn f1 hne) o8 kn htr (fun h2 sh2 tl2 f2 lt2 => ?_)
    simp only [aft]
    have n31 : tg h1 n = 3 := by unfold tg; rw [f1.2.1 n ln']; exact n3
    have gn1 : gh h1 n = [wn, 3, i] := by unfold gh; rw [f1.2.1 n ln']; exact sd.2.1
    have go1 : gh h1 o = [wo, 3, i] := so1.gh.trans so.2.1
    have sn2 := lt2 n (by have := f1.1.1; omega) (by rintro ⟨k, r, e, h4⟩; rw [gn1] at e; cases e; omega)
    have so2 := lt2 o (by have := f1.1.1; omega) (by rintro ⟨k, r, e, -⟩; rw [go1] at e; cases e; exact hne rfl)
    have n32 : tg h2 n = 3 := sn2.tg.trans n31
    have o32 : tg h2 o = 3 := so2.tg.trans o31
    have hw2 : WF h2 := f2.2.2.2.2
    (obtain ⟨W9, hW9, hgo9⟩ := wp_ex (T_No_copyFrom l G) [] _; refine hgo9 200 _ _ _ _ ?_; simp -implicitDefEqProofs (disch := omega) only [hW9, inl, gate, Xq, tz_const, tz_iload, tz_lload, tz_dload, tz_aload, tz_istore, tz_astore, tz_lstore, tz_dstore, tz_iinc, tz_i1, tz_i2, tz_i2z, tz_l2, tz_l2z, tz_i2l, tz_l2i, tz_lcmp, tz_i2d, tz_d2, tz_dcmp, tz_dup, tz_dup2, tz_pop, tz_if, tz_icmp, tz_null, tz_goto, tz_sw, tz_getf, tz_puti, tz_putz, tz_putr, tz_putl, tz_iaload, tz_baload, tz_laload, tz_aaload, tz_iastore, tz_bastore, tz_lastore, tz_aastore, tz_alen, tz_new, tz_newa, tz_oinit, tz_iret, tz_zret, tz_lret, tz_dret, tz_aret, tz_vret, tz_throw, tz_callS, tz_callV, tz_callI, tz_callR, tz_pureS, tz_pureV, tz_callVH, lg, lset, lkill, lst1, lst2, entL, isRf, is1, vl, va_rf_none, va_rf_some, isRf_rf, is1_rf, i0, i1, bI_eq0, bI_eq1, nm_em, nI_eqP, nI_leP, nI_ltP, nN_e1, nN_e2, nN_l1, nN_l2, nN_l3, nN_l4, nI_add, pk_mul, vp_inN, nI_cl, n01, n10, P_i, P_ii, P_iii, f_Mo_at, f_Mo_map, f_Mo_contact, f_Mo_within, f_Mo_isPort, f_Hp_endpoint, f_Hp_nodeOf, f_Hp_portOf, f_Ma_max, f_Ma_min, f_Hp_isSetting, popN, rok, a1, noX, swc, mL, if_true, if_false, ↓reduceIte, cond_true, cond_false, true_and, and_true, List.length_cons, List.length_nil, List.nil_append, List.cons_append, List.append_nil, Option.toList, Nat.reduceEqDiff, Bool.false_eq_true, reduceCtorEq, Nat.reduceAdd, Nat.reduceLT, Nat.reduceLeDiff, Nat.reduceSub, List.replicate, Nat.zero_add, Nat.lt_add_one, Nat.le_refl, Nat.zero_le, Nat.succ_ne_zero, not_false_eq_true, not_true_eq_false, false_implies, true_implies, forall_const, imp_self, true_or, or_true, eq_self, sI_zw, zw_zw, hI_zw, tg_zw, ln_zw, hR_zw, hL_zw, hN_zw, hM_zw, upd_s, upd_u, upd_ne, Classical.not_not, k_No_copyFrom, n32, o32, ron]; try clear hgo9 hW9)
    have oI : hI h2 o = hI h o := so2.2.1.trans so1.2.1
    have nI' : hI h2 n = upd (hoI (hI h n) (hI h o 1)) 0 (nI 0) := sn2.2.1.trans i1
    rw [oI, nI']
    have gn2 : gh h2 n = [wn, 3, i] := sn2.gh.trans gn1
    have fz : Fr wn 0 h2 (zw h2 n (upd (upd (upd (hoI (hI h n) (hI h o 1)) 0 (nI 0)) 2 (hI h o 2)) 3 (hI h o 3))) := Fr.zw hw2 (rt_gh gn2)
    have sh3 : ShT (zw h2 n (upd (upd (upd (hoI (hI h n) (hI h o 1)) 0 (nI 0)) 2 (hI h o 2)) 3 (hI h o 3))) wn i tt := sh2.congr rfl rfl
    have r42 : hR h2 n 4 = some tt := by rw [sn2.2.2.1]; exact r1
    refine hQ _ ⟨⟨n32, gn2, fun t' ht' => ?_⟩, ⟨fun q => ?_, fun _ => ?_, ?_, ?_, ?_⟩, fun _ => ⟨tt, r42, ?_⟩, ((f1.tr f2).tr fz).mono (by omega), fun b hb hnb => ?_⟩
    · have : hR h2 n 4 = some t' := ht'
      rw [r42] at this
      cases this
      exact sh3
    · rw [hk] at q; exact absurd q (by decide)
    · rw [hI_zw]; unfold hoI; simp (disch := omega) only [upd_ne, upd_s]
    · rw [hI_zw]; unfold hoI; simp (disch := omega) only [upd_ne, upd_s]; exact nv.2.2.1
    · rw [hI_zw]; unfold hoI; simp (disch := omega) only [upd_ne, upd_s]; exact nv.2.2.2.1
    · rw [hI_zw]; unfold hoI; simp (disch := omega) only [upd_ne, upd_s]; exact nv.2.2.2.2
    · refine tl2.keep hw2 sh2 o8 kn (fun b hb ⟨k, r, e, h4⟩ => ?_) (fun _ _ => rfl) ⟨fun _ _ => rfl, fun _ _ => rfl⟩
      have bn : b ≠ n := fun q => by rw [q, gn2] at e; cases e; omega
      exact ⟨rfl, hI_zw_ne _ bn, rfl, rfl⟩
    · have bn : b ≠ n := fun e => hnb (by rw [e]; exact ⟨3, [], sd.2.1, by omega⟩)
      have s1 := o1 b hb bn
      have s2 := lt2 b (by have := f1.1.1; omega) (by
        rintro ⟨k, r, e, h4⟩
        rw [s1.gh] at e
        exact hnb ⟨k, r, e, by omega⟩)
      exact (s1.tr s2).tr ⟨rfl, hI_zw_ne _ bn, rfl, rfl⟩
end
/-- words copied from i on, up to the n-th -/
def cpN (f g : Nat → Int32) (n i j : Nat) : Int32 := if i ≤ j ∧ j < n then f j else g j
theorem cpN_end (f g : Nat → Int32) (n : Nat) : cpN f g n n = g := by
  funext j
  unfold cpN
  rw [if_neg (by omega)]
theorem cpN_step (f g : Nat → Int32) {n i : Nat} (hi : i < n) : cpN f (upd g i (f i)) n (i + 1) = cpN f g n i := by
  funext j
  unfold cpN
  by_cases e : j = i
  · subst e
    rw [if_neg (by omega), if_pos ⟨Nat.le_refl _, hi⟩, upd_eq rfl]
  · rw [upd_ne e]
    by_cases c : i ≤ j ∧ j < n
    · rw [if_pos c, if_pos (by omega)]
    · rw [if_neg c, if_neg (by omega)]
/-- another network is left alone -/
theorem NwR.frame {h h' : AH} {wn wo c : Nat} {z : Nat → Int32} (hw : WF h) (inv : Inv0 z) (k : NwR h wo z) (f : Fr wn c h h') (hne : wo ≠ wn) : NwR h' wo z := by
  have m10 := inv.1.at.2
  obtain ⟨⟨⟨a1, a2, a3, a4⟩, a5, a6, ⟨b1, b2, b3, b4⟩, nod⟩, ⟨k2, k3, k4, k5⟩, k6, k7⟩ := id k
  have sw := f.oth hne (hw.lt (show tg h wo ≠ 99 by rw [a1]; decide)) (rt_gh a5)
  have sA := f.oth hne (hw.lt (show tg h (nA h wo) ≠ 99 by rw [a3]; decide)) (rt_gh a6)
  have sL := f.oth hne (hw.lt (show tg h (lA h wo) ≠ 99 by rw [b2]; decide)) (rt_gh b4)
  have eA := nA_same sw
  have eL := lA_same sw
  have x : ∀ i b, b < hN h → ndc h wo i b → same1 h h' b := fun i b hb ⟨_, _, e, _⟩ => f.oth hne hb (rt_gh e)
  refine ⟨⟨⟨sw.tg.trans a1, by rw [eA, sw.2.2.1]; exact a2, by rw [eA, sA.tg]; exact a3, by rw [eA, sA.ln]; exact a4⟩, sw.gh.trans a5, by rw [eA, sA.gh]; exact a6, ⟨by rw [eL, sw.2.2.1]; exact b1, by rw [eL, sL.tg]; exact b2, by rw [eL, sL.ln]; exact b3, by rw [eL, sL.gh]; exact b4⟩, fun i n hi hn => ?_⟩, ⟨by rw [sw.2.1]; exact k2, by rw [sw.2.1]; exact k3, by rw [sw.2.1]; exact k4, by rw [sw.2.1]; exact k5⟩, fun q q1 q2 => by rw [eL, sL.2.1]; exact k6 q q1 q2, fun i hi => ?_⟩
  · rw [eA, sA.2.2.1] at hn
    exact (nod i n hi hn).keep hw (x i)
  · exact (k7 i hi).keep hw k.1 (by omega) (inv.own i (by omega)).2 (fun q => (inv_kn inv hi q).2) ⟨sw, sA⟩ (x i) (fun _ _ => rfl) (fun _ => ⟨fun _ _ => rfl, fun _ _ => rfl⟩)
theorem ShN.frame {h h' : AH} {wn wo c : Nat} (hw : WF h) (k : ShN h wo) (f : Fr wn c h h') (hne : wo ≠ wn) : ShN h' wo := by
  obtain ⟨⟨a1, a2, a3, a4⟩, a5, a6, ⟨b1, b2, b3, b4⟩, nod⟩ := id k
  have sw := f.oth hne (hw.lt (show tg h wo ≠ 99 by rw [a1]; decide)) (rt_gh a5)
  have sA := f.oth hne (hw.lt (show tg h (nA h wo) ≠ 99 by rw [a3]; decide)) (rt_gh a6)
  have sL := f.oth hne (hw.lt (show tg h (lA h wo) ≠ 99 by rw [b2]; decide)) (rt_gh b4)
  have eA := nA_same sw
  have eL := lA_same sw
  refine ⟨⟨sw.tg.trans a1, by rw [eA, sw.2.2.1]; exact a2, by rw [eA, sA.tg]; exact a3, by rw [eA, sA.ln]; exact a4⟩, sw.gh.trans a5, by rw [eA, sA.gh]; exact a6, ⟨by rw [eL, sw.2.2.1]; exact b1, by rw [eL, sL.tg]; exact b2, by rw [eL, sL.ln]; exact b3, by rw [eL, sL.gh]; exact b4⟩, fun i n hi hn => ?_⟩
  rw [eA, sA.2.2.1] at hn
  exact (nod i n hi hn).keep hw (fun b hb ⟨_, _, e, _⟩ => f.oth hne hb (rt_gh e))
