def k_Mo_depth (l : Launch) (G : Gc) (pc : Nat) : Tr :=
  if pc < 15 then
   if pc < 7 then
    if pc < 2 then
     if pc < 1 then
      if pc = 0 then tz_const 1 (.int (nI 0)) else dead
     else
      if pc = 1 then tz_istore 2 2 else dead
    else
     if pc < 3 then
      if pc = 2 then tz_aload 3 0 else dead
     else
      if pc < 6 then
       if pc = 3 then tz_getf 6 7 1 1 else dead
      else
       if pc = 6 then tz_iload 7 1 else dead
   else
    if pc < 12 then
     if pc < 8 then
      if pc = 7 then tz_const 8 (.int (nI 1)) else dead
     else
      if pc < 11 then
       if pc = 8 then tz_pureS 11 2 P_Mo_at f_Mo_at else dead
      else
       if pc = 11 then tz_iaload 12 else dead
    else
     if pc < 13 then
      if pc = 12 then tz_istore 13 3 else dead
     else
      if pc < 14 then
       if pc = 13 then tz_iload 14 3 else dead
      else
       if pc = 14 then tz_const 15 (.int (nN)) else dead
  else
   if pc < 27 then
    if pc < 22 then
     if pc < 18 then
      if pc = 15 then tz_icmp 18 35 (fun a b => a = b) else dead
     else
      if pc < 21 then
       if pc = 18 then tz_iinc 21 2 (nI 1) else dead
      else
       if pc = 21 then tz_aload 22 0 else dead
    else
     if pc < 25 then
      if pc = 22 then tz_getf 25 7 1 1 else dead
     else
      if pc < 26 then
       if pc = 25 then tz_iload 26 3 else dead
      else
       if pc = 26 then tz_const 27 (.int (nI 1)) else dead
   else
    if pc < 32 then
     if pc < 30 then
      if pc = 27 then tz_pureS 30 2 P_Mo_at f_Mo_at else dead
     else
      if pc < 31 then
       if pc = 30 then tz_iaload 31 else dead
      else
       if pc = 31 then tz_istore 32 3 else dead
    else
     if pc < 35 then
      if pc = 32 then tz_goto 13 else dead
     else
      if pc < 36 then
       if pc = 35 then tz_iload 36 2 else dead
      else
       if pc = 36 then tz_iret else dead
set_option maxRecDepth 100000 in
theorem T_Mo_depth (l : Launch) (G : Gc) : TabOK l G M_Mo_depth (k_Mo_depth l G) := by
  intro pc
  unfold k_Mo_depth
  exact
   (sd_br
    (sd_br
     (sd_br
      (sd_br
       (sd_lf (sd_iconst (by decide +kernel : decode prog_9_method_59_code 0 = .ok (.iconst 0, 1)) (by decide +kernel)))
       (sd_lf (sd_istore_n (k := 2) (by decide +kernel : decode prog_9_method_59_code 1 = .ok (.istore_n 2, 1)))))
      (sd_br
       (sd_lf (sd_aload_n (k := 0) (by decide +kernel : decode prog_9_method_59_code 2 = .ok (.aload_n 0, 1))))
       (sd_br
        (sd_lf (sd_getf (q := (RX7, TX7, 16)) (by decide +kernel : decode prog_9_method_59_code 3 = .ok (.getfield 7, 3)) rfl (by decide +kernel) (gm 913 (by decide +kernel) rfl)))
        (sd_lf (sd_iload_n (k := 1) (by decide +kernel : decode prog_9_method_59_code 6 = .ok (.iload_n 1, 1)))))))
     (sd_br
      (sd_br
       (sd_lf (sd_iconst (by decide +kernel : decode prog_9_method_59_code 7 = .ok (.iconst 1, 1)) (by decide +kernel)))
       (sd_br
        (sd_lf (sd_pureS (sd_callS (by decide +kernel : decode prog_9_method_59_code 8 = .ok (.invokestatic 44, 3)) ok_Mo_at (gm 993 (by decide +kernel) rfl) (gm 994 (by decide +kernel) rfl) (by decide +kernel) rfl rfl) c_Mo_at))
        (sd_lf (sd_iaload (by decide +kernel : decode prog_9_method_59_code 11 = .ok (.iaload, 1))))))
      (sd_br
       (sd_lf (sd_istore_n (k := 3) (by decide +kernel : decode prog_9_method_59_code 12 = .ok (.istore_n 3, 1))))
       (sd_br
        (sd_lf (sd_iload_n (k := 3) (by decide +kernel : decode prog_9_method_59_code 13 = .ok (.iload_n 3, 1))))
        (sd_lf (sd_iconst (by decide +kernel : decode prog_9_method_59_code 14 = .ok (.iconst (-1), 1)) (by decide +kernel)))))))
    (sd_br
     (sd_br
      (sd_br
       (sd_lf (sd_icmp_eq (by decide +kernel : decode prog_9_method_59_code 15 = .ok (.if_icmp .eq 20, 3)) (by decide +kernel)))
       (sd_br
        (sd_lf (sd_iinc (by decide +kernel : decode prog_9_method_59_code 18 = .ok (.iinc 2 1, 3)) (by decide +kernel)))
        (sd_lf (sd_aload_n (k := 0) (by decide +kernel : decode prog_9_method_59_code 21 = .ok (.aload_n 0, 1))))))
      (sd_br
       (sd_lf (sd_getf (q := (RX7, TX7, 16)) (by decide +kernel : decode prog_9_method_59_code 22 = .ok (.getfield 7, 3)) rfl (by decide +kernel) (gm 913 (by decide +kernel) rfl)))
       (sd_br
        (sd_lf (sd_iload_n (k := 3) (by decide +kernel : decode prog_9_method_59_code 25 = .ok (.iload_n 3, 1))))
        (sd_lf (sd_iconst (by decide +kernel : decode prog_9_method_59_code 26 = .ok (.iconst 1, 1)) (by decide +kernel))))))
     (sd_br
      (sd_br
       (sd_lf (sd_pureS (sd_callS (by decide +kernel : decode prog_9_method_59_code 27 = .ok (.invokestatic 44, 3)) ok_Mo_at (gm 993 (by decide +kernel) rfl) (gm 994 (by decide +kernel) rfl) (by decide +kernel) rfl rfl) c_Mo_at))
       (sd_br
        (sd_lf (sd_iaload (by decide +kernel : decode prog_9_method_59_code 30 = .ok (.iaload, 1))))
        (sd_lf (sd_istore_n (k := 3) (by decide +kernel : decode prog_9_method_59_code 31 = .ok (.istore_n 3, 1))))))
      (sd_br
       (sd_lf (sd_goto (by decide +kernel : decode prog_9_method_59_code 32 = .ok (.goto (-19), 3)) (by decide +kernel)))
       (sd_br
        (sd_lf (sd_iload_n (k := 2) (by decide +kernel : decode prog_9_method_59_code 35 = .ok (.iload_n 2, 1))))
        (sd_lf (sd_iret (by decide +kernel : decode prog_9_method_59_code 36 = .ok (.ireturn, 1)) rfl)))))))
def k_Mo_isBehind (l : Launch) (G : Gc) (pc : Nat) : Tr :=
  if pc < 22 then
   if pc < 11 then
    if pc < 5 then
     if pc < 1 then
      if pc = 0 then tz_aload 1 0 else dead
     else
      if pc < 4 then
       if pc = 1 then tz_getf 4 7 1 1 else dead
      else
       if pc = 4 then tz_iload 5 1 else dead
    else
     if pc < 9 then
      if pc < 6 then
       if pc = 5 then tz_const 6 (.int (nI 1)) else dead
      else
       if pc = 6 then tz_pureS 9 2 P_Mo_at f_Mo_at else dead
     else
      if pc < 10 then
       if pc = 9 then tz_iaload 10 else dead
      else
       if pc = 10 then tz_istore 11 3 else dead
   else
    if pc < 16 then
     if pc < 12 then
      if pc = 11 then tz_iload 12 3 else dead
     else
      if pc < 13 then
       if pc = 12 then tz_const 13 (.int (nN)) else dead
      else
       if pc = 13 then tz_icmp 16 35 (fun a b => a = b) else dead
    else
     if pc < 18 then
      if pc < 17 then
       if pc = 16 then tz_iload 17 3 else dead
      else
       if pc = 17 then tz_iload 18 2 else dead
     else
      if pc < 21 then
       if pc = 18 then tz_icmp 21 35 (fun a b => a = b) else dead
      else
       if pc = 21 then tz_aload 22 0 else dead
  else
   if pc < 35 then
    if pc < 27 then
     if pc < 25 then
      if pc = 22 then tz_getf 25 7 1 1 else dead
     else
      if pc < 26 then
       if pc = 25 then tz_iload 26 3 else dead
      else
       if pc = 26 then tz_const 27 (.int (nI 1)) else dead
    else
     if pc < 31 then
      if pc < 30 then
       if pc = 27 then tz_pureS 30 2 P_Mo_at f_Mo_at else dead
      else
       if pc = 30 then tz_iaload 31 else dead
     else
      if pc < 32 then
       if pc = 31 then tz_istore 32 3 else dead
      else
       if pc = 32 then tz_goto 11 else dead
   else
    if pc < 40 then
     if pc < 36 then
      if pc = 35 then tz_iload 36 3 else dead
     else
      if pc < 37 then
       if pc = 36 then tz_iload 37 2 else dead
      else
       if pc = 37 then tz_icmp 40 44 (fun a b => ¬ a = b) else dead
    else
     if pc < 44 then
      if pc < 41 then
       if pc = 40 then tz_const 41 (.int (nI 1)) else dead
      else
       if pc = 41 then tz_goto 45 else dead
     else
      if pc < 45 then
       if pc = 44 then tz_const 45 (.int (nI 0)) else dead
      else
       if pc = 45 then tz_zret else dead
set_option maxRecDepth 100000 in
theorem T_Mo_isBehind (l : Launch) (G : Gc) : TabOK l G M_Mo_isBehind (k_Mo_isBehind l G) := by
  intro pc
  unfold k_Mo_isBehind
  exact
   (sd_br
    (sd_br
     (sd_br
      (sd_br
       (sd_lf (sd_aload_n (k := 0) (by decide +kernel : decode prog_9_method_60_code 0 = .ok (.aload_n 0, 1))))
       (sd_br
        (sd_lf (sd_getf (q := (RX7, TX7, 16)) (by decide +kernel : decode prog_9_method_60_code 1 = .ok (.getfield 7, 3)) rfl (by decide +kernel) (gm 913 (by decide +kernel) rfl)))
        (sd_lf (sd_iload_n (k := 1) (by decide +kernel : decode prog_9_method_60_code 4 = .ok (.iload_n 1, 1))))))
      (sd_br
       (sd_br
        (sd_lf (sd_iconst (by decide +kernel : decode prog_9_method_60_code 5 = .ok (.iconst 1, 1)) (by decide +kernel)))
        (sd_lf (sd_pureS (sd_callS (by decide +kernel : decode prog_9_method_60_code 6 = .ok (.invokestatic 44, 3)) ok_Mo_at (gm 993 (by decide +kernel) rfl) (gm 994 (by decide +kernel) rfl) (by decide +kernel) rfl rfl) c_Mo_at)))
       (sd_br
        (sd_lf (sd_iaload (by decide +kernel : decode prog_9_method_60_code 9 = .ok (.iaload, 1))))
        (sd_lf (sd_istore_n (k := 3) (by decide +kernel : decode prog_9_method_60_code 10 = .ok (.istore_n 3, 1)))))))
     (sd_br
      (sd_br
       (sd_lf (sd_iload_n (k := 3) (by decide +kernel : decode prog_9_method_60_code 11 = .ok (.iload_n 3, 1))))
       (sd_br
        (sd_lf (sd_iconst (by decide +kernel : decode prog_9_method_60_code 12 = .ok (.iconst (-1), 1)) (by decide +kernel)))
        (sd_lf (sd_icmp_eq (by decide +kernel : decode prog_9_method_60_code 13 = .ok (.if_icmp .eq 22, 3)) (by decide +kernel)))))
      (sd_br
       (sd_br
        (sd_lf (sd_iload_n (k := 3) (by decide +kernel : decode prog_9_method_60_code 16 = .ok (.iload_n 3, 1))))
        (sd_lf (sd_iload_n (k := 2) (by decide +kernel : decode prog_9_method_60_code 17 = .ok (.iload_n 2, 1)))))
       (sd_br
        (sd_lf (sd_icmp_eq (by decide +kernel : decode prog_9_method_60_code 18 = .ok (.if_icmp .eq 17, 3)) (by decide +kernel)))
        (sd_lf (sd_aload_n (k := 0) (by decide +kernel : decode prog_9_method_60_code 21 = .ok (.aload_n 0, 1))))))))
    (sd_br
     (sd_br
      (sd_br
       (sd_lf (sd_getf (q := (RX7, TX7, 16)) (by decide +kernel : decode prog_9_method_60_code 22 = .ok (.getfield 7, 3)) rfl (by decide +kernel) (gm 913 (by decide +kernel) rfl)))
       (sd_br
        (sd_lf (sd_iload_n (k := 3) (by decide +kernel : decode prog_9_method_60_code 25 = .ok (.iload_n 3, 1))))
        (sd_lf (sd_iconst (by decide +kernel : decode prog_9_method_60_code 26 = .ok (.iconst 1, 1)) (by decide +kernel)))))
      (sd_br
       (sd_br
        (sd_lf (sd_pureS (sd_callS (by decide +kernel : decode prog_9_method_60_code 27 = .ok (.invokestatic 44, 3)) ok_Mo_at (gm 993 (by decide +kernel) rfl) (gm 994 (by decide +kernel) rfl) (by decide +kernel) rfl rfl) c_Mo_at))
        (sd_lf (sd_iaload (by decide +kernel : decode prog_9_method_60_code 30 = .ok (.iaload, 1)))))
       (sd_br
        (sd_lf (sd_istore_n (k := 3) (by decide +kernel : decode prog_9_method_60_code 31 = .ok (.istore_n 3, 1))))
        (sd_lf (sd_goto (by decide +kernel : decode prog_9_method_60_code 32 = .ok (.goto (-21), 3)) (by decide +kernel))))))
     (sd_br
      (sd_br
       (sd_lf (sd_iload_n (k := 3) (by decide +kernel : decode prog_9_method_60_code 35 = .ok (.iload_n 3, 1))))
       (sd_br
        (sd_lf (sd_iload_n (k := 2) (by decide +kernel : decode prog_9_method_60_code 36 = .ok (.iload_n 2, 1))))
        (sd_lf (sd_icmp_ne (by decide +kernel : decode prog_9_method_60_code 37 = .ok (.if_icmp .ne 7, 3)) (by decide +kernel)))))
      (sd_br
       (sd_br
        (sd_lf (sd_iconst (by decide +kernel : decode prog_9_method_60_code 40 = .ok (.iconst 1, 1)) (by decide +kernel)))
        (sd_lf (sd_goto (by decide +kernel : decode prog_9_method_60_code 41 = .ok (.goto 4, 3)) (by decide +kernel))))
       (sd_br
        (sd_lf (sd_iconst (by decide +kernel : decode prog_9_method_60_code 44 = .ok (.iconst 0, 1)) (by decide +kernel)))
        (sd_lf (sd_zret (by decide +kernel : decode prog_9_method_60_code 45 = .ok (.ireturn, 1)) rfl)))))))
/-- the net of a node -/
def netZ (z : Nat → Int32) (n : Nat) : Int32 := z (16 + 16 * n + 1)
def NetOK (z : Nat → Int32) : Prop := ∀ n, n < mny z → netZ z n = nN ∨ ∃ j, j < n ∧ netZ z n = nI j
/-- nN, or a node below f -/
def Up (z : Nat → Int32) (f : Nat) (net : Int32) : Prop := net = nN ∨ ∃ j, j < f ∧ j < mny z ∧ net = nI j
theorem Up.next {z : Nat → Int32} (hn : NetOK z) {f j : Nat} (h1 : j < f + 1) (h2 : j < mny z) : Up z f (netZ z j) := by
  rcases hn j h2 with e | ⟨i, hi, e⟩
  · exact Or.inl e
  · exact Or.inr ⟨i, by omega, by omega, e⟩
theorem Up.of {z : Nat → Int32} (hn : NetOK z) {n : Nat} (h2 : n < mny z) : Up z n (netZ z n) := by
  rcases hn n h2 with e | ⟨i, hi, e⟩
  · exact Or.inl e
  · exact Or.inr ⟨i, hi, by omega, e⟩
theorem Up.mono {z : Nat → Int32} {f g : Nat} {net : Int32} (h : Up z f net) (hfg : f ≤ g) : Up z g net := by
  rcases h with e | ⟨j, h1, h2, e⟩
  · exact Or.inl e
  · exact Or.inr ⟨j, by omega, h2, e⟩
def dpZ (z : Nat → Int32) : Nat → Int32 → Nat
  | 0, _ => 0
  | f + 1, net => if net = nN then 0 else dpZ z f (netZ z net.toNatClampNeg) + 1
def bhZ (z : Nat → Int32) (t : Int32) : Nat → Int32 → Prop
  | 0, net => net = t
  | f + 1, net => if net = nN ∨ net = t then net = t else bhZ z t f (netZ z net.toNatClampNeg)
/-- the start of a read that climbs -/
def PN (h : AH) (m : Nat) (n : Int32) : Prop := ∃ zr nn, MoS h m zr ∧ Z10 (hI h zr) ∧ NetOK (hI h zr) ∧ n = nI nn ∧ nn < mny (hI h zr)
def P_Mo_depth : List Value → AH → Prop
  | [.ref m, .int n], h => PN h m n
  | _, _ => False
def f_Mo_depth : List Value → AH → Value
  | [.ref m, .int n], h => .int (nI (dpZ (zF h m) 10 (netZ (zF h m) n.toNatClampNeg)))
  | _, _ => .null
def P_Mo_isBehind : List Value → AH → Prop
  | [.ref m, .int n, .int _], h => PN h m n
  | _, _ => False
noncomputable def f_Mo_isBehind : List Value → AH → Value
  | [.ref m, .int n, .int t], h => .int (bI (bhZ (zF h m) t 10 (netZ (zF h m) n.toNatClampNeg)))
  | _, _ => .null
section
variable {l : Launch} {G : Gc}
theorem lp_depth {a zr : Nat} {x : Int32} {h : AH} {Q : Po} (hm : MoS h a zr) (hz : Z10 (hI h zr)) (hn : NetOK (hI h zr)) :
    ∀ (f d : Nat) (net : Int32), Up (hI h zr) f net → Q (.inl (some (.int (nI (d + dpZ (hI h zr) f net))))) h → AWp l G M_Mo_depth 13 [some (.ref a), some (.int x), some (.int (nI d)), some (.int net)] [] h Q := by
  obtain ⟨h1, h2, h3, h4⟩ := hm
  obtain ⟨z1, z2⟩ := hz.at
  intro f
  induction f with
  | zero =>
    intro d net hu hQ
    rcases hu with e | ⟨j, hj, -⟩
    · (obtain ⟨W9, hW9, hgo9⟩ := wp_ex (T_Mo_depth l G) [13] _; refine hgo9 200 _ _ _ _ ?_; simp -implicitDefEqProofs (disch := omega) only [hW9, inl, gate, Xq, tz_const, tz_iload, tz_lload, tz_dload, tz_aload, tz_istore, tz_astore, tz_lstore, tz_dstore, tz_iinc, tz_i1, tz_i2, tz_i2z, tz_l2, tz_l2z, tz_i2l, tz_l2i, tz_lcmp, tz_i2d, tz_d2, tz_dcmp, tz_dup, tz_dup2, tz_pop, tz_if, tz_icmp, tz_null, tz_goto, tz_sw, tz_getf, tz_puti, tz_putz, tz_putr, tz_putl, tz_iaload, tz_baload, tz_laload, tz_aaload, tz_iastore, tz_bastore, tz_lastore, tz_aastore, tz_alen, tz_new, tz_newa, tz_oinit, tz_iret, tz_zret, tz_lret, tz_dret, tz_aret, tz_vret, tz_throw, tz_callS, tz_callV, tz_callI, tz_callR, tz_pureS, tz_pureV, tz_callVH, lg, lset, lkill, lst1, lst2, entL, isRf, is1, vl, va_rf_none, va_rf_some, isRf_rf, is1_rf, i0, i1, bI_eq0, bI_eq1, nm_em, nI_eqP, nI_leP, nI_ltP, nN_e1, nN_e2, nN_l1, nN_l2, nN_l3, nN_l4, nI_add, pk_mul, vp_inN, nI_cl, n01, n10, P_i, P_ii, P_iii, f_Mo_at, f_Mo_map, f_Mo_contact, f_Mo_within, f_Mo_isPort, f_Hp_endpoint, f_Hp_nodeOf, f_Hp_portOf, f_Ma_max, f_Ma_min, f_Hp_isSetting, popN, rok, a1, noX, swc, mL, if_true, if_false, ↓reduceIte, cond_true, cond_false, true_and, and_true, List.length_cons, List.length_nil, List.nil_append, List.cons_append, List.append_nil, Option.toList, Nat.reduceEqDiff, Bool.false_eq_true, reduceCtorEq, Nat.reduceAdd, Nat.reduceLT, Nat.reduceLeDiff, Nat.reduceSub, List.replicate, Nat.zero_add, Nat.lt_add_one, Nat.le_refl, Nat.zero_le, Nat.succ_ne_zero, not_false_eq_true, not_true_eq_false, false_implies, true_implies, forall_const, imp_self, true_or, or_true, eq_self, k_Mo_depth, e]; try clear hgo9 hW9)
      (obtain ⟨W9, hW9, hgo9⟩ := wp_ex (T_Mo_depth l G) [13] _; refine hgo9 200 _ _ _ _ ?_; simp -implicitDefEqProofs (disch := omega) only [hW9, inl, gate, Xq, tz_const, tz_iload, tz_lload, tz_dload, tz_aload, tz_istore, tz_astore, tz_lstore, tz_dstore, tz_iinc, tz_i1, tz_i2, tz_i2z, tz_l2, tz_l2z, tz_i2l, tz_l2i, tz_lcmp, tz_i2d, tz_d2, tz_dcmp, tz_dup, tz_dup2, tz_pop, tz_if, tz_icmp, tz_null, tz_goto, tz_sw, tz_getf, tz_puti, tz_putz, tz_putr, tz_putl, tz_iaload, tz_baload, tz_laload, tz_aaload, tz_iastore, tz_bastore, tz_lastore, tz_aastore, tz_alen, tz_new, tz_newa, tz_oinit, tz_iret, tz_zret, tz_lret, tz_dret, tz_aret, tz_vret, tz_throw, tz_callS, tz_callV, tz_callI, tz_callR, tz_pureS, tz_pureV, tz_callVH, lg, lset, lkill, lst1, lst2, entL, isRf, is1, vl, va_rf_none, va_rf_some, isRf_rf, is1_rf, i0, i1, bI_eq0, bI_eq1, nm_em, nI_eqP, nI_leP, nI_ltP, nN_e1, nN_e2, nN_l1, nN_l2, nN_l3, nN_l4, nI_add, pk_mul, vp_inN, nI_cl, n01, n10, P_i, P_ii, P_iii, f_Mo_at, f_Mo_map, f_Mo_contact, f_Mo_within, f_Mo_isPort, f_Hp_endpoint, f_Hp_nodeOf, f_Hp_portOf, f_Ma_max, f_Ma_min, f_Hp_isSetting, popN, rok, a1, noX, swc, mL, if_true, if_false, ↓reduceIte, cond_true, cond_false, true_and, and_true, List.length_cons, List.length_nil, List.nil_append, List.cons_append, List.append_nil, Option.toList, Nat.reduceEqDiff, Bool.false_eq_true, reduceCtorEq, Nat.reduceAdd, Nat.reduceLT, Nat.reduceLeDiff, Nat.reduceSub, List.replicate, Nat.zero_add, Nat.lt_add_one, Nat.le_refl, Nat.zero_le, Nat.succ_ne_zero, not_false_eq_true, not_true_eq_false, false_implies, true_implies, forall_const, imp_self, true_or, or_true, eq_self, k_Mo_depth]; try clear hgo9 hW9)
      exact hQ
    · omega
  | succ f ih =>
    intro d net hu hQ
    rcases hu with e | ⟨j, hj, hj2, e⟩
    · (obtain ⟨W9, hW9, hgo9⟩ := wp_ex (T_Mo_depth l G) [13] _; refine hgo9 200 _ _ _ _ ?_; simp -implicitDefEqProofs (disch := omega) only [hW9, inl, gate, Xq, tz_const, tz_iload, tz_lload, tz_dload, tz_aload, tz_istore, tz_astore, tz_lstore, tz_dstore, tz_iinc, tz_i1, tz_i2, tz_i2z, tz_l2, tz_l2z, tz_i2l, tz_l2i, tz_lcmp, tz_i2d, tz_d2, tz_dcmp, tz_dup, tz_dup2, tz_pop, tz_if, tz_icmp, tz_null, tz_goto, tz_sw, tz_getf, tz_puti, tz_putz, tz_putr, tz_putl, tz_iaload, tz_baload, tz_laload, tz_aaload, tz_iastore, tz_bastore, tz_lastore, tz_aastore, tz_alen, tz_new, tz_newa, tz_oinit, tz_iret, tz_zret, tz_lret, tz_dret, tz_aret, tz_vret, tz_throw, tz_callS, tz_callV, tz_callI, tz_callR, tz_pureS, tz_pureV, tz_callVH, lg, lset, lkill, lst1, lst2, entL, isRf, is1, vl, va_rf_none, va_rf_some, isRf_rf, is1_rf, i0, i1, bI_eq0, bI_eq1, nm_em, nI_eqP, nI_leP, nI_ltP, nN_e1, nN_e2, nN_l1, nN_l2, nN_l3, nN_l4, nI_add, pk_mul, vp_inN, nI_cl, n01, n10, P_i, P_ii, P_iii, f_Mo_at, f_Mo_map, f_Mo_contact, f_Mo_within, f_Mo_isPort, f_Hp_endpoint, f_Hp_nodeOf, f_Hp_portOf, f_Ma_max, f_Ma_min, f_Hp_isSetting, popN, rok, a1, noX, swc, mL, if_true, if_false, ↓reduceIte, cond_true, cond_false, true_and, and_true, List.length_cons, List.length_nil, List.nil_append, List.cons_append, List.append_nil, Option.toList, Nat.reduceEqDiff, Bool.false_eq_true, reduceCtorEq, Nat.reduceAdd, Nat.reduceLT, Nat.reduceLeDiff, Nat.reduceSub, List.replicate, Nat.zero_add, Nat.lt_add_one, Nat.le_refl, Nat.zero_le, Nat.succ_ne_zero, not_false_eq_true, not_true_eq_false, false_implies, true_implies, forall_const, imp_self, true_or, or_true, eq_self, k_Mo_depth, e]; try clear hgo9 hW9)
      (obtain ⟨W9, hW9, hgo9⟩ := wp_ex (T_Mo_depth l G) [13] _; refine hgo9 200 _ _ _ _ ?_; simp -implicitDefEqProofs (disch := omega) only [hW9, inl, gate, Xq, tz_const, tz_iload, tz_lload, tz_dload, tz_aload, tz_istore, tz_astore, tz_lstore, tz_dstore, tz_iinc, tz_i1, tz_i2, tz_i2z, tz_l2, tz_l2z, tz_i2l, tz_l2i, tz_lcmp, tz_i2d, tz_d2, tz_dcmp, tz_dup, tz_dup2, tz_pop, tz_if, tz_icmp, tz_null, tz_goto, tz_sw, tz_getf, tz_puti, tz_putz, tz_putr, tz_putl, tz_iaload, tz_baload, tz_laload, tz_aaload, tz_iastore, tz_bastore, tz_lastore, tz_aastore, tz_alen, tz_new, tz_newa, tz_oinit, tz_iret, tz_zret, tz_lret, tz_dret, tz_aret, tz_vret, tz_throw, tz_callS, tz_callV, tz_callI, tz_callR, tz_pureS, tz_pureV, tz_callVH, lg, lset, lkill, lst1, lst2, entL, isRf, is1, vl, va_rf_none, va_rf_some, isRf_rf, is1_rf, i0, i1, bI_eq0, bI_eq1, nm_em, nI_eqP, nI_leP, nI_ltP, nN_e1, nN_e2, nN_l1, nN_l2, nN_l3, nN_l4, nI_add, pk_mul, vp_inN, nI_cl, n01, n10, P_i, P_ii, P_iii, f_Mo_at, f_Mo_map, f_Mo_contact, f_Mo_within, f_Mo_isPort, f_Hp_endpoint, f_Hp_nodeOf, f_Hp_portOf, f_Ma_max, f_Ma_min, f_Hp_isSetting, popN, rok, a1, noX, swc, mL, if_true, if_false, ↓reduceIte, cond_true, cond_false, true_and, and_true, List.length_cons, List.length_nil, List.nil_append, List.cons_append, List.append_nil, Option.toList, Nat.reduceEqDiff, Bool.false_eq_true, reduceCtorEq, Nat.reduceAdd, Nat.reduceLT, Nat.reduceLeDiff, Nat.reduceSub, List.replicate, Nat.zero_add, Nat.lt_add_one, Nat.le_refl, Nat.zero_le, Nat.succ_ne_zero, not_false_eq_true, not_true_eq_false, false_implies, true_implies, forall_const, imp_self, true_or, or_true, eq_self, k_Mo_depth]; try clear hgo9 hW9)
      rw [e] at hQ
      simpa [dpZ] using hQ
    · subst e
      (obtain ⟨W9, hW9, hgo9⟩ := wp_ex (T_Mo_depth l G) [13] _; refine hgo9 200 _ _ _ _ ?_; simp -implicitDefEqProofs (disch := omega) only [hW9, inl, gate, Xq, tz_const, tz_iload, tz_lload, tz_dload, tz_aload, tz_istore, tz_astore, tz_lstore, tz_dstore, tz_iinc, tz_i1, tz_i2, tz_i2z, tz_l2, tz_l2z, tz_i2l, tz_l2i, tz_lcmp, tz_i2d, tz_d2, tz_dcmp, tz_dup, tz_dup2, tz_pop, tz_if, tz_icmp, tz_null, tz_goto, tz_sw, tz_getf, tz_puti, tz_putz, tz_putr, tz_putl, tz_iaload, tz_baload, tz_laload, tz_aaload, tz_iastore, tz_bastore, tz_lastore, tz_aastore, tz_alen, tz_new, tz_newa, tz_oinit, tz_iret, tz_zret, tz_lret, tz_dret, tz_aret, tz_vret, tz_throw, tz_callS, tz_callV, tz_callI, tz_callR, tz_pureS, tz_pureV, tz_callVH, lg, lset, lkill, lst1, lst2, entL, isRf, is1, vl, va_rf_none, va_rf_some, isRf_rf, is1_rf, i0, i1, bI_eq0, bI_eq1, nm_em, nI_eqP, nI_leP, nI_ltP, nN_e1, nN_e2, nN_l1, nN_l2, nN_l3, nN_l4, nI_add, pk_mul, vp_inN, nI_cl, n01, n10, P_i, P_ii, P_iii, f_Mo_at, f_Mo_map, f_Mo_contact, f_Mo_within, f_Mo_isPort, f_Hp_endpoint, f_Hp_nodeOf, f_Hp_portOf, f_Ma_max, f_Ma_min, f_Hp_isSetting, popN, rok, a1, noX, swc, mL, if_true, if_false, ↓reduceIte, cond_true, cond_false, true_and, and_true, List.length_cons, List.length_nil, List.nil_append, List.cons_append, List.append_nil, Option.toList, Nat.reduceEqDiff, Bool.false_eq_true, reduceCtorEq, Nat.reduceAdd, Nat.reduceLT, Nat.reduceLeDiff, Nat.reduceSub, List.replicate, Nat.zero_add, Nat.lt_add_one, Nat.le_refl, Nat.zero_le, Nat.succ_ne_zero, not_false_eq_true, not_true_eq_false, false_implies, true_implies, forall_const, imp_self, true_or, or_true, eq_self, k_Mo_depth]; try clear hgo9 hW9)
      (obtain ⟨W9, hW9, hgo9⟩ := wp_ex (T_Mo_depth l G) [13] _; refine hgo9 200 _ _ _ _ ?_; simp -implicitDefEqProofs (disch := omega) only [hW9, inl, gate, Xq, tz_const, tz_iload, tz_lload, tz_dload, tz_aload, tz_istore, tz_astore, tz_lstore, tz_dstore, tz_iinc, tz_i1, tz_i2, tz_i2z, tz_l2, tz_l2z, tz_i2l, tz_l2i, tz_lcmp, tz_i2d, tz_d2, tz_dcmp, tz_dup, tz_dup2, tz_pop, tz_if, tz_icmp, tz_null, tz_goto, tz_sw, tz_getf, tz_puti, tz_putz, tz_putr, tz_putl, tz_iaload, tz_baload, tz_laload, tz_aaload, tz_iastore, tz_bastore, tz_lastore, tz_aastore, tz_alen, tz_new, tz_newa, tz_oinit, tz_iret, tz_zret, tz_lret, tz_dret, tz_aret, tz_vret, tz_throw, tz_callS, tz_callV, tz_callI, tz_callR, tz_pureS, tz_pureV, tz_callVH, lg, lset, lkill, lst1, lst2, entL, isRf, is1, vl, va_rf_none, va_rf_some, isRf_rf, is1_rf, i0, i1, bI_eq0, bI_eq1, nm_em, nI_eqP, nI_leP, nI_ltP, nN_e1, nN_e2, nN_l1, nN_l2, nN_l3, nN_l4, nI_add, pk_mul, vp_inN, nI_cl, n01, n10, P_i, P_ii, P_iii, f_Mo_at, f_Mo_map, f_Mo_contact, f_Mo_within, f_Mo_isPort, f_Hp_endpoint, f_Hp_nodeOf, f_Hp_portOf, f_Ma_max, f_Ma_min, f_Hp_isSetting, popN, rok, a1, noX, swc, mL, if_true, if_false, ↓reduceIte, cond_true, cond_false, true_and, and_true, List.length_cons, List.length_nil, List.nil_append, List.cons_append, List.append_nil, Option.toList, Nat.reduceEqDiff, Bool.false_eq_true, reduceCtorEq, Nat.reduceAdd, Nat.reduceLT, Nat.reduceLeDiff, Nat.reduceSub, List.replicate, Nat.zero_add, Nat.lt_add_one, Nat.le_refl, Nat.zero_le, Nat.succ_ne_zero, not_false_eq_true, not_true_eq_false, false_implies, true_implies, forall_const, imp_self, true_or, or_true, eq_self, k_Mo_depth, h1, h2, h3, h4]; try clear hgo9 hW9)
      refine ih (d + 1) _ (Up.next hn hj hj2) ?_
      have e : dpZ (hI h zr) (f + 1) (nI j) = dpZ (hI h zr) f (netZ (hI h zr) j) + 1 := by
        rw [dpZ, if_neg (by rw [nN_e2 (by omega)]; exact id), nI_clamp (by omega)]
      rw [e] at hQ
      have e2 : d + 1 + dpZ (hI h zr) f (netZ (hI h zr) j) = d + (dpZ (hI h zr) f (netZ (hI h zr) j) + 1) := by omega
      rw [← e2] at hQ
      exact hQ
theorem c_Mo_depth (a : Nat) (as : List Value) (h : AH) (Q : Po) (hl : as.length = 1) (ht : tg h a = 7) (hP : P_Mo_depth (.ref a :: as) h) (hQ : Q (.inl (some (f_Mo_depth (.ref a :: as) h))) h) : Call l G M_Mo_depth (.ref a :: as) h Q := by
  match as, hP, hQ with
  | [.int n], hP, hQ =>
    obtain ⟨zr, nn, hm, hz, hn, rfl, hnn⟩ := hP
    obtain ⟨z1, z2⟩ := hz.at
    simp only [f_Mo_depth, hm.zF, nI_clamp (show nn < 2 ^ 31 by omega)] at hQ
    refine call_of rfl rfl (Nat.le_of_ble_eq_true rfl) ?_
    (obtain ⟨W9, hW9, hgo9⟩ := wp_ex (T_Mo_depth l G) [13] _; refine hgo9 200 _ _ _ _ ?_; simp -implicitDefEqProofs (disch := omega) only [hW9, inl, gate, Xq, tz_const, tz_iload, tz_lload, tz_dload, tz_aload, tz_istore, tz_astore, tz_lstore, tz_dstore, tz_iinc, tz_i1, tz_i2, tz_i2z, tz_l2, tz_l2z, tz_i2l, tz_l2i, tz_lcmp, tz_i2d, tz_d2, tz_dcmp, tz_dup, tz_dup2, tz_pop, tz_if, tz_icmp, tz_null, tz_goto, tz_sw, tz_getf, tz_puti, tz_putz, tz_putr, tz_putl, tz_iaload, tz_baload, tz_laload, tz_aaload, tz_iastore, tz_bastore, tz_lastore, tz_aastore, tz_alen, tz_new, tz_newa, tz_oinit, tz_iret, tz_zret, tz_lret, tz_dret, tz_aret, tz_vret, tz_throw, tz_callS, tz_callV, tz_callI, tz_callR, tz_pureS, tz_pureV, tz_callVH, lg, lset, lkill, lst1, lst2, entL, isRf, is1, vl, va_rf_none, va_rf_some, isRf_rf, is1_rf, i0, i1, bI_eq0, bI_eq1, nm_em, nI_eqP, nI_leP, nI_ltP, nN_e1, nN_e2, nN_l1, nN_l2, nN_l3, nN_l4, nI_add, pk_mul, vp_inN, nI_cl, n01, n10, P_i, P_ii, P_iii, f_Mo_at, f_Mo_map, f_Mo_contact, f_Mo_within, f_Mo_isPort, f_Hp_endpoint, f_Hp_nodeOf, f_Hp_portOf, f_Ma_max, f_Ma_min, f_Hp_isSetting, popN, rok, a1, noX, swc, mL, if_true, if_false, ↓reduceIte, cond_true, cond_false, true_and, and_true, List.length_cons, List.length_nil, List.nil_append, List.cons_append, List.append_nil, Option.toList, Nat.reduceEqDiff, Bool.false_eq_true, reduceCtorEq, Nat.reduceAdd, Nat.reduceLT, Nat.reduceLeDiff, Nat.reduceSub, List.replicate, Nat.zero_add, Nat.lt_add_one, Nat.le_refl, Nat.zero_le, Nat.succ_ne_zero, not_false_eq_true, not_true_eq_false, false_implies, true_implies, forall_const, imp_self, true_or, or_true, eq_self, k_Mo_depth, hm.1, hm.2.1, hm.2.2.1, hm.2.2.2]; try clear hgo9 hW9)
    refine lp_depth hm hz hn 10 0 _ ((Up.of hn hnn).mono (by omega)) ?_
    rw [Nat.zero_add]
    exact hQ
theorem lp_isBehind {a zr : Nat} {t : Int32} {x : Int32} {h : AH} {Q : Po} (hm : MoS h a zr) (hz : Z10 (hI h zr)) (hn : NetOK (hI h zr)) :
    ∀ (f : Nat) (net : Int32), Up (hI h zr) f net → Q (.inl (some (.int (bI (bhZ (hI h zr) t f net))))) h → AWp l G M_Mo_isBehind 11 [some (.ref a), some (.int x), some (.int t), some (.int net)] [] h Q := by
  obtain ⟨h1, h2, h3, h4⟩ := hm
  obtain ⟨z1, z2⟩ := hz.at
  have fin : ∀ net : Int32, Q (.inl (some (.int (bI (net = t))))) h → AWp l G M_Mo_isBehind 35 [some (.ref a), some (.int x), some (.int t), some (.int net)] [] h Q := by
    intro net hQ
    (obtain ⟨W9, hW9, hgo9⟩ := wp_ex (T_Mo_isBehind l G) [11] _; refine hgo9 200 _ _ _ _ ?_; simp -implicitDefEqProofs (disch := omega) only [hW9, inl, gate, Xq, tz_const, tz_iload, tz_lload, tz_dload, tz_aload, tz_istore, tz_astore, tz_lstore, tz_dstore, tz_iinc, tz_i1, tz_i2, tz_i2z, tz_l2, tz_l2z, tz_i2l, tz_l2i, tz_lcmp, tz_i2d, tz_d2, tz_dcmp, tz_dup, tz_dup2, tz_pop, tz_if, tz_icmp, tz_null, tz_goto, tz_sw, tz_getf, tz_puti, tz_putz, tz_putr, tz_putl, tz_iaload, tz_baload, tz_laload, tz_aaload, tz_iastore, tz_bastore, tz_lastore, tz_aastore, tz_alen, tz_new, tz_newa, tz_oinit, tz_iret, tz_zret, tz_lret, tz_dret, tz_aret, tz_vret, tz_throw, tz_callS, tz_callV, tz_callI, tz_callR, tz_pureS, tz_pureV, tz_callVH, lg, lset, lkill, lst1, lst2, entL, isRf, is1, vl, va_rf_none, va_rf_some, isRf_rf, is1_rf, i0, i1, bI_eq0, bI_eq1, nm_em, nI_eqP, nI_leP, nI_ltP, nN_e1, nN_e2, nN_l1, nN_l2, nN_l3, nN_l4, nI_add, pk_mul, vp_inN, nI_cl, n01, n10, P_i, P_ii, P_iii, f_Mo_at, f_Mo_map, f_Mo_contact, f_Mo_within, f_Mo_isPort, f_Hp_endpoint, f_Hp_nodeOf, f_Hp_portOf, f_Ma_max, f_Ma_min, f_Hp_isSetting, popN, rok, a1, noX, swc, mL, if_true, if_false, ↓reduceIte, cond_true, cond_false, true_and, and_true, List.length_cons, List.length_nil, List.nil_append, List.cons_append, List.append_nil, Option.toList, Nat.reduceEqDiff, Bool.false_eq_true, reduceCtorEq, Nat.reduceAdd, Nat.reduceLT, Nat.reduceLeDiff, Nat.reduceSub, List.replicate, Nat.zero_add, Nat.lt_add_one, Nat.le_refl, Nat.zero_le, Nat.succ_ne_zero, not_false_eq_true, not_true_eq_false, false_implies, true_implies, forall_const, imp_self, true_or, or_true, eq_self, k_Mo_isBehind]; try clear hgo9 hW9)
    refine ⟨fun c => ?_, fun c => ?_⟩
    · (obtain ⟨W9, hW9, hgo9⟩ := wp_ex (T_Mo_isBehind l G) [11] _; refine hgo9 200 _ _ _ _ ?_; simp -implicitDefEqProofs (disch := omega) only [hW9, inl, gate, Xq, tz_const, tz_iload, tz_lload, tz_dload, tz_aload, tz_istore, tz_astore, tz_lstore, tz_dstore, tz_iinc, tz_i1, tz_i2, tz_i2z, tz_l2, tz_l2z, tz_i2l, tz_l2i, tz_lcmp, tz_i2d, tz_d2, tz_dcmp, tz_dup, tz_dup2, tz_pop, tz_if, tz_icmp, tz_null, tz_goto, tz_sw, tz_getf, tz_puti, tz_putz, tz_putr, tz_putl, tz_iaload, tz_baload, tz_laload, tz_aaload, tz_iastore, tz_bastore, tz_lastore, tz_aastore, tz_alen, tz_new, tz_newa, tz_oinit, tz_iret, tz_zret, tz_lret, tz_dret, tz_aret, tz_vret, tz_throw, tz_callS, tz_callV, tz_callI, tz_callR, tz_pureS, tz_pureV, tz_callVH, lg, lset, lkill, lst1, lst2, entL, isRf, is1, vl, va_rf_none, va_rf_some, isRf_rf, is1_rf, i0, i1, bI_eq0, bI_eq1, nm_em, nI_eqP, nI_leP, nI_ltP, nN_e1, nN_e2, nN_l1, nN_l2, nN_l3, nN_l4, nI_add, pk_mul, vp_inN, nI_cl, n01, n10, P_i, P_ii, P_iii, f_Mo_at, f_Mo_map, f_Mo_contact, f_Mo_within, f_Mo_isPort, f_Hp_endpoint, f_Hp_nodeOf, f_Hp_portOf, f_Ma_max, f_Ma_min, f_Hp_isSetting, popN, rok, a1, noX, swc, mL, if_true, if_false, ↓reduceIte, cond_true, cond_false, true_and, and_true, List.length_cons, List.length_nil, List.nil_append, List.cons_append, List.append_nil, Option.toList, Nat.reduceEqDiff, Bool.false_eq_true, reduceCtorEq, Nat.reduceAdd, Nat.reduceLT, Nat.reduceLeDiff, Nat.reduceSub, List.replicate, Nat.zero_add, Nat.lt_add_one, Nat.le_refl, Nat.zero_le, Nat.succ_ne_zero, not_false_eq_true, not_true_eq_false, false_implies, true_implies, forall_const, imp_self, true_or, or_true, eq_self, k_Mo_isBehind]; try clear hgo9 hW9)
      rwa [bI_f c] at hQ
    · (obtain ⟨W9, hW9, hgo9⟩ := wp_ex (T_Mo_isBehind l G) [11] _; refine hgo9 200 _ _ _ _ ?_; simp -implicitDefEqProofs (disch := omega) only [hW9, inl, gate, Xq, tz_const, tz_iload, tz_lload, tz_dload, tz_aload, tz_istore, tz_astore, tz_lstore, tz_dstore, tz_iinc, tz_i1, tz_i2, tz_i2z, tz_l2, tz_l2z, tz_i2l, tz_l2i, tz_lcmp, tz_i2d, tz_d2, tz_dcmp, tz_dup, tz_dup2, tz_pop, tz_if, tz_icmp, tz_null, tz_goto, tz_sw, tz_getf, tz_puti, tz_putz, tz_putr, tz_putl, tz_iaload, tz_baload, tz_laload, tz_aaload, tz_iastore, tz_bastore, tz_lastore, tz_aastore, tz_alen, tz_new, tz_newa, tz_oinit, tz_iret, tz_zret, tz_lret, tz_dret, tz_aret, tz_vret, tz_throw, tz_callS, tz_callV, tz_callI, tz_callR, tz_pureS, tz_pureV, tz_callVH, lg, lset, lkill, lst1, lst2, entL, isRf, is1, vl, va_rf_none, va_rf_some, isRf_rf, is1_rf, i0, i1, bI_eq0, bI_eq1, nm_em, nI_eqP, nI_leP, nI_ltP, nN_e1, nN_e2, nN_l1, nN_l2, nN_l3, nN_l4, nI_add, pk_mul, vp_inN, nI_cl, n01, n10, P_i, P_ii, P_iii, f_Mo_at, f_Mo_map, f_Mo_contact, f_Mo_within, f_Mo_isPort, f_Hp_endpoint, f_Hp_nodeOf, f_Hp_portOf, f_Ma_max, f_Ma_min, f_Hp_isSetting, popN, rok, a1, noX, swc, mL, if_true, if_false, ↓reduceIte, cond_true, cond_false, true_and, and_true, List.length_cons, List.length_nil, List.nil_append, List.cons_append, List.append_nil, Option.toList, Nat.reduceEqDiff, Bool.false_eq_true, reduceCtorEq, Nat.reduceAdd, Nat.reduceLT, Nat.reduceLeDiff, Nat.reduceSub, List.replicate, Nat.zero_add, Nat.lt_add_one, Nat.le_refl, Nat.zero_le, Nat.succ_ne_zero, not_false_eq_true, not_true_eq_false, false_implies, true_implies, forall_const, imp_self, true_or, or_true, eq_self, k_Mo_isBehind]; try clear hgo9 hW9)
      rwa [bI_t (Classical.not_not.mp c)] at hQ
  intro f
  induction f with
  | zero =>
    intro net hu hQ
    rcases hu with e | ⟨j, hj, -⟩
    · (obtain ⟨W9, hW9, hgo9⟩ := wp_ex (T_Mo_isBehind l G) [11, 35] _; refine hgo9 200 _ _ _ _ ?_; simp -implicitDefEqProofs (disch := omega) only [hW9, inl, gate, Xq, tz_const, tz_iload, tz_lload, tz_dload, tz_aload, tz_istore, tz_astore, tz_lstore, tz_dstore, tz_iinc, tz_i1, tz_i2, tz_i2z, tz_l2, tz_l2z, tz_i2l, tz_l2i, tz_lcmp, tz_i2d, tz_d2, tz_dcmp, tz_dup, tz_dup2, tz_pop, tz_if, tz_icmp, tz_null, tz_goto, tz_sw, tz_getf, tz_puti, tz_putz, tz_putr, tz_putl, tz_iaload, tz_baload, tz_laload, tz_aaload, tz_iastore, tz_bastore, tz_lastore, tz_aastore, tz_alen, tz_new, tz_newa, tz_oinit, tz_iret, tz_zret, tz_lret, tz_dret, tz_aret, tz_vret, tz_throw, tz_callS, tz_callV, tz_callI, tz_callR, tz_pureS, tz_pureV, tz_callVH, lg, lset, lkill, lst1, lst2, entL, isRf, is1, vl, va_rf_none, va_rf_some, isRf_rf, is1_rf, i0, i1, bI_eq0, bI_eq1, nm_em, nI_eqP, nI_leP, nI_ltP, nN_e1, nN_e2, nN_l1, nN_l2, nN_l3, nN_l4, nI_add, pk_mul, vp_inN, nI_cl, n01, n10, P_i, P_ii, P_iii, f_Mo_at, f_Mo_map, f_Mo_contact, f_Mo_within, f_Mo_isPort, f_Hp_endpoint, f_Hp_nodeOf, f_Hp_portOf, f_Ma_max, f_Ma_min, f_Hp_isSetting, popN, rok, a1, noX, swc, mL, if_true, if_false, ↓reduceIte, cond_true, cond_false, true_and, and_true, List.length_cons, List.length_nil, List.nil_append, List.cons_append, List.append_nil, Option.toList, Nat.reduceEqDiff, Bool.false_eq_true, reduceCtorEq, Nat.reduceAdd, Nat.reduceLT, Nat.reduceLeDiff, Nat.reduceSub, List.replicate, Nat.zero_add, Nat.lt_add_one, Nat.le_refl, Nat.zero_le, Nat.succ_ne_zero, not_false_eq_true, not_true_eq_false, false_implies, true_implies, forall_const, imp_self, true_or, or_true, eq_self, k_Mo_isBehind, e]; try clear hgo9 hW9)
      rw [← e]
      exact fin net hQ
    · omega
  | succ f ih =>
    intro net hu hQ
    rcases hu with e | ⟨j, hj, hj2, e⟩
    · (obtain ⟨W9, hW9, hgo9⟩ := wp_ex (T_Mo_isBehind l G) [11, 35] _; refine hgo9 200 _ _ _ _ ?_; simp -implicitDefEqProofs (disch := omega) only [hW9, inl, gate, Xq, tz_const, tz_iload, tz_lload, tz_dload, tz_aload, tz_istore, tz_astore, tz_lstore, tz_dstore, tz_iinc, tz_i1, tz_i2, tz_i2z, tz_l2, tz_l2z, tz_i2l, tz_l2i, tz_lcmp, tz_i2d, tz_d2, tz_dcmp, tz_dup, tz_dup2, tz_pop, tz_if, tz_icmp, tz_null, tz_goto, tz_sw, tz_getf, tz_puti, tz_putz, tz_putr, tz_putl, tz_iaload, tz_baload, tz_laload, tz_aaload, tz_iastore, tz_bastore, tz_lastore, tz_aastore, tz_alen, tz_new, tz_newa, tz_oinit, tz_iret, tz_zret, tz_lret, tz_dret, tz_aret, tz_vret, tz_throw, tz_callS, tz_callV, tz_callI, tz_callR, tz_pureS, tz_pureV, tz_callVH, lg, lset, lkill, lst1, lst2, entL, isRf, is1, vl, va_rf_none, va_rf_some, isRf_rf, is1_rf, i0, i1, bI_eq0, bI_eq1, nm_em, nI_eqP, nI_leP, nI_ltP, nN_e1, nN_e2, nN_l1, nN_l2, nN_l3, nN_l4, nI_add, pk_mul, vp_inN, nI_cl, n01, n10, P_i, P_ii, P_iii, f_Mo_at, f_Mo_map, f_Mo_contact, f_Mo_within, f_Mo_isPort, f_Hp_endpoint, f_Hp_nodeOf, f_Hp_portOf, f_Ma_max, f_Ma_min, f_Hp_isSetting, popN, rok, a1, noX, swc, mL, if_true, if_false, ↓reduceIte, cond_true, cond_false, true_and, and_true, List.length_cons, List.length_nil, List.nil_append, List.cons_append, List.append_nil, Option.toList, Nat.reduceEqDiff, Bool.false_eq_true, reduceCtorEq, Nat.reduceAdd, Nat.reduceLT, Nat.reduceLeDiff, Nat.reduceSub, List.replicate, Nat.zero_add, Nat.lt_add_one, Nat.le_refl, Nat.zero_le, Nat.succ_ne_zero, not_false_eq_true, not_true_eq_false, false_implies, true_implies, forall_const, imp_self, true_or, or_true, eq_self, k_Mo_isBehind, e]; try clear hgo9 hW9)
      rw [← e]
      refine fin net ?_
      rw [bhZ, if_pos (Or.inl e)] at hQ
      exact hQ
    · subst e
      (obtain ⟨W9, hW9, hgo9⟩ := wp_ex (T_Mo_isBehind l G) [11, 35] _; refine hgo9 200 _ _ _ _ ?_; simp -implicitDefEqProofs (disch := omega) only [hW9, inl, gate, Xq, tz_const, tz_iload, tz_lload, tz_dload, tz_aload, tz_istore, tz_astore, tz_lstore, tz_dstore, tz_iinc, tz_i1, tz_i2, tz_i2z, tz_l2, tz_l2z, tz_i2l, tz_l2i, tz_lcmp, tz_i2d, tz_d2, tz_dcmp, tz_dup, tz_dup2, tz_pop, tz_if, tz_icmp, tz_null, tz_goto, tz_sw, tz_getf, tz_puti, tz_putz, tz_putr, tz_putl, tz_iaload, tz_baload, tz_laload, tz_aaload, tz_iastore, tz_bastore, tz_lastore, tz_aastore, tz_alen, tz_new, tz_newa, tz_oinit, tz_iret, tz_zret, tz_lret, tz_dret, tz_aret, tz_vret, tz_throw, tz_callS, tz_callV, tz_callI, tz_callR, tz_pureS, tz_pureV, tz_callVH, lg, lset, lkill, lst1, lst2, entL, isRf, is1, vl, va_rf_none, va_rf_some, isRf_rf, is1_rf, i0, i1, bI_eq0, bI_eq1, nm_em, nI_eqP, nI_leP, nI_ltP, nN_e1, nN_e2, nN_l1, nN_l2, nN_l3, nN_l4, nI_add, pk_mul, vp_inN, nI_cl, n01, n10, P_i, P_ii, P_iii, f_Mo_at, f_Mo_map, f_Mo_contact, f_Mo_within, f_Mo_isPort, f_Hp_endpoint, f_Hp_nodeOf, f_Hp_portOf, f_Ma_max, f_Ma_min, f_Hp_isSetting, popN, rok, a1, noX, swc, mL, if_true, if_false, ↓reduceIte, cond_true, cond_false, true_and, and_true, List.length_cons, List.length_nil, List.nil_append, List.cons_append, List.append_nil, Option.toList, Nat.reduceEqDiff, Bool.false_eq_true, reduceCtorEq, Nat.reduceAdd, Nat.reduceLT, Nat.reduceLeDiff, Nat.reduceSub, List.replicate, Nat.zero_add, Nat.lt_add_one, Nat.le_refl, Nat.zero_le, Nat.succ_ne_zero, not_false_eq_true, not_true_eq_false, false_implies, true_implies, forall_const, imp_self, true_or, or_true, eq_self, k_Mo_isBehind]; try clear hgo9 hW9)
      (obtain ⟨W9, hW9, hgo9⟩ := wp_ex (T_Mo_isBehind l G) [11, 35] _; refine hgo9 200 _ _ _ _ ?_; simp -implicitDefEqProofs (disch := omega) only [hW9, inl, gate, Xq, tz_const, tz_iload, tz_lload, tz_dload, tz_aload, tz_istore, tz_astore, tz_lstore, tz_dstore, tz_iinc, tz_i1, tz_i2, tz_i2z, tz_l2, tz_l2z, tz_i2l, tz_l2i, tz_lcmp, tz_i2d, tz_d2, tz_dcmp, tz_dup, tz_dup2, tz_pop, tz_if, tz_icmp, tz_null, tz_goto, tz_sw, tz_getf, tz_puti, tz_putz, tz_putr, tz_putl, tz_iaload, tz_baload, tz_laload, tz_aaload, tz_iastore, tz_bastore, tz_lastore, tz_aastore, tz_alen, tz_new, tz_newa, tz_oinit, tz_iret, tz_zret, tz_lret, tz_dret, tz_aret, tz_vret, tz_throw, tz_callS, tz_callV, tz_callI, tz_callR, tz_pureS, tz_pureV, tz_callVH, lg, lset, lkill, lst1, lst2, entL, isRf, is1, vl, va_rf_none, va_rf_some, isRf_rf, is1_rf, i0, i1, bI_eq0, bI_eq1, nm_em, nI_eqP, nI_leP, nI_ltP, nN_e1, nN_e2, nN_l1, nN_l2, nN_l3, nN_l4, nI_add, pk_mul, vp_inN, nI_cl, n01, n10, P_i, P_ii, P_iii, f_Mo_at, f_Mo_map, f_Mo_contact, f_Mo_within, f_Mo_isPort, f_Hp_endpoint, f_Hp_nodeOf, f_Hp_portOf, f_Ma_max, f_Ma_min, f_Hp_isSetting, popN, rok, a1, noX, swc, mL, if_true, if_false, ↓reduceIte, cond_true, cond_false, true_and, and_true, List.length_cons, List.length_nil, List.nil_append, List.cons_append, List.append_nil, Option.toList, Nat.reduceEqDiff, Bool.false_eq_true, reduceCtorEq, Nat.reduceAdd, Nat.reduceLT, Nat.reduceLeDiff, Nat.reduceSub, List.replicate, Nat.zero_add, Nat.lt_add_one, Nat.le_refl, Nat.zero_le, Nat.succ_ne_zero, not_false_eq_true, not_true_eq_false, false_implies, true_implies, forall_const, imp_self, true_or, or_true, eq_self, k_Mo_isBehind]; try clear hgo9 hW9)
      refine ⟨fun c => ?_, fun c => ?_⟩
      · refine fin _ ?_
        rw [bhZ, if_pos (Or.inr c)] at hQ
        exact hQ
      · (obtain ⟨W9, hW9, hgo9⟩ := wp_ex (T_Mo_isBehind l G) [11, 35] _; refine hgo9 200 _ _ _ _ ?_; simp -implicitDefEqProofs (disch := omega) only [hW9, inl, gate, Xq, tz_const, tz_iload, tz_lload, tz_dload, tz_aload, tz_istore, tz_astore, tz_lstore, tz_dstore, tz_iinc, tz_i1, tz_i2, tz_i2z, tz_l2, tz_l2z, tz_i2l, tz_l2i, tz_lcmp, tz_i2d, tz_d2, tz_dcmp, tz_dup, tz_dup2, tz_pop, tz_if, tz_icmp, tz_null, tz_goto, tz_sw, tz_getf, tz_puti, tz_putz, tz_putr, tz_putl, tz_iaload, tz_baload, tz_laload, tz_aaload, tz_iastore, tz_bastore, tz_lastore, tz_aastore, tz_alen, tz_new, tz_newa, tz_oinit, tz_iret, tz_zret, tz_lret, tz_dret, tz_aret, tz_vret, tz_throw, tz_callS, tz_callV, tz_callI, tz_callR, tz_pureS, tz_pureV, tz_callVH, lg, lset, lkill, lst1, lst2, entL, isRf, is1, vl, va_rf_none, va_rf_some, isRf_rf, is1_rf, i0, i1, bI_eq0, bI_eq1, nm_em, nI_eqP, nI_leP, nI_ltP, nN_e1, nN_e2, nN_l1, nN_l2, nN_l3, nN_l4, nI_add, pk_mul, vp_inN, nI_cl, n01, n10, P_i, P_ii, P_iii, f_Mo_at, f_Mo_map, f_Mo_contact, f_Mo_within, f_Mo_isPort, f_Hp_endpoint, f_Hp_nodeOf, f_Hp_portOf, f_Ma_max, f_Ma_min, f_Hp_isSetting, popN, rok, a1, noX, swc, mL, if_true, if_false, ↓reduceIte, cond_true, cond_false, true_and, and_true, List.length_cons, List.length_nil, List.nil_append, List.cons_append, List.append_nil, Option.toList, Nat.reduceEqDiff, Bool.false_eq_true, reduceCtorEq, Nat.reduceAdd, Nat.reduceLT, Nat.reduceLeDiff, Nat.reduceSub, List.replicate, Nat.zero_add, Nat.lt_add_one, Nat.le_refl, Nat.zero_le, Nat.succ_ne_zero, not_false_eq_true, not_true_eq_false, false_implies, true_implies, forall_const, imp_self, true_or, or_true, eq_self, k_Mo_isBehind, h1, h2, h3, h4]; try clear hgo9 hW9)
        refine ih _ (Up.next hn hj hj2) ?_
        rw [bhZ, if_neg (by rw [nN_e2 (by omega)]; simpa using c), nI_clamp (by omega)] at hQ
        exact hQ
theorem c_Mo_isBehind (a : Nat) (as : List Value) (h : AH) (Q : Po) (hl : as.length = 2) (ht : tg h a = 7) (hP : P_Mo_isBehind (.ref a :: as) h) (hQ : Q (.inl (some (f_Mo_isBehind (.ref a :: as) h))) h) : Call l G M_Mo_isBehind (.ref a :: as) h Q := by
  match as, hP, hQ with
  | [.int n, .int t], hP, hQ =>
    obtain ⟨zr, nn, hm, hz, hn, rfl, hnn⟩ := hP
    obtain ⟨z1, z2⟩ := hz.at
    simp only [f_Mo_isBehind, hm.zF, nI_clamp (show nn < 2 ^ 31 by omega)] at hQ
    refine call_of rfl rfl (Nat.le_of_ble_eq_true rfl) ?_
    (obtain ⟨W9, hW9, hgo9⟩ := wp_ex (T_Mo_isBehind l G) [11] _; refine hgo9 200 _ _ _ _ ?_; simp -implicitDefEqProofs (disch := omega) only [hW9, inl, gate, Xq, tz_const, tz_iload, tz_lload, tz_dload, tz_aload, tz_istore, tz_astore, tz_lstore, tz_dstore, tz_iinc, tz_i1, tz_i2, tz_i2z, tz_l2, tz_l2z, tz_i2l, tz_l2i, tz_lcmp, tz_i2d, tz_d2, tz_dcmp, tz_dup, tz_dup2, tz_pop, tz_if, tz_icmp, tz_null, tz_goto, tz_sw, tz_getf, tz_puti, tz_putz, tz_putr, tz_putl, tz_iaload, tz_baload, tz_laload, tz_aaload, tz_iastore, tz_bastore, tz_lastore, tz_aastore, tz_alen, tz_new, tz_newa, tz_oinit, tz_iret, tz_zret, tz_lret, tz_dret, tz_aret, tz_vret, tz_throw, tz_callS, tz_callV, tz_callI, tz_callR, tz_pureS, tz_pureV, tz_callVH, lg, lset, lkill, lst1, lst2, entL, isRf, is1, vl, va_rf_none, va_rf_some, isRf_rf, is1_rf, i0, i1, bI_eq0, bI_eq1, nm_em, nI_eqP, nI_leP, nI_ltP, nN_e1, nN_e2, nN_l1, nN_l2, nN_l3, nN_l4, nI_add, pk_mul, vp_inN, nI_cl, n01, n10, P_i, P_ii, P_iii, f_Mo_at, f_Mo_map, f_Mo_contact, f_Mo_within, f_Mo_isPort, f_Hp_endpoint, f_Hp_nodeOf, f_Hp_portOf, f_Ma_max, f_Ma_min, f_Hp_isSetting, popN, rok, a1, noX, swc, mL, if_true, if_false, ↓reduceIte, cond_true, cond_false, true_and, and_true, List.length_cons, List.length_nil, List.nil_append, List.cons_append, List.append_nil, Option.toList, Nat.reduceEqDiff, Bool.false_eq_true, reduceCtorEq, Nat.reduceAdd, Nat.reduceLT, Nat.reduceLeDiff, Nat.reduceSub, List.replicate, Nat.zero_add, Nat.lt_add_one, Nat.le_refl, Nat.zero_le, Nat.succ_ne_zero, not_false_eq_true, not_true_eq_false, false_implies, true_implies, forall_const, imp_self, true_or, or_true, eq_self, k_Mo_isBehind, hm.1, hm.2.1, hm.2.2.1, hm.2.2.2]; try clear hgo9 hW9)
    exact lp_isBehind hm hz hn 10 _ ((Up.of hn hnn).mono (by omega)) hQ
end
