/-! THE REFERENCE: reads -/
def k_Mo_isNode (l : Launch) (G : Gc) (pc : Nat) : Tr :=
  if pc < 7 then
   if pc < 2 then
    if pc < 1 then
     if pc = 0 then tz_iload 1 1 else dead
    else
     if pc = 1 then tz_const 2 (.int (nI 0)) else dead
   else
    if pc < 3 then
     if pc = 2 then tz_aload 3 0 else dead
    else
     if pc < 6 then
      if pc = 3 then tz_getf 6 7 1 1 else dead
     else
      if pc = 6 then tz_const 7 (.int (nI 1)) else dead
  else
   if pc < 9 then
    if pc < 8 then
     if pc = 7 then tz_iaload 8 else dead
    else
     if pc = 8 then tz_const 9 (.int (nI 1)) else dead
   else
    if pc < 10 then
     if pc = 9 then tz_i2 10 (fun a b => a - b) else dead
    else
     if pc < 13 then
      if pc = 10 then tz_pureS 13 3 P_Mo_within f_Mo_within else dead
     else
      if pc = 13 then tz_zret else dead
set_option maxRecDepth 100000 in
theorem T_Mo_isNode (l : Launch) (G : Gc) : TabOK l G M_Mo_isNode (k_Mo_isNode l G) := by
  intro pc
  unfold k_Mo_isNode
  exact
   (sd_br
    (sd_br
     (sd_br
      (sd_lf (sd_iload_n (k := 1) (by decide +kernel : decode prog_9_method_7_code 0 = .ok (.iload_n 1, 1))))
      (sd_lf (sd_iconst (by decide +kernel : decode prog_9_method_7_code 1 = .ok (.iconst 0, 1)) (by decide +kernel))))
     (sd_br
      (sd_lf (sd_aload_n (k := 0) (by decide +kernel : decode prog_9_method_7_code 2 = .ok (.aload_n 0, 1))))
      (sd_br
       (sd_lf (sd_getf (q := (RX7, TX7, 16)) (by decide +kernel : decode prog_9_method_7_code 3 = .ok (.getfield 7, 3)) rfl (by decide +kernel) (gm 913 (by decide +kernel) rfl)))
       (sd_lf (sd_iconst (by decide +kernel : decode prog_9_method_7_code 6 = .ok (.iconst 1, 1)) (by decide +kernel))))))
    (sd_br
     (sd_br
      (sd_lf (sd_iaload (by decide +kernel : decode prog_9_method_7_code 7 = .ok (.iaload, 1))))
      (sd_lf (sd_iconst (by decide +kernel : decode prog_9_method_7_code 8 = .ok (.iconst 1, 1)) (by decide +kernel))))
     (sd_br
      (sd_lf (sd_isub (by decide +kernel : decode prog_9_method_7_code 9 = .ok (.isub, 1))))
      (sd_br
       (sd_lf (sd_pureS (sd_callS (by decide +kernel : decode prog_9_method_7_code 10 = .ok (.invokestatic 36, 3)) ok_Mo_within (gm 990 (by decide +kernel) rfl) (gm 991 (by decide +kernel) rfl) (by decide +kernel) rfl rfl) c_Mo_within))
       (sd_lf (sd_zret (by decide +kernel : decode prog_9_method_7_code 13 = .ok (.ireturn, 1)) rfl))))))
def k_Mo_thrown (l : Launch) (G : Gc) (pc : Nat) : Tr :=
  if pc < 1 then
   if pc = 0 then tz_aload 1 0 else dead
  else
   if pc < 4 then
    if pc = 1 then tz_getf 4 7 0 0 else dead
   else
    if pc = 4 then tz_iret else dead
set_option maxRecDepth 100000 in
theorem T_Mo_thrown (l : Launch) (G : Gc) : TabOK l G M_Mo_thrown (k_Mo_thrown l G) := by
  intro pc
  unfold k_Mo_thrown
  exact
   (sd_br
    (sd_lf (sd_aload_n (k := 0) (by decide +kernel : decode prog_9_method_2_code 0 = .ok (.aload_n 0, 1))))
    (sd_br
     (sd_lf (sd_getf (q := (RX7, TX7, 16)) (by decide +kernel : decode prog_9_method_2_code 1 = .ok (.getfield 32, 3)) rfl (by decide +kernel) (gm 912 (by decide +kernel) rfl)))
     (sd_lf (sd_iret (by decide +kernel : decode prog_9_method_2_code 4 = .ok (.ireturn, 1)) rfl))))
/-- the model at m, its numbers at zr; there are at most ten nodes -/
def MoS (h : AH) (m zr : Nat) : Prop := tg h m = 7 ∧ hR h m 1 = some zr ∧ tg h zr = 8 ∧ ln h zr = 2096
def zF (h : AH) (m : Nat) : Nat → Int32 := hI h ((hR h m 1).getD 0)
theorem MoS.zF {h : AH} {m zr : Nat} (k : MoS h m zr) : zF h m = hI h zr := by
  unfold _root_.Jvm.Pilot.CHolePuncherLaw_law_r5595_fcdd34.zF
  rw [k.2.1]
  rfl
/-- how many nodes -/
def mny (z : Nat → Int32) : Nat := (z 1).toNatClampNeg
def Z10 (z : Nat → Int32) : Prop := ∃ k, k ≤ 10 ∧ z 1 = nI k
theorem Z10.at {z : Nat → Int32} (k : Z10 z) : z 1 = nI (mny z) ∧ mny z ≤ 10 := by
  obtain ⟨j, hj, e⟩ := k
  have : mny z = j := by unfold mny; rw [e, nI_clamp (by omega)]
  rw [this]
  exact ⟨e, hj⟩
def NdZ (z : Nat → Int32) (n : Int32) : Prop := ∃ j, j < mny z ∧ n = nI j
def TrZ (z : Nat → Int32) (n : Int32) : Prop := ∃ j, j < mny z ∧ n = nI j ∧ z (16 + 16 * j) = nI 1
def HoZ (z : Nat → Int32) (n : Int32) : Prop := ∃ j, j < mny z ∧ n = nI j ∧ z (16 + 16 * j) = nI 0
def NeZ (z : Nat → Int32) (n : Int32) : Prop := n = nN ∨ TrZ z n
theorem nd_iff {n : Int32} {k : Nat} (hk : k ≤ 10) : (nI 0 ≤ n ∧ n ≤ nI k - nI 1) ↔ ∃ j, j < k ∧ n = nI j := by
  constructor
  · rintro ⟨h1, h2⟩
    have h0 : ¬ n < 0 := by
      simp only [Int32.lt_iff_toInt_lt, Int32.le_iff_toInt_le] at h1 ⊢
      have e1 : (nI 0).toInt = 0 := rfl
      have e2 : (0 : Int32).toInt = 0 := rfl
      omega
    obtain ⟨j, hj, rfl⟩ := nI_of h0
    refine ⟨j, ?_, rfl⟩
    rcases Nat.eq_zero_or_pos k with e | e
    · subst e
      simp only [Int32.le_iff_toInt_le] at h2
      rw [nI_toInt hj, show (nI 0 - nI 1).toInt = -1 from rfl] at h2
      omega
    · rw [pk_sub (by omega)] at h2
      have := (nI_leI hj (by omega)).mp h2
      omega
  · rintro ⟨j, hj, rfl⟩
    refine ⟨(nI_leI (by omega) (by omega)).mpr (by omega), ?_⟩
    rw [pk_sub (by omega)]
    exact (nI_leI (by omega) (by omega)).mpr (by omega)
/-- the start of a read of the reference -/
def PM (h : AH) (m : Nat) : Prop := ∃ zr, MoS h m zr ∧ Z10 (hI h zr)
def P_Mo_isNode : List Value → AH → Prop
  | [.ref m, .int _], h => PM h m
  | _, _ => False
noncomputable def f_Mo_isNode : List Value → AH → Value
  | [.ref m, .int n], h => .int (bI (NdZ (zF h m) n))
  | _, _ => .null
def P_Mo_thrown : List Value → AH → Prop
  | [.ref _], _ => True
  | _, _ => False
def f_Mo_thrown : List Value → AH → Value
  | [.ref m], h => .int (hI h m 0)
  | _, _ => .null
section
variable {l : Launch} {G : Gc}
theorem c_Mo_isNode (a : Nat) (as : List Value) (h : AH) (Q : Po) (hl : as.length = 1) (ht : tg h a = 7) (hP : P_Mo_isNode (.ref a :: as) h) (hQ : Q (.inl (some (f_Mo_isNode (.ref a :: as) h))) h) : Call l G M_Mo_isNode (.ref a :: as) h Q := by
  match as, hP, hQ with
  | [.int n], hP, hQ =>
    obtain ⟨zr, hm, hz⟩ := hP
    simp only [f_Mo_isNode, hm.zF] at hQ
    obtain ⟨h1, h2, h3, h4⟩ := hm
    obtain ⟨e1, e2⟩ := hz.at
    refine call_of rfl rfl (Nat.le_of_ble_eq_true rfl) ?_
    (obtain ⟨W9, hW9, hgo9⟩ := wp_ex (T_Mo_isNode l G) [] _; refine hgo9 200 _ _ _ _ ?_; simp -implicitDefEqProofs (disch := omega) only [hW9, inl, gate, Xq, tz_const, tz_iload, tz_lload, tz_dload, tz_aload, tz_istore, tz_astore, tz_lstore, tz_dstore, tz_iinc, tz_i1, tz_i2, tz_i2z, tz_l2, tz_l2z, tz_i2l, tz_l2i, tz_lcmp, tz_i2d, tz_d2, tz_dcmp, tz_dup, tz_dup2, tz_pop, tz_if, tz_icmp, tz_null, tz_goto, tz_sw, tz_getf, tz_puti, tz_putz, tz_putr, tz_putl, tz_iaload, tz_baload, tz_laload, tz_aaload, tz_iastore, tz_bastore, tz_lastore, tz_aastore, tz_alen, tz_new, tz_newa, tz_oinit, tz_iret, tz_zret, tz_lret, tz_dret, tz_aret, tz_vret, tz_throw, tz_callS, tz_callV, tz_callI, tz_callR, tz_pureS, tz_pureV, tz_callVH, lg, lset, lkill, lst1, lst2, entL, isRf, is1, vl, va_rf_none, va_rf_some, isRf_rf, is1_rf, i0, i1, bI_eq0, bI_eq1, nm_em, nI_eqP, nI_leP, nI_ltP, nN_e1, nN_e2, nN_l1, nN_l2, nN_l3, nN_l4, nI_add, pk_mul, vp_inN, nI_cl, n01, n10, P_i, P_ii, P_iii, f_Mo_at, f_Mo_map, f_Mo_contact, f_Mo_within, f_Mo_isPort, f_Hp_endpoint, f_Hp_nodeOf, f_Hp_portOf, f_Ma_max, f_Ma_min, f_Hp_isSetting, popN, rok, a1, noX, swc, mL, if_true, if_false, ↓reduceIte, cond_true, cond_false, true_and, and_true, List.length_cons, List.length_nil, List.nil_append, List.cons_append, List.append_nil, Option.toList, Nat.reduceEqDiff, Bool.false_eq_true, reduceCtorEq, Nat.reduceAdd, Nat.reduceLT, Nat.reduceLeDiff, Nat.reduceSub, List.replicate, Nat.zero_add, Nat.lt_add_one, Nat.le_refl, Nat.zero_le, Nat.succ_ne_zero, not_false_eq_true, not_true_eq_false, false_implies, true_implies, forall_const, imp_self, true_or, or_true, eq_self, k_Mo_isNode, h1, h2, h3, h4, e1]; try clear hgo9 hW9)
    unfold NdZ at hQ
    rwa [← nd_iff e2] at hQ
theorem c_Mo_thrown (a : Nat) (as : List Value) (h : AH) (Q : Po) (hl : as.length = 0) (ht : tg h a = 7) (hP : P_Mo_thrown (.ref a :: as) h) (hQ : Q (.inl (some (f_Mo_thrown (.ref a :: as) h))) h) : Call l G M_Mo_thrown (.ref a :: as) h Q := by
  match as, hP, hQ with
  | [], hP, hQ =>
    refine call_of rfl rfl (Nat.le_of_ble_eq_true rfl) ?_
    (obtain ⟨W9, hW9, hgo9⟩ := wp_ex (T_Mo_thrown l G) [] _; refine hgo9 200 _ _ _ _ ?_; simp -implicitDefEqProofs (disch := omega) only [hW9, inl, gate, Xq, tz_const, tz_iload, tz_lload, tz_dload, tz_aload, tz_istore, tz_astore, tz_lstore, tz_dstore, tz_iinc, tz_i1, tz_i2, tz_i2z, tz_l2, tz_l2z, tz_i2l, tz_l2i, tz_lcmp, tz_i2d, tz_d2, tz_dcmp, tz_dup, tz_dup2, tz_pop, tz_if, tz_icmp, tz_null, tz_goto, tz_sw, tz_getf, tz_puti, tz_putz, tz_putr, tz_putl, tz_iaload, tz_baload, tz_laload, tz_aaload, tz_iastore, tz_bastore, tz_lastore, tz_aastore, tz_alen, tz_new, tz_newa, tz_oinit, tz_iret, tz_zret, tz_lret, tz_dret, tz_aret, tz_vret, tz_throw, tz_callS, tz_callV, tz_callI, tz_callR, tz_pureS, tz_pureV, tz_callVH, lg, lset, lkill, lst1, lst2, entL, isRf, is1, vl, va_rf_none, va_rf_some, isRf_rf, is1_rf, i0, i1, bI_eq0, bI_eq1, nm_em, nI_eqP, nI_leP, nI_ltP, nN_e1, nN_e2, nN_l1, nN_l2, nN_l3, nN_l4, nI_add, pk_mul, vp_inN, nI_cl, n01, n10, P_i, P_ii, P_iii, f_Mo_at, f_Mo_map, f_Mo_contact, f_Mo_within, f_Mo_isPort, f_Hp_endpoint, f_Hp_nodeOf, f_Hp_portOf, f_Ma_max, f_Ma_min, f_Hp_isSetting, popN, rok, a1, noX, swc, mL, if_true, if_false, ↓reduceIte, cond_true, cond_false, true_and, and_true, List.length_cons, List.length_nil, List.nil_append, List.cons_append, List.append_nil, Option.toList, Nat.reduceEqDiff, Bool.false_eq_true, reduceCtorEq, Nat.reduceAdd, Nat.reduceLT, Nat.reduceLeDiff, Nat.reduceSub, List.replicate, Nat.zero_add, Nat.lt_add_one, Nat.le_refl, Nat.zero_le, Nat.succ_ne_zero, not_false_eq_true, not_true_eq_false, false_implies, true_implies, forall_const, imp_self, true_or, or_true, eq_self, k_Mo_thrown, ht]; try clear hgo9 hW9)
    exact hQ
end
def k_Mo_isTranslator (l : Launch) (G : Gc) (pc : Nat) : Tr :=
  if pc < 14 then
   if pc < 8 then
    if pc < 2 then
     if pc < 1 then
      if pc = 0 then tz_aload 1 0 else dead
     else
      if pc = 1 then tz_iload 2 1 else dead
    else
     if pc < 5 then
      if pc = 2 then tz_pureV 5 1 7 P_Mo_isNode f_Mo_isNode else dead
     else
      if pc = 5 then tz_if 8 26 (fun a => a = 0) else dead
   else
    if pc < 12 then
     if pc < 9 then
      if pc = 8 then tz_aload 9 0 else dead
     else
      if pc = 9 then tz_getf 12 7 1 1 else dead
    else
     if pc < 13 then
      if pc = 12 then tz_iload 13 1 else dead
     else
      if pc = 13 then tz_const 14 (.int (nI 0)) else dead
  else
   if pc < 22 then
    if pc < 18 then
     if pc < 17 then
      if pc = 14 then tz_pureS 17 2 P_Mo_at f_Mo_at else dead
     else
      if pc = 17 then tz_iaload 18 else dead
    else
     if pc < 19 then
      if pc = 18 then tz_const 19 (.int (nI 1)) else dead
     else
      if pc = 19 then tz_icmp 22 26 (fun a b => ¬ a = b) else dead
   else
    if pc < 26 then
     if pc < 23 then
      if pc = 22 then tz_const 23 (.int (nI 1)) else dead
     else
      if pc = 23 then tz_goto 27 else dead
    else
     if pc < 27 then
      if pc = 26 then tz_const 27 (.int (nI 0)) else dead
     else
      if pc = 27 then tz_zret else dead
set_option maxRecDepth 100000 in
theorem T_Mo_isTranslator (l : Launch) (G : Gc) : TabOK l G M_Mo_isTranslator (k_Mo_isTranslator l G) := by
  intro pc
  unfold k_Mo_isTranslator
  exact
   (sd_br
    (sd_br
     (sd_br
      (sd_br
       (sd_lf (sd_aload_n (k := 0) (by decide +kernel : decode prog_9_method_8_code 0 = .ok (.aload_n 0, 1))))
       (sd_lf (sd_iload_n (k := 1) (by decide +kernel : decode prog_9_method_8_code 1 = .ok (.iload_n 1, 1)))))
      (sd_br
       (sd_lf (sd_pureV (sd_callV (q := (RX7, TX7, 16)) (by decide +kernel : decode prog_9_method_8_code 2 = .ok (.invokevirtual 40, 3)) ok_Mo_isNode (gm 986 (by decide +kernel) rfl) (gm 988 (by decide +kernel) rfl) (gm 31 (by decide +kernel) rfl) rfl rfl (by decide +kernel) rfl rfl) c_Mo_isNode))
       (sd_lf (sd_if_eq (by decide +kernel : decode prog_9_method_8_code 5 = .ok (.ifCond .eq 21, 3)) (by decide +kernel)))))
     (sd_br
      (sd_br
       (sd_lf (sd_aload_n (k := 0) (by decide +kernel : decode prog_9_method_8_code 8 = .ok (.aload_n 0, 1))))
       (sd_lf (sd_getf (q := (RX7, TX7, 16)) (by decide +kernel : decode prog_9_method_8_code 9 = .ok (.getfield 7, 3)) rfl (by decide +kernel) (gm 913 (by decide +kernel) rfl))))
      (sd_br
       (sd_lf (sd_iload_n (k := 1) (by decide +kernel : decode prog_9_method_8_code 12 = .ok (.iload_n 1, 1))))
       (sd_lf (sd_iconst (by decide +kernel : decode prog_9_method_8_code 13 = .ok (.iconst 0, 1)) (by decide +kernel))))))
    (sd_br
     (sd_br
      (sd_br
       (sd_lf (sd_pureS (sd_callS (by decide +kernel : decode prog_9_method_8_code 14 = .ok (.invokestatic 44, 3)) ok_Mo_at (gm 993 (by decide +kernel) rfl) (gm 994 (by decide +kernel) rfl) (by decide +kernel) rfl rfl) c_Mo_at))
       (sd_lf (sd_iaload (by decide +kernel : decode prog_9_method_8_code 17 = .ok (.iaload, 1)))))
      (sd_br
       (sd_lf (sd_iconst (by decide +kernel : decode prog_9_method_8_code 18 = .ok (.iconst 1, 1)) (by decide +kernel)))
       (sd_lf (sd_icmp_ne (by decide +kernel : decode prog_9_method_8_code 19 = .ok (.if_icmp .ne 7, 3)) (by decide +kernel)))))
     (sd_br
      (sd_br
       (sd_lf (sd_iconst (by decide +kernel : decode prog_9_method_8_code 22 = .ok (.iconst 1, 1)) (by decide +kernel)))
       (sd_lf (sd_goto (by decide +kernel : decode prog_9_method_8_code 23 = .ok (.goto 4, 3)) (by decide +kernel))))
      (sd_br
       (sd_lf (sd_iconst (by decide +kernel : decode prog_9_method_8_code 26 = .ok (.iconst 0, 1)) (by decide +kernel)))
       (sd_lf (sd_zret (by decide +kernel : decode prog_9_method_8_code 27 = .ok (.ireturn, 1)) rfl))))))
def k_Mo_isHost (l : Launch) (G : Gc) (pc : Nat) : Tr :=
  if pc < 13 then
   if pc < 5 then
    if pc < 1 then
     if pc = 0 then tz_aload 1 0 else dead
    else
     if pc < 2 then
      if pc = 1 then tz_iload 2 1 else dead
     else
      if pc = 2 then tz_pureV 5 1 7 P_Mo_isNode f_Mo_isNode else dead
   else
    if pc < 9 then
     if pc < 8 then
      if pc = 5 then tz_if 8 25 (fun a => a = 0) else dead
     else
      if pc = 8 then tz_aload 9 0 else dead
    else
     if pc < 12 then
      if pc = 9 then tz_getf 12 7 1 1 else dead
     else
      if pc = 12 then tz_iload 13 1 else dead
  else
   if pc < 21 then
    if pc < 17 then
     if pc < 14 then
      if pc = 13 then tz_const 14 (.int (nI 0)) else dead
     else
      if pc = 14 then tz_pureS 17 2 P_Mo_at f_Mo_at else dead
    else
     if pc < 18 then
      if pc = 17 then tz_iaload 18 else dead
     else
      if pc = 18 then tz_if 21 25 (fun a => ¬ a = 0) else dead
   else
    if pc < 25 then
     if pc < 22 then
      if pc = 21 then tz_const 22 (.int (nI 1)) else dead
     else
      if pc = 22 then tz_goto 26 else dead
    else
     if pc < 26 then
      if pc = 25 then tz_const 26 (.int (nI 0)) else dead
     else
      if pc = 26 then tz_zret else dead
set_option maxRecDepth 100000 in
theorem T_Mo_isHost (l : Launch) (G : Gc) : TabOK l G M_Mo_isHost (k_Mo_isHost l G) := by
  intro pc
  unfold k_Mo_isHost
  exact
   (sd_br
    (sd_br
     (sd_br
      (sd_lf (sd_aload_n (k := 0) (by decide +kernel : decode prog_9_method_9_code 0 = .ok (.aload_n 0, 1))))
      (sd_br
       (sd_lf (sd_iload_n (k := 1) (by decide +kernel : decode prog_9_method_9_code 1 = .ok (.iload_n 1, 1))))
       (sd_lf (sd_pureV (sd_callV (q := (RX7, TX7, 16)) (by decide +kernel : decode prog_9_method_9_code 2 = .ok (.invokevirtual 40, 3)) ok_Mo_isNode (gm 986 (by decide +kernel) rfl) (gm 988 (by decide +kernel) rfl) (gm 31 (by decide +kernel) rfl) rfl rfl (by decide +kernel) rfl rfl) c_Mo_isNode))))
     (sd_br
      (sd_br
       (sd_lf (sd_if_eq (by decide +kernel : decode prog_9_method_9_code 5 = .ok (.ifCond .eq 20, 3)) (by decide +kernel)))
       (sd_lf (sd_aload_n (k := 0) (by decide +kernel : decode prog_9_method_9_code 8 = .ok (.aload_n 0, 1)))))
      (sd_br
       (sd_lf (sd_getf (q := (RX7, TX7, 16)) (by decide +kernel : decode prog_9_method_9_code 9 = .ok (.getfield 7, 3)) rfl (by decide +kernel) (gm 913 (by decide +kernel) rfl)))
       (sd_lf (sd_iload_n (k := 1) (by decide +kernel : decode prog_9_method_9_code 12 = .ok (.iload_n 1, 1)))))))
    (sd_br
     (sd_br
      (sd_br
       (sd_lf (sd_iconst (by decide +kernel : decode prog_9_method_9_code 13 = .ok (.iconst 0, 1)) (by decide +kernel)))
       (sd_lf (sd_pureS (sd_callS (by decide +kernel : decode prog_9_method_9_code 14 = .ok (.invokestatic 44, 3)) ok_Mo_at (gm 993 (by decide +kernel) rfl) (gm 994 (by decide +kernel) rfl) (by decide +kernel) rfl rfl) c_Mo_at)))
      (sd_br
       (sd_lf (sd_iaload (by decide +kernel : decode prog_9_method_9_code 17 = .ok (.iaload, 1))))
       (sd_lf (sd_if_ne (by decide +kernel : decode prog_9_method_9_code 18 = .ok (.ifCond .ne 7, 3)) (by decide +kernel)))))
     (sd_br
      (sd_br
       (sd_lf (sd_iconst (by decide +kernel : decode prog_9_method_9_code 21 = .ok (.iconst 1, 1)) (by decide +kernel)))
       (sd_lf (sd_goto (by decide +kernel : decode prog_9_method_9_code 22 = .ok (.goto 4, 3)) (by decide +kernel))))
      (sd_br
       (sd_lf (sd_iconst (by decide +kernel : decode prog_9_method_9_code 25 = .ok (.iconst 0, 1)) (by decide +kernel)))
       (sd_lf (sd_zret (by decide +kernel : decode prog_9_method_9_code 26 = .ok (.ireturn, 1)) rfl))))))
def P_Mo_isTranslator := P_Mo_isNode
def P_Mo_isHost := P_Mo_isNode
def P_Mo_isNet := P_Mo_isNode
noncomputable def f_Mo_isTranslator : List Value → AH → Value
  | [.ref m, .int n], h => .int (bI (TrZ (zF h m) n))
  | _, _ => .null
noncomputable def f_Mo_isHost : List Value → AH → Value
  | [.ref m, .int n], h => .int (bI (HoZ (zF h m) n))
  | _, _ => .null
noncomputable def f_Mo_isNet : List Value → AH → Value
  | [.ref m, .int n], h => .int (bI (NeZ (zF h m) n))
  | _, _ => .null
section
variable {l : Launch} {G : Gc}
theorem c_Mo_isTranslator (a : Nat) (as : List Value) (h : AH) (Q : Po) (hl : as.length = 1) (ht : tg h a = 7) (hP : P_Mo_isTranslator (.ref a :: as) h) (hQ : Q (.inl (some (f_Mo_isTranslator (.ref a :: as) h))) h) : Call l G M_Mo_isTranslator (.ref a :: as) h Q := by
  match as, hP, hQ with
  | [.int n], hP, hQ =>
    have hPP : PM h a := hP
    obtain ⟨zr, hm, hz⟩ := hP
    have hzF := hm.zF
    simp only [f_Mo_isTranslator, hzF] at hQ
    obtain ⟨h1, h2, h3, h4⟩ := hm
    obtain ⟨e1, e2⟩ := hz.at
    refine call_of rfl rfl (Nat.le_of_ble_eq_true rfl) ?_
    (obtain ⟨W9, hW9, hgo9⟩ := wp_ex (T_Mo_isTranslator l G) [] _; refine hgo9 200 _ _ _ _ ?_; simp -implicitDefEqProofs (disch := omega) only [hW9, inl, gate, Xq, tz_const, tz_iload, tz_lload, tz_dload, tz_aload, tz_istore, tz_astore, tz_lstore, tz_dstore, tz_iinc, tz_i1, tz_i2, tz_i2z, tz_l2, tz_l2z, tz_i2l, tz_l2i, tz_lcmp, tz_i2d, tz_d2, tz_dcmp, tz_dup, tz_dup2, tz_pop, tz_if, tz_icmp, tz_null, tz_goto, tz_sw, tz_getf, tz_puti, tz_putz, tz_putr, tz_putl, tz_iaload, tz_baload, tz_laload, tz_aaload, tz_iastore, tz_bastore, tz_lastore, tz_aastore, tz_alen, tz_new, tz_newa, tz_oinit, tz_iret, tz_zret, tz_lret, tz_dret, tz_aret, tz_vret, tz_throw, tz_callS, tz_callV, tz_callI, tz_callR, tz_pureS, tz_pureV, tz_callVH, lg, lset, lkill, lst1, lst2, entL, isRf, is1, vl, va_rf_none, va_rf_some, isRf_rf, is1_rf, i0, i1, bI_eq0, bI_eq1, nm_em, nI_eqP, nI_leP, nI_ltP, nN_e1, nN_e2, nN_l1, nN_l2, nN_l3, nN_l4, nI_add, pk_mul, vp_inN, nI_cl, n01, n10, P_i, P_ii, P_iii, f_Mo_at, f_Mo_map, f_Mo_contact, f_Mo_within, f_Mo_isPort, f_Hp_endpoint, f_Hp_nodeOf, f_Hp_portOf, f_Ma_max, f_Ma_min, f_Hp_isSetting, popN, rok, a1, noX, swc, mL, if_true, if_false, ↓reduceIte, cond_true, cond_false, true_and, and_true, List.length_cons, List.length_nil, List.nil_append, List.cons_append, List.append_nil, Option.toList, Nat.reduceEqDiff, Bool.false_eq_true, reduceCtorEq, Nat.reduceAdd, Nat.reduceLT, Nat.reduceLeDiff, Nat.reduceSub, List.replicate, Nat.zero_add, Nat.lt_add_one, Nat.le_refl, Nat.zero_le, Nat.succ_ne_zero, not_false_eq_true, not_true_eq_false, false_implies, true_implies, forall_const, imp_self, true_or, or_true, eq_self, k_Mo_isTranslator, h1, h2, h3, h4, P_Mo_isNode, f_Mo_isNode, hPP, hzF]; try clear hgo9 hW9)
    refine ⟨fun c => ?_, fun c => ?_⟩
    · (obtain ⟨W9, hW9, hgo9⟩ := wp_ex (T_Mo_isTranslator l G) [] _; refine hgo9 200 _ _ _ _ ?_; simp -implicitDefEqProofs (disch := omega) only [hW9, inl, gate, Xq, tz_const, tz_iload, tz_lload, tz_dload, tz_aload, tz_istore, tz_astore, tz_lstore, tz_dstore, tz_iinc, tz_i1, tz_i2, tz_i2z, tz_l2, tz_l2z, tz_i2l, tz_l2i, tz_lcmp, tz_i2d, tz_d2, tz_dcmp, tz_dup, tz_dup2, tz_pop, tz_if, tz_icmp, tz_null, tz_goto, tz_sw, tz_getf, tz_puti, tz_putz, tz_putr, tz_putl, tz_iaload, tz_baload, tz_laload, tz_aaload, tz_iastore, tz_bastore, tz_lastore, tz_aastore, tz_alen, tz_new, tz_newa, tz_oinit, tz_iret, tz_zret, tz_lret, tz_dret, tz_aret, tz_vret, tz_throw, tz_callS, tz_callV, tz_callI, tz_callR, tz_pureS, tz_pureV, tz_callVH, lg, lset, lkill, lst1, lst2, entL, isRf, is1, vl, va_rf_none, va_rf_some, isRf_rf, is1_rf, i0, i1, bI_eq0, bI_eq1, nm_em, nI_eqP, nI_leP, nI_ltP, nN_e1, nN_e2, nN_l1, nN_l2, nN_l3, nN_l4, nI_add, pk_mul, vp_inN, nI_cl, n01, n10, P_i, P_ii, P_iii, f_Mo_at, f_Mo_map, f_Mo_contact, f_Mo_within, f_Mo_isPort, f_Hp_endpoint, f_Hp_nodeOf, f_Hp_portOf, f_Ma_max, f_Ma_min, f_Hp_isSetting, popN, rok, a1, noX, swc, mL, if_true, if_false, ↓reduceIte, cond_true, cond_false, true_and, and_true, List.length_cons, List.length_nil, List.nil_append, List.cons_append, List.append_nil, Option.toList, Nat.reduceEqDiff, Bool.false_eq_true, reduceCtorEq, Nat.reduceAdd, Nat.reduceLT, Nat.reduceLeDiff, Nat.reduceSub, List.replicate, Nat.zero_add, Nat.lt_add_one, Nat.le_refl, Nat.zero_le, Nat.succ_ne_zero, not_false_eq_true, not_true_eq_false, false_implies, true_implies, forall_const, imp_self, true_or, or_true, eq_self, k_Mo_isTranslator]; try clear hgo9 hW9)
      rwa [bI_f (fun ⟨j, q1, q2, q3⟩ => c ⟨j, q1, q2⟩)] at hQ
    · obtain ⟨j, hj, rfl⟩ := Classical.not_not.mp c
      (obtain ⟨W9, hW9, hgo9⟩ := wp_ex (T_Mo_isTranslator l G) [] _; refine hgo9 200 _ _ _ _ ?_; simp -implicitDefEqProofs (disch := omega) only [hW9, inl, gate, Xq, tz_const, tz_iload, tz_lload, tz_dload, tz_aload, tz_istore, tz_astore, tz_lstore, tz_dstore, tz_iinc, tz_i1, tz_i2, tz_i2z, tz_l2, tz_l2z, tz_i2l, tz_l2i, tz_lcmp, tz_i2d, tz_d2, tz_dcmp, tz_dup, tz_dup2, tz_pop, tz_if, tz_icmp, tz_null, tz_goto, tz_sw, tz_getf, tz_puti, tz_putz, tz_putr, tz_putl, tz_iaload, tz_baload, tz_laload, tz_aaload, tz_iastore, tz_bastore, tz_lastore, tz_aastore, tz_alen, tz_new, tz_newa, tz_oinit, tz_iret, tz_zret, tz_lret, tz_dret, tz_aret, tz_vret, tz_throw, tz_callS, tz_callV, tz_callI, tz_callR, tz_pureS, tz_pureV, tz_callVH, lg, lset, lkill, lst1, lst2, entL, isRf, is1, vl, va_rf_none, va_rf_some, isRf_rf, is1_rf, i0, i1, bI_eq0, bI_eq1, nm_em, nI_eqP, nI_leP, nI_ltP, nN_e1, nN_e2, nN_l1, nN_l2, nN_l3, nN_l4, nI_add, pk_mul, vp_inN, nI_cl, n01, n10, P_i, P_ii, P_iii, f_Mo_at, f_Mo_map, f_Mo_contact, f_Mo_within, f_Mo_isPort, f_Hp_endpoint, f_Hp_nodeOf, f_Hp_portOf, f_Ma_max, f_Ma_min, f_Hp_isSetting, popN, rok, a1, noX, swc, mL, if_true, if_false, ↓reduceIte, cond_true, cond_false, true_and, and_true, List.length_cons, List.length_nil, List.nil_append, List.cons_append, List.append_nil, Option.toList, Nat.reduceEqDiff, Bool.false_eq_true, reduceCtorEq, Nat.reduceAdd, Nat.reduceLT, Nat.reduceLeDiff, Nat.reduceSub, List.replicate, Nat.zero_add, Nat.lt_add_one, Nat.le_refl, Nat.zero_le, Nat.succ_ne_zero, not_false_eq_true, not_true_eq_false, false_implies, true_implies, forall_const, imp_self, true_or, or_true, eq_self, k_Mo_isTranslator, h1, h2, h3, h4]; try clear hgo9 hW9)
      refine ⟨fun c2 => ?_, fun c2 => ?_⟩
      · (obtain ⟨W9, hW9, hgo9⟩ := wp_ex (T_Mo_isTranslator l G) [] _; refine hgo9 200 _ _ _ _ ?_; simp -implicitDefEqProofs (disch := omega) only [hW9, inl, gate, Xq, tz_const, tz_iload, tz_lload, tz_dload, tz_aload, tz_istore, tz_astore, tz_lstore, tz_dstore, tz_iinc, tz_i1, tz_i2, tz_i2z, tz_l2, tz_l2z, tz_i2l, tz_l2i, tz_lcmp, tz_i2d, tz_d2, tz_dcmp, tz_dup, tz_dup2, tz_pop, tz_if, tz_icmp, tz_null, tz_goto, tz_sw, tz_getf, tz_puti, tz_putz, tz_putr, tz_putl, tz_iaload, tz_baload, tz_laload, tz_aaload, tz_iastore, tz_bastore, tz_lastore, tz_aastore, tz_alen, tz_new, tz_newa, tz_oinit, tz_iret, tz_zret, tz_lret, tz_dret, tz_aret, tz_vret, tz_throw, tz_callS, tz_callV, tz_callI, tz_callR, tz_pureS, tz_pureV, tz_callVH, lg, lset, lkill, lst1, lst2, entL, isRf, is1, vl, va_rf_none, va_rf_some, isRf_rf, is1_rf, i0, i1, bI_eq0, bI_eq1, nm_em, nI_eqP, nI_leP, nI_ltP, nN_e1, nN_e2, nN_l1, nN_l2, nN_l3, nN_l4, nI_add, pk_mul, vp_inN, nI_cl, n01, n10, P_i, P_ii, P_iii, f_Mo_at, f_Mo_map, f_Mo_contact, f_Mo_within, f_Mo_isPort, f_Hp_endpoint, f_Hp_nodeOf, f_Hp_portOf, f_Ma_max, f_Ma_min, f_Hp_isSetting, popN, rok, a1, noX, swc, mL, if_true, if_false, ↓reduceIte, cond_true, cond_false, true_and, and_true, List.length_cons, List.length_nil, List.nil_append, List.cons_append, List.append_nil, Option.toList, Nat.reduceEqDiff, Bool.false_eq_true, reduceCtorEq, Nat.reduceAdd, Nat.reduceLT, Nat.reduceLeDiff, Nat.reduceSub, List.replicate, Nat.zero_add, Nat.lt_add_one, Nat.le_refl, Nat.zero_le, Nat.succ_ne_zero, not_false_eq_true, not_true_eq_false, false_implies, true_implies, forall_const, imp_self, true_or, or_true, eq_self, k_Mo_isTranslator]; try clear hgo9 hW9)
        rwa [bI_f (fun ⟨j', q1, q2, q3⟩ => c2 (by rw [nI_eq (by omega) (by omega)] at q2; subst q2; exact q3))] at hQ
      · (obtain ⟨W9, hW9, hgo9⟩ := wp_ex (T_Mo_isTranslator l G) [] _; refine hgo9 200 _ _ _ _ ?_; simp -implicitDefEqProofs (disch := omega) only [hW9, inl, gate, Xq, tz_const, tz_iload, tz_lload, tz_dload, tz_aload, tz_istore, tz_astore, tz_lstore, tz_dstore, tz_iinc, tz_i1, tz_i2, tz_i2z, tz_l2, tz_l2z, tz_i2l, tz_l2i, tz_lcmp, tz_i2d, tz_d2, tz_dcmp, tz_dup, tz_dup2, tz_pop, tz_if, tz_icmp, tz_null, tz_goto, tz_sw, tz_getf, tz_puti, tz_putz, tz_putr, tz_putl, tz_iaload, tz_baload, tz_laload, tz_aaload, tz_iastore, tz_bastore, tz_lastore, tz_aastore, tz_alen, tz_new, tz_newa, tz_oinit, tz_iret, tz_zret, tz_lret, tz_dret, tz_aret, tz_vret, tz_throw, tz_callS, tz_callV, tz_callI, tz_callR, tz_pureS, tz_pureV, tz_callVH, lg, lset, lkill, lst1, lst2, entL, isRf, is1, vl, va_rf_none, va_rf_some, isRf_rf, is1_rf, i0, i1, bI_eq0, bI_eq1, nm_em, nI_eqP, nI_leP, nI_ltP, nN_e1, nN_e2, nN_l1, nN_l2, nN_l3, nN_l4, nI_add, pk_mul, vp_inN, nI_cl, n01, n10, P_i, P_ii, P_iii, f_Mo_at, f_Mo_map, f_Mo_contact, f_Mo_within, f_Mo_isPort, f_Hp_endpoint, f_Hp_nodeOf, f_Hp_portOf, f_Ma_max, f_Ma_min, f_Hp_isSetting, popN, rok, a1, noX, swc, mL, if_true, if_false, ↓reduceIte, cond_true, cond_false, true_and, and_true, List.length_cons, List.length_nil, List.nil_append, List.cons_append, List.append_nil, Option.toList, Nat.reduceEqDiff, Bool.false_eq_true, reduceCtorEq, Nat.reduceAdd, Nat.reduceLT, Nat.reduceLeDiff, Nat.reduceSub, List.replicate, Nat.zero_add, Nat.lt_add_one, Nat.le_refl, Nat.zero_le, Nat.succ_ne_zero, not_false_eq_true, not_true_eq_false, false_implies, true_implies, forall_const, imp_self, true_or, or_true, eq_self, k_Mo_isTranslator]; try clear hgo9 hW9)
        rwa [bI_t ⟨j, hj, rfl, Classical.not_not.mp c2⟩] at hQ
theorem c_Mo_isHost (a : Nat) (as : List Value) (h : AH) (Q : Po) (hl : as.length = 1) (ht : tg h a = 7) (hP : P_Mo_isHost (.ref a :: as) h) (hQ : Q (.inl (some (f_Mo_isHost (.ref a :: as) h))) h) : Call l G M_Mo_isHost (.ref a :: as) h Q := by
  match as, hP, hQ with
  | [.int n], hP, hQ =>
    have hPP : PM h a := hP
    obtain ⟨zr, hm, hz⟩ := hP
    have hzF := hm.zF
    simp only [f_Mo_isHost, hzF] at hQ
    obtain ⟨h1, h2, h3, h4⟩ := hm
    obtain ⟨e1, e2⟩ := hz.at
    refine call_of rfl rfl (Nat.le_of_ble_eq_true rfl) ?_
    (obtain ⟨W9, hW9, hgo9⟩ := wp_ex (T_Mo_isHost l G) [] _; refine hgo9 200 _ _ _ _ ?_; simp -implicitDefEqProofs (disch := omega) only [hW9, inl, gate, Xq, tz_const, tz_iload, tz_lload, tz_dload, tz_aload, tz_istore, tz_astore, tz_lstore, tz_dstore, tz_iinc, tz_i1, tz_i2, tz_i2z, tz_l2, tz_l2z, tz_i2l, tz_l2i, tz_lcmp, tz_i2d, tz_d2, tz_dcmp, tz_dup, tz_dup2, tz_pop, tz_if, tz_icmp, tz_null, tz_goto, tz_sw, tz_getf, tz_puti, tz_putz, tz_putr, tz_putl, tz_iaload, tz_baload, tz_laload, tz_aaload, tz_iastore, tz_bastore, tz_lastore, tz_aastore, tz_alen, tz_new, tz_newa, tz_oinit, tz_iret, tz_zret, tz_lret, tz_dret, tz_aret, tz_vret, tz_throw, tz_callS, tz_callV, tz_callI, tz_callR, tz_pureS, tz_pureV, tz_callVH, lg, lset, lkill, lst1, lst2, entL, isRf, is1, vl, va_rf_none, va_rf_some, isRf_rf, is1_rf, i0, i1, bI_eq0, bI_eq1, nm_em, nI_eqP, nI_leP, nI_ltP, nN_e1, nN_e2, nN_l1, nN_l2, nN_l3, nN_l4, nI_add, pk_mul, vp_inN, nI_cl, n01, n10, P_i, P_ii, P_iii, f_Mo_at, f_Mo_map, f_Mo_contact, f_Mo_within, f_Mo_isPort, f_Hp_endpoint, f_Hp_nodeOf, f_Hp_portOf, f_Ma_max, f_Ma_min, f_Hp_isSetting, popN, rok, a1, noX, swc, mL, if_true, if_false, ↓reduceIte, cond_true, cond_false, true_and, and_true, List.length_cons, List.length_nil, List.nil_append, List.cons_append, List.append_nil, Option.toList, Nat.reduceEqDiff, Bool.false_eq_true, reduceCtorEq, Nat.reduceAdd, Nat.reduceLT, Nat.reduceLeDiff, Nat.reduceSub, List.replicate, Nat.zero_add, Nat.lt_add_one, Nat.le_refl, Nat.zero_le, Nat.succ_ne_zero, not_false_eq_true, not_true_eq_false, false_implies, true_implies, forall_const, imp_self, true_or, or_true, eq_self, k_Mo_isHost, h1, h2, h3, h4, P_Mo_isNode, f_Mo_isNode, hPP, hzF]; try clear hgo9 hW9)
    refine ⟨fun c => ?_, fun c => ?_⟩
    · (obtain ⟨W9, hW9, hgo9⟩ := wp_ex (T_Mo_isHost l G) [] _; refine hgo9 200 _ _ _ _ ?_; simp -implicitDefEqProofs (disch := omega) only [hW9, inl, gate, Xq, tz_const, tz_iload, tz_lload, tz_dload, tz_aload, tz_istore, tz_astore, tz_lstore, tz_dstore, tz_iinc, tz_i1, tz_i2, tz_i2z, tz_l2, tz_l2z, tz_i2l, tz_l2i, tz_lcmp, tz_i2d, tz_d2, tz_dcmp, tz_dup, tz_dup2, tz_pop, tz_if, tz_icmp, tz_null, tz_goto, tz_sw, tz_getf, tz_puti, tz_putz, tz_putr, tz_putl, tz_iaload, tz_baload, tz_laload, tz_aaload, tz_iastore, tz_bastore, tz_lastore, tz_aastore, tz_alen, tz_new, tz_newa, tz_oinit, tz_iret, tz_zret, tz_lret, tz_dret, tz_aret, tz_vret, tz_throw, tz_callS, tz_callV, tz_callI, tz_callR, tz_pureS, tz_pureV, tz_callVH, lg, lset, lkill, lst1, lst2, entL, isRf, is1, vl, va_rf_none, va_rf_some, isRf_rf, is1_rf, i0, i1, bI_eq0, bI_eq1, nm_em, nI_eqP, nI_leP, nI_ltP, nN_e1, nN_e2, nN_l1, nN_l2, nN_l3, nN_l4, nI_add, pk_mul, vp_inN, nI_cl, n01, n10, P_i, P_ii, P_iii, f_Mo_at, f_Mo_map, f_Mo_contact, f_Mo_within, f_Mo_isPort, f_Hp_endpoint, f_Hp_nodeOf, f_Hp_portOf, f_Ma_max, f_Ma_min, f_Hp_isSetting, popN, rok, a1, noX, swc, mL, if_true, if_false, ↓reduceIte, cond_true, cond_false, true_and, and_true, List.length_cons, List.length_nil, List.nil_append, List.cons_append, List.append_nil, Option.toList, Nat.reduceEqDiff, Bool.false_eq_true, reduceCtorEq, Nat.reduceAdd, Nat.reduceLT, Nat.reduceLeDiff, Nat.reduceSub, List.replicate, Nat.zero_add, Nat.lt_add_one, Nat.le_refl, Nat.zero_le, Nat.succ_ne_zero, not_false_eq_true, not_true_eq_false, false_implies, true_implies, forall_const, imp_self, true_or, or_true, eq_self, k_Mo_isHost]; try clear hgo9 hW9)
      rwa [bI_f (fun ⟨j, q1, q2, q3⟩ => c ⟨j, q1, q2⟩)] at hQ
    · obtain ⟨j, hj, rfl⟩ := Classical.not_not.mp c
      (obtain ⟨W9, hW9, hgo9⟩ := wp_ex (T_Mo_isHost l G) [] _; refine hgo9 200 _ _ _ _ ?_; simp -implicitDefEqProofs (disch := omega) only [hW9, inl, gate, Xq, tz_const, tz_iload, tz_lload, tz_dload, tz_aload, tz_istore, tz_astore, tz_lstore, tz_dstore, tz_iinc, tz_i1, tz_i2, tz_i2z, tz_l2, tz_l2z, tz_i2l, tz_l2i, tz_lcmp, tz_i2d, tz_d2, tz_dcmp, tz_dup, tz_dup2, tz_pop, tz_if, tz_icmp, tz_null, tz_goto, tz_sw, tz_getf, tz_puti, tz_putz, tz_putr, tz_putl, tz_iaload, tz_baload, tz_laload, tz_aaload, tz_iastore, tz_bastore, tz_lastore, tz_aastore, tz_alen, tz_new, tz_newa, tz_oinit, tz_iret, tz_zret, tz_lret, tz_dret, tz_aret, tz_vret, tz_throw, tz_callS, tz_callV, tz_callI, tz_callR, tz_pureS, tz_pureV, tz_callVH, lg, lset, lkill, lst1, lst2, entL, isRf, is1, vl, va_rf_none, va_rf_some, isRf_rf, is1_rf, i0, i1, bI_eq0, bI_eq1, nm_em, nI_eqP, nI_leP, nI_ltP, nN_e1, nN_e2, nN_l1, nN_l2, nN_l3, nN_l4, nI_add, pk_mul, vp_inN, nI_cl, n01, n10, P_i, P_ii, P_iii, f_Mo_at, f_Mo_map, f_Mo_contact, f_Mo_within, f_Mo_isPort, f_Hp_endpoint, f_Hp_nodeOf, f_Hp_portOf, f_Ma_max, f_Ma_min, f_Hp_isSetting, popN, rok, a1, noX, swc, mL, if_true, if_false, ↓reduceIte, cond_true, cond_false, true_and, and_true, List.length_cons, List.length_nil, List.nil_append, List.cons_append, List.append_nil, Option.toList, Nat.reduceEqDiff, Bool.false_eq_true, reduceCtorEq, Nat.reduceAdd, Nat.reduceLT, Nat.reduceLeDiff, Nat.reduceSub, List.replicate, Nat.zero_add, Nat.lt_add_one, Nat.le_refl, Nat.zero_le, Nat.succ_ne_zero, not_false_eq_true, not_true_eq_false, false_implies, true_implies, forall_const, imp_self, true_or, or_true, eq_self, k_Mo_isHost, h1, h2, h3, h4]; try clear hgo9 hW9)
      refine ⟨fun c2 => ?_, fun c2 => ?_⟩
      · (obtain ⟨W9, hW9, hgo9⟩ := wp_ex (T_Mo_isHost l G) [] _; refine hgo9 200 _ _ _ _ ?_; simp -implicitDefEqProofs (disch := omega) only [hW9, inl, gate, Xq, tz_const, tz_iload, tz_lload, tz_dload, tz_aload, tz_istore, tz_astore, tz_lstore, tz_dstore, tz_iinc, tz_i1, tz_i2, tz_i2z, tz_l2, tz_l2z, tz_i2l, tz_l2i, tz_lcmp, tz_i2d, tz_d2, tz_dcmp, tz_dup, tz_dup2, tz_pop, tz_if, tz_icmp, tz_null, tz_goto, tz_sw, tz_getf, tz_puti, tz_putz, tz_putr, tz_putl, tz_iaload, tz_baload, tz_laload, tz_aaload, tz_iastore, tz_bastore, tz_lastore, tz_aastore, tz_alen, tz_new, tz_newa, tz_oinit, tz_iret, tz_zret, tz_lret, tz_dret, tz_aret, tz_vret, tz_throw, tz_callS, tz_callV, tz_callI, tz_callR, tz_pureS, tz_pureV, tz_callVH, lg, lset, lkill, lst1, lst2, entL, isRf, is1, vl, va_rf_none, va_rf_some, isRf_rf, is1_rf, i0, i1, bI_eq0, bI_eq1, nm_em, nI_eqP, nI_leP, nI_ltP, nN_e1, nN_e2, nN_l1, nN_l2, nN_l3, nN_l4, nI_add, pk_mul, vp_inN, nI_cl, n01, n10, P_i, P_ii, P_iii, f_Mo_at, f_Mo_map, f_Mo_contact, f_Mo_within, f_Mo_isPort, f_Hp_endpoint, f_Hp_nodeOf, f_Hp_portOf, f_Ma_max, f_Ma_min, f_Hp_isSetting, popN, rok, a1, noX, swc, mL, if_true, if_false, ↓reduceIte, cond_true, cond_false, true_and, and_true, List.length_cons, List.length_nil, List.nil_append, List.cons_append, List.append_nil, Option.toList, Nat.reduceEqDiff, Bool.false_eq_true, reduceCtorEq, Nat.reduceAdd, Nat.reduceLT, Nat.reduceLeDiff, Nat.reduceSub, List.replicate, Nat.zero_add, Nat.lt_add_one, Nat.le_refl, Nat.zero_le, Nat.succ_ne_zero, not_false_eq_true, not_true_eq_false, false_implies, true_implies, forall_const, imp_self, true_or, or_true, eq_self, k_Mo_isHost]; try clear hgo9 hW9)
        rwa [bI_f (fun ⟨j', q1, q2, q3⟩ => c2 (by rw [nI_eq (by omega) (by omega)] at q2; subst q2; exact q3))] at hQ
      · (obtain ⟨W9, hW9, hgo9⟩ := wp_ex (T_Mo_isHost l G) [] _; refine hgo9 200 _ _ _ _ ?_; simp -implicitDefEqProofs (disch := omega) only [hW9, inl, gate, Xq, tz_const, tz_iload, tz_lload, tz_dload, tz_aload, tz_istore, tz_astore, tz_lstore, tz_dstore, tz_iinc, tz_i1, tz_i2, tz_i2z, tz_l2, tz_l2z, tz_i2l, tz_l2i, tz_lcmp, tz_i2d, tz_d2, tz_dcmp, tz_dup, tz_dup2, tz_pop, tz_if, tz_icmp, tz_null, tz_goto, tz_sw, tz_getf, tz_puti, tz_putz, tz_putr, tz_putl, tz_iaload, tz_baload, tz_laload, tz_aaload, tz_iastore, tz_bastore, tz_lastore, tz_aastore, tz_alen, tz_new, tz_newa, tz_oinit, tz_iret, tz_zret, tz_lret, tz_dret, tz_aret, tz_vret, tz_throw, tz_callS, tz_callV, tz_callI, tz_callR, tz_pureS, tz_pureV, tz_callVH, lg, lset, lkill, lst1, lst2, entL, isRf, is1, vl, va_rf_none, va_rf_some, isRf_rf, is1_rf, i0, i1, bI_eq0, bI_eq1, nm_em, nI_eqP, nI_leP, nI_ltP, nN_e1, nN_e2, nN_l1, nN_l2, nN_l3, nN_l4, nI_add, pk_mul, vp_inN, nI_cl, n01, n10, P_i, P_ii, P_iii, f_Mo_at, f_Mo_map, f_Mo_contact, f_Mo_within, f_Mo_isPort, f_Hp_endpoint, f_Hp_nodeOf, f_Hp_portOf, f_Ma_max, f_Ma_min, f_Hp_isSetting, popN, rok, a1, noX, swc, mL, if_true, if_false, ↓reduceIte, cond_true, cond_false, true_and, and_true, List.length_cons, List.length_nil, List.nil_append, List.cons_append, List.append_nil, Option.toList, Nat.reduceEqDiff, Bool.false_eq_true, reduceCtorEq, Nat.reduceAdd, Nat.reduceLT, Nat.reduceLeDiff, Nat.reduceSub, List.replicate, Nat.zero_add, Nat.lt_add_one, Nat.le_refl, Nat.zero_le, Nat.succ_ne_zero, not_false_eq_true, not_true_eq_false, false_implies, true_implies, forall_const, imp_self, true_or, or_true, eq_self, k_Mo_isHost]; try clear hgo9 hW9)
        rwa [bI_t ⟨j, hj, rfl, Classical.not_not.mp c2⟩] at hQ
end
def k_Mo_isNet (l : Launch) (G : Gc) (pc : Nat) : Tr :=
  if pc < 7 then
   if pc < 2 then
    if pc < 1 then
     if pc = 0 then tz_iload 1 1 else dead
    else
     if pc = 1 then tz_const 2 (.int (nN)) else dead
   else
    if pc < 5 then
     if pc = 2 then tz_icmp 5 13 (fun a b => a = b) else dead
    else
     if pc < 6 then
      if pc = 5 then tz_aload 6 0 else dead
     else
      if pc = 6 then tz_iload 7 1 else dead
  else
   if pc < 14 then
    if pc < 10 then
     if pc = 7 then tz_pureV 10 1 7 P_Mo_isTranslator f_Mo_isTranslator else dead
    else
     if pc < 13 then
      if pc = 10 then tz_if 13 17 (fun a => a = 0) else dead
     else
      if pc = 13 then tz_const 14 (.int (nI 1)) else dead
   else
    if pc < 17 then
     if pc = 14 then tz_goto 18 else dead
    else
     if pc < 18 then
      if pc = 17 then tz_const 18 (.int (nI 0)) else dead
     else
      if pc = 18 then tz_zret else dead
set_option maxRecDepth 100000 in
theorem T_Mo_isNet (l : Launch) (G : Gc) : TabOK l G M_Mo_isNet (k_Mo_isNet l G) := by
  intro pc
  unfold k_Mo_isNet
  exact
   (sd_br
    (sd_br
     (sd_br
      (sd_lf (sd_iload_n (k := 1) (by decide +kernel : decode prog_9_method_13_code 0 = .ok (.iload_n 1, 1))))
      (sd_lf (sd_iconst (by decide +kernel : decode prog_9_method_13_code 1 = .ok (.iconst (-1), 1)) (by decide +kernel))))
     (sd_br
      (sd_lf (sd_icmp_eq (by decide +kernel : decode prog_9_method_13_code 2 = .ok (.if_icmp .eq 11, 3)) (by decide +kernel)))
      (sd_br
       (sd_lf (sd_aload_n (k := 0) (by decide +kernel : decode prog_9_method_13_code 5 = .ok (.aload_n 0, 1))))
       (sd_lf (sd_iload_n (k := 1) (by decide +kernel : decode prog_9_method_13_code 6 = .ok (.iload_n 1, 1)))))))
    (sd_br
     (sd_br
      (sd_lf (sd_pureV (sd_callV (q := (RX7, TX7, 16)) (by decide +kernel : decode prog_9_method_13_code 7 = .ok (.invokevirtual 55, 3)) ok_Mo_isTranslator (gm 982 (by decide +kernel) rfl) (gm 984 (by decide +kernel) rfl) (gm 30 (by decide +kernel) rfl) rfl rfl (by decide +kernel) rfl rfl) c_Mo_isTranslator))
      (sd_br
       (sd_lf (sd_if_eq (by decide +kernel : decode prog_9_method_13_code 10 = .ok (.ifCond .eq 7, 3)) (by decide +kernel)))
       (sd_lf (sd_iconst (by decide +kernel : decode prog_9_method_13_code 13 = .ok (.iconst 1, 1)) (by decide +kernel)))))
     (sd_br
      (sd_lf (sd_goto (by decide +kernel : decode prog_9_method_13_code 14 = .ok (.goto 4, 3)) (by decide +kernel)))
      (sd_br
       (sd_lf (sd_iconst (by decide +kernel : decode prog_9_method_13_code 17 = .ok (.iconst 0, 1)) (by decide +kernel)))
       (sd_lf (sd_zret (by decide +kernel : decode prog_9_method_13_code 18 = .ok (.ireturn, 1)) rfl))))))
section
variable {l : Launch} {G : Gc}
theorem c_Mo_isNet (a : Nat) (as : List Value) (h : AH) (Q : Po) (hl : as.length = 1) (ht : tg h a = 7) (hP : P_Mo_isNet (.ref a :: as) h) (hQ : Q (.inl (some (f_Mo_isNet (.ref a :: as) h))) h) : Call l G M_Mo_isNet (.ref a :: as) h Q := by
  match as, hP, hQ with
  | [.int n], hP, hQ =>
    have hPP : PM h a := hP
    obtain ⟨zr, hm, hz⟩ := hP
    have hzF := hm.zF
    simp only [f_Mo_isNet, hzF, NeZ] at hQ
    obtain ⟨h1, h2, h3, h4⟩ := hm
    obtain ⟨e1, e2⟩ := hz.at
    refine call_of rfl rfl (Nat.le_of_ble_eq_true rfl) ?_
    (obtain ⟨W9, hW9, hgo9⟩ := wp_ex (T_Mo_isNet l G) [] _; refine hgo9 200 _ _ _ _ ?_; simp -implicitDefEqProofs (disch := omega) only [hW9, inl, gate, Xq, tz_const, tz_iload, tz_lload, tz_dload, tz_aload, tz_istore, tz_astore, tz_lstore, tz_dstore, tz_iinc, tz_i1, tz_i2, tz_i2z, tz_l2, tz_l2z, tz_i2l, tz_l2i, tz_lcmp, tz_i2d, tz_d2, tz_dcmp, tz_dup, tz_dup2, tz_pop, tz_if, tz_icmp, tz_null, tz_goto, tz_sw, tz_getf, tz_puti, tz_putz, tz_putr, tz_putl, tz_iaload, tz_baload, tz_laload, tz_aaload, tz_iastore, tz_bastore, tz_lastore, tz_aastore, tz_alen, tz_new, tz_newa, tz_oinit, tz_iret, tz_zret, tz_lret, tz_dret, tz_aret, tz_vret, tz_throw, tz_callS, tz_callV, tz_callI, tz_callR, tz_pureS, tz_pureV, tz_callVH, lg, lset, lkill, lst1, lst2, entL, isRf, is1, vl, va_rf_none, va_rf_some, isRf_rf, is1_rf, i0, i1, bI_eq0, bI_eq1, nm_em, nI_eqP, nI_leP, nI_ltP, nN_e1, nN_e2, nN_l1, nN_l2, nN_l3, nN_l4, nI_add, pk_mul, vp_inN, nI_cl, n01, n10, P_i, P_ii, P_iii, f_Mo_at, f_Mo_map, f_Mo_contact, f_Mo_within, f_Mo_isPort, f_Hp_endpoint, f_Hp_nodeOf, f_Hp_portOf, f_Ma_max, f_Ma_min, f_Hp_isSetting, popN, rok, a1, noX, swc, mL, if_true, if_false, ↓reduceIte, cond_true, cond_false, true_and, and_true, List.length_cons, List.length_nil, List.nil_append, List.cons_append, List.append_nil, Option.toList, Nat.reduceEqDiff, Bool.false_eq_true, reduceCtorEq, Nat.reduceAdd, Nat.reduceLT, Nat.reduceLeDiff, Nat.reduceSub, List.replicate, Nat.zero_add, Nat.lt_add_one, Nat.le_refl, Nat.zero_le, Nat.succ_ne_zero, not_false_eq_true, not_true_eq_false, false_implies, true_implies, forall_const, imp_self, true_or, or_true, eq_self, k_Mo_isNet, h1, h2, h3, h4]; try clear hgo9 hW9)
    refine ⟨fun c => ?_, fun c => ?_⟩
    · (obtain ⟨W9, hW9, hgo9⟩ := wp_ex (T_Mo_isNet l G) [] _; refine hgo9 200 _ _ _ _ ?_; simp -implicitDefEqProofs (disch := omega) only [hW9, inl, gate, Xq, tz_const, tz_iload, tz_lload, tz_dload, tz_aload, tz_istore, tz_astore, tz_lstore, tz_dstore, tz_iinc, tz_i1, tz_i2, tz_i2z, tz_l2, tz_l2z, tz_i2l, tz_l2i, tz_lcmp, tz_i2d, tz_d2, tz_dcmp, tz_dup, tz_dup2, tz_pop, tz_if, tz_icmp, tz_null, tz_goto, tz_sw, tz_getf, tz_puti, tz_putz, tz_putr, tz_putl, tz_iaload, tz_baload, tz_laload, tz_aaload, tz_iastore, tz_bastore, tz_lastore, tz_aastore, tz_alen, tz_new, tz_newa, tz_oinit, tz_iret, tz_zret, tz_lret, tz_dret, tz_aret, tz_vret, tz_throw, tz_callS, tz_callV, tz_callI, tz_callR, tz_pureS, tz_pureV, tz_callVH, lg, lset, lkill, lst1, lst2, entL, isRf, is1, vl, va_rf_none, va_rf_some, isRf_rf, is1_rf, i0, i1, bI_eq0, bI_eq1, nm_em, nI_eqP, nI_leP, nI_ltP, nN_e1, nN_e2, nN_l1, nN_l2, nN_l3, nN_l4, nI_add, pk_mul, vp_inN, nI_cl, n01, n10, P_i, P_ii, P_iii, f_Mo_at, f_Mo_map, f_Mo_contact, f_Mo_within, f_Mo_isPort, f_Hp_endpoint, f_Hp_nodeOf, f_Hp_portOf, f_Ma_max, f_Ma_min, f_Hp_isSetting, popN, rok, a1, noX, swc, mL, if_true, if_false, ↓reduceIte, cond_true, cond_false, true_and, and_true, List.length_cons, List.length_nil, List.nil_append, List.cons_append, List.append_nil, Option.toList, Nat.reduceEqDiff, Bool.false_eq_true, reduceCtorEq, Nat.reduceAdd, Nat.reduceLT, Nat.reduceLeDiff, Nat.reduceSub, List.replicate, Nat.zero_add, Nat.lt_add_one, Nat.le_refl, Nat.zero_le, Nat.succ_ne_zero, not_false_eq_true, not_true_eq_false, false_implies, true_implies, forall_const, imp_self, true_or, or_true, eq_self, k_Mo_isNet]; try clear hgo9 hW9)
      rwa [bI_t (Or.inl c)] at hQ
    · (obtain ⟨W9, hW9, hgo9⟩ := wp_ex (T_Mo_isNet l G) [] _; refine hgo9 200 _ _ _ _ ?_; simp -implicitDefEqProofs (disch := omega) only [hW9, inl, gate, Xq, tz_const, tz_iload, tz_lload, tz_dload, tz_aload, tz_istore, tz_astore, tz_lstore, tz_dstore, tz_iinc, tz_i1, tz_i2, tz_i2z, tz_l2, tz_l2z, tz_i2l, tz_l2i, tz_lcmp, tz_i2d, tz_d2, tz_dcmp, tz_dup, tz_dup2, tz_pop, tz_if, tz_icmp, tz_null, tz_goto, tz_sw, tz_getf, tz_puti, tz_putz, tz_putr, tz_putl, tz_iaload, tz_baload, tz_laload, tz_aaload, tz_iastore, tz_bastore, tz_lastore, tz_aastore, tz_alen, tz_new, tz_newa, tz_oinit, tz_iret, tz_zret, tz_lret, tz_dret, tz_aret, tz_vret, tz_throw, tz_callS, tz_callV, tz_callI, tz_callR, tz_pureS, tz_pureV, tz_callVH, lg, lset, lkill, lst1, lst2, entL, isRf, is1, vl, va_rf_none, va_rf_some, isRf_rf, is1_rf, i0, i1, bI_eq0, bI_eq1, nm_em, nI_eqP, nI_leP, nI_ltP, nN_e1, nN_e2, nN_l1, nN_l2, nN_l3, nN_l4, nI_add, pk_mul, vp_inN, nI_cl, n01, n10, P_i, P_ii, P_iii, f_Mo_at, f_Mo_map, f_Mo_contact, f_Mo_within, f_Mo_isPort, f_Hp_endpoint, f_Hp_nodeOf, f_Hp_portOf, f_Ma_max, f_Ma_min, f_Hp_isSetting, popN, rok, a1, noX, swc, mL, if_true, if_false, ↓reduceIte, cond_true, cond_false, true_and, and_true, List.length_cons, List.length_nil, List.nil_append, List.cons_append, List.append_nil, Option.toList, Nat.reduceEqDiff, Bool.false_eq_true, reduceCtorEq, Nat.reduceAdd, Nat.reduceLT, Nat.reduceLeDiff, Nat.reduceSub, List.replicate, Nat.zero_add, Nat.lt_add_one, Nat.le_refl, Nat.zero_le, Nat.succ_ne_zero, not_false_eq_true, not_true_eq_false, false_implies, true_implies, forall_const, imp_self, true_or, or_true, eq_self, k_Mo_isNet, h1, h2, h3, h4, P_Mo_isTranslator, P_Mo_isNode, f_Mo_isTranslator, hPP, hzF]; try clear hgo9 hW9)
      refine ⟨fun c2 => ?_, fun c2 => ?_⟩
      · (obtain ⟨W9, hW9, hgo9⟩ := wp_ex (T_Mo_isNet l G) [] _; refine hgo9 200 _ _ _ _ ?_; simp -implicitDefEqProofs (disch := omega) only [hW9, inl, gate, Xq, tz_const, tz_iload, tz_lload, tz_dload, tz_aload, tz_istore, tz_astore, tz_lstore, tz_dstore, tz_iinc, tz_i1, tz_i2, tz_i2z, tz_l2, tz_l2z, tz_i2l, tz_l2i, tz_lcmp, tz_i2d, tz_d2, tz_dcmp, tz_dup, tz_dup2, tz_pop, tz_if, tz_icmp, tz_null, tz_goto, tz_sw, tz_getf, tz_puti, tz_putz, tz_putr, tz_putl, tz_iaload, tz_baload, tz_laload, tz_aaload, tz_iastore, tz_bastore, tz_lastore, tz_aastore, tz_alen, tz_new, tz_newa, tz_oinit, tz_iret, tz_zret, tz_lret, tz_dret, tz_aret, tz_vret, tz_throw, tz_callS, tz_callV, tz_callI, tz_callR, tz_pureS, tz_pureV, tz_callVH, lg, lset, lkill, lst1, lst2, entL, isRf, is1, vl, va_rf_none, va_rf_some, isRf_rf, is1_rf, i0, i1, bI_eq0, bI_eq1, nm_em, nI_eqP, nI_leP, nI_ltP, nN_e1, nN_e2, nN_l1, nN_l2, nN_l3, nN_l4, nI_add, pk_mul, vp_inN, nI_cl, n01, n10, P_i, P_ii, P_iii, f_Mo_at, f_Mo_map, f_Mo_contact, f_Mo_within, f_Mo_isPort, f_Hp_endpoint, f_Hp_nodeOf, f_Hp_portOf, f_Ma_max, f_Ma_min, f_Hp_isSetting, popN, rok, a1, noX, swc, mL, if_true, if_false, ↓reduceIte, cond_true, cond_false, true_and, and_true, List.length_cons, List.length_nil, List.nil_append, List.cons_append, List.append_nil, Option.toList, Nat.reduceEqDiff, Bool.false_eq_true, reduceCtorEq, Nat.reduceAdd, Nat.reduceLT, Nat.reduceLeDiff, Nat.reduceSub, List.replicate, Nat.zero_add, Nat.lt_add_one, Nat.le_refl, Nat.zero_le, Nat.succ_ne_zero, not_false_eq_true, not_true_eq_false, false_implies, true_implies, forall_const, imp_self, true_or, or_true, eq_self, k_Mo_isNet]; try clear hgo9 hW9)
        rwa [bI_f (fun q => q.elim c c2)] at hQ
      · (obtain ⟨W9, hW9, hgo9⟩ := wp_ex (T_Mo_isNet l G) [] _; refine hgo9 200 _ _ _ _ ?_; simp -implicitDefEqProofs (disch := omega) only [hW9, inl, gate, Xq, tz_const, tz_iload, tz_lload, tz_dload, tz_aload, tz_istore, tz_astore, tz_lstore, tz_dstore, tz_iinc, tz_i1, tz_i2, tz_i2z, tz_l2, tz_l2z, tz_i2l, tz_l2i, tz_lcmp, tz_i2d, tz_d2, tz_dcmp, tz_dup, tz_dup2, tz_pop, tz_if, tz_icmp, tz_null, tz_goto, tz_sw, tz_getf, tz_puti, tz_putz, tz_putr, tz_putl, tz_iaload, tz_baload, tz_laload, tz_aaload, tz_iastore, tz_bastore, tz_lastore, tz_aastore, tz_alen, tz_new, tz_newa, tz_oinit, tz_iret, tz_zret, tz_lret, tz_dret, tz_aret, tz_vret, tz_throw, tz_callS, tz_callV, tz_callI, tz_callR, tz_pureS, tz_pureV, tz_callVH, lg, lset, lkill, lst1, lst2, entL, isRf, is1, vl, va_rf_none, va_rf_some, isRf_rf, is1_rf, i0, i1, bI_eq0, bI_eq1, nm_em, nI_eqP, nI_leP, nI_ltP, nN_e1, nN_e2, nN_l1, nN_l2, nN_l3, nN_l4, nI_add, pk_mul, vp_inN, nI_cl, n01, n10, P_i, P_ii, P_iii, f_Mo_at, f_Mo_map, f_Mo_contact, f_Mo_within, f_Mo_isPort, f_Hp_endpoint, f_Hp_nodeOf, f_Hp_portOf, f_Ma_max, f_Ma_min, f_Hp_isSetting, popN, rok, a1, noX, swc, mL, if_true, if_false, ↓reduceIte, cond_true, cond_false, true_and, and_true, List.length_cons, List.length_nil, List.nil_append, List.cons_append, List.append_nil, Option.toList, Nat.reduceEqDiff, Bool.false_eq_true, reduceCtorEq, Nat.reduceAdd, Nat.reduceLT, Nat.reduceLeDiff, Nat.reduceSub, List.replicate, Nat.zero_add, Nat.lt_add_one, Nat.le_refl, Nat.zero_le, Nat.succ_ne_zero, not_false_eq_true, not_true_eq_false, false_implies, true_implies, forall_const, imp_self, true_or, or_true, eq_self, k_Mo_isNet]; try clear hgo9 hW9)
        rwa [bI_t (Or.inr (Classical.not_not.mp c2))] at hQ
end
