/-- cells below the first new one stay, but a -/
def Bel (h h' : AH) (a c m : Nat) : Prop := hN h' = hN h + c ∧ hM h' = hM h + m ∧ (∀ b, b < hN h → b ≠ a → same1 h h' b) ∧ WF h'
/-- a new network at its own address -/
theorem nw_net {h h' : AH} (hw : WF h) (k : NwNew (nw h 1 6 [hN h]) h' (hN h)) : Bel h h' (hN h) 3 22 ∧ (∀ b, b < hN h → same1 h h' b) ∧ ShN h' (hN h) ∧ (∀ z : Nat → Int32, (∀ q, q < 176 → z q = nI 0) → NwR h' (hN h) z) := by
  have sh := k.sh (tg_nw0 h 1 6 [hN h]) (gh_nw0 h 1 6 [hN h])
  obtain ⟨n1, n2, n3, n4, -, ⟨a1, a2, -⟩, ⟨b1, b2, -⟩⟩ := k
  rw [hN_nw] at n1 n3 a2 b2
  rw [hM_nw] at n2
  have cl : ∀ b, b < hN h → same1 h h' b := fun b hb => (show same1 h (nw h 1 6 [hN h]) b from ⟨hT_nw (by omega), hI_nw (by omega), hR_nw (by omega), hL_nw (by omega)⟩).tr (n3 b (by omega) (by omega) (by omega))
  refine ⟨⟨by omega, by omega, fun b hb _ => cl b hb, fun b hb => ?_⟩, cl, sh.1, sh.2⟩
  rw [(n3 b (by omega) (by omega) (by omega)).tg, tg_nwo (by omega)]
  exact hw b (by omega)
/-- a network none of whose cells has changed -/
theorem ShN.low {h h' : AH} {wo : Nat} (hw : WF h) (k : ShN h wo) (f : ∀ {b : Nat}, b < hN h → rt h b = some wo → same1 h h' b) : ShN h' wo := by
  obtain ⟨⟨a1, a2, a3, a4⟩, a5, a6, ⟨b1, b2, b3, b4⟩, nod⟩ := id k
  have sw := f (hw.lt (show tg h wo ≠ 99 by rw [a1]; decide)) (rt_gh a5)
  have sA := f (hw.lt (show tg h (nA h wo) ≠ 99 by rw [a3]; decide)) (rt_gh a6)
  have sL := f (hw.lt (show tg h (lA h wo) ≠ 99 by rw [b2]; decide)) (rt_gh b4)
  have eA := nA_same sw
  have eL := lA_same sw
  refine ⟨⟨sw.tg.trans a1, by rw [eA, sw.2.2.1]; exact a2, by rw [eA, sA.tg]; exact a3, by rw [eA, sA.ln]; exact a4⟩, sw.gh.trans a5, by rw [eA, sA.gh]; exact a6, ⟨by rw [eL, sw.2.2.1]; exact b1, by rw [eL, sL.tg]; exact b2, by rw [eL, sL.ln]; exact b3, by rw [eL, sL.gh]; exact b4⟩, fun i n hi hn => ?_⟩
  rw [eA, sA.2.2.1] at hn
  exact (nod i n hi hn).keep hw (fun b hb ⟨_, _, e, _⟩ => f hb (rt_gh e))
theorem NwR.low {h h' : AH} {wo : Nat} {z : Nat → Int32} (hw : WF h) (m0 : mny z = 0) (k : NwR h wo z) (f : ∀ {b : Nat}, b < hN h → rt h b = some wo → same1 h h' b) : NwR h' wo z := by
  obtain ⟨⟨⟨a1, a2, a3, a4⟩, a5, a6, ⟨b1, b2, b3, b4⟩, nod⟩, ⟨k2, k3, k4, k5⟩, k6, k7⟩ := id k
  have sw := f (hw.lt (show tg h wo ≠ 99 by rw [a1]; decide)) (rt_gh a5)
  have sL := f (hw.lt (show tg h (lA h wo) ≠ 99 by rw [b2]; decide)) (rt_gh b4)
  have eL := lA_same sw
  exact ⟨k.1.low hw f, ⟨by rw [sw.2.1]; exact k2, by rw [sw.2.1]; exact k3, by rw [sw.2.1]; exact k4, by rw [sw.2.1]; exact k5⟩, fun q q1 q2 => by rw [eL, sL.2.1]; exact k6 q q1 q2, fun i hi => by rw [m0] at hi; omega⟩
/-- a new reader at a -/
def RdNew (h h' : AH) (a : Nat) : Prop := Bel h h' a 4 25 ∧ hT h' a = hT h a ∧ (hR h' a 0 = some (hN h) ∧ hR h' a 1 = some (hN h + 3)) ∧ (tg h' (hN h + 3) = 8 ∧ ln h' (hN h + 3) = 3 ∧ gh h' (hN h + 3) = [0]) ∧ ShN h' (hN h)
section
variable {l : Launch} {G : Gc}
theorem c_Rd_init (a : Nat) (h : AH) (Q : Po) (hw : WF h) (h1 : tg h a = 2) (g1 : gh h a = [0]) (hQ : ∀ h', RdNew h h' a → Q (.inl none) h') : Call l G M_Rd_init [.ref a] h Q := by
  have ha : a < hN h := hw.lt (by rw [h1]; decide)
  have n0 : hN h ≠ 0 := by omega
  have tgn : ∀ g, tg (nw h 1 6 g) (hN h) = 1 := fun g => tg_nw0 h 1 6 g
  have tga : ∀ g, tg (nw h 1 6 g) a = 2 := fun g => (tg_nwo (by omega)).trans h1
  refine call_of rfl rfl (Nat.le_of_ble_eq_true rfl) ?_
  (obtain ⟨W9, hW9, hgo9⟩ := wp_ex (T_Rd_init l G) [] _; refine hgo9 200 _ _ _ _ ?_; simp -implicitDefEqProofs (disch := omega) only [hW9, inl, gate, Xq, tz_const, tz_iload, tz_lload, tz_dload, tz_aload, tz_istore, tz_astore, tz_lstore, tz_dstore, tz_iinc, tz_i1, tz_i2, tz_i2z, tz_l2, tz_l2z, tz_i2l, tz_l2i, tz_lcmp, tz_i2d, tz_d2, tz_dcmp, tz_dup, tz_dup2, tz_pop, tz_if, tz_icmp, tz_null, tz_goto, tz_sw, tz_getf, tz_puti, tz_putz, tz_putr, tz_putl, tz_iaload, tz_baload, tz_laload, tz_aaload, tz_iastore, tz_bastore, tz_lastore, tz_aastore, tz_alen, tz_new, tz_newa, tz_oinit, tz_iret, tz_zret, tz_lret, tz_dret, tz_aret, tz_vret, tz_throw, tz_callS, tz_callV, tz_callI, tz_callR, tz_pureS, tz_pureV, tz_callVH, lg, lset, lkill, lst1, lst2, entL, isRf, is1, vl, va_rf_none, va_rf_some, isRf_rf, is1_rf, i0, i1, bI_eq0, bI_eq1, nm_em, nI_eqP, nI_leP, nI_ltP, nN_e1, nN_e2, nN_l1, nN_l2, nN_l3, nN_l4, nI_add, pk_mul, vp_inN, nI_cl, n01, n10, P_i, P_ii, P_iii, f_Mo_at, f_Mo_map, f_Mo_contact, f_Mo_within, f_Mo_isPort, f_Hp_endpoint, f_Hp_nodeOf, f_Hp_portOf, f_Ma_max, f_Ma_min, f_Hp_isSetting, popN, rok, a1, noX, swc, mL, if_true, if_false, ↓reduceIte, cond_true, cond_false, true_and, and_true, List.length_cons, List.length_nil, List.nil_append, List.cons_append, List.append_nil, Option.toList, Nat.reduceEqDiff, Bool.false_eq_true, reduceCtorEq, Nat.reduceAdd, Nat.reduceLT, Nat.reduceLeDiff, Nat.reduceSub, List.replicate, Nat.zero_add, Nat.lt_add_one, Nat.le_refl, Nat.zero_le, Nat.succ_ne_zero, not_false_eq_true, not_true_eq_false, false_implies, true_implies, forall_const, imp_self, true_or, or_true, eq_self, sI_zw, zw_zw, hI_zw, tg_zw, ln_zw, hR_zw, hL_zw, hN_zw, hM_zw, upd_s, upd_u, upd_ne, Classical.not_not, k_Rd_init, h1, tgn, tga]; try clear hgo9 hW9)
  refine ⟨[hN h], ?_⟩
  refine c_Nw_init (hN h) _ _ (by rw [hN_nw]; omega) (tgn _) (fun h2 k2 => ?_)
  simp only [aft]
  obtain ⟨⟨e1, e2, -, w2⟩, cl, sn, -⟩ := nw_net hw k2
  have t2 : tg h2 a = 2 := (cl a ha).tg.trans h1
  have u1 : tg h2 (hN h) = 1 := sn.1.1
  have gN : rt h2 (hN h) = some (hN h) := rt_gh sn.2.1
  have rs : ∀ x, hR (sR h2 a 0 x) a 0 = x := fun x => hR_sR _ _ _ _
  (obtain ⟨W9, hW9, hgo9⟩ := wp_ex (T_Rd_init l G) [] _; refine hgo9 200 _ _ _ _ ?_; simp -implicitDefEqProofs (disch := first | omega | (simp only [hN_nw, hN_sR, hN_zw, hN_sL]; first | done | omega)) only [hW9, inl, gate, Xq, tz_const, tz_iload, tz_lload, tz_dload, tz_aload, tz_istore, tz_astore, tz_lstore, tz_dstore, tz_iinc, tz_i1, tz_i2, tz_i2z, tz_l2, tz_l2z, tz_i2l, tz_l2i, tz_lcmp, tz_i2d, tz_d2, tz_dcmp, tz_dup, tz_dup2, tz_pop, tz_if, tz_icmp, tz_null, tz_goto, tz_sw, tz_getf, tz_puti, tz_putz, tz_putr, tz_putl, tz_iaload, tz_baload, tz_laload, tz_aaload, tz_iastore, tz_bastore, tz_lastore, tz_aastore, tz_alen, tz_new, tz_newa, tz_oinit, tz_iret, tz_zret, tz_lret, tz_dret, tz_aret, tz_vret, tz_throw, tz_callS, tz_callV, tz_callI, tz_callR, tz_pureS, tz_pureV, tz_callVH, lg, lset, lkill, lst1, lst2, entL, isRf, is1, vl, va_rf_none, va_rf_some, isRf_rf, is1_rf, i0, i1, bI_eq0, bI_eq1, nm_em, nI_eqP, nI_leP, nI_ltP, nN_e1, nN_e2, nN_l1, nN_l2, nN_l3, nN_l4, nI_add, pk_mul, vp_inN, nI_cl, n01, n10, P_i, P_ii, P_iii, f_Mo_at, f_Mo_map, f_Mo_contact, f_Mo_within, f_Mo_isPort, f_Hp_endpoint, f_Hp_nodeOf, f_Hp_portOf, f_Ma_max, f_Ma_min, f_Hp_isSetting, popN, rok, a1, noX, swc, mL, if_true, if_false, ↓reduceIte, cond_true, cond_false, true_and, and_true, List.length_cons, List.length_nil, List.nil_append, List.cons_append, List.append_nil, Option.toList, Nat.reduceEqDiff, Bool.false_eq_true, reduceCtorEq, Nat.reduceAdd, Nat.reduceLT, Nat.reduceLeDiff, Nat.reduceSub, List.replicate, Nat.zero_add, Nat.lt_add_one, Nat.le_refl, Nat.zero_le, Nat.succ_ne_zero, not_false_eq_true, not_true_eq_false, false_implies, true_implies, forall_const, imp_self, true_or, or_true, eq_self, sI_zw, zw_zw, hI_zw, tg_zw, ln_zw, hR_zw, hL_zw, hN_zw, hM_zw, upd_s, upd_u, upd_ne, Classical.not_not, k_Rd_init, t2, u1, tg_nwo, tg_sR, hN_nw, hN_sR, e1]; try clear hgo9 hW9)
  refine ⟨[0], hQ _ ?_⟩
  have ra : rt h2 a = some 0 := rt_gh ((cl a ha).gh.trans g1)
  have cl2 : ∀ f, ∀ b, b < hN h2 → b ≠ a → same1 h2 (zw (sR (nw (sR h2 a 0 (some (hN h))) 8 3 [0]) a 1 (some (hN h + 3))) a f) b := fun f b hb hne => ⟨hT_nw (show b ≠ hN (sR h2 a 0 (some (hN h))) by rw [hN_sR]; omega), (hI_zw_ne _ hne).trans (hI_nw (h := sR h2 a 0 (some (hN h))) (t := 8) (n := 3) (g := [0]) (by rw [hN_sR]; omega)), ((hR_sRo hne).trans (hR_nw (h := sR h2 a 0 (some (hN h))) (t := 8) (n := 3) (g := [0]) (by rw [hN_sR]; omega))).trans (hR_sRo hne), hL_nw (h := sR h2 a 0 (some (hN h))) (t := 8) (n := 3) (g := [0]) (by rw [hN_sR]; omega)⟩
  refine ⟨⟨?_, ?_, fun b hb hne => (cl b hb).tr (cl2 _ b (by omega) hne), fun b hb => ?_⟩, ?_, ⟨?_, ?_⟩, ⟨?_, ?_, ?_⟩, sn.low w2 (fun {b} hb hr => cl2 _ b hb (fun e => ?_))⟩
  · show hN h2 + 1 = hN h + 4; omega
  · show hM h2 + 3 = hM h + 25; omega
  · replace hb : hN h2 + 1 ≤ b := hb
    show tg (nw (sR h2 a 0 (some (hN h))) 8 3 [0]) b = 99
    rw [tg_nwo (by rw [hN_sR]; omega)]
    exact w2 b (by omega)
  · show hT (nw (sR h2 a 0 (some (hN h))) 8 3 [0]) a = hT h a
    rw [hT_nw (by rw [hN_sR]; omega)]
    exact (cl a ha).1
  · show hR (sR (nw (sR h2 a 0 (some (hN h))) 8 3 [0]) a 1 (some (hN h + 3))) a 0 = _
    rw [hR_sRk (by omega), hR_nw (by rw [hN_sR]; omega), hR_sR]
  · exact hR_sR _ _ _ _
  · show tg (nw (sR h2 a 0 (some (hN h))) 8 3 [0]) (hN h + 3) = 8
    exact tg_nw' (by rw [hN_sR]; omega)
  · show ln (nw (sR h2 a 0 (some (hN h))) 8 3 [0]) (hN h + 3) = 3
    exact ln_nw' (by rw [hN_sR]; omega)
  · show gh (nw (sR h2 a 0 (some (hN h))) 8 3 [0]) (hN h + 3) = [0]
    exact gh_nw' (by rw [hN_sR]; omega)
  · rw [e, ra] at hr
    exact n0 (Option.some.inj hr).symm
end
