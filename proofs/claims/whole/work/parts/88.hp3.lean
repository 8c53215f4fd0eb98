/-! THE CLASS: reply, ifSent, keepAlive, setNumber -/
theorem ddT_id {t : Nat} {z : Nat → Int32} {c : Nat} : ∀ (n : Nat), (∀ j, j < n → nI 0 ≤ livZ z t j) → ddT t n z c = (z, c)
  | 0, _ => rfl
  | n + 1, h => by
    rw [ddT, if_pos (h n (by omega))]
    exact ddT_id n (fun j hj => h j (by omega))
theorem ddA_id {z : Nat → Int32} {c : Nat} : ∀ (f t : Nat), (∀ s, t ≤ s → s < t + f → ∀ q, q < own z s → nI 0 ≤ livZ z s q) → ddA f t z c = (z, c)
  | 0, t, _ => rfl
  | f + 1, t, h => by
    rw [ddA, ddT_id (own z t) (h t (Nat.le_refl _) (by omega))]
    exact ddA_id f (t + 1) (fun s h1 h2 => h s (by omega) (by omega))
theorem ddA_one {z : Nat → Int32} {c j : Nat} (inv : Inv0 z) (hj : j < mny z) : ∀ (f t : Nat), t + f = mny z → t ≤ j → (∀ s, t ≤ s → s < mny z → s ≠ j → ∀ q, q < own z s → nI 0 ≤ livZ z s q) → ddA f t z c = ddT j (own z j) z c
  | 0, t, e, h1, _ => by omega
  | f + 1, t, e, h1, h => by
    have m10 := inv.1.at.2
    rw [ddA]
    by_cases w : t = j
    · subst w
      obtain ⟨⟨i1, i2⟩, i3, -⟩ := dd_one (t := t) inv hj c
      refine ddA_id f (t + 1) (fun s h2 h3 q hq => ?_)
      have eo : own (ddT t (own z t) z c).1 s = own z s := own_eq (i3 _ (by unfold tPl mA cA; omega))
      rw [eo] at hq
      have o8 := (inv.own s (by omega)).2
      have := h s (by omega) (by omega) (by omega) q hq
      unfold livZ at this ⊢
      rw [i3 _ (by unfold tPl mA cA; omega), i3 0 (by unfold tPl mA cA; omega), i3 (176 + 8 * (8 * s + q) + 5) (by unfold tPl mA cA; omega)]
      exact this
    · rw [ddT_id (own z t) (h t (Nat.le_refl _) (by omega) w)]
      exact ddA_one inv hj f (t + 1) (by omega) (by omega) (fun s h2 h3 => h s (by omega) h3)
/-- a translator's number in range -/
theorem inv_set {z : Nat → Int32} {j k : Nat} {x : Int32} (inv : Inv0 z) (hj : j < mny z) (tk : z (16 + 16 * j) = nI 1) (hk : k ≤ 3) (hx : (k = 0 → in1 x 1 9) ∧ (k = 1 → in1 x 1 1000) ∧ (2 ≤ k → in1 x 0 1)) : Inv0 (upd z (16 + 16 * j + (5 + k)) x) ∧ mny (upd z (16 + 16 * j + (5 + k)) x) = mny z := by
  have m10 := inv.1.at.2
  have em : mny (upd z (16 + 16 * j + (5 + k)) x) = mny z := mny_eq (upd_ne (by omega))
  obtain ⟨⟨k9, k91, k92⟩, ⟨T, T1, T2, T3⟩, fre, nod⟩ := id inv
  refine ⟨⟨⟨k9, k91, by rw [upd_ne (by omega)]; exact k92⟩, ⟨T, T1, T2, by rw [upd_ne (by omega)]; exact T3⟩, fun q a b => ?_, fun q hq => ?_⟩, em⟩
  · rw [em] at a
    rw [upd_ne (by omega), upd_ne (by omega), upd_ne (by omega), upd_ne (by omega)]
    exact fre q a b
  · rw [em] at hq
    obtain ⟨a1, a2, a3, a4⟩ := nod q hq
    have row : ∀ w, w < 5 ∨ 9 ≤ w → w < 16 → upd z (16 + 16 * j + (5 + k)) x (16 + 16 * q + w) = z (16 + 16 * q + w) := fun w h1 h2 => upd_ne (by omega)
    have r0 : upd z (16 + 16 * j + (5 + k)) x (16 + 16 * q) = z (16 + 16 * q) := upd_ne (by omega)
    refine ⟨⟨by rw [r0]; exact a1.1, ?_⟩, ?_, ?_, fun w => ?_⟩
    · rw [row 1 (by omega) (by omega)]
      rcases a1.2 with w | ⟨i, i1, i2, i3⟩
      · exact Or.inl w
      · exact Or.inr ⟨i, i1, i2, by rw [upd_ne (by omega)]; exact i3⟩
    · unfold DelI
      rw [row 12 (by omega) (by omega), row 13 (by omega) (by omega), row 14 (by omega) (by omega), r0, em]
      exact a2
    · rw [r0, row 11 (by omega) (by omega)]
      exact a3
    · rw [r0] at w
      have tra := a4 w
      have ht0 : ∃ T T', T ≤ T' ∧ T' ≤ 100000 ∧ z 0 = nI T ∧ upd z (16 + 16 * j + (5 + k)) x 0 = nI T' := ⟨T, T, Nat.le_refl _, T2, T3, by rw [upd_ne (by omega)]; exact T3⟩
      have eqm : eqM z (upd z (16 + 16 * j + (5 + k)) x) q := ⟨fun w hw => upd_ne (by unfold mA; omega), fun w hw => upd_ne (by unfold cA; omega)⟩
      by_cases c : q = j
      · subst c
        obtain ⟨⟨o1, o2⟩, t2, t3, t4⟩ := tra
        have eo : own (upd z (16 + 16 * q + (5 + k)) x) q = own z q := own_eq (row 11 (by omega) (by omega))
        refine ⟨⟨by rw [eo, row 11 (by omega) (by omega)]; exact o1, by rw [eo]; exact o2⟩, ?_, fun i hi => ?_, fun i i' hi hi' => ?_⟩
        · obtain ⟨b1, b2, b3, b4, b5, b6, b7, b8, b9⟩ := t2
          refine ⟨by rw [row 2 (by omega) (by omega)]; exact b1, by rw [row 3 (by omega) (by omega)]; exact b2, by rw [row 4 (by omega) (by omega)]; exact b3, ?_, ?_, ?_, ?_, by rw [row 9 (by omega) (by omega)]; exact b8, by rw [row 10 (by omega) (by omega)]; exact b9⟩
          · by_cases w : k = 0
            · subst w; rw [show 16 + 16 * q + (5 + 0) = 16 + 16 * q + 5 from rfl, upd_s]; exact hx.1 rfl
            · rw [upd_ne (by omega)]; exact b4
          · by_cases w : k = 1
            · subst w; rw [show 16 + 16 * q + (5 + 1) = 16 + 16 * q + 6 from rfl, upd_s]; exact hx.2.1 rfl
            · rw [upd_ne (by omega)]; exact b5
          · by_cases w : k = 2
            · subst w; rw [show 16 + 16 * q + (5 + 2) = 16 + 16 * q + 7 from rfl, upd_s]; exact hx.2.2 (by omega)
            · rw [upd_ne (by omega)]; exact b6
          · by_cases w : k = 3
            · subst w; rw [show 16 + 16 * q + (5 + 3) = 16 + 16 * q + 8 from rfl, upd_s]; exact hx.2.2 (by omega)
            · rw [upd_ne (by omega)]; exact b7
        · rw [eo] at hi
          exact (t3 i hi).congr (upd_ne (by omega)) ht0 (row 2 (by omega) (by omega)) (fun w hw => eqm.mr (by omega) hw) (fun e he => eqm.cr (by omega) he) (fun n hn => upd_ne (by omega))
        · rw [eo] at hi'
          rw [eqm.mr (w := 0) (by omega) (by omega), eqm.mr (w := 1) (by omega) (by omega), eqm.mr (w := 3) (by omega) (by omega), eqm.mr (w := 4) (by omega) (by omega), eqm.mr (j := i') (w := 0) (by omega) (by omega), eqm.mr (j := i') (w := 1) (by omega) (by omega), eqm.mr (j := i') (w := 3) (by omega) (by omega), eqm.mr (j := i') (w := 4) (by omega) (by omega)]
          exact t4 i i' hi hi'
      · exact tra.congr (upd_ne (by omega)) ht0 (fun w hw => upd_ne (by omega)) eqm (fun n hn => upd_ne (by omega))
theorem n_in1 {x : Int32} {a b : Nat} (hb : b < 1000000) (h1 : nI a ≤ x) (h2 : x ≤ nI b) (ha : a ≤ b) : in1 x a b := by
  have h0 : nI 0 ≤ x := by
    simp only [Int32.le_iff_toInt_le] at h1 ⊢
    rw [nI_toInt (by omega)] at h1
    have e0 : (nI 0).toInt = 0 := rfl
    omega
  obtain ⟨j, j1, rfl⟩ := wi_nat (by omega) ⟨h0, h2⟩
  rw [nI_leP (by omega) (by omega)] at h1
  exact ⟨j, h1, by omega, rfl⟩
/-- the class's settings are the reference's -/
theorem set_iff (w x : Int32) : ((w = nI 0 ∧ nI 1 ≤ x ∧ x ≤ nI 9) ∨ (w = nI 1 ∧ nI 1 ≤ x ∧ x ≤ nI 1000) ∨ ((w = nI 2 ∨ w = nI 3) ∧ nI 0 ≤ x ∧ x ≤ nI 1)) ↔ setOK w x := by
  unfold setOK
  constructor
  · rintro (⟨rfl, h⟩ | ⟨rfl, h⟩ | ⟨rfl | rfl, h⟩)
    · exact ⟨by decide, fun _ => h, fun q => absurd rfl q, fun q => absurd rfl q⟩
    · exact ⟨by decide, fun q => absurd q (by decide), fun _ _ => h, fun _ q => absurd rfl q⟩
    · exact ⟨by decide, fun q => absurd q (by decide), fun _ q => absurd q (by decide), fun _ _ => h⟩
    · exact ⟨by decide, fun q => absurd q (by decide), fun _ q => absurd q (by decide), fun _ _ => h⟩
  · rintro ⟨h1, h2, h3, h4⟩
    obtain ⟨j, j1, rfl⟩ := wi_nat (by omega) h1
    have cs : j = 0 ∨ j = 1 ∨ j = 2 ∨ j = 3 := by omega
    rcases cs with rfl | rfl | rfl | rfl
    · exact Or.inl ⟨rfl, h2 rfl⟩
    · exact Or.inr (Or.inl ⟨rfl, h3 (by decide) rfl⟩)
    · exact Or.inr (Or.inr ⟨Or.inl rfl, h4 (by decide) (by decide)⟩)
    · exact Or.inr (Or.inr ⟨Or.inr rfl, h4 (by decide) (by decide)⟩)
section
variable {l : Launch} {G : Gc}
theorem c_Hp_setNumber (A : Nat → Nat) (a w x : Int32) (z zs t : Nat → Int32) (n : Nat) (h : AH) (Q : Po) (k : HpR h A z zs t n) (iv : Inv z) (is : hI h (A 0) 6 = nI 1 → Inv zs)
    (q1 : ¬ TrZ z a → Q (.inr IOE) (nx h)) (q2 : TrZ z a → ¬ setOK w x → Q (.inr IAE) (nx h))
    (q3 : ∀ j m, j < mny z → a = nI j → z (16 + 16 * j) = nI 1 → m ≤ 3 → w = nI m → setOK w x → ∀ h', HpR h' A (ddZ (upd z (16 + 16 * j + (5 + m)) x)).1 zs t n → Inv (ddZ (upd z (16 + 16 * j + (5 + m)) x)).1 → hI h' (A 0) 6 = hI h (A 0) 6 → FrX 0 h h' → Q (.inl (some (.int (z (16 + 16 * j + (5 + m)))))) h') : Call l G M_Hp_setNumber [.ref (A 0), .int a, .int w, .int x] h Q := by
  have x6 := k.1.1.1
  have x0 := k.1.2.1.1
  have w1 := k.2.1.1.1.1
  have hw := k.1.2.2.2.2.2.2.2
  have m10 := iv.1.1.at.2
  have hPt : P_Nw_translatorAt [.ref (A 1), .int a] h := k.2.1.1.NdK a
  refine call_of rfl rfl (Nat.le_of_ble_eq_true rfl) ?_
  by_cases ct : TrZ z a
  · obtain ⟨j, j1, rfl, j3⟩ := id ct
    obtain ⟨dd, tt, e1, -, -, d1, d2, d3, sh, tl⟩ := k.2.1.tr m10 j1 j3
    have t5 := sh.1.1
    have tra := (iv.1.2.2.2 j j1).2.2.2 j3
    (obtain ⟨W9, hW9, hgo9⟩ := wp_ex (T_Hp_setNumber l G) [] _; refine hgo9 200 _ _ _ _ ?_; simp -implicitDefEqProofs (disch := omega) only [hW9, inl, gate, Xq, tz_const, tz_iload, tz_lload, tz_dload, tz_aload, tz_istore, tz_astore, tz_lstore, tz_dstore, tz_iinc, tz_i1, tz_i2, tz_i2z, tz_l2, tz_l2z, tz_i2l, tz_l2i, tz_lcmp, tz_i2d, tz_d2, tz_dcmp, tz_dup, tz_dup2, tz_pop, tz_if, tz_icmp, tz_null, tz_goto, tz_sw, tz_getf, tz_puti, tz_putz, tz_putr, tz_putl, tz_iaload, tz_baload, tz_laload, tz_aaload, tz_iastore, tz_bastore, tz_lastore, tz_aastore, tz_alen, tz_new, tz_newa, tz_oinit, tz_iret, tz_zret, tz_lret, tz_dret, tz_aret, tz_vret, tz_throw, tz_callS, tz_callV, tz_callI, tz_callR, tz_pureS, tz_pureV, tz_callVH, lg, lset, lkill, lst1, lst2, entL, isRf, is1, vl, va_rf_none, va_rf_some, isRf_rf, is1_rf, i0, i1, bI_eq0, bI_eq1, nm_em, nI_eqP, nI_leP, nI_ltP, nN_e1, nN_e2, nN_l1, nN_l2, nN_l3, nN_l4, nI_add, pk_mul, vp_inN, nI_cl, n01, n10, P_i, P_ii, P_iii, f_Mo_at, f_Mo_map, f_Mo_contact, f_Mo_within, f_Mo_isPort, f_Hp_endpoint, f_Hp_nodeOf, f_Hp_portOf, f_Ma_max, f_Ma_min, f_Hp_isSetting, popN, rok, a1, noX, swc, mL, if_true, if_false, ↓reduceIte, cond_true, cond_false, true_and, and_true, List.length_cons, List.length_nil, List.nil_append, List.cons_append, List.append_nil, Option.toList, Nat.reduceEqDiff, Bool.false_eq_true, reduceCtorEq, Nat.reduceAdd, Nat.reduceLT, Nat.reduceLeDiff, Nat.reduceSub, List.replicate, Nat.zero_add, Nat.lt_add_one, Nat.le_refl, Nat.zero_le, Nat.succ_ne_zero, not_false_eq_true, not_true_eq_false, false_implies, true_implies, forall_const, imp_self, true_or, or_true, eq_self, sI_zw, zw_zw, hI_zw, tg_zw, ln_zw, hR_zw, hL_zw, hN_zw, hM_zw, upd_s, upd_u, upd_ne, Classical.not_not, k_Hp_setNumber, x6, x0, w1, hPt, f_Nw_translatorAt, e1, t5, f_Hp_isSetting]; try clear hgo9 hW9)
    have iff := set_iff w x
    refine ⟨fun c => ?_, fun c => ?_⟩
    · have ok := iff.mp c
      obtain ⟨m, m1, rfl⟩ := wi_nat (by omega) ok.1
      have hPs : P_Tl_setting [.ref tt, .int (nI m)] h := trivial
      have b7 := bool_in tra.2.1.2.2.2.2.2.1
      have b8 := bool_in tra.2.1.2.2.2.2.2.2.1
      have es : f_Tl_setting [.ref tt, .int (nI m)] h = .int (z (16 + 16 * j + (5 + m))) := by
        simp only [f_Tl_setting, seF]
        congr 1
        have cs : m = 0 ∨ m = 1 ∨ m = 2 ∨ m = 3 := by omega
        rcases cs with rfl | rfl | rfl | rfl
        · rw [if_pos rfl]; exact tl.1.1.2.2.2.1
        · rw [if_neg (by decide), if_pos rfl]; exact tl.1.1.2.2.2.2.1
        · rw [if_neg (by decide), if_neg (by decide), if_pos rfl, tl.1.1.2.2.2.2.2.1]
          rcases b7 with q | q
          · rw [q, if_pos rfl]
          · rw [q, if_neg (by decide)]
        · rw [if_neg (by decide), if_neg (by decide), if_neg (by decide), if_pos rfl, tl.1.1.2.2.2.2.2.2.1]
          rcases b8 with q | q
          · rw [q, if_pos rfl]
          · rw [q, if_neg (by decide)]
      have hx : (m = 0 → in1 x 1 9) ∧ (m = 1 → in1 x 1 1000) ∧ (2 ≤ m → in1 x 0 1) := by
        refine ⟨fun q => ?_, fun q => ?_, fun q => ?_⟩
        · subst q; exact n_in1 (by omega) (ok.2.1 rfl).1 (ok.2.1 rfl).2 (by omega)
        · subst q; exact n_in1 (by omega) (ok.2.2.1 (by decide) rfl).1 (ok.2.2.1 (by decide) rfl).2 (by omega)
        · have n0 : ¬ nI m = nI 0 := by rw [nI_eqP (by omega) (by omega)]; omega
          have n1 : ¬ nI m = nI 1 := by rw [nI_eqP (by omega) (by omega)]; omega
          exact n_in1 (by omega) (ok.2.2.2 n0 n1).1 (ok.2.2.2 n0 n1).2 (by omega)
      have I1 := inv_set iv.1 j1 j3 (show m ≤ 3 by omega) hx
      (obtain ⟨W9, hW9, hgo9⟩ := wp_ex (T_Hp_setNumber l G) [] _; refine hgo9 200 _ _ _ _ ?_; simp -implicitDefEqProofs (disch := omega) only [hW9, inl, gate, Xq, tz_const, tz_iload, tz_lload, tz_dload, tz_aload, tz_istore, tz_astore, tz_lstore, tz_dstore, tz_iinc, tz_i1, tz_i2, tz_i2z, tz_l2, tz_l2z, tz_i2l, tz_l2i, tz_lcmp, tz_i2d, tz_d2, tz_dcmp, tz_dup, tz_dup2, tz_pop, tz_if, tz_icmp, tz_null, tz_goto, tz_sw, tz_getf, tz_puti, tz_putz, tz_putr, tz_putl, tz_iaload, tz_baload, tz_laload, tz_aaload, tz_iastore, tz_bastore, tz_lastore, tz_aastore, tz_alen, tz_new, tz_newa, tz_oinit, tz_iret, tz_zret, tz_lret, tz_dret, tz_aret, tz_vret, tz_throw, tz_callS, tz_callV, tz_callI, tz_callR, tz_pureS, tz_pureV, tz_callVH, lg, lset, lkill, lst1, lst2, entL, isRf, is1, vl, va_rf_none, va_rf_some, isRf_rf, is1_rf, i0, i1, bI_eq0, bI_eq1, nm_em, nI_eqP, nI_leP, nI_ltP, nN_e1, nN_e2, nN_l1, nN_l2, nN_l3, nN_l4, nI_add, pk_mul, vp_inN, nI_cl, n01, n10, P_i, P_ii, P_iii, f_Mo_at, f_Mo_map, f_Mo_contact, f_Mo_within, f_Mo_isPort, f_Hp_endpoint, f_Hp_nodeOf, f_Hp_portOf, f_Ma_max, f_Ma_min, f_Hp_isSetting, popN, rok, a1, noX, swc, mL, if_true, if_false, ↓reduceIte, cond_true, cond_false, true_and, and_true, List.length_cons, List.length_nil, List.nil_append, List.cons_append, List.append_nil, Option.toList, Nat.reduceEqDiff, Bool.false_eq_true, reduceCtorEq, Nat.reduceAdd, Nat.reduceLT, Nat.reduceLeDiff, Nat.reduceSub, List.replicate, Nat.zero_add, Nat.lt_add_one, Nat.le_refl, Nat.zero_le, Nat.succ_ne_zero, not_false_eq_true, not_true_eq_false, false_implies, true_implies, forall_const, imp_self, true_or, or_true, eq_self, sI_zw, zw_zw, hI_zw, tg_zw, ln_zw, hR_zw, hL_zw, hN_zw, hM_zw, upd_s, upd_u, upd_ne, Classical.not_not, k_Hp_setNumber, x6, t5, hPs, es]; try clear hgo9 hW9)
      refine c_Tl_change tt m x h _ t5 (by omega) (fun q => bool_in (hx.2.2 q)) ?_
      simp only [aft]
      have w1' : tg (zw h tt (upd (hI h tt) (3 + m) x)) (A 1) = 1 := w1
      have nt : A 1 ≠ tt := ne_tg (by rw [w1, t5]; decide)
      have w3 : hI (zw h tt (upd (hI h tt) (3 + m) x)) (A 1) 3 = z 0 := by rw [hI_zw_ne _ nt]; exact k.2.1.2.1.2.1
      have fz : Fr (A 1) 0 h (zw h tt (upd (hI h tt) (3 + m) x)) := Fr.zw hw (rt_gh sh.2.1)
      have lz : Lt (A 1) j h (zw h tt (upd (hI h tt) (3 + m) x)) := fun q _ hq => ⟨rfl, hI_zw_ne _ (fun e => hq (by rw [e]; exact ⟨4, [], sh.2.1, by omega⟩)), rfl, rfl⟩
      have eo : own (upd z (16 + 16 * j + (5 + m)) x) j = own z j := own_eq (upd_ne (by omega))
      have kn := (inv_kn iv.1 j1 j3).2
      have tl1 : TlG (zw h tt (upd (hI h tt) (3 + m) x)) tt (upd z (16 + 16 * j + (5 + m)) x) j (own z j) (own z j) := by
        refine tl.zt sh rfl rfl (fun b hb => ⟨hI_zw_ne _ hb, rfl⟩) ⟨⟨?_, ?_, ?_, ?_, ?_, ?_, ?_, ?_⟩, ?_, ?_⟩ ⟨fun e he => upd_ne (by unfold mA; omega), fun e he => upd_ne (by unfold cA; omega)⟩ tra.1.2 kn
        · rw [hI_zw, upd_ne (by omega), upd_ne (by omega)]; exact tl.1.1.1
        · rw [hI_zw, upd_ne (by omega), upd_ne (by omega)]; exact tl.1.1.2.1
        · rw [hI_zw, upd_ne (by omega), upd_ne (by omega)]; exact tl.1.1.2.2.1
        · rw [hI_zw]
          by_cases q : m = 0
          · subst q; rw [upd_eq (by omega), upd_eq (by omega)]
          · rw [upd_ne (by omega), upd_ne (by omega)]; exact tl.1.1.2.2.2.1
        · rw [hI_zw]
          by_cases q : m = 1
          · subst q; rw [upd_eq (by omega), upd_eq (by omega)]
          · rw [upd_ne (by omega), upd_ne (by omega)]; exact tl.1.1.2.2.2.2.1
        · rw [hI_zw]
          by_cases q : m = 2
          · subst q; rw [upd_eq (by omega), upd_eq (by omega)]
          · rw [upd_ne (by omega), upd_ne (by omega)]; exact tl.1.1.2.2.2.2.2.1
        · rw [hI_zw]
          by_cases q : m = 3
          · subst q; rw [upd_eq (by omega), upd_eq (by omega)]
          · rw [upd_ne (by omega), upd_ne (by omega)]; exact tl.1.1.2.2.2.2.2.2.1
        · rw [hI_zw, upd_ne (by omega), upd_ne (by omega)]; exact tl.1.1.2.2.2.2.2.2.2
        · rw [upd_ne (by omega)]; exact tl.1.2.1
        · rw [hI_zw, upd_ne (by omega)]; exact tl.1.2.2
      have hw1 := fz.2.2.2.2
      have t51 : tg (zw h tt (upd (hI h tt) (3 + m) x)) tt = 5 := t5
      have x61 : tg (zw h tt (upd (hI h tt) (3 + m) x)) (A 0) = 6 := x6
      have x01 : hR (zw h tt (upd (hI h tt) (3 + m) x)) (A 0) 0 = some (A 1) := x0
      (obtain ⟨W9, hW9, hgo9⟩ := wp_ex (T_Hp_setNumber l G) [] _; refine hgo9 200 _ _ _ _ ?_; simp -implicitDefEqProofs (disch := omega) only [hW9, inl, gate, Xq, tz_const, tz_iload, tz_lload, tz_dload, tz_aload, tz_istore, tz_astore, tz_lstore, tz_dstore, tz_iinc, tz_i1, tz_i2, tz_i2z, tz_l2, tz_l2z, tz_i2l, tz_l2i, tz_lcmp, tz_i2d, tz_d2, tz_dcmp, tz_dup, tz_dup2, tz_pop, tz_if, tz_icmp, tz_null, tz_goto, tz_sw, tz_getf, tz_puti, tz_putz, tz_putr, tz_putl, tz_iaload, tz_baload, tz_laload, tz_aaload, tz_iastore, tz_bastore, tz_lastore, tz_aastore, tz_alen, tz_new, tz_newa, tz_oinit, tz_iret, tz_zret, tz_lret, tz_dret, tz_aret, tz_vret, tz_throw, tz_callS, tz_callV, tz_callI, tz_callR, tz_pureS, tz_pureV, tz_callVH, lg, lset, lkill, lst1, lst2, entL, isRf, is1, vl, va_rf_none, va_rf_some, isRf_rf, is1_rf, i0, i1, bI_eq0, bI_eq1, nm_em, nI_eqP, nI_leP, nI_ltP, nN_e1, nN_e2, nN_l1, nN_l2, nN_l3, nN_l4, nI_add, pk_mul, vp_inN, nI_cl, n01, n10, P_i, P_ii, P_iii, f_Mo_at, f_Mo_map, f_Mo_contact, f_Mo_within, f_Mo_isPort, f_Hp_endpoint, f_Hp_nodeOf, f_Hp_portOf, f_Ma_max, f_Ma_min, f_Hp_isSetting, popN, rok, a1, noX, swc, mL, if_true, if_false, ↓reduceIte, cond_true, cond_false, true_and, and_true, List.length_cons, List.length_nil, List.nil_append, List.cons_append, List.append_nil, Option.toList, Nat.reduceEqDiff, Bool.false_eq_true, reduceCtorEq, Nat.reduceAdd, Nat.reduceLT, Nat.reduceLeDiff, Nat.reduceSub, List.replicate, Nat.zero_add, Nat.lt_add_one, Nat.le_refl, Nat.zero_le, Nat.succ_ne_zero, not_false_eq_true, not_true_eq_false, false_implies, true_implies, forall_const, imp_self, true_or, or_true, eq_self, sI_zw, zw_zw, hI_zw, tg_zw, ln_zw, hR_zw, hL_zw, hN_zw, hM_zw, upd_s, upd_u, upd_ne, Classical.not_not, k_Hp_setNumber, x61, x01, w1', w3, t51]; try clear hgo9 hW9)
      refine c_Tl_dropDead (A 1) tt j 0 _ (upd z (16 + 16 * j + (5 + m)) x) _ _ hw1 (sh.congr rfl rfl) (by rw [eo]; exact tl1) (I1.1.own j (by omega)) (by omega) (fun i hi => (inv_kn I1.1 (by rw [I1.2]; exact j1) (by rw [upd_ne (by omega)]; exact j3)).2 i hi) (by rw [upd_ne (by omega)]) (fun h2 nn en tl2 sh2 f2 lt2 => ?_)
      simp only [aft]
      have fr := fz.tr f2
      obtain ⟨a', e0, -, -, -⟩ := k.1.own fr (k.1.2.2.2.2.2.2.1 1 (by omega) (by omega) (by omega))
      have x62 := a'.1.1
      (obtain ⟨W9, hW9, hgo9⟩ := wp_ex (T_Hp_setNumber l G) [] _; refine hgo9 200 _ _ _ _ ?_; simp -implicitDefEqProofs (disch := omega) only [hW9, inl, gate, Xq, tz_const, tz_iload, tz_lload, tz_dload, tz_aload, tz_istore, tz_astore, tz_lstore, tz_dstore, tz_iinc, tz_i1, tz_i2, tz_i2z, tz_l2, tz_l2z, tz_i2l, tz_l2i, tz_lcmp, tz_i2d, tz_d2, tz_dcmp, tz_dup, tz_dup2, tz_pop, tz_if, tz_icmp, tz_null, tz_goto, tz_sw, tz_getf, tz_puti, tz_putz, tz_putr, tz_putl, tz_iaload, tz_baload, tz_laload, tz_aaload, tz_iastore, tz_bastore, tz_lastore, tz_aastore, tz_alen, tz_new, tz_newa, tz_oinit, tz_iret, tz_zret, tz_lret, tz_dret, tz_aret, tz_vret, tz_throw, tz_callS, tz_callV, tz_callI, tz_callR, tz_pureS, tz_pureV, tz_callVH, lg, lset, lkill, lst1, lst2, entL, isRf, is1, vl, va_rf_none, va_rf_some, isRf_rf, is1_rf, i0, i1, bI_eq0, bI_eq1, nm_em, nI_eqP, nI_leP, nI_ltP, nN_e1, nN_e2, nN_l1, nN_l2, nN_l3, nN_l4, nI_add, pk_mul, vp_inN, nI_cl, n01, n10, P_i, P_ii, P_iii, f_Mo_at, f_Mo_map, f_Mo_contact, f_Mo_within, f_Mo_isPort, f_Hp_endpoint, f_Hp_nodeOf, f_Hp_portOf, f_Ma_max, f_Ma_min, f_Hp_isSetting, popN, rok, a1, noX, swc, mL, if_true, if_false, ↓reduceIte, cond_true, cond_false, true_and, and_true, List.length_cons, List.length_nil, List.nil_append, List.cons_append, List.append_nil, Option.toList, Nat.reduceEqDiff, Bool.false_eq_true, reduceCtorEq, Nat.reduceAdd, Nat.reduceLT, Nat.reduceLeDiff, Nat.reduceSub, List.replicate, Nat.zero_add, Nat.lt_add_one, Nat.le_refl, Nat.zero_le, Nat.succ_ne_zero, not_false_eq_true, not_true_eq_false, false_implies, true_implies, forall_const, imp_self, true_or, or_true, eq_self, sI_zw, zw_zw, hI_zw, tg_zw, ln_zw, hR_zw, hL_zw, hN_zw, hM_zw, upd_s, upd_u, upd_ne, Classical.not_not, k_Hp_setNumber, x62]; try clear hgo9 hW9)
      obtain ⟨⟨i1, i2⟩, i3, -⟩ := dd_one (t := j) I1.1 (by rw [I1.2]; exact j1) 0
      have eD : ddZ (upd z (16 + 16 * j + (5 + m)) x) = ddT j (own (upd z (16 + 16 * j + (5 + m)) x) j) (upd z (16 + 16 * j + (5 + m)) x) 0 := by
        unfold ddZ
        refine ddA_one I1.1 (by rw [I1.2]; exact j1) _ 0 (by omega) (by omega) (fun s _ h2 h3 q hq => ?_)
        rw [I1.2] at h2
        rw [own_eq (z := z) (upd_ne (by omega))] at hq
        have o8 := (iv.1.own s (by omega)).2
        have := iv.2 s q h2 hq
        unfold livZ at this ⊢
        rw [upd_ne (by omega), upd_ne (by omega), upd_ne (by omega)]
        exact this
      have k1 : NwR (zw h tt (upd (hI h tt) (3 + m) x)) (A 1) (upd z (16 + 16 * j + (5 + m)) x) := by
        obtain ⟨s1, ⟨sw, sA, sL, sdd⟩, oth⟩ := k.2.1.1.setT hw (by omega) d1 d2 lz (sh.congr rfl rfl)
        obtain ⟨k1', ⟨g2, g3, g4, g5⟩, g6, g7⟩ := k.2.1
        unfold NwR
        rw [I1.2]
        refine ⟨s1, ⟨by rw [sw.2.1]; exact g2, by rw [sw.2.1, upd_ne (by omega)]; exact g3, by rw [sw.2.1, upd_ne (by omega)]; exact g4, by rw [sw.2.1, upd_ne (by omega)]; exact g5⟩, fun q q1 q2 => ?_, fun i' hi' => ?_⟩
        · show hI _ (lA h (A 1)) q = _
          rw [sL.2.1, upd_ne (by omega)]; exact g6 q q1 q2
        · by_cases c9 : i' = j
          · subst c9
            obtain ⟨d', e1', e2', e3'⟩ := g7 i' hi'
            rw [d1] at e1'
            cases e1'
            refine ⟨dd, d1, e2'.keep' sdd (upd_ne (by omega)) (upd_ne (by omega)) (upd_ne (by omega)) (upd_ne (by omega)) (upd_ne (by omega)), fun _ => ⟨tt, d2, ?_⟩⟩
            rw [eo]
            exact tl1
          · rw [own_eq (z := z) (z' := upd z (16 + 16 * j + (5 + m)) x) (t := i') (upd_ne (by omega))]
            exact (g7 i' hi').keep hw k1' (by omega) (iv.1.own i' (by omega)).2 (fun q => (inv_kn iv.1 hi' q).2) ⟨sw, sA⟩ (oth i' c9) (fun w hw => upd_ne (by omega)) (fun _ => ⟨fun w hw => upd_ne (by unfold mA; omega), fun w hw => upd_ne (by unfold cA; omega)⟩)
      have k2 : NwR h2 (A 1) (ddZ (upd z (16 + 16 * j + (5 + m)) x)).1 := by
        rw [eD]
        exact NwR.setT hw1 I1.1 k1 (by rw [I1.2]; exact j1) d1 d2 lt2 sh2 tl2 (by rw [upd_ne (by omega)]; exact j3) i3
      exact q3 j m j1 rfl j3 (by omega) rfl ok h2 (k.net is fr k2) (ddZ_inv I1.1).1 (by rw [e0]) fr.X
    · (obtain ⟨W9, hW9, hgo9⟩ := wp_ex (T_Hp_setNumber l G) [] _; refine hgo9 200 _ _ _ _ ?_; simp -implicitDefEqProofs (disch := omega) only [hW9, inl, gate, Xq, tz_const, tz_iload, tz_lload, tz_dload, tz_aload, tz_istore, tz_astore, tz_lstore, tz_dstore, tz_iinc, tz_i1, tz_i2, tz_i2z, tz_l2, tz_l2z, tz_i2l, tz_l2i, tz_lcmp, tz_i2d, tz_d2, tz_dcmp, tz_dup, tz_dup2, tz_pop, tz_if, tz_icmp, tz_null, tz_goto, tz_sw, tz_getf, tz_puti, tz_putz, tz_putr, tz_putl, tz_iaload, tz_baload, tz_laload, tz_aaload, tz_iastore, tz_bastore, tz_lastore, tz_aastore, tz_alen, tz_new, tz_newa, tz_oinit, tz_iret, tz_zret, tz_lret, tz_dret, tz_aret, tz_vret, tz_throw, tz_callS, tz_callV, tz_callI, tz_callR, tz_pureS, tz_pureV, tz_callVH, lg, lset, lkill, lst1, lst2, entL, isRf, is1, vl, va_rf_none, va_rf_some, isRf_rf, is1_rf, i0, i1, bI_eq0, bI_eq1, nm_em, nI_eqP, nI_leP, nI_ltP, nN_e1, nN_e2, nN_l1, nN_l2, nN_l3, nN_l4, nI_add, pk_mul, vp_inN, nI_cl, n01, n10, P_i, P_ii, P_iii, f_Mo_at, f_Mo_map, f_Mo_contact, f_Mo_within, f_Mo_isPort, f_Hp_endpoint, f_Hp_nodeOf, f_Hp_portOf, f_Ma_max, f_Ma_min, f_Hp_isSetting, popN, rok, a1, noX, swc, mL, if_true, if_false, ↓reduceIte, cond_true, cond_false, true_and, and_true, List.length_cons, List.length_nil, List.nil_append, List.cons_append, List.append_nil, Option.toList, Nat.reduceEqDiff, Bool.false_eq_true, reduceCtorEq, Nat.reduceAdd, Nat.reduceLT, Nat.reduceLeDiff, Nat.reduceSub, List.replicate, Nat.zero_add, Nat.lt_add_one, Nat.le_refl, Nat.zero_le, Nat.succ_ne_zero, not_false_eq_true, not_true_eq_false, false_implies, true_implies, forall_const, imp_self, true_or, or_true, eq_self, sI_zw, zw_zw, hI_zw, tg_zw, ln_zw, hR_zw, hL_zw, hN_zw, hM_zw, upd_s, upd_u, upd_ne, Classical.not_not, k_Hp_setNumber, x6]; try clear hgo9 hW9)
      exact q2 ct (fun q => c (iff.mpr q))
  · have e := (trF_iff k.2.1 iv.1 a).2 ct
    (obtain ⟨W9, hW9, hgo9⟩ := wp_ex (T_Hp_setNumber l G) [] _; refine hgo9 200 _ _ _ _ ?_; simp -implicitDefEqProofs (disch := omega) only [hW9, inl, gate, Xq, tz_const, tz_iload, tz_lload, tz_dload, tz_aload, tz_istore, tz_astore, tz_lstore, tz_dstore, tz_iinc, tz_i1, tz_i2, tz_i2z, tz_l2, tz_l2z, tz_i2l, tz_l2i, tz_lcmp, tz_i2d, tz_d2, tz_dcmp, tz_dup, tz_dup2, tz_pop, tz_if, tz_icmp, tz_null, tz_goto, tz_sw, tz_getf, tz_puti, tz_putz, tz_putr, tz_putl, tz_iaload, tz_baload, tz_laload, tz_aaload, tz_iastore, tz_bastore, tz_lastore, tz_aastore, tz_alen, tz_new, tz_newa, tz_oinit, tz_iret, tz_zret, tz_lret, tz_dret, tz_aret, tz_vret, tz_throw, tz_callS, tz_callV, tz_callI, tz_callR, tz_pureS, tz_pureV, tz_callVH, lg, lset, lkill, lst1, lst2, entL, isRf, is1, vl, va_rf_none, va_rf_some, isRf_rf, is1_rf, i0, i1, bI_eq0, bI_eq1, nm_em, nI_eqP, nI_leP, nI_ltP, nN_e1, nN_e2, nN_l1, nN_l2, nN_l3, nN_l4, nI_add, pk_mul, vp_inN, nI_cl, n01, n10, P_i, P_ii, P_iii, f_Mo_at, f_Mo_map, f_Mo_contact, f_Mo_within, f_Mo_isPort, f_Hp_endpoint, f_Hp_nodeOf, f_Hp_portOf, f_Ma_max, f_Ma_min, f_Hp_isSetting, popN, rok, a1, noX, swc, mL, if_true, if_false, ↓reduceIte, cond_true, cond_false, true_and, and_true, List.length_cons, List.length_nil, List.nil_append, List.cons_append, List.append_nil, Option.toList, Nat.reduceEqDiff, Bool.false_eq_true, reduceCtorEq, Nat.reduceAdd, Nat.reduceLT, Nat.reduceLeDiff, Nat.reduceSub, List.replicate, Nat.zero_add, Nat.lt_add_one, Nat.le_refl, Nat.zero_le, Nat.succ_ne_zero, not_false_eq_true, not_true_eq_false, false_implies, true_implies, forall_const, imp_self, true_or, or_true, eq_self, sI_zw, zw_zw, hI_zw, tg_zw, ln_zw, hR_zw, hL_zw, hN_zw, hM_zw, upd_s, upd_u, upd_ne, Classical.not_not, k_Hp_setNumber, x6, x0, w1, hPt, f_Nw_translatorAt, e]; try clear hgo9 hW9)
    exact q1 ct
end
