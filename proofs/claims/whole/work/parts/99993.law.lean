/-! THE LAW: its loop, and what comes ahead of it -/
/-- a new reference, with what owns its cells -/
def MoNew2 (h h' : AH) (a : Nat) : Prop := MoNew h h' a ∧ (gh h' (hN h) = [] ∧ gh h' (hN h + 1) = [] ∧ gh h' (hN h + 2) = [] ∧ gh h' (hN h + 3) = [] ∧ gh h' (hN h + 4) = [] ∧ gh h' (hN h + 5) = [] ∧ gh h' (hN h + 6) = []) ∧ ∀ b, hN h + 7 ≤ b → tg h' b = tg h b
theorem ic_lt {L i : Nat} (hL : L ≤ 3584) (hi : i ≤ 3584) : (nI L - nI 7 < nI i) = (L < i + 7) := by
  by_cases c : 7 ≤ L
  · rw [pk_sub (by omega), nI_ltP (by omega) (by omega)]
    exact propext ⟨fun _ => by omega, fun _ => by omega⟩
  · refine propext ⟨fun _ => by omega, fun _ => ?_⟩
    have d : ∀ k, k < 7 → (nI k - nI 7).toInt < 0 := by decide
    rw [Int32.lt_iff_toInt_lt, nI_toInt (show i < 2147483648 by omega)]
    have := d L (by omega)
    omega
section
variable {l : Launch} {G : Gc}
theorem c_Mo_init2 (a : Nat) (h : AH) (Q : Po) (ha : a < hN h) (h1 : tg h a = 7) (hQ : ∀ h', MoNew2 h h' a → Q (.inl none) h') : Call l G M_Mo_init [.ref a] h Q := by
  refine call_of rfl rfl (Nat.le_of_ble_eq_true rfl) ?_
  (obtain ⟨W9, hW9, hgo9⟩ := wp_ex (T_Mo_init l G) [] _; refine hgo9 200 _ _ _ _ ?_; simp -implicitDefEqProofs (disch := first | omega | (simp only [hN_nw, hN_sR, hN_zw, hN_sL]; first | done | omega)) only [hW9, inl, gate, Xq, tz_const, tz_iload, tz_lload, tz_dload, tz_aload, tz_istore, tz_astore, tz_lstore, tz_dstore, tz_iinc, tz_i1, tz_i2, tz_i2z, tz_l2, tz_l2z, tz_i2l, tz_l2i, tz_lcmp, tz_i2d, tz_d2, tz_dcmp, tz_dup, tz_dup2, tz_pop, tz_if, tz_icmp, tz_null, tz_goto, tz_sw, tz_getf, tz_puti, tz_putz, tz_putr, tz_putl, tz_iaload, tz_baload, tz_laload, tz_aaload, tz_iastore, tz_bastore, tz_lastore, tz_aastore, tz_alen, tz_new, tz_newa, tz_oinit, tz_iret, tz_zret, tz_lret, tz_dret, tz_aret, tz_vret, tz_throw, tz_callS, tz_callV, tz_callI, tz_callR, tz_pureS, tz_pureV, tz_callVH, lg, lset, lkill, lst1, lst2, entL, isRf, is1, vl, va_rf_none, va_rf_some, isRf_rf, is1_rf, i0, i1, bI_eq0, bI_eq1, nm_em, nI_eqP, nI_leP, nI_ltP, nN_e1, nN_e2, nN_l1, nN_l2, nN_l3, nN_l4, nI_add, pk_mul, vp_inN, nI_cl, n01, n10, P_i, P_ii, P_iii, f_Mo_at, f_Mo_map, f_Mo_contact, f_Mo_within, f_Mo_isPort, f_Hp_endpoint, f_Hp_nodeOf, f_Hp_portOf, f_Ma_max, f_Ma_min, f_Hp_isSetting, popN, rok, a1, noX, swc, mL, if_true, if_false, ↓reduceIte, cond_true, cond_false, true_and, and_true, List.length_cons, List.length_nil, List.nil_append, List.cons_append, List.append_nil, Option.toList, Nat.reduceEqDiff, Bool.false_eq_true, reduceCtorEq, Nat.reduceAdd, Nat.reduceLT, Nat.reduceLeDiff, Nat.reduceSub, List.replicate, Nat.zero_add, Nat.lt_add_one, Nat.le_refl, Nat.zero_le, Nat.succ_ne_zero, not_false_eq_true, not_true_eq_false, false_implies, true_implies, forall_const, imp_self, true_or, or_true, eq_self, sI_zw, zw_zw, hI_zw, tg_zw, ln_zw, hR_zw, hL_zw, hN_zw, hM_zw, upd_s, upd_u, upd_ne, Classical.not_not, k_Mo_init, h1, tg_nwo, tg_sR, hN_nw, hN_sR]; try clear hgo9 hW9)
  refine ⟨[], [], [], [], [], [], [], hQ _ ?_⟩
  refine ⟨?_, ⟨?_, ?_, ?_, ?_, ?_, ?_, ?_⟩, fun b hb => ?_⟩
  · unfold MoNew
    refine ⟨?_, ?_, fun b hb hne => ⟨?_, ?_, ?_, ?_⟩, ?_, ?_, ⟨?_, ?_, ?_, ?_⟩, ⟨?_, ?_, ?_⟩, ⟨?_, ?_, ?_⟩, ⟨?_, ?_, ?_⟩, ⟨?_, ?_, ?_⟩, ⟨?_, ?_, ?_⟩, ⟨?_, ?_, ?_⟩⟩
    all_goals first
      | rfl
      | (simp (disch := first | omega | (simp only [hN_nw, hN_sR]; first | done | omega)) only [hN_nw, hN_sR, hM_nw, hM_sR, hT_sR, hT_nw, hI_sR, hI_nw, hR_sRo, hR_sRk, hR_sR, hR_nw, hL_sR, hL_nw, tg_sR, ln_sR, tg_nwo, ln_nwo, tg_nw', ln_nw', hI_nw', hR_nw']; done)
      | (simp (disch := first | omega | (simp only [hN_nw, hN_sR]; first | done | omega)) only [tg_sR, ln_sR, tg_nwo, ln_nwo]; first | exact tg_nw' (by simp only [hN_nw, hN_sR]) | exact ln_nw' (by simp only [hN_nw, hN_sR]))
  all_goals first
    | (simp (disch := first | omega | (simp only [hN_nw, hN_sR]; first | done | omega)) only [gh_sR, gh_nw, gh_nw', tg_sR, tg_nwo]; done)
    | (simp (disch := first | omega | (simp only [hN_nw, hN_sR]; first | done | omega)) only [gh_sR, gh_nw]; exact gh_nw' (by simp only [hN_nw, hN_sR]))
end
