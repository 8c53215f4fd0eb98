def k_Nw_commonNet (l : Launch) (G : Gc) (pc : Nat) : Tr :=
  if pc < 29 then
   if pc < 13 then
    if pc < 6 then
     if pc < 2 then
      if pc < 1 then
       if pc = 0 then tz_aload 1 0 else dead
      else
       if pc = 1 then tz_iload 2 1 else dead
     else
      if pc < 5 then
       if pc = 2 then tz_pureV 5 1 1 P_Nw_netOf f_Nw_netOf else dead
      else
       if pc = 5 then tz_istore 6 3 else dead
    else
     if pc < 8 then
      if pc < 7 then
       if pc = 6 then tz_aload 7 0 else dead
      else
       if pc = 7 then tz_iload 8 2 else dead
     else
      if pc < 11 then
       if pc = 8 then tz_pureV 11 1 1 P_Nw_netOf f_Nw_netOf else dead
      else
       if pc = 11 then tz_istore 13 4 else dead
   else
    if pc < 20 then
     if pc < 16 then
      if pc < 14 then
       if pc = 13 then tz_const 14 (.int (nI 0)) else dead
      else
       if pc = 14 then tz_istore 16 5 else dead
     else
      if pc < 18 then
       if pc = 16 then tz_iload 18 5 else dead
      else
       if pc = 18 then tz_const 20 (.int (nI 20)) else dead
    else
     if pc < 24 then
      if pc < 23 then
       if pc = 20 then tz_icmp 23 58 (fun a b => b ≤ a) else dead
      else
       if pc = 23 then tz_iload 24 3 else dead
     else
      if pc < 26 then
       if pc = 24 then tz_iload 26 4 else dead
      else
       if pc = 26 then tz_icmp 29 58 (fun a b => a = b) else dead
  else
   if pc < 44 then
    if pc < 36 then
     if pc < 32 then
      if pc < 30 then
       if pc = 29 then tz_iload 30 3 else dead
      else
       if pc = 30 then tz_iload 32 4 else dead
     else
      if pc < 35 then
       if pc = 32 then tz_icmp 35 44 (fun a b => a ≤ b) else dead
      else
       if pc = 35 then tz_aload 36 0 else dead
    else
     if pc < 40 then
      if pc < 37 then
       if pc = 36 then tz_iload 37 3 else dead
      else
       if pc = 37 then tz_pureV 40 1 1 P_Nw_netOf f_Nw_netOf else dead
     else
      if pc < 41 then
       if pc = 40 then tz_istore 41 3 else dead
      else
       if pc = 41 then tz_goto 52 else dead
   else
    if pc < 52 then
     if pc < 47 then
      if pc < 45 then
       if pc = 44 then tz_aload 45 0 else dead
      else
       if pc = 45 then tz_iload 47 4 else dead
     else
      if pc < 50 then
       if pc = 47 then tz_pureV 50 1 1 P_Nw_netOf f_Nw_netOf else dead
      else
       if pc = 50 then tz_istore 52 4 else dead
    else
     if pc < 58 then
      if pc < 55 then
       if pc = 52 then tz_iinc 55 5 (nI 1) else dead
      else
       if pc = 55 then tz_goto 16 else dead
     else
      if pc < 59 then
       if pc = 58 then tz_iload 59 3 else dead
      else
       if pc = 59 then tz_iret else dead
set_option maxRecDepth 100000 in
theorem T_Nw_commonNet (l : Launch) (G : Gc) : TabOK l G M_Nw_commonNet (k_Nw_commonNet l G) := by
  intro pc
  unfold k_Nw_commonNet
  exact
   (sd_br
    (sd_br
     (sd_br
      (sd_br
       (sd_br
        (sd_lf (sd_aload_n (k := 0) (by decide +kernel : decode prog_3_method_17_code 0 = .ok (.aload_n 0, 1))))
        (sd_lf (sd_iload_n (k := 1) (by decide +kernel : decode prog_3_method_17_code 1 = .ok (.iload_n 1, 1)))))
       (sd_br
        (sd_lf (sd_pureV (sd_callV (q := (RX1, TX1, 6)) (by decide +kernel : decode prog_3_method_17_code 2 = .ok (.invokevirtual 89, 3)) ok_Nw_netOf (gm 423 (by decide +kernel) rfl) (gm 373 (by decide +kernel) rfl) (gm 374 (by decide +kernel) rfl) rfl rfl (by decide +kernel) rfl rfl) c_Nw_netOf))
        (sd_lf (sd_istore_n (k := 3) (by decide +kernel : decode prog_3_method_17_code 5 = .ok (.istore_n 3, 1))))))
      (sd_br
       (sd_br
        (sd_lf (sd_aload_n (k := 0) (by decide +kernel : decode prog_3_method_17_code 6 = .ok (.aload_n 0, 1))))
        (sd_lf (sd_iload_n (k := 2) (by decide +kernel : decode prog_3_method_17_code 7 = .ok (.iload_n 2, 1)))))
       (sd_br
        (sd_lf (sd_pureV (sd_callV (q := (RX1, TX1, 6)) (by decide +kernel : decode prog_3_method_17_code 8 = .ok (.invokevirtual 89, 3)) ok_Nw_netOf (gm 423 (by decide +kernel) rfl) (gm 373 (by decide +kernel) rfl) (gm 374 (by decide +kernel) rfl) rfl rfl (by decide +kernel) rfl rfl) c_Nw_netOf))
        (sd_lf (sd_istore (by decide +kernel : decode prog_3_method_17_code 11 = .ok (.istore 4, 2)))))))
     (sd_br
      (sd_br
       (sd_br
        (sd_lf (sd_iconst (by decide +kernel : decode prog_3_method_17_code 13 = .ok (.iconst 0, 1)) (by decide +kernel)))
        (sd_lf (sd_istore (by decide +kernel : decode prog_3_method_17_code 14 = .ok (.istore 5, 2)))))
       (sd_br
        (sd_lf (sd_iload (by decide +kernel : decode prog_3_method_17_code 16 = .ok (.iload 5, 2))))
        (sd_lf (sd_bipush (by decide +kernel : decode prog_3_method_17_code 18 = .ok (.bipush 20, 2)) (by decide +kernel)))))
      (sd_br
       (sd_br
        (sd_lf (sd_icmp_ge (by decide +kernel : decode prog_3_method_17_code 20 = .ok (.if_icmp .ge 38, 3)) (by decide +kernel)))
        (sd_lf (sd_iload_n (k := 3) (by decide +kernel : decode prog_3_method_17_code 23 = .ok (.iload_n 3, 1)))))
       (sd_br
        (sd_lf (sd_iload (by decide +kernel : decode prog_3_method_17_code 24 = .ok (.iload 4, 2))))
        (sd_lf (sd_icmp_eq (by decide +kernel : decode prog_3_method_17_code 26 = .ok (.if_icmp .eq 32, 3)) (by decide +kernel)))))))
    (sd_br
     (sd_br
      (sd_br
       (sd_br
        (sd_lf (sd_iload_n (k := 3) (by decide +kernel : decode prog_3_method_17_code 29 = .ok (.iload_n 3, 1))))
        (sd_lf (sd_iload (by decide +kernel : decode prog_3_method_17_code 30 = .ok (.iload 4, 2)))))
       (sd_br
        (sd_lf (sd_icmp_le (by decide +kernel : decode prog_3_method_17_code 32 = .ok (.if_icmp .le 12, 3)) (by decide +kernel)))
        (sd_lf (sd_aload_n (k := 0) (by decide +kernel : decode prog_3_method_17_code 35 = .ok (.aload_n 0, 1))))))
      (sd_br
       (sd_br
        (sd_lf (sd_iload_n (k := 3) (by decide +kernel : decode prog_3_method_17_code 36 = .ok (.iload_n 3, 1))))
        (sd_lf (sd_pureV (sd_callV (q := (RX1, TX1, 6)) (by decide +kernel : decode prog_3_method_17_code 37 = .ok (.invokevirtual 89, 3)) ok_Nw_netOf (gm 423 (by decide +kernel) rfl) (gm 373 (by decide +kernel) rfl) (gm 374 (by decide +kernel) rfl) rfl rfl (by decide +kernel) rfl rfl) c_Nw_netOf)))
       (sd_br
        (sd_lf (sd_istore_n (k := 3) (by decide +kernel : decode prog_3_method_17_code 40 = .ok (.istore_n 3, 1))))
        (sd_lf (sd_goto (by decide +kernel : decode prog_3_method_17_code 41 = .ok (.goto 11, 3)) (by decide +kernel))))))
     (sd_br
      (sd_br
       (sd_br
        (sd_lf (sd_aload_n (k := 0) (by decide +kernel : decode prog_3_method_17_code 44 = .ok (.aload_n 0, 1))))
        (sd_lf (sd_iload (by decide +kernel : decode prog_3_method_17_code 45 = .ok (.iload 4, 2)))))
       (sd_br
        (sd_lf (sd_pureV (sd_callV (q := (RX1, TX1, 6)) (by decide +kernel : decode prog_3_method_17_code 47 = .ok (.invokevirtual 89, 3)) ok_Nw_netOf (gm 423 (by decide +kernel) rfl) (gm 373 (by decide +kernel) rfl) (gm 374 (by decide +kernel) rfl) rfl rfl (by decide +kernel) rfl rfl) c_Nw_netOf))
        (sd_lf (sd_istore (by decide +kernel : decode prog_3_method_17_code 50 = .ok (.istore 4, 2))))))
      (sd_br
       (sd_br
        (sd_lf (sd_iinc (by decide +kernel : decode prog_3_method_17_code 52 = .ok (.iinc 5 1, 3)) (by decide +kernel)))
        (sd_lf (sd_goto (by decide +kernel : decode prog_3_method_17_code 55 = .ok (.goto (-39), 3)) (by decide +kernel))))
       (sd_br
        (sd_lf (sd_iload_n (k := 3) (by decide +kernel : decode prog_3_method_17_code 58 = .ok (.iload_n 3, 1))))
        (sd_lf (sd_iret (by decide +kernel : decode prog_3_method_17_code 59 = .ok (.ireturn, 1)) rfl)))))))
def k_Hp_common (l : Launch) (G : Gc) (pc : Nat) : Tr :=
  if pc < 16 then
   if pc < 8 then
    if pc < 4 then
     if pc < 1 then
      if pc = 0 then tz_aload 1 0 else dead
     else
      if pc = 1 then tz_getf 4 6 0 1 else dead
    else
     if pc < 5 then
      if pc = 4 then tz_iload 5 1 else dead
     else
      if pc = 5 then tz_pureV 8 1 1 P_Nw_nodeAt f_Nw_nodeAt else dead
   else
    if pc < 12 then
     if pc < 11 then
      if pc = 8 then tz_null 22 11 else dead
     else
      if pc = 11 then tz_aload 12 0 else dead
    else
     if pc < 15 then
      if pc = 12 then tz_getf 15 6 0 1 else dead
     else
      if pc = 15 then tz_iload 16 2 else dead
  else
   if pc < 33 then
    if pc < 22 then
     if pc < 19 then
      if pc = 16 then tz_pureV 19 1 1 P_Nw_nodeAt f_Nw_nodeAt else dead
     else
      if pc = 19 then tz_null 22 32 else dead
    else
     if pc < 32 then
      if pc = 22 then tz_throw "java/lang/IndexOutOfBoundsException" else dead
     else
      if pc = 32 then tz_aload 33 0 else dead
   else
    if pc < 37 then
     if pc < 36 then
      if pc = 33 then tz_getf 36 6 0 1 else dead
     else
      if pc = 36 then tz_iload 37 1 else dead
    else
     if pc < 38 then
      if pc = 37 then tz_iload 38 2 else dead
     else
      if pc < 41 then
       if pc = 38 then tz_callV l G 41 M_Nw_commonNet 2 1 else dead
      else
       if pc = 41 then tz_iret else dead
set_option maxRecDepth 100000 in
theorem T_Hp_common (l : Launch) (G : Gc) : TabOK l G M_Hp_common (k_Hp_common l G) := by
  intro pc
  unfold k_Hp_common
  exact
   (sd_br
    (sd_br
     (sd_br
      (sd_br
       (sd_lf (sd_aload_n (k := 0) (by decide +kernel : decode prog_1_method_27_code 0 = .ok (.aload_n 0, 1))))
       (sd_lf (sd_getf (q := (RX6, TX6, 7)) (by decide +kernel : decode prog_1_method_27_code 1 = .ok (.getfield 12, 3)) rfl (by decide +kernel) (gm 154 (by decide +kernel) rfl))))
      (sd_br
       (sd_lf (sd_iload_n (k := 1) (by decide +kernel : decode prog_1_method_27_code 4 = .ok (.iload_n 1, 1))))
       (sd_lf (sd_pureV (sd_callV (q := (RX1, TX1, 6)) (by decide +kernel : decode prog_1_method_27_code 5 = .ok (.invokevirtual 227, 3)) ok_Nw_nodeAt (gm 686 (by decide +kernel) rfl) (gm 193 (by decide +kernel) rfl) (gm 194 (by decide +kernel) rfl) rfl rfl (by decide +kernel) rfl rfl) c_Nw_nodeAt))))
     (sd_br
      (sd_br
       (sd_lf (sd_ifnull (by decide +kernel : decode prog_1_method_27_code 8 = .ok (.ifnull 14, 3)) (by decide +kernel)))
       (sd_lf (sd_aload_n (k := 0) (by decide +kernel : decode prog_1_method_27_code 11 = .ok (.aload_n 0, 1)))))
      (sd_br
       (sd_lf (sd_getf (q := (RX6, TX6, 7)) (by decide +kernel : decode prog_1_method_27_code 12 = .ok (.getfield 12, 3)) rfl (by decide +kernel) (gm 154 (by decide +kernel) rfl)))
       (sd_lf (sd_iload_n (k := 2) (by decide +kernel : decode prog_1_method_27_code 15 = .ok (.iload_n 2, 1)))))))
    (sd_br
     (sd_br
      (sd_br
       (sd_lf (sd_pureV (sd_callV (q := (RX1, TX1, 6)) (by decide +kernel : decode prog_1_method_27_code 16 = .ok (.invokevirtual 227, 3)) ok_Nw_nodeAt (gm 686 (by decide +kernel) rfl) (gm 193 (by decide +kernel) rfl) (gm 194 (by decide +kernel) rfl) rfl rfl (by decide +kernel) rfl rfl) c_Nw_nodeAt))
       (sd_lf (sd_ifnonnull (by decide +kernel : decode prog_1_method_27_code 19 = .ok (.ifnonnull 13, 3)) (by decide +kernel))))
      (sd_br
       (sd_lf (sd_throwS (text := "no such node") (by decide +kernel) (by decide +kernel) (gm 494 (by decide +kernel) rfl) (gm 80 (by decide +kernel) rfl) (List.mem_of_getElem? (i := 790) (by decide +kernel)) thA_IOE thG_IOE (by decide +kernel : decode prog_1_method_27_code 22 = .ok (.new 83, 3)) (by decide +kernel : decode prog_1_method_27_code 25 = .ok (.dup, 1)) (by decide +kernel : decode prog_1_method_27_code 26 = .ok (.ldc 230, 2)) (by decide +kernel : decode prog_1_method_27_code 28 = .ok (.invokespecial 87, 3)) (by decide +kernel : decode prog_1_method_27_code 31 = .ok (.athrow, 1)) rfl (by decide +kernel) (by decide +kernel)))
       (sd_lf (sd_aload_n (k := 0) (by decide +kernel : decode prog_1_method_27_code 32 = .ok (.aload_n 0, 1))))))
     (sd_br
      (sd_br
       (sd_lf (sd_getf (q := (RX6, TX6, 7)) (by decide +kernel : decode prog_1_method_27_code 33 = .ok (.getfield 12, 3)) rfl (by decide +kernel) (gm 154 (by decide +kernel) rfl)))
       (sd_lf (sd_iload_n (k := 1) (by decide +kernel : decode prog_1_method_27_code 36 = .ok (.iload_n 1, 1)))))
      (sd_br
       (sd_lf (sd_iload_n (k := 2) (by decide +kernel : decode prog_1_method_27_code 37 = .ok (.iload_n 2, 1))))
       (sd_br
        (sd_lf (sd_callV (q := (RX1, TX1, 6)) (by decide +kernel : decode prog_1_method_27_code 38 = .ok (.invokevirtual 259, 3)) ok_Nw_commonNet (gm 902 (by decide +kernel) rfl) (gm 903 (by decide +kernel) rfl) (gm 904 (by decide +kernel) rfl) rfl rfl (by decide +kernel) rfl rfl))
        (sd_lf (sd_iret (by decide +kernel : decode prog_1_method_27_code 41 = .ok (.ireturn, 1)) rfl)))))))
/-- what the class tells of a mapping is what the reference tells -/
theorem pp_ok {h : AH} {m t j w : Nat} {z : Nat → Int32} (v : MpV h m z t j) (mi : MapI z t j) (hr : in1 (z (16 + 16 * t + 2)) 0 2) (m10 : mny z ≤ 10) (hw : w < 7) : ppF h m w (livZ z t j) = mpZ z t j w := by
  obtain ⟨⟨v0, v1, v2, v3, v5⟩, -⟩ := v
  obtain ⟨⟨n, n1, n2, -⟩, ⟨q, q1, q2, q3⟩, -, ⟨k1, k2, k3, k4⟩, -⟩ := mi
  have i0' : hI h m 0 = nI (n * 10000 + q) := by rw [v0, n2, q3, enc_N]
  have cs : w = 0 ∨ w = 1 ∨ w = 2 ∨ w = 3 ∨ w = 4 ∨ w = 5 ∨ w = 6 := by omega
  have key : (z (mA t j + 3) = nN ∧ z (mA t j + 4) = nN ∧ hI h m 2 = nN) ∨ (∃ b, b < 100 ∧ z (mA t j + 3) = nI b ∧ ((z (mA t j + 4) = nN ∧ hI h m 2 = nI (b * 10000 + 0)) ∨ ∃ d, 1 ≤ d ∧ d < 10000 ∧ z (mA t j + 4) = nI d ∧ hI h m 2 = nI (b * 10000 + d))) := by
    obtain ⟨r, -, r2, er⟩ := hr
    have cr : r = 0 ∨ r = 1 ∨ r = 2 := by omega
    rw [er] at k1 k2 k3 k4
    rcases cr with rfl | rfl | rfl
    · have e3 := k1 rfl
      have e4 := k3 (by decide)
      refine Or.inl ⟨e3, e4, ?_⟩
      rw [v2, e3]
      unfold encK
      rw [if_pos rfl]
    · obtain ⟨b, b1, b2⟩ := k2 (by decide)
      have e4 := k3 (by decide)
      refine Or.inr ⟨b, by omega, b2, Or.inl ⟨e4, ?_⟩⟩
      rw [v2, b2, e4]
      unfold encK
      rw [if_neg (by rw [nN_e2 (by omega)]; exact id), if_pos rfl, enc_N]
    · obtain ⟨b, b1, b2⟩ := k2 (by decide)
      obtain ⟨d, d1, d2, d3⟩ := k4 rfl
      refine Or.inr ⟨b, by omega, b2, Or.inr ⟨d, d1, by omega, d3, ?_⟩⟩
      rw [v2, b2, d3]
      unfold encK
      rw [if_neg (by rw [nN_e2 (by omega)]; exact id), if_neg (by rw [nN_e2 (by omega)]; exact id), enc_N]
  rcases cs with rfl | rfl | rfl | rfl | rfl | rfl | rfl
  · show hI h m 0 / nI 10000 = z (mA t j + 0)
    rw [i0', enc_node (by omega) (by omega), n2]
  · show hI h m 0 - hI h m 0 / nI 10000 * nI 10000 = z (mA t j + 1)
    rw [i0', enc_port (by omega) (by omega), q3]
  · exact v1
  · show (if hI h m 2 = nN then nN else hI h m 2 / nI 10000) = z (mA t j + 3)
    rcases key with ⟨e3, -, e⟩ | ⟨b, b1, e3, ⟨-, e⟩ | ⟨d, d1, d2, -, e⟩⟩
    · rw [if_pos e, e3]
    · rw [e, if_neg (by rw [nN_e2 (by omega)]; exact id), enc_node b1 (by omega), e3]
    · rw [e, if_neg (by rw [nN_e2 (by omega)]; exact id), enc_node b1 d2, e3]
  · show (if hI h m 2 = nN then nN else if hI h m 2 - hI h m 2 / nI 10000 * nI 10000 = nI 0 then nN else hI h m 2 - hI h m 2 / nI 10000 * nI 10000) = z (mA t j + 4)
    rcases key with ⟨-, e4, e⟩ | ⟨b, b1, -, ⟨e4, e⟩ | ⟨d, d1, d2, e4, e⟩⟩
    · rw [if_pos e, e4]
    · rw [e, if_neg (by rw [nN_e2 (by omega)]; exact id), enc_port b1 (by omega), if_pos rfl, e4]
    · rw [e, if_neg (by rw [nN_e2 (by omega)]; exact id), enc_port b1 d2, if_neg (by rw [nI_eqP (by omega) (by omega)]; omega), e4]
  · rfl
  · exact v5
section
variable {l : Launch} {G : Gc}
theorem c_Hp_translator (A : Nat → Nat) (a w : Int32) (z zs t : Nat → Int32) (n : Nat) (h : AH) (Q : Po) (k : HpR h A z zs t n) (iv : Inv z) (q1 : ¬ TrZ z a → Q (.inr IOE) (nx h)) (q2 : TrZ z a → ¬ (nI 0 ≤ w ∧ w ≤ nI 8) → Q (.inr IAE) (nx h)) (q3 : ∀ i j, i < mny z → a = nI i → z (16 + 16 * i) = nI 1 → j < 9 → w = nI j → Q (.inl (some (.int (tpZ z i j)))) h) : Call l G M_Hp_translator [.ref (A 0), .int a, .int w] h Q := by
  have x6 := k.1.1.1
  have x0 := k.1.2.1.1
  have w1 := k.2.1.1.1.1
  have m10 := iv.1.1.at.2
  have hPt : P_Nw_translatorAt [.ref (A 1), .int a] h := k.2.1.1.NdK a
  refine call_of rfl rfl (Nat.le_of_ble_eq_true rfl) ?_
  by_cases ct : TrZ z a
  · obtain ⟨j, j1, rfl, j3⟩ := id ct
    obtain ⟨dd, tt, e1, -, -, d1, d2, d3, sh, tl⟩ := k.2.1.tr m10 j1 j3
    have t5 := sh.1.1
    have tra := (iv.1.2.2.2 j j1).2.2.2 j3
    (obtain ⟨W9, hW9, hgo9⟩ := wp_ex (T_Hp_translator l G) [] _; refine hgo9 200 _ _ _ _ ?_; simp -implicitDefEqProofs (disch := omega) only [hW9, inl, gate, Xq, tz_const, tz_iload, tz_lload, tz_dload, tz_aload, tz_istore, tz_astore, tz_lstore, tz_dstore, tz_iinc, tz_i1, tz_i2, tz_i2z, tz_l2, tz_l2z, tz_i2l, tz_l2i, tz_lcmp, tz_i2d, tz_d2, tz_dcmp, tz_dup, tz_dup2, tz_pop, tz_if, tz_icmp, tz_null, tz_goto, tz_sw, tz_getf, tz_puti, tz_putz, tz_putr, tz_putl, tz_iaload, tz_baload, tz_laload, tz_aaload, tz_iastore, tz_bastore, tz_lastore, tz_aastore, tz_alen, tz_new, tz_newa, tz_oinit, tz_iret, tz_zret, tz_lret, tz_dret, tz_aret, tz_vret, tz_throw, tz_callS, tz_callV, tz_callI, tz_callR, tz_pureS, tz_pureV, tz_callVH, lg, lset, lkill, lst1, lst2, entL, isRf, is1, vl, va_rf_none, va_rf_some, isRf_rf, is1_rf, i0, i1, bI_eq0, bI_eq1, nm_em, nI_eqP, nI_leP, nI_ltP, nN_e1, nN_e2, nN_l1, nN_l2, nN_l3, nN_l4, nI_add, pk_mul, vp_inN, nI_cl, n01, n10, P_i, P_ii, P_iii, f_Mo_at, f_Mo_map, f_Mo_contact, f_Mo_within, f_Mo_isPort, f_Hp_endpoint, f_Hp_nodeOf, f_Hp_portOf, f_Ma_max, f_Ma_min, f_Hp_isSetting, popN, rok, a1, noX, swc, mL, if_true, if_false, ↓reduceIte, cond_true, cond_false, true_and, and_true, List.length_cons, List.length_nil, List.nil_append, List.cons_append, List.append_nil, Option.toList, Nat.reduceEqDiff, Bool.false_eq_true, reduceCtorEq, Nat.reduceAdd, Nat.reduceLT, Nat.reduceLeDiff, Nat.reduceSub, List.replicate, Nat.zero_add, Nat.lt_add_one, Nat.le_refl, Nat.zero_le, Nat.succ_ne_zero, not_false_eq_true, not_true_eq_false, false_implies, true_implies, forall_const, imp_self, true_or, or_true, eq_self, sI_zw, zw_zw, hI_zw, tg_zw, ln_zw, hR_zw, hL_zw, hN_zw, hM_zw, upd_s, upd_u, upd_ne, Classical.not_not, k_Hp_translator, x6, x0, w1, hPt, f_Nw_translatorAt, e1, t5, f_Hp_isWithin]; try clear hgo9 hW9)
    refine ⟨fun c => ?_, fun c => ?_⟩
    · obtain ⟨i, i1, rfl⟩ := wi_nat (by omega) c
      (obtain ⟨W9, hW9, hgo9⟩ := wp_ex (T_Hp_translator l G) [] _; refine hgo9 200 _ _ _ _ ?_; simp -implicitDefEqProofs (disch := omega) only [hW9, inl, gate, Xq, tz_const, tz_iload, tz_lload, tz_dload, tz_aload, tz_istore, tz_astore, tz_lstore, tz_dstore, tz_iinc, tz_i1, tz_i2, tz_i2z, tz_l2, tz_l2z, tz_i2l, tz_l2i, tz_lcmp, tz_i2d, tz_d2, tz_dcmp, tz_dup, tz_dup2, tz_pop, tz_if, tz_icmp, tz_null, tz_goto, tz_sw, tz_getf, tz_puti, tz_putz, tz_putr, tz_putl, tz_iaload, tz_baload, tz_laload, tz_aaload, tz_iastore, tz_bastore, tz_lastore, tz_aastore, tz_alen, tz_new, tz_newa, tz_oinit, tz_iret, tz_zret, tz_lret, tz_dret, tz_aret, tz_vret, tz_throw, tz_callS, tz_callV, tz_callI, tz_callR, tz_pureS, tz_pureV, tz_callVH, lg, lset, lkill, lst1, lst2, entL, isRf, is1, vl, va_rf_none, va_rf_some, isRf_rf, is1_rf, i0, i1, bI_eq0, bI_eq1, nm_em, nI_eqP, nI_leP, nI_ltP, nN_e1, nN_e2, nN_l1, nN_l2, nN_l3, nN_l4, nI_add, pk_mul, vp_inN, nI_cl, n01, n10, P_i, P_ii, P_iii, f_Mo_at, f_Mo_map, f_Mo_contact, f_Mo_within, f_Mo_isPort, f_Hp_endpoint, f_Hp_nodeOf, f_Hp_portOf, f_Ma_max, f_Ma_min, f_Hp_isSetting, popN, rok, a1, noX, swc, mL, if_true, if_false, ↓reduceIte, cond_true, cond_false, true_and, and_true, List.length_cons, List.length_nil, List.nil_append, List.cons_append, List.append_nil, Option.toList, Nat.reduceEqDiff, Bool.false_eq_true, reduceCtorEq, Nat.reduceAdd, Nat.reduceLT, Nat.reduceLeDiff, Nat.reduceSub, List.replicate, Nat.zero_add, Nat.lt_add_one, Nat.le_refl, Nat.zero_le, Nat.succ_ne_zero, not_false_eq_true, not_true_eq_false, false_implies, true_implies, forall_const, imp_self, true_or, or_true, eq_self, sI_zw, zw_zw, hI_zw, tg_zw, ln_zw, hR_zw, hL_zw, hN_zw, hM_zw, upd_s, upd_u, upd_ne, Classical.not_not, k_Hp_translator, x6, t5]; try clear hgo9 hW9)
      refine c_Tl_property tt j i z h _ t5 tl.1 tra.1 tra.2.1 (by omega) ?_
      simp only [aft]
      (obtain ⟨W9, hW9, hgo9⟩ := wp_ex (T_Hp_translator l G) [] _; refine hgo9 200 _ _ _ _ ?_; simp -implicitDefEqProofs (disch := omega) only [hW9, inl, gate, Xq, tz_const, tz_iload, tz_lload, tz_dload, tz_aload, tz_istore, tz_astore, tz_lstore, tz_dstore, tz_iinc, tz_i1, tz_i2, tz_i2z, tz_l2, tz_l2z, tz_i2l, tz_l2i, tz_lcmp, tz_i2d, tz_d2, tz_dcmp, tz_dup, tz_dup2, tz_pop, tz_if, tz_icmp, tz_null, tz_goto, tz_sw, tz_getf, tz_puti, tz_putz, tz_putr, tz_putl, tz_iaload, tz_baload, tz_laload, tz_aaload, tz_iastore, tz_bastore, tz_lastore, tz_aastore, tz_alen, tz_new, tz_newa, tz_oinit, tz_iret, tz_zret, tz_lret, tz_dret, tz_aret, tz_vret, tz_throw, tz_callS, tz_callV, tz_callI, tz_callR, tz_pureS, tz_pureV, tz_callVH, lg, lset, lkill, lst1, lst2, entL, isRf, is1, vl, va_rf_none, va_rf_some, isRf_rf, is1_rf, i0, i1, bI_eq0, bI_eq1, nm_em, nI_eqP, nI_leP, nI_ltP, nN_e1, nN_e2, nN_l1, nN_l2, nN_l3, nN_l4, nI_add, pk_mul, vp_inN, nI_cl, n01, n10, P_i, P_ii, P_iii, f_Mo_at, f_Mo_map, f_Mo_contact, f_Mo_within, f_Mo_isPort, f_Hp_endpoint, f_Hp_nodeOf, f_Hp_portOf, f_Ma_max, f_Ma_min, f_Hp_isSetting, popN, rok, a1, noX, swc, mL, if_true, if_false, ↓reduceIte, cond_true, cond_false, true_and, and_true, List.length_cons, List.length_nil, List.nil_append, List.cons_append, List.append_nil, Option.toList, Nat.reduceEqDiff, Bool.false_eq_true, reduceCtorEq, Nat.reduceAdd, Nat.reduceLT, Nat.reduceLeDiff, Nat.reduceSub, List.replicate, Nat.zero_add, Nat.lt_add_one, Nat.le_refl, Nat.zero_le, Nat.succ_ne_zero, not_false_eq_true, not_true_eq_false, false_implies, true_implies, forall_const, imp_self, true_or, or_true, eq_self, sI_zw, zw_zw, hI_zw, tg_zw, ln_zw, hR_zw, hL_zw, hN_zw, hM_zw, upd_s, upd_u, upd_ne, Classical.not_not, k_Hp_translator, x6]; try clear hgo9 hW9)
      exact q3 j i j1 rfl j3 (by omega) rfl
    · (obtain ⟨W9, hW9, hgo9⟩ := wp_ex (T_Hp_translator l G) [] _; refine hgo9 200 _ _ _ _ ?_; simp -implicitDefEqProofs (disch := omega) only [hW9, inl, gate, Xq, tz_const, tz_iload, tz_lload, tz_dload, tz_aload, tz_istore, tz_astore, tz_lstore, tz_dstore, tz_iinc, tz_i1, tz_i2, tz_i2z, tz_l2, tz_l2z, tz_i2l, tz_l2i, tz_lcmp, tz_i2d, tz_d2, tz_dcmp, tz_dup, tz_dup2, tz_pop, tz_if, tz_icmp, tz_null, tz_goto, tz_sw, tz_getf, tz_puti, tz_putz, tz_putr, tz_putl, tz_iaload, tz_baload, tz_laload, tz_aaload, tz_iastore, tz_bastore, tz_lastore, tz_aastore, tz_alen, tz_new, tz_newa, tz_oinit, tz_iret, tz_zret, tz_lret, tz_dret, tz_aret, tz_vret, tz_throw, tz_callS, tz_callV, tz_callI, tz_callR, tz_pureS, tz_pureV, tz_callVH, lg, lset, lkill, lst1, lst2, entL, isRf, is1, vl, va_rf_none, va_rf_some, isRf_rf, is1_rf, i0, i1, bI_eq0, bI_eq1, nm_em, nI_eqP, nI_leP, nI_ltP, nN_e1, nN_e2, nN_l1, nN_l2, nN_l3, nN_l4, nI_add, pk_mul, vp_inN, nI_cl, n01, n10, P_i, P_ii, P_iii, f_Mo_at, f_Mo_map, f_Mo_contact, f_Mo_within, f_Mo_isPort, f_Hp_endpoint, f_Hp_nodeOf, f_Hp_portOf, f_Ma_max, f_Ma_min, f_Hp_isSetting, popN, rok, a1, noX, swc, mL, if_true, if_false, ↓reduceIte, cond_true, cond_false, true_and, and_true, List.length_cons, List.length_nil, List.nil_append, List.cons_append, List.append_nil, Option.toList, Nat.reduceEqDiff, Bool.false_eq_true, reduceCtorEq, Nat.reduceAdd, Nat.reduceLT, Nat.reduceLeDiff, Nat.reduceSub, List.replicate, Nat.zero_add, Nat.lt_add_one, Nat.le_refl, Nat.zero_le, Nat.succ_ne_zero, not_false_eq_true, not_true_eq_false, false_implies, true_implies, forall_const, imp_self, true_or, or_true, eq_self, sI_zw, zw_zw, hI_zw, tg_zw, ln_zw, hR_zw, hL_zw, hN_zw, hM_zw, upd_s, upd_u, upd_ne, Classical.not_not, k_Hp_translator, x6]; try clear hgo9 hW9)
      exact q2 ct c
  · have e := (trF_iff k.2.1 iv.1 a).2 ct
    (obtain ⟨W9, hW9, hgo9⟩ := wp_ex (T_Hp_translator l G) [] _; refine hgo9 200 _ _ _ _ ?_; simp -implicitDefEqProofs (disch := omega) only [hW9, inl, gate, Xq, tz_const, tz_iload, tz_lload, tz_dload, tz_aload, tz_istore, tz_astore, tz_lstore, tz_dstore, tz_iinc, tz_i1, tz_i2, tz_i2z, tz_l2, tz_l2z, tz_i2l, tz_l2i, tz_lcmp, tz_i2d, tz_d2, tz_dcmp, tz_dup, tz_dup2, tz_pop, tz_if, tz_icmp, tz_null, tz_goto, tz_sw, tz_getf, tz_puti, tz_putz, tz_putr, tz_putl, tz_iaload, tz_baload, tz_laload, tz_aaload, tz_iastore, tz_bastore, tz_lastore, tz_aastore, tz_alen, tz_new, tz_newa, tz_oinit, tz_iret, tz_zret, tz_lret, tz_dret, tz_aret, tz_vret, tz_throw, tz_callS, tz_callV, tz_callI, tz_callR, tz_pureS, tz_pureV, tz_callVH, lg, lset, lkill, lst1, lst2, entL, isRf, is1, vl, va_rf_none, va_rf_some, isRf_rf, is1_rf, i0, i1, bI_eq0, bI_eq1, nm_em, nI_eqP, nI_leP, nI_ltP, nN_e1, nN_e2, nN_l1, nN_l2, nN_l3, nN_l4, nI_add, pk_mul, vp_inN, nI_cl, n01, n10, P_i, P_ii, P_iii, f_Mo_at, f_Mo_map, f_Mo_contact, f_Mo_within, f_Mo_isPort, f_Hp_endpoint, f_Hp_nodeOf, f_Hp_portOf, f_Ma_max, f_Ma_min, f_Hp_isSetting, popN, rok, a1, noX, swc, mL, if_true, if_false, ↓reduceIte, cond_true, cond_false, true_and, and_true, List.length_cons, List.length_nil, List.nil_append, List.cons_append, List.append_nil, Option.toList, Nat.reduceEqDiff, Bool.false_eq_true, reduceCtorEq, Nat.reduceAdd, Nat.reduceLT, Nat.reduceLeDiff, Nat.reduceSub, List.replicate, Nat.zero_add, Nat.lt_add_one, Nat.le_refl, Nat.zero_le, Nat.succ_ne_zero, not_false_eq_true, not_true_eq_false, false_implies, true_implies, forall_const, imp_self, true_or, or_true, eq_self, sI_zw, zw_zw, hI_zw, tg_zw, ln_zw, hR_zw, hL_zw, hN_zw, hM_zw, upd_s, upd_u, upd_ne, Classical.not_not, k_Hp_translator, x6, x0, w1, hPt, f_Nw_translatorAt, e]; try clear hgo9 hW9)
    exact q1 ct
theorem c_Hp_mapping (A : Nat → Nat) (a b w : Int32) (z zs t : Nat → Int32) (n : Nat) (h : AH) (Q : Po) (k : HpR h A z zs t n) (iv : Inv z) (q1 : ¬ MpN z a b → Q (.inr IOE) (nx h)) (q2 : MpN z a b → ¬ (nI 0 ≤ w ∧ w ≤ nI 6) → Q (.inr IAE) (nx h)) (q3 : ∀ i m j, i < mny z → a = nI i → z (16 + 16 * i) = nI 1 → m < own z i → b = nI m → j < 7 → w = nI j → Q (.inl (some (.int (mpZ z i m j)))) h) : Call l G M_Hp_mapping [.ref (A 0), .int a, .int b, .int w] h Q := by
  have x6 := k.1.1.1
  have x0 := k.1.2.1.1
  have w1 := k.2.1.1.1.1
  have w3 := k.2.1.2.1.2.1
  have m10 := iv.1.1.at.2
  have hPt : P_Nw_translatorAt [.ref (A 1), .int a] h := k.2.1.1.NdK a
  refine call_of rfl rfl (Nat.le_of_ble_eq_true rfl) ?_
  by_cases ct : TrZ z a
  · obtain ⟨j, j1, rfl, j3⟩ := id ct
    obtain ⟨dd, tt, e1, -, -, d1, d2, d3, sh, tl⟩ := k.2.1.tr m10 j1 j3
    have t5 := sh.1.1
    have tra := (iv.1.2.2.2 j j1).2.2.2 j3
    have o8 := tra.1.2
    have hPm : P_Tl_mappingAt [.ref tt, .int b] h := sh.1
    by_cases cm : ∃ m, m < own z j ∧ b = nI m
    · obtain ⟨m, m1, rfl⟩ := cm
      obtain ⟨s1, s2⟩ := tl.slot m1
      have sm := sh.2.2.2.1 m _ (by omega) s1
      have em : f_Tl_mappingAt [.ref tt, .int (nI m)] h = .ref (mpO h tt m) := by
        simp only [f_Tl_mappingAt, maF]
        rw [tl.1.2.2, if_pos ⟨by rw [nI_ltP (by omega) (by omega)]; omega, by rw [nI_leP (by omega) (by omega)]; omega, by rw [nI_leP (by omega) (by omega)]; omega⟩, nI_clamp (by omega), s1]
        rfl
      have m0 := sm.1
      have hPl : ∀ x, P_Tl_ticksLeft [.ref tt, .ref (mpO h tt m), .int x] h := fun _ => m0
      have el : f_Tl_ticksLeft [.ref tt, .ref (mpO h tt m), .int (z 0)] h = .int (livZ z j m) := by
        simp only [f_Tl_ticksLeft]
        rw [tl.1.1.2.2.2.2.1, s2.1.2.2.2.1]
        rfl
      (obtain ⟨W9, hW9, hgo9⟩ := wp_ex (T_Hp_mapping l G) [] _; refine hgo9 200 _ _ _ _ ?_; simp -implicitDefEqProofs (disch := omega) only [hW9, inl, gate, Xq, tz_const, tz_iload, tz_lload, tz_dload, tz_aload, tz_istore, tz_astore, tz_lstore, tz_dstore, tz_iinc, tz_i1, tz_i2, tz_i2z, tz_l2, tz_l2z, tz_i2l, tz_l2i, tz_lcmp, tz_i2d, tz_d2, tz_dcmp, tz_dup, tz_dup2, tz_pop, tz_if, tz_icmp, tz_null, tz_goto, tz_sw, tz_getf, tz_puti, tz_putz, tz_putr, tz_putl, tz_iaload, tz_baload, tz_laload, tz_aaload, tz_iastore, tz_bastore, tz_lastore, tz_aastore, tz_alen, tz_new, tz_newa, tz_oinit, tz_iret, tz_zret, tz_lret, tz_dret, tz_aret, tz_vret, tz_throw, tz_callS, tz_callV, tz_callI, tz_callR, tz_pureS, tz_pureV, tz_callVH, lg, lset, lkill, lst1, lst2, entL, isRf, is1, vl, va_rf_none, va_rf_some, isRf_rf, is1_rf, i0, i1, bI_eq0, bI_eq1, nm_em, nI_eqP, nI_leP, nI_ltP, nN_e1, nN_e2, nN_l1, nN_l2, nN_l3, nN_l4, nI_add, pk_mul, vp_inN, nI_cl, n01, n10, P_i, P_ii, P_iii, f_Mo_at, f_Mo_map, f_Mo_contact, f_Mo_within, f_Mo_isPort, f_Hp_endpoint, f_Hp_nodeOf, f_Hp_portOf, f_Ma_max, f_Ma_min, f_Hp_isSetting, popN, rok, a1, noX, swc, mL, if_true, if_false, ↓reduceIte, cond_true, cond_false, true_and, and_true, List.length_cons, List.length_nil, List.nil_append, List.cons_append, List.append_nil, Option.toList, Nat.reduceEqDiff, Bool.false_eq_true, reduceCtorEq, Nat.reduceAdd, Nat.reduceLT, Nat.reduceLeDiff, Nat.reduceSub, List.replicate, Nat.zero_add, Nat.lt_add_one, Nat.le_refl, Nat.zero_le, Nat.succ_ne_zero, not_false_eq_true, not_true_eq_false, false_implies, true_implies, forall_const, imp_self, true_or, or_true, eq_self, sI_zw, zw_zw, hI_zw, tg_zw, ln_zw, hR_zw, hL_zw, hN_zw, hM_zw, upd_s, upd_u, upd_ne, Classical.not_not, k_Hp_mapping, x6, x0, w1, hPt, f_Nw_translatorAt, e1, t5, hPm, em, f_Hp_isWithin]; try clear hgo9 hW9)
      refine ⟨fun c => ?_, fun c => ?_⟩
      · obtain ⟨i, i1, rfl⟩ := wi_nat (by omega) c
        (obtain ⟨W9, hW9, hgo9⟩ := wp_ex (T_Hp_mapping l G) [] _; refine hgo9 200 _ _ _ _ ?_; simp -implicitDefEqProofs (disch := omega) only [hW9, inl, gate, Xq, tz_const, tz_iload, tz_lload, tz_dload, tz_aload, tz_istore, tz_astore, tz_lstore, tz_dstore, tz_iinc, tz_i1, tz_i2, tz_i2z, tz_l2, tz_l2z, tz_i2l, tz_l2i, tz_lcmp, tz_i2d, tz_d2, tz_dcmp, tz_dup, tz_dup2, tz_pop, tz_if, tz_icmp, tz_null, tz_goto, tz_sw, tz_getf, tz_puti, tz_putz, tz_putr, tz_putl, tz_iaload, tz_baload, tz_laload, tz_aaload, tz_iastore, tz_bastore, tz_lastore, tz_aastore, tz_alen, tz_new, tz_newa, tz_oinit, tz_iret, tz_zret, tz_lret, tz_dret, tz_aret, tz_vret, tz_throw, tz_callS, tz_callV, tz_callI, tz_callR, tz_pureS, tz_pureV, tz_callVH, lg, lset, lkill, lst1, lst2, entL, isRf, is1, vl, va_rf_none, va_rf_some, isRf_rf, is1_rf, i0, i1, bI_eq0, bI_eq1, nm_em, nI_eqP, nI_leP, nI_ltP, nN_e1, nN_e2, nN_l1, nN_l2, nN_l3, nN_l4, nI_add, pk_mul, vp_inN, nI_cl, n01, n10, P_i, P_ii, P_iii, f_Mo_at, f_Mo_map, f_Mo_contact, f_Mo_within, f_Mo_isPort, f_Hp_endpoint, f_Hp_nodeOf, f_Hp_portOf, f_Ma_max, f_Ma_min, f_Hp_isSetting, popN, rok, a1, noX, swc, mL, if_true, if_false, ↓reduceIte, cond_true, cond_false, true_and, and_true, List.length_cons, List.length_nil, List.nil_append, List.cons_append, List.append_nil, Option.toList, Nat.reduceEqDiff, Bool.false_eq_true, reduceCtorEq, Nat.reduceAdd, Nat.reduceLT, Nat.reduceLeDiff, Nat.reduceSub, List.replicate, Nat.zero_add, Nat.lt_add_one, Nat.le_refl, Nat.zero_le, Nat.succ_ne_zero, not_false_eq_true, not_true_eq_false, false_implies, true_implies, forall_const, imp_self, true_or, or_true, eq_self, sI_zw, zw_zw, hI_zw, tg_zw, ln_zw, hR_zw, hL_zw, hN_zw, hM_zw, upd_s, upd_u, upd_ne, Classical.not_not, k_Hp_mapping, x6, x0, w1, w3, t5, m0, hPl, el]; try clear hgo9 hW9)
        refine c_Mp_property (mpO h tt m) i (livZ z j m) h _ m0 (by omega) ?_
        simp only [aft]
        (obtain ⟨W9, hW9, hgo9⟩ := wp_ex (T_Hp_mapping l G) [] _; refine hgo9 200 _ _ _ _ ?_; simp -implicitDefEqProofs (disch := omega) only [hW9, inl, gate, Xq, tz_const, tz_iload, tz_lload, tz_dload, tz_aload, tz_istore, tz_astore, tz_lstore, tz_dstore, tz_iinc, tz_i1, tz_i2, tz_i2z, tz_l2, tz_l2z, tz_i2l, tz_l2i, tz_lcmp, tz_i2d, tz_d2, tz_dcmp, tz_dup, tz_dup2, tz_pop, tz_if, tz_icmp, tz_null, tz_goto, tz_sw, tz_getf, tz_puti, tz_putz, tz_putr, tz_putl, tz_iaload, tz_baload, tz_laload, tz_aaload, tz_iastore, tz_bastore, tz_lastore, tz_aastore, tz_alen, tz_new, tz_newa, tz_oinit, tz_iret, tz_zret, tz_lret, tz_dret, tz_aret, tz_vret, tz_throw, tz_callS, tz_callV, tz_callI, tz_callR, tz_pureS, tz_pureV, tz_callVH, lg, lset, lkill, lst1, lst2, entL, isRf, is1, vl, va_rf_none, va_rf_some, isRf_rf, is1_rf, i0, i1, bI_eq0, bI_eq1, nm_em, nI_eqP, nI_leP, nI_ltP, nN_e1, nN_e2, nN_l1, nN_l2, nN_l3, nN_l4, nI_add, pk_mul, vp_inN, nI_cl, n01, n10, P_i, P_ii, P_iii, f_Mo_at, f_Mo_map, f_Mo_contact, f_Mo_within, f_Mo_isPort, f_Hp_endpoint, f_Hp_nodeOf, f_Hp_portOf, f_Ma_max, f_Ma_min, f_Hp_isSetting, popN, rok, a1, noX, swc, mL, if_true, if_false, ↓reduceIte, cond_true, cond_false, true_and, and_true, List.length_cons, List.length_nil, List.nil_append, List.cons_append, List.append_nil, Option.toList, Nat.reduceEqDiff, Bool.false_eq_true, reduceCtorEq, Nat.reduceAdd, Nat.reduceLT, Nat.reduceLeDiff, Nat.reduceSub, List.replicate, Nat.zero_add, Nat.lt_add_one, Nat.le_refl, Nat.zero_le, Nat.succ_ne_zero, not_false_eq_true, not_true_eq_false, false_implies, true_implies, forall_const, imp_self, true_or, or_true, eq_self, sI_zw, zw_zw, hI_zw, tg_zw, ln_zw, hR_zw, hL_zw, hN_zw, hM_zw, upd_s, upd_u, upd_ne, Classical.not_not, k_Hp_mapping, x6]; try clear hgo9 hW9)
        rw [pp_ok s2 (tra.2.2.1 m m1) tra.2.1.1 m10 (by omega)]
        exact q3 j m i j1 rfl j3 m1 rfl (by omega) rfl
      · (obtain ⟨W9, hW9, hgo9⟩ := wp_ex (T_Hp_mapping l G) [] _; refine hgo9 200 _ _ _ _ ?_; simp -implicitDefEqProofs (disch := omega) only [hW9, inl, gate, Xq, tz_const, tz_iload, tz_lload, tz_dload, tz_aload, tz_istore, tz_astore, tz_lstore, tz_dstore, tz_iinc, tz_i1, tz_i2, tz_i2z, tz_l2, tz_l2z, tz_i2l, tz_l2i, tz_lcmp, tz_i2d, tz_d2, tz_dcmp, tz_dup, tz_dup2, tz_pop, tz_if, tz_icmp, tz_null, tz_goto, tz_sw, tz_getf, tz_puti, tz_putz, tz_putr, tz_putl, tz_iaload, tz_baload, tz_laload, tz_aaload, tz_iastore, tz_bastore, tz_lastore, tz_aastore, tz_alen, tz_new, tz_newa, tz_oinit, tz_iret, tz_zret, tz_lret, tz_dret, tz_aret, tz_vret, tz_throw, tz_callS, tz_callV, tz_callI, tz_callR, tz_pureS, tz_pureV, tz_callVH, lg, lset, lkill, lst1, lst2, entL, isRf, is1, vl, va_rf_none, va_rf_some, isRf_rf, is1_rf, i0, i1, bI_eq0, bI_eq1, nm_em, nI_eqP, nI_leP, nI_ltP, nN_e1, nN_e2, nN_l1, nN_l2, nN_l3, nN_l4, nI_add, pk_mul, vp_inN, nI_cl, n01, n10, P_i, P_ii, P_iii, f_Mo_at, f_Mo_map, f_Mo_contact, f_Mo_within, f_Mo_isPort, f_Hp_endpoint, f_Hp_nodeOf, f_Hp_portOf, f_Ma_max, f_Ma_min, f_Hp_isSetting, popN, rok, a1, noX, swc, mL, if_true, if_false, ↓reduceIte, cond_true, cond_false, true_and, and_true, List.length_cons, List.length_nil, List.nil_append, List.cons_append, List.append_nil, Option.toList, Nat.reduceEqDiff, Bool.false_eq_true, reduceCtorEq, Nat.reduceAdd, Nat.reduceLT, Nat.reduceLeDiff, Nat.reduceSub, List.replicate, Nat.zero_add, Nat.lt_add_one, Nat.le_refl, Nat.zero_le, Nat.succ_ne_zero, not_false_eq_true, not_true_eq_false, false_implies, true_implies, forall_const, imp_self, true_or, or_true, eq_self, sI_zw, zw_zw, hI_zw, tg_zw, ln_zw, hR_zw, hL_zw, hN_zw, hM_zw, upd_s, upd_u, upd_ne, Classical.not_not, k_Hp_mapping, x6]; try clear hgo9 hW9)
        exact q2 ⟨j, m, j1, rfl, j3, m1, rfl⟩ c
    · have em : f_Tl_mappingAt [.ref tt, .int b] h = .null := by
        simp only [f_Tl_mappingAt, maF]
        rw [if_neg]
        · rfl
        · rintro ⟨h1, h2, h3⟩
          rcases pk_ix b (show 8 < 2 ^ 31 by omega) with q | q | ⟨i, hi, rfl⟩
          · exact h1 q
          · exact h3 q
          · rw [tl.1.2.2, nI_leP (by omega) (by omega)] at h2
            exact cm ⟨i, by omega, rfl⟩
      (obtain ⟨W9, hW9, hgo9⟩ := wp_ex (T_Hp_mapping l G) [] _; refine hgo9 200 _ _ _ _ ?_; simp -implicitDefEqProofs (disch := omega) only [hW9, inl, gate, Xq, tz_const, tz_iload, tz_lload, tz_dload, tz_aload, tz_istore, tz_astore, tz_lstore, tz_dstore, tz_iinc, tz_i1, tz_i2, tz_i2z, tz_l2, tz_l2z, tz_i2l, tz_l2i, tz_lcmp, tz_i2d, tz_d2, tz_dcmp, tz_dup, tz_dup2, tz_pop, tz_if, tz_icmp, tz_null, tz_goto, tz_sw, tz_getf, tz_puti, tz_putz, tz_putr, tz_putl, tz_iaload, tz_baload, tz_laload, tz_aaload, tz_iastore, tz_bastore, tz_lastore, tz_aastore, tz_alen, tz_new, tz_newa, tz_oinit, tz_iret, tz_zret, tz_lret, tz_dret, tz_aret, tz_vret, tz_throw, tz_callS, tz_callV, tz_callI, tz_callR, tz_pureS, tz_pureV, tz_callVH, lg, lset, lkill, lst1, lst2, entL, isRf, is1, vl, va_rf_none, va_rf_some, isRf_rf, is1_rf, i0, i1, bI_eq0, bI_eq1, nm_em, nI_eqP, nI_leP, nI_ltP, nN_e1, nN_e2, nN_l1, nN_l2, nN_l3, nN_l4, nI_add, pk_mul, vp_inN, nI_cl, n01, n10, P_i, P_ii, P_iii, f_Mo_at, f_Mo_map, f_Mo_contact, f_Mo_within, f_Mo_isPort, f_Hp_endpoint, f_Hp_nodeOf, f_Hp_portOf, f_Ma_max, f_Ma_min, f_Hp_isSetting, popN, rok, a1, noX, swc, mL, if_true, if_false, ↓reduceIte, cond_true, cond_false, true_and, and_true, List.length_cons, List.length_nil, List.nil_append, List.cons_append, List.append_nil, Option.toList, Nat.reduceEqDiff, Bool.false_eq_true, reduceCtorEq, Nat.reduceAdd, Nat.reduceLT, Nat.reduceLeDiff, Nat.reduceSub, List.replicate, Nat.zero_add, Nat.lt_add_one, Nat.le_refl, Nat.zero_le, Nat.succ_ne_zero, not_false_eq_true, not_true_eq_false, false_implies, true_implies, forall_const, imp_self, true_or, or_true, eq_self, sI_zw, zw_zw, hI_zw, tg_zw, ln_zw, hR_zw, hL_zw, hN_zw, hM_zw, upd_s, upd_u, upd_ne, Classical.not_not, k_Hp_mapping, x6, x0, w1, hPt, f_Nw_translatorAt, e1, t5, hPm, em]; try clear hgo9 hW9)
      refine q1 ?_
      rintro ⟨j', i, g1, g2, g3, g4, g5⟩
      rw [nI_eq (by omega) (by omega)] at g2
      subst g2
      exact cm ⟨i, g4, g5⟩
  · have e := (trF_iff k.2.1 iv.1 a).2 ct
    (obtain ⟨W9, hW9, hgo9⟩ := wp_ex (T_Hp_mapping l G) [] _; refine hgo9 200 _ _ _ _ ?_; simp -implicitDefEqProofs (disch := omega) only [hW9, inl, gate, Xq, tz_const, tz_iload, tz_lload, tz_dload, tz_aload, tz_istore, tz_astore, tz_lstore, tz_dstore, tz_iinc, tz_i1, tz_i2, tz_i2z, tz_l2, tz_l2z, tz_i2l, tz_l2i, tz_lcmp, tz_i2d, tz_d2, tz_dcmp, tz_dup, tz_dup2, tz_pop, tz_if, tz_icmp, tz_null, tz_goto, tz_sw, tz_getf, tz_puti, tz_putz, tz_putr, tz_putl, tz_iaload, tz_baload, tz_laload, tz_aaload, tz_iastore, tz_bastore, tz_lastore, tz_aastore, tz_alen, tz_new, tz_newa, tz_oinit, tz_iret, tz_zret, tz_lret, tz_dret, tz_aret, tz_vret, tz_throw, tz_callS, tz_callV, tz_callI, tz_callR, tz_pureS, tz_pureV, tz_callVH, lg, lset, lkill, lst1, lst2, entL, isRf, is1, vl, va_rf_none, va_rf_some, isRf_rf, is1_rf, i0, i1, bI_eq0, bI_eq1, nm_em, nI_eqP, nI_leP, nI_ltP, nN_e1, nN_e2, nN_l1, nN_l2, nN_l3, nN_l4, nI_add, pk_mul, vp_inN, nI_cl, n01, n10, P_i, P_ii, P_iii, f_Mo_at, f_Mo_map, f_Mo_contact, f_Mo_within, f_Mo_isPort, f_Hp_endpoint, f_Hp_nodeOf, f_Hp_portOf, f_Ma_max, f_Ma_min, f_Hp_isSetting, popN, rok, a1, noX, swc, mL, if_true, if_false, ↓reduceIte, cond_true, cond_false, true_and, and_true, List.length_cons, List.length_nil, List.nil_append, List.cons_append, List.append_nil, Option.toList, Nat.reduceEqDiff, Bool.false_eq_true, reduceCtorEq, Nat.reduceAdd, Nat.reduceLT, Nat.reduceLeDiff, Nat.reduceSub, List.replicate, Nat.zero_add, Nat.lt_add_one, Nat.le_refl, Nat.zero_le, Nat.succ_ne_zero, not_false_eq_true, not_true_eq_false, false_implies, true_implies, forall_const, imp_self, true_or, or_true, eq_self, sI_zw, zw_zw, hI_zw, tg_zw, ln_zw, hR_zw, hL_zw, hN_zw, hM_zw, upd_s, upd_u, upd_ne, Classical.not_not, k_Hp_mapping, x6, x0, w1, hPt, f_Nw_translatorAt, e]; try clear hgo9 hW9)
    refine q1 ?_
    rintro ⟨j', i, g1, g2, g3, -⟩
    exact ct ⟨j', g1, g2, g3⟩
end
