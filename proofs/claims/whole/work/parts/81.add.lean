/-! THE CLASS: nodes are added -/
def k_Nw_newHost (l : Launch) (G : Gc) (pc : Nat) : Tr :=
  if pc < 11 then
   if pc < 5 then
    if pc < 1 then
     if pc = 0 then tz_aload 1 0 else dead
    else
     if pc < 4 then
      if pc = 1 then tz_callV l G 4 M_Nw_nextNode 0 1 else dead
     else
      if pc = 4 then tz_astore 5 2 else dead
   else
    if pc < 9 then
     if pc < 6 then
      if pc = 5 then tz_aload 6 2 else dead
     else
      if pc = 6 then tz_null 9 11 else dead
    else
     if pc < 10 then
      if pc = 9 then tz_const 10 (.int (nN)) else dead
     else
      if pc = 10 then tz_iret else dead
  else
   if pc < 17 then
    if pc < 13 then
     if pc < 12 then
      if pc = 11 then tz_aload 12 2 else dead
     else
      if pc = 12 then tz_iload 13 1 else dead
    else
     if pc < 16 then
      if pc = 13 then tz_callV l G 16 M_No_becomeHost 1 3 else dead
     else
      if pc = 16 then tz_aload 17 0 else dead
   else
    if pc < 21 then
     if pc < 20 then
      if pc = 17 then tz_getf 20 1 2 0 else dead
     else
      if pc = 20 then tz_const 21 (.int (nI 1)) else dead
    else
     if pc < 22 then
      if pc = 21 then tz_i2 22 (fun a b => a - b) else dead
     else
      if pc = 22 then tz_iret else dead
set_option maxRecDepth 100000 in
theorem T_Nw_newHost (l : Launch) (G : Gc) : TabOK l G M_Nw_newHost (k_Nw_newHost l G) := by
  intro pc
  unfold k_Nw_newHost
  exact
   (sd_br
    (sd_br
     (sd_br
      (sd_lf (sd_aload_n (k := 0) (by decide +kernel : decode prog_3_method_9_code 0 = .ok (.aload_n 0, 1))))
      (sd_br
       (sd_lf (sd_callV (q := (RX1, TX1, 6)) (by decide +kernel : decode prog_3_method_9_code 1 = .ok (.invokevirtual 38, 3)) ok_Nw_nextNode (gm 196 (by decide +kernel) rfl) (gm 198 (by decide +kernel) rfl) (gm 0 (by decide +kernel) rfl) rfl rfl (by decide +kernel) rfl rfl))
       (sd_lf (sd_astore_n (k := 2) (by decide +kernel : decode prog_3_method_9_code 4 = .ok (.astore_n 2, 1))))))
     (sd_br
      (sd_br
       (sd_lf (sd_aload_n (k := 2) (by decide +kernel : decode prog_3_method_9_code 5 = .ok (.aload_n 2, 1))))
       (sd_lf (sd_ifnonnull (by decide +kernel : decode prog_3_method_9_code 6 = .ok (.ifnonnull 5, 3)) (by decide +kernel))))
      (sd_br
       (sd_lf (sd_iconst (by decide +kernel : decode prog_3_method_9_code 9 = .ok (.iconst (-1), 1)) (by decide +kernel)))
       (sd_lf (sd_iret (by decide +kernel : decode prog_3_method_9_code 10 = .ok (.ireturn, 1)) rfl)))))
    (sd_br
     (sd_br
      (sd_br
       (sd_lf (sd_aload_n (k := 2) (by decide +kernel : decode prog_3_method_9_code 11 = .ok (.aload_n 2, 1))))
       (sd_lf (sd_iload_n (k := 1) (by decide +kernel : decode prog_3_method_9_code 12 = .ok (.iload_n 1, 1)))))
      (sd_br
       (sd_lf (sd_callV (q := (RX3, TX3, 5)) (by decide +kernel : decode prog_3_method_9_code 13 = .ok (.invokevirtual 57, 3)) ok_No_becomeHost (gm 363 (by decide +kernel) rfl) (gm 233 (by decide +kernel) rfl) (gm 234 (by decide +kernel) rfl) rfl rfl (by decide +kernel) rfl rfl))
       (sd_lf (sd_aload_n (k := 0) (by decide +kernel : decode prog_3_method_9_code 16 = .ok (.aload_n 0, 1))))))
     (sd_br
      (sd_br
       (sd_lf (sd_getf (q := (RX1, TX1, 6)) (by decide +kernel : decode prog_3_method_9_code 17 = .ok (.getfield 21, 3)) rfl (by decide +kernel) (gm 106 (by decide +kernel) rfl)))
       (sd_lf (sd_iconst (by decide +kernel : decode prog_3_method_9_code 20 = .ok (.iconst 1, 1)) (by decide +kernel))))
      (sd_br
       (sd_lf (sd_isub (by decide +kernel : decode prog_3_method_9_code 21 = .ok (.isub, 1))))
       (sd_lf (sd_iret (by decide +kernel : decode prog_3_method_9_code 22 = .ok (.ireturn, 1)) rfl))))))
def k_Nw_newTranslator (l : Launch) (G : Gc) (pc : Nat) : Tr :=
  if pc < 19 then
   if pc < 11 then
    if pc < 4 then
     if pc < 1 then
      if pc = 0 then tz_aload 1 0 else dead
     else
      if pc = 1 then tz_callV l G 4 M_Nw_nextNode 0 1 else dead
    else
     if pc < 6 then
      if pc = 4 then tz_astore 6 5 else dead
     else
      if pc < 8 then
       if pc = 6 then tz_aload 8 5 else dead
      else
       if pc = 8 then tz_null 11 13 else dead
   else
    if pc < 13 then
     if pc < 12 then
      if pc = 11 then tz_const 12 (.int (nN)) else dead
     else
      if pc = 12 then tz_iret else dead
    else
     if pc < 15 then
      if pc = 13 then tz_aload 15 5 else dead
     else
      if pc < 16 then
       if pc = 15 then tz_iload 16 1 else dead
      else
       if pc = 16 then tz_callV l G 19 M_No_becomeTranslator 1 3 else dead
  else
   if pc < 27 then
    if pc < 21 then
     if pc < 20 then
      if pc = 19 then tz_iload 20 2 else dead
     else
      if pc = 20 then tz_iload 21 3 else dead
    else
     if pc < 23 then
      if pc = 21 then tz_iload 23 4 else dead
     else
      if pc < 24 then
       if pc = 23 then tz_aload 24 0 else dead
      else
       if pc = 24 then tz_getf 27 1 2 0 else dead
   else
    if pc < 34 then
     if pc < 30 then
      if pc = 27 then tz_callV l G 30 M_Tl_reset 4 5 else dead
     else
      if pc < 31 then
       if pc = 30 then tz_aload 31 0 else dead
      else
       if pc = 31 then tz_getf 34 1 2 0 else dead
    else
     if pc < 35 then
      if pc = 34 then tz_const 35 (.int (nI 1)) else dead
     else
      if pc < 36 then
       if pc = 35 then tz_i2 36 (fun a b => a - b) else dead
      else
       if pc = 36 then tz_iret else dead
set_option maxRecDepth 100000 in
theorem T_Nw_newTranslator (l : Launch) (G : Gc) : TabOK l G M_Nw_newTranslator (k_Nw_newTranslator l G) := by
  intro pc
  unfold k_Nw_newTranslator
  exact
   (sd_br
    (sd_br
     (sd_br
      (sd_br
       (sd_lf (sd_aload_n (k := 0) (by decide +kernel : decode prog_3_method_10_code 0 = .ok (.aload_n 0, 1))))
       (sd_lf (sd_callV (q := (RX1, TX1, 6)) (by decide +kernel : decode prog_3_method_10_code 1 = .ok (.invokevirtual 38, 3)) ok_Nw_nextNode (gm 196 (by decide +kernel) rfl) (gm 198 (by decide +kernel) rfl) (gm 0 (by decide +kernel) rfl) rfl rfl (by decide +kernel) rfl rfl)))
      (sd_br
       (sd_lf (sd_astore (by decide +kernel : decode prog_3_method_10_code 4 = .ok (.astore 5, 2))))
       (sd_br
        (sd_lf (sd_aload (by decide +kernel : decode prog_3_method_10_code 6 = .ok (.aload 5, 2))))
        (sd_lf (sd_ifnonnull (by decide +kernel : decode prog_3_method_10_code 8 = .ok (.ifnonnull 5, 3)) (by decide +kernel))))))
     (sd_br
      (sd_br
       (sd_lf (sd_iconst (by decide +kernel : decode prog_3_method_10_code 11 = .ok (.iconst (-1), 1)) (by decide +kernel)))
       (sd_lf (sd_iret (by decide +kernel : decode prog_3_method_10_code 12 = .ok (.ireturn, 1)) rfl)))
      (sd_br
       (sd_lf (sd_aload (by decide +kernel : decode prog_3_method_10_code 13 = .ok (.aload 5, 2))))
       (sd_br
        (sd_lf (sd_iload_n (k := 1) (by decide +kernel : decode prog_3_method_10_code 15 = .ok (.iload_n 1, 1))))
        (sd_lf (sd_callV (q := (RX3, TX3, 5)) (by decide +kernel : decode prog_3_method_10_code 16 = .ok (.invokevirtual 61, 3)) ok_No_becomeTranslator (gm 388 (by decide +kernel) rfl) (gm 237 (by decide +kernel) rfl) (gm 238 (by decide +kernel) rfl) rfl rfl (by decide +kernel) rfl rfl))))))
    (sd_br
     (sd_br
      (sd_br
       (sd_lf (sd_iload_n (k := 2) (by decide +kernel : decode prog_3_method_10_code 19 = .ok (.iload_n 2, 1))))
       (sd_lf (sd_iload_n (k := 3) (by decide +kernel : decode prog_3_method_10_code 20 = .ok (.iload_n 3, 1)))))
      (sd_br
       (sd_lf (sd_iload (by decide +kernel : decode prog_3_method_10_code 21 = .ok (.iload 4, 2))))
       (sd_br
        (sd_lf (sd_aload_n (k := 0) (by decide +kernel : decode prog_3_method_10_code 23 = .ok (.aload_n 0, 1))))
        (sd_lf (sd_getf (q := (RX1, TX1, 6)) (by decide +kernel : decode prog_3_method_10_code 24 = .ok (.getfield 21, 3)) rfl (by decide +kernel) (gm 106 (by decide +kernel) rfl))))))
     (sd_br
      (sd_br
       (sd_lf (sd_callV (q := (RX5, TX5, 11)) (by decide +kernel : decode prog_3_method_10_code 27 = .ok (.invokevirtual 65, 3)) ok_Tl_reset (gm 389 (by decide +kernel) rfl) (gm 390 (by decide +kernel) rfl) (gm 391 (by decide +kernel) rfl) rfl rfl (by decide +kernel) rfl rfl))
       (sd_br
        (sd_lf (sd_aload_n (k := 0) (by decide +kernel : decode prog_3_method_10_code 30 = .ok (.aload_n 0, 1))))
        (sd_lf (sd_getf (q := (RX1, TX1, 6)) (by decide +kernel : decode prog_3_method_10_code 31 = .ok (.getfield 21, 3)) rfl (by decide +kernel) (gm 106 (by decide +kernel) rfl)))))
      (sd_br
       (sd_lf (sd_iconst (by decide +kernel : decode prog_3_method_10_code 34 = .ok (.iconst 1, 1)) (by decide +kernel)))
       (sd_br
        (sd_lf (sd_isub (by decide +kernel : decode prog_3_method_10_code 35 = .ok (.isub, 1))))
        (sd_lf (sd_iret (by decide +kernel : decode prog_3_method_10_code 36 = .ok (.ireturn, 1)) rfl)))))))
def k_Nw_reset (l : Launch) (G : Gc) (pc : Nat) : Tr :=
  if pc < 21 then
   if pc < 10 then
    if pc < 5 then
     if pc < 1 then
      if pc = 0 then tz_aload 1 0 else dead
     else
      if pc < 2 then
       if pc = 1 then tz_const 2 (.int (nI 0)) else dead
      else
       if pc = 2 then tz_puti 5 1 2 else dead
    else
     if pc < 6 then
      if pc = 5 then tz_aload 6 0 else dead
     else
      if pc < 7 then
       if pc = 6 then tz_const 7 (.int (nI 0)) else dead
      else
       if pc = 7 then tz_puti 10 1 3 else dead
   else
    if pc < 15 then
     if pc < 11 then
      if pc = 10 then tz_aload 11 0 else dead
     else
      if pc < 12 then
       if pc = 11 then tz_const 12 (.int (nI 0)) else dead
      else
       if pc = 12 then tz_puti 15 1 4 else dead
    else
     if pc < 17 then
      if pc < 16 then
       if pc = 15 then tz_aload 16 0 else dead
      else
       if pc = 16 then tz_const 17 (.int (nI 0)) else dead
     else
      if pc < 20 then
       if pc = 17 then tz_puti 20 1 5 else dead
      else
       if pc = 20 then tz_const 21 (.int (nI 0)) else dead
  else
   if pc < 32 then
    if pc < 24 then
     if pc < 22 then
      if pc = 21 then tz_istore 22 1 else dead
     else
      if pc < 23 then
       if pc = 22 then tz_iload 23 1 else dead
      else
       if pc = 23 then tz_aload 24 0 else dead
    else
     if pc < 28 then
      if pc < 27 then
       if pc = 24 then tz_getf 27 1 1 1 else dead
      else
       if pc = 27 then tz_alen 28 else dead
     else
      if pc < 31 then
       if pc = 28 then tz_icmp 31 44 (fun a b => b ≤ a) else dead
      else
       if pc = 31 then tz_aload 32 0 else dead
   else
    if pc < 37 then
     if pc < 35 then
      if pc = 32 then tz_getf 35 1 1 1 else dead
     else
      if pc < 36 then
       if pc = 35 then tz_iload 36 1 else dead
      else
       if pc = 36 then tz_const 37 (.int (nI 0)) else dead
    else
     if pc < 41 then
      if pc < 38 then
       if pc = 37 then tz_iastore 38 else dead
      else
       if pc = 38 then tz_iinc 41 1 (nI 1) else dead
     else
      if pc < 44 then
       if pc = 41 then tz_goto 22 else dead
      else
       if pc = 44 then tz_vret else dead
set_option maxRecDepth 100000 in
theorem T_Nw_reset (l : Launch) (G : Gc) : TabOK l G M_Nw_reset (k_Nw_reset l G) := by
  intro pc
  unfold k_Nw_reset
  exact
   (sd_br
    (sd_br
     (sd_br
      (sd_br
       (sd_lf (sd_aload_n (k := 0) (by decide +kernel : decode prog_3_method_2_code 0 = .ok (.aload_n 0, 1))))
       (sd_br
        (sd_lf (sd_iconst (by decide +kernel : decode prog_3_method_2_code 1 = .ok (.iconst 0, 1)) (by decide +kernel)))
        (sd_lf (sd_puti (q := (RX1, TX1, 6)) (by decide +kernel : decode prog_3_method_2_code 2 = .ok (.putfield 21, 3)) rfl (by decide +kernel) (gm 106 (by decide +kernel) rfl) rfl rfl (Or.inl rfl)))))
      (sd_br
       (sd_lf (sd_aload_n (k := 0) (by decide +kernel : decode prog_3_method_2_code 5 = .ok (.aload_n 0, 1))))
       (sd_br
        (sd_lf (sd_iconst (by decide +kernel : decode prog_3_method_2_code 6 = .ok (.iconst 0, 1)) (by decide +kernel)))
        (sd_lf (sd_puti (q := (RX1, TX1, 6)) (by decide +kernel : decode prog_3_method_2_code 7 = .ok (.putfield 25, 3)) rfl (by decide +kernel) (gm 109 (by decide +kernel) rfl) rfl rfl (Or.inl rfl))))))
     (sd_br
      (sd_br
       (sd_lf (sd_aload_n (k := 0) (by decide +kernel : decode prog_3_method_2_code 10 = .ok (.aload_n 0, 1))))
       (sd_br
        (sd_lf (sd_iconst (by decide +kernel : decode prog_3_method_2_code 11 = .ok (.iconst 0, 1)) (by decide +kernel)))
        (sd_lf (sd_puti (q := (RX1, TX1, 6)) (by decide +kernel : decode prog_3_method_2_code 12 = .ok (.putfield 28, 3)) rfl (by decide +kernel) (gm 111 (by decide +kernel) rfl) rfl rfl (Or.inl rfl)))))
      (sd_br
       (sd_br
        (sd_lf (sd_aload_n (k := 0) (by decide +kernel : decode prog_3_method_2_code 15 = .ok (.aload_n 0, 1))))
        (sd_lf (sd_iconst (by decide +kernel : decode prog_3_method_2_code 16 = .ok (.iconst 0, 1)) (by decide +kernel))))
       (sd_br
        (sd_lf (sd_puti (q := (RX1, TX1, 6)) (by decide +kernel : decode prog_3_method_2_code 17 = .ok (.putfield 31, 3)) rfl (by decide +kernel) (gm 113 (by decide +kernel) rfl) rfl rfl (Or.inl rfl)))
        (sd_lf (sd_iconst (by decide +kernel : decode prog_3_method_2_code 20 = .ok (.iconst 0, 1)) (by decide +kernel)))))))
    (sd_br
     (sd_br
      (sd_br
       (sd_lf (sd_istore_n (k := 1) (by decide +kernel : decode prog_3_method_2_code 21 = .ok (.istore_n 1, 1))))
       (sd_br
        (sd_lf (sd_iload_n (k := 1) (by decide +kernel : decode prog_3_method_2_code 22 = .ok (.iload_n 1, 1))))
        (sd_lf (sd_aload_n (k := 0) (by decide +kernel : decode prog_3_method_2_code 23 = .ok (.aload_n 0, 1))))))
      (sd_br
       (sd_br
        (sd_lf (sd_getf (q := (RX1, TX1, 6)) (by decide +kernel : decode prog_3_method_2_code 24 = .ok (.getfield 17, 3)) rfl (by decide +kernel) (gm 105 (by decide +kernel) rfl)))
        (sd_lf (sd_alen (by decide +kernel : decode prog_3_method_2_code 27 = .ok (.arraylength, 1)))))
       (sd_br
        (sd_lf (sd_icmp_ge (by decide +kernel : decode prog_3_method_2_code 28 = .ok (.if_icmp .ge 16, 3)) (by decide +kernel)))
        (sd_lf (sd_aload_n (k := 0) (by decide +kernel : decode prog_3_method_2_code 31 = .ok (.aload_n 0, 1)))))))
     (sd_br
      (sd_br
       (sd_lf (sd_getf (q := (RX1, TX1, 6)) (by decide +kernel : decode prog_3_method_2_code 32 = .ok (.getfield 17, 3)) rfl (by decide +kernel) (gm 105 (by decide +kernel) rfl)))
       (sd_br
        (sd_lf (sd_iload_n (k := 1) (by decide +kernel : decode prog_3_method_2_code 35 = .ok (.iload_n 1, 1))))
        (sd_lf (sd_iconst (by decide +kernel : decode prog_3_method_2_code 36 = .ok (.iconst 0, 1)) (by decide +kernel)))))
      (sd_br
       (sd_br
        (sd_lf (sd_iastore (by decide +kernel : decode prog_3_method_2_code 37 = .ok (.iastore, 1))))
        (sd_lf (sd_iinc (by decide +kernel : decode prog_3_method_2_code 38 = .ok (.iinc 1 1, 3)) (by decide +kernel))))
       (sd_br
        (sd_lf (sd_goto (by decide +kernel : decode prog_3_method_2_code 41 = .ok (.goto (-19), 3)) (by decide +kernel)))
        (sd_lf (sd_vret (by decide +kernel : decode prog_3_method_2_code 44 = .ok (.return_, 1)) rfl)))))))
section
variable {h h' : AH} {wn : Nat} {z z' : Nat → Int32}
/-- node i, its slot and the count alone have changed -/
theorem NwG.setN {i nc nc' n n' : Nat} {sz cnt sz' cnt' : Nat → Nat} (hw : WF h) (k : NwG h wn z nc n sz cnt) (lc : ∀ b, b < hN h → b ≠ wn → b ≠ nA h wn → ¬ ndc h wn i b → same1 h h' b) (hT' : ∀ b, b < hN h → hT h' b = hT h b) (wI : hI h' wn = upd (hI h wn) 2 (nI nc')) (wR : hR h' wn = hR h wn) (aR : ∀ j, j ≠ i → hR h' (nA h wn) j = hR h (nA h wn) j)
    (sd : ∀ d, hR h' (nA h wn) i = some d → ShD h' wn i d) (e0 : z' 0 = z 0) (eh : ∀ q, 2 ≤ q → q ≤ 8 → z' q = z q) (er : ∀ i', i' < n' → i' ≠ i → i' < n ∧ sz' i' = sz i' ∧ cnt' i' = cnt i' ∧ eqN z z' i' ∧ eqM z z' i') (nd : i < n' → NodG h' wn z' i (sz' i) (cnt' i)) (n10 : n ≤ 10) (hc : ∀ i', i' < n → z (16 + 16 * i') = nI 1 → ∀ j, j < cnt i' → knw z i' j ≤ 8) (hc0 : ∀ i', i' < n → cnt i' ≤ 8) : NwG h' wn z' nc' n' sz' cnt' := by
  obtain ⟨⟨⟨a1, a2, a3, a4⟩, a5, a6, ⟨b1, b2, b3, b4⟩, nod⟩, ⟨k2, k3, k4, k5⟩, k6, k7⟩ := k
  have lw : wn < hN h := hw.lt (by rw [a1]; decide)
  have lA' : nA h wn < hN h := hw.lt (by rw [a3]; decide)
  have sL := lc (lA h wn) (hw.lt (by rw [b2]; decide)) (ne_tg (by rw [b2, a1]; decide)) (ne_tg (by rw [b2, a3]; decide)) (by rintro ⟨k, r, e, -⟩; rw [b4] at e; cases e)
  have eA : nA h' wn = nA h wn := by unfold nA; rw [wR]
  have eL : lA h' wn = lA h wn := by unfold lA; rw [wR]
  have oth : ∀ i', i' ≠ i → ∀ b, b < hN h → ndc h wn i' b → same1 h h' b := by
    intro i' hne b hb ⟨k, r, e, hk⟩
    refine lc b hb (fun q => ?_) (fun q => ?_) ?_
    · rw [q, a5] at e; cases e
    · rw [q, a6] at e; cases e
    · rintro ⟨k', r', e', -⟩
      rw [e] at e'
      cases e'
      exact hne rfl
  have tw : tg h' wn = 1 := by unfold tg; rw [hT' _ lw]; exact a1
  refine ⟨⟨⟨tw, by rw [eA, wR]; exact a2, by rw [eA]; unfold tg; rw [hT' _ lA']; exact a3, by rw [eA]; unfold ln; rw [hT' _ lA']; exact a4⟩, by unfold gh; rw [hT' _ lw]; exact a5, by rw [eA]; unfold gh; rw [hT' _ lA']; exact a6, ⟨by rw [eL, wR]; exact b1, by rw [eL, sL.tg]; exact b2, by rw [eL, sL.ln]; exact b3, by rw [eL, sL.gh]; exact b4⟩, fun i' d hi' hd => ?_⟩, ⟨by rw [wI, upd_s], by rw [wI, upd_ne (by omega), e0]; exact k3, by rw [wI, upd_ne (by omega), eh 2 (by omega) (by omega)]; exact k4, by rw [wI, upd_ne (by omega), eh 3 (by omega) (by omega)]; exact k5⟩, fun q q1 q2 => by rw [eL, sL.2.1, eh (3 + q) (by omega) (by omega)]; exact k6 q q1 q2, fun i' hi' => ?_⟩
  · rw [eA] at hd
    by_cases c : i' = i
    · subst c; exact sd d hd
    · rw [aR i' c] at hd
      exact (nod i' d hi' hd).keep hw (oth i' c)
  · by_cases c : i' = i
    · subst c; exact nd hi'
    · obtain ⟨r1, r2, r3, r4, r5⟩ := er i' hi' c
      rw [r2, r3]
      obtain ⟨d, d1, d2, d3⟩ := k7 i' r1
      have s := nod i' d (by omega) d1
      have sdd := oth i' c d (hw.lt (by rw [s.1]; decide)) ⟨3, [], s.2.1, by omega⟩
      refine ⟨d, by rw [eA, aR i' c]; exact d1, d2.keep sdd r4, fun q => ?_⟩
      have e00 := r4 0 (by omega)
      simp only [Nat.add_zero] at e00
      rw [e00] at q
      obtain ⟨t, t1, t2⟩ := d3 q
      exact ⟨t, by rw [sdd.2.2.1]; exact t1, t2.keep hw (s.2.2 t t1) (hc0 i' r1) (hc i' r1 q) (fun b hb ⟨k, r, e, hk⟩ => oth i' c b hb ⟨k, r, e, by omega⟩) r4 r5⟩
end
theorem add_low {z : Nat → Int32} {net : Int32} {j : Nat} (h1 : j ≠ 1) (h : j < 16 + 16 * mny z ∨ 16 + 16 * mny z + 16 ≤ j ∨ (j = 16 + 16 * mny z) ∨ (16 + 16 * mny z + 2 ≤ j ∧ j ≤ 16 + 16 * mny z + 11) ∨ j = 16 + 16 * mny z + 15) : addZ z net j = z j := by
  unfold addZ
  rw [upd_ne (by omega), upd_ne (by omega), upd_ne (by omega), upd_ne (by omega), upd_ne h1]
theorem addT_low {z : Nat → Int32} {net a b c : Int32} {j : Nat} (h1 : j ≠ 1) (h : j < 16 + 16 * mny z ∨ 16 + 16 * mny z + 16 ≤ j ∨ j = 16 + 16 * mny z + 7 ∨ j = 16 + 16 * mny z + 8 ∨ j = 16 + 16 * mny z + 11) : addTZ z net a b c j = z j := by
  unfold addTZ wN
  rw [upd_ne (by omega), upd_ne (by omega), upd_ne (by omega), upd_ne (by omega), upd_ne (by omega), upd_ne (by omega), upd_ne (by omega), upd_ne (by omega)]
  exact add_low h1 (by omega)
theorem mny_nI {z : Nat → Int32} {k : Nat} (h : z 1 = nI k) (hk : k ≤ 10) : mny z = k := by unfold mny; rw [h, nI_clamp (by omega)]
section
variable {l : Launch} {G : Gc}
theorem c_Nw_newHost (wn : Nat) (net : Int32) (z : Nat → Int32) (h : AH) (Q : Po) (hw : WF h) (inv : Inv0 z) (k : NwR h wn z) (hc : mny z < 10) (hQ : ∀ h', NwR h' wn (addZ z net) → Fr wn 1 h h' → Q (.inl (some (.int (nI (mny z))))) h') : Call l G M_Nw_newHost [.ref wn, .int net] h Q := by
  have tw1 := k.1.1.1
  have a5 := k.1.2.1
  refine call_of rfl rfl (Nat.le_of_ble_eq_true rfl) ?_
  (obtain ⟨W9, hW9, hgo9⟩ := wp_ex (T_Nw_newHost l G) [] _; refine hgo9 200 _ _ _ _ ?_; simp -implicitDefEqProofs (disch := omega) only [hW9, inl, gate, Xq, tz_const, tz_iload, tz_lload, tz_dload, tz_aload, tz_istore, tz_astore, tz_lstore, tz_dstore, tz_iinc, tz_i1, tz_i2, tz_i2z, tz_l2, tz_l2z, tz_i2l, tz_l2i, tz_lcmp, tz_i2d, tz_d2, tz_dcmp, tz_dup, tz_dup2, tz_pop, tz_if, tz_icmp, tz_null, tz_goto, tz_sw, tz_getf, tz_puti, tz_putz, tz_putr, tz_putl, tz_iaload, tz_baload, tz_laload, tz_aaload, tz_iastore, tz_bastore, tz_lastore, tz_aastore, tz_alen, tz_new, tz_newa, tz_oinit, tz_iret, tz_zret, tz_lret, tz_dret, tz_aret, tz_vret, tz_throw, tz_callS, tz_callV, tz_callI, tz_callR, tz_pureS, tz_pureV, tz_callVH, lg, lset, lkill, lst1, lst2, entL, isRf, is1, vl, va_rf_none, va_rf_some, isRf_rf, is1_rf, i0, i1, bI_eq0, bI_eq1, nm_em, nI_eqP, nI_leP, nI_ltP, nN_e1, nN_e2, nN_l1, nN_l2, nN_l3, nN_l4, nI_add, pk_mul, vp_inN, nI_cl, n01, n10, P_i, P_ii, P_iii, f_Mo_at, f_Mo_map, f_Mo_contact, f_Mo_within, f_Mo_isPort, f_Hp_endpoint, f_Hp_nodeOf, f_Hp_portOf, f_Ma_max, f_Ma_min, f_Hp_isSetting, popN, rok, a1, noX, swc, mL, if_true, if_false, ↓reduceIte, cond_true, cond_false, true_and, and_true, List.length_cons, List.length_nil, List.nil_append, List.cons_append, List.append_nil, Option.toList, Nat.reduceEqDiff, Bool.false_eq_true, reduceCtorEq, Nat.reduceAdd, Nat.reduceLT, Nat.reduceLeDiff, Nat.reduceSub, List.replicate, Nat.zero_add, Nat.lt_add_one, Nat.le_refl, Nat.zero_le, Nat.succ_ne_zero, not_false_eq_true, not_true_eq_false, false_implies, true_implies, forall_const, imp_self, true_or, or_true, eq_self, sI_zw, zw_zw, hI_zw, tg_zw, ln_zw, hR_zw, hL_zw, hN_zw, hM_zw, upd_s, upd_u, upd_ne, Classical.not_not, k_Nw_newHost, tw1]; try clear hgo9 hW9)
  refine c_Nw_nextNode wn (mny z) h _ hw k.1 k.2.1.1 hc (fun h1 n nx => ?_)
  simp only [aft]
  obtain ⟨f, ⟨x1, x2, x3⟩, ⟨y1, y2⟩, o, sd⟩ := nx
  have lw : wn < hN h := hw.lt (by rw [tw1]; decide)
  have w1 : tg h1 wn = 1 := by unfold tg; rw [f.2.1 wn lw]; exact tw1
  have n3 := sd.1
  (obtain ⟨W9, hW9, hgo9⟩ := wp_ex (T_Nw_newHost l G) [] _; refine hgo9 200 _ _ _ _ ?_; simp -implicitDefEqProofs (disch := omega) only [hW9, inl, gate, Xq, tz_const, tz_iload, tz_lload, tz_dload, tz_aload, tz_istore, tz_astore, tz_lstore, tz_dstore, tz_iinc, tz_i1, tz_i2, tz_i2z, tz_l2, tz_l2z, tz_i2l, tz_l2i, tz_lcmp, tz_i2d, tz_d2, tz_dcmp, tz_dup, tz_dup2, tz_pop, tz_if, tz_icmp, tz_null, tz_goto, tz_sw, tz_getf, tz_puti, tz_putz, tz_putr, tz_putl, tz_iaload, tz_baload, tz_laload, tz_aaload, tz_iastore, tz_bastore, tz_lastore, tz_aastore, tz_alen, tz_new, tz_newa, tz_oinit, tz_iret, tz_zret, tz_lret, tz_dret, tz_aret, tz_vret, tz_throw, tz_callS, tz_callV, tz_callI, tz_callR, tz_pureS, tz_pureV, tz_callVH, lg, lset, lkill, lst1, lst2, entL, isRf, is1, vl, va_rf_none, va_rf_some, isRf_rf, is1_rf, i0, i1, bI_eq0, bI_eq1, nm_em, nI_eqP, nI_leP, nI_ltP, nN_e1, nN_e2, nN_l1, nN_l2, nN_l3, nN_l4, nI_add, pk_mul, vp_inN, nI_cl, n01, n10, P_i, P_ii, P_iii, f_Mo_at, f_Mo_map, f_Mo_contact, f_Mo_within, f_Mo_isPort, f_Hp_endpoint, f_Hp_nodeOf, f_Hp_portOf, f_Ma_max, f_Ma_min, f_Hp_isSetting, popN, rok, a1, noX, swc, mL, if_true, if_false, ↓reduceIte, cond_true, cond_false, true_and, and_true, List.length_cons, List.length_nil, List.nil_append, List.cons_append, List.append_nil, Option.toList, Nat.reduceEqDiff, Bool.false_eq_true, reduceCtorEq, Nat.reduceAdd, Nat.reduceLT, Nat.reduceLeDiff, Nat.reduceSub, List.replicate, Nat.zero_add, Nat.lt_add_one, Nat.le_refl, Nat.zero_le, Nat.succ_ne_zero, not_false_eq_true, not_true_eq_false, false_implies, true_implies, forall_const, imp_self, true_or, or_true, eq_self, sI_zw, zw_zw, hI_zw, tg_zw, ln_zw, hR_zw, hL_zw, hN_zw, hM_zw, upd_s, upd_u, upd_ne, Classical.not_not, k_Nw_newHost, w1, n3]; try clear hgo9 hW9)
  refine c_No_becomeHost n net h1 _ n3 ?_
  simp only [aft]
  have nn : wn ≠ n := ne_tg (by rw [w1, n3]; decide)
  have w2 : hI (zw h1 n (hoI (hI h1 n) net)) wn 2 = nI (mny z + 1) := by rw [hI_zw_ne _ nn, x1, upd_s]
  (obtain ⟨W9, hW9, hgo9⟩ := wp_ex (T_Nw_newHost l G) [] _; refine hgo9 200 _ _ _ _ ?_; simp -implicitDefEqProofs (disch := omega) only [hW9, inl, gate, Xq, tz_const, tz_iload, tz_lload, tz_dload, tz_aload, tz_istore, tz_astore, tz_lstore, tz_dstore, tz_iinc, tz_i1, tz_i2, tz_i2z, tz_l2, tz_l2z, tz_i2l, tz_l2i, tz_lcmp, tz_i2d, tz_d2, tz_dcmp, tz_dup, tz_dup2, tz_pop, tz_if, tz_icmp, tz_null, tz_goto, tz_sw, tz_getf, tz_puti, tz_putz, tz_putr, tz_putl, tz_iaload, tz_baload, tz_laload, tz_aaload, tz_iastore, tz_bastore, tz_lastore, tz_aastore, tz_alen, tz_new, tz_newa, tz_oinit, tz_iret, tz_zret, tz_lret, tz_dret, tz_aret, tz_vret, tz_throw, tz_callS, tz_callV, tz_callI, tz_callR, tz_pureS, tz_pureV, tz_callVH, lg, lset, lkill, lst1, lst2, entL, isRf, is1, vl, va_rf_none, va_rf_some, isRf_rf, is1_rf, i0, i1, bI_eq0, bI_eq1, nm_em, nI_eqP, nI_leP, nI_ltP, nN_e1, nN_e2, nN_l1, nN_l2, nN_l3, nN_l4, nI_add, pk_mul, vp_inN, nI_cl, n01, n10, P_i, P_ii, P_iii, f_Mo_at, f_Mo_map, f_Mo_contact, f_Mo_within, f_Mo_isPort, f_Hp_endpoint, f_Hp_nodeOf, f_Hp_portOf, f_Ma_max, f_Ma_min, f_Hp_isSetting, popN, rok, a1, noX, swc, mL, if_true, if_false, ↓reduceIte, cond_true, cond_false, true_and, and_true, List.length_cons, List.length_nil, List.nil_append, List.cons_append, List.append_nil, Option.toList, Nat.reduceEqDiff, Bool.false_eq_true, reduceCtorEq, Nat.reduceAdd, Nat.reduceLT, Nat.reduceLeDiff, Nat.reduceSub, List.replicate, Nat.zero_add, Nat.lt_add_one, Nat.le_refl, Nat.zero_le, Nat.succ_ne_zero, not_false_eq_true, not_true_eq_false, false_implies, true_implies, forall_const, imp_self, true_or, or_true, eq_self, sI_zw, zw_zw, hI_zw, tg_zw, ln_zw, hR_zw, hL_zw, hN_zw, hM_zw, upd_s, upd_u, upd_ne, Classical.not_not, k_Nw_newHost, w1, w2, pk_sub, Nat.add_sub_cancel]; try clear hgo9 hW9)
  have fz : Fr wn 0 h1 (zw h1 n (hoI (hI h1 n) net)) := Fr.zw f.2.2.2.2 (rt_gh sd.2.1)
  have nA1 : nA h wn ≠ n := by
    intro e
    have := f.2.1 (nA h wn) (hw.lt (by rw [k.1.1.2.2.1]; decide))
    have q : tg h1 (nA h wn) = 11 := by unfold tg; rw [this]; exact k.1.1.2.2.1
    rw [e, n3] at q
    exact absurd q (by decide)
  have y1' : mny (addZ z net) = mny z + 1 := mny_nI (by unfold addZ; rw [upd_ne (by omega), upd_ne (by omega), upd_ne (by omega), upd_ne (by omega), upd_s]) (by omega)
  obtain ⟨f0, f7, f8, f11⟩ := inv.2.2.1 (mny z) (Nat.le_refl _) hc
  have k0 : addZ z net (16 + 16 * mny z) = nI 0 := (add_low (by omega) (by omega)).trans f0
  refine hQ _ ?_ (f.tr fz)
  unfold NwR
  rw [y1']
  refine NwG.setN (i := mny z) hw k (fun b hb b1 b2 b3 => ?_) (fun b hb => (f.2.1 b hb)) ?_ ?_ (fun j hj => y1 j hj) (fun d hd => ?_) (add_low (by omega) (by omega)) (fun q q1 q2 => add_low (by omega) (by omega)) (fun i' hi' hne => ?_) (fun _ => ?_) (by omega) (fun i' hi' q => (inv_kn inv hi' q).2) (fun i' hi' => (inv.own i' (by omega)).2)
  · have bn : b ≠ n := by
      intro q
      refine b3 ⟨3, [], ?_, by omega⟩
      rw [q]
      have := sd.2.1
      unfold gh at this ⊢
      rw [← f.2.1 n (by rw [← q]; exact hb)]
      exact this
    exact (o b hb b1 b2).tr ⟨rfl, hI_zw_ne _ bn, rfl, rfl⟩
  · rw [hI_zw_ne _ nn]; exact x1
  · exact x2
  · have hd' : hR h1 (nA h wn) (mny z) = some d := hd
    rw [y2] at hd'
    cases hd'
    simp only [ShD, ShT, TlK, ShM, mM, cC] at sd ⊢
    exact sd
  · refine ⟨by omega, own_eq (add_low (by omega) (by omega)), own_eq (add_low (by omega) (by omega)), fun w hw => add_low (by omega) (by omega), fun w hw => add_low (by unfold mA; omega) (by unfold mA; omega), fun w hw => add_low (by unfold cA; omega) (by unfold cA; omega)⟩
  · refine ⟨n, ?_, ⟨fun _ => ?_, fun q => ?_, ?_, ?_, ?_⟩, fun q => ?_⟩
    · have eA : nA (zw h1 n (hoI (hI h1 n) net)) wn = nA h wn := by
        show (hR h1 wn 0).getD 0 = (hR h wn 0).getD 0
        rw [x2]
      rw [eA]; exact y2
    · rw [hI_zw]; unfold hoI; rw [upd_ne (by omega), upd_ne (by omega), upd_ne (by omega), upd_s]
    · rw [k0] at q; exact absurd q (by decide)
    · rw [hI_zw]; unfold hoI addZ; rw [upd_ne (by omega), upd_ne (by omega), upd_s, upd_ne (by omega), upd_ne (by omega), upd_ne (by omega), upd_s]
    · rw [hI_zw]; unfold hoI addZ; rw [upd_ne (by omega), upd_s, upd_ne (by omega), upd_ne (by omega), upd_s]; rfl
    · rw [hI_zw]; unfold hoI addZ; rw [upd_s, upd_s]
    · rw [k0] at q; exact absurd q (by decide)
theorem c_Nw_newTranslator (wn : Nat) (net a b c : Int32) (z : Nat → Int32) (h : AH) (Q : Po) (hw : WF h) (inv : Inv0 z) (k : NwR h wn z) (hc : mny z < 10) (hQ : ∀ h', NwR h' wn (addTZ z net a b c) → Fr wn 3 h h' → Q (.inl (some (.int (nI (mny z))))) h') : Call l G M_Nw_newTranslator [.ref wn, .int net, .int a, .int b, .int c] h Q := by
  have tw1 := k.1.1.1
  have a5 := k.1.2.1
  refine call_of rfl rfl (Nat.le_of_ble_eq_true rfl) ?_
  (obtain ⟨W9, hW9, hgo9⟩ := wp_ex (T_Nw_newTranslator l G) [] _; refine hgo9 200 _ _ _ _ ?_; simp -implicitDefEqProofs (disch := omega) only [hW9, inl, gate, Xq, tz_const, tz_iload, tz_lload, tz_dload, tz_aload, tz_istore, tz_astore, tz_lstore, tz_dstore, tz_iinc, tz_i1, tz_i2, tz_i2z, tz_l2, tz_l2z, tz_i2l, tz_l2i, tz_lcmp, tz_i2d, tz_d2, tz_dcmp, tz_dup, tz_dup2, tz_pop, tz_if, tz_icmp, tz_null, tz_goto, tz_sw, tz_getf, tz_puti, tz_putz, tz_putr, tz_putl, tz_iaload, tz_baload, tz_laload, tz_aaload, tz_iastore, tz_bastore, tz_lastore, tz_aastore, tz_alen, tz_new, tz_newa, tz_oinit, tz_iret, tz_zret, tz_lret, tz_dret, tz_aret, tz_vret, tz_throw, tz_callS, tz_callV, tz_callI, tz_callR, tz_pureS, tz_pureV, tz_callVH, lg, lset, lkill, lst1, lst2, entL, isRf, is1, vl, va_rf_none, va_rf_some, isRf_rf, is1_rf, i0, i1, bI_eq0, bI_eq1, nm_em, nI_eqP, nI_leP, nI_ltP, nN_e1, nN_e2, nN_l1, nN_l2, nN_l3, nN_l4, nI_add, pk_mul, vp_inN, nI_cl, n01, n10, P_i, P_ii, P_iii, f_Mo_at, f_Mo_map, f_Mo_contact, f_Mo_within, f_Mo_isPort, f_Hp_endpoint, f_Hp_nodeOf, f_Hp_portOf, f_Ma_max, f_Ma_min, f_Hp_isSetting, popN, rok, a1, noX, swc, mL, if_true, if_false, ↓reduceIte, cond_true, cond_false, true_and, and_true, List.length_cons, List.length_nil, List.nil_append, List.cons_append, List.append_nil, Option.toList, Nat.reduceEqDiff, Bool.false_eq_true, reduceCtorEq, Nat.reduceAdd, Nat.reduceLT, Nat.reduceLeDiff, Nat.reduceSub, List.replicate, Nat.zero_add, Nat.lt_add_one, Nat.le_refl, Nat.zero_le, Nat.succ_ne_zero, not_false_eq_true, not_true_eq_false, false_implies, true_implies, forall_const, imp_self, true_or, or_true, eq_self, sI_zw, zw_zw, hI_zw, tg_zw, ln_zw, hR_zw, hL_zw, hN_zw, hM_zw, upd_s, upd_u, upd_ne, Classical.not_not, k_Nw_newTranslator, tw1]; try clear hgo9 hW9)
  refine c_Nw_nextNode wn (mny z) h _ hw k.1 k.2.1.1 hc (fun h1 n nx => ?_)
  simp only [aft]
  obtain ⟨f, ⟨x1, x2, x3⟩, ⟨y1, y2⟩, o, sd⟩ := nx
  have lw : wn < hN h := hw.lt (by rw [tw1]; decide)
  have hw1 : WF h1 := f.2.2.2.2
  have w1 : tg h1 wn = 1 := by unfold tg; rw [f.2.1 wn lw]; exact tw1
  have n3 := sd.1
  have nn : wn ≠ n := ne_tg (by rw [w1, n3]; decide)
  (obtain ⟨W9, hW9, hgo9⟩ := wp_ex (T_Nw_newTranslator l G) [] _; refine hgo9 200 _ _ _ _ ?_; simp -implicitDefEqProofs (disch := omega) only [hW9, inl, gate, Xq, tz_const, tz_iload, tz_lload, tz_dload, tz_aload, tz_istore, tz_astore, tz_lstore, tz_dstore, tz_iinc, tz_i1, tz_i2, tz_i2z, tz_l2, tz_l2z, tz_i2l, tz_l2i, tz_lcmp, tz_i2d, tz_d2, tz_dcmp, tz_dup, tz_dup2, tz_pop, tz_if, tz_icmp, tz_null, tz_goto, tz_sw, tz_getf, tz_puti, tz_putz, tz_putr, tz_putl, tz_iaload, tz_baload, tz_laload, tz_aaload, tz_iastore, tz_bastore, tz_lastore, tz_aastore, tz_alen, tz_new, tz_newa, tz_oinit, tz_iret, tz_zret, tz_lret, tz_dret, tz_aret, tz_vret, tz_throw, tz_callS, tz_callV, tz_callI, tz_callR, tz_pureS, tz_pureV, tz_callVH, lg, lset, lkill, lst1, lst2, entL, isRf, is1, vl, va_rf_none, va_rf_some, isRf_rf, is1_rf, i0, i1, bI_eq0, bI_eq1, nm_em, nI_eqP, nI_leP, nI_ltP, nN_e1, nN_e2, nN_l1, nN_l2, nN_l3, nN_l4, nI_add, pk_mul, vp_inN, nI_cl, n01, n10, P_i, P_ii, P_iii, f_Mo_at, f_Mo_map, f_Mo_contact, f_Mo_within, f_Mo_isPort, f_Hp_endpoint, f_Hp_nodeOf, f_Hp_portOf, f_Ma_max, f_Ma_min, f_Hp_isSetting, popN, rok, a1, noX, swc, mL, if_true, if_false, ↓reduceIte, cond_true, cond_false, true_and, and_true, List.length_cons, List.length_nil, List.nil_append, List.cons_append, List.append_nil, Option.toList, Nat.reduceEqDiff, Bool.false_eq_true, reduceCtorEq, Nat.reduceAdd, Nat.reduceLT, Nat.reduceLeDiff, Nat.reduceSub, List.replicate, Nat.zero_add, Nat.lt_add_one, Nat.le_refl, Nat.zero_le, Nat.succ_ne_zero, not_false_eq_true, not_true_eq_false, false_implies, true_implies, forall_const, imp_self, true_or, or_true, eq_self, sI_zw, zw_zw, hI_zw, tg_zw, ln_zw, hR_zw, hL_zw, hN_zw, hM_zw, upd_s, upd_u, upd_ne, Classical.not_not, k_Nw_newTranslator, w1, n3]; try clear hgo9 hW9)
  refine c_No_becomeTranslator wn (mny z) n net h1 _ hw1 sd (fun h2 t bt => ?_)
  simp only [aft]
  obtain ⟨f2, i2, r2, sh2, o2⟩ := bt
  have lw1 : wn < hN h1 := hw1.lt (by rw [w1]; decide)
  have sw2 := o2 wn lw1 nn
  have w2 : tg h2 wn = 1 := sw2.tg.trans w1
  have t5 := sh2.1.1
  have c2 : hI h2 wn 2 = nI (mny z + 1) := by rw [sw2.2.1, x1, upd_s]
  (obtain ⟨W9, hW9, hgo9⟩ := wp_ex (T_Nw_newTranslator l G) [] _; refine hgo9 200 _ _ _ _ ?_; simp -implicitDefEqProofs (disch := omega) only [hW9, inl, gate, Xq, tz_const, tz_iload, tz_lload, tz_dload, tz_aload, tz_istore, tz_astore, tz_lstore, tz_dstore, tz_iinc, tz_i1, tz_i2, tz_i2z, tz_l2, tz_l2z, tz_i2l, tz_l2i, tz_lcmp, tz_i2d, tz_d2, tz_dcmp, tz_dup, tz_dup2, tz_pop, tz_if, tz_icmp, tz_null, tz_goto, tz_sw, tz_getf, tz_puti, tz_putz, tz_putr, tz_putl, tz_iaload, tz_baload, tz_laload, tz_aaload, tz_iastore, tz_bastore, tz_lastore, tz_aastore, tz_alen, tz_new, tz_newa, tz_oinit, tz_iret, tz_zret, tz_lret, tz_dret, tz_aret, tz_vret, tz_throw, tz_callS, tz_callV, tz_callI, tz_callR, tz_pureS, tz_pureV, tz_callVH, lg, lset, lkill, lst1, lst2, entL, isRf, is1, vl, va_rf_none, va_rf_some, isRf_rf, is1_rf, i0, i1, bI_eq0, bI_eq1, nm_em, nI_eqP, nI_leP, nI_ltP, nN_e1, nN_e2, nN_l1, nN_l2, nN_l3, nN_l4, nI_add, pk_mul, vp_inN, nI_cl, n01, n10, P_i, P_ii, P_iii, f_Mo_at, f_Mo_map, f_Mo_contact, f_Mo_within, f_Mo_isPort, f_Hp_endpoint, f_Hp_nodeOf, f_Hp_portOf, f_Ma_max, f_Ma_min, f_Hp_isSetting, popN, rok, a1, noX, swc, mL, if_true, if_false, ↓reduceIte, cond_true, cond_false, true_and, and_true, List.length_cons, List.length_nil, List.nil_append, List.cons_append, List.append_nil, Option.toList, Nat.reduceEqDiff, Bool.false_eq_true, reduceCtorEq, Nat.reduceAdd, Nat.reduceLT, Nat.reduceLeDiff, Nat.reduceSub, List.replicate, Nat.zero_add, Nat.lt_add_one, Nat.le_refl, Nat.zero_le, Nat.succ_ne_zero, not_false_eq_true, not_true_eq_false, false_implies, true_implies, forall_const, imp_self, true_or, or_true, eq_self, sI_zw, zw_zw, hI_zw, tg_zw, ln_zw, hR_zw, hL_zw, hN_zw, hM_zw, upd_s, upd_u, upd_ne, Classical.not_not, k_Nw_newTranslator, w2, t5, c2]; try clear hgo9 hW9)
  refine c_Tl_reset t a b c (nI (mny z + 1)) h2 _ t5 ?_
  simp only [aft]
  have nt : wn ≠ t := ne_tg (by rw [w2, t5]; decide)
  generalize ef : upd (upd (upd (upd (upd (upd (upd (upd (upd (hI h2 t) 0 a) 1 b) 2 c) 3 (nI 1)) 4 (nI 60)) 5 (nI 0)) 6 (nI 0)) 7 (nI 1000)) 10 (nI 0) = ft
  have c3 : hI (sL (zw h2 t ft) t 8 (nI (mny z + 1)).toInt64) wn 2 = nI (mny z + 1) := by
    rw [hI_sL, hI_zw_ne _ nt]; exact c2
  have w3 : tg (sL (zw h2 t ft) t 8 (nI (mny z + 1)).toInt64) wn = 1 := w2
  (obtain ⟨W9, hW9, hgo9⟩ := wp_ex (T_Nw_newTranslator l G) [] _; refine hgo9 200 _ _ _ _ ?_; simp -implicitDefEqProofs (disch := omega) only [hW9, inl, gate, Xq, tz_const, tz_iload, tz_lload, tz_dload, tz_aload, tz_istore, tz_astore, tz_lstore, tz_dstore, tz_iinc, tz_i1, tz_i2, tz_i2z, tz_l2, tz_l2z, tz_i2l, tz_l2i, tz_lcmp, tz_i2d, tz_d2, tz_dcmp, tz_dup, tz_dup2, tz_pop, tz_if, tz_icmp, tz_null, tz_goto, tz_sw, tz_getf, tz_puti, tz_putz, tz_putr, tz_putl, tz_iaload, tz_baload, tz_laload, tz_aaload, tz_iastore, tz_bastore, tz_lastore, tz_aastore, tz_alen, tz_new, tz_newa, tz_oinit, tz_iret, tz_zret, tz_lret, tz_dret, tz_aret, tz_vret, tz_throw, tz_callS, tz_callV, tz_callI, tz_callR, tz_pureS, tz_pureV, tz_callVH, lg, lset, lkill, lst1, lst2, entL, isRf, is1, vl, va_rf_none, va_rf_some, isRf_rf, is1_rf, i0, i1, bI_eq0, bI_eq1, nm_em, nI_eqP, nI_leP, nI_ltP, nN_e1, nN_e2, nN_l1, nN_l2, nN_l3, nN_l4, nI_add, pk_mul, vp_inN, nI_cl, n01, n10, P_i, P_ii, P_iii, f_Mo_at, f_Mo_map, f_Mo_contact, f_Mo_within, f_Mo_isPort, f_Hp_endpoint, f_Hp_nodeOf, f_Hp_portOf, f_Ma_max, f_Ma_min, f_Hp_isSetting, popN, rok, a1, noX, swc, mL, if_true, if_false, ↓reduceIte, cond_true, cond_false, true_and, and_true, List.length_cons, List.length_nil, List.nil_append, List.cons_append, List.append_nil, Option.toList, Nat.reduceEqDiff, Bool.false_eq_true, reduceCtorEq, Nat.reduceAdd, Nat.reduceLT, Nat.reduceLeDiff, Nat.reduceSub, List.replicate, Nat.zero_add, Nat.lt_add_one, Nat.le_refl, Nat.zero_le, Nat.succ_ne_zero, not_false_eq_true, not_true_eq_false, false_implies, true_implies, forall_const, imp_self, true_or, or_true, eq_self, sI_zw, zw_zw, hI_zw, tg_zw, ln_zw, hR_zw, hL_zw, hN_zw, hM_zw, upd_s, upd_u, upd_ne, Classical.not_not, k_Nw_newTranslator, w3, c3, pk_sub, Nat.add_sub_cancel]; try clear hgo9 hW9)
  have hw2 : WF h2 := f2.2.2.2.2
  have frZ : Fr wn 0 h2 (sL (zw h2 t ft) t 8 (nI (mny z + 1)).toInt64) := Fr.ints hw2 rfl rfl rfl (fun q hq => by
    have : q ≠ t := fun e => hq (by rw [e]; exact rt_gh sh2.2.1)
    exact ⟨hI_zw_ne _ this, rfl, hL_sLo this⟩)
  have y1' : mny (addTZ z net a b c) = mny z + 1 := mny_nI (by
    unfold addTZ wN
    rw [upd_ne (by omega), upd_ne (by omega), upd_ne (by omega), upd_ne (by omega), upd_ne (by omega), upd_ne (by omega), upd_ne (by omega), upd_ne (by omega)]
    unfold addZ
    rw [upd_ne (by omega), upd_ne (by omega), upd_ne (by omega), upd_ne (by omega), upd_s]) (by omega)
  obtain ⟨f0, f7, f8, f11⟩ := inv.2.2.1 (mny z) (Nat.le_refl _) hc
  have o0 : own (addTZ z net a b c) (mny z) = 0 := (own0 (by rw [addT_low (by omega) (by omega)]; exact f11)).2
  have same : ∀ q, q < hN h → q ≠ wn → q ≠ nA h wn → ¬ ndc h wn (mny z) q → same1 h (sL (zw h2 t ft) t 8 (nI (mny z + 1)).toInt64) q := by
    intro q hq q1 q2 q3
    have qn : q ≠ n := by
      intro e
      refine q3 ⟨3, [], ?_, by omega⟩
      rw [e]
      have := sd.2.1
      unfold gh at this ⊢
      rw [← f.2.1 n (by rw [← e]; exact hq)]
      exact this
    have q1' : q < hN h1 := by have := f.1.1; omega
    have s12 := (o q hq q1 q2).tr (o2 q q1' qn)
    have qt : q ≠ t := by
      intro e
      refine q3 ⟨4, [], ?_, by omega⟩
      rw [← s12.gh, e]
      exact sh2.2.1
    exact s12.tr ⟨rfl, hI_zw_ne _ qt, rfl, hL_sLo qt⟩
  refine hQ _ ?_ (((f.tr f2).tr frZ).mono (by omega))
  unfold NwR
  rw [y1']
  have lA1 : nA h wn < hN h := hw.lt (by rw [k.1.1.2.2.1]; decide)
  have nAn : nA h wn ≠ n := by
    intro e
    have q : tg h1 (nA h wn) = 11 := by unfold tg; rw [f.2.1 _ lA1]; exact k.1.1.2.2.1
    rw [e, n3] at q
    exact absurd q (by decide)
  have sA2 := o2 (nA h wn) (by have := f.1.1; omega) nAn
  have eA : nA (sL (zw h2 t ft) t 8 (nI (mny z + 1)).toInt64) wn = nA h wn := by
    show (hR h2 wn 0).getD 0 = (hR h wn 0).getD 0
    rw [sw2.2.2.1, x2]
  have sh3 : ShT (sL (zw h2 t ft) t 8 (nI (mny z + 1)).toInt64) wn (mny z) t := sh2.congr rfl rfl
  have n3' : tg h2 n = 3 := by
    unfold tg
    rw [f2.2.1 n (hw1.lt (by rw [n3]; decide))]
    exact n3
  have nnt : n ≠ t := ne_tg (by rw [n3', t5]; decide)
  have row : ∀ w, w ≤ 10 → w ≠ 7 → w ≠ 8 → addTZ z net a b c (16 + 16 * mny z + w) = (if w = 0 then nI 1 else if w = 1 then net else if w = 2 then a else if w = 3 then b else if w = 4 then c else if w = 5 then nI 1 else if w = 6 then nI 60 else if w = 9 then nI 1000 else nI (mny z + 1)) := by
    intro w hw' h7 h8
    have cs : w = 0 ∨ w = 1 ∨ w = 2 ∨ w = 3 ∨ w = 4 ∨ w = 5 ∨ w = 6 ∨ w = 9 ∨ w = 10 := by omega
    unfold addTZ wN addZ
    rcases cs with rfl | rfl | rfl | rfl | rfl | rfl | rfl | rfl | rfl <;> simp (disch := omega) only [upd_ne, upd_s] <;> rfl
  refine NwG.setN (i := mny z) hw k same (fun q hq => ?_) ?_ ?_ (fun j hj => ?_) (fun d hd => ?_) (addT_low (by omega) (by omega)) (fun q q1 q2 => addT_low (by omega) (by omega)) (fun i' hi' hne => ?_) (fun _ => ?_) (by omega) (fun i' hi' q => (inv_kn inv hi' q).2) (fun i' hi' => (inv.own i' (by omega)).2)
  · show hT h2 q = _
    rw [f2.2.1 q (by have := f.1.1; omega)]
    exact f.2.1 q hq
  · rw [hI_sL, hI_zw_ne _ nt, sw2.2.1]; exact x1
  · show hR h2 wn = _
    rw [sw2.2.2.1]; exact x2
  · show hR h2 (nA h wn) j = _
    rw [sA2.2.2.1]; exact y1 j hj
  · have hd' : hR h2 (nA h wn) (mny z) = some d := hd
    rw [sA2.2.2.1, y2] at hd'
    cases hd'
    refine ⟨n3', ?_, fun t' ht' => ?_⟩
    · show gh h2 n = _
      unfold gh
      rw [f2.2.1 n (hw1.lt (by rw [n3]; decide))]
      exact sd.2.1
    · have : hR h2 n 4 = some t' := ht'
      rw [r2] at this
      cases this
      exact sh3
  · refine ⟨by omega, own_eq (addT_low (by omega) (by omega)), own_eq (addT_low (by omega) (by omega)), fun w hw => addT_low (by omega) (by omega), fun w hw => addT_low (by unfold mA; omega) (by unfold mA; omega), fun w hw => addT_low (by unfold cA; omega) (by unfold cA; omega)⟩
  · have r0 := row 0 (by omega) (by omega) (by omega)
    have iN : hI (sL (zw h2 t ft) t 8 (nI (mny z + 1)).toInt64) n = upd (hoI (hI h1 n) net) 0 (nI 0) := by rw [hI_sL, hI_zw_ne _ nnt]; exact i2
    have iT : hI (sL (zw h2 t ft) t 8 (nI (mny z + 1)).toInt64) t = ft := by rw [hI_sL, hI_zw]
    have z12 : ∀ w, 12 ≤ w → w ≤ 14 → addTZ z net a b c (16 + 16 * mny z + w) = nN := by
      intro w w1 w2
      have cs : w = 12 ∨ w = 13 ∨ w = 14 := by omega
      unfold addTZ wN addZ
      rcases cs with rfl | rfl | rfl <;> simp (disch := omega) only [upd_ne, upd_s]
    refine ⟨n, ?_, ⟨fun q => ?_, fun _ => ?_, ?_, ?_, ?_⟩, fun q => ⟨t, r2, ⟨⟨?_, ?_, ?_, ?_, ?_, ?_, ?_, ?_⟩, ?_, ?_⟩, fun j hj => ?_⟩⟩
    · rw [eA]
      show hR h2 (nA h wn) (mny z) = _
      rw [sA2.2.2.1]; exact y2
    · have : addTZ z net a b c (16 + 16 * mny z) = nI 1 := r0
      rw [this] at q
      exact absurd q (by decide)
    · rw [iN, upd_s]
    · rw [iN, upd_ne (by omega)]; unfold hoI; rw [upd_ne (by omega), upd_ne (by omega), upd_s]; exact (row 1 (by omega) (by omega) (by omega)).symm
    · rw [iN, upd_ne (by omega)]; unfold hoI; rw [upd_ne (by omega), upd_s, z12 12 (by omega) (by omega), z12 13 (by omega) (by omega)]; rfl
    · rw [iN, upd_ne (by omega)]; unfold hoI; rw [upd_s, z12 14 (by omega) (by omega)]
    · rw [iT, ← ef]; simp (disch := omega) only [upd_ne, upd_s]; exact (row 2 (by omega) (by omega) (by omega)).symm
    · rw [iT, ← ef]; simp (disch := omega) only [upd_ne, upd_s]; exact (row 3 (by omega) (by omega) (by omega)).symm
    · rw [iT, ← ef]; simp (disch := omega) only [upd_ne, upd_s]; exact (row 4 (by omega) (by omega) (by omega)).symm
    · rw [iT, ← ef]; simp (disch := omega) only [upd_ne, upd_s]; exact (row 5 (by omega) (by omega) (by omega)).symm
    · rw [iT, ← ef]; simp (disch := omega) only [upd_ne, upd_s]; exact (row 6 (by omega) (by omega) (by omega)).symm
    · rw [iT, ← ef]; simp (disch := omega) only [upd_ne, upd_s]; rw [addT_low (by omega) (by omega)]; exact f7.symm
    · rw [iT, ← ef]; simp (disch := omega) only [upd_ne, upd_s]; rw [addT_low (by omega) (by omega)]; exact f8.symm
    · rw [iT, ← ef]; simp (disch := omega) only [upd_ne, upd_s]; exact (row 9 (by omega) (by omega) (by omega)).symm
    · rw [hL_sL]; exact congrArg Int32.toInt64 (row 10 (by omega) (by omega) (by omega)).symm
    · rw [iT, ← ef, upd_s, o0]
    · rw [o0] at hj; omega
end
