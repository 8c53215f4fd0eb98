/-! THE REFERENCE: questions -/
def k_Mo_count (l : Launch) (G : Gc) (pc : Nat) : Tr :=
  if pc < 16 then
   if pc < 5 then
    if pc < 2 then
     if pc < 1 then
      if pc = 0 then tz_aload 1 0 else dead
     else
      if pc = 1 then tz_iload 2 1 else dead
    else
     if pc < 3 then
      if pc = 2 then tz_const 3 (.int (nI 0)) else dead
     else
      if pc = 3 then tz_const 5 (.int (nI 11)) else dead
   else
    if pc < 11 then
     if pc < 8 then
      if pc = 5 then tz_pureS 8 3 P_Mo_within f_Mo_within else dead
     else
      if pc = 8 then tz_if 11 15 (fun a => a = 0) else dead
    else
     if pc < 12 then
      if pc = 11 then tz_const 12 (.int (nI 0)) else dead
     else
      if pc < 15 then
       if pc = 12 then tz_goto 16 else dead
      else
       if pc = 15 then tz_const 16 (.int (nI 1)) else dead
  else
   if pc < 27 then
    if pc < 20 then
     if pc < 19 then
      if pc = 16 then tz_puti 19 7 0 else dead
     else
      if pc = 19 then tz_aload 20 0 else dead
    else
     if pc < 23 then
      if pc = 20 then tz_getf 23 7 0 0 else dead
     else
      if pc < 26 then
       if pc = 23 then tz_if 26 30 (fun a => a ≤ 0) else dead
      else
       if pc = 26 then tz_const 27 (.int (nI 0)) else dead
   else
    if pc < 31 then
     if pc < 30 then
      if pc = 27 then tz_goto 35 else dead
     else
      if pc = 30 then tz_aload 31 0 else dead
    else
     if pc < 32 then
      if pc = 31 then tz_iload 32 1 else dead
     else
      if pc < 35 then
       if pc = 32 then tz_pureV 35 1 7 P_Mo_counted f_Mo_counted else dead
      else
       if pc = 35 then tz_iret else dead
set_option maxRecDepth 100000 in
theorem T_Mo_count (l : Launch) (G : Gc) : TabOK l G M_Mo_count (k_Mo_count l G) := by
  intro pc
  unfold k_Mo_count
  exact
   (sd_br
    (sd_br
     (sd_br
      (sd_br
       (sd_lf (sd_aload_n (k := 0) (by decide +kernel : decode prog_9_method_58_code 0 = .ok (.aload_n 0, 1))))
       (sd_lf (sd_iload_n (k := 1) (by decide +kernel : decode prog_9_method_58_code 1 = .ok (.iload_n 1, 1)))))
      (sd_br
       (sd_lf (sd_iconst (by decide +kernel : decode prog_9_method_58_code 2 = .ok (.iconst 0, 1)) (by decide +kernel)))
       (sd_lf (sd_bipush (by decide +kernel : decode prog_9_method_58_code 3 = .ok (.bipush 11, 2)) (by decide +kernel)))))
     (sd_br
      (sd_br
       (sd_lf (sd_pureS (sd_callS (by decide +kernel : decode prog_9_method_58_code 5 = .ok (.invokestatic 36, 3)) ok_Mo_within (gm 990 (by decide +kernel) rfl) (gm 991 (by decide +kernel) rfl) (by decide +kernel) rfl rfl) c_Mo_within))
       (sd_lf (sd_if_eq (by decide +kernel : decode prog_9_method_58_code 8 = .ok (.ifCond .eq 7, 3)) (by decide +kernel))))
      (sd_br
       (sd_lf (sd_iconst (by decide +kernel : decode prog_9_method_58_code 11 = .ok (.iconst 0, 1)) (by decide +kernel)))
       (sd_br
        (sd_lf (sd_goto (by decide +kernel : decode prog_9_method_58_code 12 = .ok (.goto 4, 3)) (by decide +kernel)))
        (sd_lf (sd_iconst (by decide +kernel : decode prog_9_method_58_code 15 = .ok (.iconst 1, 1)) (by decide +kernel)))))))
    (sd_br
     (sd_br
      (sd_br
       (sd_lf (sd_puti (q := (RX7, TX7, 16)) (by decide +kernel : decode prog_9_method_58_code 16 = .ok (.putfield 32, 3)) rfl (by decide +kernel) (gm 912 (by decide +kernel) rfl) rfl rfl (Or.inl rfl)))
       (sd_lf (sd_aload_n (k := 0) (by decide +kernel : decode prog_9_method_58_code 19 = .ok (.aload_n 0, 1)))))
      (sd_br
       (sd_lf (sd_getf (q := (RX7, TX7, 16)) (by decide +kernel : decode prog_9_method_58_code 20 = .ok (.getfield 32, 3)) rfl (by decide +kernel) (gm 912 (by decide +kernel) rfl)))
       (sd_br
        (sd_lf (sd_if_le (by decide +kernel : decode prog_9_method_58_code 23 = .ok (.ifCond .le 7, 3)) (by decide +kernel)))
        (sd_lf (sd_iconst (by decide +kernel : decode prog_9_method_58_code 26 = .ok (.iconst 0, 1)) (by decide +kernel))))))
     (sd_br
      (sd_br
       (sd_lf (sd_goto (by decide +kernel : decode prog_9_method_58_code 27 = .ok (.goto 8, 3)) (by decide +kernel)))
       (sd_lf (sd_aload_n (k := 0) (by decide +kernel : decode prog_9_method_58_code 30 = .ok (.aload_n 0, 1)))))
      (sd_br
       (sd_lf (sd_iload_n (k := 1) (by decide +kernel : decode prog_9_method_58_code 31 = .ok (.iload_n 1, 1))))
       (sd_br
        (sd_lf (sd_pureV (sd_callV (q := (RX7, TX7, 16)) (by decide +kernel : decode prog_9_method_58_code 32 = .ok (.invokevirtual 196, 3)) ok_Mo_counted (gm 1179 (by decide +kernel) rfl) (gm 1181 (by decide +kernel) rfl) (gm 59 (by decide +kernel) rfl) rfl rfl (by decide +kernel) rfl rfl) c_Mo_counted))
        (sd_lf (sd_iret (by decide +kernel : decode prog_9_method_58_code 35 = .ok (.ireturn, 1)) rfl)))))))
def k_Mo_node (l : Launch) (G : Gc) (pc : Nat) : Tr :=
  if pc < 24 then
   if pc < 10 then
    if pc < 3 then
     if pc < 1 then
      if pc = 0 then tz_aload 1 0 else dead
     else
      if pc < 2 then
       if pc = 1 then tz_aload 2 0 else dead
      else
       if pc = 2 then tz_iload 3 1 else dead
    else
     if pc < 6 then
      if pc = 3 then tz_pureV 6 1 7 P_Mo_isNode f_Mo_isNode else dead
     else
      if pc < 9 then
       if pc = 6 then tz_if 9 13 (fun a => ¬ a = 0) else dead
      else
       if pc = 9 then tz_const 10 (.int (nI 1)) else dead
   else
    if pc < 15 then
     if pc < 13 then
      if pc = 10 then tz_goto 28 else dead
     else
      if pc < 14 then
       if pc = 13 then tz_iload 14 2 else dead
      else
       if pc = 14 then tz_const 15 (.int (nI 0)) else dead
    else
     if pc < 20 then
      if pc < 17 then
       if pc = 15 then tz_const 17 (.int (nI 6)) else dead
      else
       if pc = 17 then tz_pureS 20 3 P_Mo_within f_Mo_within else dead
     else
      if pc < 23 then
       if pc = 20 then tz_if 23 27 (fun a => a = 0) else dead
      else
       if pc = 23 then tz_const 24 (.int (nI 0)) else dead
  else
   if pc < 38 then
    if pc < 31 then
     if pc < 27 then
      if pc = 24 then tz_goto 28 else dead
     else
      if pc < 28 then
       if pc = 27 then tz_const 28 (.int (nI 2)) else dead
      else
       if pc = 28 then tz_puti 31 7 0 else dead
    else
     if pc < 32 then
      if pc = 31 then tz_aload 32 0 else dead
     else
      if pc < 35 then
       if pc = 32 then tz_getf 35 7 0 0 else dead
      else
       if pc = 35 then tz_if 38 42 (fun a => a ≤ 0) else dead
   else
    if pc < 43 then
     if pc < 39 then
      if pc = 38 then tz_const 39 (.int (nI 0)) else dead
     else
      if pc < 42 then
       if pc = 39 then tz_goto 48 else dead
      else
       if pc = 42 then tz_aload 43 0 else dead
    else
     if pc < 45 then
      if pc < 44 then
       if pc = 43 then tz_iload 44 1 else dead
      else
       if pc = 44 then tz_iload 45 2 else dead
     else
      if pc < 48 then
       if pc = 45 then tz_pureV 48 2 7 P_Mo_nodeNow f_Mo_nodeNow else dead
      else
       if pc = 48 then tz_iret else dead
set_option maxRecDepth 100000 in
theorem T_Mo_node (l : Launch) (G : Gc) : TabOK l G M_Mo_node (k_Mo_node l G) := by
  intro pc
  unfold k_Mo_node
  exact
   (sd_br
    (sd_br
     (sd_br
      (sd_br
       (sd_lf (sd_aload_n (k := 0) (by decide +kernel : decode prog_9_method_63_code 0 = .ok (.aload_n 0, 1))))
       (sd_br
        (sd_lf (sd_aload_n (k := 0) (by decide +kernel : decode prog_9_method_63_code 1 = .ok (.aload_n 0, 1))))
        (sd_lf (sd_iload_n (k := 1) (by decide +kernel : decode prog_9_method_63_code 2 = .ok (.iload_n 1, 1))))))
      (sd_br
       (sd_lf (sd_pureV (sd_callV (q := (RX7, TX7, 16)) (by decide +kernel : decode prog_9_method_63_code 3 = .ok (.invokevirtual 40, 3)) ok_Mo_isNode (gm 986 (by decide +kernel) rfl) (gm 988 (by decide +kernel) rfl) (gm 31 (by decide +kernel) rfl) rfl rfl (by decide +kernel) rfl rfl) c_Mo_isNode))
       (sd_br
        (sd_lf (sd_if_ne (by decide +kernel : decode prog_9_method_63_code 6 = .ok (.ifCond .ne 7, 3)) (by decide +kernel)))
        (sd_lf (sd_iconst (by decide +kernel : decode prog_9_method_63_code 9 = .ok (.iconst 1, 1)) (by decide +kernel))))))
     (sd_br
      (sd_br
       (sd_lf (sd_goto (by decide +kernel : decode prog_9_method_63_code 10 = .ok (.goto 18, 3)) (by decide +kernel)))
       (sd_br
        (sd_lf (sd_iload_n (k := 2) (by decide +kernel : decode prog_9_method_63_code 13 = .ok (.iload_n 2, 1))))
        (sd_lf (sd_iconst (by decide +kernel : decode prog_9_method_63_code 14 = .ok (.iconst 0, 1)) (by decide +kernel)))))
      (sd_br
       (sd_br
        (sd_lf (sd_bipush (by decide +kernel : decode prog_9_method_63_code 15 = .ok (.bipush 6, 2)) (by decide +kernel)))
        (sd_lf (sd_pureS (sd_callS (by decide +kernel : decode prog_9_method_63_code 17 = .ok (.invokestatic 36, 3)) ok_Mo_within (gm 990 (by decide +kernel) rfl) (gm 991 (by decide +kernel) rfl) (by decide +kernel) rfl rfl) c_Mo_within)))
       (sd_br
        (sd_lf (sd_if_eq (by decide +kernel : decode prog_9_method_63_code 20 = .ok (.ifCond .eq 7, 3)) (by decide +kernel)))
        (sd_lf (sd_iconst (by decide +kernel : decode prog_9_method_63_code 23 = .ok (.iconst 0, 1)) (by decide +kernel)))))))
    (sd_br
     (sd_br
      (sd_br
       (sd_lf (sd_goto (by decide +kernel : decode prog_9_method_63_code 24 = .ok (.goto 4, 3)) (by decide +kernel)))
       (sd_br
        (sd_lf (sd_iconst (by decide +kernel : decode prog_9_method_63_code 27 = .ok (.iconst 2, 1)) (by decide +kernel)))
        (sd_lf (sd_puti (q := (RX7, TX7, 16)) (by decide +kernel : decode prog_9_method_63_code 28 = .ok (.putfield 32, 3)) rfl (by decide +kernel) (gm 912 (by decide +kernel) rfl) rfl rfl (Or.inl rfl)))))
      (sd_br
       (sd_lf (sd_aload_n (k := 0) (by decide +kernel : decode prog_9_method_63_code 31 = .ok (.aload_n 0, 1))))
       (sd_br
        (sd_lf (sd_getf (q := (RX7, TX7, 16)) (by decide +kernel : decode prog_9_method_63_code 32 = .ok (.getfield 32, 3)) rfl (by decide +kernel) (gm 912 (by decide +kernel) rfl)))
        (sd_lf (sd_if_le (by decide +kernel : decode prog_9_method_63_code 35 = .ok (.ifCond .le 7, 3)) (by decide +kernel))))))
     (sd_br
      (sd_br
       (sd_lf (sd_iconst (by decide +kernel : decode prog_9_method_63_code 38 = .ok (.iconst 0, 1)) (by decide +kernel)))
       (sd_br
        (sd_lf (sd_goto (by decide +kernel : decode prog_9_method_63_code 39 = .ok (.goto 9, 3)) (by decide +kernel)))
        (sd_lf (sd_aload_n (k := 0) (by decide +kernel : decode prog_9_method_63_code 42 = .ok (.aload_n 0, 1))))))
      (sd_br
       (sd_br
        (sd_lf (sd_iload_n (k := 1) (by decide +kernel : decode prog_9_method_63_code 43 = .ok (.iload_n 1, 1))))
        (sd_lf (sd_iload_n (k := 2) (by decide +kernel : decode prog_9_method_63_code 44 = .ok (.iload_n 2, 1)))))
       (sd_br
        (sd_lf (sd_pureV (sd_callV (q := (RX7, TX7, 16)) (by decide +kernel : decode prog_9_method_63_code 45 = .ok (.invokevirtual 208, 3)) ok_Mo_nodeNow (gm 1195 (by decide +kernel) rfl) (gm 1197 (by decide +kernel) rfl) (gm 62 (by decide +kernel) rfl) rfl rfl (by decide +kernel) rfl rfl) c_Mo_nodeNow))
        (sd_lf (sd_iret (by decide +kernel : decode prog_9_method_63_code 48 = .ok (.ireturn, 1)) rfl)))))))
def k_Mo_translator (l : Launch) (G : Gc) (pc : Nat) : Tr :=
  if pc < 24 then
   if pc < 10 then
    if pc < 3 then
     if pc < 1 then
      if pc = 0 then tz_aload 1 0 else dead
     else
      if pc < 2 then
       if pc = 1 then tz_aload 2 0 else dead
      else
       if pc = 2 then tz_iload 3 1 else dead
    else
     if pc < 6 then
      if pc = 3 then tz_pureV 6 1 7 P_Mo_isTranslator f_Mo_isTranslator else dead
     else
      if pc < 9 then
       if pc = 6 then tz_if 9 13 (fun a => ¬ a = 0) else dead
      else
       if pc = 9 then tz_const 10 (.int (nI 1)) else dead
   else
    if pc < 15 then
     if pc < 13 then
      if pc = 10 then tz_goto 28 else dead
     else
      if pc < 14 then
       if pc = 13 then tz_iload 14 2 else dead
      else
       if pc = 14 then tz_const 15 (.int (nI 0)) else dead
    else
     if pc < 20 then
      if pc < 17 then
       if pc = 15 then tz_const 17 (.int (nI 8)) else dead
      else
       if pc = 17 then tz_pureS 20 3 P_Mo_within f_Mo_within else dead
     else
      if pc < 23 then
       if pc = 20 then tz_if 23 27 (fun a => a = 0) else dead
      else
       if pc = 23 then tz_const 24 (.int (nI 0)) else dead
  else
   if pc < 38 then
    if pc < 31 then
     if pc < 27 then
      if pc = 24 then tz_goto 28 else dead
     else
      if pc < 28 then
       if pc = 27 then tz_const 28 (.int (nI 2)) else dead
      else
       if pc = 28 then tz_puti 31 7 0 else dead
    else
     if pc < 32 then
      if pc = 31 then tz_aload 32 0 else dead
     else
      if pc < 35 then
       if pc = 32 then tz_getf 35 7 0 0 else dead
      else
       if pc = 35 then tz_if 38 42 (fun a => a ≤ 0) else dead
   else
    if pc < 43 then
     if pc < 39 then
      if pc = 38 then tz_const 39 (.int (nI 0)) else dead
     else
      if pc < 42 then
       if pc = 39 then tz_goto 48 else dead
      else
       if pc = 42 then tz_aload 43 0 else dead
    else
     if pc < 45 then
      if pc < 44 then
       if pc = 43 then tz_iload 44 1 else dead
      else
       if pc = 44 then tz_iload 45 2 else dead
     else
      if pc < 48 then
       if pc = 45 then tz_pureV 48 2 7 P_Mo_translatorNow f_Mo_translatorNow else dead
      else
       if pc = 48 then tz_iret else dead
set_option maxRecDepth 100000 in
theorem T_Mo_translator (l : Launch) (G : Gc) : TabOK l G M_Mo_translator (k_Mo_translator l G) := by
  intro pc
  unfold k_Mo_translator
  exact
   (sd_br
    (sd_br
     (sd_br
      (sd_br
       (sd_lf (sd_aload_n (k := 0) (by decide +kernel : decode prog_9_method_65_code 0 = .ok (.aload_n 0, 1))))
       (sd_br
        (sd_lf (sd_aload_n (k := 0) (by decide +kernel : decode prog_9_method_65_code 1 = .ok (.aload_n 0, 1))))
        (sd_lf (sd_iload_n (k := 1) (by decide +kernel : decode prog_9_method_65_code 2 = .ok (.iload_n 1, 1))))))
      (sd_br
       (sd_lf (sd_pureV (sd_callV (q := (RX7, TX7, 16)) (by decide +kernel : decode prog_9_method_65_code 3 = .ok (.invokevirtual 55, 3)) ok_Mo_isTranslator (gm 982 (by decide +kernel) rfl) (gm 984 (by decide +kernel) rfl) (gm 30 (by decide +kernel) rfl) rfl rfl (by decide +kernel) rfl rfl) c_Mo_isTranslator))
       (sd_br
        (sd_lf (sd_if_ne (by decide +kernel : decode prog_9_method_65_code 6 = .ok (.ifCond .ne 7, 3)) (by decide +kernel)))
        (sd_lf (sd_iconst (by decide +kernel : decode prog_9_method_65_code 9 = .ok (.iconst 1, 1)) (by decide +kernel))))))
     (sd_br
      (sd_br
       (sd_lf (sd_goto (by decide +kernel : decode prog_9_method_65_code 10 = .ok (.goto 18, 3)) (by decide +kernel)))
       (sd_br
        (sd_lf (sd_iload_n (k := 2) (by decide +kernel : decode prog_9_method_65_code 13 = .ok (.iload_n 2, 1))))
        (sd_lf (sd_iconst (by decide +kernel : decode prog_9_method_65_code 14 = .ok (.iconst 0, 1)) (by decide +kernel)))))
      (sd_br
       (sd_br
        (sd_lf (sd_bipush (by decide +kernel : decode prog_9_method_65_code 15 = .ok (.bipush 8, 2)) (by decide +kernel)))
        (sd_lf (sd_pureS (sd_callS (by decide +kernel : decode prog_9_method_65_code 17 = .ok (.invokestatic 36, 3)) ok_Mo_within (gm 990 (by decide +kernel) rfl) (gm 991 (by decide +kernel) rfl) (by decide +kernel) rfl rfl) c_Mo_within)))
       (sd_br
        (sd_lf (sd_if_eq (by decide +kernel : decode prog_9_method_65_code 20 = .ok (.ifCond .eq 7, 3)) (by decide +kernel)))
        (sd_lf (sd_iconst (by decide +kernel : decode prog_9_method_65_code 23 = .ok (.iconst 0, 1)) (by decide +kernel)))))))
    (sd_br
     (sd_br
      (sd_br
       (sd_lf (sd_goto (by decide +kernel : decode prog_9_method_65_code 24 = .ok (.goto 4, 3)) (by decide +kernel)))
       (sd_br
        (sd_lf (sd_iconst (by decide +kernel : decode prog_9_method_65_code 27 = .ok (.iconst 2, 1)) (by decide +kernel)))
        (sd_lf (sd_puti (q := (RX7, TX7, 16)) (by decide +kernel : decode prog_9_method_65_code 28 = .ok (.putfield 32, 3)) rfl (by decide +kernel) (gm 912 (by decide +kernel) rfl) rfl rfl (Or.inl rfl)))))
      (sd_br
       (sd_lf (sd_aload_n (k := 0) (by decide +kernel : decode prog_9_method_65_code 31 = .ok (.aload_n 0, 1))))
       (sd_br
        (sd_lf (sd_getf (q := (RX7, TX7, 16)) (by decide +kernel : decode prog_9_method_65_code 32 = .ok (.getfield 32, 3)) rfl (by decide +kernel) (gm 912 (by decide +kernel) rfl)))
        (sd_lf (sd_if_le (by decide +kernel : decode prog_9_method_65_code 35 = .ok (.ifCond .le 7, 3)) (by decide +kernel))))))
     (sd_br
      (sd_br
       (sd_lf (sd_iconst (by decide +kernel : decode prog_9_method_65_code 38 = .ok (.iconst 0, 1)) (by decide +kernel)))
       (sd_br
        (sd_lf (sd_goto (by decide +kernel : decode prog_9_method_65_code 39 = .ok (.goto 9, 3)) (by decide +kernel)))
        (sd_lf (sd_aload_n (k := 0) (by decide +kernel : decode prog_9_method_65_code 42 = .ok (.aload_n 0, 1))))))
      (sd_br
       (sd_br
        (sd_lf (sd_iload_n (k := 1) (by decide +kernel : decode prog_9_method_65_code 43 = .ok (.iload_n 1, 1))))
        (sd_lf (sd_iload_n (k := 2) (by decide +kernel : decode prog_9_method_65_code 44 = .ok (.iload_n 2, 1)))))
       (sd_br
        (sd_lf (sd_pureV (sd_callV (q := (RX7, TX7, 16)) (by decide +kernel : decode prog_9_method_65_code 45 = .ok (.invokevirtual 211, 3)) ok_Mo_translatorNow (gm 1215 (by decide +kernel) rfl) (gm 1217 (by decide +kernel) rfl) (gm 66 (by decide +kernel) rfl) rfl rfl (by decide +kernel) rfl rfl) c_Mo_translatorNow))
        (sd_lf (sd_iret (by decide +kernel : decode prog_9_method_65_code 48 = .ok (.ireturn, 1)) rfl)))))))
def k_Mo_mapping (l : Launch) (G : Gc) (pc : Nat) : Tr :=
  if pc < 39 then
   if pc < 20 then
    if pc < 9 then
     if pc < 2 then
      if pc < 1 then
       if pc = 0 then tz_aload 1 0 else dead
      else
       if pc = 1 then tz_iload 2 1 else dead
     else
      if pc < 5 then
       if pc = 2 then tz_pureV 5 1 7 P_Mo_isTranslator f_Mo_isTranslator else dead
      else
       if pc < 8 then
        if pc = 5 then tz_if 8 33 (fun a => a = 0) else dead
       else
        if pc = 8 then tz_iload 9 2 else dead
    else
     if pc < 14 then
      if pc < 10 then
       if pc = 9 then tz_const 10 (.int (nI 0)) else dead
      else
       if pc < 11 then
        if pc = 10 then tz_aload 11 0 else dead
       else
        if pc = 11 then tz_getf 14 7 1 1 else dead
     else
      if pc < 15 then
       if pc = 14 then tz_iload 15 1 else dead
      else
       if pc < 17 then
        if pc = 15 then tz_const 17 (.int (nI 11)) else dead
       else
        if pc = 17 then tz_pureS 20 2 P_Mo_at f_Mo_at else dead
   else
    if pc < 29 then
     if pc < 22 then
      if pc < 21 then
       if pc = 20 then tz_iaload 21 else dead
      else
       if pc = 21 then tz_const 22 (.int (nI 1)) else dead
     else
      if pc < 23 then
       if pc = 22 then tz_i2 23 (fun a b => a - b) else dead
      else
       if pc < 26 then
        if pc = 23 then tz_pureS 26 3 P_Mo_within f_Mo_within else dead
       else
        if pc = 26 then tz_if 29 33 (fun a => a = 0) else dead
    else
     if pc < 34 then
      if pc < 30 then
       if pc = 29 then tz_const 30 (.int (nI 1)) else dead
      else
       if pc < 33 then
        if pc = 30 then tz_goto 34 else dead
       else
        if pc = 33 then tz_const 34 (.int (nI 0)) else dead
     else
      if pc < 36 then
       if pc = 34 then tz_istore 36 4 else dead
      else
       if pc < 37 then
        if pc = 36 then tz_aload 37 0 else dead
       else
        if pc = 37 then tz_iload 39 4 else dead
  else
   if pc < 61 then
    if pc < 48 then
     if pc < 43 then
      if pc < 42 then
       if pc = 39 then tz_if 42 46 (fun a => ¬ a = 0) else dead
      else
       if pc = 42 then tz_const 43 (.int (nI 1)) else dead
     else
      if pc < 46 then
       if pc = 43 then tz_goto 61 else dead
      else
       if pc < 47 then
        if pc = 46 then tz_iload 47 3 else dead
       else
        if pc = 47 then tz_const 48 (.int (nI 0)) else dead
    else
     if pc < 56 then
      if pc < 50 then
       if pc = 48 then tz_const 50 (.int (nI 6)) else dead
      else
       if pc < 53 then
        if pc = 50 then tz_pureS 53 3 P_Mo_within f_Mo_within else dead
       else
        if pc = 53 then tz_if 56 60 (fun a => a = 0) else dead
     else
      if pc < 57 then
       if pc = 56 then tz_const 57 (.int (nI 0)) else dead
      else
       if pc < 60 then
        if pc = 57 then tz_goto 61 else dead
       else
        if pc = 60 then tz_const 61 (.int (nI 2)) else dead
   else
    if pc < 75 then
     if pc < 68 then
      if pc < 64 then
       if pc = 61 then tz_puti 64 7 0 else dead
      else
       if pc < 65 then
        if pc = 64 then tz_aload 65 0 else dead
       else
        if pc = 65 then tz_getf 68 7 0 0 else dead
     else
      if pc < 71 then
       if pc = 68 then tz_if 71 75 (fun a => a ≤ 0) else dead
      else
       if pc < 72 then
        if pc = 71 then tz_const 72 (.int (nI 0)) else dead
       else
        if pc = 72 then tz_goto 82 else dead
    else
     if pc < 78 then
      if pc < 76 then
       if pc = 75 then tz_aload 76 0 else dead
      else
       if pc < 77 then
        if pc = 76 then tz_iload 77 1 else dead
       else
        if pc = 77 then tz_iload 78 2 else dead
     else
      if pc < 79 then
       if pc = 78 then tz_iload 79 3 else dead
      else
       if pc < 82 then
        if pc = 79 then tz_pureV 82 3 7 P_Mo_mappingNow f_Mo_mappingNow else dead
       else
        if pc = 82 then tz_iret else dead
set_option maxRecDepth 100000 in
theorem T_Mo_mapping (l : Launch) (G : Gc) : TabOK l G M_Mo_mapping (k_Mo_mapping l G) := by
  intro pc
  unfold k_Mo_mapping
  exact
   (sd_br
    (sd_br
     (sd_br
      (sd_br
       (sd_br
        (sd_lf (sd_aload_n (k := 0) (by decide +kernel : decode prog_9_method_67_code 0 = .ok (.aload_n 0, 1))))
        (sd_lf (sd_iload_n (k := 1) (by decide +kernel : decode prog_9_method_67_code 1 = .ok (.iload_n 1, 1)))))
       (sd_br
        (sd_lf (sd_pureV (sd_callV (q := (RX7, TX7, 16)) (by decide +kernel : decode prog_9_method_67_code 2 = .ok (.invokevirtual 55, 3)) ok_Mo_isTranslator (gm 982 (by decide +kernel) rfl) (gm 984 (by decide +kernel) rfl) (gm 30 (by decide +kernel) rfl) rfl rfl (by decide +kernel) rfl rfl) c_Mo_isTranslator))
        (sd_br
         (sd_lf (sd_if_eq (by decide +kernel : decode prog_9_method_67_code 5 = .ok (.ifCond .eq 28, 3)) (by decide +kernel)))
         (sd_lf (sd_iload_n (k := 2) (by decide +kernel : decode prog_9_method_67_code 8 = .ok (.iload_n 2, 1)))))))
      (sd_br
       (sd_br
        (sd_lf (sd_iconst (by decide +kernel : decode prog_9_method_67_code 9 = .ok (.iconst 0, 1)) (by decide +kernel)))
        (sd_br
         (sd_lf (sd_aload_n (k := 0) (by decide +kernel : decode prog_9_method_67_code 10 = .ok (.aload_n 0, 1))))
         (sd_lf (sd_getf (q := (RX7, TX7, 16)) (by decide +kernel : decode prog_9_method_67_code 11 = .ok (.getfield 7, 3)) rfl (by decide +kernel) (gm 913 (by decide +kernel) rfl)))))
       (sd_br
        (sd_lf (sd_iload_n (k := 1) (by decide +kernel : decode prog_9_method_67_code 14 = .ok (.iload_n 1, 1))))
        (sd_br
         (sd_lf (sd_bipush (by decide +kernel : decode prog_9_method_67_code 15 = .ok (.bipush 11, 2)) (by decide +kernel)))
         (sd_lf (sd_pureS (sd_callS (by decide +kernel : decode prog_9_method_67_code 17 = .ok (.invokestatic 44, 3)) ok_Mo_at (gm 993 (by decide +kernel) rfl) (gm 994 (by decide +kernel) rfl) (by decide +kernel) rfl rfl) c_Mo_at))))))
     (sd_br
      (sd_br
       (sd_br
        (sd_lf (sd_iaload (by decide +kernel : decode prog_9_method_67_code 20 = .ok (.iaload, 1))))
        (sd_lf (sd_iconst (by decide +kernel : decode prog_9_method_67_code 21 = .ok (.iconst 1, 1)) (by decide +kernel))))
       (sd_br
        (sd_lf (sd_isub (by decide +kernel : decode prog_9_method_67_code 22 = .ok (.isub, 1))))
        (sd_br
         (sd_lf (sd_pureS (sd_callS (by decide +kernel : decode prog_9_method_67_code 23 = .ok (.invokestatic 36, 3)) ok_Mo_within (gm 990 (by decide +kernel) rfl) (gm 991 (by decide +kernel) rfl) (by decide +kernel) rfl rfl) c_Mo_within))
         (sd_lf (sd_if_eq (by decide +kernel : decode prog_9_method_67_code 26 = .ok (.ifCond .eq 7, 3)) (by decide +kernel))))))
      (sd_br
       (sd_br
        (sd_lf (sd_iconst (by decide +kernel : decode prog_9_method_67_code 29 = .ok (.iconst 1, 1)) (by decide +kernel)))
        (sd_br
         (sd_lf (sd_goto (by decide +kernel : decode prog_9_method_67_code 30 = .ok (.goto 4, 3)) (by decide +kernel)))
         (sd_lf (sd_iconst (by decide +kernel : decode prog_9_method_67_code 33 = .ok (.iconst 0, 1)) (by decide +kernel)))))
       (sd_br
        (sd_lf (sd_istore (by decide +kernel : decode prog_9_method_67_code 34 = .ok (.istore 4, 2))))
        (sd_br
         (sd_lf (sd_aload_n (k := 0) (by decide +kernel : decode prog_9_method_67_code 36 = .ok (.aload_n 0, 1))))
         (sd_lf (sd_iload (by decide +kernel : decode prog_9_method_67_code 37 = .ok (.iload 4, 2)))))))))
    (sd_br
     (sd_br
      (sd_br
       (sd_br
        (sd_lf (sd_if_ne (by decide +kernel : decode prog_9_method_67_code 39 = .ok (.ifCond .ne 7, 3)) (by decide +kernel)))
        (sd_lf (sd_iconst (by decide +kernel : decode prog_9_method_67_code 42 = .ok (.iconst 1, 1)) (by decide +kernel))))
       (sd_br
        (sd_lf (sd_goto (by decide +kernel : decode prog_9_method_67_code 43 = .ok (.goto 18, 3)) (by decide +kernel)))
        (sd_br
         (sd_lf (sd_iload_n (k := 3) (by decide +kernel : decode prog_9_method_67_code 46 = .ok (.iload_n 3, 1))))
         (sd_lf (sd_iconst (by decide +kernel : decode prog_9_method_67_code 47 = .ok (.iconst 0, 1)) (by decide +kernel))))))
      (sd_br
       (sd_br
        (sd_lf (sd_bipush (by decide +kernel : decode prog_9_method_67_code 48 = .ok (.bipush 6, 2)) (by decide +kernel)))
        (sd_br
         (sd_lf (sd_pureS (sd_callS (by decide +kernel : decode prog_9_method_67_code 50 = .ok (.invokestatic 36, 3)) ok_Mo_within (gm 990 (by decide +kernel) rfl) (gm 991 (by decide +kernel) rfl) (by decide +kernel) rfl rfl) c_Mo_within))
         (sd_lf (sd_if_eq (by decide +kernel : decode prog_9_method_67_code 53 = .ok (.ifCond .eq 7, 3)) (by decide +kernel)))))
       (sd_br
        (sd_lf (sd_iconst (by decide +kernel : decode prog_9_method_67_code 56 = .ok (.iconst 0, 1)) (by decide +kernel)))
        (sd_br
         (sd_lf (sd_goto (by decide +kernel : decode prog_9_method_67_code 57 = .ok (.goto 4, 3)) (by decide +kernel)))
         (sd_lf (sd_iconst (by decide +kernel : decode prog_9_method_67_code 60 = .ok (.iconst 2, 1)) (by decide +kernel)))))))
     (sd_br
      (sd_br
       (sd_br
        (sd_lf (sd_puti (q := (RX7, TX7, 16)) (by decide +kernel : decode prog_9_method_67_code 61 = .ok (.putfield 32, 3)) rfl (by decide +kernel) (gm 912 (by decide +kernel) rfl) rfl rfl (Or.inl rfl)))
        (sd_br
         (sd_lf (sd_aload_n (k := 0) (by decide +kernel : decode prog_9_method_67_code 64 = .ok (.aload_n 0, 1))))
         (sd_lf (sd_getf (q := (RX7, TX7, 16)) (by decide +kernel : decode prog_9_method_67_code 65 = .ok (.getfield 32, 3)) rfl (by decide +kernel) (gm 912 (by decide +kernel) rfl)))))
       (sd_br
        (sd_lf (sd_if_le (by decide +kernel : decode prog_9_method_67_code 68 = .ok (.ifCond .le 7, 3)) (by decide +kernel)))
        (sd_br
         (sd_lf (sd_iconst (by decide +kernel : decode prog_9_method_67_code 71 = .ok (.iconst 0, 1)) (by decide +kernel)))
         (sd_lf (sd_goto (by decide +kernel : decode prog_9_method_67_code 72 = .ok (.goto 10, 3)) (by decide +kernel))))))
      (sd_br
       (sd_br
        (sd_lf (sd_aload_n (k := 0) (by decide +kernel : decode prog_9_method_67_code 75 = .ok (.aload_n 0, 1))))
        (sd_br
         (sd_lf (sd_iload_n (k := 1) (by decide +kernel : decode prog_9_method_67_code 76 = .ok (.iload_n 1, 1))))
         (sd_lf (sd_iload_n (k := 2) (by decide +kernel : decode prog_9_method_67_code 77 = .ok (.iload_n 2, 1))))))
       (sd_br
        (sd_lf (sd_iload_n (k := 3) (by decide +kernel : decode prog_9_method_67_code 78 = .ok (.iload_n 3, 1))))
        (sd_br
         (sd_lf (sd_pureV (sd_callV (q := (RX7, TX7, 16)) (by decide +kernel : decode prog_9_method_67_code 79 = .ok (.invokevirtual 214, 3)) ok_Mo_mappingNow (gm 1223 (by decide +kernel) rfl) (gm 1225 (by decide +kernel) rfl) (gm 67 (by decide +kernel) rfl) rfl rfl (by decide +kernel) rfl rfl) c_Mo_mappingNow))
         (sd_lf (sd_iret (by decide +kernel : decode prog_9_method_67_code 82 = .ok (.ireturn, 1)) rfl))))))))
def k_Mo_timeLeft (l : Launch) (G : Gc) (pc : Nat) : Tr :=
  if pc < 17 then
   if pc < 5 then
    if pc < 2 then
     if pc < 1 then
      if pc = 0 then tz_aload 1 0 else dead
     else
      if pc = 1 then tz_aload 2 0 else dead
    else
     if pc < 3 then
      if pc = 2 then tz_iload 3 1 else dead
     else
      if pc < 4 then
       if pc = 3 then tz_iload 4 2 else dead
      else
       if pc = 4 then tz_iload 5 3 else dead
   else
    if pc < 10 then
     if pc < 7 then
      if pc = 5 then tz_iload 7 4 else dead
     else
      if pc = 7 then tz_pureV 10 4 7 P_Mo_wrongPacket f_Mo_wrongPacket else dead
    else
     if pc < 13 then
      if pc = 10 then tz_puti 13 7 0 else dead
     else
      if pc < 14 then
       if pc = 13 then tz_aload 14 0 else dead
      else
       if pc = 14 then tz_getf 17 7 0 0 else dead
  else
   if pc < 26 then
    if pc < 21 then
     if pc < 20 then
      if pc = 17 then tz_if 20 24 (fun a => a ≤ 0) else dead
     else
      if pc = 20 then tz_const 21 (.int (nI 0)) else dead
    else
     if pc < 24 then
      if pc = 21 then tz_goto 33 else dead
     else
      if pc < 25 then
       if pc = 24 then tz_aload 25 0 else dead
      else
       if pc = 25 then tz_iload 26 1 else dead
   else
    if pc < 28 then
     if pc < 27 then
      if pc = 26 then tz_iload 27 2 else dead
     else
      if pc = 27 then tz_iload 28 3 else dead
    else
     if pc < 30 then
      if pc = 28 then tz_iload 30 4 else dead
     else
      if pc < 33 then
       if pc = 30 then tz_pureV 33 4 7 P_Mo_leastLeft f_Mo_leastLeft else dead
      else
       if pc = 33 then tz_iret else dead
set_option maxRecDepth 100000 in
theorem T_Mo_timeLeft (l : Launch) (G : Gc) : TabOK l G M_Mo_timeLeft (k_Mo_timeLeft l G) := by
  intro pc
  unfold k_Mo_timeLeft
  exact
   (sd_br
    (sd_br
     (sd_br
      (sd_br
       (sd_lf (sd_aload_n (k := 0) (by decide +kernel : decode prog_9_method_69_code 0 = .ok (.aload_n 0, 1))))
       (sd_lf (sd_aload_n (k := 0) (by decide +kernel : decode prog_9_method_69_code 1 = .ok (.aload_n 0, 1)))))
      (sd_br
       (sd_lf (sd_iload_n (k := 1) (by decide +kernel : decode prog_9_method_69_code 2 = .ok (.iload_n 1, 1))))
       (sd_br
        (sd_lf (sd_iload_n (k := 2) (by decide +kernel : decode prog_9_method_69_code 3 = .ok (.iload_n 2, 1))))
        (sd_lf (sd_iload_n (k := 3) (by decide +kernel : decode prog_9_method_69_code 4 = .ok (.iload_n 3, 1)))))))
     (sd_br
      (sd_br
       (sd_lf (sd_iload (by decide +kernel : decode prog_9_method_69_code 5 = .ok (.iload 4, 2))))
       (sd_lf (sd_pureV (sd_callV (q := (RX7, TX7, 16)) (by decide +kernel : decode prog_9_method_69_code 7 = .ok (.invokevirtual 171, 3)) ok_Mo_wrongPacket (gm 1079 (by decide +kernel) rfl) (gm 1081 (by decide +kernel) rfl) (gm 41 (by decide +kernel) rfl) rfl rfl (by decide +kernel) rfl rfl) c_Mo_wrongPacket)))
      (sd_br
       (sd_lf (sd_puti (q := (RX7, TX7, 16)) (by decide +kernel : decode prog_9_method_69_code 10 = .ok (.putfield 32, 3)) rfl (by decide +kernel) (gm 912 (by decide +kernel) rfl) rfl rfl (Or.inl rfl)))
       (sd_br
        (sd_lf (sd_aload_n (k := 0) (by decide +kernel : decode prog_9_method_69_code 13 = .ok (.aload_n 0, 1))))
        (sd_lf (sd_getf (q := (RX7, TX7, 16)) (by decide +kernel : decode prog_9_method_69_code 14 = .ok (.getfield 32, 3)) rfl (by decide +kernel) (gm 912 (by decide +kernel) rfl)))))))
    (sd_br
     (sd_br
      (sd_br
       (sd_lf (sd_if_le (by decide +kernel : decode prog_9_method_69_code 17 = .ok (.ifCond .le 7, 3)) (by decide +kernel)))
       (sd_lf (sd_iconst (by decide +kernel : decode prog_9_method_69_code 20 = .ok (.iconst 0, 1)) (by decide +kernel))))
      (sd_br
       (sd_lf (sd_goto (by decide +kernel : decode prog_9_method_69_code 21 = .ok (.goto 12, 3)) (by decide +kernel)))
       (sd_br
        (sd_lf (sd_aload_n (k := 0) (by decide +kernel : decode prog_9_method_69_code 24 = .ok (.aload_n 0, 1))))
        (sd_lf (sd_iload_n (k := 1) (by decide +kernel : decode prog_9_method_69_code 25 = .ok (.iload_n 1, 1)))))))
     (sd_br
      (sd_br
       (sd_lf (sd_iload_n (k := 2) (by decide +kernel : decode prog_9_method_69_code 26 = .ok (.iload_n 2, 1))))
       (sd_lf (sd_iload_n (k := 3) (by decide +kernel : decode prog_9_method_69_code 27 = .ok (.iload_n 3, 1)))))
      (sd_br
       (sd_lf (sd_iload (by decide +kernel : decode prog_9_method_69_code 28 = .ok (.iload 4, 2))))
       (sd_br
        (sd_lf (sd_pureV (sd_callV (q := (RX7, TX7, 16)) (by decide +kernel : decode prog_9_method_69_code 30 = .ok (.invokevirtual 217, 3)) ok_Mo_leastLeft (gm 1231 (by decide +kernel) rfl) (gm 1233 (by decide +kernel) rfl) (gm 68 (by decide +kernel) rfl) rfl rfl (by decide +kernel) rfl rfl) c_Mo_leastLeft))
        (sd_lf (sd_iret (by decide +kernel : decode prog_9_method_69_code 33 = .ok (.ireturn, 1)) rfl)))))))
def k_Mo_common (l : Launch) (G : Gc) (pc : Nat) : Tr :=
  if pc < 21 then
   if pc < 9 then
    if pc < 2 then
     if pc < 1 then
      if pc = 0 then tz_aload 1 0 else dead
     else
      if pc = 1 then tz_aload 2 0 else dead
    else
     if pc < 3 then
      if pc = 2 then tz_iload 3 1 else dead
     else
      if pc < 6 then
       if pc = 3 then tz_pureV 6 1 7 P_Mo_isNode f_Mo_isNode else dead
      else
       if pc = 6 then tz_if 9 21 (fun a => a = 0) else dead
   else
    if pc < 14 then
     if pc < 10 then
      if pc = 9 then tz_aload 10 0 else dead
     else
      if pc < 11 then
       if pc = 10 then tz_iload 11 2 else dead
      else
       if pc = 11 then tz_pureV 14 1 7 P_Mo_isNode f_Mo_isNode else dead
    else
     if pc < 17 then
      if pc = 14 then tz_if 17 21 (fun a => a = 0) else dead
     else
      if pc < 18 then
       if pc = 17 then tz_const 18 (.int (nI 0)) else dead
      else
       if pc = 18 then tz_goto 22 else dead
  else
   if pc < 33 then
    if pc < 26 then
     if pc < 22 then
      if pc = 21 then tz_const 22 (.int (nI 1)) else dead
     else
      if pc < 25 then
       if pc = 22 then tz_puti 25 7 0 else dead
      else
       if pc = 25 then tz_aload 26 0 else dead
    else
     if pc < 29 then
      if pc = 26 then tz_getf 29 7 0 0 else dead
     else
      if pc < 32 then
       if pc = 29 then tz_if 32 36 (fun a => a ≤ 0) else dead
      else
       if pc = 32 then tz_const 33 (.int (nI 0)) else dead
   else
    if pc < 38 then
     if pc < 36 then
      if pc = 33 then tz_goto 42 else dead
     else
      if pc < 37 then
       if pc = 36 then tz_aload 37 0 else dead
      else
       if pc = 37 then tz_iload 38 1 else dead
    else
     if pc < 39 then
      if pc = 38 then tz_iload 39 2 else dead
     else
      if pc < 42 then
       if pc = 39 then tz_pureV 42 2 7 P_Mo_commonOf f_Mo_commonOf else dead
      else
       if pc = 42 then tz_iret else dead
set_option maxRecDepth 100000 in
theorem T_Mo_common (l : Launch) (G : Gc) : TabOK l G M_Mo_common (k_Mo_common l G) := by
  intro pc
  unfold k_Mo_common
  exact
   (sd_br
    (sd_br
     (sd_br
      (sd_br
       (sd_lf (sd_aload_n (k := 0) (by decide +kernel : decode prog_9_method_71_code 0 = .ok (.aload_n 0, 1))))
       (sd_lf (sd_aload_n (k := 0) (by decide +kernel : decode prog_9_method_71_code 1 = .ok (.aload_n 0, 1)))))
      (sd_br
       (sd_lf (sd_iload_n (k := 1) (by decide +kernel : decode prog_9_method_71_code 2 = .ok (.iload_n 1, 1))))
       (sd_br
        (sd_lf (sd_pureV (sd_callV (q := (RX7, TX7, 16)) (by decide +kernel : decode prog_9_method_71_code 3 = .ok (.invokevirtual 40, 3)) ok_Mo_isNode (gm 986 (by decide +kernel) rfl) (gm 988 (by decide +kernel) rfl) (gm 31 (by decide +kernel) rfl) rfl rfl (by decide +kernel) rfl rfl) c_Mo_isNode))
        (sd_lf (sd_if_eq (by decide +kernel : decode prog_9_method_71_code 6 = .ok (.ifCond .eq 15, 3)) (by decide +kernel))))))
     (sd_br
      (sd_br
       (sd_lf (sd_aload_n (k := 0) (by decide +kernel : decode prog_9_method_71_code 9 = .ok (.aload_n 0, 1))))
       (sd_br
        (sd_lf (sd_iload_n (k := 2) (by decide +kernel : decode prog_9_method_71_code 10 = .ok (.iload_n 2, 1))))
        (sd_lf (sd_pureV (sd_callV (q := (RX7, TX7, 16)) (by decide +kernel : decode prog_9_method_71_code 11 = .ok (.invokevirtual 40, 3)) ok_Mo_isNode (gm 986 (by decide +kernel) rfl) (gm 988 (by decide +kernel) rfl) (gm 31 (by decide +kernel) rfl) rfl rfl (by decide +kernel) rfl rfl) c_Mo_isNode))))
      (sd_br
       (sd_lf (sd_if_eq (by decide +kernel : decode prog_9_method_71_code 14 = .ok (.ifCond .eq 7, 3)) (by decide +kernel)))
       (sd_br
        (sd_lf (sd_iconst (by decide +kernel : decode prog_9_method_71_code 17 = .ok (.iconst 0, 1)) (by decide +kernel)))
        (sd_lf (sd_goto (by decide +kernel : decode prog_9_method_71_code 18 = .ok (.goto 4, 3)) (by decide +kernel)))))))
    (sd_br
     (sd_br
      (sd_br
       (sd_lf (sd_iconst (by decide +kernel : decode prog_9_method_71_code 21 = .ok (.iconst 1, 1)) (by decide +kernel)))
       (sd_br
        (sd_lf (sd_puti (q := (RX7, TX7, 16)) (by decide +kernel : decode prog_9_method_71_code 22 = .ok (.putfield 32, 3)) rfl (by decide +kernel) (gm 912 (by decide +kernel) rfl) rfl rfl (Or.inl rfl)))
        (sd_lf (sd_aload_n (k := 0) (by decide +kernel : decode prog_9_method_71_code 25 = .ok (.aload_n 0, 1))))))
      (sd_br
       (sd_lf (sd_getf (q := (RX7, TX7, 16)) (by decide +kernel : decode prog_9_method_71_code 26 = .ok (.getfield 32, 3)) rfl (by decide +kernel) (gm 912 (by decide +kernel) rfl)))
       (sd_br
        (sd_lf (sd_if_le (by decide +kernel : decode prog_9_method_71_code 29 = .ok (.ifCond .le 7, 3)) (by decide +kernel)))
        (sd_lf (sd_iconst (by decide +kernel : decode prog_9_method_71_code 32 = .ok (.iconst 0, 1)) (by decide +kernel))))))
     (sd_br
      (sd_br
       (sd_lf (sd_goto (by decide +kernel : decode prog_9_method_71_code 33 = .ok (.goto 9, 3)) (by decide +kernel)))
       (sd_br
        (sd_lf (sd_aload_n (k := 0) (by decide +kernel : decode prog_9_method_71_code 36 = .ok (.aload_n 0, 1))))
        (sd_lf (sd_iload_n (k := 1) (by decide +kernel : decode prog_9_method_71_code 37 = .ok (.iload_n 1, 1))))))
      (sd_br
       (sd_lf (sd_iload_n (k := 2) (by decide +kernel : decode prog_9_method_71_code 38 = .ok (.iload_n 2, 1))))
       (sd_br
        (sd_lf (sd_pureV (sd_callV (q := (RX7, TX7, 16)) (by decide +kernel : decode prog_9_method_71_code 39 = .ok (.invokevirtual 220, 3)) ok_Mo_commonOf (gm 1239 (by decide +kernel) rfl) (gm 1241 (by decide +kernel) rfl) (gm 69 (by decide +kernel) rfl) rfl rfl (by decide +kernel) rfl rfl) c_Mo_commonOf))
        (sd_lf (sd_iret (by decide +kernel : decode prog_9_method_71_code 42 = .ok (.ireturn, 1)) rfl)))))))
def k_Mo_delivery (l : Launch) (G : Gc) (pc : Nat) : Tr :=
  if pc < 20 then
   if pc < 10 then
    if pc < 5 then
     if pc < 1 then
      if pc = 0 then tz_aload 1 0 else dead
     else
      if pc < 2 then
       if pc = 1 then tz_const 2 (.int (nI 0)) else dead
      else
       if pc = 2 then tz_puti 5 7 0 else dead
    else
     if pc < 6 then
      if pc = 5 then tz_aload 6 0 else dead
     else
      if pc < 9 then
       if pc = 6 then tz_getf 9 7 1 1 else dead
      else
       if pc = 9 then tz_const 10 (.int (nI 2)) else dead
   else
    if pc < 15 then
     if pc < 11 then
      if pc = 10 then tz_iaload 11 else dead
     else
      if pc < 14 then
       if pc = 11 then tz_if 14 18 (fun a => ¬ a = 0) else dead
      else
       if pc = 14 then tz_const 15 (.double FP.dconst0) else dead
    else
     if pc < 18 then
      if pc = 15 then tz_goto 35 else dead
     else
      if pc < 19 then
       if pc = 18 then tz_const 19 (.double FP.dconst1) else dead
      else
       if pc = 19 then tz_aload 20 0 else dead
  else
   if pc < 28 then
    if pc < 25 then
     if pc < 23 then
      if pc = 20 then tz_getf 23 7 1 1 else dead
     else
      if pc < 24 then
       if pc = 23 then tz_const 24 (.int (nI 3)) else dead
      else
       if pc = 24 then tz_iaload 25 else dead
    else
     if pc < 26 then
      if pc = 25 then tz_i2d 26 else dead
     else
      if pc < 27 then
       if pc = 26 then tz_d2 27 FP.dmul else dead
      else
       if pc = 27 then tz_aload 28 0 else dead
   else
    if pc < 33 then
     if pc < 31 then
      if pc = 28 then tz_getf 31 7 1 1 else dead
     else
      if pc < 32 then
       if pc = 31 then tz_const 32 (.int (nI 2)) else dead
      else
       if pc = 32 then tz_iaload 33 else dead
    else
     if pc < 34 then
      if pc = 33 then tz_i2d 34 else dead
     else
      if pc < 35 then
       if pc = 34 then tz_d2 35 FP.ddiv else dead
      else
       if pc = 35 then tz_dret else dead
set_option maxRecDepth 100000 in
theorem T_Mo_delivery (l : Launch) (G : Gc) : TabOK l G M_Mo_delivery (k_Mo_delivery l G) := by
  intro pc
  unfold k_Mo_delivery
  exact
   (sd_br
    (sd_br
     (sd_br
      (sd_br
       (sd_lf (sd_aload_n (k := 0) (by decide +kernel : decode prog_9_method_72_code 0 = .ok (.aload_n 0, 1))))
       (sd_br
        (sd_lf (sd_iconst (by decide +kernel : decode prog_9_method_72_code 1 = .ok (.iconst 0, 1)) (by decide +kernel)))
        (sd_lf (sd_puti (q := (RX7, TX7, 16)) (by decide +kernel : decode prog_9_method_72_code 2 = .ok (.putfield 32, 3)) rfl (by decide +kernel) (gm 912 (by decide +kernel) rfl) rfl rfl (Or.inl rfl)))))
      (sd_br
       (sd_lf (sd_aload_n (k := 0) (by decide +kernel : decode prog_9_method_72_code 5 = .ok (.aload_n 0, 1))))
       (sd_br
        (sd_lf (sd_getf (q := (RX7, TX7, 16)) (by decide +kernel : decode prog_9_method_72_code 6 = .ok (.getfield 7, 3)) rfl (by decide +kernel) (gm 913 (by decide +kernel) rfl)))
        (sd_lf (sd_iconst (by decide +kernel : decode prog_9_method_72_code 9 = .ok (.iconst 2, 1)) (by decide +kernel))))))
     (sd_br
      (sd_br
       (sd_lf (sd_iaload (by decide +kernel : decode prog_9_method_72_code 10 = .ok (.iaload, 1))))
       (sd_br
        (sd_lf (sd_if_ne (by decide +kernel : decode prog_9_method_72_code 11 = .ok (.ifCond .ne 7, 3)) (by decide +kernel)))
        (sd_lf (sd_dconst0 (by decide +kernel : decode prog_9_method_72_code 14 = .ok (.dconst 0, 1))))))
      (sd_br
       (sd_lf (sd_goto (by decide +kernel : decode prog_9_method_72_code 15 = .ok (.goto 20, 3)) (by decide +kernel)))
       (sd_br
        (sd_lf (sd_dconst1 (by decide +kernel : decode prog_9_method_72_code 18 = .ok (.dconst 1, 1))))
        (sd_lf (sd_aload_n (k := 0) (by decide +kernel : decode prog_9_method_72_code 19 = .ok (.aload_n 0, 1))))))))
    (sd_br
     (sd_br
      (sd_br
       (sd_lf (sd_getf (q := (RX7, TX7, 16)) (by decide +kernel : decode prog_9_method_72_code 20 = .ok (.getfield 7, 3)) rfl (by decide +kernel) (gm 913 (by decide +kernel) rfl)))
       (sd_br
        (sd_lf (sd_iconst (by decide +kernel : decode prog_9_method_72_code 23 = .ok (.iconst 3, 1)) (by decide +kernel)))
        (sd_lf (sd_iaload (by decide +kernel : decode prog_9_method_72_code 24 = .ok (.iaload, 1))))))
      (sd_br
       (sd_lf (sd_i2d (by decide +kernel : decode prog_9_method_72_code 25 = .ok (.i2d, 1))))
       (sd_br
        (sd_lf (sd_dmul (by decide +kernel : decode prog_9_method_72_code 26 = .ok (.dmul, 1))))
        (sd_lf (sd_aload_n (k := 0) (by decide +kernel : decode prog_9_method_72_code 27 = .ok (.aload_n 0, 1)))))))
     (sd_br
      (sd_br
       (sd_lf (sd_getf (q := (RX7, TX7, 16)) (by decide +kernel : decode prog_9_method_72_code 28 = .ok (.getfield 7, 3)) rfl (by decide +kernel) (gm 913 (by decide +kernel) rfl)))
       (sd_br
        (sd_lf (sd_iconst (by decide +kernel : decode prog_9_method_72_code 31 = .ok (.iconst 2, 1)) (by decide +kernel)))
        (sd_lf (sd_iaload (by decide +kernel : decode prog_9_method_72_code 32 = .ok (.iaload, 1))))))
      (sd_br
       (sd_lf (sd_i2d (by decide +kernel : decode prog_9_method_72_code 33 = .ok (.i2d, 1))))
       (sd_br
        (sd_lf (sd_ddiv (by decide +kernel : decode prog_9_method_72_code 34 = .ok (.ddiv, 1))))
        (sd_lf (sd_dret (by decide +kernel : decode prog_9_method_72_code 35 = .ok (.dreturn, 1)) rfl)))))))
theorem wi_nat {n : Int32} {k : Nat} (hk : k < 2147483648) (h : nI 0 ≤ n ∧ n ≤ nI k) : ∃ j, j < k + 1 ∧ n = nI j := by
  have h0 : ¬ n < 0 := by
    have h1 := h.1
    simp only [Int32.lt_iff_toInt_lt, Int32.le_iff_toInt_le] at h1 ⊢
    have e1 : (nI 0).toInt = 0 := rfl
    have e2 : (0 : Int32).toInt = 0 := rfl
    omega
  obtain ⟨j, hj, rfl⟩ := nI_of h0
  exact ⟨j, by have := (nI_leI hj hk).mp h.2; omega, rfl⟩
theorem mo_zFa {h : AH} {a zr : Nat} (hm : MoS h a zr) (f : Nat → Int32) : zF (zw h a f) a = hI h zr := by
  rw [(hm.zw (b := a) (f := f)).zF]
  exact hI_zw_ne f hm.ne
section
variable {l : Launch} {G : Gc}
theorem c_Mo_count (a zr : Nat) (x : Int32) (h : AH) (Q : Po) (hm : MoS h a zr) (hz : Z10 (hI h zr))
    (q1 : ¬ (nI 0 ≤ x ∧ x ≤ nI 11) → Q (.inl (some (.int (nI 0)))) (zw h a (upd (hI h a) 0 (nI 1))))
    (q2 : ∀ k, k < 12 → x = nI k → Q (.inl (some (.int (ctZ (hI h zr) (hI h a 3) k)))) (zw h a (upd (hI h a) 0 (nI 0)))) : Call l G M_Mo_count [.ref a, .int x] h Q := by
  have rz := rd_ne hm.ne
  obtain ⟨h1, h2, h3, h4⟩ := id hm
  have hzF := mo_zFa hm
  refine call_of rfl rfl (Nat.le_of_ble_eq_true rfl) ?_
  (obtain ⟨W9, hW9, hgo9⟩ := wp_ex (T_Mo_count l G) [] _; refine hgo9 200 _ _ _ _ ?_; simp -implicitDefEqProofs (disch := omega) only [hW9, inl, gate, Xq, tz_const, tz_iload, tz_lload, tz_dload, tz_aload, tz_istore, tz_astore, tz_lstore, tz_dstore, tz_iinc, tz_i1, tz_i2, tz_i2z, tz_l2, tz_l2z, tz_i2l, tz_l2i, tz_lcmp, tz_i2d, tz_d2, tz_dcmp, tz_dup, tz_dup2, tz_pop, tz_if, tz_icmp, tz_null, tz_goto, tz_sw, tz_getf, tz_puti, tz_putz, tz_putr, tz_putl, tz_iaload, tz_baload, tz_laload, tz_aaload, tz_iastore, tz_bastore, tz_lastore, tz_aastore, tz_alen, tz_new, tz_newa, tz_oinit, tz_iret, tz_zret, tz_lret, tz_dret, tz_aret, tz_vret, tz_throw, tz_callS, tz_callV, tz_callI, tz_callR, tz_pureS, tz_pureV, tz_callVH, lg, lset, lkill, lst1, lst2, entL, isRf, is1, vl, va_rf_none, va_rf_some, isRf_rf, is1_rf, i0, i1, bI_eq0, bI_eq1, nm_em, nI_eqP, nI_leP, nI_ltP, nN_e1, nN_e2, nN_l1, nN_l2, nN_l3, nN_l4, nI_add, pk_mul, vp_inN, nI_cl, n01, n10, P_i, P_ii, P_iii, f_Mo_at, f_Mo_map, f_Mo_contact, f_Mo_within, f_Mo_isPort, f_Hp_endpoint, f_Hp_nodeOf, f_Hp_portOf, f_Ma_max, f_Ma_min, f_Hp_isSetting, popN, rok, a1, noX, swc, mL, if_true, if_false, ↓reduceIte, cond_true, cond_false, true_and, and_true, List.length_cons, List.length_nil, List.nil_append, List.cons_append, List.append_nil, Option.toList, Nat.reduceEqDiff, Bool.false_eq_true, reduceCtorEq, Nat.reduceAdd, Nat.reduceLT, Nat.reduceLeDiff, Nat.reduceSub, List.replicate, Nat.zero_add, Nat.lt_add_one, Nat.le_refl, Nat.zero_le, Nat.succ_ne_zero, not_false_eq_true, not_true_eq_false, false_implies, true_implies, forall_const, imp_self, true_or, or_true, eq_self, sI_zw, zw_zw, hI_zw, tg_zw, ln_zw, hR_zw, hL_zw, hN_zw, hM_zw, upd_s, upd_u, upd_ne, Classical.not_not, k_Mo_count, h1]; try clear hgo9 hW9)
  refine ⟨fun c => ?_, fun c => ?_⟩
  · ((obtain ⟨W9, hW9, hgo9⟩ := wp_ex (T_Mo_count l G) [] _; refine hgo9 200 _ _ _ _ ?_; simp -implicitDefEqProofs (disch := omega) only [hW9, inl, gate, Xq, tz_const, tz_iload, tz_lload, tz_dload, tz_aload, tz_istore, tz_astore, tz_lstore, tz_dstore, tz_iinc, tz_i1, tz_i2, tz_i2z, tz_l2, tz_l2z, tz_i2l, tz_l2i, tz_lcmp, tz_i2d, tz_d2, tz_dcmp, tz_dup, tz_dup2, tz_pop, tz_if, tz_icmp, tz_null, tz_goto, tz_sw, tz_getf, tz_puti, tz_putz, tz_putr, tz_putl, tz_iaload, tz_baload, tz_laload, tz_aaload, tz_iastore, tz_bastore, tz_lastore, tz_aastore, tz_alen, tz_new, tz_newa, tz_oinit, tz_iret, tz_zret, tz_lret, tz_dret, tz_aret, tz_vret, tz_throw, tz_callS, tz_callV, tz_callI, tz_callR, tz_pureS, tz_pureV, tz_callVH, lg, lset, lkill, lst1, lst2, entL, isRf, is1, vl, va_rf_none, va_rf_some, isRf_rf, is1_rf, i0, i1, bI_eq0, bI_eq1, nm_em, nI_eqP, nI_leP, nI_ltP, nN_e1, nN_e2, nN_l1, nN_l2, nN_l3, nN_l4, nI_add, pk_mul, vp_inN, nI_cl, n01, n10, P_i, P_ii, P_iii, f_Mo_at, f_Mo_map, f_Mo_contact, f_Mo_within, f_Mo_isPort, f_Hp_endpoint, f_Hp_nodeOf, f_Hp_portOf, f_Ma_max, f_Ma_min, f_Hp_isSetting, popN, rok, a1, noX, swc, mL, if_true, if_false, ↓reduceIte, cond_true, cond_false, true_and, and_true, List.length_cons, List.length_nil, List.nil_append, List.cons_append, List.append_nil, Option.toList, Nat.reduceEqDiff, Bool.false_eq_true, reduceCtorEq, Nat.reduceAdd, Nat.reduceLT, Nat.reduceLeDiff, Nat.reduceSub, List.replicate, Nat.zero_add, Nat.lt_add_one, Nat.le_refl, Nat.zero_le, Nat.succ_ne_zero, not_false_eq_true, not_true_eq_false, false_implies, true_implies, forall_const, imp_self, true_or, or_true, eq_self, sI_zw, zw_zw, hI_zw, tg_zw, ln_zw, hR_zw, hL_zw, hN_zw, hM_zw, upd_s, upd_u, upd_ne, Classical.not_not, k_Mo_count, h1]; try clear hgo9 hW9); try (obtain ⟨W9, hW9, hgo9⟩ := wp_ex (T_Mo_count l G) [] _; refine hgo9 200 _ _ _ _ ?_; simp -implicitDefEqProofs (disch := omega) only [hW9, inl, gate, Xq, tz_const, tz_iload, tz_lload, tz_dload, tz_aload, tz_istore, tz_astore, tz_lstore, tz_dstore, tz_iinc, tz_i1, tz_i2, tz_i2z, tz_l2, tz_l2z, tz_i2l, tz_l2i, tz_lcmp, tz_i2d, tz_d2, tz_dcmp, tz_dup, tz_dup2, tz_pop, tz_if, tz_icmp, tz_null, tz_goto, tz_sw, tz_getf, tz_puti, tz_putz, tz_putr, tz_putl, tz_iaload, tz_baload, tz_laload, tz_aaload, tz_iastore, tz_bastore, tz_lastore, tz_aastore, tz_alen, tz_new, tz_newa, tz_oinit, tz_iret, tz_zret, tz_lret, tz_dret, tz_aret, tz_vret, tz_throw, tz_callS, tz_callV, tz_callI, tz_callR, tz_pureS, tz_pureV, tz_callVH, lg, lset, lkill, lst1, lst2, entL, isRf, is1, vl, va_rf_none, va_rf_some, isRf_rf, is1_rf, i0, i1, bI_eq0, bI_eq1, nm_em, nI_eqP, nI_leP, nI_ltP, nN_e1, nN_e2, nN_l1, nN_l2, nN_l3, nN_l4, nI_add, pk_mul, vp_inN, nI_cl, n01, n10, P_i, P_ii, P_iii, f_Mo_at, f_Mo_map, f_Mo_contact, f_Mo_within, f_Mo_isPort, f_Hp_endpoint, f_Hp_nodeOf, f_Hp_portOf, f_Ma_max, f_Ma_min, f_Hp_isSetting, popN, rok, a1, noX, swc, mL, if_true, if_false, ↓reduceIte, cond_true, cond_false, true_and, and_true, List.length_cons, List.length_nil, List.nil_append, List.cons_append, List.append_nil, Option.toList, Nat.reduceEqDiff, Bool.false_eq_true, reduceCtorEq, Nat.reduceAdd, Nat.reduceLT, Nat.reduceLeDiff, Nat.reduceSub, List.replicate, Nat.zero_add, Nat.lt_add_one, Nat.le_refl, Nat.zero_le, Nat.succ_ne_zero, not_false_eq_true, not_true_eq_false, false_implies, true_implies, forall_const, imp_self, true_or, or_true, eq_self, sI_zw, zw_zw, hI_zw, tg_zw, ln_zw, hR_zw, hL_zw, hN_zw, hM_zw, upd_s, upd_u, upd_ne, Classical.not_not, k_Mo_count, h1]; try clear hgo9 hW9))
    exact q1 c
  · obtain ⟨k, hk, rfl⟩ := wi_nat (by omega) c
    have hP : ∀ f, P_Mo_counted [.ref a, .int (nI k)] (zw h a f) := fun f => ⟨⟨zr, hm.zw, by rw [rz]; exact hz⟩, k, hk, rfl⟩
    have hcl : (nI k).toNatClampNeg = k := nI_clamp (by omega)
    ((obtain ⟨W9, hW9, hgo9⟩ := wp_ex (T_Mo_count l G) [] _; refine hgo9 200 _ _ _ _ ?_; simp -implicitDefEqProofs (disch := omega) only [hW9, inl, gate, Xq, tz_const, tz_iload, tz_lload, tz_dload, tz_aload, tz_istore, tz_astore, tz_lstore, tz_dstore, tz_iinc, tz_i1, tz_i2, tz_i2z, tz_l2, tz_l2z, tz_i2l, tz_l2i, tz_lcmp, tz_i2d, tz_d2, tz_dcmp, tz_dup, tz_dup2, tz_pop, tz_if, tz_icmp, tz_null, tz_goto, tz_sw, tz_getf, tz_puti, tz_putz, tz_putr, tz_putl, tz_iaload, tz_baload, tz_laload, tz_aaload, tz_iastore, tz_bastore, tz_lastore, tz_aastore, tz_alen, tz_new, tz_newa, tz_oinit, tz_iret, tz_zret, tz_lret, tz_dret, tz_aret, tz_vret, tz_throw, tz_callS, tz_callV, tz_callI, tz_callR, tz_pureS, tz_pureV, tz_callVH, lg, lset, lkill, lst1, lst2, entL, isRf, is1, vl, va_rf_none, va_rf_some, isRf_rf, is1_rf, i0, i1, bI_eq0, bI_eq1, nm_em, nI_eqP, nI_leP, nI_ltP, nN_e1, nN_e2, nN_l1, nN_l2, nN_l3, nN_l4, nI_add, pk_mul, vp_inN, nI_cl, n01, n10, P_i, P_ii, P_iii, f_Mo_at, f_Mo_map, f_Mo_contact, f_Mo_within, f_Mo_isPort, f_Hp_endpoint, f_Hp_nodeOf, f_Hp_portOf, f_Ma_max, f_Ma_min, f_Hp_isSetting, popN, rok, a1, noX, swc, mL, if_true, if_false, ↓reduceIte, cond_true, cond_false, true_and, and_true, List.length_cons, List.length_nil, List.nil_append, List.cons_append, List.append_nil, Option.toList, Nat.reduceEqDiff, Bool.false_eq_true, reduceCtorEq, Nat.reduceAdd, Nat.reduceLT, Nat.reduceLeDiff, Nat.reduceSub, List.replicate, Nat.zero_add, Nat.lt_add_one, Nat.le_refl, Nat.zero_le, Nat.succ_ne_zero, not_false_eq_true, not_true_eq_false, false_implies, true_implies, forall_const, imp_self, true_or, or_true, eq_self, sI_zw, zw_zw, hI_zw, tg_zw, ln_zw, hR_zw, hL_zw, hN_zw, hM_zw, upd_s, upd_u, upd_ne, Classical.not_not, k_Mo_count, h1, hP, f_Mo_counted, hzF, hcl]; try clear hgo9 hW9); try (obtain ⟨W9, hW9, hgo9⟩ := wp_ex (T_Mo_count l G) [] _; refine hgo9 200 _ _ _ _ ?_; simp -implicitDefEqProofs (disch := omega) only [hW9, inl, gate, Xq, tz_const, tz_iload, tz_lload, tz_dload, tz_aload, tz_istore, tz_astore, tz_lstore, tz_dstore, tz_iinc, tz_i1, tz_i2, tz_i2z, tz_l2, tz_l2z, tz_i2l, tz_l2i, tz_lcmp, tz_i2d, tz_d2, tz_dcmp, tz_dup, tz_dup2, tz_pop, tz_if, tz_icmp, tz_null, tz_goto, tz_sw, tz_getf, tz_puti, tz_putz, tz_putr, tz_putl, tz_iaload, tz_baload, tz_laload, tz_aaload, tz_iastore, tz_bastore, tz_lastore, tz_aastore, tz_alen, tz_new, tz_newa, tz_oinit, tz_iret, tz_zret, tz_lret, tz_dret, tz_aret, tz_vret, tz_throw, tz_callS, tz_callV, tz_callI, tz_callR, tz_pureS, tz_pureV, tz_callVH, lg, lset, lkill, lst1, lst2, entL, isRf, is1, vl, va_rf_none, va_rf_some, isRf_rf, is1_rf, i0, i1, bI_eq0, bI_eq1, nm_em, nI_eqP, nI_leP, nI_ltP, nN_e1, nN_e2, nN_l1, nN_l2, nN_l3, nN_l4, nI_add, pk_mul, vp_inN, nI_cl, n01, n10, P_i, P_ii, P_iii, f_Mo_at, f_Mo_map, f_Mo_contact, f_Mo_within, f_Mo_isPort, f_Hp_endpoint, f_Hp_nodeOf, f_Hp_portOf, f_Ma_max, f_Ma_min, f_Hp_isSetting, popN, rok, a1, noX, swc, mL, if_true, if_false, ↓reduceIte, cond_true, cond_false, true_and, and_true, List.length_cons, List.length_nil, List.nil_append, List.cons_append, List.append_nil, Option.toList, Nat.reduceEqDiff, Bool.false_eq_true, reduceCtorEq, Nat.reduceAdd, Nat.reduceLT, Nat.reduceLeDiff, Nat.reduceSub, List.replicate, Nat.zero_add, Nat.lt_add_one, Nat.le_refl, Nat.zero_le, Nat.succ_ne_zero, not_false_eq_true, not_true_eq_false, false_implies, true_implies, forall_const, imp_self, true_or, or_true, eq_self, sI_zw, zw_zw, hI_zw, tg_zw, ln_zw, hR_zw, hL_zw, hN_zw, hM_zw, upd_s, upd_u, upd_ne, Classical.not_not, k_Mo_count, h1, hP, f_Mo_counted, hzF, hcl]; try clear hgo9 hW9))
    exact q2 k hk rfl
theorem c_Mo_node (a zr : Nat) (n x : Int32) (h : AH) (Q : Po) (hm : MoS h a zr) (hz : Z10 (hI h zr)) (hn : NetOK (hI h zr))
    (q1 : ¬ NdZ (hI h zr) n → Q (.inl (some (.int (nI 0)))) (zw h a (upd (hI h a) 0 (nI 1))))
    (q2 : NdZ (hI h zr) n → ¬ (nI 0 ≤ x ∧ x ≤ nI 6) → Q (.inl (some (.int (nI 0)))) (zw h a (upd (hI h a) 0 (nI 2))))
    (q3 : ∀ j k, j < mny (hI h zr) → n = nI j → k < 7 → x = nI k → Q (.inl (some (.int (npZ (hI h zr) j k)))) (zw h a (upd (hI h a) 0 (nI 0)))) : Call l G M_Mo_node [.ref a, .int n, .int x] h Q := by
  have rz := rd_ne hm.ne
  obtain ⟨h1, h2, h3, h4⟩ := id hm
  obtain ⟨z1, z2⟩ := hz.at
  have hzF := mo_zFa hm
  have hzF0 := hm.zF
  have hPn : P_Mo_isNode [.ref a, .int n] h := ⟨zr, hm, hz⟩
  refine call_of rfl rfl (Nat.le_of_ble_eq_true rfl) ?_
  (obtain ⟨W9, hW9, hgo9⟩ := wp_ex (T_Mo_node l G) [] _; refine hgo9 200 _ _ _ _ ?_; simp -implicitDefEqProofs (disch := omega) only [hW9, inl, gate, Xq, tz_const, tz_iload, tz_lload, tz_dload, tz_aload, tz_istore, tz_astore, tz_lstore, tz_dstore, tz_iinc, tz_i1, tz_i2, tz_i2z, tz_l2, tz_l2z, tz_i2l, tz_l2i, tz_lcmp, tz_i2d, tz_d2, tz_dcmp, tz_dup, tz_dup2, tz_pop, tz_if, tz_icmp, tz_null, tz_goto, tz_sw, tz_getf, tz_puti, tz_putz, tz_putr, tz_putl, tz_iaload, tz_baload, tz_laload, tz_aaload, tz_iastore, tz_bastore, tz_lastore, tz_aastore, tz_alen, tz_new, tz_newa, tz_oinit, tz_iret, tz_zret, tz_lret, tz_dret, tz_aret, tz_vret, tz_throw, tz_callS, tz_callV, tz_callI, tz_callR, tz_pureS, tz_pureV, tz_callVH, lg, lset, lkill, lst1, lst2, entL, isRf, is1, vl, va_rf_none, va_rf_some, isRf_rf, is1_rf, i0, i1, bI_eq0, bI_eq1, nm_em, nI_eqP, nI_leP, nI_ltP, nN_e1, nN_e2, nN_l1, nN_l2, nN_l3, nN_l4, nI_add, pk_mul, vp_inN, nI_cl, n01, n10, P_i, P_ii, P_iii, f_Mo_at, f_Mo_map, f_Mo_contact, f_Mo_within, f_Mo_isPort, f_Hp_endpoint, f_Hp_nodeOf, f_Hp_portOf, f_Ma_max, f_Ma_min, f_Hp_isSetting, popN, rok, a1, noX, swc, mL, if_true, if_false, ↓reduceIte, cond_true, cond_false, true_and, and_true, List.length_cons, List.length_nil, List.nil_append, List.cons_append, List.append_nil, Option.toList, Nat.reduceEqDiff, Bool.false_eq_true, reduceCtorEq, Nat.reduceAdd, Nat.reduceLT, Nat.reduceLeDiff, Nat.reduceSub, List.replicate, Nat.zero_add, Nat.lt_add_one, Nat.le_refl, Nat.zero_le, Nat.succ_ne_zero, not_false_eq_true, not_true_eq_false, false_implies, true_implies, forall_const, imp_self, true_or, or_true, eq_self, sI_zw, zw_zw, hI_zw, tg_zw, ln_zw, hR_zw, hL_zw, hN_zw, hM_zw, upd_s, upd_u, upd_ne, Classical.not_not, k_Mo_node, h1, hPn, f_Mo_isNode, hzF0]; try clear hgo9 hW9)
  refine ⟨fun c => ?_, fun c => ?_⟩
  · (obtain ⟨W9, hW9, hgo9⟩ := wp_ex (T_Mo_node l G) [] _; refine hgo9 200 _ _ _ _ ?_; simp -implicitDefEqProofs (disch := omega) only [hW9, inl, gate, Xq, tz_const, tz_iload, tz_lload, tz_dload, tz_aload, tz_istore, tz_astore, tz_lstore, tz_dstore, tz_iinc, tz_i1, tz_i2, tz_i2z, tz_l2, tz_l2z, tz_i2l, tz_l2i, tz_lcmp, tz_i2d, tz_d2, tz_dcmp, tz_dup, tz_dup2, tz_pop, tz_if, tz_icmp, tz_null, tz_goto, tz_sw, tz_getf, tz_puti, tz_putz, tz_putr, tz_putl, tz_iaload, tz_baload, tz_laload, tz_aaload, tz_iastore, tz_bastore, tz_lastore, tz_aastore, tz_alen, tz_new, tz_newa, tz_oinit, tz_iret, tz_zret, tz_lret, tz_dret, tz_aret, tz_vret, tz_throw, tz_callS, tz_callV, tz_callI, tz_callR, tz_pureS, tz_pureV, tz_callVH, lg, lset, lkill, lst1, lst2, entL, isRf, is1, vl, va_rf_none, va_rf_some, isRf_rf, is1_rf, i0, i1, bI_eq0, bI_eq1, nm_em, nI_eqP, nI_leP, nI_ltP, nN_e1, nN_e2, nN_l1, nN_l2, nN_l3, nN_l4, nI_add, pk_mul, vp_inN, nI_cl, n01, n10, P_i, P_ii, P_iii, f_Mo_at, f_Mo_map, f_Mo_contact, f_Mo_within, f_Mo_isPort, f_Hp_endpoint, f_Hp_nodeOf, f_Hp_portOf, f_Ma_max, f_Ma_min, f_Hp_isSetting, popN, rok, a1, noX, swc, mL, if_true, if_false, ↓reduceIte, cond_true, cond_false, true_and, and_true, List.length_cons, List.length_nil, List.nil_append, List.cons_append, List.append_nil, Option.toList, Nat.reduceEqDiff, Bool.false_eq_true, reduceCtorEq, Nat.reduceAdd, Nat.reduceLT, Nat.reduceLeDiff, Nat.reduceSub, List.replicate, Nat.zero_add, Nat.lt_add_one, Nat.le_refl, Nat.zero_le, Nat.succ_ne_zero, not_false_eq_true, not_true_eq_false, false_implies, true_implies, forall_const, imp_self, true_or, or_true, eq_self, sI_zw, zw_zw, hI_zw, tg_zw, ln_zw, hR_zw, hL_zw, hN_zw, hM_zw, upd_s, upd_u, upd_ne, Classical.not_not, k_Mo_node, h1]; try clear hgo9 hW9)
    refine ⟨fun d => ?_, fun d => ?_⟩
    · ((obtain ⟨W9, hW9, hgo9⟩ := wp_ex (T_Mo_node l G) [] _; refine hgo9 200 _ _ _ _ ?_; simp -implicitDefEqProofs (disch := omega) only [hW9, inl, gate, Xq, tz_const, tz_iload, tz_lload, tz_dload, tz_aload, tz_istore, tz_astore, tz_lstore, tz_dstore, tz_iinc, tz_i1, tz_i2, tz_i2z, tz_l2, tz_l2z, tz_i2l, tz_l2i, tz_lcmp, tz_i2d, tz_d2, tz_dcmp, tz_dup, tz_dup2, tz_pop, tz_if, tz_icmp, tz_null, tz_goto, tz_sw, tz_getf, tz_puti, tz_putz, tz_putr, tz_putl, tz_iaload, tz_baload, tz_laload, tz_aaload, tz_iastore, tz_bastore, tz_lastore, tz_aastore, tz_alen, tz_new, tz_newa, tz_oinit, tz_iret, tz_zret, tz_lret, tz_dret, tz_aret, tz_vret, tz_throw, tz_callS, tz_callV, tz_callI, tz_callR, tz_pureS, tz_pureV, tz_callVH, lg, lset, lkill, lst1, lst2, entL, isRf, is1, vl, va_rf_none, va_rf_some, isRf_rf, is1_rf, i0, i1, bI_eq0, bI_eq1, nm_em, nI_eqP, nI_leP, nI_ltP, nN_e1, nN_e2, nN_l1, nN_l2, nN_l3, nN_l4, nI_add, pk_mul, vp_inN, nI_cl, n01, n10, P_i, P_ii, P_iii, f_Mo_at, f_Mo_map, f_Mo_contact, f_Mo_within, f_Mo_isPort, f_Hp_endpoint, f_Hp_nodeOf, f_Hp_portOf, f_Ma_max, f_Ma_min, f_Hp_isSetting, popN, rok, a1, noX, swc, mL, if_true, if_false, ↓reduceIte, cond_true, cond_false, true_and, and_true, List.length_cons, List.length_nil, List.nil_append, List.cons_append, List.append_nil, Option.toList, Nat.reduceEqDiff, Bool.false_eq_true, reduceCtorEq, Nat.reduceAdd, Nat.reduceLT, Nat.reduceLeDiff, Nat.reduceSub, List.replicate, Nat.zero_add, Nat.lt_add_one, Nat.le_refl, Nat.zero_le, Nat.succ_ne_zero, not_false_eq_true, not_true_eq_false, false_implies, true_implies, forall_const, imp_self, true_or, or_true, eq_self, sI_zw, zw_zw, hI_zw, tg_zw, ln_zw, hR_zw, hL_zw, hN_zw, hM_zw, upd_s, upd_u, upd_ne, Classical.not_not, k_Mo_node, h1]; try clear hgo9 hW9); try (obtain ⟨W9, hW9, hgo9⟩ := wp_ex (T_Mo_node l G) [] _; refine hgo9 200 _ _ _ _ ?_; simp -implicitDefEqProofs (disch := omega) only [hW9, inl, gate, Xq, tz_const, tz_iload, tz_lload, tz_dload, tz_aload, tz_istore, tz_astore, tz_lstore, tz_dstore, tz_iinc, tz_i1, tz_i2, tz_i2z, tz_l2, tz_l2z, tz_i2l, tz_l2i, tz_lcmp, tz_i2d, tz_d2, tz_dcmp, tz_dup, tz_dup2, tz_pop, tz_if, tz_icmp, tz_null, tz_goto, tz_sw, tz_getf, tz_puti, tz_putz, tz_putr, tz_putl, tz_iaload, tz_baload, tz_laload, tz_aaload, tz_iastore, tz_bastore, tz_lastore, tz_aastore, tz_alen, tz_new, tz_newa, tz_oinit, tz_iret, tz_zret, tz_lret, tz_dret, tz_aret, tz_vret, tz_throw, tz_callS, tz_callV, tz_callI, tz_callR, tz_pureS, tz_pureV, tz_callVH, lg, lset, lkill, lst1, lst2, entL, isRf, is1, vl, va_rf_none, va_rf_some, isRf_rf, is1_rf, i0, i1, bI_eq0, bI_eq1, nm_em, nI_eqP, nI_leP, nI_ltP, nN_e1, nN_e2, nN_l1, nN_l2, nN_l3, nN_l4, nI_add, pk_mul, vp_inN, nI_cl, n01, n10, P_i, P_ii, P_iii, f_Mo_at, f_Mo_map, f_Mo_contact, f_Mo_within, f_Mo_isPort, f_Hp_endpoint, f_Hp_nodeOf, f_Hp_portOf, f_Ma_max, f_Ma_min, f_Hp_isSetting, popN, rok, a1, noX, swc, mL, if_true, if_false, ↓reduceIte, cond_true, cond_false, true_and, and_true, List.length_cons, List.length_nil, List.nil_append, List.cons_append, List.append_nil, Option.toList, Nat.reduceEqDiff, Bool.false_eq_true, reduceCtorEq, Nat.reduceAdd, Nat.reduceLT, Nat.reduceLeDiff, Nat.reduceSub, List.replicate, Nat.zero_add, Nat.lt_add_one, Nat.le_refl, Nat.zero_le, Nat.succ_ne_zero, not_false_eq_true, not_true_eq_false, false_implies, true_implies, forall_const, imp_self, true_or, or_true, eq_self, sI_zw, zw_zw, hI_zw, tg_zw, ln_zw, hR_zw, hL_zw, hN_zw, hM_zw, upd_s, upd_u, upd_ne, Classical.not_not, k_Mo_node, h1]; try clear hgo9 hW9))
      exact q2 c d
    · obtain ⟨k, hk, rfl⟩ := wi_nat (by omega) d
      obtain ⟨j, hj, rfl⟩ := c
      have hP : ∀ f, P_Mo_nodeNow [.ref a, .int (nI j), .int (nI k)] (zw h a f) := fun f => ⟨⟨zr, j, hm.zw, by rw [rz]; exact hz, by rw [rz]; exact hn, rfl, by rw [rz]; exact hj⟩, k, hk, rfl⟩
      have hcl : (nI k).toNatClampNeg = k := nI_clamp (by omega)
      have hcl2 : (nI j).toNatClampNeg = j := nI_clamp (by omega)
      ((obtain ⟨W9, hW9, hgo9⟩ := wp_ex (T_Mo_node l G) [] _; refine hgo9 200 _ _ _ _ ?_; simp -implicitDefEqProofs (disch := omega) only [hW9, inl, gate, Xq, tz_const, tz_iload, tz_lload, tz_dload, tz_aload, tz_istore, tz_astore, tz_lstore, tz_dstore, tz_iinc, tz_i1, tz_i2, tz_i2z, tz_l2, tz_l2z, tz_i2l, tz_l2i, tz_lcmp, tz_i2d, tz_d2, tz_dcmp, tz_dup, tz_dup2, tz_pop, tz_if, tz_icmp, tz_null, tz_goto, tz_sw, tz_getf, tz_puti, tz_putz, tz_putr, tz_putl, tz_iaload, tz_baload, tz_laload, tz_aaload, tz_iastore, tz_bastore, tz_lastore, tz_aastore, tz_alen, tz_new, tz_newa, tz_oinit, tz_iret, tz_zret, tz_lret, tz_dret, tz_aret, tz_vret, tz_throw, tz_callS, tz_callV, tz_callI, tz_callR, tz_pureS, tz_pureV, tz_callVH, lg, lset, lkill, lst1, lst2, entL, isRf, is1, vl, va_rf_none, va_rf_some, isRf_rf, is1_rf, i0, i1, bI_eq0, bI_eq1, nm_em, nI_eqP, nI_leP, nI_ltP, nN_e1, nN_e2, nN_l1, nN_l2, nN_l3, nN_l4, nI_add, pk_mul, vp_inN, nI_cl, n01, n10, P_i, P_ii, P_iii, f_Mo_at, f_Mo_map, f_Mo_contact, f_Mo_within, f_Mo_isPort, f_Hp_endpoint, f_Hp_nodeOf, f_Hp_portOf, f_Ma_max, f_Ma_min, f_Hp_isSetting, popN, rok, a1, noX, swc, mL, if_true, if_false, ↓reduceIte, cond_true, cond_false, true_and, and_true, List.length_cons, List.length_nil, List.nil_append, List.cons_append, List.append_nil, Option.toList, Nat.reduceEqDiff, Bool.false_eq_true, reduceCtorEq, Nat.reduceAdd, Nat.reduceLT, Nat.reduceLeDiff, Nat.reduceSub, List.replicate, Nat.zero_add, Nat.lt_add_one, Nat.le_refl, Nat.zero_le, Nat.succ_ne_zero, not_false_eq_true, not_true_eq_false, false_implies, true_implies, forall_const, imp_self, true_or, or_true, eq_self, sI_zw, zw_zw, hI_zw, tg_zw, ln_zw, hR_zw, hL_zw, hN_zw, hM_zw, upd_s, upd_u, upd_ne, Classical.not_not, k_Mo_node, h1, hP, f_Mo_nodeNow, hzF, hcl, hcl2]; try clear hgo9 hW9); try (obtain ⟨W9, hW9, hgo9⟩ := wp_ex (T_Mo_node l G) [] _; refine hgo9 200 _ _ _ _ ?_; simp -implicitDefEqProofs (disch := omega) only [hW9, inl, gate, Xq, tz_const, tz_iload, tz_lload, tz_dload, tz_aload, tz_istore, tz_astore, tz_lstore, tz_dstore, tz_iinc, tz_i1, tz_i2, tz_i2z, tz_l2, tz_l2z, tz_i2l, tz_l2i, tz_lcmp, tz_i2d, tz_d2, tz_dcmp, tz_dup, tz_dup2, tz_pop, tz_if, tz_icmp, tz_null, tz_goto, tz_sw, tz_getf, tz_puti, tz_putz, tz_putr, tz_putl, tz_iaload, tz_baload, tz_laload, tz_aaload, tz_iastore, tz_bastore, tz_lastore, tz_aastore, tz_alen, tz_new, tz_newa, tz_oinit, tz_iret, tz_zret, tz_lret, tz_dret, tz_aret, tz_vret, tz_throw, tz_callS, tz_callV, tz_callI, tz_callR, tz_pureS, tz_pureV, tz_callVH, lg, lset, lkill, lst1, lst2, entL, isRf, is1, vl, va_rf_none, va_rf_some, isRf_rf, is1_rf, i0, i1, bI_eq0, bI_eq1, nm_em, nI_eqP, nI_leP, nI_ltP, nN_e1, nN_e2, nN_l1, nN_l2, nN_l3, nN_l4, nI_add, pk_mul, vp_inN, nI_cl, n01, n10, P_i, P_ii, P_iii, f_Mo_at, f_Mo_map, f_Mo_contact, f_Mo_within, f_Mo_isPort, f_Hp_endpoint, f_Hp_nodeOf, f_Hp_portOf, f_Ma_max, f_Ma_min, f_Hp_isSetting, popN, rok, a1, noX, swc, mL, if_true, if_false, ↓reduceIte, cond_true, cond_false, true_and, and_true, List.length_cons, List.length_nil, List.nil_append, List.cons_append, List.append_nil, Option.toList, Nat.reduceEqDiff, Bool.false_eq_true, reduceCtorEq, Nat.reduceAdd, Nat.reduceLT, Nat.reduceLeDiff, Nat.reduceSub, List.replicate, Nat.zero_add, Nat.lt_add_one, Nat.le_refl, Nat.zero_le, Nat.succ_ne_zero, not_false_eq_true, not_true_eq_false, false_implies, true_implies, forall_const, imp_self, true_or, or_true, eq_self, sI_zw, zw_zw, hI_zw, tg_zw, ln_zw, hR_zw, hL_zw, hN_zw, hM_zw, upd_s, upd_u, upd_ne, Classical.not_not, k_Mo_node, h1, hP, f_Mo_nodeNow, hzF, hcl, hcl2]; try clear hgo9 hW9))
      exact q3 j k hj rfl hk rfl
  · ((obtain ⟨W9, hW9, hgo9⟩ := wp_ex (T_Mo_node l G) [] _; refine hgo9 200 _ _ _ _ ?_; simp -implicitDefEqProofs (disch := omega) only [hW9, inl, gate, Xq, tz_const, tz_iload, tz_lload, tz_dload, tz_aload, tz_istore, tz_astore, tz_lstore, tz_dstore, tz_iinc, tz_i1, tz_i2, tz_i2z, tz_l2, tz_l2z, tz_i2l, tz_l2i, tz_lcmp, tz_i2d, tz_d2, tz_dcmp, tz_dup, tz_dup2, tz_pop, tz_if, tz_icmp, tz_null, tz_goto, tz_sw, tz_getf, tz_puti, tz_putz, tz_putr, tz_putl, tz_iaload, tz_baload, tz_laload, tz_aaload, tz_iastore, tz_bastore, tz_lastore, tz_aastore, tz_alen, tz_new, tz_newa, tz_oinit, tz_iret, tz_zret, tz_lret, tz_dret, tz_aret, tz_vret, tz_throw, tz_callS, tz_callV, tz_callI, tz_callR, tz_pureS, tz_pureV, tz_callVH, lg, lset, lkill, lst1, lst2, entL, isRf, is1, vl, va_rf_none, va_rf_some, isRf_rf, is1_rf, i0, i1, bI_eq0, bI_eq1, nm_em, nI_eqP, nI_leP, nI_ltP, nN_e1, nN_e2, nN_l1, nN_l2, nN_l3, nN_l4, nI_add, pk_mul, vp_inN, nI_cl, n01, n10, P_i, P_ii, P_iii, f_Mo_at, f_Mo_map, f_Mo_contact, f_Mo_within, f_Mo_isPort, f_Hp_endpoint, f_Hp_nodeOf, f_Hp_portOf, f_Ma_max, f_Ma_min, f_Hp_isSetting, popN, rok, a1, noX, swc, mL, if_true, if_false, ↓reduceIte, cond_true, cond_false, true_and, and_true, List.length_cons, List.length_nil, List.nil_append, List.cons_append, List.append_nil, Option.toList, Nat.reduceEqDiff, Bool.false_eq_true, reduceCtorEq, Nat.reduceAdd, Nat.reduceLT, Nat.reduceLeDiff, Nat.reduceSub, List.replicate, Nat.zero_add, Nat.lt_add_one, Nat.le_refl, Nat.zero_le, Nat.succ_ne_zero, not_false_eq_true, not_true_eq_false, false_implies, true_implies, forall_const, imp_self, true_or, or_true, eq_self, sI_zw, zw_zw, hI_zw, tg_zw, ln_zw, hR_zw, hL_zw, hN_zw, hM_zw, upd_s, upd_u, upd_ne, Classical.not_not, k_Mo_node, h1]; try clear hgo9 hW9); try (obtain ⟨W9, hW9, hgo9⟩ := wp_ex (T_Mo_node l G) [] _; refine hgo9 200 _ _ _ _ ?_; simp -implicitDefEqProofs (disch := omega) only [hW9, inl, gate, Xq, tz_const, tz_iload, tz_lload, tz_dload, tz_aload, tz_istore, tz_astore, tz_lstore, tz_dstore, tz_iinc, tz_i1, tz_i2, tz_i2z, tz_l2, tz_l2z, tz_i2l, tz_l2i, tz_lcmp, tz_i2d, tz_d2, tz_dcmp, tz_dup, tz_dup2, tz_pop, tz_if, tz_icmp, tz_null, tz_goto, tz_sw, tz_getf, tz_puti, tz_putz, tz_putr, tz_putl, tz_iaload, tz_baload, tz_laload, tz_aaload, tz_iastore, tz_bastore, tz_lastore, tz_aastore, tz_alen, tz_new, tz_newa, tz_oinit, tz_iret, tz_zret, tz_lret, tz_dret, tz_aret, tz_vret, tz_throw, tz_callS, tz_callV, tz_callI, tz_callR, tz_pureS, tz_pureV, tz_callVH, lg, lset, lkill, lst1, lst2, entL, isRf, is1, vl, va_rf_none, va_rf_some, isRf_rf, is1_rf, i0, i1, bI_eq0, bI_eq1, nm_em, nI_eqP, nI_leP, nI_ltP, nN_e1, nN_e2, nN_l1, nN_l2, nN_l3, nN_l4, nI_add, pk_mul, vp_inN, nI_cl, n01, n10, P_i, P_ii, P_iii, f_Mo_at, f_Mo_map, f_Mo_contact, f_Mo_within, f_Mo_isPort, f_Hp_endpoint, f_Hp_nodeOf, f_Hp_portOf, f_Ma_max, f_Ma_min, f_Hp_isSetting, popN, rok, a1, noX, swc, mL, if_true, if_false, ↓reduceIte, cond_true, cond_false, true_and, and_true, List.length_cons, List.length_nil, List.nil_append, List.cons_append, List.append_nil, Option.toList, Nat.reduceEqDiff, Bool.false_eq_true, reduceCtorEq, Nat.reduceAdd, Nat.reduceLT, Nat.reduceLeDiff, Nat.reduceSub, List.replicate, Nat.zero_add, Nat.lt_add_one, Nat.le_refl, Nat.zero_le, Nat.succ_ne_zero, not_false_eq_true, not_true_eq_false, false_implies, true_implies, forall_const, imp_self, true_or, or_true, eq_self, sI_zw, zw_zw, hI_zw, tg_zw, ln_zw, hR_zw, hL_zw, hN_zw, hM_zw, upd_s, upd_u, upd_ne, Classical.not_not, k_Mo_node, h1]; try clear hgo9 hW9))
    exact q1 c
theorem c_Mo_translator (a zr : Nat) (n x : Int32) (h : AH) (Q : Po) (hm : MoS h a zr) (hz : Z10 (hI h zr))
    (q1 : ¬ TrZ (hI h zr) n → Q (.inl (some (.int (nI 0)))) (zw h a (upd (hI h a) 0 (nI 1))))
    (q2 : TrZ (hI h zr) n → ¬ (nI 0 ≤ x ∧ x ≤ nI 8) → Q (.inl (some (.int (nI 0)))) (zw h a (upd (hI h a) 0 (nI 2))))
    (q3 : ∀ j k, j < mny (hI h zr) → n = nI j → hI h zr (16 + 16 * j) = nI 1 → k < 9 → x = nI k → Q (.inl (some (.int (tpZ (hI h zr) j k)))) (zw h a (upd (hI h a) 0 (nI 0)))) : Call l G M_Mo_translator [.ref a, .int n, .int x] h Q := by
  have rz := rd_ne hm.ne
  obtain ⟨h1, h2, h3, h4⟩ := id hm
  obtain ⟨z1, z2⟩ := hz.at
  have hzF := mo_zFa hm
  have hzF0 := hm.zF
  have hPn : P_Mo_isTranslator [.ref a, .int n] h := ⟨zr, hm, hz⟩
  refine call_of rfl rfl (Nat.le_of_ble_eq_true rfl) ?_
  (obtain ⟨W9, hW9, hgo9⟩ := wp_ex (T_Mo_translator l G) [] _; refine hgo9 200 _ _ _ _ ?_; simp -implicitDefEqProofs (disch := omega) only [hW9, inl, gate, Xq, tz_const, tz_iload, tz_lload, tz_dload, tz_aload, tz_istore, tz_astore, tz_lstore, tz_dstore, tz_iinc, tz_i1, tz_i2, tz_i2z, tz_l2, tz_l2z, tz_i2l, tz_l2i, tz_lcmp, tz_i2d, tz_d2, tz_dcmp, tz_dup, tz_dup2, tz_pop, tz_if, tz_icmp, tz_null, tz_goto, tz_sw, tz_getf, tz_puti, tz_putz, tz_putr, tz_putl, tz_iaload, tz_baload, tz_laload, tz_aaload, tz_iastore, tz_bastore, tz_lastore, tz_aastore, tz_alen, tz_new, tz_newa, tz_oinit, tz_iret, tz_zret, tz_lret, tz_dret, tz_aret, tz_vret, tz_throw, tz_callS, tz_callV, tz_callI, tz_callR, tz_pureS, tz_pureV, tz_callVH, lg, lset, lkill, lst1, lst2, entL, isRf, is1, vl, va_rf_none, va_rf_some, isRf_rf, is1_rf, i0, i1, bI_eq0, bI_eq1, nm_em, nI_eqP, nI_leP, nI_ltP, nN_e1, nN_e2, nN_l1, nN_l2, nN_l3, nN_l4, nI_add, pk_mul, vp_inN, nI_cl, n01, n10, P_i, P_ii, P_iii, f_Mo_at, f_Mo_map, f_Mo_contact, f_Mo_within, f_Mo_isPort, f_Hp_endpoint, f_Hp_nodeOf, f_Hp_portOf, f_Ma_max, f_Ma_min, f_Hp_isSetting, popN, rok, a1, noX, swc, mL, if_true, if_false, ↓reduceIte, cond_true, cond_false, true_and, and_true, List.length_cons, List.length_nil, List.nil_append, List.cons_append, List.append_nil, Option.toList, Nat.reduceEqDiff, Bool.false_eq_true, reduceCtorEq, Nat.reduceAdd, Nat.reduceLT, Nat.reduceLeDiff, Nat.reduceSub, List.replicate, Nat.zero_add, Nat.lt_add_one, Nat.le_refl, Nat.zero_le, Nat.succ_ne_zero, not_false_eq_true, not_true_eq_false, false_implies, true_implies, forall_const, imp_self, true_or, or_true, eq_self, sI_zw, zw_zw, hI_zw, tg_zw, ln_zw, hR_zw, hL_zw, hN_zw, hM_zw, upd_s, upd_u, upd_ne, Classical.not_not, k_Mo_translator, h1, hPn, f_Mo_isTranslator, hzF0]; try clear hgo9 hW9)
  refine ⟨fun c => ?_, fun c => ?_⟩
  · (obtain ⟨W9, hW9, hgo9⟩ := wp_ex (T_Mo_translator l G) [] _; refine hgo9 200 _ _ _ _ ?_; simp -implicitDefEqProofs (disch := omega) only [hW9, inl, gate, Xq, tz_const, tz_iload, tz_lload, tz_dload, tz_aload, tz_istore, tz_astore, tz_lstore, tz_dstore, tz_iinc, tz_i1, tz_i2, tz_i2z, tz_l2, tz_l2z, tz_i2l, tz_l2i, tz_lcmp, tz_i2d, tz_d2, tz_dcmp, tz_dup, tz_dup2, tz_pop, tz_if, tz_icmp, tz_null, tz_goto, tz_sw, tz_getf, tz_puti, tz_putz, tz_putr, tz_putl, tz_iaload, tz_baload, tz_laload, tz_aaload, tz_iastore, tz_bastore, tz_lastore, tz_aastore, tz_alen, tz_new, tz_newa, tz_oinit, tz_iret, tz_zret, tz_lret, tz_dret, tz_aret, tz_vret, tz_throw, tz_callS, tz_callV, tz_callI, tz_callR, tz_pureS, tz_pureV, tz_callVH, lg, lset, lkill, lst1, lst2, entL, isRf, is1, vl, va_rf_none, va_rf_some, isRf_rf, is1_rf, i0, i1, bI_eq0, bI_eq1, nm_em, nI_eqP, nI_leP, nI_ltP, nN_e1, nN_e2, nN_l1, nN_l2, nN_l3, nN_l4, nI_add, pk_mul, vp_inN, nI_cl, n01, n10, P_i, P_ii, P_iii, f_Mo_at, f_Mo_map, f_Mo_contact, f_Mo_within, f_Mo_isPort, f_Hp_endpoint, f_Hp_nodeOf, f_Hp_portOf, f_Ma_max, f_Ma_min, f_Hp_isSetting, popN, rok, a1, noX, swc, mL, if_true, if_false, ↓reduceIte, cond_true, cond_false, true_and, and_true, List.length_cons, List.length_nil, List.nil_append, List.cons_append, List.append_nil, Option.toList, Nat.reduceEqDiff, Bool.false_eq_true, reduceCtorEq, Nat.reduceAdd, Nat.reduceLT, Nat.reduceLeDiff, Nat.reduceSub, List.replicate, Nat.zero_add, Nat.lt_add_one, Nat.le_refl, Nat.zero_le, Nat.succ_ne_zero, not_false_eq_true, not_true_eq_false, false_implies, true_implies, forall_const, imp_self, true_or, or_true, eq_self, sI_zw, zw_zw, hI_zw, tg_zw, ln_zw, hR_zw, hL_zw, hN_zw, hM_zw, upd_s, upd_u, upd_ne, Classical.not_not, k_Mo_translator, h1]; try clear hgo9 hW9)
    refine ⟨fun d => ?_, fun d => ?_⟩
    · ((obtain ⟨W9, hW9, hgo9⟩ := wp_ex (T_Mo_translator l G) [] _; refine hgo9 200 _ _ _ _ ?_; simp -implicitDefEqProofs (disch := omega) only [hW9, inl, gate, Xq, tz_const, tz_iload, tz_lload, tz_dload, tz_aload, tz_istore, tz_astore, tz_lstore, tz_dstore, tz_iinc, tz_i1, tz_i2, tz_i2z, tz_l2, tz_l2z, tz_i2l, tz_l2i, tz_lcmp, tz_i2d, tz_d2, tz_dcmp, tz_dup, tz_dup2, tz_pop, tz_if, tz_icmp, tz_null, tz_goto, tz_sw, tz_getf, tz_puti, tz_putz, tz_putr, tz_putl, tz_iaload, tz_baload, tz_laload, tz_aaload, tz_iastore, tz_bastore, tz_lastore, tz_aastore, tz_alen, tz_new, tz_newa, tz_oinit, tz_iret, tz_zret, tz_lret, tz_dret, tz_aret, tz_vret, tz_throw, tz_callS, tz_callV, tz_callI, tz_callR, tz_pureS, tz_pureV, tz_callVH, lg, lset, lkill, lst1, lst2, entL, isRf, is1, vl, va_rf_none, va_rf_some, isRf_rf, is1_rf, i0, i1, bI_eq0, bI_eq1, nm_em, nI_eqP, nI_leP, nI_ltP, nN_e1, nN_e2, nN_l1, nN_l2, nN_l3, nN_l4, nI_add, pk_mul, vp_inN, nI_cl, n01, n10, P_i, P_ii, P_iii, f_Mo_at, f_Mo_map, f_Mo_contact, f_Mo_within, f_Mo_isPort, f_Hp_endpoint, f_Hp_nodeOf, f_Hp_portOf, f_Ma_max, f_Ma_min, f_Hp_isSetting, popN, rok, a1, noX, swc, mL, if_true, if_false, ↓reduceIte, cond_true, cond_false, true_and, and_true, List.length_cons, List.length_nil, List.nil_append, List.cons_append, List.append_nil, Option.toList, Nat.reduceEqDiff, Bool.false_eq_true, reduceCtorEq, Nat.reduceAdd, Nat.reduceLT, Nat.reduceLeDiff, Nat.reduceSub, List.replicate, Nat.zero_add, Nat.lt_add_one, Nat.le_refl, Nat.zero_le, Nat.succ_ne_zero, not_false_eq_true, not_true_eq_false, false_implies, true_implies, forall_const, imp_self, true_or, or_true, eq_self, sI_zw, zw_zw, hI_zw, tg_zw, ln_zw, hR_zw, hL_zw, hN_zw, hM_zw, upd_s, upd_u, upd_ne, Classical.not_not, k_Mo_translator, h1]; try clear hgo9 hW9); try (obtain ⟨W9, hW9, hgo9⟩ := wp_ex (T_Mo_translator l G) [] _; refine hgo9 200 _ _ _ _ ?_; simp -implicitDefEqProofs (disch := omega) only [hW9, inl, gate, Xq, tz_const, tz_iload, tz_lload, tz_dload, tz_aload, tz_istore, tz_astore, tz_lstore, tz_dstore, tz_iinc, tz_i1, tz_i2, tz_i2z, tz_l2, tz_l2z, tz_i2l, tz_l2i, tz_lcmp, tz_i2d, tz_d2, tz_dcmp, tz_dup, tz_dup2, tz_pop, tz_if, tz_icmp, tz_null, tz_goto, tz_sw, tz_getf, tz_puti, tz_putz, tz_putr, tz_putl, tz_iaload, tz_baload, tz_laload, tz_aaload, tz_iastore, tz_bastore, tz_lastore, tz_aastore, tz_alen, tz_new, tz_newa, tz_oinit, tz_iret, tz_zret, tz_lret, tz_dret, tz_aret, tz_vret, tz_throw, tz_callS, tz_callV, tz_callI, tz_callR, tz_pureS, tz_pureV, tz_callVH, lg, lset, lkill, lst1, lst2, entL, isRf, is1, vl, va_rf_none, va_rf_some, isRf_rf, is1_rf, i0, i1, bI_eq0, bI_eq1, nm_em, nI_eqP, nI_leP, nI_ltP, nN_e1, nN_e2, nN_l1, nN_l2, nN_l3, nN_l4, nI_add, pk_mul, vp_inN, nI_cl, n01, n10, P_i, P_ii, P_iii, f_Mo_at, f_Mo_map, f_Mo_contact, f_Mo_within, f_Mo_isPort, f_Hp_endpoint, f_Hp_nodeOf, f_Hp_portOf, f_Ma_max, f_Ma_min, f_Hp_isSetting, popN, rok, a1, noX, swc, mL, if_true, if_false, ↓reduceIte, cond_true, cond_false, true_and, and_true, List.length_cons, List.length_nil, List.nil_append, List.cons_append, List.append_nil, Option.toList, Nat.reduceEqDiff, Bool.false_eq_true, reduceCtorEq, Nat.reduceAdd, Nat.reduceLT, Nat.reduceLeDiff, Nat.reduceSub, List.replicate, Nat.zero_add, Nat.lt_add_one, Nat.le_refl, Nat.zero_le, Nat.succ_ne_zero, not_false_eq_true, not_true_eq_false, false_implies, true_implies, forall_const, imp_self, true_or, or_true, eq_self, sI_zw, zw_zw, hI_zw, tg_zw, ln_zw, hR_zw, hL_zw, hN_zw, hM_zw, upd_s, upd_u, upd_ne, Classical.not_not, k_Mo_translator, h1]; try clear hgo9 hW9))
      exact q2 c d
    · obtain ⟨k, hk, rfl⟩ := wi_nat (by omega) d
      obtain ⟨j, hj, rfl, hj2⟩ := c
      have hP : ∀ f, P_Mo_translatorNow [.ref a, .int (nI j), .int (nI k)] (zw h a f) := fun f => ⟨zr, j, k, hm.zw, rfl, by omega, rfl, hk⟩
      have hcl : (nI k).toNatClampNeg = k := nI_clamp (by omega)
      have hcl2 : (nI j).toNatClampNeg = j := nI_clamp (by omega)
      ((obtain ⟨W9, hW9, hgo9⟩ := wp_ex (T_Mo_translator l G) [] _; refine hgo9 200 _ _ _ _ ?_; simp -implicitDefEqProofs (disch := omega) only [hW9, inl, gate, Xq, tz_const, tz_iload, tz_lload, tz_dload, tz_aload, tz_istore, tz_astore, tz_lstore, tz_dstore, tz_iinc, tz_i1, tz_i2, tz_i2z, tz_l2, tz_l2z, tz_i2l, tz_l2i, tz_lcmp, tz_i2d, tz_d2, tz_dcmp, tz_dup, tz_dup2, tz_pop, tz_if, tz_icmp, tz_null, tz_goto, tz_sw, tz_getf, tz_puti, tz_putz, tz_putr, tz_putl, tz_iaload, tz_baload, tz_laload, tz_aaload, tz_iastore, tz_bastore, tz_lastore, tz_aastore, tz_alen, tz_new, tz_newa, tz_oinit, tz_iret, tz_zret, tz_lret, tz_dret, tz_aret, tz_vret, tz_throw, tz_callS, tz_callV, tz_callI, tz_callR, tz_pureS, tz_pureV, tz_callVH, lg, lset, lkill, lst1, lst2, entL, isRf, is1, vl, va_rf_none, va_rf_some, isRf_rf, is1_rf, i0, i1, bI_eq0, bI_eq1, nm_em, nI_eqP, nI_leP, nI_ltP, nN_e1, nN_e2, nN_l1, nN_l2, nN_l3, nN_l4, nI_add, pk_mul, vp_inN, nI_cl, n01, n10, P_i, P_ii, P_iii, f_Mo_at, f_Mo_map, f_Mo_contact, f_Mo_within, f_Mo_isPort, f_Hp_endpoint, f_Hp_nodeOf, f_Hp_portOf, f_Ma_max, f_Ma_min, f_Hp_isSetting, popN, rok, a1, noX, swc, mL, if_true, if_false, ↓reduceIte, cond_true, cond_false, true_and, and_true, List.length_cons, List.length_nil, List.nil_append, List.cons_append, List.append_nil, Option.toList, Nat.reduceEqDiff, Bool.false_eq_true, reduceCtorEq, Nat.reduceAdd, Nat.reduceLT, Nat.reduceLeDiff, Nat.reduceSub, List.replicate, Nat.zero_add, Nat.lt_add_one, Nat.le_refl, Nat.zero_le, Nat.succ_ne_zero, not_false_eq_true, not_true_eq_false, false_implies, true_implies, forall_const, imp_self, true_or, or_true, eq_self, sI_zw, zw_zw, hI_zw, tg_zw, ln_zw, hR_zw, hL_zw, hN_zw, hM_zw, upd_s, upd_u, upd_ne, Classical.not_not, k_Mo_translator, h1, hP, f_Mo_translatorNow, hzF, hcl, hcl2]; try clear hgo9 hW9); try (obtain ⟨W9, hW9, hgo9⟩ := wp_ex (T_Mo_translator l G) [] _; refine hgo9 200 _ _ _ _ ?_; simp -implicitDefEqProofs (disch := omega) only [hW9, inl, gate, Xq, tz_const, tz_iload, tz_lload, tz_dload, tz_aload, tz_istore, tz_astore, tz_lstore, tz_dstore, tz_iinc, tz_i1, tz_i2, tz_i2z, tz_l2, tz_l2z, tz_i2l, tz_l2i, tz_lcmp, tz_i2d, tz_d2, tz_dcmp, tz_dup, tz_dup2, tz_pop, tz_if, tz_icmp, tz_null, tz_goto, tz_sw, tz_getf, tz_puti, tz_putz, tz_putr, tz_putl, tz_iaload, tz_baload, tz_laload, tz_aaload, tz_iastore, tz_bastore, tz_lastore, tz_aastore, tz_alen, tz_new, tz_newa, tz_oinit, tz_iret, tz_zret, tz_lret, tz_dret, tz_aret, tz_vret, tz_throw, tz_callS, tz_callV, tz_callI, tz_callR, tz_pureS, tz_pureV, tz_callVH, lg, lset, lkill, lst1, lst2, entL, isRf, is1, vl, va_rf_none, va_rf_some, isRf_rf, is1_rf, i0, i1, bI_eq0, bI_eq1, nm_em, nI_eqP, nI_leP, nI_ltP, nN_e1, nN_e2, nN_l1, nN_l2, nN_l3, nN_l4, nI_add, pk_mul, vp_inN, nI_cl, n01, n10, P_i, P_ii, P_iii, f_Mo_at, f_Mo_map, f_Mo_contact, f_Mo_within, f_Mo_isPort, f_Hp_endpoint, f_Hp_nodeOf, f_Hp_portOf, f_Ma_max, f_Ma_min, f_Hp_isSetting, popN, rok, a1, noX, swc, mL, if_true, if_false, ↓reduceIte, cond_true, cond_false, true_and, and_true, List.length_cons, List.length_nil, List.nil_append, List.cons_append, List.append_nil, Option.toList, Nat.reduceEqDiff, Bool.false_eq_true, reduceCtorEq, Nat.reduceAdd, Nat.reduceLT, Nat.reduceLeDiff, Nat.reduceSub, List.replicate, Nat.zero_add, Nat.lt_add_one, Nat.le_refl, Nat.zero_le, Nat.succ_ne_zero, not_false_eq_true, not_true_eq_false, false_implies, true_implies, forall_const, imp_self, true_or, or_true, eq_self, sI_zw, zw_zw, hI_zw, tg_zw, ln_zw, hR_zw, hL_zw, hN_zw, hM_zw, upd_s, upd_u, upd_ne, Classical.not_not, k_Mo_translator, h1, hP, f_Mo_translatorNow, hzF, hcl, hcl2]; try clear hgo9 hW9))
      exact q3 j k hj rfl hj2 hk rfl
  · ((obtain ⟨W9, hW9, hgo9⟩ := wp_ex (T_Mo_translator l G) [] _; refine hgo9 200 _ _ _ _ ?_; simp -implicitDefEqProofs (disch := omega) only [hW9, inl, gate, Xq, tz_const, tz_iload, tz_lload, tz_dload, tz_aload, tz_istore, tz_astore, tz_lstore, tz_dstore, tz_iinc, tz_i1, tz_i2, tz_i2z, tz_l2, tz_l2z, tz_i2l, tz_l2i, tz_lcmp, tz_i2d, tz_d2, tz_dcmp, tz_dup, tz_dup2, tz_pop, tz_if, tz_icmp, tz_null, tz_goto, tz_sw, tz_getf, tz_puti, tz_putz, tz_putr, tz_putl, tz_iaload, tz_baload, tz_laload, tz_aaload, tz_iastore, tz_bastore, tz_lastore, tz_aastore, tz_alen, tz_new, tz_newa, tz_oinit, tz_iret, tz_zret, tz_lret, tz_dret, tz_aret, tz_vret, tz_throw, tz_callS, tz_callV, tz_callI, tz_callR, tz_pureS, tz_pureV, tz_callVH, lg, lset, lkill, lst1, lst2, entL, isRf, is1, vl, va_rf_none, va_rf_some, isRf_rf, is1_rf, i0, i1, bI_eq0, bI_eq1, nm_em, nI_eqP, nI_leP, nI_ltP, nN_e1, nN_e2, nN_l1, nN_l2, nN_l3, nN_l4, nI_add, pk_mul, vp_inN, nI_cl, n01, n10, P_i, P_ii, P_iii, f_Mo_at, f_Mo_map, f_Mo_contact, f_Mo_within, f_Mo_isPort, f_Hp_endpoint, f_Hp_nodeOf, f_Hp_portOf, f_Ma_max, f_Ma_min, f_Hp_isSetting, popN, rok, a1, noX, swc, mL, if_true, if_false, ↓reduceIte, cond_true, cond_false, true_and, and_true, List.length_cons, List.length_nil, List.nil_append, List.cons_append, List.append_nil, Option.toList, Nat.reduceEqDiff, Bool.false_eq_true, reduceCtorEq, Nat.reduceAdd, Nat.reduceLT, Nat.reduceLeDiff, Nat.reduceSub, List.replicate, Nat.zero_add, Nat.lt_add_one, Nat.le_refl, Nat.zero_le, Nat.succ_ne_zero, not_false_eq_true, not_true_eq_false, false_implies, true_implies, forall_const, imp_self, true_or, or_true, eq_self, sI_zw, zw_zw, hI_zw, tg_zw, ln_zw, hR_zw, hL_zw, hN_zw, hM_zw, upd_s, upd_u, upd_ne, Classical.not_not, k_Mo_translator, h1]; try clear hgo9 hW9); try (obtain ⟨W9, hW9, hgo9⟩ := wp_ex (T_Mo_translator l G) [] _; refine hgo9 200 _ _ _ _ ?_; simp -implicitDefEqProofs (disch := omega) only [hW9, inl, gate, Xq, tz_const, tz_iload, tz_lload, tz_dload, tz_aload, tz_istore, tz_astore, tz_lstore, tz_dstore, tz_iinc, tz_i1, tz_i2, tz_i2z, tz_l2, tz_l2z, tz_i2l, tz_l2i, tz_lcmp, tz_i2d, tz_d2, tz_dcmp, tz_dup, tz_dup2, tz_pop, tz_if, tz_icmp, tz_null, tz_goto, tz_sw, tz_getf, tz_puti, tz_putz, tz_putr, tz_putl, tz_iaload, tz_baload, tz_laload, tz_aaload, tz_iastore, tz_bastore, tz_lastore, tz_aastore, tz_alen, tz_new, tz_newa, tz_oinit, tz_iret, tz_zret, tz_lret, tz_dret, tz_aret, tz_vret, tz_throw, tz_callS, tz_callV, tz_callI, tz_callR, tz_pureS, tz_pureV, tz_callVH, lg, lset, lkill, lst1, lst2, entL, isRf, is1, vl, va_rf_none, va_rf_some, isRf_rf, is1_rf, i0, i1, bI_eq0, bI_eq1, nm_em, nI_eqP, nI_leP, nI_ltP, nN_e1, nN_e2, nN_l1, nN_l2, nN_l3, nN_l4, nI_add, pk_mul, vp_inN, nI_cl, n01, n10, P_i, P_ii, P_iii, f_Mo_at, f_Mo_map, f_Mo_contact, f_Mo_within, f_Mo_isPort, f_Hp_endpoint, f_Hp_nodeOf, f_Hp_portOf, f_Ma_max, f_Ma_min, f_Hp_isSetting, popN, rok, a1, noX, swc, mL, if_true, if_false, ↓reduceIte, cond_true, cond_false, true_and, and_true, List.length_cons, List.length_nil, List.nil_append, List.cons_append, List.append_nil, Option.toList, Nat.reduceEqDiff, Bool.false_eq_true, reduceCtorEq, Nat.reduceAdd, Nat.reduceLT, Nat.reduceLeDiff, Nat.reduceSub, List.replicate, Nat.zero_add, Nat.lt_add_one, Nat.le_refl, Nat.zero_le, Nat.succ_ne_zero, not_false_eq_true, not_true_eq_false, false_implies, true_implies, forall_const, imp_self, true_or, or_true, eq_self, sI_zw, zw_zw, hI_zw, tg_zw, ln_zw, hR_zw, hL_zw, hN_zw, hM_zw, upd_s, upd_u, upd_ne, Classical.not_not, k_Mo_translator, h1]; try clear hgo9 hW9))
    exact q1 c
/-- mapping number m of translator n -/
def MpN (z : Nat → Int32) (n m : Int32) : Prop := ∃ j i, j < mny z ∧ n = nI j ∧ z (16 + 16 * j) = nI 1 ∧ i < own z j ∧ m = nI i
theorem c_Mo_mapping (a zr : Nat) (n m x : Int32) (h : AH) (Q : Po) (hm : MoS h a zr) (hz : Z10 (hI h zr)) (ho : Own10 (hI h zr))
    (q1 : ¬ MpN (hI h zr) n m → Q (.inl (some (.int (nI 0)))) (zw h a (upd (hI h a) 0 (nI 1))))
    (q2 : MpN (hI h zr) n m → ¬ (nI 0 ≤ x ∧ x ≤ nI 6) → Q (.inl (some (.int (nI 0)))) (zw h a (upd (hI h a) 0 (nI 2))))
    (q3 : ∀ j i k, j < mny (hI h zr) → n = nI j → hI h zr (16 + 16 * j) = nI 1 → i < own (hI h zr) j → m = nI i → k < 7 → x = nI k → Q (.inl (some (.int (mpZ (hI h zr) j i k)))) (zw h a (upd (hI h a) 0 (nI 0)))) : Call l G M_Mo_mapping [.ref a, .int n, .int m, .int x] h Q := by
  have rz := rd_ne hm.ne
  obtain ⟨h1, h2, h3, h4⟩ := id hm
  obtain ⟨z1, z2⟩ := hz.at
  have hzF := mo_zFa hm
  have hzF0 := hm.zF
  have hPn : P_Mo_isTranslator [.ref a, .int n] h := ⟨zr, hm, hz⟩
  have no : ¬ MpN (hI h zr) n m → ∀ v, AWp l G M_Mo_mapping 33 [some (.ref a), some (.int n), some (.int m), some (.int x), v] [] h Q := by
    intro c v
    ((obtain ⟨W9, hW9, hgo9⟩ := wp_ex (T_Mo_mapping l G) [] _; refine hgo9 200 _ _ _ _ ?_; simp -implicitDefEqProofs (disch := omega) only [hW9, inl, gate, Xq, tz_const, tz_iload, tz_lload, tz_dload, tz_aload, tz_istore, tz_astore, tz_lstore, tz_dstore, tz_iinc, tz_i1, tz_i2, tz_i2z, tz_l2, tz_l2z, tz_i2l, tz_l2i, tz_lcmp, tz_i2d, tz_d2, tz_dcmp, tz_dup, tz_dup2, tz_pop, tz_if, tz_icmp, tz_null, tz_goto, tz_sw, tz_getf, tz_puti, tz_putz, tz_putr, tz_putl, tz_iaload, tz_baload, tz_laload, tz_aaload, tz_iastore, tz_bastore, tz_lastore, tz_aastore, tz_alen, tz_new, tz_newa, tz_oinit, tz_iret, tz_zret, tz_lret, tz_dret, tz_aret, tz_vret, tz_throw, tz_callS, tz_callV, tz_callI, tz_callR, tz_pureS, tz_pureV, tz_callVH, lg, lset, lkill, lst1, lst2, entL, isRf, is1, vl, va_rf_none, va_rf_some, isRf_rf, is1_rf, i0, i1, bI_eq0, bI_eq1, nm_em, nI_eqP, nI_leP, nI_ltP, nN_e1, nN_e2, nN_l1, nN_l2, nN_l3, nN_l4, nI_add, pk_mul, vp_inN, nI_cl, n01, n10, P_i, P_ii, P_iii, f_Mo_at, f_Mo_map, f_Mo_contact, f_Mo_within, f_Mo_isPort, f_Hp_endpoint, f_Hp_nodeOf, f_Hp_portOf, f_Ma_max, f_Ma_min, f_Hp_isSetting, popN, rok, a1, noX, swc, mL, if_true, if_false, ↓reduceIte, cond_true, cond_false, true_and, and_true, List.length_cons, List.length_nil, List.nil_append, List.cons_append, List.append_nil, Option.toList, Nat.reduceEqDiff, Bool.false_eq_true, reduceCtorEq, Nat.reduceAdd, Nat.reduceLT, Nat.reduceLeDiff, Nat.reduceSub, List.replicate, Nat.zero_add, Nat.lt_add_one, Nat.le_refl, Nat.zero_le, Nat.succ_ne_zero, not_false_eq_true, not_true_eq_false, false_implies, true_implies, forall_const, imp_self, true_or, or_true, eq_self, sI_zw, zw_zw, hI_zw, tg_zw, ln_zw, hR_zw, hL_zw, hN_zw, hM_zw, upd_s, upd_u, upd_ne, Classical.not_not, k_Mo_mapping, h1]; try clear hgo9 hW9); try (obtain ⟨W9, hW9, hgo9⟩ := wp_ex (T_Mo_mapping l G) [] _; refine hgo9 200 _ _ _ _ ?_; simp -implicitDefEqProofs (disch := omega) only [hW9, inl, gate, Xq, tz_const, tz_iload, tz_lload, tz_dload, tz_aload, tz_istore, tz_astore, tz_lstore, tz_dstore, tz_iinc, tz_i1, tz_i2, tz_i2z, tz_l2, tz_l2z, tz_i2l, tz_l2i, tz_lcmp, tz_i2d, tz_d2, tz_dcmp, tz_dup, tz_dup2, tz_pop, tz_if, tz_icmp, tz_null, tz_goto, tz_sw, tz_getf, tz_puti, tz_putz, tz_putr, tz_putl, tz_iaload, tz_baload, tz_laload, tz_aaload, tz_iastore, tz_bastore, tz_lastore, tz_aastore, tz_alen, tz_new, tz_newa, tz_oinit, tz_iret, tz_zret, tz_lret, tz_dret, tz_aret, tz_vret, tz_throw, tz_callS, tz_callV, tz_callI, tz_callR, tz_pureS, tz_pureV, tz_callVH, lg, lset, lkill, lst1, lst2, entL, isRf, is1, vl, va_rf_none, va_rf_some, isRf_rf, is1_rf, i0, i1, bI_eq0, bI_eq1, nm_em, nI_eqP, nI_leP, nI_ltP, nN_e1, nN_e2, nN_l1, nN_l2, nN_l3, nN_l4, nI_add, pk_mul, vp_inN, nI_cl, n01, n10, P_i, P_ii, P_iii, f_Mo_at, f_Mo_map, f_Mo_contact, f_Mo_within, f_Mo_isPort, f_Hp_endpoint, f_Hp_nodeOf, f_Hp_portOf, f_Ma_max, f_Ma_min, f_Hp_isSetting, popN, rok, a1, noX, swc, mL, if_true, if_false, ↓reduceIte, cond_true, cond_false, true_and, and_true, List.length_cons, List.length_nil, List.nil_append, List.cons_append, List.append_nil, Option.toList, Nat.reduceEqDiff, Bool.false_eq_true, reduceCtorEq, Nat.reduceAdd, Nat.reduceLT, Nat.reduceLeDiff, Nat.reduceSub, List.replicate, Nat.zero_add, Nat.lt_add_one, Nat.le_refl, Nat.zero_le, Nat.succ_ne_zero, not_false_eq_true, not_true_eq_false, false_implies, true_implies, forall_const, imp_self, true_or, or_true, eq_self, sI_zw, zw_zw, hI_zw, tg_zw, ln_zw, hR_zw, hL_zw, hN_zw, hM_zw, upd_s, upd_u, upd_ne, Classical.not_not, k_Mo_mapping, h1]; try clear hgo9 hW9); try (obtain ⟨W9, hW9, hgo9⟩ := wp_ex (T_Mo_mapping l G) [] _; refine hgo9 200 _ _ _ _ ?_; simp -implicitDefEqProofs (disch := omega) only [hW9, inl, gate, Xq, tz_const, tz_iload, tz_lload, tz_dload, tz_aload, tz_istore, tz_astore, tz_lstore, tz_dstore, tz_iinc, tz_i1, tz_i2, tz_i2z, tz_l2, tz_l2z, tz_i2l, tz_l2i, tz_lcmp, tz_i2d, tz_d2, tz_dcmp, tz_dup, tz_dup2, tz_pop, tz_if, tz_icmp, tz_null, tz_goto, tz_sw, tz_getf, tz_puti, tz_putz, tz_putr, tz_putl, tz_iaload, tz_baload, tz_laload, tz_aaload, tz_iastore, tz_bastore, tz_lastore, tz_aastore, tz_alen, tz_new, tz_newa, tz_oinit, tz_iret, tz_zret, tz_lret, tz_dret, tz_aret, tz_vret, tz_throw, tz_callS, tz_callV, tz_callI, tz_callR, tz_pureS, tz_pureV, tz_callVH, lg, lset, lkill, lst1, lst2, entL, isRf, is1, vl, va_rf_none, va_rf_some, isRf_rf, is1_rf, i0, i1, bI_eq0, bI_eq1, nm_em, nI_eqP, nI_leP, nI_ltP, nN_e1, nN_e2, nN_l1, nN_l2, nN_l3, nN_l4, nI_add, pk_mul, vp_inN, nI_cl, n01, n10, P_i, P_ii, P_iii, f_Mo_at, f_Mo_map, f_Mo_contact, f_Mo_within, f_Mo_isPort, f_Hp_endpoint, f_Hp_nodeOf, f_Hp_portOf, f_Ma_max, f_Ma_min, f_Hp_isSetting, popN, rok, a1, noX, swc, mL, if_true, if_false, ↓reduceIte, cond_true, cond_false, true_and, and_true, List.length_cons, List.length_nil, List.nil_append, List.cons_append, List.append_nil, Option.toList, Nat.reduceEqDiff, Bool.false_eq_true, reduceCtorEq, Nat.reduceAdd, Nat.reduceLT, Nat.reduceLeDiff, Nat.reduceSub, List.replicate, Nat.zero_add, Nat.lt_add_one, Nat.le_refl, Nat.zero_le, Nat.succ_ne_zero, not_false_eq_true, not_true_eq_false, false_implies, true_implies, forall_const, imp_self, true_or, or_true, eq_self, sI_zw, zw_zw, hI_zw, tg_zw, ln_zw, hR_zw, hL_zw, hN_zw, hM_zw, upd_s, upd_u, upd_ne, Classical.not_not, k_Mo_mapping, h1]; try clear hgo9 hW9))
    exact q1 c
  refine call_of rfl rfl (Nat.le_of_ble_eq_true rfl) ?_
  (obtain ⟨W9, hW9, hgo9⟩ := wp_ex (T_Mo_mapping l G) [33] _; refine hgo9 200 _ _ _ _ ?_; simp -implicitDefEqProofs (disch := omega) only [hW9, inl, gate, Xq, tz_const, tz_iload, tz_lload, tz_dload, tz_aload, tz_istore, tz_astore, tz_lstore, tz_dstore, tz_iinc, tz_i1, tz_i2, tz_i2z, tz_l2, tz_l2z, tz_i2l, tz_l2i, tz_lcmp, tz_i2d, tz_d2, tz_dcmp, tz_dup, tz_dup2, tz_pop, tz_if, tz_icmp, tz_null, tz_goto, tz_sw, tz_getf, tz_puti, tz_putz, tz_putr, tz_putl, tz_iaload, tz_baload, tz_laload, tz_aaload, tz_iastore, tz_bastore, tz_lastore, tz_aastore, tz_alen, tz_new, tz_newa, tz_oinit, tz_iret, tz_zret, tz_lret, tz_dret, tz_aret, tz_vret, tz_throw, tz_callS, tz_callV, tz_callI, tz_callR, tz_pureS, tz_pureV, tz_callVH, lg, lset, lkill, lst1, lst2, entL, isRf, is1, vl, va_rf_none, va_rf_some, isRf_rf, is1_rf, i0, i1, bI_eq0, bI_eq1, nm_em, nI_eqP, nI_leP, nI_ltP, nN_e1, nN_e2, nN_l1, nN_l2, nN_l3, nN_l4, nI_add, pk_mul, vp_inN, nI_cl, n01, n10, P_i, P_ii, P_iii, f_Mo_at, f_Mo_map, f_Mo_contact, f_Mo_within, f_Mo_isPort, f_Hp_endpoint, f_Hp_nodeOf, f_Hp_portOf, f_Ma_max, f_Ma_min, f_Hp_isSetting, popN, rok, a1, noX, swc, mL, if_true, if_false, ↓reduceIte, cond_true, cond_false, true_and, and_true, List.length_cons, List.length_nil, List.nil_append, List.cons_append, List.append_nil, Option.toList, Nat.reduceEqDiff, Bool.false_eq_true, reduceCtorEq, Nat.reduceAdd, Nat.reduceLT, Nat.reduceLeDiff, Nat.reduceSub, List.replicate, Nat.zero_add, Nat.lt_add_one, Nat.le_refl, Nat.zero_le, Nat.succ_ne_zero, not_false_eq_true, not_true_eq_false, false_implies, true_implies, forall_const, imp_self, true_or, or_true, eq_self, sI_zw, zw_zw, hI_zw, tg_zw, ln_zw, hR_zw, hL_zw, hN_zw, hM_zw, upd_s, upd_u, upd_ne, Classical.not_not, k_Mo_mapping, h1, hPn, f_Mo_isTranslator, hzF0]; try clear hgo9 hW9)
  refine ⟨fun c => ?_, fun c => ?_⟩
  · refine no ?_ _
    rintro ⟨j, i, j1, j2, j3, -⟩
    exact c ⟨j, j1, j2, j3⟩
  · obtain ⟨j, hj, rfl, hj2⟩ := c
    obtain ⟨o1, o2⟩ := ho j (by omega)
    (obtain ⟨W9, hW9, hgo9⟩ := wp_ex (T_Mo_mapping l G) [33] _; refine hgo9 200 _ _ _ _ ?_; simp -implicitDefEqProofs (disch := omega) only [hW9, inl, gate, Xq, tz_const, tz_iload, tz_lload, tz_dload, tz_aload, tz_istore, tz_astore, tz_lstore, tz_dstore, tz_iinc, tz_i1, tz_i2, tz_i2z, tz_l2, tz_l2z, tz_i2l, tz_l2i, tz_lcmp, tz_i2d, tz_d2, tz_dcmp, tz_dup, tz_dup2, tz_pop, tz_if, tz_icmp, tz_null, tz_goto, tz_sw, tz_getf, tz_puti, tz_putz, tz_putr, tz_putl, tz_iaload, tz_baload, tz_laload, tz_aaload, tz_iastore, tz_bastore, tz_lastore, tz_aastore, tz_alen, tz_new, tz_newa, tz_oinit, tz_iret, tz_zret, tz_lret, tz_dret, tz_aret, tz_vret, tz_throw, tz_callS, tz_callV, tz_callI, tz_callR, tz_pureS, tz_pureV, tz_callVH, lg, lset, lkill, lst1, lst2, entL, isRf, is1, vl, va_rf_none, va_rf_some, isRf_rf, is1_rf, i0, i1, bI_eq0, bI_eq1, nm_em, nI_eqP, nI_leP, nI_ltP, nN_e1, nN_e2, nN_l1, nN_l2, nN_l3, nN_l4, nI_add, pk_mul, vp_inN, nI_cl, n01, n10, P_i, P_ii, P_iii, f_Mo_at, f_Mo_map, f_Mo_contact, f_Mo_within, f_Mo_isPort, f_Hp_endpoint, f_Hp_nodeOf, f_Hp_portOf, f_Ma_max, f_Ma_min, f_Hp_isSetting, popN, rok, a1, noX, swc, mL, if_true, if_false, ↓reduceIte, cond_true, cond_false, true_and, and_true, List.length_cons, List.length_nil, List.nil_append, List.cons_append, List.append_nil, Option.toList, Nat.reduceEqDiff, Bool.false_eq_true, reduceCtorEq, Nat.reduceAdd, Nat.reduceLT, Nat.reduceLeDiff, Nat.reduceSub, List.replicate, Nat.zero_add, Nat.lt_add_one, Nat.le_refl, Nat.zero_le, Nat.succ_ne_zero, not_false_eq_true, not_true_eq_false, false_implies, true_implies, forall_const, imp_self, true_or, or_true, eq_self, sI_zw, zw_zw, hI_zw, tg_zw, ln_zw, hR_zw, hL_zw, hN_zw, hM_zw, upd_s, upd_u, upd_ne, Classical.not_not, k_Mo_mapping, h1, h2, h3, h4, o1]; try clear hgo9 hW9)
    refine ⟨fun c2 => ?_, fun c2 => ?_⟩
    · refine no ?_ _
      rintro ⟨j', i, j1, j2, j3, j4, rfl⟩
      rw [nI_eq (by omega) (by omega)] at j2
      subst j2
      exact c2 ((nd_iff (by omega)).mpr ⟨i, j4, rfl⟩)
    · obtain ⟨i, hi, rfl⟩ := (nd_iff (by omega)).mp c2
      ((obtain ⟨W9, hW9, hgo9⟩ := wp_ex (T_Mo_mapping l G) [] _; refine hgo9 200 _ _ _ _ ?_; simp -implicitDefEqProofs (disch := omega) only [hW9, inl, gate, Xq, tz_const, tz_iload, tz_lload, tz_dload, tz_aload, tz_istore, tz_astore, tz_lstore, tz_dstore, tz_iinc, tz_i1, tz_i2, tz_i2z, tz_l2, tz_l2z, tz_i2l, tz_l2i, tz_lcmp, tz_i2d, tz_d2, tz_dcmp, tz_dup, tz_dup2, tz_pop, tz_if, tz_icmp, tz_null, tz_goto, tz_sw, tz_getf, tz_puti, tz_putz, tz_putr, tz_putl, tz_iaload, tz_baload, tz_laload, tz_aaload, tz_iastore, tz_bastore, tz_lastore, tz_aastore, tz_alen, tz_new, tz_newa, tz_oinit, tz_iret, tz_zret, tz_lret, tz_dret, tz_aret, tz_vret, tz_throw, tz_callS, tz_callV, tz_callI, tz_callR, tz_pureS, tz_pureV, tz_callVH, lg, lset, lkill, lst1, lst2, entL, isRf, is1, vl, va_rf_none, va_rf_some, isRf_rf, is1_rf, i0, i1, bI_eq0, bI_eq1, nm_em, nI_eqP, nI_leP, nI_ltP, nN_e1, nN_e2, nN_l1, nN_l2, nN_l3, nN_l4, nI_add, pk_mul, vp_inN, nI_cl, n01, n10, P_i, P_ii, P_iii, f_Mo_at, f_Mo_map, f_Mo_contact, f_Mo_within, f_Mo_isPort, f_Hp_endpoint, f_Hp_nodeOf, f_Hp_portOf, f_Ma_max, f_Ma_min, f_Hp_isSetting, popN, rok, a1, noX, swc, mL, if_true, if_false, ↓reduceIte, cond_true, cond_false, true_and, and_true, List.length_cons, List.length_nil, List.nil_append, List.cons_append, List.append_nil, Option.toList, Nat.reduceEqDiff, Bool.false_eq_true, reduceCtorEq, Nat.reduceAdd, Nat.reduceLT, Nat.reduceLeDiff, Nat.reduceSub, List.replicate, Nat.zero_add, Nat.lt_add_one, Nat.le_refl, Nat.zero_le, Nat.succ_ne_zero, not_false_eq_true, not_true_eq_false, false_implies, true_implies, forall_const, imp_self, true_or, or_true, eq_self, sI_zw, zw_zw, hI_zw, tg_zw, ln_zw, hR_zw, hL_zw, hN_zw, hM_zw, upd_s, upd_u, upd_ne, Classical.not_not, k_Mo_mapping, h1]; try clear hgo9 hW9); try (obtain ⟨W9, hW9, hgo9⟩ := wp_ex (T_Mo_mapping l G) [] _; refine hgo9 200 _ _ _ _ ?_; simp -implicitDefEqProofs (disch := omega) only [hW9, inl, gate, Xq, tz_const, tz_iload, tz_lload, tz_dload, tz_aload, tz_istore, tz_astore, tz_lstore, tz_dstore, tz_iinc, tz_i1, tz_i2, tz_i2z, tz_l2, tz_l2z, tz_i2l, tz_l2i, tz_lcmp, tz_i2d, tz_d2, tz_dcmp, tz_dup, tz_dup2, tz_pop, tz_if, tz_icmp, tz_null, tz_goto, tz_sw, tz_getf, tz_puti, tz_putz, tz_putr, tz_putl, tz_iaload, tz_baload, tz_laload, tz_aaload, tz_iastore, tz_bastore, tz_lastore, tz_aastore, tz_alen, tz_new, tz_newa, tz_oinit, tz_iret, tz_zret, tz_lret, tz_dret, tz_aret, tz_vret, tz_throw, tz_callS, tz_callV, tz_callI, tz_callR, tz_pureS, tz_pureV, tz_callVH, lg, lset, lkill, lst1, lst2, entL, isRf, is1, vl, va_rf_none, va_rf_some, isRf_rf, is1_rf, i0, i1, bI_eq0, bI_eq1, nm_em, nI_eqP, nI_leP, nI_ltP, nN_e1, nN_e2, nN_l1, nN_l2, nN_l3, nN_l4, nI_add, pk_mul, vp_inN, nI_cl, n01, n10, P_i, P_ii, P_iii, f_Mo_at, f_Mo_map, f_Mo_contact, f_Mo_within, f_Mo_isPort, f_Hp_endpoint, f_Hp_nodeOf, f_Hp_portOf, f_Ma_max, f_Ma_min, f_Hp_isSetting, popN, rok, a1, noX, swc, mL, if_true, if_false, ↓reduceIte, cond_true, cond_false, true_and, and_true, List.length_cons, List.length_nil, List.nil_append, List.cons_append, List.append_nil, Option.toList, Nat.reduceEqDiff, Bool.false_eq_true, reduceCtorEq, Nat.reduceAdd, Nat.reduceLT, Nat.reduceLeDiff, Nat.reduceSub, List.replicate, Nat.zero_add, Nat.lt_add_one, Nat.le_refl, Nat.zero_le, Nat.succ_ne_zero, not_false_eq_true, not_true_eq_false, false_implies, true_implies, forall_const, imp_self, true_or, or_true, eq_self, sI_zw, zw_zw, hI_zw, tg_zw, ln_zw, hR_zw, hL_zw, hN_zw, hM_zw, upd_s, upd_u, upd_ne, Classical.not_not, k_Mo_mapping, h1]; try clear hgo9 hW9))
      refine ⟨fun d => ?_, fun d => ?_⟩
      · ((obtain ⟨W9, hW9, hgo9⟩ := wp_ex (T_Mo_mapping l G) [] _; refine hgo9 200 _ _ _ _ ?_; simp -implicitDefEqProofs (disch := omega) only [hW9, inl, gate, Xq, tz_const, tz_iload, tz_lload, tz_dload, tz_aload, tz_istore, tz_astore, tz_lstore, tz_dstore, tz_iinc, tz_i1, tz_i2, tz_i2z, tz_l2, tz_l2z, tz_i2l, tz_l2i, tz_lcmp, tz_i2d, tz_d2, tz_dcmp, tz_dup, tz_dup2, tz_pop, tz_if, tz_icmp, tz_null, tz_goto, tz_sw, tz_getf, tz_puti, tz_putz, tz_putr, tz_putl, tz_iaload, tz_baload, tz_laload, tz_aaload, tz_iastore, tz_bastore, tz_lastore, tz_aastore, tz_alen, tz_new, tz_newa, tz_oinit, tz_iret, tz_zret, tz_lret, tz_dret, tz_aret, tz_vret, tz_throw, tz_callS, tz_callV, tz_callI, tz_callR, tz_pureS, tz_pureV, tz_callVH, lg, lset, lkill, lst1, lst2, entL, isRf, is1, vl, va_rf_none, va_rf_some, isRf_rf, is1_rf, i0, i1, bI_eq0, bI_eq1, nm_em, nI_eqP, nI_leP, nI_ltP, nN_e1, nN_e2, nN_l1, nN_l2, nN_l3, nN_l4, nI_add, pk_mul, vp_inN, nI_cl, n01, n10, P_i, P_ii, P_iii, f_Mo_at, f_Mo_map, f_Mo_contact, f_Mo_within, f_Mo_isPort, f_Hp_endpoint, f_Hp_nodeOf, f_Hp_portOf, f_Ma_max, f_Ma_min, f_Hp_isSetting, popN, rok, a1, noX, swc, mL, if_true, if_false, ↓reduceIte, cond_true, cond_false, true_and, and_true, List.length_cons, List.length_nil, List.nil_append, List.cons_append, List.append_nil, Option.toList, Nat.reduceEqDiff, Bool.false_eq_true, reduceCtorEq, Nat.reduceAdd, Nat.reduceLT, Nat.reduceLeDiff, Nat.reduceSub, List.replicate, Nat.zero_add, Nat.lt_add_one, Nat.le_refl, Nat.zero_le, Nat.succ_ne_zero, not_false_eq_true, not_true_eq_false, false_implies, true_implies, forall_const, imp_self, true_or, or_true, eq_self, sI_zw, zw_zw, hI_zw, tg_zw, ln_zw, hR_zw, hL_zw, hN_zw, hM_zw, upd_s, upd_u, upd_ne, Classical.not_not, k_Mo_mapping, h1]; try clear hgo9 hW9); try (obtain ⟨W9, hW9, hgo9⟩ := wp_ex (T_Mo_mapping l G) [] _; refine hgo9 200 _ _ _ _ ?_; simp -implicitDefEqProofs (disch := omega) only [hW9, inl, gate, Xq, tz_const, tz_iload, tz_lload, tz_dload, tz_aload, tz_istore, tz_astore, tz_lstore, tz_dstore, tz_iinc, tz_i1, tz_i2, tz_i2z, tz_l2, tz_l2z, tz_i2l, tz_l2i, tz_lcmp, tz_i2d, tz_d2, tz_dcmp, tz_dup, tz_dup2, tz_pop, tz_if, tz_icmp, tz_null, tz_goto, tz_sw, tz_getf, tz_puti, tz_putz, tz_putr, tz_putl, tz_iaload, tz_baload, tz_laload, tz_aaload, tz_iastore, tz_bastore, tz_lastore, tz_aastore, tz_alen, tz_new, tz_newa, tz_oinit, tz_iret, tz_zret, tz_lret, tz_dret, tz_aret, tz_vret, tz_throw, tz_callS, tz_callV, tz_callI, tz_callR, tz_pureS, tz_pureV, tz_callVH, lg, lset, lkill, lst1, lst2, entL, isRf, is1, vl, va_rf_none, va_rf_some, isRf_rf, is1_rf, i0, i1, bI_eq0, bI_eq1, nm_em, nI_eqP, nI_leP, nI_ltP, nN_e1, nN_e2, nN_l1, nN_l2, nN_l3, nN_l4, nI_add, pk_mul, vp_inN, nI_cl, n01, n10, P_i, P_ii, P_iii, f_Mo_at, f_Mo_map, f_Mo_contact, f_Mo_within, f_Mo_isPort, f_Hp_endpoint, f_Hp_nodeOf, f_Hp_portOf, f_Ma_max, f_Ma_min, f_Hp_isSetting, popN, rok, a1, noX, swc, mL, if_true, if_false, ↓reduceIte, cond_true, cond_false, true_and, and_true, List.length_cons, List.length_nil, List.nil_append, List.cons_append, List.append_nil, Option.toList, Nat.reduceEqDiff, Bool.false_eq_true, reduceCtorEq, Nat.reduceAdd, Nat.reduceLT, Nat.reduceLeDiff, Nat.reduceSub, List.replicate, Nat.zero_add, Nat.lt_add_one, Nat.le_refl, Nat.zero_le, Nat.succ_ne_zero, not_false_eq_true, not_true_eq_false, false_implies, true_implies, forall_const, imp_self, true_or, or_true, eq_self, sI_zw, zw_zw, hI_zw, tg_zw, ln_zw, hR_zw, hL_zw, hN_zw, hM_zw, upd_s, upd_u, upd_ne, Classical.not_not, k_Mo_mapping, h1]; try clear hgo9 hW9))
        exact q2 ⟨j, i, hj, rfl, hj2, hi, rfl⟩ d
      · obtain ⟨k, hk, rfl⟩ := wi_nat (by omega) d
        have hP : ∀ f, P_Mo_mappingNow [.ref a, .int (nI j), .int (nI i), .int (nI k)] (zw h a f) := fun f => ⟨zr, j, i, k, hm.zw, rfl, by omega, rfl, by omega, rfl, hk⟩
        have hcl : (nI k).toNatClampNeg = k := nI_clamp (by omega)
        have hcl2 : (nI j).toNatClampNeg = j := nI_clamp (by omega)
        have hcl3 : (nI i).toNatClampNeg = i := nI_clamp (by omega)
        ((obtain ⟨W9, hW9, hgo9⟩ := wp_ex (T_Mo_mapping l G) [] _; refine hgo9 200 _ _ _ _ ?_; simp -implicitDefEqProofs (disch := omega) only [hW9, inl, gate, Xq, tz_const, tz_iload, tz_lload, tz_dload, tz_aload, tz_istore, tz_astore, tz_lstore, tz_dstore, tz_iinc, tz_i1, tz_i2, tz_i2z, tz_l2, tz_l2z, tz_i2l, tz_l2i, tz_lcmp, tz_i2d, tz_d2, tz_dcmp, tz_dup, tz_dup2, tz_pop, tz_if, tz_icmp, tz_null, tz_goto, tz_sw, tz_getf, tz_puti, tz_putz, tz_putr, tz_putl, tz_iaload, tz_baload, tz_laload, tz_aaload, tz_iastore, tz_bastore, tz_lastore, tz_aastore, tz_alen, tz_new, tz_newa, tz_oinit, tz_iret, tz_zret, tz_lret, tz_dret, tz_aret, tz_vret, tz_throw, tz_callS, tz_callV, tz_callI, tz_callR, tz_pureS, tz_pureV, tz_callVH, lg, lset, lkill, lst1, lst2, entL, isRf, is1, vl, va_rf_none, va_rf_some, isRf_rf, is1_rf, i0, i1, bI_eq0, bI_eq1, nm_em, nI_eqP, nI_leP, nI_ltP, nN_e1, nN_e2, nN_l1, nN_l2, nN_l3, nN_l4, nI_add, pk_mul, vp_inN, nI_cl, n01, n10, P_i, P_ii, P_iii, f_Mo_at, f_Mo_map, f_Mo_contact, f_Mo_within, f_Mo_isPort, f_Hp_endpoint, f_Hp_nodeOf, f_Hp_portOf, f_Ma_max, f_Ma_min, f_Hp_isSetting, popN, rok, a1, noX, swc, mL, if_true, if_false, ↓reduceIte, cond_true, cond_false, true_and, and_true, List.length_cons, List.length_nil, List.nil_append, List.cons_append, List.append_nil, Option.toList, Nat.reduceEqDiff, Bool.false_eq_true, reduceCtorEq, Nat.reduceAdd, Nat.reduceLT, Nat.reduceLeDiff, Nat.reduceSub, List.replicate, Nat.zero_add, Nat.lt_add_one, Nat.le_refl, Nat.zero_le, Nat.succ_ne_zero, not_false_eq_true, not_true_eq_false, false_implies, true_implies, forall_const, imp_self, true_or, or_true, eq_self, sI_zw, zw_zw, hI_zw, tg_zw, ln_zw, hR_zw, hL_zw, hN_zw, hM_zw, upd_s, upd_u, upd_ne, Classical.not_not, k_Mo_mapping, h1, hP, f_Mo_mappingNow, hzF, hcl, hcl2, hcl3]; try clear hgo9 hW9); try (obtain ⟨W9, hW9, hgo9⟩ := wp_ex (T_Mo_mapping l G) [] _; refine hgo9 200 _ _ _ _ ?_; simp -implicitDefEqProofs (disch := omega) only [hW9, inl, gate, Xq, tz_const, tz_iload, tz_lload, tz_dload, tz_aload, tz_istore, tz_astore, tz_lstore, tz_dstore, tz_iinc, tz_i1, tz_i2, tz_i2z, tz_l2, tz_l2z, tz_i2l, tz_l2i, tz_lcmp, tz_i2d, tz_d2, tz_dcmp, tz_dup, tz_dup2, tz_pop, tz_if, tz_icmp, tz_null, tz_goto, tz_sw, tz_getf, tz_puti, tz_putz, tz_putr, tz_putl, tz_iaload, tz_baload, tz_laload, tz_aaload, tz_iastore, tz_bastore, tz_lastore, tz_aastore, tz_alen, tz_new, tz_newa, tz_oinit, tz_iret, tz_zret, tz_lret, tz_dret, tz_aret, tz_vret, tz_throw, tz_callS, tz_callV, tz_callI, tz_callR, tz_pureS, tz_pureV, tz_callVH, lg, lset, lkill, lst1, lst2, entL, isRf, is1, vl, va_rf_none, va_rf_some, isRf_rf, is1_rf, i0, i1, bI_eq0, bI_eq1, nm_em, nI_eqP, nI_leP, nI_ltP, nN_e1, nN_e2, nN_l1, nN_l2, nN_l3, nN_l4, nI_add, pk_mul, vp_inN, nI_cl, n01, n10, P_i, P_ii, P_iii, f_Mo_at, f_Mo_map, f_Mo_contact, f_Mo_within, f_Mo_isPort, f_Hp_endpoint, f_Hp_nodeOf, f_Hp_portOf, f_Ma_max, f_Ma_min, f_Hp_isSetting, popN, rok, a1, noX, swc, mL, if_true, if_false, ↓reduceIte, cond_true, cond_false, true_and, and_true, List.length_cons, List.length_nil, List.nil_append, List.cons_append, List.append_nil, Option.toList, Nat.reduceEqDiff, Bool.false_eq_true, reduceCtorEq, Nat.reduceAdd, Nat.reduceLT, Nat.reduceLeDiff, Nat.reduceSub, List.replicate, Nat.zero_add, Nat.lt_add_one, Nat.le_refl, Nat.zero_le, Nat.succ_ne_zero, not_false_eq_true, not_true_eq_false, false_implies, true_implies, forall_const, imp_self, true_or, or_true, eq_self, sI_zw, zw_zw, hI_zw, tg_zw, ln_zw, hR_zw, hL_zw, hN_zw, hM_zw, upd_s, upd_u, upd_ne, Classical.not_not, k_Mo_mapping, h1, hP, f_Mo_mappingNow, hzF, hcl, hcl2, hcl3]; try clear hgo9 hW9))
        exact q3 j i k hj rfl hj2 hi rfl hk rfl
theorem c_Mo_timeLeft (a zr : Nat) (n p b q w : Int32) (h : AH) (Q : Po) (hm : MoS h a zr) (hz : Z10 (hI h zr)) (hn : NetOK (hI h zr)) (ho : OwnAll (hI h zr)) (hw : wpZ (hI h zr) n p b q = w)
    (q1 : ¬ w ≤ nI 0 → Q (.inl (some (.int (nI 0)))) (zw h a (upd (hI h a) 0 w)))
    (q2 : w ≤ nI 0 → ∃ j k, j < mny (hI h zr) ∧ n = nI j ∧ k < mny (hI h zr) ∧ b = nI k ∧ Q (.inl (some (.int (llZ (hI h zr) k q 10 (netZ (hI h zr) j) (nI j) p nN)))) (zw h a (upd (hI h a) 0 w))) : Call l G M_Mo_timeLeft [.ref a, .int n, .int p, .int b, .int q] h Q := by
  have rz := rd_ne hm.ne
  obtain ⟨h1, h2, h3, h4⟩ := id hm
  obtain ⟨z1, z2⟩ := hz.at
  have hzF := mo_zFa hm
  have hzF0 := hm.zF
  have hPw : P_Mo_wrongPacket [.ref a, .int n, .int p, .int b, .int q] h := ⟨zr, hm, hz⟩
  refine call_of rfl rfl (Nat.le_of_ble_eq_true rfl) ?_
  (obtain ⟨W9, hW9, hgo9⟩ := wp_ex (T_Mo_timeLeft l G) [] _; refine hgo9 200 _ _ _ _ ?_; simp -implicitDefEqProofs (disch := omega) only [hW9, inl, gate, Xq, tz_const, tz_iload, tz_lload, tz_dload, tz_aload, tz_istore, tz_astore, tz_lstore, tz_dstore, tz_iinc, tz_i1, tz_i2, tz_i2z, tz_l2, tz_l2z, tz_i2l, tz_l2i, tz_lcmp, tz_i2d, tz_d2, tz_dcmp, tz_dup, tz_dup2, tz_pop, tz_if, tz_icmp, tz_null, tz_goto, tz_sw, tz_getf, tz_puti, tz_putz, tz_putr, tz_putl, tz_iaload, tz_baload, tz_laload, tz_aaload, tz_iastore, tz_bastore, tz_lastore, tz_aastore, tz_alen, tz_new, tz_newa, tz_oinit, tz_iret, tz_zret, tz_lret, tz_dret, tz_aret, tz_vret, tz_throw, tz_callS, tz_callV, tz_callI, tz_callR, tz_pureS, tz_pureV, tz_callVH, lg, lset, lkill, lst1, lst2, entL, isRf, is1, vl, va_rf_none, va_rf_some, isRf_rf, is1_rf, i0, i1, bI_eq0, bI_eq1, nm_em, nI_eqP, nI_leP, nI_ltP, nN_e1, nN_e2, nN_l1, nN_l2, nN_l3, nN_l4, nI_add, pk_mul, vp_inN, nI_cl, n01, n10, P_i, P_ii, P_iii, f_Mo_at, f_Mo_map, f_Mo_contact, f_Mo_within, f_Mo_isPort, f_Hp_endpoint, f_Hp_nodeOf, f_Hp_portOf, f_Ma_max, f_Ma_min, f_Hp_isSetting, popN, rok, a1, noX, swc, mL, if_true, if_false, ↓reduceIte, cond_true, cond_false, true_and, and_true, List.length_cons, List.length_nil, List.nil_append, List.cons_append, List.append_nil, Option.toList, Nat.reduceEqDiff, Bool.false_eq_true, reduceCtorEq, Nat.reduceAdd, Nat.reduceLT, Nat.reduceLeDiff, Nat.reduceSub, List.replicate, Nat.zero_add, Nat.lt_add_one, Nat.le_refl, Nat.zero_le, Nat.succ_ne_zero, not_false_eq_true, not_true_eq_false, false_implies, true_implies, forall_const, imp_self, true_or, or_true, eq_self, sI_zw, zw_zw, hI_zw, tg_zw, ln_zw, hR_zw, hL_zw, hN_zw, hM_zw, upd_s, upd_u, upd_ne, Classical.not_not, k_Mo_timeLeft, h1, hPw, f_Mo_wrongPacket, hzF0, hw]; try clear hgo9 hW9)
  refine ⟨fun c => ?_, fun c => ?_⟩
  · obtain ⟨j, k, hj, rfl, hk, rfl, hQ⟩ := q2 c
    have hP : ∀ f, P_Mo_leastLeft [.ref a, .int (nI j), .int p, .int (nI k), .int q] (zw h a f) := fun f => ⟨⟨zr, j, hm.zw, by rw [rz]; exact hz, by rw [rz]; exact hn, rfl, by rw [rz]; exact hj⟩, ⟨zr, k, hm.zw, by rw [rz]; exact hz, by rw [rz]; exact hn, rfl, by rw [rz]; exact hk⟩, by rw [hzF]; exact ho⟩
    have hcl : (nI k).toNatClampNeg = k := nI_clamp (by omega)
    have hcl2 : (nI j).toNatClampNeg = j := nI_clamp (by omega)
    (obtain ⟨W9, hW9, hgo9⟩ := wp_ex (T_Mo_timeLeft l G) [] _; refine hgo9 200 _ _ _ _ ?_; simp -implicitDefEqProofs (disch := omega) only [hW9, inl, gate, Xq, tz_const, tz_iload, tz_lload, tz_dload, tz_aload, tz_istore, tz_astore, tz_lstore, tz_dstore, tz_iinc, tz_i1, tz_i2, tz_i2z, tz_l2, tz_l2z, tz_i2l, tz_l2i, tz_lcmp, tz_i2d, tz_d2, tz_dcmp, tz_dup, tz_dup2, tz_pop, tz_if, tz_icmp, tz_null, tz_goto, tz_sw, tz_getf, tz_puti, tz_putz, tz_putr, tz_putl, tz_iaload, tz_baload, tz_laload, tz_aaload, tz_iastore, tz_bastore, tz_lastore, tz_aastore, tz_alen, tz_new, tz_newa, tz_oinit, tz_iret, tz_zret, tz_lret, tz_dret, tz_aret, tz_vret, tz_throw, tz_callS, tz_callV, tz_callI, tz_callR, tz_pureS, tz_pureV, tz_callVH, lg, lset, lkill, lst1, lst2, entL, isRf, is1, vl, va_rf_none, va_rf_some, isRf_rf, is1_rf, i0, i1, bI_eq0, bI_eq1, nm_em, nI_eqP, nI_leP, nI_ltP, nN_e1, nN_e2, nN_l1, nN_l2, nN_l3, nN_l4, nI_add, pk_mul, vp_inN, nI_cl, n01, n10, P_i, P_ii, P_iii, f_Mo_at, f_Mo_map, f_Mo_contact, f_Mo_within, f_Mo_isPort, f_Hp_endpoint, f_Hp_nodeOf, f_Hp_portOf, f_Ma_max, f_Ma_min, f_Hp_isSetting, popN, rok, a1, noX, swc, mL, if_true, if_false, ↓reduceIte, cond_true, cond_false, true_and, and_true, List.length_cons, List.length_nil, List.nil_append, List.cons_append, List.append_nil, Option.toList, Nat.reduceEqDiff, Bool.false_eq_true, reduceCtorEq, Nat.reduceAdd, Nat.reduceLT, Nat.reduceLeDiff, Nat.reduceSub, List.replicate, Nat.zero_add, Nat.lt_add_one, Nat.le_refl, Nat.zero_le, Nat.succ_ne_zero, not_false_eq_true, not_true_eq_false, false_implies, true_implies, forall_const, imp_self, true_or, or_true, eq_self, sI_zw, zw_zw, hI_zw, tg_zw, ln_zw, hR_zw, hL_zw, hN_zw, hM_zw, upd_s, upd_u, upd_ne, Classical.not_not, k_Mo_timeLeft, h1, hP, f_Mo_leastLeft, hzF, hcl, hcl2]; try clear hgo9 hW9)
    exact hQ
  · (obtain ⟨W9, hW9, hgo9⟩ := wp_ex (T_Mo_timeLeft l G) [] _; refine hgo9 200 _ _ _ _ ?_; simp -implicitDefEqProofs (disch := omega) only [hW9, inl, gate, Xq, tz_const, tz_iload, tz_lload, tz_dload, tz_aload, tz_istore, tz_astore, tz_lstore, tz_dstore, tz_iinc, tz_i1, tz_i2, tz_i2z, tz_l2, tz_l2z, tz_i2l, tz_l2i, tz_lcmp, tz_i2d, tz_d2, tz_dcmp, tz_dup, tz_dup2, tz_pop, tz_if, tz_icmp, tz_null, tz_goto, tz_sw, tz_getf, tz_puti, tz_putz, tz_putr, tz_putl, tz_iaload, tz_baload, tz_laload, tz_aaload, tz_iastore, tz_bastore, tz_lastore, tz_aastore, tz_alen, tz_new, tz_newa, tz_oinit, tz_iret, tz_zret, tz_lret, tz_dret, tz_aret, tz_vret, tz_throw, tz_callS, tz_callV, tz_callI, tz_callR, tz_pureS, tz_pureV, tz_callVH, lg, lset, lkill, lst1, lst2, entL, isRf, is1, vl, va_rf_none, va_rf_some, isRf_rf, is1_rf, i0, i1, bI_eq0, bI_eq1, nm_em, nI_eqP, nI_leP, nI_ltP, nN_e1, nN_e2, nN_l1, nN_l2, nN_l3, nN_l4, nI_add, pk_mul, vp_inN, nI_cl, n01, n10, P_i, P_ii, P_iii, f_Mo_at, f_Mo_map, f_Mo_contact, f_Mo_within, f_Mo_isPort, f_Hp_endpoint, f_Hp_nodeOf, f_Hp_portOf, f_Ma_max, f_Ma_min, f_Hp_isSetting, popN, rok, a1, noX, swc, mL, if_true, if_false, ↓reduceIte, cond_true, cond_false, true_and, and_true, List.length_cons, List.length_nil, List.nil_append, List.cons_append, List.append_nil, Option.toList, Nat.reduceEqDiff, Bool.false_eq_true, reduceCtorEq, Nat.reduceAdd, Nat.reduceLT, Nat.reduceLeDiff, Nat.reduceSub, List.replicate, Nat.zero_add, Nat.lt_add_one, Nat.le_refl, Nat.zero_le, Nat.succ_ne_zero, not_false_eq_true, not_true_eq_false, false_implies, true_implies, forall_const, imp_self, true_or, or_true, eq_self, sI_zw, zw_zw, hI_zw, tg_zw, ln_zw, hR_zw, hL_zw, hN_zw, hM_zw, upd_s, upd_u, upd_ne, Classical.not_not, k_Mo_timeLeft, h1]; try clear hgo9 hW9)
    exact q1 c
theorem c_Mo_common (a zr : Nat) (n o : Int32) (h : AH) (Q : Po) (hm : MoS h a zr) (hz : Z10 (hI h zr)) (hn : NetOK (hI h zr))
    (q1 : ¬ (NdZ (hI h zr) n ∧ NdZ (hI h zr) o) → Q (.inl (some (.int (nI 0)))) (zw h a (upd (hI h a) 0 (nI 1))))
    (q2 : ∀ j k, j < mny (hI h zr) → n = nI j → k < mny (hI h zr) → o = nI k → Q (.inl (some (.int (cmZ (hI h zr) k 10 (netZ (hI h zr) j))))) (zw h a (upd (hI h a) 0 (nI 0)))) : Call l G M_Mo_common [.ref a, .int n, .int o] h Q := by
  have rz := rd_ne hm.ne
  obtain ⟨h1, h2, h3, h4⟩ := id hm
  obtain ⟨z1, z2⟩ := hz.at
  have hzF := mo_zFa hm
  have hzF0 := hm.zF
  have hPn : ∀ n, P_Mo_isNode [.ref a, .int n] h := fun n => ⟨zr, hm, hz⟩
  have no : ¬ (NdZ (hI h zr) n ∧ NdZ (hI h zr) o) → AWp l G M_Mo_common 21 [some (.ref a), some (.int n), some (.int o)] [.ref a] h Q := by
    intro c
    ((obtain ⟨W9, hW9, hgo9⟩ := wp_ex (T_Mo_common l G) [] _; refine hgo9 200 _ _ _ _ ?_; simp -implicitDefEqProofs (disch := omega) only [hW9, inl, gate, Xq, tz_const, tz_iload, tz_lload, tz_dload, tz_aload, tz_istore, tz_astore, tz_lstore, tz_dstore, tz_iinc, tz_i1, tz_i2, tz_i2z, tz_l2, tz_l2z, tz_i2l, tz_l2i, tz_lcmp, tz_i2d, tz_d2, tz_dcmp, tz_dup, tz_dup2, tz_pop, tz_if, tz_icmp, tz_null, tz_goto, tz_sw, tz_getf, tz_puti, tz_putz, tz_putr, tz_putl, tz_iaload, tz_baload, tz_laload, tz_aaload, tz_iastore, tz_bastore, tz_lastore, tz_aastore, tz_alen, tz_new, tz_newa, tz_oinit, tz_iret, tz_zret, tz_lret, tz_dret, tz_aret, tz_vret, tz_throw, tz_callS, tz_callV, tz_callI, tz_callR, tz_pureS, tz_pureV, tz_callVH, lg, lset, lkill, lst1, lst2, entL, isRf, is1, vl, va_rf_none, va_rf_some, isRf_rf, is1_rf, i0, i1, bI_eq0, bI_eq1, nm_em, nI_eqP, nI_leP, nI_ltP, nN_e1, nN_e2, nN_l1, nN_l2, nN_l3, nN_l4, nI_add, pk_mul, vp_inN, nI_cl, n01, n10, P_i, P_ii, P_iii, f_Mo_at, f_Mo_map, f_Mo_contact, f_Mo_within, f_Mo_isPort, f_Hp_endpoint, f_Hp_nodeOf, f_Hp_portOf, f_Ma_max, f_Ma_min, f_Hp_isSetting, popN, rok, a1, noX, swc, mL, if_true, if_false, ↓reduceIte, cond_true, cond_false, true_and, and_true, List.length_cons, List.length_nil, List.nil_append, List.cons_append, List.append_nil, Option.toList, Nat.reduceEqDiff, Bool.false_eq_true, reduceCtorEq, Nat.reduceAdd, Nat.reduceLT, Nat.reduceLeDiff, Nat.reduceSub, List.replicate, Nat.zero_add, Nat.lt_add_one, Nat.le_refl, Nat.zero_le, Nat.succ_ne_zero, not_false_eq_true, not_true_eq_false, false_implies, true_implies, forall_const, imp_self, true_or, or_true, eq_self, sI_zw, zw_zw, hI_zw, tg_zw, ln_zw, hR_zw, hL_zw, hN_zw, hM_zw, upd_s, upd_u, upd_ne, Classical.not_not, k_Mo_common, h1]; try clear hgo9 hW9); try (obtain ⟨W9, hW9, hgo9⟩ := wp_ex (T_Mo_common l G) [] _; refine hgo9 200 _ _ _ _ ?_; simp -implicitDefEqProofs (disch := omega) only [hW9, inl, gate, Xq, tz_const, tz_iload, tz_lload, tz_dload, tz_aload, tz_istore, tz_astore, tz_lstore, tz_dstore, tz_iinc, tz_i1, tz_i2, tz_i2z, tz_l2, tz_l2z, tz_i2l, tz_l2i, tz_lcmp, tz_i2d, tz_d2, tz_dcmp, tz_dup, tz_dup2, tz_pop, tz_if, tz_icmp, tz_null, tz_goto, tz_sw, tz_getf, tz_puti, tz_putz, tz_putr, tz_putl, tz_iaload, tz_baload, tz_laload, tz_aaload, tz_iastore, tz_bastore, tz_lastore, tz_aastore, tz_alen, tz_new, tz_newa, tz_oinit, tz_iret, tz_zret, tz_lret, tz_dret, tz_aret, tz_vret, tz_throw, tz_callS, tz_callV, tz_callI, tz_callR, tz_pureS, tz_pureV, tz_callVH, lg, lset, lkill, lst1, lst2, entL, isRf, is1, vl, va_rf_none, va_rf_some, isRf_rf, is1_rf, i0, i1, bI_eq0, bI_eq1, nm_em, nI_eqP, nI_leP, nI_ltP, nN_e1, nN_e2, nN_l1, nN_l2, nN_l3, nN_l4, nI_add, pk_mul, vp_inN, nI_cl, n01, n10, P_i, P_ii, P_iii, f_Mo_at, f_Mo_map, f_Mo_contact, f_Mo_within, f_Mo_isPort, f_Hp_endpoint, f_Hp_nodeOf, f_Hp_portOf, f_Ma_max, f_Ma_min, f_Hp_isSetting, popN, rok, a1, noX, swc, mL, if_true, if_false, ↓reduceIte, cond_true, cond_false, true_and, and_true, List.length_cons, List.length_nil, List.nil_append, List.cons_append, List.append_nil, Option.toList, Nat.reduceEqDiff, Bool.false_eq_true, reduceCtorEq, Nat.reduceAdd, Nat.reduceLT, Nat.reduceLeDiff, Nat.reduceSub, List.replicate, Nat.zero_add, Nat.lt_add_one, Nat.le_refl, Nat.zero_le, Nat.succ_ne_zero, not_false_eq_true, not_true_eq_false, false_implies, true_implies, forall_const, imp_self, true_or, or_true, eq_self, sI_zw, zw_zw, hI_zw, tg_zw, ln_zw, hR_zw, hL_zw, hN_zw, hM_zw, upd_s, upd_u, upd_ne, Classical.not_not, k_Mo_common, h1]; try clear hgo9 hW9))
    exact q1 c
  refine call_of rfl rfl (Nat.le_of_ble_eq_true rfl) ?_
  (obtain ⟨W9, hW9, hgo9⟩ := wp_ex (T_Mo_common l G) [21] _; refine hgo9 200 _ _ _ _ ?_; simp -implicitDefEqProofs (disch := omega) only [hW9, inl, gate, Xq, tz_const, tz_iload, tz_lload, tz_dload, tz_aload, tz_istore, tz_astore, tz_lstore, tz_dstore, tz_iinc, tz_i1, tz_i2, tz_i2z, tz_l2, tz_l2z, tz_i2l, tz_l2i, tz_lcmp, tz_i2d, tz_d2, tz_dcmp, tz_dup, tz_dup2, tz_pop, tz_if, tz_icmp, tz_null, tz_goto, tz_sw, tz_getf, tz_puti, tz_putz, tz_putr, tz_putl, tz_iaload, tz_baload, tz_laload, tz_aaload, tz_iastore, tz_bastore, tz_lastore, tz_aastore, tz_alen, tz_new, tz_newa, tz_oinit, tz_iret, tz_zret, tz_lret, tz_dret, tz_aret, tz_vret, tz_throw, tz_callS, tz_callV, tz_callI, tz_callR, tz_pureS, tz_pureV, tz_callVH, lg, lset, lkill, lst1, lst2, entL, isRf, is1, vl, va_rf_none, va_rf_some, isRf_rf, is1_rf, i0, i1, bI_eq0, bI_eq1, nm_em, nI_eqP, nI_leP, nI_ltP, nN_e1, nN_e2, nN_l1, nN_l2, nN_l3, nN_l4, nI_add, pk_mul, vp_inN, nI_cl, n01, n10, P_i, P_ii, P_iii, f_Mo_at, f_Mo_map, f_Mo_contact, f_Mo_within, f_Mo_isPort, f_Hp_endpoint, f_Hp_nodeOf, f_Hp_portOf, f_Ma_max, f_Ma_min, f_Hp_isSetting, popN, rok, a1, noX, swc, mL, if_true, if_false, ↓reduceIte, cond_true, cond_false, true_and, and_true, List.length_cons, List.length_nil, List.nil_append, List.cons_append, List.append_nil, Option.toList, Nat.reduceEqDiff, Bool.false_eq_true, reduceCtorEq, Nat.reduceAdd, Nat.reduceLT, Nat.reduceLeDiff, Nat.reduceSub, List.replicate, Nat.zero_add, Nat.lt_add_one, Nat.le_refl, Nat.zero_le, Nat.succ_ne_zero, not_false_eq_true, not_true_eq_false, false_implies, true_implies, forall_const, imp_self, true_or, or_true, eq_self, sI_zw, zw_zw, hI_zw, tg_zw, ln_zw, hR_zw, hL_zw, hN_zw, hM_zw, upd_s, upd_u, upd_ne, Classical.not_not, k_Mo_common, h1, hPn, f_Mo_isNode, hzF0]; try clear hgo9 hW9)
  refine ⟨fun c => no (fun q => c q.1), fun c => ?_⟩
  (obtain ⟨W9, hW9, hgo9⟩ := wp_ex (T_Mo_common l G) [21] _; refine hgo9 200 _ _ _ _ ?_; simp -implicitDefEqProofs (disch := omega) only [hW9, inl, gate, Xq, tz_const, tz_iload, tz_lload, tz_dload, tz_aload, tz_istore, tz_astore, tz_lstore, tz_dstore, tz_iinc, tz_i1, tz_i2, tz_i2z, tz_l2, tz_l2z, tz_i2l, tz_l2i, tz_lcmp, tz_i2d, tz_d2, tz_dcmp, tz_dup, tz_dup2, tz_pop, tz_if, tz_icmp, tz_null, tz_goto, tz_sw, tz_getf, tz_puti, tz_putz, tz_putr, tz_putl, tz_iaload, tz_baload, tz_laload, tz_aaload, tz_iastore, tz_bastore, tz_lastore, tz_aastore, tz_alen, tz_new, tz_newa, tz_oinit, tz_iret, tz_zret, tz_lret, tz_dret, tz_aret, tz_vret, tz_throw, tz_callS, tz_callV, tz_callI, tz_callR, tz_pureS, tz_pureV, tz_callVH, lg, lset, lkill, lst1, lst2, entL, isRf, is1, vl, va_rf_none, va_rf_some, isRf_rf, is1_rf, i0, i1, bI_eq0, bI_eq1, nm_em, nI_eqP, nI_leP, nI_ltP, nN_e1, nN_e2, nN_l1, nN_l2, nN_l3, nN_l4, nI_add, pk_mul, vp_inN, nI_cl, n01, n10, P_i, P_ii, P_iii, f_Mo_at, f_Mo_map, f_Mo_contact, f_Mo_within, f_Mo_isPort, f_Hp_endpoint, f_Hp_nodeOf, f_Hp_portOf, f_Ma_max, f_Ma_min, f_Hp_isSetting, popN, rok, a1, noX, swc, mL, if_true, if_false, ↓reduceIte, cond_true, cond_false, true_and, and_true, List.length_cons, List.length_nil, List.nil_append, List.cons_append, List.append_nil, Option.toList, Nat.reduceEqDiff, Bool.false_eq_true, reduceCtorEq, Nat.reduceAdd, Nat.reduceLT, Nat.reduceLeDiff, Nat.reduceSub, List.replicate, Nat.zero_add, Nat.lt_add_one, Nat.le_refl, Nat.zero_le, Nat.succ_ne_zero, not_false_eq_true, not_true_eq_false, false_implies, true_implies, forall_const, imp_self, true_or, or_true, eq_self, sI_zw, zw_zw, hI_zw, tg_zw, ln_zw, hR_zw, hL_zw, hN_zw, hM_zw, upd_s, upd_u, upd_ne, Classical.not_not, k_Mo_common, h1, hPn, f_Mo_isNode, hzF0]; try clear hgo9 hW9)
  refine ⟨fun d => no (fun q => d q.2), fun d => ?_⟩
  obtain ⟨j, hj, rfl⟩ := c
  obtain ⟨k, hk, rfl⟩ := d
  have hP : ∀ f, P_Mo_commonOf [.ref a, .int (nI j), .int (nI k)] (zw h a f) := fun f => ⟨⟨zr, j, hm.zw, by rw [rz]; exact hz, by rw [rz]; exact hn, rfl, by rw [rz]; exact hj⟩, ⟨zr, k, hm.zw, by rw [rz]; exact hz, by rw [rz]; exact hn, rfl, by rw [rz]; exact hk⟩⟩
  have hcl : (nI k).toNatClampNeg = k := nI_clamp (by omega)
  have hcl2 : (nI j).toNatClampNeg = j := nI_clamp (by omega)
  ((obtain ⟨W9, hW9, hgo9⟩ := wp_ex (T_Mo_common l G) [] _; refine hgo9 200 _ _ _ _ ?_; simp -implicitDefEqProofs (disch := omega) only [hW9, inl, gate, Xq, tz_const, tz_iload, tz_lload, tz_dload, tz_aload, tz_istore, tz_astore, tz_lstore, tz_dstore, tz_iinc, tz_i1, tz_i2, tz_i2z, tz_l2, tz_l2z, tz_i2l, tz_l2i, tz_lcmp, tz_i2d, tz_d2, tz_dcmp, tz_dup, tz_dup2, tz_pop, tz_if, tz_icmp, tz_null, tz_goto, tz_sw, tz_getf, tz_puti, tz_putz, tz_putr, tz_putl, tz_iaload, tz_baload, tz_laload, tz_aaload, tz_iastore, tz_bastore, tz_lastore, tz_aastore, tz_alen, tz_new, tz_newa, tz_oinit, tz_iret, tz_zret, tz_lret, tz_dret, tz_aret, tz_vret, tz_throw, tz_callS, tz_callV, tz_callI, tz_callR, tz_pureS, tz_pureV, tz_callVH, lg, lset, lkill, lst1, lst2, entL, isRf, is1, vl, va_rf_none, va_rf_some, isRf_rf, is1_rf, i0, i1, bI_eq0, bI_eq1, nm_em, nI_eqP, nI_leP, nI_ltP, nN_e1, nN_e2, nN_l1, nN_l2, nN_l3, nN_l4, nI_add, pk_mul, vp_inN, nI_cl, n01, n10, P_i, P_ii, P_iii, f_Mo_at, f_Mo_map, f_Mo_contact, f_Mo_within, f_Mo_isPort, f_Hp_endpoint, f_Hp_nodeOf, f_Hp_portOf, f_Ma_max, f_Ma_min, f_Hp_isSetting, popN, rok, a1, noX, swc, mL, if_true, if_false, ↓reduceIte, cond_true, cond_false, true_and, and_true, List.length_cons, List.length_nil, List.nil_append, List.cons_append, List.append_nil, Option.toList, Nat.reduceEqDiff, Bool.false_eq_true, reduceCtorEq, Nat.reduceAdd, Nat.reduceLT, Nat.reduceLeDiff, Nat.reduceSub, List.replicate, Nat.zero_add, Nat.lt_add_one, Nat.le_refl, Nat.zero_le, Nat.succ_ne_zero, not_false_eq_true, not_true_eq_false, false_implies, true_implies, forall_const, imp_self, true_or, or_true, eq_self, sI_zw, zw_zw, hI_zw, tg_zw, ln_zw, hR_zw, hL_zw, hN_zw, hM_zw, upd_s, upd_u, upd_ne, Classical.not_not, k_Mo_common, h1, hP, f_Mo_commonOf, hzF, hcl, hcl2]; try clear hgo9 hW9); try (obtain ⟨W9, hW9, hgo9⟩ := wp_ex (T_Mo_common l G) [] _; refine hgo9 200 _ _ _ _ ?_; simp -implicitDefEqProofs (disch := omega) only [hW9, inl, gate, Xq, tz_const, tz_iload, tz_lload, tz_dload, tz_aload, tz_istore, tz_astore, tz_lstore, tz_dstore, tz_iinc, tz_i1, tz_i2, tz_i2z, tz_l2, tz_l2z, tz_i2l, tz_l2i, tz_lcmp, tz_i2d, tz_d2, tz_dcmp, tz_dup, tz_dup2, tz_pop, tz_if, tz_icmp, tz_null, tz_goto, tz_sw, tz_getf, tz_puti, tz_putz, tz_putr, tz_putl, tz_iaload, tz_baload, tz_laload, tz_aaload, tz_iastore, tz_bastore, tz_lastore, tz_aastore, tz_alen, tz_new, tz_newa, tz_oinit, tz_iret, tz_zret, tz_lret, tz_dret, tz_aret, tz_vret, tz_throw, tz_callS, tz_callV, tz_callI, tz_callR, tz_pureS, tz_pureV, tz_callVH, lg, lset, lkill, lst1, lst2, entL, isRf, is1, vl, va_rf_none, va_rf_some, isRf_rf, is1_rf, i0, i1, bI_eq0, bI_eq1, nm_em, nI_eqP, nI_leP, nI_ltP, nN_e1, nN_e2, nN_l1, nN_l2, nN_l3, nN_l4, nI_add, pk_mul, vp_inN, nI_cl, n01, n10, P_i, P_ii, P_iii, f_Mo_at, f_Mo_map, f_Mo_contact, f_Mo_within, f_Mo_isPort, f_Hp_endpoint, f_Hp_nodeOf, f_Hp_portOf, f_Ma_max, f_Ma_min, f_Hp_isSetting, popN, rok, a1, noX, swc, mL, if_true, if_false, ↓reduceIte, cond_true, cond_false, true_and, and_true, List.length_cons, List.length_nil, List.nil_append, List.cons_append, List.append_nil, Option.toList, Nat.reduceEqDiff, Bool.false_eq_true, reduceCtorEq, Nat.reduceAdd, Nat.reduceLT, Nat.reduceLeDiff, Nat.reduceSub, List.replicate, Nat.zero_add, Nat.lt_add_one, Nat.le_refl, Nat.zero_le, Nat.succ_ne_zero, not_false_eq_true, not_true_eq_false, false_implies, true_implies, forall_const, imp_self, true_or, or_true, eq_self, sI_zw, zw_zw, hI_zw, tg_zw, ln_zw, hR_zw, hL_zw, hN_zw, hM_zw, upd_s, upd_u, upd_ne, Classical.not_not, k_Mo_common, h1, hP, f_Mo_commonOf, hzF, hcl, hcl2]; try clear hgo9 hW9))
  exact q2 j k hj rfl hk rfl
/-- the share -/
def dlZ (x y : Int32) : UInt64 := if x = nI 0 then FP.dconst0 else FP.ddiv (FP.dmul FP.dconst1 (FP.i2d y)) (FP.i2d x)
theorem c_Mo_delivery (a zr : Nat) (h : AH) (Q : Po) (hm : MoS h a zr) (hf1 : ¬ hI h zr 2 = nI 0 → vf_n64 (FP.dmul FP.dconst1 (FP.i2d (hI h zr 3)))) (hf2 : ¬ hI h zr 2 = nI 0 → vf_n64 (FP.ddiv (FP.dmul FP.dconst1 (FP.i2d (hI h zr 3))) (FP.i2d (hI h zr 2))))
    (hQ : Q (.inl (some (.double (dlZ (hI h zr 2) (hI h zr 3))))) (zw h a (upd (hI h a) 0 (nI 0)))) : Call l G M_Mo_delivery [.ref a] h Q := by
  have rz := rd_ne hm.ne
  obtain ⟨h1, h2, h3, h4⟩ := id hm
  refine call_of rfl rfl (Nat.le_of_ble_eq_true rfl) ?_
  unfold dlZ at hQ
  (obtain ⟨W9, hW9, hgo9⟩ := wp_ex (T_Mo_delivery l G) [] _; refine hgo9 200 _ _ _ _ ?_; simp -implicitDefEqProofs (disch := omega) only [hW9, inl, gate, Xq, tz_const, tz_iload, tz_lload, tz_dload, tz_aload, tz_istore, tz_astore, tz_lstore, tz_dstore, tz_iinc, tz_i1, tz_i2, tz_i2z, tz_l2, tz_l2z, tz_i2l, tz_l2i, tz_lcmp, tz_i2d, tz_d2, tz_dcmp, tz_dup, tz_dup2, tz_pop, tz_if, tz_icmp, tz_null, tz_goto, tz_sw, tz_getf, tz_puti, tz_putz, tz_putr, tz_putl, tz_iaload, tz_baload, tz_laload, tz_aaload, tz_iastore, tz_bastore, tz_lastore, tz_aastore, tz_alen, tz_new, tz_newa, tz_oinit, tz_iret, tz_zret, tz_lret, tz_dret, tz_aret, tz_vret, tz_throw, tz_callS, tz_callV, tz_callI, tz_callR, tz_pureS, tz_pureV, tz_callVH, lg, lset, lkill, lst1, lst2, entL, isRf, is1, vl, va_rf_none, va_rf_some, isRf_rf, is1_rf, i0, i1, bI_eq0, bI_eq1, nm_em, nI_eqP, nI_leP, nI_ltP, nN_e1, nN_e2, nN_l1, nN_l2, nN_l3, nN_l4, nI_add, pk_mul, vp_inN, nI_cl, n01, n10, P_i, P_ii, P_iii, f_Mo_at, f_Mo_map, f_Mo_contact, f_Mo_within, f_Mo_isPort, f_Hp_endpoint, f_Hp_nodeOf, f_Hp_portOf, f_Ma_max, f_Ma_min, f_Hp_isSetting, popN, rok, a1, noX, swc, mL, if_true, if_false, ↓reduceIte, cond_true, cond_false, true_and, and_true, List.length_cons, List.length_nil, List.nil_append, List.cons_append, List.append_nil, Option.toList, Nat.reduceEqDiff, Bool.false_eq_true, reduceCtorEq, Nat.reduceAdd, Nat.reduceLT, Nat.reduceLeDiff, Nat.reduceSub, List.replicate, Nat.zero_add, Nat.lt_add_one, Nat.le_refl, Nat.zero_le, Nat.succ_ne_zero, not_false_eq_true, not_true_eq_false, false_implies, true_implies, forall_const, imp_self, true_or, or_true, eq_self, sI_zw, zw_zw, hI_zw, tg_zw, ln_zw, hR_zw, hL_zw, hN_zw, hM_zw, upd_s, upd_u, upd_ne, Classical.not_not, k_Mo_delivery, h1, h2, h3, h4, rz]; try clear hgo9 hW9)
  refine ⟨fun c => ?_, fun c => ?_⟩
  · have g1 := hf1 c
    have g2 := hf2 c
    rw [if_neg c] at hQ
    (obtain ⟨W9, hW9, hgo9⟩ := wp_ex (T_Mo_delivery l G) [] _; refine hgo9 200 _ _ _ _ ?_; simp -implicitDefEqProofs (disch := omega) only [hW9, inl, gate, Xq, tz_const, tz_iload, tz_lload, tz_dload, tz_aload, tz_istore, tz_astore, tz_lstore, tz_dstore, tz_iinc, tz_i1, tz_i2, tz_i2z, tz_l2, tz_l2z, tz_i2l, tz_l2i, tz_lcmp, tz_i2d, tz_d2, tz_dcmp, tz_dup, tz_dup2, tz_pop, tz_if, tz_icmp, tz_null, tz_goto, tz_sw, tz_getf, tz_puti, tz_putz, tz_putr, tz_putl, tz_iaload, tz_baload, tz_laload, tz_aaload, tz_iastore, tz_bastore, tz_lastore, tz_aastore, tz_alen, tz_new, tz_newa, tz_oinit, tz_iret, tz_zret, tz_lret, tz_dret, tz_aret, tz_vret, tz_throw, tz_callS, tz_callV, tz_callI, tz_callR, tz_pureS, tz_pureV, tz_callVH, lg, lset, lkill, lst1, lst2, entL, isRf, is1, vl, va_rf_none, va_rf_some, isRf_rf, is1_rf, i0, i1, bI_eq0, bI_eq1, nm_em, nI_eqP, nI_leP, nI_ltP, nN_e1, nN_e2, nN_l1, nN_l2, nN_l3, nN_l4, nI_add, pk_mul, vp_inN, nI_cl, n01, n10, P_i, P_ii, P_iii, f_Mo_at, f_Mo_map, f_Mo_contact, f_Mo_within, f_Mo_isPort, f_Hp_endpoint, f_Hp_nodeOf, f_Hp_portOf, f_Ma_max, f_Ma_min, f_Hp_isSetting, popN, rok, a1, noX, swc, mL, if_true, if_false, ↓reduceIte, cond_true, cond_false, true_and, and_true, List.length_cons, List.length_nil, List.nil_append, List.cons_append, List.append_nil, Option.toList, Nat.reduceEqDiff, Bool.false_eq_true, reduceCtorEq, Nat.reduceAdd, Nat.reduceLT, Nat.reduceLeDiff, Nat.reduceSub, List.replicate, Nat.zero_add, Nat.lt_add_one, Nat.le_refl, Nat.zero_le, Nat.succ_ne_zero, not_false_eq_true, not_true_eq_false, false_implies, true_implies, forall_const, imp_self, true_or, or_true, eq_self, sI_zw, zw_zw, hI_zw, tg_zw, ln_zw, hR_zw, hL_zw, hN_zw, hM_zw, upd_s, upd_u, upd_ne, Classical.not_not, k_Mo_delivery, h1, h2, h3, h4, rz, g1, g2]; try clear hgo9 hW9)
    exact hQ
  · (obtain ⟨W9, hW9, hgo9⟩ := wp_ex (T_Mo_delivery l G) [] _; refine hgo9 200 _ _ _ _ ?_; simp -implicitDefEqProofs (disch := omega) only [hW9, inl, gate, Xq, tz_const, tz_iload, tz_lload, tz_dload, tz_aload, tz_istore, tz_astore, tz_lstore, tz_dstore, tz_iinc, tz_i1, tz_i2, tz_i2z, tz_l2, tz_l2z, tz_i2l, tz_l2i, tz_lcmp, tz_i2d, tz_d2, tz_dcmp, tz_dup, tz_dup2, tz_pop, tz_if, tz_icmp, tz_null, tz_goto, tz_sw, tz_getf, tz_puti, tz_putz, tz_putr, tz_putl, tz_iaload, tz_baload, tz_laload, tz_aaload, tz_iastore, tz_bastore, tz_lastore, tz_aastore, tz_alen, tz_new, tz_newa, tz_oinit, tz_iret, tz_zret, tz_lret, tz_dret, tz_aret, tz_vret, tz_throw, tz_callS, tz_callV, tz_callI, tz_callR, tz_pureS, tz_pureV, tz_callVH, lg, lset, lkill, lst1, lst2, entL, isRf, is1, vl, va_rf_none, va_rf_some, isRf_rf, is1_rf, i0, i1, bI_eq0, bI_eq1, nm_em, nI_eqP, nI_leP, nI_ltP, nN_e1, nN_e2, nN_l1, nN_l2, nN_l3, nN_l4, nI_add, pk_mul, vp_inN, nI_cl, n01, n10, P_i, P_ii, P_iii, f_Mo_at, f_Mo_map, f_Mo_contact, f_Mo_within, f_Mo_isPort, f_Hp_endpoint, f_Hp_nodeOf, f_Hp_portOf, f_Ma_max, f_Ma_min, f_Hp_isSetting, popN, rok, a1, noX, swc, mL, if_true, if_false, ↓reduceIte, cond_true, cond_false, true_and, and_true, List.length_cons, List.length_nil, List.nil_append, List.cons_append, List.append_nil, Option.toList, Nat.reduceEqDiff, Bool.false_eq_true, reduceCtorEq, Nat.reduceAdd, Nat.reduceLT, Nat.reduceLeDiff, Nat.reduceSub, List.replicate, Nat.zero_add, Nat.lt_add_one, Nat.le_refl, Nat.zero_le, Nat.succ_ne_zero, not_false_eq_true, not_true_eq_false, false_implies, true_implies, forall_const, imp_self, true_or, or_true, eq_self, sI_zw, zw_zw, hI_zw, tg_zw, ln_zw, hR_zw, hL_zw, hN_zw, hM_zw, upd_s, upd_u, upd_ne, Classical.not_not, k_Mo_delivery, h1]; try clear hgo9 hW9)
    rw [if_pos c] at hQ
    exact hQ
end
