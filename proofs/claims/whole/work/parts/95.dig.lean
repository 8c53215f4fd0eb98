/-! THE CLASS: the digest -/
def k_Hp_mixMapping (l : Launch) (G : Gc) (pc : Nat) : Tr :=
  if pc < 19 then
   if pc < 8 then
    if pc < 3 then
     if pc < 1 then
      if pc = 0 then tz_lload 1 0 else dead
     else
      if pc = 1 then tz_lstore 3 4 else dead
    else
     if pc < 4 then
      if pc = 3 then tz_const 4 (.int (nI 0)) else dead
     else
      if pc < 6 then
       if pc = 4 then tz_istore 6 6 else dead
      else
       if pc = 6 then tz_iload 8 6 else dead
   else
    if pc < 13 then
     if pc < 10 then
      if pc = 8 then tz_const 10 (.int (nI 6)) else dead
     else
      if pc = 10 then tz_icmp 13 36 (fun a b => b < a) else dead
    else
     if pc < 16 then
      if pc = 13 then tz_const 16 (.long (lN 31)) else dead
     else
      if pc < 18 then
       if pc = 16 then tz_lload 18 4 else dead
      else
       if pc = 18 then tz_l2 19 (fun a b => a * b) else dead
  else
   if pc < 27 then
    if pc < 22 then
     if pc < 20 then
      if pc = 19 then tz_aload 20 2 else dead
     else
      if pc = 20 then tz_iload 22 6 else dead
    else
     if pc < 23 then
      if pc = 22 then tz_iload 23 3 else dead
     else
      if pc < 26 then
       if pc = 23 then tz_callV l G 26 M_Mp_property 2 0 else dead
      else
       if pc = 26 then tz_i2l 27 else dead
   else
    if pc < 33 then
     if pc < 28 then
      if pc = 27 then tz_l2 28 (fun a b => a + b) else dead
     else
      if pc < 30 then
       if pc = 28 then tz_lstore 30 4 else dead
      else
       if pc = 30 then tz_iinc 33 6 (nI 1) else dead
    else
     if pc < 36 then
      if pc = 33 then tz_goto 6 else dead
     else
      if pc < 38 then
       if pc = 36 then tz_lload 38 4 else dead
      else
       if pc = 38 then tz_lret else dead
set_option maxRecDepth 100000 in
theorem T_Hp_mixMapping (l : Launch) (G : Gc) : TabOK l G M_Hp_mixMapping (k_Hp_mixMapping l G) := by
  intro pc
  unfold k_Hp_mixMapping
  exact
   (sd_br
    (sd_br
     (sd_br
      (sd_br
       (sd_lf (sd_lload_n (k := 0) (by decide +kernel : decode prog_1_method_32_code 0 = .ok (.lload_n 0, 1))))
       (sd_lf (sd_lstore (by decide +kernel : decode prog_1_method_32_code 1 = .ok (.lstore 4, 2)))))
      (sd_br
       (sd_lf (sd_iconst (by decide +kernel : decode prog_1_method_32_code 3 = .ok (.iconst 0, 1)) (by decide +kernel)))
       (sd_br
        (sd_lf (sd_istore (by decide +kernel : decode prog_1_method_32_code 4 = .ok (.istore 6, 2))))
        (sd_lf (sd_iload (by decide +kernel : decode prog_1_method_32_code 6 = .ok (.iload 6, 2)))))))
     (sd_br
      (sd_br
       (sd_lf (sd_bipush (by decide +kernel : decode prog_1_method_32_code 8 = .ok (.bipush 6, 2)) (by decide +kernel)))
       (sd_lf (sd_icmp_gt (by decide +kernel : decode prog_1_method_32_code 10 = .ok (.if_icmp .gt 26, 3)) (by decide +kernel))))
      (sd_br
       (sd_lf (sd_ldc2 (by decide +kernel : decode prog_1_method_32_code 13 = .ok (.ldc2_w 270, 3)) (gm 402 (by decide +kernel) rfl)))
       (sd_br
        (sd_lf (sd_lload (by decide +kernel : decode prog_1_method_32_code 16 = .ok (.lload 4, 2))))
        (sd_lf (sd_lmul (by decide +kernel : decode prog_1_method_32_code 18 = .ok (.lmul, 1))))))))
    (sd_br
     (sd_br
      (sd_br
       (sd_lf (sd_aload_n (k := 2) (by decide +kernel : decode prog_1_method_32_code 19 = .ok (.aload_n 2, 1))))
       (sd_lf (sd_iload (by decide +kernel : decode prog_1_method_32_code 20 = .ok (.iload 6, 2)))))
      (sd_br
       (sd_lf (sd_iload_n (k := 3) (by decide +kernel : decode prog_1_method_32_code 22 = .ok (.iload_n 3, 1))))
       (sd_br
        (sd_lf (sd_callV (q := (RX0, TX0, 6)) (by decide +kernel : decode prog_1_method_32_code 23 = .ok (.invokevirtual 252, 3)) ok_Mp_property (gm 475 (by decide +kernel) rfl) (gm 476 (by decide +kernel) rfl) (gm 477 (by decide +kernel) rfl) rfl rfl (by decide +kernel) rfl rfl))
        (sd_lf (sd_i2l (by decide +kernel : decode prog_1_method_32_code 26 = .ok (.i2l, 1)))))))
     (sd_br
      (sd_br
       (sd_lf (sd_ladd (by decide +kernel : decode prog_1_method_32_code 27 = .ok (.ladd, 1))))
       (sd_br
        (sd_lf (sd_lstore (by decide +kernel : decode prog_1_method_32_code 28 = .ok (.lstore 4, 2))))
        (sd_lf (sd_iinc (by decide +kernel : decode prog_1_method_32_code 30 = .ok (.iinc 6 1, 3)) (by decide +kernel)))))
      (sd_br
       (sd_lf (sd_goto (by decide +kernel : decode prog_1_method_32_code 33 = .ok (.goto (-27), 3)) (by decide +kernel)))
       (sd_br
        (sd_lf (sd_lload (by decide +kernel : decode prog_1_method_32_code 36 = .ok (.lload 4, 2))))
        (sd_lf (sd_lret (by decide +kernel : decode prog_1_method_32_code 38 = .ok (.lreturn, 1)) rfl)))))))
def k_Hp_mixTranslator (l : Launch) (G : Gc) (pc : Nat) : Tr :=
  if pc < 41 then
   if pc < 20 then
    if pc < 8 then
     if pc < 3 then
      if pc < 1 then
       if pc = 0 then tz_lload 1 1 else dead
      else
       if pc = 1 then tz_lstore 3 4 else dead
     else
      if pc < 4 then
       if pc = 3 then tz_const 4 (.int (nI 0)) else dead
      else
       if pc < 6 then
        if pc = 4 then tz_istore 6 6 else dead
       else
        if pc = 6 then tz_iload 8 6 else dead
    else
     if pc < 16 then
      if pc < 10 then
       if pc = 8 then tz_const 10 (.int (nI 8)) else dead
      else
       if pc < 13 then
        if pc = 10 then tz_icmp 13 35 (fun a b => b < a) else dead
       else
        if pc = 13 then tz_const 16 (.long (lN 31)) else dead
     else
      if pc < 18 then
       if pc = 16 then tz_lload 18 4 else dead
      else
       if pc < 19 then
        if pc = 18 then tz_l2 19 (fun a b => a * b) else dead
       else
        if pc = 19 then tz_aload 20 3 else dead
   else
    if pc < 29 then
     if pc < 25 then
      if pc < 22 then
       if pc = 20 then tz_iload 22 6 else dead
      else
       if pc = 22 then tz_callV l G 25 M_Tl_property 1 5 else dead
     else
      if pc < 26 then
       if pc = 25 then tz_i2l 26 else dead
      else
       if pc < 27 then
        if pc = 26 then tz_l2 27 (fun a b => a + b) else dead
       else
        if pc = 27 then tz_lstore 29 4 else dead
    else
     if pc < 36 then
      if pc < 32 then
       if pc = 29 then tz_iinc 32 6 (nI 1) else dead
      else
       if pc < 35 then
        if pc = 32 then tz_goto 6 else dead
       else
        if pc = 35 then tz_const 36 (.int (nI 0)) else dead
     else
      if pc < 38 then
       if pc = 36 then tz_istore 38 6 else dead
      else
       if pc < 40 then
        if pc = 38 then tz_iload 40 6 else dead
       else
        if pc = 40 then tz_aload 41 3 else dead
  else
   if pc < 65 then
    if pc < 53 then
     if pc < 47 then
      if pc < 44 then
       if pc = 41 then tz_getf 44 5 10 0 else dead
      else
       if pc = 44 then tz_icmp 47 88 (fun a b => b ≤ a) else dead
     else
      if pc < 48 then
       if pc = 47 then tz_aload 48 3 else dead
      else
       if pc < 50 then
        if pc = 48 then tz_iload 50 6 else dead
       else
        if pc = 50 then tz_pureV 53 1 5 P_Tl_mappingAt f_Tl_mappingAt else dead
    else
     if pc < 60 then
      if pc < 55 then
       if pc = 53 then tz_astore 55 7 else dead
      else
       if pc < 57 then
        if pc = 55 then tz_aload 57 7 else dead
       else
        if pc = 57 then tz_null 82 60 else dead
     else
      if pc < 62 then
       if pc = 60 then tz_lload 62 4 else dead
      else
       if pc < 64 then
        if pc = 62 then tz_aload 64 7 else dead
       else
        if pc = 64 then tz_aload 65 3 else dead
   else
    if pc < 77 then
     if pc < 68 then
      if pc < 67 then
       if pc = 65 then tz_aload 67 7 else dead
      else
       if pc = 67 then tz_aload 68 0 else dead
     else
      if pc < 71 then
       if pc = 68 then tz_getf 71 6 0 1 else dead
      else
       if pc < 74 then
        if pc = 71 then tz_getf 74 1 3 0 else dead
       else
        if pc = 74 then tz_pureV 77 2 5 P_Tl_ticksLeft f_Tl_ticksLeft else dead
    else
     if pc < 85 then
      if pc < 80 then
       if pc = 77 then tz_callS l G 80 M_Hp_mixMapping 3 else dead
      else
       if pc < 82 then
        if pc = 80 then tz_lstore 82 4 else dead
       else
        if pc = 82 then tz_iinc 85 6 (nI 1) else dead
     else
      if pc < 88 then
       if pc = 85 then tz_goto 38 else dead
      else
       if pc < 90 then
        if pc = 88 then tz_lload 90 4 else dead
       else
        if pc = 90 then tz_lret else dead
set_option maxRecDepth 100000 in
theorem T_Hp_mixTranslator (l : Launch) (G : Gc) : TabOK l G M_Hp_mixTranslator (k_Hp_mixTranslator l G) := by
  intro pc
  unfold k_Hp_mixTranslator
  exact
   (sd_br
    (sd_br
     (sd_br
      (sd_br
       (sd_br
        (sd_lf (sd_lload_n (k := 1) (by decide +kernel : decode prog_1_method_31_code 0 = .ok (.lload_n 1, 1))))
        (sd_lf (sd_lstore (by decide +kernel : decode prog_1_method_31_code 1 = .ok (.lstore 4, 2)))))
       (sd_br
        (sd_lf (sd_iconst (by decide +kernel : decode prog_1_method_31_code 3 = .ok (.iconst 0, 1)) (by decide +kernel)))
        (sd_br
         (sd_lf (sd_istore (by decide +kernel : decode prog_1_method_31_code 4 = .ok (.istore 6, 2))))
         (sd_lf (sd_iload (by decide +kernel : decode prog_1_method_31_code 6 = .ok (.iload 6, 2)))))))
      (sd_br
       (sd_br
        (sd_lf (sd_bipush (by decide +kernel : decode prog_1_method_31_code 8 = .ok (.bipush 8, 2)) (by decide +kernel)))
        (sd_br
         (sd_lf (sd_icmp_gt (by decide +kernel : decode prog_1_method_31_code 10 = .ok (.if_icmp .gt 25, 3)) (by decide +kernel)))
         (sd_lf (sd_ldc2 (by decide +kernel : decode prog_1_method_31_code 13 = .ok (.ldc2_w 270, 3)) (gm 402 (by decide +kernel) rfl)))))
       (sd_br
        (sd_lf (sd_lload (by decide +kernel : decode prog_1_method_31_code 16 = .ok (.lload 4, 2))))
        (sd_br
         (sd_lf (sd_lmul (by decide +kernel : decode prog_1_method_31_code 18 = .ok (.lmul, 1))))
         (sd_lf (sd_aload_n (k := 3) (by decide +kernel : decode prog_1_method_31_code 19 = .ok (.aload_n 3, 1))))))))
     (sd_br
      (sd_br
       (sd_br
        (sd_lf (sd_iload (by decide +kernel : decode prog_1_method_31_code 20 = .ok (.iload 6, 2))))
        (sd_lf (sd_callV (q := (RX5, TX5, 11)) (by decide +kernel : decode prog_1_method_31_code 22 = .ok (.invokevirtual 239, 3)) ok_Tl_property (gm 459 (by decide +kernel) rfl) (gm 460 (by decide +kernel) rfl) (gm 461 (by decide +kernel) rfl) rfl rfl (by decide +kernel) rfl rfl)))
       (sd_br
        (sd_lf (sd_i2l (by decide +kernel : decode prog_1_method_31_code 25 = .ok (.i2l, 1))))
        (sd_br
         (sd_lf (sd_ladd (by decide +kernel : decode prog_1_method_31_code 26 = .ok (.ladd, 1))))
         (sd_lf (sd_lstore (by decide +kernel : decode prog_1_method_31_code 27 = .ok (.lstore 4, 2)))))))
      (sd_br
       (sd_br
        (sd_lf (sd_iinc (by decide +kernel : decode prog_1_method_31_code 29 = .ok (.iinc 6 1, 3)) (by decide +kernel)))
        (sd_br
         (sd_lf (sd_goto (by decide +kernel : decode prog_1_method_31_code 32 = .ok (.goto (-26), 3)) (by decide +kernel)))
         (sd_lf (sd_iconst (by decide +kernel : decode prog_1_method_31_code 35 = .ok (.iconst 0, 1)) (by decide +kernel)))))
       (sd_br
        (sd_lf (sd_istore (by decide +kernel : decode prog_1_method_31_code 36 = .ok (.istore 6, 2))))
        (sd_br
         (sd_lf (sd_iload (by decide +kernel : decode prog_1_method_31_code 38 = .ok (.iload 6, 2))))
         (sd_lf (sd_aload_n (k := 3) (by decide +kernel : decode prog_1_method_31_code 40 = .ok (.aload_n 3, 1)))))))))
    (sd_br
     (sd_br
      (sd_br
       (sd_br
        (sd_lf (sd_getf (q := (RX5, TX5, 11)) (by decide +kernel : decode prog_1_method_31_code 41 = .ok (.getfield 280, 3)) rfl (by decide +kernel) (gm 263 (by decide +kernel) rfl)))
        (sd_lf (sd_icmp_ge (by decide +kernel : decode prog_1_method_31_code 44 = .ok (.if_icmp .ge 44, 3)) (by decide +kernel))))
       (sd_br
        (sd_lf (sd_aload_n (k := 3) (by decide +kernel : decode prog_1_method_31_code 47 = .ok (.aload_n 3, 1))))
        (sd_br
         (sd_lf (sd_iload (by decide +kernel : decode prog_1_method_31_code 48 = .ok (.iload 6, 2))))
         (sd_lf (sd_pureV (sd_callV (q := (RX5, TX5, 11)) (by decide +kernel : decode prog_1_method_31_code 50 = .ok (.invokevirtual 242, 3)) ok_Tl_mappingAt (gm 467 (by decide +kernel) rfl) (gm 292 (by decide +kernel) rfl) (gm 293 (by decide +kernel) rfl) rfl rfl (by decide +kernel) rfl rfl) c_Tl_mappingAt)))))
      (sd_br
       (sd_br
        (sd_lf (sd_astore (by decide +kernel : decode prog_1_method_31_code 53 = .ok (.astore 7, 2))))
        (sd_br
         (sd_lf (sd_aload (by decide +kernel : decode prog_1_method_31_code 55 = .ok (.aload 7, 2))))
         (sd_lf (sd_ifnull (by decide +kernel : decode prog_1_method_31_code 57 = .ok (.ifnull 25, 3)) (by decide +kernel)))))
       (sd_br
        (sd_lf (sd_lload (by decide +kernel : decode prog_1_method_31_code 60 = .ok (.lload 4, 2))))
        (sd_br
         (sd_lf (sd_aload (by decide +kernel : decode prog_1_method_31_code 62 = .ok (.aload 7, 2))))
         (sd_lf (sd_aload_n (k := 3) (by decide +kernel : decode prog_1_method_31_code 64 = .ok (.aload_n 3, 1))))))))
     (sd_br
      (sd_br
       (sd_br
        (sd_lf (sd_aload (by decide +kernel : decode prog_1_method_31_code 65 = .ok (.aload 7, 2))))
        (sd_lf (sd_aload_n (k := 0) (by decide +kernel : decode prog_1_method_31_code 67 = .ok (.aload_n 0, 1)))))
       (sd_br
        (sd_lf (sd_getf (q := (RX6, TX6, 7)) (by decide +kernel : decode prog_1_method_31_code 68 = .ok (.getfield 12, 3)) rfl (by decide +kernel) (gm 154 (by decide +kernel) rfl)))
        (sd_br
         (sd_lf (sd_getf (q := (RX1, TX1, 6)) (by decide +kernel : decode prog_1_method_31_code 71 = .ok (.getfield 103, 3)) rfl (by decide +kernel) (gm 110 (by decide +kernel) rfl)))
         (sd_lf (sd_pureV (sd_callV (q := (RX5, TX5, 11)) (by decide +kernel : decode prog_1_method_31_code 74 = .ok (.invokevirtual 248, 3)) ok_Tl_ticksLeft (gm 468 (by decide +kernel) rfl) (gm 469 (by decide +kernel) rfl) (gm 470 (by decide +kernel) rfl) rfl rfl (by decide +kernel) rfl rfl) c_Tl_ticksLeft)))))
      (sd_br
       (sd_br
        (sd_lf (sd_callS (by decide +kernel : decode prog_1_method_31_code 77 = .ok (.invokestatic 283, 3)) ok_Hp_mixMapping (gm 472 (by decide +kernel) rfl) (gm 473 (by decide +kernel) rfl) (by decide +kernel) rfl rfl))
        (sd_br
         (sd_lf (sd_lstore (by decide +kernel : decode prog_1_method_31_code 80 = .ok (.lstore 4, 2))))
         (sd_lf (sd_iinc (by decide +kernel : decode prog_1_method_31_code 82 = .ok (.iinc 6 1, 3)) (by decide +kernel)))))
       (sd_br
        (sd_lf (sd_goto (by decide +kernel : decode prog_1_method_31_code 85 = .ok (.goto (-47), 3)) (by decide +kernel)))
        (sd_br
         (sd_lf (sd_lload (by decide +kernel : decode prog_1_method_31_code 88 = .ok (.lload 4, 2))))
         (sd_lf (sd_lret (by decide +kernel : decode prog_1_method_31_code 90 = .ok (.lreturn, 1)) rfl))))))))
def k_Hp_mixNode (l : Launch) (G : Gc) (pc : Nat) : Tr :=
  if pc < 31 then
   if pc < 16 then
    if pc < 6 then
     if pc < 3 then
      if pc < 1 then
       if pc = 0 then tz_lload 1 1 else dead
      else
       if pc = 1 then tz_lstore 3 4 else dead
     else
      if pc < 4 then
       if pc = 3 then tz_const 4 (.int (nI 0)) else dead
      else
       if pc = 4 then tz_istore 6 6 else dead
    else
     if pc < 10 then
      if pc < 8 then
       if pc = 6 then tz_iload 8 6 else dead
      else
       if pc = 8 then tz_const 10 (.int (nI 6)) else dead
     else
      if pc < 13 then
       if pc = 10 then tz_icmp 13 39 (fun a b => b < a) else dead
      else
       if pc = 13 then tz_const 16 (.long (lN 31)) else dead
   else
    if pc < 23 then
     if pc < 19 then
      if pc < 18 then
       if pc = 16 then tz_lload 18 4 else dead
      else
       if pc = 18 then tz_l2 19 (fun a b => a * b) else dead
     else
      if pc < 20 then
       if pc = 19 then tz_aload 20 0 else dead
      else
       if pc = 20 then tz_getf 23 6 0 1 else dead
    else
     if pc < 26 then
      if pc < 24 then
       if pc = 23 then tz_iload 24 3 else dead
      else
       if pc = 24 then tz_iload 26 6 else dead
     else
      if pc < 29 then
       if pc = 26 then tz_callV l G 29 M_Nw_nodeProperty 2 1 else dead
      else
       if pc < 30 then
        if pc = 29 then tz_i2l 30 else dead
       else
        if pc = 30 then tz_l2 31 (fun a b => a + b) else dead
  else
   if pc < 49 then
    if pc < 40 then
     if pc < 36 then
      if pc < 33 then
       if pc = 31 then tz_lstore 33 4 else dead
      else
       if pc = 33 then tz_iinc 36 6 (nI 1) else dead
     else
      if pc < 39 then
       if pc = 36 then tz_goto 6 else dead
      else
       if pc = 39 then tz_aload 40 0 else dead
    else
     if pc < 44 then
      if pc < 43 then
       if pc = 40 then tz_getf 43 6 0 1 else dead
      else
       if pc = 43 then tz_iload 44 3 else dead
     else
      if pc < 47 then
       if pc = 44 then tz_pureV 47 1 1 P_Nw_translatorAt f_Nw_translatorAt else dead
      else
       if pc = 47 then tz_astore 49 6 else dead
   else
    if pc < 59 then
     if pc < 54 then
      if pc < 51 then
       if pc = 49 then tz_aload 51 6 else dead
      else
       if pc = 51 then tz_null 54 59 else dead
     else
      if pc < 56 then
       if pc = 54 then tz_lload 56 4 else dead
      else
       if pc = 56 then tz_goto 67 else dead
    else
     if pc < 62 then
      if pc < 60 then
       if pc = 59 then tz_aload 60 0 else dead
      else
       if pc = 60 then tz_lload 62 4 else dead
     else
      if pc < 64 then
       if pc = 62 then tz_aload 64 6 else dead
      else
       if pc < 67 then
        if pc = 64 then tz_callV l G 67 M_Hp_mixTranslator 2 6 else dead
       else
        if pc = 67 then tz_lret else dead
set_option maxRecDepth 100000 in
theorem T_Hp_mixNode (l : Launch) (G : Gc) : TabOK l G M_Hp_mixNode (k_Hp_mixNode l G) := by
  intro pc
  unfold k_Hp_mixNode
  exact
   (sd_br
    (sd_br
     (sd_br
      (sd_br
       (sd_br
        (sd_lf (sd_lload_n (k := 1) (by decide +kernel : decode prog_1_method_30_code 0 = .ok (.lload_n 1, 1))))
        (sd_lf (sd_lstore (by decide +kernel : decode prog_1_method_30_code 1 = .ok (.lstore 4, 2)))))
       (sd_br
        (sd_lf (sd_iconst (by decide +kernel : decode prog_1_method_30_code 3 = .ok (.iconst 0, 1)) (by decide +kernel)))
        (sd_lf (sd_istore (by decide +kernel : decode prog_1_method_30_code 4 = .ok (.istore 6, 2))))))
      (sd_br
       (sd_br
        (sd_lf (sd_iload (by decide +kernel : decode prog_1_method_30_code 6 = .ok (.iload 6, 2))))
        (sd_lf (sd_bipush (by decide +kernel : decode prog_1_method_30_code 8 = .ok (.bipush 6, 2)) (by decide +kernel))))
       (sd_br
        (sd_lf (sd_icmp_gt (by decide +kernel : decode prog_1_method_30_code 10 = .ok (.if_icmp .gt 29, 3)) (by decide +kernel)))
        (sd_lf (sd_ldc2 (by decide +kernel : decode prog_1_method_30_code 13 = .ok (.ldc2_w 270, 3)) (gm 402 (by decide +kernel) rfl))))))
     (sd_br
      (sd_br
       (sd_br
        (sd_lf (sd_lload (by decide +kernel : decode prog_1_method_30_code 16 = .ok (.lload 4, 2))))
        (sd_lf (sd_lmul (by decide +kernel : decode prog_1_method_30_code 18 = .ok (.lmul, 1)))))
       (sd_br
        (sd_lf (sd_aload_n (k := 0) (by decide +kernel : decode prog_1_method_30_code 19 = .ok (.aload_n 0, 1))))
        (sd_lf (sd_getf (q := (RX6, TX6, 7)) (by decide +kernel : decode prog_1_method_30_code 20 = .ok (.getfield 12, 3)) rfl (by decide +kernel) (gm 154 (by decide +kernel) rfl)))))
      (sd_br
       (sd_br
        (sd_lf (sd_iload_n (k := 3) (by decide +kernel : decode prog_1_method_30_code 23 = .ok (.iload_n 3, 1))))
        (sd_lf (sd_iload (by decide +kernel : decode prog_1_method_30_code 24 = .ok (.iload 6, 2)))))
       (sd_br
        (sd_lf (sd_callV (q := (RX1, TX1, 6)) (by decide +kernel : decode prog_1_method_30_code 26 = .ok (.invokevirtual 234, 3)) ok_Nw_nodeProperty (gm 436 (by decide +kernel) rfl) (gm 437 (by decide +kernel) rfl) (gm 438 (by decide +kernel) rfl) rfl rfl (by decide +kernel) rfl rfl))
        (sd_br
         (sd_lf (sd_i2l (by decide +kernel : decode prog_1_method_30_code 29 = .ok (.i2l, 1))))
         (sd_lf (sd_ladd (by decide +kernel : decode prog_1_method_30_code 30 = .ok (.ladd, 1)))))))))
    (sd_br
     (sd_br
      (sd_br
       (sd_br
        (sd_lf (sd_lstore (by decide +kernel : decode prog_1_method_30_code 31 = .ok (.lstore 4, 2))))
        (sd_lf (sd_iinc (by decide +kernel : decode prog_1_method_30_code 33 = .ok (.iinc 6 1, 3)) (by decide +kernel))))
       (sd_br
        (sd_lf (sd_goto (by decide +kernel : decode prog_1_method_30_code 36 = .ok (.goto (-30), 3)) (by decide +kernel)))
        (sd_lf (sd_aload_n (k := 0) (by decide +kernel : decode prog_1_method_30_code 39 = .ok (.aload_n 0, 1))))))
      (sd_br
       (sd_br
        (sd_lf (sd_getf (q := (RX6, TX6, 7)) (by decide +kernel : decode prog_1_method_30_code 40 = .ok (.getfield 12, 3)) rfl (by decide +kernel) (gm 154 (by decide +kernel) rfl)))
        (sd_lf (sd_iload_n (k := 3) (by decide +kernel : decode prog_1_method_30_code 43 = .ok (.iload_n 3, 1)))))
       (sd_br
        (sd_lf (sd_pureV (sd_callV (q := (RX1, TX1, 6)) (by decide +kernel : decode prog_1_method_30_code 44 = .ok (.invokevirtual 79, 3)) ok_Nw_translatorAt (gm 454 (by decide +kernel) rfl) (gm 429 (by decide +kernel) rfl) (gm 430 (by decide +kernel) rfl) rfl rfl (by decide +kernel) rfl rfl) c_Nw_translatorAt))
        (sd_lf (sd_astore (by decide +kernel : decode prog_1_method_30_code 47 = .ok (.astore 6, 2)))))))
     (sd_br
      (sd_br
       (sd_br
        (sd_lf (sd_aload (by decide +kernel : decode prog_1_method_30_code 49 = .ok (.aload 6, 2))))
        (sd_lf (sd_ifnonnull (by decide +kernel : decode prog_1_method_30_code 51 = .ok (.ifnonnull 8, 3)) (by decide +kernel))))
       (sd_br
        (sd_lf (sd_lload (by decide +kernel : decode prog_1_method_30_code 54 = .ok (.lload 4, 2))))
        (sd_lf (sd_goto (by decide +kernel : decode prog_1_method_30_code 56 = .ok (.goto 11, 3)) (by decide +kernel)))))
      (sd_br
       (sd_br
        (sd_lf (sd_aload_n (k := 0) (by decide +kernel : decode prog_1_method_30_code 59 = .ok (.aload_n 0, 1))))
        (sd_lf (sd_lload (by decide +kernel : decode prog_1_method_30_code 60 = .ok (.lload 4, 2)))))
       (sd_br
        (sd_lf (sd_aload (by decide +kernel : decode prog_1_method_30_code 62 = .ok (.aload 6, 2))))
        (sd_br
         (sd_lf (sd_callV (q := (RX6, TX6, 7)) (by decide +kernel : decode prog_1_method_30_code 64 = .ok (.invokevirtual 276, 3)) ok_Hp_mixTranslator (gm 455 (by decide +kernel) rfl) (gm 457 (by decide +kernel) rfl) (gm 13 (by decide +kernel) rfl) rfl rfl (by decide +kernel) rfl rfl))
         (sd_lf (sd_lret (by decide +kernel : decode prog_1_method_30_code 67 = .ok (.lreturn, 1)) rfl))))))))
def k_Hp_digest (l : Launch) (G : Gc) (pc : Nat) : Tr :=
  if pc < 57 then
   if pc < 25 then
    if pc < 15 then
     if pc < 6 then
      if pc < 4 then
       if pc < 3 then
        if pc = 0 then tz_const 3 (.long (lN 1973)) else dead
       else
        if pc = 3 then tz_lstore 4 1 else dead
      else
       if pc < 5 then
        if pc = 4 then tz_const 5 (.int (nI 0)) else dead
       else
        if pc = 5 then tz_istore 6 3 else dead
     else
      if pc < 9 then
       if pc < 7 then
        if pc = 6 then tz_iload 7 3 else dead
       else
        if pc = 7 then tz_const 9 (.int (nI 11)) else dead
      else
       if pc < 12 then
        if pc = 9 then tz_icmp 12 31 (fun a b => b < a) else dead
       else
        if pc = 12 then tz_const 15 (.long (lN 31)) else dead
    else
     if pc < 19 then
      if pc < 17 then
       if pc < 16 then
        if pc = 15 then tz_lload 16 1 else dead
       else
        if pc = 16 then tz_l2 17 (fun a b => a * b) else dead
      else
       if pc < 18 then
        if pc = 17 then tz_aload 18 0 else dead
       else
        if pc = 18 then tz_iload 19 3 else dead
     else
      if pc < 23 then
       if pc < 22 then
        if pc = 19 then tz_callV l G 22 M_Hp_total 1 6 else dead
       else
        if pc = 22 then tz_i2l 23 else dead
      else
       if pc < 24 then
        if pc = 23 then tz_l2 24 (fun a b => a + b) else dead
       else
        if pc = 24 then tz_lstore 25 1 else dead
   else
    if pc < 41 then
     if pc < 33 then
      if pc < 31 then
       if pc < 28 then
        if pc = 25 then tz_iinc 28 3 (nI 1) else dead
       else
        if pc = 28 then tz_goto 6 else dead
      else
       if pc < 32 then
        if pc = 31 then tz_const 32 (.int (nI 0)) else dead
       else
        if pc = 32 then tz_istore 33 3 else dead
     else
      if pc < 35 then
       if pc < 34 then
        if pc = 33 then tz_iload 34 3 else dead
       else
        if pc = 34 then tz_aload 35 0 else dead
      else
       if pc < 38 then
        if pc = 35 then tz_getf 38 6 0 1 else dead
       else
        if pc = 38 then tz_getf 41 1 2 0 else dead
    else
     if pc < 47 then
      if pc < 45 then
       if pc < 44 then
        if pc = 41 then tz_icmp 44 57 (fun a b => b ≤ a) else dead
       else
        if pc = 44 then tz_aload 45 0 else dead
      else
       if pc < 46 then
        if pc = 45 then tz_lload 46 1 else dead
       else
        if pc = 46 then tz_iload 47 3 else dead
     else
      if pc < 51 then
       if pc < 50 then
        if pc = 47 then tz_callV l G 50 M_Hp_mixNode 2 6 else dead
       else
        if pc = 50 then tz_lstore 51 1 else dead
      else
       if pc < 54 then
        if pc = 51 then tz_iinc 54 3 (nI 1) else dead
       else
        if pc = 54 then tz_goto 33 else dead
  else
   if pc < 81 then
    if pc < 69 then
     if pc < 63 then
      if pc < 61 then
       if pc < 60 then
        if pc = 57 then tz_const 60 (.long (lN 31)) else dead
       else
        if pc = 60 then tz_lload 61 1 else dead
      else
       if pc < 62 then
        if pc = 61 then tz_l2 62 (fun a b => a * b) else dead
       else
        if pc = 62 then tz_aload 63 0 else dead
     else
      if pc < 67 then
       if pc < 66 then
        if pc = 63 then tz_getf 66 6 5 0 else dead
       else
        if pc = 66 then tz_i2l 67 else dead
      else
       if pc < 68 then
        if pc = 67 then tz_l2 68 (fun a b => a + b) else dead
       else
        if pc = 68 then tz_lstore 69 1 else dead
    else
     if pc < 73 then
      if pc < 71 then
       if pc < 70 then
        if pc = 69 then tz_const 70 (.int (nI 0)) else dead
       else
        if pc = 70 then tz_istore 71 3 else dead
      else
       if pc < 72 then
        if pc = 71 then tz_iload 72 3 else dead
       else
        if pc = 72 then tz_aload 73 0 else dead
     else
      if pc < 79 then
       if pc < 76 then
        if pc = 73 then tz_getf 76 6 5 0 else dead
       else
        if pc = 76 then tz_icmp 79 108 (fun a b => b ≤ a) else dead
      else
       if pc < 80 then
        if pc = 79 then tz_iload 80 3 else dead
       else
        if pc = 80 then tz_aload 81 0 else dead
   else
    if pc < 97 then
     if pc < 91 then
      if pc < 85 then
       if pc < 84 then
        if pc = 81 then tz_getf 84 6 4 1 else dead
       else
        if pc = 84 then tz_alen 85 else dead
      else
       if pc < 88 then
        if pc = 85 then tz_icmp 88 108 (fun a b => b ≤ a) else dead
       else
        if pc = 88 then tz_const 91 (.long (lN 31)) else dead
     else
      if pc < 93 then
       if pc < 92 then
        if pc = 91 then tz_lload 92 1 else dead
       else
        if pc = 92 then tz_l2 93 (fun a b => a * b) else dead
      else
       if pc < 94 then
        if pc = 93 then tz_aload 94 0 else dead
       else
        if pc = 94 then tz_getf 97 6 4 1 else dead
    else
     if pc < 101 then
      if pc < 99 then
       if pc < 98 then
        if pc = 97 then tz_iload 98 3 else dead
       else
        if pc = 98 then tz_iaload 99 else dead
      else
       if pc < 100 then
        if pc = 99 then tz_i2l 100 else dead
       else
        if pc = 100 then tz_l2 101 (fun a b => a + b) else dead
     else
      if pc < 105 then
       if pc < 102 then
        if pc = 101 then tz_lstore 102 1 else dead
       else
        if pc = 102 then tz_iinc 105 3 (nI 1) else dead
      else
       if pc < 108 then
        if pc = 105 then tz_goto 71 else dead
       else
        if pc < 109 then
         if pc = 108 then tz_lload 109 1 else dead
        else
         if pc = 109 then tz_lret else dead
set_option maxRecDepth 100000 in
theorem T_Hp_digest (l : Launch) (G : Gc) : TabOK l G M_Hp_digest (k_Hp_digest l G) := by
  intro pc
  unfold k_Hp_digest
  exact
   (sd_br
    (sd_br
     (sd_br
      (sd_br
       (sd_br
        (sd_br
         (sd_lf (sd_ldc2 (by decide +kernel : decode prog_1_method_29_code 0 = .ok (.ldc2_w 268, 3)) (gm 401 (by decide +kernel) rfl)))
         (sd_lf (sd_lstore_n (k := 1) (by decide +kernel : decode prog_1_method_29_code 3 = .ok (.lstore_n 1, 1)))))
        (sd_br
         (sd_lf (sd_iconst (by decide +kernel : decode prog_1_method_29_code 4 = .ok (.iconst 0, 1)) (by decide +kernel)))
         (sd_lf (sd_istore_n (k := 3) (by decide +kernel : decode prog_1_method_29_code 5 = .ok (.istore_n 3, 1))))))
       (sd_br
        (sd_br
         (sd_lf (sd_iload_n (k := 3) (by decide +kernel : decode prog_1_method_29_code 6 = .ok (.iload_n 3, 1))))
         (sd_lf (sd_bipush (by decide +kernel : decode prog_1_method_29_code 7 = .ok (.bipush 11, 2)) (by decide +kernel))))
        (sd_br
         (sd_lf (sd_icmp_gt (by decide +kernel : decode prog_1_method_29_code 9 = .ok (.if_icmp .gt 22, 3)) (by decide +kernel)))
         (sd_lf (sd_ldc2 (by decide +kernel : decode prog_1_method_29_code 12 = .ok (.ldc2_w 270, 3)) (gm 402 (by decide +kernel) rfl))))))
      (sd_br
       (sd_br
        (sd_br
         (sd_lf (sd_lload_n (k := 1) (by decide +kernel : decode prog_1_method_29_code 15 = .ok (.lload_n 1, 1))))
         (sd_lf (sd_lmul (by decide +kernel : decode prog_1_method_29_code 16 = .ok (.lmul, 1)))))
        (sd_br
         (sd_lf (sd_aload_n (k := 0) (by decide +kernel : decode prog_1_method_29_code 17 = .ok (.aload_n 0, 1))))
         (sd_lf (sd_iload_n (k := 3) (by decide +kernel : decode prog_1_method_29_code 18 = .ok (.iload_n 3, 1))))))
       (sd_br
        (sd_br
         (sd_lf (sd_callV (q := (RX6, TX6, 7)) (by decide +kernel : decode prog_1_method_29_code 19 = .ok (.invokevirtual 224, 3)) ok_Hp_total (gm 403 (by decide +kernel) rfl) (gm 405 (by decide +kernel) rfl) (gm 7 (by decide +kernel) rfl) rfl rfl (by decide +kernel) rfl rfl))
         (sd_lf (sd_i2l (by decide +kernel : decode prog_1_method_29_code 22 = .ok (.i2l, 1)))))
        (sd_br
         (sd_lf (sd_ladd (by decide +kernel : decode prog_1_method_29_code 23 = .ok (.ladd, 1))))
         (sd_lf (sd_lstore_n (k := 1) (by decide +kernel : decode prog_1_method_29_code 24 = .ok (.lstore_n 1, 1))))))))
     (sd_br
      (sd_br
       (sd_br
        (sd_br
         (sd_lf (sd_iinc (by decide +kernel : decode prog_1_method_29_code 25 = .ok (.iinc 3 1, 3)) (by decide +kernel)))
         (sd_lf (sd_goto (by decide +kernel : decode prog_1_method_29_code 28 = .ok (.goto (-22), 3)) (by decide +kernel))))
        (sd_br
         (sd_lf (sd_iconst (by decide +kernel : decode prog_1_method_29_code 31 = .ok (.iconst 0, 1)) (by decide +kernel)))
         (sd_lf (sd_istore_n (k := 3) (by decide +kernel : decode prog_1_method_29_code 32 = .ok (.istore_n 3, 1))))))
       (sd_br
        (sd_br
         (sd_lf (sd_iload_n (k := 3) (by decide +kernel : decode prog_1_method_29_code 33 = .ok (.iload_n 3, 1))))
         (sd_lf (sd_aload_n (k := 0) (by decide +kernel : decode prog_1_method_29_code 34 = .ok (.aload_n 0, 1)))))
        (sd_br
         (sd_lf (sd_getf (q := (RX6, TX6, 7)) (by decide +kernel : decode prog_1_method_29_code 35 = .ok (.getfield 12, 3)) rfl (by decide +kernel) (gm 154 (by decide +kernel) rfl)))
         (sd_lf (sd_getf (q := (RX1, TX1, 6)) (by decide +kernel : decode prog_1_method_29_code 38 = .ok (.getfield 41, 3)) rfl (by decide +kernel) (gm 107 (by decide +kernel) rfl))))))
      (sd_br
       (sd_br
        (sd_br
         (sd_lf (sd_icmp_ge (by decide +kernel : decode prog_1_method_29_code 41 = .ok (.if_icmp .ge 16, 3)) (by decide +kernel)))
         (sd_lf (sd_aload_n (k := 0) (by decide +kernel : decode prog_1_method_29_code 44 = .ok (.aload_n 0, 1)))))
        (sd_br
         (sd_lf (sd_lload_n (k := 1) (by decide +kernel : decode prog_1_method_29_code 45 = .ok (.lload_n 1, 1))))
         (sd_lf (sd_iload_n (k := 3) (by decide +kernel : decode prog_1_method_29_code 46 = .ok (.iload_n 3, 1))))))
       (sd_br
        (sd_br
         (sd_lf (sd_callV (q := (RX6, TX6, 7)) (by decide +kernel : decode prog_1_method_29_code 47 = .ok (.invokevirtual 272, 3)) ok_Hp_mixNode (gm 432 (by decide +kernel) rfl) (gm 434 (by decide +kernel) rfl) (gm 11 (by decide +kernel) rfl) rfl rfl (by decide +kernel) rfl rfl))
         (sd_lf (sd_lstore_n (k := 1) (by decide +kernel : decode prog_1_method_29_code 50 = .ok (.lstore_n 1, 1)))))
        (sd_br
         (sd_lf (sd_iinc (by decide +kernel : decode prog_1_method_29_code 51 = .ok (.iinc 3 1, 3)) (by decide +kernel)))
         (sd_lf (sd_goto (by decide +kernel : decode prog_1_method_29_code 54 = .ok (.goto (-21), 3)) (by decide +kernel))))))))
    (sd_br
     (sd_br
      (sd_br
       (sd_br
        (sd_br
         (sd_lf (sd_ldc2 (by decide +kernel : decode prog_1_method_29_code 57 = .ok (.ldc2_w 270, 3)) (gm 402 (by decide +kernel) rfl)))
         (sd_lf (sd_lload_n (k := 1) (by decide +kernel : decode prog_1_method_29_code 60 = .ok (.lload_n 1, 1)))))
        (sd_br
         (sd_lf (sd_lmul (by decide +kernel : decode prog_1_method_29_code 61 = .ok (.lmul, 1))))
         (sd_lf (sd_aload_n (k := 0) (by decide +kernel : decode prog_1_method_29_code 62 = .ok (.aload_n 0, 1))))))
       (sd_br
        (sd_br
         (sd_lf (sd_getf (q := (RX6, TX6, 7)) (by decide +kernel : decode prog_1_method_29_code 63 = .ok (.getfield 33, 3)) rfl (by decide +kernel) (gm 159 (by decide +kernel) rfl)))
         (sd_lf (sd_i2l (by decide +kernel : decode prog_1_method_29_code 66 = .ok (.i2l, 1)))))
        (sd_br
         (sd_lf (sd_ladd (by decide +kernel : decode prog_1_method_29_code 67 = .ok (.ladd, 1))))
         (sd_lf (sd_lstore_n (k := 1) (by decide +kernel : decode prog_1_method_29_code 68 = .ok (.lstore_n 1, 1)))))))
      (sd_br
       (sd_br
        (sd_br
         (sd_lf (sd_iconst (by decide +kernel : decode prog_1_method_29_code 69 = .ok (.iconst 0, 1)) (by decide +kernel)))
         (sd_lf (sd_istore_n (k := 3) (by decide +kernel : decode prog_1_method_29_code 70 = .ok (.istore_n 3, 1)))))
        (sd_br
         (sd_lf (sd_iload_n (k := 3) (by decide +kernel : decode prog_1_method_29_code 71 = .ok (.iload_n 3, 1))))
         (sd_lf (sd_aload_n (k := 0) (by decide +kernel : decode prog_1_method_29_code 72 = .ok (.aload_n 0, 1))))))
       (sd_br
        (sd_br
         (sd_lf (sd_getf (q := (RX6, TX6, 7)) (by decide +kernel : decode prog_1_method_29_code 73 = .ok (.getfield 33, 3)) rfl (by decide +kernel) (gm 159 (by decide +kernel) rfl)))
         (sd_lf (sd_icmp_ge (by decide +kernel : decode prog_1_method_29_code 76 = .ok (.if_icmp .ge 32, 3)) (by decide +kernel))))
        (sd_br
         (sd_lf (sd_iload_n (k := 3) (by decide +kernel : decode prog_1_method_29_code 79 = .ok (.iload_n 3, 1))))
         (sd_lf (sd_aload_n (k := 0) (by decide +kernel : decode prog_1_method_29_code 80 = .ok (.aload_n 0, 1))))))))
     (sd_br
      (sd_br
       (sd_br
        (sd_br
         (sd_lf (sd_getf (q := (RX6, TX6, 7)) (by decide +kernel : decode prog_1_method_29_code 81 = .ok (.getfield 29, 3)) rfl (by decide +kernel) (gm 158 (by decide +kernel) rfl)))
         (sd_lf (sd_alen (by decide +kernel : decode prog_1_method_29_code 84 = .ok (.arraylength, 1)))))
        (sd_br
         (sd_lf (sd_icmp_ge (by decide +kernel : decode prog_1_method_29_code 85 = .ok (.if_icmp .ge 23, 3)) (by decide +kernel)))
         (sd_lf (sd_ldc2 (by decide +kernel : decode prog_1_method_29_code 88 = .ok (.ldc2_w 270, 3)) (gm 402 (by decide +kernel) rfl)))))
       (sd_br
        (sd_br
         (sd_lf (sd_lload_n (k := 1) (by decide +kernel : decode prog_1_method_29_code 91 = .ok (.lload_n 1, 1))))
         (sd_lf (sd_lmul (by decide +kernel : decode prog_1_method_29_code 92 = .ok (.lmul, 1)))))
        (sd_br
         (sd_lf (sd_aload_n (k := 0) (by decide +kernel : decode prog_1_method_29_code 93 = .ok (.aload_n 0, 1))))
         (sd_lf (sd_getf (q := (RX6, TX6, 7)) (by decide +kernel : decode prog_1_method_29_code 94 = .ok (.getfield 29, 3)) rfl (by decide +kernel) (gm 158 (by decide +kernel) rfl))))))
      (sd_br
       (sd_br
        (sd_br
         (sd_lf (sd_iload_n (k := 3) (by decide +kernel : decode prog_1_method_29_code 97 = .ok (.iload_n 3, 1))))
         (sd_lf (sd_iaload (by decide +kernel : decode prog_1_method_29_code 98 = .ok (.iaload, 1)))))
        (sd_br
         (sd_lf (sd_i2l (by decide +kernel : decode prog_1_method_29_code 99 = .ok (.i2l, 1))))
         (sd_lf (sd_ladd (by decide +kernel : decode prog_1_method_29_code 100 = .ok (.ladd, 1))))))
       (sd_br
        (sd_br
         (sd_lf (sd_lstore_n (k := 1) (by decide +kernel : decode prog_1_method_29_code 101 = .ok (.lstore_n 1, 1))))
         (sd_lf (sd_iinc (by decide +kernel : decode prog_1_method_29_code 102 = .ok (.iinc 3 1, 3)) (by decide +kernel))))
        (sd_br
         (sd_lf (sd_goto (by decide +kernel : decode prog_1_method_29_code 105 = .ok (.goto (-34), 3)) (by decide +kernel)))
         (sd_br
          (sd_lf (sd_lload_n (k := 1) (by decide +kernel : decode prog_1_method_29_code 108 = .ok (.lload_n 1, 1))))
          (sd_lf (sd_lret (by decide +kernel : decode prog_1_method_29_code 109 = .ok (.lreturn, 1)) rfl)))))))))
theorem fld_add (f : Nat → Int32) (m : Nat) (x : Int64) : ∀ n, fld f (m + n) x = fld (fun k => f (m + k)) n (fld f m x)
  | 0 => rfl
  | n + 1 => by
    show lN 31 * fld f (m + n) x + (f (m + n)).toInt64 = _
    rw [fld_add f m x n]
    rfl
theorem fld_congr {f g : Nat → Int32} (x : Int64) : ∀ n, (∀ k, k < n → f k = g k) → fld f n x = fld g n x
  | 0, _ => rfl
  | n + 1, e => by
    show lN 31 * fld f n x + (f n).toInt64 = lN 31 * fld g n x + (g n).toInt64
    rw [fld_congr x n (fun k hk => e k (by omega)), e n (by omega)]
theorem fld_seven {z : Nat → Int32} {t i : Nat} {f : Nat → Int32} (x : Int64) (e : ∀ w, w < 7 → f w = mpZ z t i w) : fld f 7 (fld (fun k => mpZ z t (k / 7) (k % 7)) (7 * i) x) = fld (fun k => mpZ z t (k / 7) (k % 7)) (7 * (i + 1)) x := by
  rw [show 7 * (i + 1) = 7 * i + 7 by omega, fld_add]
  refine fld_congr _ 7 (fun k hk => ?_)
  rw [e k hk]
  show mpZ z t i k = mpZ z t ((7 * i + k) / 7) ((7 * i + k) % 7)
  rw [show (7 * i + k) / 7 = i by omega, show (7 * i + k) % 7 = k by omega]
section
variable {l : Launch} {G : Gc}
theorem lp_mm {m : Nat} {lt : Int32} {x : Int64} {h : AH} {Q : Po} (m0 : tg h m = 0) (hQ : Q (.inl (some (.long (fld (fun w => ppF h m w lt) 7 x)))) h) : ∀ (d i : Nat), i + d = 7 → AWp l G M_Hp_mixMapping 6 [some (.long x), none, some (.ref m), some (.int lt), some (.long (fld (fun w => ppF h m w lt) i x)), none, some (.int (nI i))] [] h Q := by
  intro d
  induction d with
  | zero =>
    intro i e
    have ei : i = 7 := by omega
    subst ei
    ((obtain ⟨W9, hW9, hgo9⟩ := wp_ex (T_Hp_mixMapping l G) [6] _; refine hgo9 200 _ _ _ _ ?_; simp -implicitDefEqProofs (disch := omega) only [hW9, inl, gate, Xq, tz_const, tz_iload, tz_lload, tz_dload, tz_aload, tz_istore, tz_astore, tz_lstore, tz_dstore, tz_iinc, tz_i1, tz_i2, tz_i2z, tz_l2, tz_l2z, tz_i2l, tz_l2i, tz_lcmp, tz_i2d, tz_d2, tz_dcmp, tz_dup, tz_dup2, tz_pop, tz_if, tz_icmp, tz_null, tz_goto, tz_sw, tz_getf, tz_puti, tz_putz, tz_putr, tz_putl, tz_iaload, tz_baload, tz_laload, tz_aaload, tz_iastore, tz_bastore, tz_lastore, tz_aastore, tz_alen, tz_new, tz_newa, tz_oinit, tz_iret, tz_zret, tz_lret, tz_dret, tz_aret, tz_vret, tz_throw, tz_callS, tz_callV, tz_callI, tz_callR, tz_pureS, tz_pureV, tz_callVH, lg, lset, lkill, lst1, lst2, entL, isRf, is1, vl, va_rf_none, va_rf_some, isRf_rf, is1_rf, i0, i1, bI_eq0, bI_eq1, nm_em, nI_eqP, nI_leP, nI_ltP, nN_e1, nN_e2, nN_l1, nN_l2, nN_l3, nN_l4, nI_add, pk_mul, vp_inN, nI_cl, n01, n10, P_i, P_ii, P_iii, f_Mo_at, f_Mo_map, f_Mo_contact, f_Mo_within, f_Mo_isPort, f_Hp_endpoint, f_Hp_nodeOf, f_Hp_portOf, f_Ma_max, f_Ma_min, f_Hp_isSetting, popN, rok, a1, noX, swc, mL, if_true, if_false, ↓reduceIte, cond_true, cond_false, true_and, and_true, List.length_cons, List.length_nil, List.nil_append, List.cons_append, List.append_nil, Option.toList, Nat.reduceEqDiff, Bool.false_eq_true, reduceCtorEq, Nat.reduceAdd, Nat.reduceLT, Nat.reduceLeDiff, Nat.reduceSub, List.replicate, Nat.zero_add, Nat.lt_add_one, Nat.le_refl, Nat.zero_le, Nat.succ_ne_zero, not_false_eq_true, not_true_eq_false, false_implies, true_implies, forall_const, imp_self, true_or, or_true, eq_self, sI_zw, zw_zw, hI_zw, tg_zw, ln_zw, hR_zw, hL_zw, hN_zw, hM_zw, upd_s, upd_u, upd_ne, Classical.not_not, k_Hp_mixMapping, m0]; try clear hgo9 hW9); try (obtain ⟨W9, hW9, hgo9⟩ := wp_ex (T_Hp_mixMapping l G) [6] _; refine hgo9 200 _ _ _ _ ?_; simp -implicitDefEqProofs (disch := omega) only [hW9, inl, gate, Xq, tz_const, tz_iload, tz_lload, tz_dload, tz_aload, tz_istore, tz_astore, tz_lstore, tz_dstore, tz_iinc, tz_i1, tz_i2, tz_i2z, tz_l2, tz_l2z, tz_i2l, tz_l2i, tz_lcmp, tz_i2d, tz_d2, tz_dcmp, tz_dup, tz_dup2, tz_pop, tz_if, tz_icmp, tz_null, tz_goto, tz_sw, tz_getf, tz_puti, tz_putz, tz_putr, tz_putl, tz_iaload, tz_baload, tz_laload, tz_aaload, tz_iastore, tz_bastore, tz_lastore, tz_aastore, tz_alen, tz_new, tz_newa, tz_oinit, tz_iret, tz_zret, tz_lret, tz_dret, tz_aret, tz_vret, tz_throw, tz_callS, tz_callV, tz_callI, tz_callR, tz_pureS, tz_pureV, tz_callVH, lg, lset, lkill, lst1, lst2, entL, isRf, is1, vl, va_rf_none, va_rf_some, isRf_rf, is1_rf, i0, i1, bI_eq0, bI_eq1, nm_em, nI_eqP, nI_leP, nI_ltP, nN_e1, nN_e2, nN_l1, nN_l2, nN_l3, nN_l4, nI_add, pk_mul, vp_inN, nI_cl, n01, n10, P_i, P_ii, P_iii, f_Mo_at, f_Mo_map, f_Mo_contact, f_Mo_within, f_Mo_isPort, f_Hp_endpoint, f_Hp_nodeOf, f_Hp_portOf, f_Ma_max, f_Ma_min, f_Hp_isSetting, popN, rok, a1, noX, swc, mL, if_true, if_false, ↓reduceIte, cond_true, cond_false, true_and, and_true, List.length_cons, List.length_nil, List.nil_append, List.cons_append, List.append_nil, Option.toList, Nat.reduceEqDiff, Bool.false_eq_true, reduceCtorEq, Nat.reduceAdd, Nat.reduceLT, Nat.reduceLeDiff, Nat.reduceSub, List.replicate, Nat.zero_add, Nat.lt_add_one, Nat.le_refl, Nat.zero_le, Nat.succ_ne_zero, not_false_eq_true, not_true_eq_false, false_implies, true_implies, forall_const, imp_self, true_or, or_true, eq_self, sI_zw, zw_zw, hI_zw, tg_zw, ln_zw, hR_zw, hL_zw, hN_zw, hM_zw, upd_s, upd_u, upd_ne, Classical.not_not, k_Hp_mixMapping, m0]; try clear hgo9 hW9))
    exact hQ
  | succ d ih =>
    intro i e
    have n6 : ¬ 6 < i := by omega
    ((obtain ⟨W9, hW9, hgo9⟩ := wp_ex (T_Hp_mixMapping l G) [6] _; refine hgo9 200 _ _ _ _ ?_; simp -implicitDefEqProofs (disch := omega) only [hW9, inl, gate, Xq, tz_const, tz_iload, tz_lload, tz_dload, tz_aload, tz_istore, tz_astore, tz_lstore, tz_dstore, tz_iinc, tz_i1, tz_i2, tz_i2z, tz_l2, tz_l2z, tz_i2l, tz_l2i, tz_lcmp, tz_i2d, tz_d2, tz_dcmp, tz_dup, tz_dup2, tz_pop, tz_if, tz_icmp, tz_null, tz_goto, tz_sw, tz_getf, tz_puti, tz_putz, tz_putr, tz_putl, tz_iaload, tz_baload, tz_laload, tz_aaload, tz_iastore, tz_bastore, tz_lastore, tz_aastore, tz_alen, tz_new, tz_newa, tz_oinit, tz_iret, tz_zret, tz_lret, tz_dret, tz_aret, tz_vret, tz_throw, tz_callS, tz_callV, tz_callI, tz_callR, tz_pureS, tz_pureV, tz_callVH, lg, lset, lkill, lst1, lst2, entL, isRf, is1, vl, va_rf_none, va_rf_some, isRf_rf, is1_rf, i0, i1, bI_eq0, bI_eq1, nm_em, nI_eqP, nI_leP, nI_ltP, nN_e1, nN_e2, nN_l1, nN_l2, nN_l3, nN_l4, nI_add, pk_mul, vp_inN, nI_cl, n01, n10, P_i, P_ii, P_iii, f_Mo_at, f_Mo_map, f_Mo_contact, f_Mo_within, f_Mo_isPort, f_Hp_endpoint, f_Hp_nodeOf, f_Hp_portOf, f_Ma_max, f_Ma_min, f_Hp_isSetting, popN, rok, a1, noX, swc, mL, if_true, if_false, ↓reduceIte, cond_true, cond_false, true_and, and_true, List.length_cons, List.length_nil, List.nil_append, List.cons_append, List.append_nil, Option.toList, Nat.reduceEqDiff, Bool.false_eq_true, reduceCtorEq, Nat.reduceAdd, Nat.reduceLT, Nat.reduceLeDiff, Nat.reduceSub, List.replicate, Nat.zero_add, Nat.lt_add_one, Nat.le_refl, Nat.zero_le, Nat.succ_ne_zero, not_false_eq_true, not_true_eq_false, false_implies, true_implies, forall_const, imp_self, true_or, or_true, eq_self, sI_zw, zw_zw, hI_zw, tg_zw, ln_zw, hR_zw, hL_zw, hN_zw, hM_zw, upd_s, upd_u, upd_ne, Classical.not_not, k_Hp_mixMapping, m0, n6]; try clear hgo9 hW9); try (obtain ⟨W9, hW9, hgo9⟩ := wp_ex (T_Hp_mixMapping l G) [6] _; refine hgo9 200 _ _ _ _ ?_; simp -implicitDefEqProofs (disch := omega) only [hW9, inl, gate, Xq, tz_const, tz_iload, tz_lload, tz_dload, tz_aload, tz_istore, tz_astore, tz_lstore, tz_dstore, tz_iinc, tz_i1, tz_i2, tz_i2z, tz_l2, tz_l2z, tz_i2l, tz_l2i, tz_lcmp, tz_i2d, tz_d2, tz_dcmp, tz_dup, tz_dup2, tz_pop, tz_if, tz_icmp, tz_null, tz_goto, tz_sw, tz_getf, tz_puti, tz_putz, tz_putr, tz_putl, tz_iaload, tz_baload, tz_laload, tz_aaload, tz_iastore, tz_bastore, tz_lastore, tz_aastore, tz_alen, tz_new, tz_newa, tz_oinit, tz_iret, tz_zret, tz_lret, tz_dret, tz_aret, tz_vret, tz_throw, tz_callS, tz_callV, tz_callI, tz_callR, tz_pureS, tz_pureV, tz_callVH, lg, lset, lkill, lst1, lst2, entL, isRf, is1, vl, va_rf_none, va_rf_some, isRf_rf, is1_rf, i0, i1, bI_eq0, bI_eq1, nm_em, nI_eqP, nI_leP, nI_ltP, nN_e1, nN_e2, nN_l1, nN_l2, nN_l3, nN_l4, nI_add, pk_mul, vp_inN, nI_cl, n01, n10, P_i, P_ii, P_iii, f_Mo_at, f_Mo_map, f_Mo_contact, f_Mo_within, f_Mo_isPort, f_Hp_endpoint, f_Hp_nodeOf, f_Hp_portOf, f_Ma_max, f_Ma_min, f_Hp_isSetting, popN, rok, a1, noX, swc, mL, if_true, if_false, ↓reduceIte, cond_true, cond_false, true_and, and_true, List.length_cons, List.length_nil, List.nil_append, List.cons_append, List.append_nil, Option.toList, Nat.reduceEqDiff, Bool.false_eq_true, reduceCtorEq, Nat.reduceAdd, Nat.reduceLT, Nat.reduceLeDiff, Nat.reduceSub, List.replicate, Nat.zero_add, Nat.lt_add_one, Nat.le_refl, Nat.zero_le, Nat.succ_ne_zero, not_false_eq_true, not_true_eq_false, false_implies, true_implies, forall_const, imp_self, true_or, or_true, eq_self, sI_zw, zw_zw, hI_zw, tg_zw, ln_zw, hR_zw, hL_zw, hN_zw, hM_zw, upd_s, upd_u, upd_ne, Classical.not_not, k_Hp_mixMapping, m0, n6]; try clear hgo9 hW9))
    refine c_Mp_property m i lt h _ m0 (by omega) ?_
    simp only [aft]
    (obtain ⟨W9, hW9, hgo9⟩ := wp_ex (T_Hp_mixMapping l G) [6] _; refine hgo9 200 _ _ _ _ ?_; simp -implicitDefEqProofs (disch := omega) only [hW9, inl, gate, Xq, tz_const, tz_iload, tz_lload, tz_dload, tz_aload, tz_istore, tz_astore, tz_lstore, tz_dstore, tz_iinc, tz_i1, tz_i2, tz_i2z, tz_l2, tz_l2z, tz_i2l, tz_l2i, tz_lcmp, tz_i2d, tz_d2, tz_dcmp, tz_dup, tz_dup2, tz_pop, tz_if, tz_icmp, tz_null, tz_goto, tz_sw, tz_getf, tz_puti, tz_putz, tz_putr, tz_putl, tz_iaload, tz_baload, tz_laload, tz_aaload, tz_iastore, tz_bastore, tz_lastore, tz_aastore, tz_alen, tz_new, tz_newa, tz_oinit, tz_iret, tz_zret, tz_lret, tz_dret, tz_aret, tz_vret, tz_throw, tz_callS, tz_callV, tz_callI, tz_callR, tz_pureS, tz_pureV, tz_callVH, lg, lset, lkill, lst1, lst2, entL, isRf, is1, vl, va_rf_none, va_rf_some, isRf_rf, is1_rf, i0, i1, bI_eq0, bI_eq1, nm_em, nI_eqP, nI_leP, nI_ltP, nN_e1, nN_e2, nN_l1, nN_l2, nN_l3, nN_l4, nI_add, pk_mul, vp_inN, nI_cl, n01, n10, P_i, P_ii, P_iii, f_Mo_at, f_Mo_map, f_Mo_contact, f_Mo_within, f_Mo_isPort, f_Hp_endpoint, f_Hp_nodeOf, f_Hp_portOf, f_Ma_max, f_Ma_min, f_Hp_isSetting, popN, rok, a1, noX, swc, mL, if_true, if_false, ↓reduceIte, cond_true, cond_false, true_and, and_true, List.length_cons, List.length_nil, List.nil_append, List.cons_append, List.append_nil, Option.toList, Nat.reduceEqDiff, Bool.false_eq_true, reduceCtorEq, Nat.reduceAdd, Nat.reduceLT, Nat.reduceLeDiff, Nat.reduceSub, List.replicate, Nat.zero_add, Nat.lt_add_one, Nat.le_refl, Nat.zero_le, Nat.succ_ne_zero, not_false_eq_true, not_true_eq_false, false_implies, true_implies, forall_const, imp_self, true_or, or_true, eq_self, sI_zw, zw_zw, hI_zw, tg_zw, ln_zw, hR_zw, hL_zw, hN_zw, hM_zw, upd_s, upd_u, upd_ne, Classical.not_not, k_Hp_mixMapping, m0]; try clear hgo9 hW9)
    exact ih (i + 1) (by omega)
theorem c_Hp_mixMapping (m : Nat) (lt : Int32) (x : Int64) (h : AH) (Q : Po) (m0 : tg h m = 0) (hQ : Q (.inl (some (.long (fld (fun w => ppF h m w lt) 7 x)))) h) : Call l G M_Hp_mixMapping [.long x, .ref m, .int lt] h Q := by
  refine call_of rfl rfl (Nat.le_of_ble_eq_true rfl) ?_
  (obtain ⟨W9, hW9, hgo9⟩ := wp_ex (T_Hp_mixMapping l G) [6] _; refine hgo9 200 _ _ _ _ ?_; simp -implicitDefEqProofs (disch := omega) only [hW9, inl, gate, Xq, tz_const, tz_iload, tz_lload, tz_dload, tz_aload, tz_istore, tz_astore, tz_lstore, tz_dstore, tz_iinc, tz_i1, tz_i2, tz_i2z, tz_l2, tz_l2z, tz_i2l, tz_l2i, tz_lcmp, tz_i2d, tz_d2, tz_dcmp, tz_dup, tz_dup2, tz_pop, tz_if, tz_icmp, tz_null, tz_goto, tz_sw, tz_getf, tz_puti, tz_putz, tz_putr, tz_putl, tz_iaload, tz_baload, tz_laload, tz_aaload, tz_iastore, tz_bastore, tz_lastore, tz_aastore, tz_alen, tz_new, tz_newa, tz_oinit, tz_iret, tz_zret, tz_lret, tz_dret, tz_aret, tz_vret, tz_throw, tz_callS, tz_callV, tz_callI, tz_callR, tz_pureS, tz_pureV, tz_callVH, lg, lset, lkill, lst1, lst2, entL, isRf, is1, vl, va_rf_none, va_rf_some, isRf_rf, is1_rf, i0, i1, bI_eq0, bI_eq1, nm_em, nI_eqP, nI_leP, nI_ltP, nN_e1, nN_e2, nN_l1, nN_l2, nN_l3, nN_l4, nI_add, pk_mul, vp_inN, nI_cl, n01, n10, P_i, P_ii, P_iii, f_Mo_at, f_Mo_map, f_Mo_contact, f_Mo_within, f_Mo_isPort, f_Hp_endpoint, f_Hp_nodeOf, f_Hp_portOf, f_Ma_max, f_Ma_min, f_Hp_isSetting, popN, rok, a1, noX, swc, mL, if_true, if_false, ↓reduceIte, cond_true, cond_false, true_and, and_true, List.length_cons, List.length_nil, List.nil_append, List.cons_append, List.append_nil, Option.toList, Nat.reduceEqDiff, Bool.false_eq_true, reduceCtorEq, Nat.reduceAdd, Nat.reduceLT, Nat.reduceLeDiff, Nat.reduceSub, List.replicate, Nat.zero_add, Nat.lt_add_one, Nat.le_refl, Nat.zero_le, Nat.succ_ne_zero, not_false_eq_true, not_true_eq_false, false_implies, true_implies, forall_const, imp_self, true_or, or_true, eq_self, sI_zw, zw_zw, hI_zw, tg_zw, ln_zw, hR_zw, hL_zw, hN_zw, hM_zw, upd_s, upd_u, upd_ne, Classical.not_not, k_Hp_mixMapping, m0]; try clear hgo9 hW9)
  exact lp_mm m0 hQ 7 0 rfl
theorem lp_mx1 {a t i : Nat} {x : Int64} {v : Option Value} {z : Nat → Int32} {h : AH} {Q : Po} (x6 : tg h a = 6) (t5 : tg h t = 5) (tv : TlV h t z i (own z i)) (ho : OwnOK z i) (htr : TrI z i) (hQ : AWp l G M_Hp_mixTranslator 35 [some (.ref a), some (.long x), none, some (.ref t), some (.long (fld (tpZ z i) 9 x)), none, some (.int (nI 9)), v] [] h Q) : ∀ (d j : Nat), j + d = 9 → AWp l G M_Hp_mixTranslator 6 [some (.ref a), some (.long x), none, some (.ref t), some (.long (fld (tpZ z i) j x)), none, some (.int (nI j)), v] [] h Q := by
  intro d
  induction d with
  | zero =>
    intro j e
    have ej : j = 9 := by omega
    subst ej
    (obtain ⟨W9, hW9, hgo9⟩ := wp_ex (T_Hp_mixTranslator l G) [6, 35] _; refine hgo9 200 _ _ _ _ ?_; simp -implicitDefEqProofs (disch := omega) only [hW9, inl, gate, Xq, tz_const, tz_iload, tz_lload, tz_dload, tz_aload, tz_istore, tz_astore, tz_lstore, tz_dstore, tz_iinc, tz_i1, tz_i2, tz_i2z, tz_l2, tz_l2z, tz_i2l, tz_l2i, tz_lcmp, tz_i2d, tz_d2, tz_dcmp, tz_dup, tz_dup2, tz_pop, tz_if, tz_icmp, tz_null, tz_goto, tz_sw, tz_getf, tz_puti, tz_putz, tz_putr, tz_putl, tz_iaload, tz_baload, tz_laload, tz_aaload, tz_iastore, tz_bastore, tz_lastore, tz_aastore, tz_alen, tz_new, tz_newa, tz_oinit, tz_iret, tz_zret, tz_lret, tz_dret, tz_aret, tz_vret, tz_throw, tz_callS, tz_callV, tz_callI, tz_callR, tz_pureS, tz_pureV, tz_callVH, lg, lset, lkill, lst1, lst2, entL, isRf, is1, vl, va_rf_none, va_rf_some, isRf_rf, is1_rf, i0, i1, bI_eq0, bI_eq1, nm_em, nI_eqP, nI_leP, nI_ltP, nN_e1, nN_e2, nN_l1, nN_l2, nN_l3, nN_l4, nI_add, pk_mul, vp_inN, nI_cl, n01, n10, P_i, P_ii, P_iii, f_Mo_at, f_Mo_map, f_Mo_contact, f_Mo_within, f_Mo_isPort, f_Hp_endpoint, f_Hp_nodeOf, f_Hp_portOf, f_Ma_max, f_Ma_min, f_Hp_isSetting, popN, rok, a1, noX, swc, mL, if_true, if_false, ↓reduceIte, cond_true, cond_false, true_and, and_true, List.length_cons, List.length_nil, List.nil_append, List.cons_append, List.append_nil, Option.toList, Nat.reduceEqDiff, Bool.false_eq_true, reduceCtorEq, Nat.reduceAdd, Nat.reduceLT, Nat.reduceLeDiff, Nat.reduceSub, List.replicate, Nat.zero_add, Nat.lt_add_one, Nat.le_refl, Nat.zero_le, Nat.succ_ne_zero, not_false_eq_true, not_true_eq_false, false_implies, true_implies, forall_const, imp_self, true_or, or_true, eq_self, sI_zw, zw_zw, hI_zw, tg_zw, ln_zw, hR_zw, hL_zw, hN_zw, hM_zw, upd_s, upd_u, upd_ne, Classical.not_not, k_Hp_mixTranslator, x6]; try clear hgo9 hW9)
    exact hQ
  | succ d ih =>
    intro j e
    have n8 : ¬ 8 < j := by omega
    ((obtain ⟨W9, hW9, hgo9⟩ := wp_ex (T_Hp_mixTranslator l G) [6, 35] _; refine hgo9 200 _ _ _ _ ?_; simp -implicitDefEqProofs (disch := omega) only [hW9, inl, gate, Xq, tz_const, tz_iload, tz_lload, tz_dload, tz_aload, tz_istore, tz_astore, tz_lstore, tz_dstore, tz_iinc, tz_i1, tz_i2, tz_i2z, tz_l2, tz_l2z, tz_i2l, tz_l2i, tz_lcmp, tz_i2d, tz_d2, tz_dcmp, tz_dup, tz_dup2, tz_pop, tz_if, tz_icmp, tz_null, tz_goto, tz_sw, tz_getf, tz_puti, tz_putz, tz_putr, tz_putl, tz_iaload, tz_baload, tz_laload, tz_aaload, tz_iastore, tz_bastore, tz_lastore, tz_aastore, tz_alen, tz_new, tz_newa, tz_oinit, tz_iret, tz_zret, tz_lret, tz_dret, tz_aret, tz_vret, tz_throw, tz_callS, tz_callV, tz_callI, tz_callR, tz_pureS, tz_pureV, tz_callVH, lg, lset, lkill, lst1, lst2, entL, isRf, is1, vl, va_rf_none, va_rf_some, isRf_rf, is1_rf, i0, i1, bI_eq0, bI_eq1, nm_em, nI_eqP, nI_leP, nI_ltP, nN_e1, nN_e2, nN_l1, nN_l2, nN_l3, nN_l4, nI_add, pk_mul, vp_inN, nI_cl, n01, n10, P_i, P_ii, P_iii, f_Mo_at, f_Mo_map, f_Mo_contact, f_Mo_within, f_Mo_isPort, f_Hp_endpoint, f_Hp_nodeOf, f_Hp_portOf, f_Ma_max, f_Ma_min, f_Hp_isSetting, popN, rok, a1, noX, swc, mL, if_true, if_false, ↓reduceIte, cond_true, cond_false, true_and, and_true, List.length_cons, List.length_nil, List.nil_append, List.cons_append, List.append_nil, Option.toList, Nat.reduceEqDiff, Bool.false_eq_true, reduceCtorEq, Nat.reduceAdd, Nat.reduceLT, Nat.reduceLeDiff, Nat.reduceSub, List.replicate, Nat.zero_add, Nat.lt_add_one, Nat.le_refl, Nat.zero_le, Nat.succ_ne_zero, not_false_eq_true, not_true_eq_false, false_implies, true_implies, forall_const, imp_self, true_or, or_true, eq_self, sI_zw, zw_zw, hI_zw, tg_zw, ln_zw, hR_zw, hL_zw, hN_zw, hM_zw, upd_s, upd_u, upd_ne, Classical.not_not, k_Hp_mixTranslator, x6, t5, n8]; try clear hgo9 hW9); try (obtain ⟨W9, hW9, hgo9⟩ := wp_ex (T_Hp_mixTranslator l G) [6, 35] _; refine hgo9 200 _ _ _ _ ?_; simp -implicitDefEqProofs (disch := omega) only [hW9, inl, gate, Xq, tz_const, tz_iload, tz_lload, tz_dload, tz_aload, tz_istore, tz_astore, tz_lstore, tz_dstore, tz_iinc, tz_i1, tz_i2, tz_i2z, tz_l2, tz_l2z, tz_i2l, tz_l2i, tz_lcmp, tz_i2d, tz_d2, tz_dcmp, tz_dup, tz_dup2, tz_pop, tz_if, tz_icmp, tz_null, tz_goto, tz_sw, tz_getf, tz_puti, tz_putz, tz_putr, tz_putl, tz_iaload, tz_baload, tz_laload, tz_aaload, tz_iastore, tz_bastore, tz_lastore, tz_aastore, tz_alen, tz_new, tz_newa, tz_oinit, tz_iret, tz_zret, tz_lret, tz_dret, tz_aret, tz_vret, tz_throw, tz_callS, tz_callV, tz_callI, tz_callR, tz_pureS, tz_pureV, tz_callVH, lg, lset, lkill, lst1, lst2, entL, isRf, is1, vl, va_rf_none, va_rf_some, isRf_rf, is1_rf, i0, i1, bI_eq0, bI_eq1, nm_em, nI_eqP, nI_leP, nI_ltP, nN_e1, nN_e2, nN_l1, nN_l2, nN_l3, nN_l4, nI_add, pk_mul, vp_inN, nI_cl, n01, n10, P_i, P_ii, P_iii, f_Mo_at, f_Mo_map, f_Mo_contact, f_Mo_within, f_Mo_isPort, f_Hp_endpoint, f_Hp_nodeOf, f_Hp_portOf, f_Ma_max, f_Ma_min, f_Hp_isSetting, popN, rok, a1, noX, swc, mL, if_true, if_false, ↓reduceIte, cond_true, cond_false, true_and, and_true, List.length_cons, List.length_nil, List.nil_append, List.cons_append, List.append_nil, Option.toList, Nat.reduceEqDiff, Bool.false_eq_true, reduceCtorEq, Nat.reduceAdd, Nat.reduceLT, Nat.reduceLeDiff, Nat.reduceSub, List.replicate, Nat.zero_add, Nat.lt_add_one, Nat.le_refl, Nat.zero_le, Nat.succ_ne_zero, not_false_eq_true, not_true_eq_false, false_implies, true_implies, forall_const, imp_self, true_or, or_true, eq_self, sI_zw, zw_zw, hI_zw, tg_zw, ln_zw, hR_zw, hL_zw, hN_zw, hM_zw, upd_s, upd_u, upd_ne, Classical.not_not, k_Hp_mixTranslator, x6, t5, n8]; try clear hgo9 hW9))
    refine c_Tl_property t i j z h _ t5 tv ho htr (by omega) ?_
    simp only [aft]
    (obtain ⟨W9, hW9, hgo9⟩ := wp_ex (T_Hp_mixTranslator l G) [6, 35] _; refine hgo9 200 _ _ _ _ ?_; simp -implicitDefEqProofs (disch := omega) only [hW9, inl, gate, Xq, tz_const, tz_iload, tz_lload, tz_dload, tz_aload, tz_istore, tz_astore, tz_lstore, tz_dstore, tz_iinc, tz_i1, tz_i2, tz_i2z, tz_l2, tz_l2z, tz_i2l, tz_l2i, tz_lcmp, tz_i2d, tz_d2, tz_dcmp, tz_dup, tz_dup2, tz_pop, tz_if, tz_icmp, tz_null, tz_goto, tz_sw, tz_getf, tz_puti, tz_putz, tz_putr, tz_putl, tz_iaload, tz_baload, tz_laload, tz_aaload, tz_iastore, tz_bastore, tz_lastore, tz_aastore, tz_alen, tz_new, tz_newa, tz_oinit, tz_iret, tz_zret, tz_lret, tz_dret, tz_aret, tz_vret, tz_throw, tz_callS, tz_callV, tz_callI, tz_callR, tz_pureS, tz_pureV, tz_callVH, lg, lset, lkill, lst1, lst2, entL, isRf, is1, vl, va_rf_none, va_rf_some, isRf_rf, is1_rf, i0, i1, bI_eq0, bI_eq1, nm_em, nI_eqP, nI_leP, nI_ltP, nN_e1, nN_e2, nN_l1, nN_l2, nN_l3, nN_l4, nI_add, pk_mul, vp_inN, nI_cl, n01, n10, P_i, P_ii, P_iii, f_Mo_at, f_Mo_map, f_Mo_contact, f_Mo_within, f_Mo_isPort, f_Hp_endpoint, f_Hp_nodeOf, f_Hp_portOf, f_Ma_max, f_Ma_min, f_Hp_isSetting, popN, rok, a1, noX, swc, mL, if_true, if_false, ↓reduceIte, cond_true, cond_false, true_and, and_true, List.length_cons, List.length_nil, List.nil_append, List.cons_append, List.append_nil, Option.toList, Nat.reduceEqDiff, Bool.false_eq_true, reduceCtorEq, Nat.reduceAdd, Nat.reduceLT, Nat.reduceLeDiff, Nat.reduceSub, List.replicate, Nat.zero_add, Nat.lt_add_one, Nat.le_refl, Nat.zero_le, Nat.succ_ne_zero, not_false_eq_true, not_true_eq_false, false_implies, true_implies, forall_const, imp_self, true_or, or_true, eq_self, sI_zw, zw_zw, hI_zw, tg_zw, ln_zw, hR_zw, hL_zw, hN_zw, hM_zw, upd_s, upd_u, upd_ne, Classical.not_not, k_Hp_mixTranslator, x6]; try clear hgo9 hW9)
    exact ih (j + 1) (by omega)
theorem lp_mx2 {wn a t i : Nat} {x y : Int64} {z : Nat → Int32} {h : AH} {Q : Po} (x6 : tg h a = 6) (x0 : hR h a 0 = wn) (w1 : tg h wn = 1) (w3 : hI h wn 3 = z 0) (m10 : mny z ≤ 10) (sh : ShT h wn i t) (tl : TlG h t z i (own z i) (own z i)) (tra : TraI z i) (hQ : Q (.inl (some (.long (fld (fun k => mpZ z i (k / 7) (k % 7)) (7 * own z i) x)))) h) : ∀ (d j : Nat) (v : Option Value), j + d = own z i → AWp l G M_Hp_mixTranslator 38 [some (.ref a), some (.long y), none, some (.ref t), some (.long (fld (fun k => mpZ z i (k / 7) (k % 7)) (7 * j) x)), none, some (.int (nI j)), v] [] h Q := by
  have t5 := sh.1.1
  have o8 := tra.1.2
  have t10 := tl.1.2.2
  intro d
  induction d with
  | zero =>
    intro j v e
    have ej : j = own z i := by omega
    subst ej
    ((obtain ⟨W9, hW9, hgo9⟩ := wp_ex (T_Hp_mixTranslator l G) [38] _; refine hgo9 200 _ _ _ _ ?_; simp -implicitDefEqProofs (disch := omega) only [hW9, inl, gate, Xq, tz_const, tz_iload, tz_lload, tz_dload, tz_aload, tz_istore, tz_astore, tz_lstore, tz_dstore, tz_iinc, tz_i1, tz_i2, tz_i2z, tz_l2, tz_l2z, tz_i2l, tz_l2i, tz_lcmp, tz_i2d, tz_d2, tz_dcmp, tz_dup, tz_dup2, tz_pop, tz_if, tz_icmp, tz_null, tz_goto, tz_sw, tz_getf, tz_puti, tz_putz, tz_putr, tz_putl, tz_iaload, tz_baload, tz_laload, tz_aaload, tz_iastore, tz_bastore, tz_lastore, tz_aastore, tz_alen, tz_new, tz_newa, tz_oinit, tz_iret, tz_zret, tz_lret, tz_dret, tz_aret, tz_vret, tz_throw, tz_callS, tz_callV, tz_callI, tz_callR, tz_pureS, tz_pureV, tz_callVH, lg, lset, lkill, lst1, lst2, entL, isRf, is1, vl, va_rf_none, va_rf_some, isRf_rf, is1_rf, i0, i1, bI_eq0, bI_eq1, nm_em, nI_eqP, nI_leP, nI_ltP, nN_e1, nN_e2, nN_l1, nN_l2, nN_l3, nN_l4, nI_add, pk_mul, vp_inN, nI_cl, n01, n10, P_i, P_ii, P_iii, f_Mo_at, f_Mo_map, f_Mo_contact, f_Mo_within, f_Mo_isPort, f_Hp_endpoint, f_Hp_nodeOf, f_Hp_portOf, f_Ma_max, f_Ma_min, f_Hp_isSetting, popN, rok, a1, noX, swc, mL, if_true, if_false, ↓reduceIte, cond_true, cond_false, true_and, and_true, List.length_cons, List.length_nil, List.nil_append, List.cons_append, List.append_nil, Option.toList, Nat.reduceEqDiff, Bool.false_eq_true, reduceCtorEq, Nat.reduceAdd, Nat.reduceLT, Nat.reduceLeDiff, Nat.reduceSub, List.replicate, Nat.zero_add, Nat.lt_add_one, Nat.le_refl, Nat.zero_le, Nat.succ_ne_zero, not_false_eq_true, not_true_eq_false, false_implies, true_implies, forall_const, imp_self, true_or, or_true, eq_self, sI_zw, zw_zw, hI_zw, tg_zw, ln_zw, hR_zw, hL_zw, hN_zw, hM_zw, upd_s, upd_u, upd_ne, Classical.not_not, k_Hp_mixTranslator, x6, t5, t10]; try clear hgo9 hW9); try (obtain ⟨W9, hW9, hgo9⟩ := wp_ex (T_Hp_mixTranslator l G) [38] _; refine hgo9 200 _ _ _ _ ?_; simp -implicitDefEqProofs (disch := omega) only [hW9, inl, gate, Xq, tz_const, tz_iload, tz_lload, tz_dload, tz_aload, tz_istore, tz_astore, tz_lstore, tz_dstore, tz_iinc, tz_i1, tz_i2, tz_i2z, tz_l2, tz_l2z, tz_i2l, tz_l2i, tz_lcmp, tz_i2d, tz_d2, tz_dcmp, tz_dup, tz_dup2, tz_pop, tz_if, tz_icmp, tz_null, tz_goto, tz_sw, tz_getf, tz_puti, tz_putz, tz_putr, tz_putl, tz_iaload, tz_baload, tz_laload, tz_aaload, tz_iastore, tz_bastore, tz_lastore, tz_aastore, tz_alen, tz_new, tz_newa, tz_oinit, tz_iret, tz_zret, tz_lret, tz_dret, tz_aret, tz_vret, tz_throw, tz_callS, tz_callV, tz_callI, tz_callR, tz_pureS, tz_pureV, tz_callVH, lg, lset, lkill, lst1, lst2, entL, isRf, is1, vl, va_rf_none, va_rf_some, isRf_rf, is1_rf, i0, i1, bI_eq0, bI_eq1, nm_em, nI_eqP, nI_leP, nI_ltP, nN_e1, nN_e2, nN_l1, nN_l2, nN_l3, nN_l4, nI_add, pk_mul, vp_inN, nI_cl, n01, n10, P_i, P_ii, P_iii, f_Mo_at, f_Mo_map, f_Mo_contact, f_Mo_within, f_Mo_isPort, f_Hp_endpoint, f_Hp_nodeOf, f_Hp_portOf, f_Ma_max, f_Ma_min, f_Hp_isSetting, popN, rok, a1, noX, swc, mL, if_true, if_false, ↓reduceIte, cond_true, cond_false, true_and, and_true, List.length_cons, List.length_nil, List.nil_append, List.cons_append, List.append_nil, Option.toList, Nat.reduceEqDiff, Bool.false_eq_true, reduceCtorEq, Nat.reduceAdd, Nat.reduceLT, Nat.reduceLeDiff, Nat.reduceSub, List.replicate, Nat.zero_add, Nat.lt_add_one, Nat.le_refl, Nat.zero_le, Nat.succ_ne_zero, not_false_eq_true, not_true_eq_false, false_implies, true_implies, forall_const, imp_self, true_or, or_true, eq_self, sI_zw, zw_zw, hI_zw, tg_zw, ln_zw, hR_zw, hL_zw, hN_zw, hM_zw, upd_s, upd_u, upd_ne, Classical.not_not, k_Hp_mixTranslator, x6, t5, t10]; try clear hgo9 hW9))
    exact hQ
  | succ d ih =>
    intro j v e
    have nj : ¬ own z i ≤ j := by omega
    obtain ⟨s1, s2⟩ := tl.slot (show j < own z i by omega)
    have sm := sh.2.2.2.1 j _ (by omega) s1
    have hPm : P_Tl_mappingAt [.ref t, .int (nI j)] h := sh.1
    have em : f_Tl_mappingAt [.ref t, .int (nI j)] h = .ref (mpO h t j) := by
      simp only [f_Tl_mappingAt, maF]
      rw [tl.1.2.2, if_pos ⟨by rw [nI_ltP (by omega) (by omega)]; omega, by rw [nI_leP (by omega) (by omega)]; omega, by rw [nI_leP (by omega) (by omega)]; omega⟩, nI_clamp (by omega), s1]
      rfl
    have m0 := sm.1
    have hPl : ∀ x, P_Tl_ticksLeft [.ref t, .ref (mpO h t j), .int x] h := fun _ => m0
    have el : f_Tl_ticksLeft [.ref t, .ref (mpO h t j), .int (z 0)] h = .int (livZ z i j) := by
      simp only [f_Tl_ticksLeft]
      rw [tl.1.1.2.2.2.2.1, s2.1.2.2.2.1]
      rfl
    ((obtain ⟨W9, hW9, hgo9⟩ := wp_ex (T_Hp_mixTranslator l G) [38] _; refine hgo9 200 _ _ _ _ ?_; simp -implicitDefEqProofs (disch := omega) only [hW9, inl, gate, Xq, tz_const, tz_iload, tz_lload, tz_dload, tz_aload, tz_istore, tz_astore, tz_lstore, tz_dstore, tz_iinc, tz_i1, tz_i2, tz_i2z, tz_l2, tz_l2z, tz_i2l, tz_l2i, tz_lcmp, tz_i2d, tz_d2, tz_dcmp, tz_dup, tz_dup2, tz_pop, tz_if, tz_icmp, tz_null, tz_goto, tz_sw, tz_getf, tz_puti, tz_putz, tz_putr, tz_putl, tz_iaload, tz_baload, tz_laload, tz_aaload, tz_iastore, tz_bastore, tz_lastore, tz_aastore, tz_alen, tz_new, tz_newa, tz_oinit, tz_iret, tz_zret, tz_lret, tz_dret, tz_aret, tz_vret, tz_throw, tz_callS, tz_callV, tz_callI, tz_callR, tz_pureS, tz_pureV, tz_callVH, lg, lset, lkill, lst1, lst2, entL, isRf, is1, vl, va_rf_none, va_rf_some, isRf_rf, is1_rf, i0, i1, bI_eq0, bI_eq1, nm_em, nI_eqP, nI_leP, nI_ltP, nN_e1, nN_e2, nN_l1, nN_l2, nN_l3, nN_l4, nI_add, pk_mul, vp_inN, nI_cl, n01, n10, P_i, P_ii, P_iii, f_Mo_at, f_Mo_map, f_Mo_contact, f_Mo_within, f_Mo_isPort, f_Hp_endpoint, f_Hp_nodeOf, f_Hp_portOf, f_Ma_max, f_Ma_min, f_Hp_isSetting, popN, rok, a1, noX, swc, mL, if_true, if_false, ↓reduceIte, cond_true, cond_false, true_and, and_true, List.length_cons, List.length_nil, List.nil_append, List.cons_append, List.append_nil, Option.toList, Nat.reduceEqDiff, Bool.false_eq_true, reduceCtorEq, Nat.reduceAdd, Nat.reduceLT, Nat.reduceLeDiff, Nat.reduceSub, List.replicate, Nat.zero_add, Nat.lt_add_one, Nat.le_refl, Nat.zero_le, Nat.succ_ne_zero, not_false_eq_true, not_true_eq_false, false_implies, true_implies, forall_const, imp_self, true_or, or_true, eq_self, sI_zw, zw_zw, hI_zw, tg_zw, ln_zw, hR_zw, hL_zw, hN_zw, hM_zw, upd_s, upd_u, upd_ne, Classical.not_not, k_Hp_mixTranslator, x6, x0, w1, w3, t5, t10, nj, hPm, em, m0, hPl, el]; try clear hgo9 hW9); try (obtain ⟨W9, hW9, hgo9⟩ := wp_ex (T_Hp_mixTranslator l G) [38] _; refine hgo9 200 _ _ _ _ ?_; simp -implicitDefEqProofs (disch := omega) only [hW9, inl, gate, Xq, tz_const, tz_iload, tz_lload, tz_dload, tz_aload, tz_istore, tz_astore, tz_lstore, tz_dstore, tz_iinc, tz_i1, tz_i2, tz_i2z, tz_l2, tz_l2z, tz_i2l, tz_l2i, tz_lcmp, tz_i2d, tz_d2, tz_dcmp, tz_dup, tz_dup2, tz_pop, tz_if, tz_icmp, tz_null, tz_goto, tz_sw, tz_getf, tz_puti, tz_putz, tz_putr, tz_putl, tz_iaload, tz_baload, tz_laload, tz_aaload, tz_iastore, tz_bastore, tz_lastore, tz_aastore, tz_alen, tz_new, tz_newa, tz_oinit, tz_iret, tz_zret, tz_lret, tz_dret, tz_aret, tz_vret, tz_throw, tz_callS, tz_callV, tz_callI, tz_callR, tz_pureS, tz_pureV, tz_callVH, lg, lset, lkill, lst1, lst2, entL, isRf, is1, vl, va_rf_none, va_rf_some, isRf_rf, is1_rf, i0, i1, bI_eq0, bI_eq1, nm_em, nI_eqP, nI_leP, nI_ltP, nN_e1, nN_e2, nN_l1, nN_l2, nN_l3, nN_l4, nI_add, pk_mul, vp_inN, nI_cl, n01, n10, P_i, P_ii, P_iii, f_Mo_at, f_Mo_map, f_Mo_contact, f_Mo_within, f_Mo_isPort, f_Hp_endpoint, f_Hp_nodeOf, f_Hp_portOf, f_Ma_max, f_Ma_min, f_Hp_isSetting, popN, rok, a1, noX, swc, mL, if_true, if_false, ↓reduceIte, cond_true, cond_false, true_and, and_true, List.length_cons, List.length_nil, List.nil_append, List.cons_append, List.append_nil, Option.toList, Nat.reduceEqDiff, Bool.false_eq_true, reduceCtorEq, Nat.reduceAdd, Nat.reduceLT, Nat.reduceLeDiff, Nat.reduceSub, List.replicate, Nat.zero_add, Nat.lt_add_one, Nat.le_refl, Nat.zero_le, Nat.succ_ne_zero, not_false_eq_true, not_true_eq_false, false_implies, true_implies, forall_const, imp_self, true_or, or_true, eq_self, sI_zw, zw_zw, hI_zw, tg_zw, ln_zw, hR_zw, hL_zw, hN_zw, hM_zw, upd_s, upd_u, upd_ne, Classical.not_not, k_Hp_mixTranslator, x6, x0, w1, w3, t5, t10, nj, hPm, em, m0, hPl, el]; try clear hgo9 hW9))
    refine c_Hp_mixMapping (mpO h t j) (livZ z i j) _ h _ m0 ?_
    simp only [aft]
    rw [fld_seven x (fun w hw => pp_ok s2 (tra.2.2.1 j (by omega)) tra.2.1.1 m10 hw)]
    (obtain ⟨W9, hW9, hgo9⟩ := wp_ex (T_Hp_mixTranslator l G) [38] _; refine hgo9 200 _ _ _ _ ?_; simp -implicitDefEqProofs (disch := omega) only [hW9, inl, gate, Xq, tz_const, tz_iload, tz_lload, tz_dload, tz_aload, tz_istore, tz_astore, tz_lstore, tz_dstore, tz_iinc, tz_i1, tz_i2, tz_i2z, tz_l2, tz_l2z, tz_i2l, tz_l2i, tz_lcmp, tz_i2d, tz_d2, tz_dcmp, tz_dup, tz_dup2, tz_pop, tz_if, tz_icmp, tz_null, tz_goto, tz_sw, tz_getf, tz_puti, tz_putz, tz_putr, tz_putl, tz_iaload, tz_baload, tz_laload, tz_aaload, tz_iastore, tz_bastore, tz_lastore, tz_aastore, tz_alen, tz_new, tz_newa, tz_oinit, tz_iret, tz_zret, tz_lret, tz_dret, tz_aret, tz_vret, tz_throw, tz_callS, tz_callV, tz_callI, tz_callR, tz_pureS, tz_pureV, tz_callVH, lg, lset, lkill, lst1, lst2, entL, isRf, is1, vl, va_rf_none, va_rf_some, isRf_rf, is1_rf, i0, i1, bI_eq0, bI_eq1, nm_em, nI_eqP, nI_leP, nI_ltP, nN_e1, nN_e2, nN_l1, nN_l2, nN_l3, nN_l4, nI_add, pk_mul, vp_inN, nI_cl, n01, n10, P_i, P_ii, P_iii, f_Mo_at, f_Mo_map, f_Mo_contact, f_Mo_within, f_Mo_isPort, f_Hp_endpoint, f_Hp_nodeOf, f_Hp_portOf, f_Ma_max, f_Ma_min, f_Hp_isSetting, popN, rok, a1, noX, swc, mL, if_true, if_false, ↓reduceIte, cond_true, cond_false, true_and, and_true, List.length_cons, List.length_nil, List.nil_append, List.cons_append, List.append_nil, Option.toList, Nat.reduceEqDiff, Bool.false_eq_true, reduceCtorEq, Nat.reduceAdd, Nat.reduceLT, Nat.reduceLeDiff, Nat.reduceSub, List.replicate, Nat.zero_add, Nat.lt_add_one, Nat.le_refl, Nat.zero_le, Nat.succ_ne_zero, not_false_eq_true, not_true_eq_false, false_implies, true_implies, forall_const, imp_self, true_or, or_true, eq_self, sI_zw, zw_zw, hI_zw, tg_zw, ln_zw, hR_zw, hL_zw, hN_zw, hM_zw, upd_s, upd_u, upd_ne, Classical.not_not, k_Hp_mixTranslator, x6]; try clear hgo9 hW9)
    exact ih (j + 1) _ (by omega)
theorem c_Hp_mixTranslator (A : Nat → Nat) (tt i : Nat) (x : Int64) (z zs t : Nat → Int32) (n : Nat) (h : AH) (Q : Po) (k : HpR h A z zs t n) (m10 : mny z ≤ 10) (sh : ShT h (A 1) i tt) (tl : TlG h tt z i (own z i) (own z i)) (tra : TraI z i) (hQ : Q (.inl (some (.long (fld (fun k => mpZ z i (k / 7) (k % 7)) (7 * own z i) (fld (tpZ z i) 9 x))))) h) : Call l G M_Hp_mixTranslator [.ref (A 0), .long x, .ref tt] h Q := by
  have x6 := k.1.1.1
  have x0 := k.1.2.1.1
  have w1 := k.2.1.1.1.1
  have w3 := k.2.1.2.1.2.1
  refine call_of rfl rfl (Nat.le_of_ble_eq_true rfl) ?_
  (obtain ⟨W9, hW9, hgo9⟩ := wp_ex (T_Hp_mixTranslator l G) [6] _; refine hgo9 200 _ _ _ _ ?_; simp -implicitDefEqProofs (disch := omega) only [hW9, inl, gate, Xq, tz_const, tz_iload, tz_lload, tz_dload, tz_aload, tz_istore, tz_astore, tz_lstore, tz_dstore, tz_iinc, tz_i1, tz_i2, tz_i2z, tz_l2, tz_l2z, tz_i2l, tz_l2i, tz_lcmp, tz_i2d, tz_d2, tz_dcmp, tz_dup, tz_dup2, tz_pop, tz_if, tz_icmp, tz_null, tz_goto, tz_sw, tz_getf, tz_puti, tz_putz, tz_putr, tz_putl, tz_iaload, tz_baload, tz_laload, tz_aaload, tz_iastore, tz_bastore, tz_lastore, tz_aastore, tz_alen, tz_new, tz_newa, tz_oinit, tz_iret, tz_zret, tz_lret, tz_dret, tz_aret, tz_vret, tz_throw, tz_callS, tz_callV, tz_callI, tz_callR, tz_pureS, tz_pureV, tz_callVH, lg, lset, lkill, lst1, lst2, entL, isRf, is1, vl, va_rf_none, va_rf_some, isRf_rf, is1_rf, i0, i1, bI_eq0, bI_eq1, nm_em, nI_eqP, nI_leP, nI_ltP, nN_e1, nN_e2, nN_l1, nN_l2, nN_l3, nN_l4, nI_add, pk_mul, vp_inN, nI_cl, n01, n10, P_i, P_ii, P_iii, f_Mo_at, f_Mo_map, f_Mo_contact, f_Mo_within, f_Mo_isPort, f_Hp_endpoint, f_Hp_nodeOf, f_Hp_portOf, f_Ma_max, f_Ma_min, f_Hp_isSetting, popN, rok, a1, noX, swc, mL, if_true, if_false, ↓reduceIte, cond_true, cond_false, true_and, and_true, List.length_cons, List.length_nil, List.nil_append, List.cons_append, List.append_nil, Option.toList, Nat.reduceEqDiff, Bool.false_eq_true, reduceCtorEq, Nat.reduceAdd, Nat.reduceLT, Nat.reduceLeDiff, Nat.reduceSub, List.replicate, Nat.zero_add, Nat.lt_add_one, Nat.le_refl, Nat.zero_le, Nat.succ_ne_zero, not_false_eq_true, not_true_eq_false, false_implies, true_implies, forall_const, imp_self, true_or, or_true, eq_self, sI_zw, zw_zw, hI_zw, tg_zw, ln_zw, hR_zw, hL_zw, hN_zw, hM_zw, upd_s, upd_u, upd_ne, Classical.not_not, k_Hp_mixTranslator, x6]; try clear hgo9 hW9)
  refine lp_mx1 (x := x) x6 sh.1.1 tl.1 tra.1 tra.2.1 ?_ 9 0 rfl
  (obtain ⟨W9, hW9, hgo9⟩ := wp_ex (T_Hp_mixTranslator l G) [38] _; refine hgo9 200 _ _ _ _ ?_; simp -implicitDefEqProofs (disch := omega) only [hW9, inl, gate, Xq, tz_const, tz_iload, tz_lload, tz_dload, tz_aload, tz_istore, tz_astore, tz_lstore, tz_dstore, tz_iinc, tz_i1, tz_i2, tz_i2z, tz_l2, tz_l2z, tz_i2l, tz_l2i, tz_lcmp, tz_i2d, tz_d2, tz_dcmp, tz_dup, tz_dup2, tz_pop, tz_if, tz_icmp, tz_null, tz_goto, tz_sw, tz_getf, tz_puti, tz_putz, tz_putr, tz_putl, tz_iaload, tz_baload, tz_laload, tz_aaload, tz_iastore, tz_bastore, tz_lastore, tz_aastore, tz_alen, tz_new, tz_newa, tz_oinit, tz_iret, tz_zret, tz_lret, tz_dret, tz_aret, tz_vret, tz_throw, tz_callS, tz_callV, tz_callI, tz_callR, tz_pureS, tz_pureV, tz_callVH, lg, lset, lkill, lst1, lst2, entL, isRf, is1, vl, va_rf_none, va_rf_some, isRf_rf, is1_rf, i0, i1, bI_eq0, bI_eq1, nm_em, nI_eqP, nI_leP, nI_ltP, nN_e1, nN_e2, nN_l1, nN_l2, nN_l3, nN_l4, nI_add, pk_mul, vp_inN, nI_cl, n01, n10, P_i, P_ii, P_iii, f_Mo_at, f_Mo_map, f_Mo_contact, f_Mo_within, f_Mo_isPort, f_Hp_endpoint, f_Hp_nodeOf, f_Hp_portOf, f_Ma_max, f_Ma_min, f_Hp_isSetting, popN, rok, a1, noX, swc, mL, if_true, if_false, ↓reduceIte, cond_true, cond_false, true_and, and_true, List.length_cons, List.length_nil, List.nil_append, List.cons_append, List.append_nil, Option.toList, Nat.reduceEqDiff, Bool.false_eq_true, reduceCtorEq, Nat.reduceAdd, Nat.reduceLT, Nat.reduceLeDiff, Nat.reduceSub, List.replicate, Nat.zero_add, Nat.lt_add_one, Nat.le_refl, Nat.zero_le, Nat.succ_ne_zero, not_false_eq_true, not_true_eq_false, false_implies, true_implies, forall_const, imp_self, true_or, or_true, eq_self, sI_zw, zw_zw, hI_zw, tg_zw, ln_zw, hR_zw, hL_zw, hN_zw, hM_zw, upd_s, upd_u, upd_ne, Classical.not_not, k_Hp_mixTranslator, x6]; try clear hgo9 hW9)
  exact lp_mx2 x6 x0 w1 w3 m10 sh tl tra hQ (own z i) 0 _ (by omega)
theorem lp_mn {A : Nat → Nat} {i : Nat} {x : Int64} {z zs t : Nat → Int32} {n : Nat} {h : AH} {Q : Po} (k : HpR h A z zs t n) (iv : Inv z) (hi : i < mny z) (hQ : AWp l G M_Hp_mixNode 39 [some (.ref (A 0)), some (.long x), none, some (.int (nI i)), some (.long (fld (npZ z i) 7 x)), none, some (.int (nI 7))] [] h Q) : ∀ (d j : Nat), j + d = 7 → AWp l G M_Hp_mixNode 6 [some (.ref (A 0)), some (.long x), none, some (.int (nI i)), some (.long (fld (npZ z i) j x)), none, some (.int (nI j))] [] h Q := by
  have x6 := k.1.1.1
  have x0 := k.1.2.1.1
  have w1 := k.2.1.1.1.1
  intro d
  induction d with
  | zero =>
    intro j e
    have ej : j = 7 := by omega
    subst ej
    (obtain ⟨W9, hW9, hgo9⟩ := wp_ex (T_Hp_mixNode l G) [6, 39] _; refine hgo9 200 _ _ _ _ ?_; simp -implicitDefEqProofs (disch := omega) only [hW9, inl, gate, Xq, tz_const, tz_iload, tz_lload, tz_dload, tz_aload, tz_istore, tz_astore, tz_lstore, tz_dstore, tz_iinc, tz_i1, tz_i2, tz_i2z, tz_l2, tz_l2z, tz_i2l, tz_l2i, tz_lcmp, tz_i2d, tz_d2, tz_dcmp, tz_dup, tz_dup2, tz_pop, tz_if, tz_icmp, tz_null, tz_goto, tz_sw, tz_getf, tz_puti, tz_putz, tz_putr, tz_putl, tz_iaload, tz_baload, tz_laload, tz_aaload, tz_iastore, tz_bastore, tz_lastore, tz_aastore, tz_alen, tz_new, tz_newa, tz_oinit, tz_iret, tz_zret, tz_lret, tz_dret, tz_aret, tz_vret, tz_throw, tz_callS, tz_callV, tz_callI, tz_callR, tz_pureS, tz_pureV, tz_callVH, lg, lset, lkill, lst1, lst2, entL, isRf, is1, vl, va_rf_none, va_rf_some, isRf_rf, is1_rf, i0, i1, bI_eq0, bI_eq1, nm_em, nI_eqP, nI_leP, nI_ltP, nN_e1, nN_e2, nN_l1, nN_l2, nN_l3, nN_l4, nI_add, pk_mul, vp_inN, nI_cl, n01, n10, P_i, P_ii, P_iii, f_Mo_at, f_Mo_map, f_Mo_contact, f_Mo_within, f_Mo_isPort, f_Hp_endpoint, f_Hp_nodeOf, f_Hp_portOf, f_Ma_max, f_Ma_min, f_Hp_isSetting, popN, rok, a1, noX, swc, mL, if_true, if_false, ↓reduceIte, cond_true, cond_false, true_and, and_true, List.length_cons, List.length_nil, List.nil_append, List.cons_append, List.append_nil, Option.toList, Nat.reduceEqDiff, Bool.false_eq_true, reduceCtorEq, Nat.reduceAdd, Nat.reduceLT, Nat.reduceLeDiff, Nat.reduceSub, List.replicate, Nat.zero_add, Nat.lt_add_one, Nat.le_refl, Nat.zero_le, Nat.succ_ne_zero, not_false_eq_true, not_true_eq_false, false_implies, true_implies, forall_const, imp_self, true_or, or_true, eq_self, sI_zw, zw_zw, hI_zw, tg_zw, ln_zw, hR_zw, hL_zw, hN_zw, hM_zw, upd_s, upd_u, upd_ne, Classical.not_not, k_Hp_mixNode, x6]; try clear hgo9 hW9)
    exact hQ
  | succ d ih =>
    intro j e
    have n6 : ¬ 6 < j := by omega
    ((obtain ⟨W9, hW9, hgo9⟩ := wp_ex (T_Hp_mixNode l G) [6, 39] _; refine hgo9 200 _ _ _ _ ?_; simp -implicitDefEqProofs (disch := omega) only [hW9, inl, gate, Xq, tz_const, tz_iload, tz_lload, tz_dload, tz_aload, tz_istore, tz_astore, tz_lstore, tz_dstore, tz_iinc, tz_i1, tz_i2, tz_i2z, tz_l2, tz_l2z, tz_i2l, tz_l2i, tz_lcmp, tz_i2d, tz_d2, tz_dcmp, tz_dup, tz_dup2, tz_pop, tz_if, tz_icmp, tz_null, tz_goto, tz_sw, tz_getf, tz_puti, tz_putz, tz_putr, tz_putl, tz_iaload, tz_baload, tz_laload, tz_aaload, tz_iastore, tz_bastore, tz_lastore, tz_aastore, tz_alen, tz_new, tz_newa, tz_oinit, tz_iret, tz_zret, tz_lret, tz_dret, tz_aret, tz_vret, tz_throw, tz_callS, tz_callV, tz_callI, tz_callR, tz_pureS, tz_pureV, tz_callVH, lg, lset, lkill, lst1, lst2, entL, isRf, is1, vl, va_rf_none, va_rf_some, isRf_rf, is1_rf, i0, i1, bI_eq0, bI_eq1, nm_em, nI_eqP, nI_leP, nI_ltP, nN_e1, nN_e2, nN_l1, nN_l2, nN_l3, nN_l4, nI_add, pk_mul, vp_inN, nI_cl, n01, n10, P_i, P_ii, P_iii, f_Mo_at, f_Mo_map, f_Mo_contact, f_Mo_within, f_Mo_isPort, f_Hp_endpoint, f_Hp_nodeOf, f_Hp_portOf, f_Ma_max, f_Ma_min, f_Hp_isSetting, popN, rok, a1, noX, swc, mL, if_true, if_false, ↓reduceIte, cond_true, cond_false, true_and, and_true, List.length_cons, List.length_nil, List.nil_append, List.cons_append, List.append_nil, Option.toList, Nat.reduceEqDiff, Bool.false_eq_true, reduceCtorEq, Nat.reduceAdd, Nat.reduceLT, Nat.reduceLeDiff, Nat.reduceSub, List.replicate, Nat.zero_add, Nat.lt_add_one, Nat.le_refl, Nat.zero_le, Nat.succ_ne_zero, not_false_eq_true, not_true_eq_false, false_implies, true_implies, forall_const, imp_self, true_or, or_true, eq_self, sI_zw, zw_zw, hI_zw, tg_zw, ln_zw, hR_zw, hL_zw, hN_zw, hM_zw, upd_s, upd_u, upd_ne, Classical.not_not, k_Hp_mixNode, x6, x0, w1, n6]; try clear hgo9 hW9); try (obtain ⟨W9, hW9, hgo9⟩ := wp_ex (T_Hp_mixNode l G) [6, 39] _; refine hgo9 200 _ _ _ _ ?_; simp -implicitDefEqProofs (disch := omega) only [hW9, inl, gate, Xq, tz_const, tz_iload, tz_lload, tz_dload, tz_aload, tz_istore, tz_astore, tz_lstore, tz_dstore, tz_iinc, tz_i1, tz_i2, tz_i2z, tz_l2, tz_l2z, tz_i2l, tz_l2i, tz_lcmp, tz_i2d, tz_d2, tz_dcmp, tz_dup, tz_dup2, tz_pop, tz_if, tz_icmp, tz_null, tz_goto, tz_sw, tz_getf, tz_puti, tz_putz, tz_putr, tz_putl, tz_iaload, tz_baload, tz_laload, tz_aaload, tz_iastore, tz_bastore, tz_lastore, tz_aastore, tz_alen, tz_new, tz_newa, tz_oinit, tz_iret, tz_zret, tz_lret, tz_dret, tz_aret, tz_vret, tz_throw, tz_callS, tz_callV, tz_callI, tz_callR, tz_pureS, tz_pureV, tz_callVH, lg, lset, lkill, lst1, lst2, entL, isRf, is1, vl, va_rf_none, va_rf_some, isRf_rf, is1_rf, i0, i1, bI_eq0, bI_eq1, nm_em, nI_eqP, nI_leP, nI_ltP, nN_e1, nN_e2, nN_l1, nN_l2, nN_l3, nN_l4, nI_add, pk_mul, vp_inN, nI_cl, n01, n10, P_i, P_ii, P_iii, f_Mo_at, f_Mo_map, f_Mo_contact, f_Mo_within, f_Mo_isPort, f_Hp_endpoint, f_Hp_nodeOf, f_Hp_portOf, f_Ma_max, f_Ma_min, f_Hp_isSetting, popN, rok, a1, noX, swc, mL, if_true, if_false, ↓reduceIte, cond_true, cond_false, true_and, and_true, List.length_cons, List.length_nil, List.nil_append, List.cons_append, List.append_nil, Option.toList, Nat.reduceEqDiff, Bool.false_eq_true, reduceCtorEq, Nat.reduceAdd, Nat.reduceLT, Nat.reduceLeDiff, Nat.reduceSub, List.replicate, Nat.zero_add, Nat.lt_add_one, Nat.le_refl, Nat.zero_le, Nat.succ_ne_zero, not_false_eq_true, not_true_eq_false, false_implies, true_implies, forall_const, imp_self, true_or, or_true, eq_self, sI_zw, zw_zw, hI_zw, tg_zw, ln_zw, hR_zw, hL_zw, hN_zw, hM_zw, upd_s, upd_u, upd_ne, Classical.not_not, k_Hp_mixNode, x6, x0, w1, n6]; try clear hgo9 hW9))
    refine c_Nw_nodeProperty (A 1) i j z h _ k.2.1 iv.1 hi (by omega) ?_
    simp only [aft]
    (obtain ⟨W9, hW9, hgo9⟩ := wp_ex (T_Hp_mixNode l G) [6, 39] _; refine hgo9 200 _ _ _ _ ?_; simp -implicitDefEqProofs (disch := omega) only [hW9, inl, gate, Xq, tz_const, tz_iload, tz_lload, tz_dload, tz_aload, tz_istore, tz_astore, tz_lstore, tz_dstore, tz_iinc, tz_i1, tz_i2, tz_i2z, tz_l2, tz_l2z, tz_i2l, tz_l2i, tz_lcmp, tz_i2d, tz_d2, tz_dcmp, tz_dup, tz_dup2, tz_pop, tz_if, tz_icmp, tz_null, tz_goto, tz_sw, tz_getf, tz_puti, tz_putz, tz_putr, tz_putl, tz_iaload, tz_baload, tz_laload, tz_aaload, tz_iastore, tz_bastore, tz_lastore, tz_aastore, tz_alen, tz_new, tz_newa, tz_oinit, tz_iret, tz_zret, tz_lret, tz_dret, tz_aret, tz_vret, tz_throw, tz_callS, tz_callV, tz_callI, tz_callR, tz_pureS, tz_pureV, tz_callVH, lg, lset, lkill, lst1, lst2, entL, isRf, is1, vl, va_rf_none, va_rf_some, isRf_rf, is1_rf, i0, i1, bI_eq0, bI_eq1, nm_em, nI_eqP, nI_leP, nI_ltP, nN_e1, nN_e2, nN_l1, nN_l2, nN_l3, nN_l4, nI_add, pk_mul, vp_inN, nI_cl, n01, n10, P_i, P_ii, P_iii, f_Mo_at, f_Mo_map, f_Mo_contact, f_Mo_within, f_Mo_isPort, f_Hp_endpoint, f_Hp_nodeOf, f_Hp_portOf, f_Ma_max, f_Ma_min, f_Hp_isSetting, popN, rok, a1, noX, swc, mL, if_true, if_false, ↓reduceIte, cond_true, cond_false, true_and, and_true, List.length_cons, List.length_nil, List.nil_append, List.cons_append, List.append_nil, Option.toList, Nat.reduceEqDiff, Bool.false_eq_true, reduceCtorEq, Nat.reduceAdd, Nat.reduceLT, Nat.reduceLeDiff, Nat.reduceSub, List.replicate, Nat.zero_add, Nat.lt_add_one, Nat.le_refl, Nat.zero_le, Nat.succ_ne_zero, not_false_eq_true, not_true_eq_false, false_implies, true_implies, forall_const, imp_self, true_or, or_true, eq_self, sI_zw, zw_zw, hI_zw, tg_zw, ln_zw, hR_zw, hL_zw, hN_zw, hM_zw, upd_s, upd_u, upd_ne, Classical.not_not, k_Hp_mixNode, x6]; try clear hgo9 hW9)
    exact ih (j + 1) (by omega)
theorem c_Hp_mixNode (A : Nat → Nat) (i : Nat) (x : Int64) (z zs t : Nat → Int32) (n : Nat) (h : AH) (Q : Po) (k : HpR h A z zs t n) (iv : Inv z) (hi : i < mny z) (hQ : Q (.inl (some (.long (if z (16 + 16 * i) = nI 1 then fld (fun k => mpZ z i (k / 7) (k % 7)) (7 * own z i) (fld (tpZ z i) 9 (fld (npZ z i) 7 x)) else fld (npZ z i) 7 x)))) h) : Call l G M_Hp_mixNode [.ref (A 0), .long x, .int (nI i)] h Q := by
  have x6 := k.1.1.1
  have x0 := k.1.2.1.1
  have w1 := k.2.1.1.1.1
  have m10 := iv.1.1.at.2
  have hPt : ∀ x, P_Nw_translatorAt [.ref (A 1), .int x] h := fun x => k.2.1.1.NdK x
  refine call_of rfl rfl (Nat.le_of_ble_eq_true rfl) ?_
  (obtain ⟨W9, hW9, hgo9⟩ := wp_ex (T_Hp_mixNode l G) [6] _; refine hgo9 200 _ _ _ _ ?_; simp -implicitDefEqProofs (disch := omega) only [hW9, inl, gate, Xq, tz_const, tz_iload, tz_lload, tz_dload, tz_aload, tz_istore, tz_astore, tz_lstore, tz_dstore, tz_iinc, tz_i1, tz_i2, tz_i2z, tz_l2, tz_l2z, tz_i2l, tz_l2i, tz_lcmp, tz_i2d, tz_d2, tz_dcmp, tz_dup, tz_dup2, tz_pop, tz_if, tz_icmp, tz_null, tz_goto, tz_sw, tz_getf, tz_puti, tz_putz, tz_putr, tz_putl, tz_iaload, tz_baload, tz_laload, tz_aaload, tz_iastore, tz_bastore, tz_lastore, tz_aastore, tz_alen, tz_new, tz_newa, tz_oinit, tz_iret, tz_zret, tz_lret, tz_dret, tz_aret, tz_vret, tz_throw, tz_callS, tz_callV, tz_callI, tz_callR, tz_pureS, tz_pureV, tz_callVH, lg, lset, lkill, lst1, lst2, entL, isRf, is1, vl, va_rf_none, va_rf_some, isRf_rf, is1_rf, i0, i1, bI_eq0, bI_eq1, nm_em, nI_eqP, nI_leP, nI_ltP, nN_e1, nN_e2, nN_l1, nN_l2, nN_l3, nN_l4, nI_add, pk_mul, vp_inN, nI_cl, n01, n10, P_i, P_ii, P_iii, f_Mo_at, f_Mo_map, f_Mo_contact, f_Mo_within, f_Mo_isPort, f_Hp_endpoint, f_Hp_nodeOf, f_Hp_portOf, f_Ma_max, f_Ma_min, f_Hp_isSetting, popN, rok, a1, noX, swc, mL, if_true, if_false, ↓reduceIte, cond_true, cond_false, true_and, and_true, List.length_cons, List.length_nil, List.nil_append, List.cons_append, List.append_nil, Option.toList, Nat.reduceEqDiff, Bool.false_eq_true, reduceCtorEq, Nat.reduceAdd, Nat.reduceLT, Nat.reduceLeDiff, Nat.reduceSub, List.replicate, Nat.zero_add, Nat.lt_add_one, Nat.le_refl, Nat.zero_le, Nat.succ_ne_zero, not_false_eq_true, not_true_eq_false, false_implies, true_implies, forall_const, imp_self, true_or, or_true, eq_self, sI_zw, zw_zw, hI_zw, tg_zw, ln_zw, hR_zw, hL_zw, hN_zw, hM_zw, upd_s, upd_u, upd_ne, Classical.not_not, k_Hp_mixNode, x6]; try clear hgo9 hW9)
  refine lp_mn (x := x) k iv hi ?_ 7 0 rfl
  rcases (iv.1.2.2.2 i hi).1.1 with q | q
  · obtain ⟨d', e1, -⟩ := k.2.1.ho m10 (i := i) hi q
    rw [if_neg (by rw [q]; decide)] at hQ
    ((obtain ⟨W9, hW9, hgo9⟩ := wp_ex (T_Hp_mixNode l G) [] _; refine hgo9 200 _ _ _ _ ?_; simp -implicitDefEqProofs (disch := omega) only [hW9, inl, gate, Xq, tz_const, tz_iload, tz_lload, tz_dload, tz_aload, tz_istore, tz_astore, tz_lstore, tz_dstore, tz_iinc, tz_i1, tz_i2, tz_i2z, tz_l2, tz_l2z, tz_i2l, tz_l2i, tz_lcmp, tz_i2d, tz_d2, tz_dcmp, tz_dup, tz_dup2, tz_pop, tz_if, tz_icmp, tz_null, tz_goto, tz_sw, tz_getf, tz_puti, tz_putz, tz_putr, tz_putl, tz_iaload, tz_baload, tz_laload, tz_aaload, tz_iastore, tz_bastore, tz_lastore, tz_aastore, tz_alen, tz_new, tz_newa, tz_oinit, tz_iret, tz_zret, tz_lret, tz_dret, tz_aret, tz_vret, tz_throw, tz_callS, tz_callV, tz_callI, tz_callR, tz_pureS, tz_pureV, tz_callVH, lg, lset, lkill, lst1, lst2, entL, isRf, is1, vl, va_rf_none, va_rf_some, isRf_rf, is1_rf, i0, i1, bI_eq0, bI_eq1, nm_em, nI_eqP, nI_leP, nI_ltP, nN_e1, nN_e2, nN_l1, nN_l2, nN_l3, nN_l4, nI_add, pk_mul, vp_inN, nI_cl, n01, n10, P_i, P_ii, P_iii, f_Mo_at, f_Mo_map, f_Mo_contact, f_Mo_within, f_Mo_isPort, f_Hp_endpoint, f_Hp_nodeOf, f_Hp_portOf, f_Ma_max, f_Ma_min, f_Hp_isSetting, popN, rok, a1, noX, swc, mL, if_true, if_false, ↓reduceIte, cond_true, cond_false, true_and, and_true, List.length_cons, List.length_nil, List.nil_append, List.cons_append, List.append_nil, Option.toList, Nat.reduceEqDiff, Bool.false_eq_true, reduceCtorEq, Nat.reduceAdd, Nat.reduceLT, Nat.reduceLeDiff, Nat.reduceSub, List.replicate, Nat.zero_add, Nat.lt_add_one, Nat.le_refl, Nat.zero_le, Nat.succ_ne_zero, not_false_eq_true, not_true_eq_false, false_implies, true_implies, forall_const, imp_self, true_or, or_true, eq_self, sI_zw, zw_zw, hI_zw, tg_zw, ln_zw, hR_zw, hL_zw, hN_zw, hM_zw, upd_s, upd_u, upd_ne, Classical.not_not, k_Hp_mixNode, x6, x0, w1, hPt, f_Nw_translatorAt, e1]; try clear hgo9 hW9); try (obtain ⟨W9, hW9, hgo9⟩ := wp_ex (T_Hp_mixNode l G) [] _; refine hgo9 200 _ _ _ _ ?_; simp -implicitDefEqProofs (disch := omega) only [hW9, inl, gate, Xq, tz_const, tz_iload, tz_lload, tz_dload, tz_aload, tz_istore, tz_astore, tz_lstore, tz_dstore, tz_iinc, tz_i1, tz_i2, tz_i2z, tz_l2, tz_l2z, tz_i2l, tz_l2i, tz_lcmp, tz_i2d, tz_d2, tz_dcmp, tz_dup, tz_dup2, tz_pop, tz_if, tz_icmp, tz_null, tz_goto, tz_sw, tz_getf, tz_puti, tz_putz, tz_putr, tz_putl, tz_iaload, tz_baload, tz_laload, tz_aaload, tz_iastore, tz_bastore, tz_lastore, tz_aastore, tz_alen, tz_new, tz_newa, tz_oinit, tz_iret, tz_zret, tz_lret, tz_dret, tz_aret, tz_vret, tz_throw, tz_callS, tz_callV, tz_callI, tz_callR, tz_pureS, tz_pureV, tz_callVH, lg, lset, lkill, lst1, lst2, entL, isRf, is1, vl, va_rf_none, va_rf_some, isRf_rf, is1_rf, i0, i1, bI_eq0, bI_eq1, nm_em, nI_eqP, nI_leP, nI_ltP, nN_e1, nN_e2, nN_l1, nN_l2, nN_l3, nN_l4, nI_add, pk_mul, vp_inN, nI_cl, n01, n10, P_i, P_ii, P_iii, f_Mo_at, f_Mo_map, f_Mo_contact, f_Mo_within, f_Mo_isPort, f_Hp_endpoint, f_Hp_nodeOf, f_Hp_portOf, f_Ma_max, f_Ma_min, f_Hp_isSetting, popN, rok, a1, noX, swc, mL, if_true, if_false, ↓reduceIte, cond_true, cond_false, true_and, and_true, List.length_cons, List.length_nil, List.nil_append, List.cons_append, List.append_nil, Option.toList, Nat.reduceEqDiff, Bool.false_eq_true, reduceCtorEq, Nat.reduceAdd, Nat.reduceLT, Nat.reduceLeDiff, Nat.reduceSub, List.replicate, Nat.zero_add, Nat.lt_add_one, Nat.le_refl, Nat.zero_le, Nat.succ_ne_zero, not_false_eq_true, not_true_eq_false, false_implies, true_implies, forall_const, imp_self, true_or, or_true, eq_self, sI_zw, zw_zw, hI_zw, tg_zw, ln_zw, hR_zw, hL_zw, hN_zw, hM_zw, upd_s, upd_u, upd_ne, Classical.not_not, k_Hp_mixNode, x6, x0, w1, hPt, f_Nw_translatorAt, e1]; try clear hgo9 hW9))
    exact hQ
  · obtain ⟨d', t', e1, -, -, -, -, -, sh, tl⟩ := k.2.1.tr m10 (i := i) hi q
    have t5 := sh.1.1
    rw [if_pos q] at hQ
    ((obtain ⟨W9, hW9, hgo9⟩ := wp_ex (T_Hp_mixNode l G) [] _; refine hgo9 200 _ _ _ _ ?_; simp -implicitDefEqProofs (disch := omega) only [hW9, inl, gate, Xq, tz_const, tz_iload, tz_lload, tz_dload, tz_aload, tz_istore, tz_astore, tz_lstore, tz_dstore, tz_iinc, tz_i1, tz_i2, tz_i2z, tz_l2, tz_l2z, tz_i2l, tz_l2i, tz_lcmp, tz_i2d, tz_d2, tz_dcmp, tz_dup, tz_dup2, tz_pop, tz_if, tz_icmp, tz_null, tz_goto, tz_sw, tz_getf, tz_puti, tz_putz, tz_putr, tz_putl, tz_iaload, tz_baload, tz_laload, tz_aaload, tz_iastore, tz_bastore, tz_lastore, tz_aastore, tz_alen, tz_new, tz_newa, tz_oinit, tz_iret, tz_zret, tz_lret, tz_dret, tz_aret, tz_vret, tz_throw, tz_callS, tz_callV, tz_callI, tz_callR, tz_pureS, tz_pureV, tz_callVH, lg, lset, lkill, lst1, lst2, entL, isRf, is1, vl, va_rf_none, va_rf_some, isRf_rf, is1_rf, i0, i1, bI_eq0, bI_eq1, nm_em, nI_eqP, nI_leP, nI_ltP, nN_e1, nN_e2, nN_l1, nN_l2, nN_l3, nN_l4, nI_add, pk_mul, vp_inN, nI_cl, n01, n10, P_i, P_ii, P_iii, f_Mo_at, f_Mo_map, f_Mo_contact, f_Mo_within, f_Mo_isPort, f_Hp_endpoint, f_Hp_nodeOf, f_Hp_portOf, f_Ma_max, f_Ma_min, f_Hp_isSetting, popN, rok, a1, noX, swc, mL, if_true, if_false, ↓reduceIte, cond_true, cond_false, true_and, and_true, List.length_cons, List.length_nil, List.nil_append, List.cons_append, List.append_nil, Option.toList, Nat.reduceEqDiff, Bool.false_eq_true, reduceCtorEq, Nat.reduceAdd, Nat.reduceLT, Nat.reduceLeDiff, Nat.reduceSub, List.replicate, Nat.zero_add, Nat.lt_add_one, Nat.le_refl, Nat.zero_le, Nat.succ_ne_zero, not_false_eq_true, not_true_eq_false, false_implies, true_implies, forall_const, imp_self, true_or, or_true, eq_self, sI_zw, zw_zw, hI_zw, tg_zw, ln_zw, hR_zw, hL_zw, hN_zw, hM_zw, upd_s, upd_u, upd_ne, Classical.not_not, k_Hp_mixNode, x6, x0, w1, hPt, f_Nw_translatorAt, e1, t5]; try clear hgo9 hW9); try (obtain ⟨W9, hW9, hgo9⟩ := wp_ex (T_Hp_mixNode l G) [] _; refine hgo9 200 _ _ _ _ ?_; simp -implicitDefEqProofs (disch := omega) only [hW9, inl, gate, Xq, tz_const, tz_iload, tz_lload, tz_dload, tz_aload, tz_istore, tz_astore, tz_lstore, tz_dstore, tz_iinc, tz_i1, tz_i2, tz_i2z, tz_l2, tz_l2z, tz_i2l, tz_l2i, tz_lcmp, tz_i2d, tz_d2, tz_dcmp, tz_dup, tz_dup2, tz_pop, tz_if, tz_icmp, tz_null, tz_goto, tz_sw, tz_getf, tz_puti, tz_putz, tz_putr, tz_putl, tz_iaload, tz_baload, tz_laload, tz_aaload, tz_iastore, tz_bastore, tz_lastore, tz_aastore, tz_alen, tz_new, tz_newa, tz_oinit, tz_iret, tz_zret, tz_lret, tz_dret, tz_aret, tz_vret, tz_throw, tz_callS, tz_callV, tz_callI, tz_callR, tz_pureS, tz_pureV, tz_callVH, lg, lset, lkill, lst1, lst2, entL, isRf, is1, vl, va_rf_none, va_rf_some, isRf_rf, is1_rf, i0, i1, bI_eq0, bI_eq1, nm_em, nI_eqP, nI_leP, nI_ltP, nN_e1, nN_e2, nN_l1, nN_l2, nN_l3, nN_l4, nI_add, pk_mul, vp_inN, nI_cl, n01, n10, P_i, P_ii, P_iii, f_Mo_at, f_Mo_map, f_Mo_contact, f_Mo_within, f_Mo_isPort, f_Hp_endpoint, f_Hp_nodeOf, f_Hp_portOf, f_Ma_max, f_Ma_min, f_Hp_isSetting, popN, rok, a1, noX, swc, mL, if_true, if_false, ↓reduceIte, cond_true, cond_false, true_and, and_true, List.length_cons, List.length_nil, List.nil_append, List.cons_append, List.append_nil, Option.toList, Nat.reduceEqDiff, Bool.false_eq_true, reduceCtorEq, Nat.reduceAdd, Nat.reduceLT, Nat.reduceLeDiff, Nat.reduceSub, List.replicate, Nat.zero_add, Nat.lt_add_one, Nat.le_refl, Nat.zero_le, Nat.succ_ne_zero, not_false_eq_true, not_true_eq_false, false_implies, true_implies, forall_const, imp_self, true_or, or_true, eq_self, sI_zw, zw_zw, hI_zw, tg_zw, ln_zw, hR_zw, hL_zw, hN_zw, hM_zw, upd_s, upd_u, upd_ne, Classical.not_not, k_Hp_mixNode, x6, x0, w1, hPt, f_Nw_translatorAt, e1, t5]; try clear hgo9 hW9))
    refine c_Hp_mixTranslator A t' i _ z zs t n h _ k m10 sh tl ((iv.1.2.2.2 i hi).2.2.2 q) ?_
    simp only [aft]
    (obtain ⟨W9, hW9, hgo9⟩ := wp_ex (T_Hp_mixNode l G) [] _; refine hgo9 200 _ _ _ _ ?_; simp -implicitDefEqProofs (disch := omega) only [hW9, inl, gate, Xq, tz_const, tz_iload, tz_lload, tz_dload, tz_aload, tz_istore, tz_astore, tz_lstore, tz_dstore, tz_iinc, tz_i1, tz_i2, tz_i2z, tz_l2, tz_l2z, tz_i2l, tz_l2i, tz_lcmp, tz_i2d, tz_d2, tz_dcmp, tz_dup, tz_dup2, tz_pop, tz_if, tz_icmp, tz_null, tz_goto, tz_sw, tz_getf, tz_puti, tz_putz, tz_putr, tz_putl, tz_iaload, tz_baload, tz_laload, tz_aaload, tz_iastore, tz_bastore, tz_lastore, tz_aastore, tz_alen, tz_new, tz_newa, tz_oinit, tz_iret, tz_zret, tz_lret, tz_dret, tz_aret, tz_vret, tz_throw, tz_callS, tz_callV, tz_callI, tz_callR, tz_pureS, tz_pureV, tz_callVH, lg, lset, lkill, lst1, lst2, entL, isRf, is1, vl, va_rf_none, va_rf_some, isRf_rf, is1_rf, i0, i1, bI_eq0, bI_eq1, nm_em, nI_eqP, nI_leP, nI_ltP, nN_e1, nN_e2, nN_l1, nN_l2, nN_l3, nN_l4, nI_add, pk_mul, vp_inN, nI_cl, n01, n10, P_i, P_ii, P_iii, f_Mo_at, f_Mo_map, f_Mo_contact, f_Mo_within, f_Mo_isPort, f_Hp_endpoint, f_Hp_nodeOf, f_Hp_portOf, f_Ma_max, f_Ma_min, f_Hp_isSetting, popN, rok, a1, noX, swc, mL, if_true, if_false, ↓reduceIte, cond_true, cond_false, true_and, and_true, List.length_cons, List.length_nil, List.nil_append, List.cons_append, List.append_nil, Option.toList, Nat.reduceEqDiff, Bool.false_eq_true, reduceCtorEq, Nat.reduceAdd, Nat.reduceLT, Nat.reduceLeDiff, Nat.reduceSub, List.replicate, Nat.zero_add, Nat.lt_add_one, Nat.le_refl, Nat.zero_le, Nat.succ_ne_zero, not_false_eq_true, not_true_eq_false, false_implies, true_implies, forall_const, imp_self, true_or, or_true, eq_self, sI_zw, zw_zw, hI_zw, tg_zw, ln_zw, hR_zw, hL_zw, hN_zw, hM_zw, upd_s, upd_u, upd_ne, Classical.not_not, k_Hp_mixNode, x6]; try clear hgo9 hW9)
    exact hQ
theorem lp_hd1 {A : Nat → Nat} {x : Int64} {z zs t : Nat → Int32} {n : Nat} {h : AH} {Q : Po} (k : HpR h A z zs t n) (iv : Inv z) (hQ : AWp l G M_Hp_digest 31 [some (.ref (A 0)), some (.long (fld (ctZ z (hI h (A 0) 6)) 12 x)), none, some (.int (nI 12))] [] h Q) : ∀ (d j : Nat), j + d = 12 → AWp l G M_Hp_digest 6 [some (.ref (A 0)), some (.long (fld (ctZ z (hI h (A 0) 6)) j x)), none, some (.int (nI j))] [] h Q := by
  have x6 := k.1.1.1
  intro d
  induction d with
  | zero =>
    intro j e
    have ej : j = 12 := by omega
    subst ej
    (obtain ⟨W9, hW9, hgo9⟩ := wp_ex (T_Hp_digest l G) [6, 31] _; refine hgo9 200 _ _ _ _ ?_; simp -implicitDefEqProofs (disch := omega) only [hW9, inl, gate, Xq, tz_const, tz_iload, tz_lload, tz_dload, tz_aload, tz_istore, tz_astore, tz_lstore, tz_dstore, tz_iinc, tz_i1, tz_i2, tz_i2z, tz_l2, tz_l2z, tz_i2l, tz_l2i, tz_lcmp, tz_i2d, tz_d2, tz_dcmp, tz_dup, tz_dup2, tz_pop, tz_if, tz_icmp, tz_null, tz_goto, tz_sw, tz_getf, tz_puti, tz_putz, tz_putr, tz_putl, tz_iaload, tz_baload, tz_laload, tz_aaload, tz_iastore, tz_bastore, tz_lastore, tz_aastore, tz_alen, tz_new, tz_newa, tz_oinit, tz_iret, tz_zret, tz_lret, tz_dret, tz_aret, tz_vret, tz_throw, tz_callS, tz_callV, tz_callI, tz_callR, tz_pureS, tz_pureV, tz_callVH, lg, lset, lkill, lst1, lst2, entL, isRf, is1, vl, va_rf_none, va_rf_some, isRf_rf, is1_rf, i0, i1, bI_eq0, bI_eq1, nm_em, nI_eqP, nI_leP, nI_ltP, nN_e1, nN_e2, nN_l1, nN_l2, nN_l3, nN_l4, nI_add, pk_mul, vp_inN, nI_cl, n01, n10, P_i, P_ii, P_iii, f_Mo_at, f_Mo_map, f_Mo_contact, f_Mo_within, f_Mo_isPort, f_Hp_endpoint, f_Hp_nodeOf, f_Hp_portOf, f_Ma_max, f_Ma_min, f_Hp_isSetting, popN, rok, a1, noX, swc, mL, if_true, if_false, ↓reduceIte, cond_true, cond_false, true_and, and_true, List.length_cons, List.length_nil, List.nil_append, List.cons_append, List.append_nil, Option.toList, Nat.reduceEqDiff, Bool.false_eq_true, reduceCtorEq, Nat.reduceAdd, Nat.reduceLT, Nat.reduceLeDiff, Nat.reduceSub, List.replicate, Nat.zero_add, Nat.lt_add_one, Nat.le_refl, Nat.zero_le, Nat.succ_ne_zero, not_false_eq_true, not_true_eq_false, false_implies, true_implies, forall_const, imp_self, true_or, or_true, eq_self, sI_zw, zw_zw, hI_zw, tg_zw, ln_zw, hR_zw, hL_zw, hN_zw, hM_zw, upd_s, upd_u, upd_ne, Classical.not_not, k_Hp_digest, x6]; try clear hgo9 hW9)
    exact hQ
  | succ d ih =>
    intro j e
    have n6 : ¬ 11 < j := by omega
    ((obtain ⟨W9, hW9, hgo9⟩ := wp_ex (T_Hp_digest l G) [6, 31] _; refine hgo9 200 _ _ _ _ ?_; simp -implicitDefEqProofs (disch := omega) only [hW9, inl, gate, Xq, tz_const, tz_iload, tz_lload, tz_dload, tz_aload, tz_istore, tz_astore, tz_lstore, tz_dstore, tz_iinc, tz_i1, tz_i2, tz_i2z, tz_l2, tz_l2z, tz_i2l, tz_l2i, tz_lcmp, tz_i2d, tz_d2, tz_dcmp, tz_dup, tz_dup2, tz_pop, tz_if, tz_icmp, tz_null, tz_goto, tz_sw, tz_getf, tz_puti, tz_putz, tz_putr, tz_putl, tz_iaload, tz_baload, tz_laload, tz_aaload, tz_iastore, tz_bastore, tz_lastore, tz_aastore, tz_alen, tz_new, tz_newa, tz_oinit, tz_iret, tz_zret, tz_lret, tz_dret, tz_aret, tz_vret, tz_throw, tz_callS, tz_callV, tz_callI, tz_callR, tz_pureS, tz_pureV, tz_callVH, lg, lset, lkill, lst1, lst2, entL, isRf, is1, vl, va_rf_none, va_rf_some, isRf_rf, is1_rf, i0, i1, bI_eq0, bI_eq1, nm_em, nI_eqP, nI_leP, nI_ltP, nN_e1, nN_e2, nN_l1, nN_l2, nN_l3, nN_l4, nI_add, pk_mul, vp_inN, nI_cl, n01, n10, P_i, P_ii, P_iii, f_Mo_at, f_Mo_map, f_Mo_contact, f_Mo_within, f_Mo_isPort, f_Hp_endpoint, f_Hp_nodeOf, f_Hp_portOf, f_Ma_max, f_Ma_min, f_Hp_isSetting, popN, rok, a1, noX, swc, mL, if_true, if_false, ↓reduceIte, cond_true, cond_false, true_and, and_true, List.length_cons, List.length_nil, List.nil_append, List.cons_append, List.append_nil, Option.toList, Nat.reduceEqDiff, Bool.false_eq_true, reduceCtorEq, Nat.reduceAdd, Nat.reduceLT, Nat.reduceLeDiff, Nat.reduceSub, List.replicate, Nat.zero_add, Nat.lt_add_one, Nat.le_refl, Nat.zero_le, Nat.succ_ne_zero, not_false_eq_true, not_true_eq_false, false_implies, true_implies, forall_const, imp_self, true_or, or_true, eq_self, sI_zw, zw_zw, hI_zw, tg_zw, ln_zw, hR_zw, hL_zw, hN_zw, hM_zw, upd_s, upd_u, upd_ne, Classical.not_not, k_Hp_digest, x6, n6]; try clear hgo9 hW9); try (obtain ⟨W9, hW9, hgo9⟩ := wp_ex (T_Hp_digest l G) [6, 31] _; refine hgo9 200 _ _ _ _ ?_; simp -implicitDefEqProofs (disch := omega) only [hW9, inl, gate, Xq, tz_const, tz_iload, tz_lload, tz_dload, tz_aload, tz_istore, tz_astore, tz_lstore, tz_dstore, tz_iinc, tz_i1, tz_i2, tz_i2z, tz_l2, tz_l2z, tz_i2l, tz_l2i, tz_lcmp, tz_i2d, tz_d2, tz_dcmp, tz_dup, tz_dup2, tz_pop, tz_if, tz_icmp, tz_null, tz_goto, tz_sw, tz_getf, tz_puti, tz_putz, tz_putr, tz_putl, tz_iaload, tz_baload, tz_laload, tz_aaload, tz_iastore, tz_bastore, tz_lastore, tz_aastore, tz_alen, tz_new, tz_newa, tz_oinit, tz_iret, tz_zret, tz_lret, tz_dret, tz_aret, tz_vret, tz_throw, tz_callS, tz_callV, tz_callI, tz_callR, tz_pureS, tz_pureV, tz_callVH, lg, lset, lkill, lst1, lst2, entL, isRf, is1, vl, va_rf_none, va_rf_some, isRf_rf, is1_rf, i0, i1, bI_eq0, bI_eq1, nm_em, nI_eqP, nI_leP, nI_ltP, nN_e1, nN_e2, nN_l1, nN_l2, nN_l3, nN_l4, nI_add, pk_mul, vp_inN, nI_cl, n01, n10, P_i, P_ii, P_iii, f_Mo_at, f_Mo_map, f_Mo_contact, f_Mo_within, f_Mo_isPort, f_Hp_endpoint, f_Hp_nodeOf, f_Hp_portOf, f_Ma_max, f_Ma_min, f_Hp_isSetting, popN, rok, a1, noX, swc, mL, if_true, if_false, ↓reduceIte, cond_true, cond_false, true_and, and_true, List.length_cons, List.length_nil, List.nil_append, List.cons_append, List.append_nil, Option.toList, Nat.reduceEqDiff, Bool.false_eq_true, reduceCtorEq, Nat.reduceAdd, Nat.reduceLT, Nat.reduceLeDiff, Nat.reduceSub, List.replicate, Nat.zero_add, Nat.lt_add_one, Nat.le_refl, Nat.zero_le, Nat.succ_ne_zero, not_false_eq_true, not_true_eq_false, false_implies, true_implies, forall_const, imp_self, true_or, or_true, eq_self, sI_zw, zw_zw, hI_zw, tg_zw, ln_zw, hR_zw, hL_zw, hN_zw, hM_zw, upd_s, upd_u, upd_ne, Classical.not_not, k_Hp_digest, x6, n6]; try clear hgo9 hW9))
    refine c_Hp_total A j z zs t n h _ k iv (by omega) ?_
    simp only [aft]
    (obtain ⟨W9, hW9, hgo9⟩ := wp_ex (T_Hp_digest l G) [6, 31] _; refine hgo9 200 _ _ _ _ ?_; simp -implicitDefEqProofs (disch := omega) only [hW9, inl, gate, Xq, tz_const, tz_iload, tz_lload, tz_dload, tz_aload, tz_istore, tz_astore, tz_lstore, tz_dstore, tz_iinc, tz_i1, tz_i2, tz_i2z, tz_l2, tz_l2z, tz_i2l, tz_l2i, tz_lcmp, tz_i2d, tz_d2, tz_dcmp, tz_dup, tz_dup2, tz_pop, tz_if, tz_icmp, tz_null, tz_goto, tz_sw, tz_getf, tz_puti, tz_putz, tz_putr, tz_putl, tz_iaload, tz_baload, tz_laload, tz_aaload, tz_iastore, tz_bastore, tz_lastore, tz_aastore, tz_alen, tz_new, tz_newa, tz_oinit, tz_iret, tz_zret, tz_lret, tz_dret, tz_aret, tz_vret, tz_throw, tz_callS, tz_callV, tz_callI, tz_callR, tz_pureS, tz_pureV, tz_callVH, lg, lset, lkill, lst1, lst2, entL, isRf, is1, vl, va_rf_none, va_rf_some, isRf_rf, is1_rf, i0, i1, bI_eq0, bI_eq1, nm_em, nI_eqP, nI_leP, nI_ltP, nN_e1, nN_e2, nN_l1, nN_l2, nN_l3, nN_l4, nI_add, pk_mul, vp_inN, nI_cl, n01, n10, P_i, P_ii, P_iii, f_Mo_at, f_Mo_map, f_Mo_contact, f_Mo_within, f_Mo_isPort, f_Hp_endpoint, f_Hp_nodeOf, f_Hp_portOf, f_Ma_max, f_Ma_min, f_Hp_isSetting, popN, rok, a1, noX, swc, mL, if_true, if_false, ↓reduceIte, cond_true, cond_false, true_and, and_true, List.length_cons, List.length_nil, List.nil_append, List.cons_append, List.append_nil, Option.toList, Nat.reduceEqDiff, Bool.false_eq_true, reduceCtorEq, Nat.reduceAdd, Nat.reduceLT, Nat.reduceLeDiff, Nat.reduceSub, List.replicate, Nat.zero_add, Nat.lt_add_one, Nat.le_refl, Nat.zero_le, Nat.succ_ne_zero, not_false_eq_true, not_true_eq_false, false_implies, true_implies, forall_const, imp_self, true_or, or_true, eq_self, sI_zw, zw_zw, hI_zw, tg_zw, ln_zw, hR_zw, hL_zw, hN_zw, hM_zw, upd_s, upd_u, upd_ne, Classical.not_not, k_Hp_digest, x6]; try clear hgo9 hW9)
    exact ih (j + 1) (by omega)
theorem lp_hd2 {A : Nat → Nat} {x : Int64} {z zs t : Nat → Int32} {n : Nat} {h : AH} {Q : Po} (k : HpR h A z zs t n) (iv : Inv z) (hQ : AWp l G M_Hp_digest 57 [some (.ref (A 0)), some (.long (dgN z (mny z) x)), none, some (.int (nI (mny z)))] [] h Q) : ∀ (d j : Nat), j + d = mny z → AWp l G M_Hp_digest 33 [some (.ref (A 0)), some (.long (dgN z j x)), none, some (.int (nI j))] [] h Q := by
  have x6 := k.1.1.1
  have x0 := k.1.2.1.1
  have w1 := k.2.1.1.1.1
  have w2 := k.2.1.2.1.1
  have m10 := iv.1.1.at.2
  intro d
  induction d with
  | zero =>
    intro j e
    have ej : j = mny z := by omega
    subst ej
    (obtain ⟨W9, hW9, hgo9⟩ := wp_ex (T_Hp_digest l G) [33, 57] _; refine hgo9 200 _ _ _ _ ?_; simp -implicitDefEqProofs (disch := omega) only [hW9, inl, gate, Xq, tz_const, tz_iload, tz_lload, tz_dload, tz_aload, tz_istore, tz_astore, tz_lstore, tz_dstore, tz_iinc, tz_i1, tz_i2, tz_i2z, tz_l2, tz_l2z, tz_i2l, tz_l2i, tz_lcmp, tz_i2d, tz_d2, tz_dcmp, tz_dup, tz_dup2, tz_pop, tz_if, tz_icmp, tz_null, tz_goto, tz_sw, tz_getf, tz_puti, tz_putz, tz_putr, tz_putl, tz_iaload, tz_baload, tz_laload, tz_aaload, tz_iastore, tz_bastore, tz_lastore, tz_aastore, tz_alen, tz_new, tz_newa, tz_oinit, tz_iret, tz_zret, tz_lret, tz_dret, tz_aret, tz_vret, tz_throw, tz_callS, tz_callV, tz_callI, tz_callR, tz_pureS, tz_pureV, tz_callVH, lg, lset, lkill, lst1, lst2, entL, isRf, is1, vl, va_rf_none, va_rf_some, isRf_rf, is1_rf, i0, i1, bI_eq0, bI_eq1, nm_em, nI_eqP, nI_leP, nI_ltP, nN_e1, nN_e2, nN_l1, nN_l2, nN_l3, nN_l4, nI_add, pk_mul, vp_inN, nI_cl, n01, n10, P_i, P_ii, P_iii, f_Mo_at, f_Mo_map, f_Mo_contact, f_Mo_within, f_Mo_isPort, f_Hp_endpoint, f_Hp_nodeOf, f_Hp_portOf, f_Ma_max, f_Ma_min, f_Hp_isSetting, popN, rok, a1, noX, swc, mL, if_true, if_false, ↓reduceIte, cond_true, cond_false, true_and, and_true, List.length_cons, List.length_nil, List.nil_append, List.cons_append, List.append_nil, Option.toList, Nat.reduceEqDiff, Bool.false_eq_true, reduceCtorEq, Nat.reduceAdd, Nat.reduceLT, Nat.reduceLeDiff, Nat.reduceSub, List.replicate, Nat.zero_add, Nat.lt_add_one, Nat.le_refl, Nat.zero_le, Nat.succ_ne_zero, not_false_eq_true, not_true_eq_false, false_implies, true_implies, forall_const, imp_self, true_or, or_true, eq_self, sI_zw, zw_zw, hI_zw, tg_zw, ln_zw, hR_zw, hL_zw, hN_zw, hM_zw, upd_s, upd_u, upd_ne, Classical.not_not, k_Hp_digest, x6, x0, w1, w2]; try clear hgo9 hW9)
    exact hQ
  | succ d ih =>
    intro j e
    have nj : ¬ mny z ≤ j := by omega
    ((obtain ⟨W9, hW9, hgo9⟩ := wp_ex (T_Hp_digest l G) [33, 57] _; refine hgo9 200 _ _ _ _ ?_; simp -implicitDefEqProofs (disch := omega) only [hW9, inl, gate, Xq, tz_const, tz_iload, tz_lload, tz_dload, tz_aload, tz_istore, tz_astore, tz_lstore, tz_dstore, tz_iinc, tz_i1, tz_i2, tz_i2z, tz_l2, tz_l2z, tz_i2l, tz_l2i, tz_lcmp, tz_i2d, tz_d2, tz_dcmp, tz_dup, tz_dup2, tz_pop, tz_if, tz_icmp, tz_null, tz_goto, tz_sw, tz_getf, tz_puti, tz_putz, tz_putr, tz_putl, tz_iaload, tz_baload, tz_laload, tz_aaload, tz_iastore, tz_bastore, tz_lastore, tz_aastore, tz_alen, tz_new, tz_newa, tz_oinit, tz_iret, tz_zret, tz_lret, tz_dret, tz_aret, tz_vret, tz_throw, tz_callS, tz_callV, tz_callI, tz_callR, tz_pureS, tz_pureV, tz_callVH, lg, lset, lkill, lst1, lst2, entL, isRf, is1, vl, va_rf_none, va_rf_some, isRf_rf, is1_rf, i0, i1, bI_eq0, bI_eq1, nm_em, nI_eqP, nI_leP, nI_ltP, nN_e1, nN_e2, nN_l1, nN_l2, nN_l3, nN_l4, nI_add, pk_mul, vp_inN, nI_cl, n01, n10, P_i, P_ii, P_iii, f_Mo_at, f_Mo_map, f_Mo_contact, f_Mo_within, f_Mo_isPort, f_Hp_endpoint, f_Hp_nodeOf, f_Hp_portOf, f_Ma_max, f_Ma_min, f_Hp_isSetting, popN, rok, a1, noX, swc, mL, if_true, if_false, ↓reduceIte, cond_true, cond_false, true_and, and_true, List.length_cons, List.length_nil, List.nil_append, List.cons_append, List.append_nil, Option.toList, Nat.reduceEqDiff, Bool.false_eq_true, reduceCtorEq, Nat.reduceAdd, Nat.reduceLT, Nat.reduceLeDiff, Nat.reduceSub, List.replicate, Nat.zero_add, Nat.lt_add_one, Nat.le_refl, Nat.zero_le, Nat.succ_ne_zero, not_false_eq_true, not_true_eq_false, false_implies, true_implies, forall_const, imp_self, true_or, or_true, eq_self, sI_zw, zw_zw, hI_zw, tg_zw, ln_zw, hR_zw, hL_zw, hN_zw, hM_zw, upd_s, upd_u, upd_ne, Classical.not_not, k_Hp_digest, x6, x0, w1, w2, nj]; try clear hgo9 hW9); try (obtain ⟨W9, hW9, hgo9⟩ := wp_ex (T_Hp_digest l G) [33, 57] _; refine hgo9 200 _ _ _ _ ?_; simp -implicitDefEqProofs (disch := omega) only [hW9, inl, gate, Xq, tz_const, tz_iload, tz_lload, tz_dload, tz_aload, tz_istore, tz_astore, tz_lstore, tz_dstore, tz_iinc, tz_i1, tz_i2, tz_i2z, tz_l2, tz_l2z, tz_i2l, tz_l2i, tz_lcmp, tz_i2d, tz_d2, tz_dcmp, tz_dup, tz_dup2, tz_pop, tz_if, tz_icmp, tz_null, tz_goto, tz_sw, tz_getf, tz_puti, tz_putz, tz_putr, tz_putl, tz_iaload, tz_baload, tz_laload, tz_aaload, tz_iastore, tz_bastore, tz_lastore, tz_aastore, tz_alen, tz_new, tz_newa, tz_oinit, tz_iret, tz_zret, tz_lret, tz_dret, tz_aret, tz_vret, tz_throw, tz_callS, tz_callV, tz_callI, tz_callR, tz_pureS, tz_pureV, tz_callVH, lg, lset, lkill, lst1, lst2, entL, isRf, is1, vl, va_rf_none, va_rf_some, isRf_rf, is1_rf, i0, i1, bI_eq0, bI_eq1, nm_em, nI_eqP, nI_leP, nI_ltP, nN_e1, nN_e2, nN_l1, nN_l2, nN_l3, nN_l4, nI_add, pk_mul, vp_inN, nI_cl, n01, n10, P_i, P_ii, P_iii, f_Mo_at, f_Mo_map, f_Mo_contact, f_Mo_within, f_Mo_isPort, f_Hp_endpoint, f_Hp_nodeOf, f_Hp_portOf, f_Ma_max, f_Ma_min, f_Hp_isSetting, popN, rok, a1, noX, swc, mL, if_true, if_false, ↓reduceIte, cond_true, cond_false, true_and, and_true, List.length_cons, List.length_nil, List.nil_append, List.cons_append, List.append_nil, Option.toList, Nat.reduceEqDiff, Bool.false_eq_true, reduceCtorEq, Nat.reduceAdd, Nat.reduceLT, Nat.reduceLeDiff, Nat.reduceSub, List.replicate, Nat.zero_add, Nat.lt_add_one, Nat.le_refl, Nat.zero_le, Nat.succ_ne_zero, not_false_eq_true, not_true_eq_false, false_implies, true_implies, forall_const, imp_self, true_or, or_true, eq_self, sI_zw, zw_zw, hI_zw, tg_zw, ln_zw, hR_zw, hL_zw, hN_zw, hM_zw, upd_s, upd_u, upd_ne, Classical.not_not, k_Hp_digest, x6, x0, w1, w2, nj]; try clear hgo9 hW9))
    refine c_Hp_mixNode A j _ z zs t n h _ k iv (by omega) ?_
    simp only [aft]
    (obtain ⟨W9, hW9, hgo9⟩ := wp_ex (T_Hp_digest l G) [33, 57] _; refine hgo9 200 _ _ _ _ ?_; simp -implicitDefEqProofs (disch := omega) only [hW9, inl, gate, Xq, tz_const, tz_iload, tz_lload, tz_dload, tz_aload, tz_istore, tz_astore, tz_lstore, tz_dstore, tz_iinc, tz_i1, tz_i2, tz_i2z, tz_l2, tz_l2z, tz_i2l, tz_l2i, tz_lcmp, tz_i2d, tz_d2, tz_dcmp, tz_dup, tz_dup2, tz_pop, tz_if, tz_icmp, tz_null, tz_goto, tz_sw, tz_getf, tz_puti, tz_putz, tz_putr, tz_putl, tz_iaload, tz_baload, tz_laload, tz_aaload, tz_iastore, tz_bastore, tz_lastore, tz_aastore, tz_alen, tz_new, tz_newa, tz_oinit, tz_iret, tz_zret, tz_lret, tz_dret, tz_aret, tz_vret, tz_throw, tz_callS, tz_callV, tz_callI, tz_callR, tz_pureS, tz_pureV, tz_callVH, lg, lset, lkill, lst1, lst2, entL, isRf, is1, vl, va_rf_none, va_rf_some, isRf_rf, is1_rf, i0, i1, bI_eq0, bI_eq1, nm_em, nI_eqP, nI_leP, nI_ltP, nN_e1, nN_e2, nN_l1, nN_l2, nN_l3, nN_l4, nI_add, pk_mul, vp_inN, nI_cl, n01, n10, P_i, P_ii, P_iii, f_Mo_at, f_Mo_map, f_Mo_contact, f_Mo_within, f_Mo_isPort, f_Hp_endpoint, f_Hp_nodeOf, f_Hp_portOf, f_Ma_max, f_Ma_min, f_Hp_isSetting, popN, rok, a1, noX, swc, mL, if_true, if_false, ↓reduceIte, cond_true, cond_false, true_and, and_true, List.length_cons, List.length_nil, List.nil_append, List.cons_append, List.append_nil, Option.toList, Nat.reduceEqDiff, Bool.false_eq_true, reduceCtorEq, Nat.reduceAdd, Nat.reduceLT, Nat.reduceLeDiff, Nat.reduceSub, List.replicate, Nat.zero_add, Nat.lt_add_one, Nat.le_refl, Nat.zero_le, Nat.succ_ne_zero, not_false_eq_true, not_true_eq_false, false_implies, true_implies, forall_const, imp_self, true_or, or_true, eq_self, sI_zw, zw_zw, hI_zw, tg_zw, ln_zw, hR_zw, hL_zw, hN_zw, hM_zw, upd_s, upd_u, upd_ne, Classical.not_not, k_Hp_digest, x6]; try clear hgo9 hW9)
    exact ih (j + 1) (by omega)
theorem lp_hd3 {A : Nat → Nat} {x : Int64} {z zs t : Nat → Int32} {n : Nat} {h : AH} {Q : Po} (k : HpR h A z zs t n) (hQ : Q (.inl (some (.long (fld t n x)))) h) : ∀ (d j : Nat), j + d = n → AWp l G M_Hp_digest 71 [some (.ref (A 0)), some (.long (fld t j x)), none, some (.int (nI j))] [] h Q := by
  have x6 := k.1.1.1
  have x5 := k.2.2.2.2.2.2.2.1
  have n40 := k.2.2.2.2.2.2.2.2.1
  have tk := k.2.2.2.2.2.2.2.2.2
  have a4 := k.1.2.1.2.2.2.2
  obtain ⟨b1, b2, -⟩ := k.1.2.2.1
  intro d
  induction d with
  | zero =>
    intro j e
    have ej : j = n := by omega
    subst ej
    ((obtain ⟨W9, hW9, hgo9⟩ := wp_ex (T_Hp_digest l G) [71] _; refine hgo9 200 _ _ _ _ ?_; simp -implicitDefEqProofs (disch := omega) only [hW9, inl, gate, Xq, tz_const, tz_iload, tz_lload, tz_dload, tz_aload, tz_istore, tz_astore, tz_lstore, tz_dstore, tz_iinc, tz_i1, tz_i2, tz_i2z, tz_l2, tz_l2z, tz_i2l, tz_l2i, tz_lcmp, tz_i2d, tz_d2, tz_dcmp, tz_dup, tz_dup2, tz_pop, tz_if, tz_icmp, tz_null, tz_goto, tz_sw, tz_getf, tz_puti, tz_putz, tz_putr, tz_putl, tz_iaload, tz_baload, tz_laload, tz_aaload, tz_iastore, tz_bastore, tz_lastore, tz_aastore, tz_alen, tz_new, tz_newa, tz_oinit, tz_iret, tz_zret, tz_lret, tz_dret, tz_aret, tz_vret, tz_throw, tz_callS, tz_callV, tz_callI, tz_callR, tz_pureS, tz_pureV, tz_callVH, lg, lset, lkill, lst1, lst2, entL, isRf, is1, vl, va_rf_none, va_rf_some, isRf_rf, is1_rf, i0, i1, bI_eq0, bI_eq1, nm_em, nI_eqP, nI_leP, nI_ltP, nN_e1, nN_e2, nN_l1, nN_l2, nN_l3, nN_l4, nI_add, pk_mul, vp_inN, nI_cl, n01, n10, P_i, P_ii, P_iii, f_Mo_at, f_Mo_map, f_Mo_contact, f_Mo_within, f_Mo_isPort, f_Hp_endpoint, f_Hp_nodeOf, f_Hp_portOf, f_Ma_max, f_Ma_min, f_Hp_isSetting, popN, rok, a1, noX, swc, mL, if_true, if_false, ↓reduceIte, cond_true, cond_false, true_and, and_true, List.length_cons, List.length_nil, List.nil_append, List.cons_append, List.append_nil, Option.toList, Nat.reduceEqDiff, Bool.false_eq_true, reduceCtorEq, Nat.reduceAdd, Nat.reduceLT, Nat.reduceLeDiff, Nat.reduceSub, List.replicate, Nat.zero_add, Nat.lt_add_one, Nat.le_refl, Nat.zero_le, Nat.succ_ne_zero, not_false_eq_true, not_true_eq_false, false_implies, true_implies, forall_const, imp_self, true_or, or_true, eq_self, sI_zw, zw_zw, hI_zw, tg_zw, ln_zw, hR_zw, hL_zw, hN_zw, hM_zw, upd_s, upd_u, upd_ne, Classical.not_not, k_Hp_digest, x6, x5]; try clear hgo9 hW9); try (obtain ⟨W9, hW9, hgo9⟩ := wp_ex (T_Hp_digest l G) [71] _; refine hgo9 200 _ _ _ _ ?_; simp -implicitDefEqProofs (disch := omega) only [hW9, inl, gate, Xq, tz_const, tz_iload, tz_lload, tz_dload, tz_aload, tz_istore, tz_astore, tz_lstore, tz_dstore, tz_iinc, tz_i1, tz_i2, tz_i2z, tz_l2, tz_l2z, tz_i2l, tz_l2i, tz_lcmp, tz_i2d, tz_d2, tz_dcmp, tz_dup, tz_dup2, tz_pop, tz_if, tz_icmp, tz_null, tz_goto, tz_sw, tz_getf, tz_puti, tz_putz, tz_putr, tz_putl, tz_iaload, tz_baload, tz_laload, tz_aaload, tz_iastore, tz_bastore, tz_lastore, tz_aastore, tz_alen, tz_new, tz_newa, tz_oinit, tz_iret, tz_zret, tz_lret, tz_dret, tz_aret, tz_vret, tz_throw, tz_callS, tz_callV, tz_callI, tz_callR, tz_pureS, tz_pureV, tz_callVH, lg, lset, lkill, lst1, lst2, entL, isRf, is1, vl, va_rf_none, va_rf_some, isRf_rf, is1_rf, i0, i1, bI_eq0, bI_eq1, nm_em, nI_eqP, nI_leP, nI_ltP, nN_e1, nN_e2, nN_l1, nN_l2, nN_l3, nN_l4, nI_add, pk_mul, vp_inN, nI_cl, n01, n10, P_i, P_ii, P_iii, f_Mo_at, f_Mo_map, f_Mo_contact, f_Mo_within, f_Mo_isPort, f_Hp_endpoint, f_Hp_nodeOf, f_Hp_portOf, f_Ma_max, f_Ma_min, f_Hp_isSetting, popN, rok, a1, noX, swc, mL, if_true, if_false, ↓reduceIte, cond_true, cond_false, true_and, and_true, List.length_cons, List.length_nil, List.nil_append, List.cons_append, List.append_nil, Option.toList, Nat.reduceEqDiff, Bool.false_eq_true, reduceCtorEq, Nat.reduceAdd, Nat.reduceLT, Nat.reduceLeDiff, Nat.reduceSub, List.replicate, Nat.zero_add, Nat.lt_add_one, Nat.le_refl, Nat.zero_le, Nat.succ_ne_zero, not_false_eq_true, not_true_eq_false, false_implies, true_implies, forall_const, imp_self, true_or, or_true, eq_self, sI_zw, zw_zw, hI_zw, tg_zw, ln_zw, hR_zw, hL_zw, hN_zw, hM_zw, upd_s, upd_u, upd_ne, Classical.not_not, k_Hp_digest, x6, x5]; try clear hgo9 hW9))
    exact hQ
  | succ d ih =>
    intro j e
    have nj : ¬ n ≤ j := by omega
    have nj4 : ¬ 40 ≤ j := by omega
    have ej := tk j (by omega)
    ((obtain ⟨W9, hW9, hgo9⟩ := wp_ex (T_Hp_digest l G) [71] _; refine hgo9 200 _ _ _ _ ?_; simp -implicitDefEqProofs (disch := omega) only [hW9, inl, gate, Xq, tz_const, tz_iload, tz_lload, tz_dload, tz_aload, tz_istore, tz_astore, tz_lstore, tz_dstore, tz_iinc, tz_i1, tz_i2, tz_i2z, tz_l2, tz_l2z, tz_i2l, tz_l2i, tz_lcmp, tz_i2d, tz_d2, tz_dcmp, tz_dup, tz_dup2, tz_pop, tz_if, tz_icmp, tz_null, tz_goto, tz_sw, tz_getf, tz_puti, tz_putz, tz_putr, tz_putl, tz_iaload, tz_baload, tz_laload, tz_aaload, tz_iastore, tz_bastore, tz_lastore, tz_aastore, tz_alen, tz_new, tz_newa, tz_oinit, tz_iret, tz_zret, tz_lret, tz_dret, tz_aret, tz_vret, tz_throw, tz_callS, tz_callV, tz_callI, tz_callR, tz_pureS, tz_pureV, tz_callVH, lg, lset, lkill, lst1, lst2, entL, isRf, is1, vl, va_rf_none, va_rf_some, isRf_rf, is1_rf, i0, i1, bI_eq0, bI_eq1, nm_em, nI_eqP, nI_leP, nI_ltP, nN_e1, nN_e2, nN_l1, nN_l2, nN_l3, nN_l4, nI_add, pk_mul, vp_inN, nI_cl, n01, n10, P_i, P_ii, P_iii, f_Mo_at, f_Mo_map, f_Mo_contact, f_Mo_within, f_Mo_isPort, f_Hp_endpoint, f_Hp_nodeOf, f_Hp_portOf, f_Ma_max, f_Ma_min, f_Hp_isSetting, popN, rok, a1, noX, swc, mL, if_true, if_false, ↓reduceIte, cond_true, cond_false, true_and, and_true, List.length_cons, List.length_nil, List.nil_append, List.cons_append, List.append_nil, Option.toList, Nat.reduceEqDiff, Bool.false_eq_true, reduceCtorEq, Nat.reduceAdd, Nat.reduceLT, Nat.reduceLeDiff, Nat.reduceSub, List.replicate, Nat.zero_add, Nat.lt_add_one, Nat.le_refl, Nat.zero_le, Nat.succ_ne_zero, not_false_eq_true, not_true_eq_false, false_implies, true_implies, forall_const, imp_self, true_or, or_true, eq_self, sI_zw, zw_zw, hI_zw, tg_zw, ln_zw, hR_zw, hL_zw, hN_zw, hM_zw, upd_s, upd_u, upd_ne, Classical.not_not, k_Hp_digest, x6, x5, a4, b1, b2, nj, nj4, ej]; try clear hgo9 hW9); try (obtain ⟨W9, hW9, hgo9⟩ := wp_ex (T_Hp_digest l G) [71] _; refine hgo9 200 _ _ _ _ ?_; simp -implicitDefEqProofs (disch := omega) only [hW9, inl, gate, Xq, tz_const, tz_iload, tz_lload, tz_dload, tz_aload, tz_istore, tz_astore, tz_lstore, tz_dstore, tz_iinc, tz_i1, tz_i2, tz_i2z, tz_l2, tz_l2z, tz_i2l, tz_l2i, tz_lcmp, tz_i2d, tz_d2, tz_dcmp, tz_dup, tz_dup2, tz_pop, tz_if, tz_icmp, tz_null, tz_goto, tz_sw, tz_getf, tz_puti, tz_putz, tz_putr, tz_putl, tz_iaload, tz_baload, tz_laload, tz_aaload, tz_iastore, tz_bastore, tz_lastore, tz_aastore, tz_alen, tz_new, tz_newa, tz_oinit, tz_iret, tz_zret, tz_lret, tz_dret, tz_aret, tz_vret, tz_throw, tz_callS, tz_callV, tz_callI, tz_callR, tz_pureS, tz_pureV, tz_callVH, lg, lset, lkill, lst1, lst2, entL, isRf, is1, vl, va_rf_none, va_rf_some, isRf_rf, is1_rf, i0, i1, bI_eq0, bI_eq1, nm_em, nI_eqP, nI_leP, nI_ltP, nN_e1, nN_e2, nN_l1, nN_l2, nN_l3, nN_l4, nI_add, pk_mul, vp_inN, nI_cl, n01, n10, P_i, P_ii, P_iii, f_Mo_at, f_Mo_map, f_Mo_contact, f_Mo_within, f_Mo_isPort, f_Hp_endpoint, f_Hp_nodeOf, f_Hp_portOf, f_Ma_max, f_Ma_min, f_Hp_isSetting, popN, rok, a1, noX, swc, mL, if_true, if_false, ↓reduceIte, cond_true, cond_false, true_and, and_true, List.length_cons, List.length_nil, List.nil_append, List.cons_append, List.append_nil, Option.toList, Nat.reduceEqDiff, Bool.false_eq_true, reduceCtorEq, Nat.reduceAdd, Nat.reduceLT, Nat.reduceLeDiff, Nat.reduceSub, List.replicate, Nat.zero_add, Nat.lt_add_one, Nat.le_refl, Nat.zero_le, Nat.succ_ne_zero, not_false_eq_true, not_true_eq_false, false_implies, true_implies, forall_const, imp_self, true_or, or_true, eq_self, sI_zw, zw_zw, hI_zw, tg_zw, ln_zw, hR_zw, hL_zw, hN_zw, hM_zw, upd_s, upd_u, upd_ne, Classical.not_not, k_Hp_digest, x6, x5, a4, b1, b2, nj, nj4, ej]; try clear hgo9 hW9); try (obtain ⟨W9, hW9, hgo9⟩ := wp_ex (T_Hp_digest l G) [71] _; refine hgo9 200 _ _ _ _ ?_; simp -implicitDefEqProofs (disch := omega) only [hW9, inl, gate, Xq, tz_const, tz_iload, tz_lload, tz_dload, tz_aload, tz_istore, tz_astore, tz_lstore, tz_dstore, tz_iinc, tz_i1, tz_i2, tz_i2z, tz_l2, tz_l2z, tz_i2l, tz_l2i, tz_lcmp, tz_i2d, tz_d2, tz_dcmp, tz_dup, tz_dup2, tz_pop, tz_if, tz_icmp, tz_null, tz_goto, tz_sw, tz_getf, tz_puti, tz_putz, tz_putr, tz_putl, tz_iaload, tz_baload, tz_laload, tz_aaload, tz_iastore, tz_bastore, tz_lastore, tz_aastore, tz_alen, tz_new, tz_newa, tz_oinit, tz_iret, tz_zret, tz_lret, tz_dret, tz_aret, tz_vret, tz_throw, tz_callS, tz_callV, tz_callI, tz_callR, tz_pureS, tz_pureV, tz_callVH, lg, lset, lkill, lst1, lst2, entL, isRf, is1, vl, va_rf_none, va_rf_some, isRf_rf, is1_rf, i0, i1, bI_eq0, bI_eq1, nm_em, nI_eqP, nI_leP, nI_ltP, nN_e1, nN_e2, nN_l1, nN_l2, nN_l3, nN_l4, nI_add, pk_mul, vp_inN, nI_cl, n01, n10, P_i, P_ii, P_iii, f_Mo_at, f_Mo_map, f_Mo_contact, f_Mo_within, f_Mo_isPort, f_Hp_endpoint, f_Hp_nodeOf, f_Hp_portOf, f_Ma_max, f_Ma_min, f_Hp_isSetting, popN, rok, a1, noX, swc, mL, if_true, if_false, ↓reduceIte, cond_true, cond_false, true_and, and_true, List.length_cons, List.length_nil, List.nil_append, List.cons_append, List.append_nil, Option.toList, Nat.reduceEqDiff, Bool.false_eq_true, reduceCtorEq, Nat.reduceAdd, Nat.reduceLT, Nat.reduceLeDiff, Nat.reduceSub, List.replicate, Nat.zero_add, Nat.lt_add_one, Nat.le_refl, Nat.zero_le, Nat.succ_ne_zero, not_false_eq_true, not_true_eq_false, false_implies, true_implies, forall_const, imp_self, true_or, or_true, eq_self, sI_zw, zw_zw, hI_zw, tg_zw, ln_zw, hR_zw, hL_zw, hN_zw, hM_zw, upd_s, upd_u, upd_ne, Classical.not_not, k_Hp_digest, x6, x5, a4, b1, b2, nj, nj4, ej]; try clear hgo9 hW9))
    exact ih (j + 1) (by omega)
theorem c_Hp_digest (A : Nat → Nat) (z zs t : Nat → Int32) (n : Nat) (h : AH) (Q : Po) (k : HpR h A z zs t n) (iv : Inv z) (hQ : Q (.inl (some (.long (digZ z t (hI h (A 0) 6) n)))) h) : Call l G M_Hp_digest [.ref (A 0)] h Q := by
  have x6 := k.1.1.1
  refine call_of rfl rfl (Nat.le_of_ble_eq_true rfl) ?_
  (obtain ⟨W9, hW9, hgo9⟩ := wp_ex (T_Hp_digest l G) [6] _; refine hgo9 200 _ _ _ _ ?_; simp -implicitDefEqProofs (disch := omega) only [hW9, inl, gate, Xq, tz_const, tz_iload, tz_lload, tz_dload, tz_aload, tz_istore, tz_astore, tz_lstore, tz_dstore, tz_iinc, tz_i1, tz_i2, tz_i2z, tz_l2, tz_l2z, tz_i2l, tz_l2i, tz_lcmp, tz_i2d, tz_d2, tz_dcmp, tz_dup, tz_dup2, tz_pop, tz_if, tz_icmp, tz_null, tz_goto, tz_sw, tz_getf, tz_puti, tz_putz, tz_putr, tz_putl, tz_iaload, tz_baload, tz_laload, tz_aaload, tz_iastore, tz_bastore, tz_lastore, tz_aastore, tz_alen, tz_new, tz_newa, tz_oinit, tz_iret, tz_zret, tz_lret, tz_dret, tz_aret, tz_vret, tz_throw, tz_callS, tz_callV, tz_callI, tz_callR, tz_pureS, tz_pureV, tz_callVH, lg, lset, lkill, lst1, lst2, entL, isRf, is1, vl, va_rf_none, va_rf_some, isRf_rf, is1_rf, i0, i1, bI_eq0, bI_eq1, nm_em, nI_eqP, nI_leP, nI_ltP, nN_e1, nN_e2, nN_l1, nN_l2, nN_l3, nN_l4, nI_add, pk_mul, vp_inN, nI_cl, n01, n10, P_i, P_ii, P_iii, f_Mo_at, f_Mo_map, f_Mo_contact, f_Mo_within, f_Mo_isPort, f_Hp_endpoint, f_Hp_nodeOf, f_Hp_portOf, f_Ma_max, f_Ma_min, f_Hp_isSetting, popN, rok, a1, noX, swc, mL, if_true, if_false, ↓reduceIte, cond_true, cond_false, true_and, and_true, List.length_cons, List.length_nil, List.nil_append, List.cons_append, List.append_nil, Option.toList, Nat.reduceEqDiff, Bool.false_eq_true, reduceCtorEq, Nat.reduceAdd, Nat.reduceLT, Nat.reduceLeDiff, Nat.reduceSub, List.replicate, Nat.zero_add, Nat.lt_add_one, Nat.le_refl, Nat.zero_le, Nat.succ_ne_zero, not_false_eq_true, not_true_eq_false, false_implies, true_implies, forall_const, imp_self, true_or, or_true, eq_self, sI_zw, zw_zw, hI_zw, tg_zw, ln_zw, hR_zw, hL_zw, hN_zw, hM_zw, upd_s, upd_u, upd_ne, Classical.not_not, k_Hp_digest, x6]; try clear hgo9 hW9)
  refine lp_hd1 (x := lN 1973) k iv ?_ 12 0 rfl
  (obtain ⟨W9, hW9, hgo9⟩ := wp_ex (T_Hp_digest l G) [33] _; refine hgo9 200 _ _ _ _ ?_; simp -implicitDefEqProofs (disch := omega) only [hW9, inl, gate, Xq, tz_const, tz_iload, tz_lload, tz_dload, tz_aload, tz_istore, tz_astore, tz_lstore, tz_dstore, tz_iinc, tz_i1, tz_i2, tz_i2z, tz_l2, tz_l2z, tz_i2l, tz_l2i, tz_lcmp, tz_i2d, tz_d2, tz_dcmp, tz_dup, tz_dup2, tz_pop, tz_if, tz_icmp, tz_null, tz_goto, tz_sw, tz_getf, tz_puti, tz_putz, tz_putr, tz_putl, tz_iaload, tz_baload, tz_laload, tz_aaload, tz_iastore, tz_bastore, tz_lastore, tz_aastore, tz_alen, tz_new, tz_newa, tz_oinit, tz_iret, tz_zret, tz_lret, tz_dret, tz_aret, tz_vret, tz_throw, tz_callS, tz_callV, tz_callI, tz_callR, tz_pureS, tz_pureV, tz_callVH, lg, lset, lkill, lst1, lst2, entL, isRf, is1, vl, va_rf_none, va_rf_some, isRf_rf, is1_rf, i0, i1, bI_eq0, bI_eq1, nm_em, nI_eqP, nI_leP, nI_ltP, nN_e1, nN_e2, nN_l1, nN_l2, nN_l3, nN_l4, nI_add, pk_mul, vp_inN, nI_cl, n01, n10, P_i, P_ii, P_iii, f_Mo_at, f_Mo_map, f_Mo_contact, f_Mo_within, f_Mo_isPort, f_Hp_endpoint, f_Hp_nodeOf, f_Hp_portOf, f_Ma_max, f_Ma_min, f_Hp_isSetting, popN, rok, a1, noX, swc, mL, if_true, if_false, ↓reduceIte, cond_true, cond_false, true_and, and_true, List.length_cons, List.length_nil, List.nil_append, List.cons_append, List.append_nil, Option.toList, Nat.reduceEqDiff, Bool.false_eq_true, reduceCtorEq, Nat.reduceAdd, Nat.reduceLT, Nat.reduceLeDiff, Nat.reduceSub, List.replicate, Nat.zero_add, Nat.lt_add_one, Nat.le_refl, Nat.zero_le, Nat.succ_ne_zero, not_false_eq_true, not_true_eq_false, false_implies, true_implies, forall_const, imp_self, true_or, or_true, eq_self, sI_zw, zw_zw, hI_zw, tg_zw, ln_zw, hR_zw, hL_zw, hN_zw, hM_zw, upd_s, upd_u, upd_ne, Classical.not_not, k_Hp_digest, x6]; try clear hgo9 hW9)
  refine lp_hd2 k iv ?_ (mny z) 0 (by omega)
  have x5 := k.2.2.2.2.2.2.2.1
  (obtain ⟨W9, hW9, hgo9⟩ := wp_ex (T_Hp_digest l G) [71] _; refine hgo9 200 _ _ _ _ ?_; simp -implicitDefEqProofs (disch := omega) only [hW9, inl, gate, Xq, tz_const, tz_iload, tz_lload, tz_dload, tz_aload, tz_istore, tz_astore, tz_lstore, tz_dstore, tz_iinc, tz_i1, tz_i2, tz_i2z, tz_l2, tz_l2z, tz_i2l, tz_l2i, tz_lcmp, tz_i2d, tz_d2, tz_dcmp, tz_dup, tz_dup2, tz_pop, tz_if, tz_icmp, tz_null, tz_goto, tz_sw, tz_getf, tz_puti, tz_putz, tz_putr, tz_putl, tz_iaload, tz_baload, tz_laload, tz_aaload, tz_iastore, tz_bastore, tz_lastore, tz_aastore, tz_alen, tz_new, tz_newa, tz_oinit, tz_iret, tz_zret, tz_lret, tz_dret, tz_aret, tz_vret, tz_throw, tz_callS, tz_callV, tz_callI, tz_callR, tz_pureS, tz_pureV, tz_callVH, lg, lset, lkill, lst1, lst2, entL, isRf, is1, vl, va_rf_none, va_rf_some, isRf_rf, is1_rf, i0, i1, bI_eq0, bI_eq1, nm_em, nI_eqP, nI_leP, nI_ltP, nN_e1, nN_e2, nN_l1, nN_l2, nN_l3, nN_l4, nI_add, pk_mul, vp_inN, nI_cl, n01, n10, P_i, P_ii, P_iii, f_Mo_at, f_Mo_map, f_Mo_contact, f_Mo_within, f_Mo_isPort, f_Hp_endpoint, f_Hp_nodeOf, f_Hp_portOf, f_Ma_max, f_Ma_min, f_Hp_isSetting, popN, rok, a1, noX, swc, mL, if_true, if_false, ↓reduceIte, cond_true, cond_false, true_and, and_true, List.length_cons, List.length_nil, List.nil_append, List.cons_append, List.append_nil, Option.toList, Nat.reduceEqDiff, Bool.false_eq_true, reduceCtorEq, Nat.reduceAdd, Nat.reduceLT, Nat.reduceLeDiff, Nat.reduceSub, List.replicate, Nat.zero_add, Nat.lt_add_one, Nat.le_refl, Nat.zero_le, Nat.succ_ne_zero, not_false_eq_true, not_true_eq_false, false_implies, true_implies, forall_const, imp_self, true_or, or_true, eq_self, sI_zw, zw_zw, hI_zw, tg_zw, ln_zw, hR_zw, hL_zw, hN_zw, hM_zw, upd_s, upd_u, upd_ne, Classical.not_not, k_Hp_digest, x6, x5]; try clear hgo9 hW9)
  exact lp_hd3 k hQ n 0 (by omega)
end
