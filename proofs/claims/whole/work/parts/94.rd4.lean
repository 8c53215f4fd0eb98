def k_Nw_leastTicksLeft (l : Launch) (G : Gc) (pc : Nat) : Tr :=
  if pc < 62 then
   if pc < 28 then
    if pc < 14 then
     if pc < 8 then
      if pc < 2 then
       if pc < 1 then
        if pc = 0 then tz_aload 1 0 else dead
       else
        if pc = 1 then tz_iload 2 2 else dead
      else
       if pc < 5 then
        if pc = 2 then tz_pureS 5 1 P_Hp_nodeOf f_Hp_nodeOf else dead
       else
        if pc = 5 then tz_pureV 8 1 1 P_Nw_netOf f_Nw_netOf else dead
     else
      if pc < 10 then
       if pc < 9 then
        if pc = 8 then tz_istore 9 3 else dead
       else
        if pc = 9 then tz_aload 10 0 else dead
      else
       if pc < 11 then
        if pc = 10 then tz_iload 11 1 else dead
       else
        if pc = 11 then tz_pureS 14 1 P_Hp_nodeOf f_Hp_nodeOf else dead
    else
     if pc < 22 then
      if pc < 19 then
       if pc < 17 then
        if pc = 14 then tz_pureV 17 1 1 P_Nw_netOf f_Nw_netOf else dead
       else
        if pc = 17 then tz_istore 19 4 else dead
      else
       if pc < 20 then
        if pc = 19 then tz_iload 20 1 else dead
       else
        if pc = 20 then tz_istore 22 5 else dead
     else
      if pc < 25 then
       if pc < 23 then
        if pc = 22 then tz_const 23 (.int (nN)) else dead
       else
        if pc = 23 then tz_istore 25 6 else dead
      else
       if pc < 26 then
        if pc = 25 then tz_const 26 (.int (nI 0)) else dead
       else
        if pc = 26 then tz_istore 28 7 else dead
   else
    if pc < 44 then
     if pc < 37 then
      if pc < 32 then
       if pc < 30 then
        if pc = 28 then tz_iload 30 7 else dead
       else
        if pc = 30 then tz_const 32 (.int (nI 10)) else dead
      else
       if pc < 35 then
        if pc = 32 then tz_icmp 35 133 (fun a b => b ≤ a) else dead
       else
        if pc = 35 then tz_iload 37 4 else dead
     else
      if pc < 41 then
       if pc < 38 then
        if pc = 37 then tz_iload 38 3 else dead
       else
        if pc = 38 then tz_icmp 41 133 (fun a b => a = b) else dead
      else
       if pc < 42 then
        if pc = 41 then tz_aload 42 0 else dead
       else
        if pc = 42 then tz_iload 44 4 else dead
    else
     if pc < 54 then
      if pc < 49 then
       if pc < 47 then
        if pc = 44 then tz_pureV 47 1 1 P_Nw_translatorAt f_Nw_translatorAt else dead
       else
        if pc = 47 then tz_astore 49 8 else dead
      else
       if pc < 51 then
        if pc = 49 then tz_aload 51 8 else dead
       else
        if pc = 51 then tz_null 54 57 else dead
     else
      if pc < 57 then
       if pc < 56 then
        if pc = 54 then tz_iload 56 6 else dead
       else
        if pc = 56 then tz_iret else dead
      else
       if pc < 59 then
        if pc = 57 then tz_aload 59 8 else dead
       else
        if pc < 61 then
         if pc = 59 then tz_iload 61 5 else dead
        else
         if pc = 61 then tz_iload 62 2 else dead
  else
   if pc < 98 then
    if pc < 78 then
     if pc < 72 then
      if pc < 67 then
       if pc < 65 then
        if pc = 62 then tz_callV l G 65 M_Tl_mappingOut 2 5 else dead
       else
        if pc = 65 then tz_astore 67 9 else dead
      else
       if pc < 69 then
        if pc = 67 then tz_aload 69 9 else dead
       else
        if pc = 69 then tz_null 72 74 else dead
     else
      if pc < 74 then
       if pc < 73 then
        if pc = 72 then tz_const 73 (.int (nN)) else dead
       else
        if pc = 73 then tz_iret else dead
      else
       if pc < 76 then
        if pc = 74 then tz_aload 76 8 else dead
       else
        if pc = 76 then tz_aload 78 9 else dead
    else
     if pc < 87 then
      if pc < 82 then
       if pc < 79 then
        if pc = 78 then tz_aload 79 0 else dead
       else
        if pc = 79 then tz_getf 82 1 3 0 else dead
      else
       if pc < 85 then
        if pc = 82 then tz_pureV 85 2 5 P_Tl_ticksLeft f_Tl_ticksLeft else dead
       else
        if pc = 85 then tz_istore 87 10 else dead
     else
      if pc < 90 then
       if pc < 89 then
        if pc = 87 then tz_iload 89 6 else dead
       else
        if pc = 89 then tz_const 90 (.int (nN)) else dead
      else
       if pc < 93 then
        if pc = 90 then tz_icmp 93 98 (fun a b => ¬ a = b) else dead
       else
        if pc < 95 then
         if pc = 93 then tz_iload 95 10 else dead
        else
         if pc = 95 then tz_goto 105 else dead
   else
    if pc < 117 then
     if pc < 107 then
      if pc < 102 then
       if pc < 100 then
        if pc = 98 then tz_iload 100 6 else dead
       else
        if pc = 100 then tz_iload 102 10 else dead
      else
       if pc < 105 then
        if pc = 102 then tz_pureS 105 2 P_ii f_Ma_min else dead
       else
        if pc = 105 then tz_istore 107 6 else dead
     else
      if pc < 111 then
       if pc < 109 then
        if pc = 107 then tz_iload 109 4 else dead
       else
        if pc = 109 then tz_aload 111 9 else dead
      else
       if pc < 114 then
        if pc = 111 then tz_getf 114 0 1 0 else dead
       else
        if pc = 114 then tz_pureS 117 2 P_Hp_endpoint f_Hp_endpoint else dead
    else
     if pc < 125 then
      if pc < 120 then
       if pc < 119 then
        if pc = 117 then tz_istore 119 5 else dead
       else
        if pc = 119 then tz_aload 120 0 else dead
      else
       if pc < 122 then
        if pc = 120 then tz_iload 122 4 else dead
       else
        if pc = 122 then tz_pureV 125 1 1 P_Nw_netOf f_Nw_netOf else dead
     else
      if pc < 130 then
       if pc < 127 then
        if pc = 125 then tz_istore 127 4 else dead
       else
        if pc = 127 then tz_iinc 130 7 (nI 1) else dead
      else
       if pc < 133 then
        if pc = 130 then tz_goto 28 else dead
       else
        if pc < 135 then
         if pc = 133 then tz_iload 135 6 else dead
        else
         if pc = 135 then tz_iret else dead
set_option maxRecDepth 100000 in
theorem T_Nw_leastTicksLeft (l : Launch) (G : Gc) : TabOK l G M_Nw_leastTicksLeft (k_Nw_leastTicksLeft l G) := by
  intro pc
  unfold k_Nw_leastTicksLeft
  exact
   (sd_br
    (sd_br
     (sd_br
      (sd_br
       (sd_br
        (sd_br
         (sd_lf (sd_aload_n (k := 0) (by decide +kernel : decode prog_3_method_16_code 0 = .ok (.aload_n 0, 1))))
         (sd_lf (sd_iload_n (k := 2) (by decide +kernel : decode prog_3_method_16_code 1 = .ok (.iload_n 2, 1)))))
        (sd_br
         (sd_lf (sd_pureSN (sd_callSN (host := "HolePuncher") (by decide +kernel : decode prog_3_method_16_code 2 = .ok (.invokestatic 86, 3)) ok_Hp_nodeOf (List.mem_of_getElem? (i := 376) (by decide +kernel)) (gm 449 (by decide +kernel) rfl) (by decide +kernel) rfl rfl) c_Hp_nodeOf))
         (sd_lf (sd_pureV (sd_callV (q := (RX1, TX1, 6)) (by decide +kernel : decode prog_3_method_16_code 5 = .ok (.invokevirtual 89, 3)) ok_Nw_netOf (gm 423 (by decide +kernel) rfl) (gm 373 (by decide +kernel) rfl) (gm 374 (by decide +kernel) rfl) rfl rfl (by decide +kernel) rfl rfl) c_Nw_netOf))))
       (sd_br
        (sd_br
         (sd_lf (sd_istore_n (k := 3) (by decide +kernel : decode prog_3_method_16_code 8 = .ok (.istore_n 3, 1))))
         (sd_lf (sd_aload_n (k := 0) (by decide +kernel : decode prog_3_method_16_code 9 = .ok (.aload_n 0, 1)))))
        (sd_br
         (sd_lf (sd_iload_n (k := 1) (by decide +kernel : decode prog_3_method_16_code 10 = .ok (.iload_n 1, 1))))
         (sd_lf (sd_pureSN (sd_callSN (host := "HolePuncher") (by decide +kernel : decode prog_3_method_16_code 11 = .ok (.invokestatic 86, 3)) ok_Hp_nodeOf (List.mem_of_getElem? (i := 376) (by decide +kernel)) (gm 449 (by decide +kernel) rfl) (by decide +kernel) rfl rfl) c_Hp_nodeOf)))))
      (sd_br
       (sd_br
        (sd_br
         (sd_lf (sd_pureV (sd_callV (q := (RX1, TX1, 6)) (by decide +kernel : decode prog_3_method_16_code 14 = .ok (.invokevirtual 89, 3)) ok_Nw_netOf (gm 423 (by decide +kernel) rfl) (gm 373 (by decide +kernel) rfl) (gm 374 (by decide +kernel) rfl) rfl rfl (by decide +kernel) rfl rfl) c_Nw_netOf))
         (sd_lf (sd_istore (by decide +kernel : decode prog_3_method_16_code 17 = .ok (.istore 4, 2)))))
        (sd_br
         (sd_lf (sd_iload_n (k := 1) (by decide +kernel : decode prog_3_method_16_code 19 = .ok (.iload_n 1, 1))))
         (sd_lf (sd_istore (by decide +kernel : decode prog_3_method_16_code 20 = .ok (.istore 5, 2))))))
       (sd_br
        (sd_br
         (sd_lf (sd_iconst (by decide +kernel : decode prog_3_method_16_code 22 = .ok (.iconst (-1), 1)) (by decide +kernel)))
         (sd_lf (sd_istore (by decide +kernel : decode prog_3_method_16_code 23 = .ok (.istore 6, 2)))))
        (sd_br
         (sd_lf (sd_iconst (by decide +kernel : decode prog_3_method_16_code 25 = .ok (.iconst 0, 1)) (by decide +kernel)))
         (sd_lf (sd_istore (by decide +kernel : decode prog_3_method_16_code 26 = .ok (.istore 7, 2))))))))
     (sd_br
      (sd_br
       (sd_br
        (sd_br
         (sd_lf (sd_iload (by decide +kernel : decode prog_3_method_16_code 28 = .ok (.iload 7, 2))))
         (sd_lf (sd_bipush (by decide +kernel : decode prog_3_method_16_code 30 = .ok (.bipush 10, 2)) (by decide +kernel))))
        (sd_br
         (sd_lf (sd_icmp_ge (by decide +kernel : decode prog_3_method_16_code 32 = .ok (.if_icmp .ge 101, 3)) (by decide +kernel)))
         (sd_lf (sd_iload (by decide +kernel : decode prog_3_method_16_code 35 = .ok (.iload 4, 2))))))
       (sd_br
        (sd_br
         (sd_lf (sd_iload_n (k := 3) (by decide +kernel : decode prog_3_method_16_code 37 = .ok (.iload_n 3, 1))))
         (sd_lf (sd_icmp_eq (by decide +kernel : decode prog_3_method_16_code 38 = .ok (.if_icmp .eq 95, 3)) (by decide +kernel))))
        (sd_br
         (sd_lf (sd_aload_n (k := 0) (by decide +kernel : decode prog_3_method_16_code 41 = .ok (.aload_n 0, 1))))
         (sd_lf (sd_iload (by decide +kernel : decode prog_3_method_16_code 42 = .ok (.iload 4, 2)))))))
      (sd_br
       (sd_br
        (sd_br
         (sd_lf (sd_pureV (sd_callV (q := (RX1, TX1, 6)) (by decide +kernel : decode prog_3_method_16_code 44 = .ok (.invokevirtual 72, 3)) ok_Nw_translatorAt (gm 428 (by decide +kernel) rfl) (gm 429 (by decide +kernel) rfl) (gm 430 (by decide +kernel) rfl) rfl rfl (by decide +kernel) rfl rfl) c_Nw_translatorAt))
         (sd_lf (sd_astore (by decide +kernel : decode prog_3_method_16_code 47 = .ok (.astore 8, 2)))))
        (sd_br
         (sd_lf (sd_aload (by decide +kernel : decode prog_3_method_16_code 49 = .ok (.aload 8, 2))))
         (sd_lf (sd_ifnonnull (by decide +kernel : decode prog_3_method_16_code 51 = .ok (.ifnonnull 6, 3)) (by decide +kernel)))))
       (sd_br
        (sd_br
         (sd_lf (sd_iload (by decide +kernel : decode prog_3_method_16_code 54 = .ok (.iload 6, 2))))
         (sd_lf (sd_iret (by decide +kernel : decode prog_3_method_16_code 56 = .ok (.ireturn, 1)) rfl)))
        (sd_br
         (sd_lf (sd_aload (by decide +kernel : decode prog_3_method_16_code 57 = .ok (.aload 8, 2))))
         (sd_br
          (sd_lf (sd_iload (by decide +kernel : decode prog_3_method_16_code 59 = .ok (.iload 5, 2))))
          (sd_lf (sd_iload_n (k := 2) (by decide +kernel : decode prog_3_method_16_code 61 = .ok (.iload_n 2, 1))))))))))
    (sd_br
     (sd_br
      (sd_br
       (sd_br
        (sd_br
         (sd_lf (sd_callV (q := (RX5, TX5, 11)) (by decide +kernel : decode prog_3_method_16_code 62 = .ok (.invokevirtual 92, 3)) ok_Tl_mappingOut (gm 703 (by decide +kernel) rfl) (gm 704 (by decide +kernel) rfl) (gm 705 (by decide +kernel) rfl) rfl rfl (by decide +kernel) rfl rfl))
         (sd_lf (sd_astore (by decide +kernel : decode prog_3_method_16_code 65 = .ok (.astore 9, 2)))))
        (sd_br
         (sd_lf (sd_aload (by decide +kernel : decode prog_3_method_16_code 67 = .ok (.aload 9, 2))))
         (sd_lf (sd_ifnonnull (by decide +kernel : decode prog_3_method_16_code 69 = .ok (.ifnonnull 5, 3)) (by decide +kernel)))))
       (sd_br
        (sd_br
         (sd_lf (sd_iconst (by decide +kernel : decode prog_3_method_16_code 72 = .ok (.iconst (-1), 1)) (by decide +kernel)))
         (sd_lf (sd_iret (by decide +kernel : decode prog_3_method_16_code 73 = .ok (.ireturn, 1)) rfl)))
        (sd_br
         (sd_lf (sd_aload (by decide +kernel : decode prog_3_method_16_code 74 = .ok (.aload 8, 2))))
         (sd_lf (sd_aload (by decide +kernel : decode prog_3_method_16_code 76 = .ok (.aload 9, 2)))))))
      (sd_br
       (sd_br
        (sd_br
         (sd_lf (sd_aload_n (k := 0) (by decide +kernel : decode prog_3_method_16_code 78 = .ok (.aload_n 0, 1))))
         (sd_lf (sd_getf (q := (RX1, TX1, 6)) (by decide +kernel : decode prog_3_method_16_code 79 = .ok (.getfield 25, 3)) rfl (by decide +kernel) (gm 109 (by decide +kernel) rfl))))
        (sd_br
         (sd_lf (sd_pureV (sd_callV (q := (RX5, TX5, 11)) (by decide +kernel : decode prog_3_method_16_code 82 = .ok (.invokevirtual 145, 3)) ok_Tl_ticksLeft (gm 891 (by decide +kernel) rfl) (gm 469 (by decide +kernel) rfl) (gm 470 (by decide +kernel) rfl) rfl rfl (by decide +kernel) rfl rfl) c_Tl_ticksLeft))
         (sd_lf (sd_istore (by decide +kernel : decode prog_3_method_16_code 85 = .ok (.istore 10, 2))))))
       (sd_br
        (sd_br
         (sd_lf (sd_iload (by decide +kernel : decode prog_3_method_16_code 87 = .ok (.iload 6, 2))))
         (sd_lf (sd_iconst (by decide +kernel : decode prog_3_method_16_code 89 = .ok (.iconst (-1), 1)) (by decide +kernel))))
        (sd_br
         (sd_lf (sd_icmp_ne (by decide +kernel : decode prog_3_method_16_code 90 = .ok (.if_icmp .ne 8, 3)) (by decide +kernel)))
         (sd_br
          (sd_lf (sd_iload (by decide +kernel : decode prog_3_method_16_code 93 = .ok (.iload 10, 2))))
          (sd_lf (sd_goto (by decide +kernel : decode prog_3_method_16_code 95 = .ok (.goto 10, 3)) (by decide +kernel))))))))
     (sd_br
      (sd_br
       (sd_br
        (sd_br
         (sd_lf (sd_iload (by decide +kernel : decode prog_3_method_16_code 98 = .ok (.iload 6, 2))))
         (sd_lf (sd_iload (by decide +kernel : decode prog_3_method_16_code 100 = .ok (.iload 10, 2)))))
        (sd_br
         (sd_lf (sd_mmin (by decide +kernel : decode prog_3_method_16_code 102 = .ok (.invokestatic 149, 3)) (gm 892 (by decide +kernel) rfl) (gm 893 (by decide +kernel) rfl) (gm 86 (by decide +kernel) rfl) (gm 894 (by decide +kernel) rfl) (by decide +kernel) (by decide +kernel)))
         (sd_lf (sd_istore (by decide +kernel : decode prog_3_method_16_code 105 = .ok (.istore 6, 2))))))
       (sd_br
        (sd_br
         (sd_lf (sd_iload (by decide +kernel : decode prog_3_method_16_code 107 = .ok (.iload 4, 2))))
         (sd_lf (sd_aload (by decide +kernel : decode prog_3_method_16_code 109 = .ok (.aload 9, 2)))))
        (sd_br
         (sd_lf (sd_getf (q := (RX0, TX0, 6)) (by decide +kernel : decode prog_3_method_16_code 111 = .ok (.getfield 107, 3)) rfl (by decide +kernel) (gm 309 (by decide +kernel) rfl)))
         (sd_lf (sd_pureSN (sd_callSN (host := "HolePuncher") (by decide +kernel : decode prog_3_method_16_code 114 = .ok (.invokestatic 110, 3)) ok_Hp_endpoint (List.mem_of_getElem? (i := 680) (by decide +kernel)) (gm 693 (by decide +kernel) rfl) (by decide +kernel) rfl rfl) c_Hp_endpoint)))))
      (sd_br
       (sd_br
        (sd_br
         (sd_lf (sd_istore (by decide +kernel : decode prog_3_method_16_code 117 = .ok (.istore 5, 2))))
         (sd_lf (sd_aload_n (k := 0) (by decide +kernel : decode prog_3_method_16_code 119 = .ok (.aload_n 0, 1)))))
        (sd_br
         (sd_lf (sd_iload (by decide +kernel : decode prog_3_method_16_code 120 = .ok (.iload 4, 2))))
         (sd_lf (sd_pureV (sd_callV (q := (RX1, TX1, 6)) (by decide +kernel : decode prog_3_method_16_code 122 = .ok (.invokevirtual 89, 3)) ok_Nw_netOf (gm 423 (by decide +kernel) rfl) (gm 373 (by decide +kernel) rfl) (gm 374 (by decide +kernel) rfl) rfl rfl (by decide +kernel) rfl rfl) c_Nw_netOf))))
       (sd_br
        (sd_br
         (sd_lf (sd_istore (by decide +kernel : decode prog_3_method_16_code 125 = .ok (.istore 4, 2))))
         (sd_lf (sd_iinc (by decide +kernel : decode prog_3_method_16_code 127 = .ok (.iinc 7 1, 3)) (by decide +kernel))))
        (sd_br
         (sd_lf (sd_goto (by decide +kernel : decode prog_3_method_16_code 130 = .ok (.goto (-102), 3)) (by decide +kernel)))
         (sd_br
          (sd_lf (sd_iload (by decide +kernel : decode prog_3_method_16_code 133 = .ok (.iload 6, 2))))
          (sd_lf (sd_iret (by decide +kernel : decode prog_3_method_16_code 135 = .ok (.ireturn, 1)) rfl)))))))))
def k_Hp_timeLeft (l : Launch) (G : Gc) (pc : Nat) : Tr :=
  if pc < 13 then
   if pc < 4 then
    if pc < 2 then
     if pc < 1 then
      if pc = 0 then tz_aload 1 0 else dead
     else
      if pc = 1 then tz_iload 2 1 else dead
    else
     if pc < 3 then
      if pc = 2 then tz_iload 3 2 else dead
     else
      if pc = 3 then tz_iload 4 3 else dead
   else
    if pc < 9 then
     if pc < 6 then
      if pc = 4 then tz_iload 6 4 else dead
     else
      if pc = 6 then tz_callV l G 9 M_Hp_checkPacket 4 6 else dead
    else
     if pc < 10 then
      if pc = 9 then tz_aload 10 0 else dead
     else
      if pc = 10 then tz_getf 13 6 0 1 else dead
  else
   if pc < 19 then
    if pc < 15 then
     if pc < 14 then
      if pc = 13 then tz_iload 14 1 else dead
     else
      if pc = 14 then tz_iload 15 2 else dead
    else
     if pc < 18 then
      if pc = 15 then tz_pureS 18 2 P_Hp_endpoint f_Hp_endpoint else dead
     else
      if pc = 18 then tz_iload 19 3 else dead
   else
    if pc < 24 then
     if pc < 21 then
      if pc = 19 then tz_iload 21 4 else dead
     else
      if pc = 21 then tz_pureS 24 2 P_Hp_endpoint f_Hp_endpoint else dead
    else
     if pc < 27 then
      if pc = 24 then tz_callV l G 27 M_Nw_leastTicksLeft 2 1 else dead
     else
      if pc = 27 then tz_iret else dead
set_option maxRecDepth 100000 in
theorem T_Hp_timeLeft (l : Launch) (G : Gc) : TabOK l G M_Hp_timeLeft (k_Hp_timeLeft l G) := by
  intro pc
  unfold k_Hp_timeLeft
  exact
   (sd_br
    (sd_br
     (sd_br
      (sd_br
       (sd_lf (sd_aload_n (k := 0) (by decide +kernel : decode prog_1_method_26_code 0 = .ok (.aload_n 0, 1))))
       (sd_lf (sd_iload_n (k := 1) (by decide +kernel : decode prog_1_method_26_code 1 = .ok (.iload_n 1, 1)))))
      (sd_br
       (sd_lf (sd_iload_n (k := 2) (by decide +kernel : decode prog_1_method_26_code 2 = .ok (.iload_n 2, 1))))
       (sd_lf (sd_iload_n (k := 3) (by decide +kernel : decode prog_1_method_26_code 3 = .ok (.iload_n 3, 1))))))
     (sd_br
      (sd_br
       (sd_lf (sd_iload (by decide +kernel : decode prog_1_method_26_code 4 = .ok (.iload 4, 2))))
       (sd_lf (sd_callV (q := (RX6, TX6, 7)) (by decide +kernel : decode prog_1_method_26_code 6 = .ok (.invokevirtual 139, 3)) ok_Hp_checkPacket (gm 681 (by decide +kernel) rfl) (gm 683 (by decide +kernel) rfl) (gm 16 (by decide +kernel) rfl) rfl rfl (by decide +kernel) rfl rfl)))
      (sd_br
       (sd_lf (sd_aload_n (k := 0) (by decide +kernel : decode prog_1_method_26_code 9 = .ok (.aload_n 0, 1))))
       (sd_lf (sd_getf (q := (RX6, TX6, 7)) (by decide +kernel : decode prog_1_method_26_code 10 = .ok (.getfield 12, 3)) rfl (by decide +kernel) (gm 154 (by decide +kernel) rfl))))))
    (sd_br
     (sd_br
      (sd_br
       (sd_lf (sd_iload_n (k := 1) (by decide +kernel : decode prog_1_method_26_code 13 = .ok (.iload_n 1, 1))))
       (sd_lf (sd_iload_n (k := 2) (by decide +kernel : decode prog_1_method_26_code 14 = .ok (.iload_n 2, 1)))))
      (sd_br
       (sd_lf (sd_pureS (sd_callS (by decide +kernel : decode prog_1_method_26_code 15 = .ok (.invokestatic 143, 3)) ok_Hp_endpoint (gm 692 (by decide +kernel) rfl) (gm 693 (by decide +kernel) rfl) (by decide +kernel) rfl rfl) c_Hp_endpoint))
       (sd_lf (sd_iload_n (k := 3) (by decide +kernel : decode prog_1_method_26_code 18 = .ok (.iload_n 3, 1))))))
     (sd_br
      (sd_br
       (sd_lf (sd_iload (by decide +kernel : decode prog_1_method_26_code 19 = .ok (.iload 4, 2))))
       (sd_lf (sd_pureS (sd_callS (by decide +kernel : decode prog_1_method_26_code 21 = .ok (.invokestatic 143, 3)) ok_Hp_endpoint (gm 692 (by decide +kernel) rfl) (gm 693 (by decide +kernel) rfl) (by decide +kernel) rfl rfl) c_Hp_endpoint)))
      (sd_br
       (sd_lf (sd_callV (q := (RX1, TX1, 6)) (by decide +kernel : decode prog_1_method_26_code 24 = .ok (.invokevirtual 256, 3)) ok_Nw_leastTicksLeft (gm 887 (by decide +kernel) rfl) (gm 888 (by decide +kernel) rfl) (gm 889 (by decide +kernel) rfl) rfl rfl (by decide +kernel) rfl rfl))
       (sd_lf (sd_iret (by decide +kernel : decode prog_1_method_26_code 27 = .ok (.ireturn, 1)) rfl))))))
noncomputable def cmG (z : Nat → Int32) (on : Int32) : Nat → Int32 → Int32
  | 0, net => net
  | f + 1, net => @ite _ (net = nN ∨ bhZ z net 10 on) (Classical.propDecidable _) net (cmG z on f (netZ z net.toNatClampNeg))
theorem cmZ_G (z : Nat → Int32) (o : Nat) : ∀ f net, cmZ z o f net = cmG z (netZ z o) f net
  | 0, _ => rfl
  | f + 1, net => by rw [cmZ, cmG, cmZ_G z o f]
theorem cmG_fuel {z : Nat → Int32} (hn : NetOK z) {on : Int32} (m10 : mny z ≤ 10) : ∀ (f g : Nat) (net : Int32), Up z f net → f ≤ g → cmG z on g net = cmG z on f net := by
  intro f
  induction f with
  | zero =>
    intro g net hu _
    rcases hu with e | ⟨j, j1, -⟩
    · cases g with
      | zero => rfl
      | succ g => rw [cmG, cmG, if_pos (Or.inl e)]
    · omega
  | succ f ih =>
    intro g net hu hg
    cases g with
    | zero => omega
    | succ g =>
      rw [cmG, cmG]
      by_cases c : net = nN ∨ bhZ z net 10 on
      · rw [if_pos c, if_pos c]
      · rw [if_neg c, if_neg c]
        rcases hu with e | ⟨j, j1, j2, e⟩
        · exact absurd (Or.inl e) c
        · rw [e, nI_clamp (by omega)]
          exact ih g _ (Up.next hn j1 j2) (by omega)
theorem bh_fuel {z : Nat → Int32} (hn : NetOK z) {t : Int32} (m10 : mny z ≤ 10) : ∀ (f g : Nat) (net : Int32), Up z f net → f ≤ g → (bhZ z t g net ↔ bhZ z t f net) := by
  intro f
  induction f with
  | zero =>
    intro g net hu _
    rcases hu with e | ⟨j, j1, -⟩
    · cases g with
      | zero => exact Iff.rfl
      | succ g => rw [bhZ, bhZ, if_pos (Or.inl e)]
    · omega
  | succ f ih =>
    intro g net hu hg
    cases g with
    | zero => omega
    | succ g =>
      rw [bhZ, bhZ]
      by_cases c : net = nN ∨ net = t
      · rw [if_pos c, if_pos c]
      · rw [if_neg c, if_neg c]
        rcases hu with e | ⟨j, j1, j2, e⟩
        · exact absurd (Or.inl e) c
        · rw [e, nI_clamp (by omega)]
          exact ih g _ (Up.next hn j1 j2) (by omega)
/-- the other net goes up -/
theorem cmG_up {z : Nat → Int32} (hn : NetOK z) (m10 : mny z ≤ 10) {j : Nat} (hj : j < mny z) : ∀ (f : Nat) (net : Int32), Up z f net → f ≤ j → cmG z (nI j) f net = cmG z (netZ z j) f net := by
  intro f
  induction f with
  | zero => exact fun _ _ _ => rfl
  | succ f ih =>
    intro net hu hf
    have iff : net = nN ∨ bhZ z net 10 (nI j) ↔ net = nN ∨ bhZ z net 10 (netZ z j) := by
      rcases hu with e | ⟨i, i1, i2, e⟩
      · exact ⟨fun _ => Or.inl e, fun _ => Or.inl e⟩
      · refine or_congr_right ?_
        have ne : ¬ (nI j = nN ∨ nI j = net) := by
          rw [e]
          rintro (w | w)
          · rw [nN_e2 (by omega)] at w; exact w
          · rw [nI_eq (by omega) (by omega)] at w; omega
        have e1 : bhZ z net 10 (nI j) = bhZ z net 9 (netZ z (nI j).toNatClampNeg) := by
          rw [bhZ, if_neg ne]
        rw [e1, nI_clamp (by omega)]
        have u9 := (Up.of hn hj).mono (show j ≤ 9 by omega)
        exact (bh_fuel hn m10 9 10 _ u9 (by omega)).symm
    rw [cmG, cmG]
    by_cases c : net = nN ∨ bhZ z net 10 (nI j)
    · rw [if_pos c, if_pos (iff.mp c)]
    · rw [if_neg c, if_neg (fun q => c (iff.mpr q))]
      rcases hu with e | ⟨i, i1, i2, e⟩
      · exact absurd (Or.inl e) c
      · rw [e, nI_clamp (by omega)]
        exact ih _ (Up.next hn i1 i2) (by omega)
section
variable {l : Launch} {G : Gc}
theorem lp_cn {wn : Nat} {x1 x2 : Int32} {z : Nat → Int32} {h : AH} {Q : Po} (k : NwR h wn z) (inv : Inv0 z) : ∀ (N a b st : Nat) (net on : Int32), a + b ≤ N → st + N ≤ 19 → a ≤ 10 → b ≤ 10 → Up z a net → Up z b on → Q (.inl (some (.int (cmG z on 10 net)))) h → AWp l G M_Nw_commonNet 16 [some (.ref wn), some (.int x1), some (.int x2), some (.int net), some (.int on), some (.int (nI st))] [] h Q := by
  have m10 := inv.1.at.2
  have w1 := k.1.1.1
  have hn := inv.net
  have hPn : ∀ x, P_Nw_netOf [.ref wn, .int x] h := fun x => k.1.NdK x
  intro N
  induction N with
  | zero =>
    intro a b st net on hN hst ha hb ua ub hQ
    have ea : net = nN := by rcases ua with e | ⟨j, j1, -⟩; exact e; omega
    have eb : on = nN := by rcases ub with e | ⟨j, j1, -⟩; exact e; omega
    have ns : ¬ 20 ≤ st := by omega
    subst ea eb
    rw [cmG, if_pos (Or.inl rfl)] at hQ
    ((obtain ⟨W9, hW9, hgo9⟩ := wp_ex (T_Nw_commonNet l G) [16] _; refine hgo9 200 _ _ _ _ ?_; simp -implicitDefEqProofs (disch := omega) only [hW9, inl, gate, Xq, tz_const, tz_iload, tz_lload, tz_dload, tz_aload, tz_istore, tz_astore, tz_lstore, tz_dstore, tz_iinc, tz_i1, tz_i2, tz_i2z, tz_l2, tz_l2z, tz_i2l, tz_l2i, tz_lcmp, tz_i2d, tz_d2, tz_dcmp, tz_dup, tz_dup2, tz_pop, tz_if, tz_icmp, tz_null, tz_goto, tz_sw, tz_getf, tz_puti, tz_putz, tz_putr, tz_putl, tz_iaload, tz_baload, tz_laload, tz_aaload, tz_iastore, tz_bastore, tz_lastore, tz_aastore, tz_alen, tz_new, tz_newa, tz_oinit, tz_iret, tz_zret, tz_lret, tz_dret, tz_aret, tz_vret, tz_throw, tz_callS, tz_callV, tz_callI, tz_callR, tz_pureS, tz_pureV, tz_callVH, lg, lset, lkill, lst1, lst2, entL, isRf, is1, vl, va_rf_none, va_rf_some, isRf_rf, is1_rf, i0, i1, bI_eq0, bI_eq1, nm_em, nI_eqP, nI_leP, nI_ltP, nN_e1, nN_e2, nN_l1, nN_l2, nN_l3, nN_l4, nI_add, pk_mul, vp_inN, nI_cl, n01, n10, P_i, P_ii, P_iii, f_Mo_at, f_Mo_map, f_Mo_contact, f_Mo_within, f_Mo_isPort, f_Hp_endpoint, f_Hp_nodeOf, f_Hp_portOf, f_Ma_max, f_Ma_min, f_Hp_isSetting, popN, rok, a1, noX, swc, mL, if_true, if_false, ↓reduceIte, cond_true, cond_false, true_and, and_true, List.length_cons, List.length_nil, List.nil_append, List.cons_append, List.append_nil, Option.toList, Nat.reduceEqDiff, Bool.false_eq_true, reduceCtorEq, Nat.reduceAdd, Nat.reduceLT, Nat.reduceLeDiff, Nat.reduceSub, List.replicate, Nat.zero_add, Nat.lt_add_one, Nat.le_refl, Nat.zero_le, Nat.succ_ne_zero, not_false_eq_true, not_true_eq_false, false_implies, true_implies, forall_const, imp_self, true_or, or_true, eq_self, sI_zw, zw_zw, hI_zw, tg_zw, ln_zw, hR_zw, hL_zw, hN_zw, hM_zw, upd_s, upd_u, upd_ne, Classical.not_not, k_Nw_commonNet, w1, ns]; try clear hgo9 hW9); try (obtain ⟨W9, hW9, hgo9⟩ := wp_ex (T_Nw_commonNet l G) [16] _; refine hgo9 200 _ _ _ _ ?_; simp -implicitDefEqProofs (disch := omega) only [hW9, inl, gate, Xq, tz_const, tz_iload, tz_lload, tz_dload, tz_aload, tz_istore, tz_astore, tz_lstore, tz_dstore, tz_iinc, tz_i1, tz_i2, tz_i2z, tz_l2, tz_l2z, tz_i2l, tz_l2i, tz_lcmp, tz_i2d, tz_d2, tz_dcmp, tz_dup, tz_dup2, tz_pop, tz_if, tz_icmp, tz_null, tz_goto, tz_sw, tz_getf, tz_puti, tz_putz, tz_putr, tz_putl, tz_iaload, tz_baload, tz_laload, tz_aaload, tz_iastore, tz_bastore, tz_lastore, tz_aastore, tz_alen, tz_new, tz_newa, tz_oinit, tz_iret, tz_zret, tz_lret, tz_dret, tz_aret, tz_vret, tz_throw, tz_callS, tz_callV, tz_callI, tz_callR, tz_pureS, tz_pureV, tz_callVH, lg, lset, lkill, lst1, lst2, entL, isRf, is1, vl, va_rf_none, va_rf_some, isRf_rf, is1_rf, i0, i1, bI_eq0, bI_eq1, nm_em, nI_eqP, nI_leP, nI_ltP, nN_e1, nN_e2, nN_l1, nN_l2, nN_l3, nN_l4, nI_add, pk_mul, vp_inN, nI_cl, n01, n10, P_i, P_ii, P_iii, f_Mo_at, f_Mo_map, f_Mo_contact, f_Mo_within, f_Mo_isPort, f_Hp_endpoint, f_Hp_nodeOf, f_Hp_portOf, f_Ma_max, f_Ma_min, f_Hp_isSetting, popN, rok, a1, noX, swc, mL, if_true, if_false, ↓reduceIte, cond_true, cond_false, true_and, and_true, List.length_cons, List.length_nil, List.nil_append, List.cons_append, List.append_nil, Option.toList, Nat.reduceEqDiff, Bool.false_eq_true, reduceCtorEq, Nat.reduceAdd, Nat.reduceLT, Nat.reduceLeDiff, Nat.reduceSub, List.replicate, Nat.zero_add, Nat.lt_add_one, Nat.le_refl, Nat.zero_le, Nat.succ_ne_zero, not_false_eq_true, not_true_eq_false, false_implies, true_implies, forall_const, imp_self, true_or, or_true, eq_self, sI_zw, zw_zw, hI_zw, tg_zw, ln_zw, hR_zw, hL_zw, hN_zw, hM_zw, upd_s, upd_u, upd_ne, Classical.not_not, k_Nw_commonNet, w1, ns]; try clear hgo9 hW9); try (obtain ⟨W9, hW9, hgo9⟩ := wp_ex (T_Nw_commonNet l G) [16] _; refine hgo9 200 _ _ _ _ ?_; simp -implicitDefEqProofs (disch := omega) only [hW9, inl, gate, Xq, tz_const, tz_iload, tz_lload, tz_dload, tz_aload, tz_istore, tz_astore, tz_lstore, tz_dstore, tz_iinc, tz_i1, tz_i2, tz_i2z, tz_l2, tz_l2z, tz_i2l, tz_l2i, tz_lcmp, tz_i2d, tz_d2, tz_dcmp, tz_dup, tz_dup2, tz_pop, tz_if, tz_icmp, tz_null, tz_goto, tz_sw, tz_getf, tz_puti, tz_putz, tz_putr, tz_putl, tz_iaload, tz_baload, tz_laload, tz_aaload, tz_iastore, tz_bastore, tz_lastore, tz_aastore, tz_alen, tz_new, tz_newa, tz_oinit, tz_iret, tz_zret, tz_lret, tz_dret, tz_aret, tz_vret, tz_throw, tz_callS, tz_callV, tz_callI, tz_callR, tz_pureS, tz_pureV, tz_callVH, lg, lset, lkill, lst1, lst2, entL, isRf, is1, vl, va_rf_none, va_rf_some, isRf_rf, is1_rf, i0, i1, bI_eq0, bI_eq1, nm_em, nI_eqP, nI_leP, nI_ltP, nN_e1, nN_e2, nN_l1, nN_l2, nN_l3, nN_l4, nI_add, pk_mul, vp_inN, nI_cl, n01, n10, P_i, P_ii, P_iii, f_Mo_at, f_Mo_map, f_Mo_contact, f_Mo_within, f_Mo_isPort, f_Hp_endpoint, f_Hp_nodeOf, f_Hp_portOf, f_Ma_max, f_Ma_min, f_Hp_isSetting, popN, rok, a1, noX, swc, mL, if_true, if_false, ↓reduceIte, cond_true, cond_false, true_and, and_true, List.length_cons, List.length_nil, List.nil_append, List.cons_append, List.append_nil, Option.toList, Nat.reduceEqDiff, Bool.false_eq_true, reduceCtorEq, Nat.reduceAdd, Nat.reduceLT, Nat.reduceLeDiff, Nat.reduceSub, List.replicate, Nat.zero_add, Nat.lt_add_one, Nat.le_refl, Nat.zero_le, Nat.succ_ne_zero, not_false_eq_true, not_true_eq_false, false_implies, true_implies, forall_const, imp_self, true_or, or_true, eq_self, sI_zw, zw_zw, hI_zw, tg_zw, ln_zw, hR_zw, hL_zw, hN_zw, hM_zw, upd_s, upd_u, upd_ne, Classical.not_not, k_Nw_commonNet, w1, ns]; try clear hgo9 hW9))
    exact hQ
  | succ N ih =>
    intro a b st net on hN hst ha hb ua ub hQ
    have ns : ¬ 20 ≤ st := by omega
    by_cases c : net = on
    · subst c
      have e1 : cmG z net 10 net = net := by
        rw [cmG]
        refine if_pos ?_
        by_cases q : net = nN
        · exact Or.inl q
        · refine Or.inr ?_
          rw [bhZ, if_pos (Or.inr rfl)]
      rw [e1] at hQ
      ((obtain ⟨W9, hW9, hgo9⟩ := wp_ex (T_Nw_commonNet l G) [16] _; refine hgo9 200 _ _ _ _ ?_; simp -implicitDefEqProofs (disch := omega) only [hW9, inl, gate, Xq, tz_const, tz_iload, tz_lload, tz_dload, tz_aload, tz_istore, tz_astore, tz_lstore, tz_dstore, tz_iinc, tz_i1, tz_i2, tz_i2z, tz_l2, tz_l2z, tz_i2l, tz_l2i, tz_lcmp, tz_i2d, tz_d2, tz_dcmp, tz_dup, tz_dup2, tz_pop, tz_if, tz_icmp, tz_null, tz_goto, tz_sw, tz_getf, tz_puti, tz_putz, tz_putr, tz_putl, tz_iaload, tz_baload, tz_laload, tz_aaload, tz_iastore, tz_bastore, tz_lastore, tz_aastore, tz_alen, tz_new, tz_newa, tz_oinit, tz_iret, tz_zret, tz_lret, tz_dret, tz_aret, tz_vret, tz_throw, tz_callS, tz_callV, tz_callI, tz_callR, tz_pureS, tz_pureV, tz_callVH, lg, lset, lkill, lst1, lst2, entL, isRf, is1, vl, va_rf_none, va_rf_some, isRf_rf, is1_rf, i0, i1, bI_eq0, bI_eq1, nm_em, nI_eqP, nI_leP, nI_ltP, nN_e1, nN_e2, nN_l1, nN_l2, nN_l3, nN_l4, nI_add, pk_mul, vp_inN, nI_cl, n01, n10, P_i, P_ii, P_iii, f_Mo_at, f_Mo_map, f_Mo_contact, f_Mo_within, f_Mo_isPort, f_Hp_endpoint, f_Hp_nodeOf, f_Hp_portOf, f_Ma_max, f_Ma_min, f_Hp_isSetting, popN, rok, a1, noX, swc, mL, if_true, if_false, ↓reduceIte, cond_true, cond_false, true_and, and_true, List.length_cons, List.length_nil, List.nil_append, List.cons_append, List.append_nil, Option.toList, Nat.reduceEqDiff, Bool.false_eq_true, reduceCtorEq, Nat.reduceAdd, Nat.reduceLT, Nat.reduceLeDiff, Nat.reduceSub, List.replicate, Nat.zero_add, Nat.lt_add_one, Nat.le_refl, Nat.zero_le, Nat.succ_ne_zero, not_false_eq_true, not_true_eq_false, false_implies, true_implies, forall_const, imp_self, true_or, or_true, eq_self, sI_zw, zw_zw, hI_zw, tg_zw, ln_zw, hR_zw, hL_zw, hN_zw, hM_zw, upd_s, upd_u, upd_ne, Classical.not_not, k_Nw_commonNet, w1, ns]; try clear hgo9 hW9); try (obtain ⟨W9, hW9, hgo9⟩ := wp_ex (T_Nw_commonNet l G) [16] _; refine hgo9 200 _ _ _ _ ?_; simp -implicitDefEqProofs (disch := omega) only [hW9, inl, gate, Xq, tz_const, tz_iload, tz_lload, tz_dload, tz_aload, tz_istore, tz_astore, tz_lstore, tz_dstore, tz_iinc, tz_i1, tz_i2, tz_i2z, tz_l2, tz_l2z, tz_i2l, tz_l2i, tz_lcmp, tz_i2d, tz_d2, tz_dcmp, tz_dup, tz_dup2, tz_pop, tz_if, tz_icmp, tz_null, tz_goto, tz_sw, tz_getf, tz_puti, tz_putz, tz_putr, tz_putl, tz_iaload, tz_baload, tz_laload, tz_aaload, tz_iastore, tz_bastore, tz_lastore, tz_aastore, tz_alen, tz_new, tz_newa, tz_oinit, tz_iret, tz_zret, tz_lret, tz_dret, tz_aret, tz_vret, tz_throw, tz_callS, tz_callV, tz_callI, tz_callR, tz_pureS, tz_pureV, tz_callVH, lg, lset, lkill, lst1, lst2, entL, isRf, is1, vl, va_rf_none, va_rf_some, isRf_rf, is1_rf, i0, i1, bI_eq0, bI_eq1, nm_em, nI_eqP, nI_leP, nI_ltP, nN_e1, nN_e2, nN_l1, nN_l2, nN_l3, nN_l4, nI_add, pk_mul, vp_inN, nI_cl, n01, n10, P_i, P_ii, P_iii, f_Mo_at, f_Mo_map, f_Mo_contact, f_Mo_within, f_Mo_isPort, f_Hp_endpoint, f_Hp_nodeOf, f_Hp_portOf, f_Ma_max, f_Ma_min, f_Hp_isSetting, popN, rok, a1, noX, swc, mL, if_true, if_false, ↓reduceIte, cond_true, cond_false, true_and, and_true, List.length_cons, List.length_nil, List.nil_append, List.cons_append, List.append_nil, Option.toList, Nat.reduceEqDiff, Bool.false_eq_true, reduceCtorEq, Nat.reduceAdd, Nat.reduceLT, Nat.reduceLeDiff, Nat.reduceSub, List.replicate, Nat.zero_add, Nat.lt_add_one, Nat.le_refl, Nat.zero_le, Nat.succ_ne_zero, not_false_eq_true, not_true_eq_false, false_implies, true_implies, forall_const, imp_self, true_or, or_true, eq_self, sI_zw, zw_zw, hI_zw, tg_zw, ln_zw, hR_zw, hL_zw, hN_zw, hM_zw, upd_s, upd_u, upd_ne, Classical.not_not, k_Nw_commonNet, w1, ns]; try clear hgo9 hW9); try (obtain ⟨W9, hW9, hgo9⟩ := wp_ex (T_Nw_commonNet l G) [16] _; refine hgo9 200 _ _ _ _ ?_; simp -implicitDefEqProofs (disch := omega) only [hW9, inl, gate, Xq, tz_const, tz_iload, tz_lload, tz_dload, tz_aload, tz_istore, tz_astore, tz_lstore, tz_dstore, tz_iinc, tz_i1, tz_i2, tz_i2z, tz_l2, tz_l2z, tz_i2l, tz_l2i, tz_lcmp, tz_i2d, tz_d2, tz_dcmp, tz_dup, tz_dup2, tz_pop, tz_if, tz_icmp, tz_null, tz_goto, tz_sw, tz_getf, tz_puti, tz_putz, tz_putr, tz_putl, tz_iaload, tz_baload, tz_laload, tz_aaload, tz_iastore, tz_bastore, tz_lastore, tz_aastore, tz_alen, tz_new, tz_newa, tz_oinit, tz_iret, tz_zret, tz_lret, tz_dret, tz_aret, tz_vret, tz_throw, tz_callS, tz_callV, tz_callI, tz_callR, tz_pureS, tz_pureV, tz_callVH, lg, lset, lkill, lst1, lst2, entL, isRf, is1, vl, va_rf_none, va_rf_some, isRf_rf, is1_rf, i0, i1, bI_eq0, bI_eq1, nm_em, nI_eqP, nI_leP, nI_ltP, nN_e1, nN_e2, nN_l1, nN_l2, nN_l3, nN_l4, nI_add, pk_mul, vp_inN, nI_cl, n01, n10, P_i, P_ii, P_iii, f_Mo_at, f_Mo_map, f_Mo_contact, f_Mo_within, f_Mo_isPort, f_Hp_endpoint, f_Hp_nodeOf, f_Hp_portOf, f_Ma_max, f_Ma_min, f_Hp_isSetting, popN, rok, a1, noX, swc, mL, if_true, if_false, ↓reduceIte, cond_true, cond_false, true_and, and_true, List.length_cons, List.length_nil, List.nil_append, List.cons_append, List.append_nil, Option.toList, Nat.reduceEqDiff, Bool.false_eq_true, reduceCtorEq, Nat.reduceAdd, Nat.reduceLT, Nat.reduceLeDiff, Nat.reduceSub, List.replicate, Nat.zero_add, Nat.lt_add_one, Nat.le_refl, Nat.zero_le, Nat.succ_ne_zero, not_false_eq_true, not_true_eq_false, false_implies, true_implies, forall_const, imp_self, true_or, or_true, eq_self, sI_zw, zw_zw, hI_zw, tg_zw, ln_zw, hR_zw, hL_zw, hN_zw, hM_zw, upd_s, upd_u, upd_ne, Classical.not_not, k_Nw_commonNet, w1, ns]; try clear hgo9 hW9))
      exact hQ
    · by_cases le : net ≤ on
      · rcases ub with e | ⟨j, j1, j2, e⟩
        · exfalso
          rcases ua with e' | ⟨i, i1, i2, e'⟩
          · exact c (by rw [e, e'])
          · rw [e, e', nN_l4 (by omega)] at le; exact le
        · subst e
          have lt : Up z j net := by
            rcases ua with e' | ⟨i, i1, i2, e'⟩
            · exact Or.inl e'
            · rw [e', nI_leP (by omega) (by omega)] at le
              rw [e', nI_eqP (by omega) (by omega)] at c
              exact Or.inr ⟨i, by omega, i2, e'⟩
          have ne1 := k.ne m10 j2
          ((obtain ⟨W9, hW9, hgo9⟩ := wp_ex (T_Nw_commonNet l G) [16] _; refine hgo9 200 _ _ _ _ ?_; simp -implicitDefEqProofs (disch := omega) only [hW9, inl, gate, Xq, tz_const, tz_iload, tz_lload, tz_dload, tz_aload, tz_istore, tz_astore, tz_lstore, tz_dstore, tz_iinc, tz_i1, tz_i2, tz_i2z, tz_l2, tz_l2z, tz_i2l, tz_l2i, tz_lcmp, tz_i2d, tz_d2, tz_dcmp, tz_dup, tz_dup2, tz_pop, tz_if, tz_icmp, tz_null, tz_goto, tz_sw, tz_getf, tz_puti, tz_putz, tz_putr, tz_putl, tz_iaload, tz_baload, tz_laload, tz_aaload, tz_iastore, tz_bastore, tz_lastore, tz_aastore, tz_alen, tz_new, tz_newa, tz_oinit, tz_iret, tz_zret, tz_lret, tz_dret, tz_aret, tz_vret, tz_throw, tz_callS, tz_callV, tz_callI, tz_callR, tz_pureS, tz_pureV, tz_callVH, lg, lset, lkill, lst1, lst2, entL, isRf, is1, vl, va_rf_none, va_rf_some, isRf_rf, is1_rf, i0, i1, bI_eq0, bI_eq1, nm_em, nI_eqP, nI_leP, nI_ltP, nN_e1, nN_e2, nN_l1, nN_l2, nN_l3, nN_l4, nI_add, pk_mul, vp_inN, nI_cl, n01, n10, P_i, P_ii, P_iii, f_Mo_at, f_Mo_map, f_Mo_contact, f_Mo_within, f_Mo_isPort, f_Hp_endpoint, f_Hp_nodeOf, f_Hp_portOf, f_Ma_max, f_Ma_min, f_Hp_isSetting, popN, rok, a1, noX, swc, mL, if_true, if_false, ↓reduceIte, cond_true, cond_false, true_and, and_true, List.length_cons, List.length_nil, List.nil_append, List.cons_append, List.append_nil, Option.toList, Nat.reduceEqDiff, Bool.false_eq_true, reduceCtorEq, Nat.reduceAdd, Nat.reduceLT, Nat.reduceLeDiff, Nat.reduceSub, List.replicate, Nat.zero_add, Nat.lt_add_one, Nat.le_refl, Nat.zero_le, Nat.succ_ne_zero, not_false_eq_true, not_true_eq_false, false_implies, true_implies, forall_const, imp_self, true_or, or_true, eq_self, sI_zw, zw_zw, hI_zw, tg_zw, ln_zw, hR_zw, hL_zw, hN_zw, hM_zw, upd_s, upd_u, upd_ne, Classical.not_not, k_Nw_commonNet, w1, ns, c, le, hPn, f_Nw_netOf, ne1]; try clear hgo9 hW9); try (obtain ⟨W9, hW9, hgo9⟩ := wp_ex (T_Nw_commonNet l G) [16] _; refine hgo9 200 _ _ _ _ ?_; simp -implicitDefEqProofs (disch := omega) only [hW9, inl, gate, Xq, tz_const, tz_iload, tz_lload, tz_dload, tz_aload, tz_istore, tz_astore, tz_lstore, tz_dstore, tz_iinc, tz_i1, tz_i2, tz_i2z, tz_l2, tz_l2z, tz_i2l, tz_l2i, tz_lcmp, tz_i2d, tz_d2, tz_dcmp, tz_dup, tz_dup2, tz_pop, tz_if, tz_icmp, tz_null, tz_goto, tz_sw, tz_getf, tz_puti, tz_putz, tz_putr, tz_putl, tz_iaload, tz_baload, tz_laload, tz_aaload, tz_iastore, tz_bastore, tz_lastore, tz_aastore, tz_alen, tz_new, tz_newa, tz_oinit, tz_iret, tz_zret, tz_lret, tz_dret, tz_aret, tz_vret, tz_throw, tz_callS, tz_callV, tz_callI, tz_callR, tz_pureS, tz_pureV, tz_callVH, lg, lset, lkill, lst1, lst2, entL, isRf, is1, vl, va_rf_none, va_rf_some, isRf_rf, is1_rf, i0, i1, bI_eq0, bI_eq1, nm_em, nI_eqP, nI_leP, nI_ltP, nN_e1, nN_e2, nN_l1, nN_l2, nN_l3, nN_l4, nI_add, pk_mul, vp_inN, nI_cl, n01, n10, P_i, P_ii, P_iii, f_Mo_at, f_Mo_map, f_Mo_contact, f_Mo_within, f_Mo_isPort, f_Hp_endpoint, f_Hp_nodeOf, f_Hp_portOf, f_Ma_max, f_Ma_min, f_Hp_isSetting, popN, rok, a1, noX, swc, mL, if_true, if_false, ↓reduceIte, cond_true, cond_false, true_and, and_true, List.length_cons, List.length_nil, List.nil_append, List.cons_append, List.append_nil, Option.toList, Nat.reduceEqDiff, Bool.false_eq_true, reduceCtorEq, Nat.reduceAdd, Nat.reduceLT, Nat.reduceLeDiff, Nat.reduceSub, List.replicate, Nat.zero_add, Nat.lt_add_one, Nat.le_refl, Nat.zero_le, Nat.succ_ne_zero, not_false_eq_true, not_true_eq_false, false_implies, true_implies, forall_const, imp_self, true_or, or_true, eq_self, sI_zw, zw_zw, hI_zw, tg_zw, ln_zw, hR_zw, hL_zw, hN_zw, hM_zw, upd_s, upd_u, upd_ne, Classical.not_not, k_Nw_commonNet, w1, ns, c, le, hPn, f_Nw_netOf, ne1]; try clear hgo9 hW9); try (obtain ⟨W9, hW9, hgo9⟩ := wp_ex (T_Nw_commonNet l G) [16] _; refine hgo9 200 _ _ _ _ ?_; simp -implicitDefEqProofs (disch := omega) only [hW9, inl, gate, Xq, tz_const, tz_iload, tz_lload, tz_dload, tz_aload, tz_istore, tz_astore, tz_lstore, tz_dstore, tz_iinc, tz_i1, tz_i2, tz_i2z, tz_l2, tz_l2z, tz_i2l, tz_l2i, tz_lcmp, tz_i2d, tz_d2, tz_dcmp, tz_dup, tz_dup2, tz_pop, tz_if, tz_icmp, tz_null, tz_goto, tz_sw, tz_getf, tz_puti, tz_putz, tz_putr, tz_putl, tz_iaload, tz_baload, tz_laload, tz_aaload, tz_iastore, tz_bastore, tz_lastore, tz_aastore, tz_alen, tz_new, tz_newa, tz_oinit, tz_iret, tz_zret, tz_lret, tz_dret, tz_aret, tz_vret, tz_throw, tz_callS, tz_callV, tz_callI, tz_callR, tz_pureS, tz_pureV, tz_callVH, lg, lset, lkill, lst1, lst2, entL, isRf, is1, vl, va_rf_none, va_rf_some, isRf_rf, is1_rf, i0, i1, bI_eq0, bI_eq1, nm_em, nI_eqP, nI_leP, nI_ltP, nN_e1, nN_e2, nN_l1, nN_l2, nN_l3, nN_l4, nI_add, pk_mul, vp_inN, nI_cl, n01, n10, P_i, P_ii, P_iii, f_Mo_at, f_Mo_map, f_Mo_contact, f_Mo_within, f_Mo_isPort, f_Hp_endpoint, f_Hp_nodeOf, f_Hp_portOf, f_Ma_max, f_Ma_min, f_Hp_isSetting, popN, rok, a1, noX, swc, mL, if_true, if_false, ↓reduceIte, cond_true, cond_false, true_and, and_true, List.length_cons, List.length_nil, List.nil_append, List.cons_append, List.append_nil, Option.toList, Nat.reduceEqDiff, Bool.false_eq_true, reduceCtorEq, Nat.reduceAdd, Nat.reduceLT, Nat.reduceLeDiff, Nat.reduceSub, List.replicate, Nat.zero_add, Nat.lt_add_one, Nat.le_refl, Nat.zero_le, Nat.succ_ne_zero, not_false_eq_true, not_true_eq_false, false_implies, true_implies, forall_const, imp_self, true_or, or_true, eq_self, sI_zw, zw_zw, hI_zw, tg_zw, ln_zw, hR_zw, hL_zw, hN_zw, hM_zw, upd_s, upd_u, upd_ne, Classical.not_not, k_Nw_commonNet, w1, ns, c, le, hPn, f_Nw_netOf, ne1]; try clear hgo9 hW9); try (obtain ⟨W9, hW9, hgo9⟩ := wp_ex (T_Nw_commonNet l G) [16] _; refine hgo9 200 _ _ _ _ ?_; simp -implicitDefEqProofs (disch := omega) only [hW9, inl, gate, Xq, tz_const, tz_iload, tz_lload, tz_dload, tz_aload, tz_istore, tz_astore, tz_lstore, tz_dstore, tz_iinc, tz_i1, tz_i2, tz_i2z, tz_l2, tz_l2z, tz_i2l, tz_l2i, tz_lcmp, tz_i2d, tz_d2, tz_dcmp, tz_dup, tz_dup2, tz_pop, tz_if, tz_icmp, tz_null, tz_goto, tz_sw, tz_getf, tz_puti, tz_putz, tz_putr, tz_putl, tz_iaload, tz_baload, tz_laload, tz_aaload, tz_iastore, tz_bastore, tz_lastore, tz_aastore, tz_alen, tz_new, tz_newa, tz_oinit, tz_iret, tz_zret, tz_lret, tz_dret, tz_aret, tz_vret, tz_throw, tz_callS, tz_callV, tz_callI, tz_callR, tz_pureS, tz_pureV, tz_callVH, lg, lset, lkill, lst1, lst2, entL, isRf, is1, vl, va_rf_none, va_rf_some, isRf_rf, is1_rf, i0, i1, bI_eq0, bI_eq1, nm_em, nI_eqP, nI_leP, nI_ltP, nN_e1, nN_e2, nN_l1, nN_l2, nN_l3, nN_l4, nI_add, pk_mul, vp_inN, nI_cl, n01, n10, P_i, P_ii, P_iii, f_Mo_at, f_Mo_map, f_Mo_contact, f_Mo_within, f_Mo_isPort, f_Hp_endpoint, f_Hp_nodeOf, f_Hp_portOf, f_Ma_max, f_Ma_min, f_Hp_isSetting, popN, rok, a1, noX, swc, mL, if_true, if_false, ↓reduceIte, cond_true, cond_false, true_and, and_true, List.length_cons, List.length_nil, List.nil_append, List.cons_append, List.append_nil, Option.toList, Nat.reduceEqDiff, Bool.false_eq_true, reduceCtorEq, Nat.reduceAdd, Nat.reduceLT, Nat.reduceLeDiff, Nat.reduceSub, List.replicate, Nat.zero_add, Nat.lt_add_one, Nat.le_refl, Nat.zero_le, Nat.succ_ne_zero, not_false_eq_true, not_true_eq_false, false_implies, true_implies, forall_const, imp_self, true_or, or_true, eq_self, sI_zw, zw_zw, hI_zw, tg_zw, ln_zw, hR_zw, hL_zw, hN_zw, hM_zw, upd_s, upd_u, upd_ne, Classical.not_not, k_Nw_commonNet, w1, ns, c, le, hPn, f_Nw_netOf, ne1]; try clear hgo9 hW9))
          refine ih a j (st + 1) net _ (by omega) (by omega) ha (by omega) ua (Up.of hn j2) ?_
          have q1 := cmG_fuel hn (on := nI j) m10 j 10 net lt (by omega)
          have q2 := cmG_fuel hn (on := netZ z j) m10 j 10 net lt (by omega)
          rw [q1, cmG_up hn m10 j2 j net lt (Nat.le_refl _), ← q2] at hQ
          exact hQ
      · rcases ua with e | ⟨j, j1, j2, e⟩
        · exfalso
          rcases ub with e' | ⟨i, i1, i2, e'⟩
          · exact c (by rw [e, e'])
          · exact le (by rw [e, e', nN_l3 (by omega)]; trivial)
        · subst e
          have lt : Up z j on := by
            rcases ub with e' | ⟨i, i1, i2, e'⟩
            · exact Or.inl e'
            · rw [e', nI_leP (by omega) (by omega)] at le
              exact Or.inr ⟨i, by omega, i2, e'⟩
          have ne1 := k.ne m10 j2
          ((obtain ⟨W9, hW9, hgo9⟩ := wp_ex (T_Nw_commonNet l G) [16] _; refine hgo9 200 _ _ _ _ ?_; simp -implicitDefEqProofs (disch := omega) only [hW9, inl, gate, Xq, tz_const, tz_iload, tz_lload, tz_dload, tz_aload, tz_istore, tz_astore, tz_lstore, tz_dstore, tz_iinc, tz_i1, tz_i2, tz_i2z, tz_l2, tz_l2z, tz_i2l, tz_l2i, tz_lcmp, tz_i2d, tz_d2, tz_dcmp, tz_dup, tz_dup2, tz_pop, tz_if, tz_icmp, tz_null, tz_goto, tz_sw, tz_getf, tz_puti, tz_putz, tz_putr, tz_putl, tz_iaload, tz_baload, tz_laload, tz_aaload, tz_iastore, tz_bastore, tz_lastore, tz_aastore, tz_alen, tz_new, tz_newa, tz_oinit, tz_iret, tz_zret, tz_lret, tz_dret, tz_aret, tz_vret, tz_throw, tz_callS, tz_callV, tz_callI, tz_callR, tz_pureS, tz_pureV, tz_callVH, lg, lset, lkill, lst1, lst2, entL, isRf, is1, vl, va_rf_none, va_rf_some, isRf_rf, is1_rf, i0, i1, bI_eq0, bI_eq1, nm_em, nI_eqP, nI_leP, nI_ltP, nN_e1, nN_e2, nN_l1, nN_l2, nN_l3, nN_l4, nI_add, pk_mul, vp_inN, nI_cl, n01, n10, P_i, P_ii, P_iii, f_Mo_at, f_Mo_map, f_Mo_contact, f_Mo_within, f_Mo_isPort, f_Hp_endpoint, f_Hp_nodeOf, f_Hp_portOf, f_Ma_max, f_Ma_min, f_Hp_isSetting, popN, rok, a1, noX, swc, mL, if_true, if_false, ↓reduceIte, cond_true, cond_false, true_and, and_true, List.length_cons, List.length_nil, List.nil_append, List.cons_append, List.append_nil, Option.toList, Nat.reduceEqDiff, Bool.false_eq_true, reduceCtorEq, Nat.reduceAdd, Nat.reduceLT, Nat.reduceLeDiff, Nat.reduceSub, List.replicate, Nat.zero_add, Nat.lt_add_one, Nat.le_refl, Nat.zero_le, Nat.succ_ne_zero, not_false_eq_true, not_true_eq_false, false_implies, true_implies, forall_const, imp_self, true_or, or_true, eq_self, sI_zw, zw_zw, hI_zw, tg_zw, ln_zw, hR_zw, hL_zw, hN_zw, hM_zw, upd_s, upd_u, upd_ne, Classical.not_not, k_Nw_commonNet, w1, ns, c, le, hPn, f_Nw_netOf, ne1]; try clear hgo9 hW9); try (obtain ⟨W9, hW9, hgo9⟩ := wp_ex (T_Nw_commonNet l G) [16] _; refine hgo9 200 _ _ _ _ ?_; simp -implicitDefEqProofs (disch := omega) only [hW9, inl, gate, Xq, tz_const, tz_iload, tz_lload, tz_dload, tz_aload, tz_istore, tz_astore, tz_lstore, tz_dstore, tz_iinc, tz_i1, tz_i2, tz_i2z, tz_l2, tz_l2z, tz_i2l, tz_l2i, tz_lcmp, tz_i2d, tz_d2, tz_dcmp, tz_dup, tz_dup2, tz_pop, tz_if, tz_icmp, tz_null, tz_goto, tz_sw, tz_getf, tz_puti, tz_putz, tz_putr, tz_putl, tz_iaload, tz_baload, tz_laload, tz_aaload, tz_iastore, tz_bastore, tz_lastore, tz_aastore, tz_alen, tz_new, tz_newa, tz_oinit, tz_iret, tz_zret, tz_lret, tz_dret, tz_aret, tz_vret, tz_throw, tz_callS, tz_callV, tz_callI, tz_callR, tz_pureS, tz_pureV, tz_callVH, lg, lset, lkill, lst1, lst2, entL, isRf, is1, vl, va_rf_none, va_rf_some, isRf_rf, is1_rf, i0, i1, bI_eq0, bI_eq1, nm_em, nI_eqP, nI_leP, nI_ltP, nN_e1, nN_e2, nN_l1, nN_l2, nN_l3, nN_l4, nI_add, pk_mul, vp_inN, nI_cl, n01, n10, P_i, P_ii, P_iii, f_Mo_at, f_Mo_map, f_Mo_contact, f_Mo_within, f_Mo_isPort, f_Hp_endpoint, f_Hp_nodeOf, f_Hp_portOf, f_Ma_max, f_Ma_min, f_Hp_isSetting, popN, rok, a1, noX, swc, mL, if_true, if_false, ↓reduceIte, cond_true, cond_false, true_and, and_true, List.length_cons, List.length_nil, List.nil_append, List.cons_append, List.append_nil, Option.toList, Nat.reduceEqDiff, Bool.false_eq_true, reduceCtorEq, Nat.reduceAdd, Nat.reduceLT, Nat.reduceLeDiff, Nat.reduceSub, List.replicate, Nat.zero_add, Nat.lt_add_one, Nat.le_refl, Nat.zero_le, Nat.succ_ne_zero, not_false_eq_true, not_true_eq_false, false_implies, true_implies, forall_const, imp_self, true_or, or_true, eq_self, sI_zw, zw_zw, hI_zw, tg_zw, ln_zw, hR_zw, hL_zw, hN_zw, hM_zw, upd_s, upd_u, upd_ne, Classical.not_not, k_Nw_commonNet, w1, ns, c, le, hPn, f_Nw_netOf, ne1]; try clear hgo9 hW9); try (obtain ⟨W9, hW9, hgo9⟩ := wp_ex (T_Nw_commonNet l G) [16] _; refine hgo9 200 _ _ _ _ ?_; simp -implicitDefEqProofs (disch := omega) only [hW9, inl, gate, Xq, tz_const, tz_iload, tz_lload, tz_dload, tz_aload, tz_istore, tz_astore, tz_lstore, tz_dstore, tz_iinc, tz_i1, tz_i2, tz_i2z, tz_l2, tz_l2z, tz_i2l, tz_l2i, tz_lcmp, tz_i2d, tz_d2, tz_dcmp, tz_dup, tz_dup2, tz_pop, tz_if, tz_icmp, tz_null, tz_goto, tz_sw, tz_getf, tz_puti, tz_putz, tz_putr, tz_putl, tz_iaload, tz_baload, tz_laload, tz_aaload, tz_iastore, tz_bastore, tz_lastore, tz_aastore, tz_alen, tz_new, tz_newa, tz_oinit, tz_iret, tz_zret, tz_lret, tz_dret, tz_aret, tz_vret, tz_throw, tz_callS, tz_callV, tz_callI, tz_callR, tz_pureS, tz_pureV, tz_callVH, lg, lset, lkill, lst1, lst2, entL, isRf, is1, vl, va_rf_none, va_rf_some, isRf_rf, is1_rf, i0, i1, bI_eq0, bI_eq1, nm_em, nI_eqP, nI_leP, nI_ltP, nN_e1, nN_e2, nN_l1, nN_l2, nN_l3, nN_l4, nI_add, pk_mul, vp_inN, nI_cl, n01, n10, P_i, P_ii, P_iii, f_Mo_at, f_Mo_map, f_Mo_contact, f_Mo_within, f_Mo_isPort, f_Hp_endpoint, f_Hp_nodeOf, f_Hp_portOf, f_Ma_max, f_Ma_min, f_Hp_isSetting, popN, rok, a1, noX, swc, mL, if_true, if_false, ↓reduceIte, cond_true, cond_false, true_and, and_true, List.length_cons, List.length_nil, List.nil_append, List.cons_append, List.append_nil, Option.toList, Nat.reduceEqDiff, Bool.false_eq_true, reduceCtorEq, Nat.reduceAdd, Nat.reduceLT, Nat.reduceLeDiff, Nat.reduceSub, List.replicate, Nat.zero_add, Nat.lt_add_one, Nat.le_refl, Nat.zero_le, Nat.succ_ne_zero, not_false_eq_true, not_true_eq_false, false_implies, true_implies, forall_const, imp_self, true_or, or_true, eq_self, sI_zw, zw_zw, hI_zw, tg_zw, ln_zw, hR_zw, hL_zw, hN_zw, hM_zw, upd_s, upd_u, upd_ne, Classical.not_not, k_Nw_commonNet, w1, ns, c, le, hPn, f_Nw_netOf, ne1]; try clear hgo9 hW9); try (obtain ⟨W9, hW9, hgo9⟩ := wp_ex (T_Nw_commonNet l G) [16] _; refine hgo9 200 _ _ _ _ ?_; simp -implicitDefEqProofs (disch := omega) only [hW9, inl, gate, Xq, tz_const, tz_iload, tz_lload, tz_dload, tz_aload, tz_istore, tz_astore, tz_lstore, tz_dstore, tz_iinc, tz_i1, tz_i2, tz_i2z, tz_l2, tz_l2z, tz_i2l, tz_l2i, tz_lcmp, tz_i2d, tz_d2, tz_dcmp, tz_dup, tz_dup2, tz_pop, tz_if, tz_icmp, tz_null, tz_goto, tz_sw, tz_getf, tz_puti, tz_putz, tz_putr, tz_putl, tz_iaload, tz_baload, tz_laload, tz_aaload, tz_iastore, tz_bastore, tz_lastore, tz_aastore, tz_alen, tz_new, tz_newa, tz_oinit, tz_iret, tz_zret, tz_lret, tz_dret, tz_aret, tz_vret, tz_throw, tz_callS, tz_callV, tz_callI, tz_callR, tz_pureS, tz_pureV, tz_callVH, lg, lset, lkill, lst1, lst2, entL, isRf, is1, vl, va_rf_none, va_rf_some, isRf_rf, is1_rf, i0, i1, bI_eq0, bI_eq1, nm_em, nI_eqP, nI_leP, nI_ltP, nN_e1, nN_e2, nN_l1, nN_l2, nN_l3, nN_l4, nI_add, pk_mul, vp_inN, nI_cl, n01, n10, P_i, P_ii, P_iii, f_Mo_at, f_Mo_map, f_Mo_contact, f_Mo_within, f_Mo_isPort, f_Hp_endpoint, f_Hp_nodeOf, f_Hp_portOf, f_Ma_max, f_Ma_min, f_Hp_isSetting, popN, rok, a1, noX, swc, mL, if_true, if_false, ↓reduceIte, cond_true, cond_false, true_and, and_true, List.length_cons, List.length_nil, List.nil_append, List.cons_append, List.append_nil, Option.toList, Nat.reduceEqDiff, Bool.false_eq_true, reduceCtorEq, Nat.reduceAdd, Nat.reduceLT, Nat.reduceLeDiff, Nat.reduceSub, List.replicate, Nat.zero_add, Nat.lt_add_one, Nat.le_refl, Nat.zero_le, Nat.succ_ne_zero, not_false_eq_true, not_true_eq_false, false_implies, true_implies, forall_const, imp_self, true_or, or_true, eq_self, sI_zw, zw_zw, hI_zw, tg_zw, ln_zw, hR_zw, hL_zw, hN_zw, hM_zw, upd_s, upd_u, upd_ne, Classical.not_not, k_Nw_commonNet, w1, ns, c, le, hPn, f_Nw_netOf, ne1]; try clear hgo9 hW9))
          refine ih j b (st + 1) _ on (by omega) (by omega) (by omega) hb (Up.of hn j2) ub ?_
          have nb : ¬ (nI j = nN ∨ bhZ z (nI j) 10 on) := by
            rintro (w | w)
            · rw [nN_e2 (by omega)] at w; exact w
            · exact bh_low hn (by omega) 10 on lt m10 w
          rw [cmG, if_neg nb, nI_clamp (by omega)] at hQ
          have u9 := (Up.of hn j2).mono (show j ≤ 9 by omega)
          rw [← cmG_fuel hn m10 9 10 _ u9 (by omega)] at hQ
          exact hQ
theorem c_Hp_common (A : Nat → Nat) (a b : Int32) (z zs t : Nat → Int32) (n : Nat) (h : AH) (Q : Po) (k : HpR h A z zs t n) (iv : Inv z) (q1 : ¬ (NdZ z a ∧ NdZ z b) → Q (.inr IOE) (nx h)) (q2 : ∀ i j, i < mny z → a = nI i → j < mny z → b = nI j → Q (.inl (some (.int (cmZ z j 10 (netZ z i))))) h) : Call l G M_Hp_common [.ref (A 0), .int a, .int b] h Q := by
  have x6 := k.1.1.1
  have x0 := k.1.2.1.1
  have w1 := k.2.1.1.1.1
  have m10 := iv.1.1.at.2
  have hPn : ∀ x, P_Nw_nodeAt [.ref (A 1), .int x] h := fun _ => k.2.1.1.1
  refine call_of rfl rfl (Nat.le_of_ble_eq_true rfl) ?_
  by_cases c : NdZ z a
  · obtain ⟨d, e⟩ := (ndF_iff k.2.1 iv.1 a).1 c
    by_cases c2 : NdZ z b
    · obtain ⟨d', e'⟩ := (ndF_iff k.2.1 iv.1 b).1 c2
      obtain ⟨i, i1, rfl⟩ := c
      obtain ⟨j, j1, rfl⟩ := c2
      (obtain ⟨W9, hW9, hgo9⟩ := wp_ex (T_Hp_common l G) [] _; refine hgo9 200 _ _ _ _ ?_; simp -implicitDefEqProofs (disch := omega) only [hW9, inl, gate, Xq, tz_const, tz_iload, tz_lload, tz_dload, tz_aload, tz_istore, tz_astore, tz_lstore, tz_dstore, tz_iinc, tz_i1, tz_i2, tz_i2z, tz_l2, tz_l2z, tz_i2l, tz_l2i, tz_lcmp, tz_i2d, tz_d2, tz_dcmp, tz_dup, tz_dup2, tz_pop, tz_if, tz_icmp, tz_null, tz_goto, tz_sw, tz_getf, tz_puti, tz_putz, tz_putr, tz_putl, tz_iaload, tz_baload, tz_laload, tz_aaload, tz_iastore, tz_bastore, tz_lastore, tz_aastore, tz_alen, tz_new, tz_newa, tz_oinit, tz_iret, tz_zret, tz_lret, tz_dret, tz_aret, tz_vret, tz_throw, tz_callS, tz_callV, tz_callI, tz_callR, tz_pureS, tz_pureV, tz_callVH, lg, lset, lkill, lst1, lst2, entL, isRf, is1, vl, va_rf_none, va_rf_some, isRf_rf, is1_rf, i0, i1, bI_eq0, bI_eq1, nm_em, nI_eqP, nI_leP, nI_ltP, nN_e1, nN_e2, nN_l1, nN_l2, nN_l3, nN_l4, nI_add, pk_mul, vp_inN, nI_cl, n01, n10, P_i, P_ii, P_iii, f_Mo_at, f_Mo_map, f_Mo_contact, f_Mo_within, f_Mo_isPort, f_Hp_endpoint, f_Hp_nodeOf, f_Hp_portOf, f_Ma_max, f_Ma_min, f_Hp_isSetting, popN, rok, a1, noX, swc, mL, if_true, if_false, ↓reduceIte, cond_true, cond_false, true_and, and_true, List.length_cons, List.length_nil, List.nil_append, List.cons_append, List.append_nil, Option.toList, Nat.reduceEqDiff, Bool.false_eq_true, reduceCtorEq, Nat.reduceAdd, Nat.reduceLT, Nat.reduceLeDiff, Nat.reduceSub, List.replicate, Nat.zero_add, Nat.lt_add_one, Nat.le_refl, Nat.zero_le, Nat.succ_ne_zero, not_false_eq_true, not_true_eq_false, false_implies, true_implies, forall_const, imp_self, true_or, or_true, eq_self, sI_zw, zw_zw, hI_zw, tg_zw, ln_zw, hR_zw, hL_zw, hN_zw, hM_zw, upd_s, upd_u, upd_ne, Classical.not_not, k_Hp_common, x6, x0, w1, hPn, f_Nw_nodeAt, e, e']; try clear hgo9 hW9)
      have hPe : ∀ x, P_Nw_netOf [.ref (A 1), .int x] h := fun x => k.2.1.1.NdK x
      have ni := k.2.1.ne m10 i1
      have nj := k.2.1.ne m10 j1
      refine call_of rfl rfl (Nat.le_of_ble_eq_true rfl) ?_
      (obtain ⟨W9, hW9, hgo9⟩ := wp_ex (T_Nw_commonNet l G) [16] _; refine hgo9 200 _ _ _ _ ?_; simp -implicitDefEqProofs (disch := omega) only [hW9, inl, gate, Xq, tz_const, tz_iload, tz_lload, tz_dload, tz_aload, tz_istore, tz_astore, tz_lstore, tz_dstore, tz_iinc, tz_i1, tz_i2, tz_i2z, tz_l2, tz_l2z, tz_i2l, tz_l2i, tz_lcmp, tz_i2d, tz_d2, tz_dcmp, tz_dup, tz_dup2, tz_pop, tz_if, tz_icmp, tz_null, tz_goto, tz_sw, tz_getf, tz_puti, tz_putz, tz_putr, tz_putl, tz_iaload, tz_baload, tz_laload, tz_aaload, tz_iastore, tz_bastore, tz_lastore, tz_aastore, tz_alen, tz_new, tz_newa, tz_oinit, tz_iret, tz_zret, tz_lret, tz_dret, tz_aret, tz_vret, tz_throw, tz_callS, tz_callV, tz_callI, tz_callR, tz_pureS, tz_pureV, tz_callVH, lg, lset, lkill, lst1, lst2, entL, isRf, is1, vl, va_rf_none, va_rf_some, isRf_rf, is1_rf, i0, i1, bI_eq0, bI_eq1, nm_em, nI_eqP, nI_leP, nI_ltP, nN_e1, nN_e2, nN_l1, nN_l2, nN_l3, nN_l4, nI_add, pk_mul, vp_inN, nI_cl, n01, n10, P_i, P_ii, P_iii, f_Mo_at, f_Mo_map, f_Mo_contact, f_Mo_within, f_Mo_isPort, f_Hp_endpoint, f_Hp_nodeOf, f_Hp_portOf, f_Ma_max, f_Ma_min, f_Hp_isSetting, popN, rok, a1, noX, swc, mL, if_true, if_false, ↓reduceIte, cond_true, cond_false, true_and, and_true, List.length_cons, List.length_nil, List.nil_append, List.cons_append, List.append_nil, Option.toList, Nat.reduceEqDiff, Bool.false_eq_true, reduceCtorEq, Nat.reduceAdd, Nat.reduceLT, Nat.reduceLeDiff, Nat.reduceSub, List.replicate, Nat.zero_add, Nat.lt_add_one, Nat.le_refl, Nat.zero_le, Nat.succ_ne_zero, not_false_eq_true, not_true_eq_false, false_implies, true_implies, forall_const, imp_self, true_or, or_true, eq_self, sI_zw, zw_zw, hI_zw, tg_zw, ln_zw, hR_zw, hL_zw, hN_zw, hM_zw, upd_s, upd_u, upd_ne, Classical.not_not, k_Nw_commonNet, w1, hPe, f_Nw_netOf, ni, nj]; try clear hgo9 hW9)
      refine lp_cn k.2.1 iv.1 18 i j 0 _ _ (by omega) (by omega) (by omega) (by omega) (Up.of iv.1.net i1) (Up.of iv.1.net j1) ?_
      simp only [aft]
      (obtain ⟨W9, hW9, hgo9⟩ := wp_ex (T_Hp_common l G) [] _; refine hgo9 200 _ _ _ _ ?_; simp -implicitDefEqProofs (disch := omega) only [hW9, inl, gate, Xq, tz_const, tz_iload, tz_lload, tz_dload, tz_aload, tz_istore, tz_astore, tz_lstore, tz_dstore, tz_iinc, tz_i1, tz_i2, tz_i2z, tz_l2, tz_l2z, tz_i2l, tz_l2i, tz_lcmp, tz_i2d, tz_d2, tz_dcmp, tz_dup, tz_dup2, tz_pop, tz_if, tz_icmp, tz_null, tz_goto, tz_sw, tz_getf, tz_puti, tz_putz, tz_putr, tz_putl, tz_iaload, tz_baload, tz_laload, tz_aaload, tz_iastore, tz_bastore, tz_lastore, tz_aastore, tz_alen, tz_new, tz_newa, tz_oinit, tz_iret, tz_zret, tz_lret, tz_dret, tz_aret, tz_vret, tz_throw, tz_callS, tz_callV, tz_callI, tz_callR, tz_pureS, tz_pureV, tz_callVH, lg, lset, lkill, lst1, lst2, entL, isRf, is1, vl, va_rf_none, va_rf_some, isRf_rf, is1_rf, i0, i1, bI_eq0, bI_eq1, nm_em, nI_eqP, nI_leP, nI_ltP, nN_e1, nN_e2, nN_l1, nN_l2, nN_l3, nN_l4, nI_add, pk_mul, vp_inN, nI_cl, n01, n10, P_i, P_ii, P_iii, f_Mo_at, f_Mo_map, f_Mo_contact, f_Mo_within, f_Mo_isPort, f_Hp_endpoint, f_Hp_nodeOf, f_Hp_portOf, f_Ma_max, f_Ma_min, f_Hp_isSetting, popN, rok, a1, noX, swc, mL, if_true, if_false, ↓reduceIte, cond_true, cond_false, true_and, and_true, List.length_cons, List.length_nil, List.nil_append, List.cons_append, List.append_nil, Option.toList, Nat.reduceEqDiff, Bool.false_eq_true, reduceCtorEq, Nat.reduceAdd, Nat.reduceLT, Nat.reduceLeDiff, Nat.reduceSub, List.replicate, Nat.zero_add, Nat.lt_add_one, Nat.le_refl, Nat.zero_le, Nat.succ_ne_zero, not_false_eq_true, not_true_eq_false, false_implies, true_implies, forall_const, imp_self, true_or, or_true, eq_self, sI_zw, zw_zw, hI_zw, tg_zw, ln_zw, hR_zw, hL_zw, hN_zw, hM_zw, upd_s, upd_u, upd_ne, Classical.not_not, k_Hp_common, x6]; try clear hgo9 hW9)
      have := q2 i j i1 rfl j1 rfl
      rw [cmZ_G] at this
      exact this
    · have e' := (ndF_iff k.2.1 iv.1 b).2 c2
      (obtain ⟨W9, hW9, hgo9⟩ := wp_ex (T_Hp_common l G) [] _; refine hgo9 200 _ _ _ _ ?_; simp -implicitDefEqProofs (disch := omega) only [hW9, inl, gate, Xq, tz_const, tz_iload, tz_lload, tz_dload, tz_aload, tz_istore, tz_astore, tz_lstore, tz_dstore, tz_iinc, tz_i1, tz_i2, tz_i2z, tz_l2, tz_l2z, tz_i2l, tz_l2i, tz_lcmp, tz_i2d, tz_d2, tz_dcmp, tz_dup, tz_dup2, tz_pop, tz_if, tz_icmp, tz_null, tz_goto, tz_sw, tz_getf, tz_puti, tz_putz, tz_putr, tz_putl, tz_iaload, tz_baload, tz_laload, tz_aaload, tz_iastore, tz_bastore, tz_lastore, tz_aastore, tz_alen, tz_new, tz_newa, tz_oinit, tz_iret, tz_zret, tz_lret, tz_dret, tz_aret, tz_vret, tz_throw, tz_callS, tz_callV, tz_callI, tz_callR, tz_pureS, tz_pureV, tz_callVH, lg, lset, lkill, lst1, lst2, entL, isRf, is1, vl, va_rf_none, va_rf_some, isRf_rf, is1_rf, i0, i1, bI_eq0, bI_eq1, nm_em, nI_eqP, nI_leP, nI_ltP, nN_e1, nN_e2, nN_l1, nN_l2, nN_l3, nN_l4, nI_add, pk_mul, vp_inN, nI_cl, n01, n10, P_i, P_ii, P_iii, f_Mo_at, f_Mo_map, f_Mo_contact, f_Mo_within, f_Mo_isPort, f_Hp_endpoint, f_Hp_nodeOf, f_Hp_portOf, f_Ma_max, f_Ma_min, f_Hp_isSetting, popN, rok, a1, noX, swc, mL, if_true, if_false, ↓reduceIte, cond_true, cond_false, true_and, and_true, List.length_cons, List.length_nil, List.nil_append, List.cons_append, List.append_nil, Option.toList, Nat.reduceEqDiff, Bool.false_eq_true, reduceCtorEq, Nat.reduceAdd, Nat.reduceLT, Nat.reduceLeDiff, Nat.reduceSub, List.replicate, Nat.zero_add, Nat.lt_add_one, Nat.le_refl, Nat.zero_le, Nat.succ_ne_zero, not_false_eq_true, not_true_eq_false, false_implies, true_implies, forall_const, imp_self, true_or, or_true, eq_self, sI_zw, zw_zw, hI_zw, tg_zw, ln_zw, hR_zw, hL_zw, hN_zw, hM_zw, upd_s, upd_u, upd_ne, Classical.not_not, k_Hp_common, x6, x0, w1, hPn, f_Nw_nodeAt, e, e']; try clear hgo9 hW9)
      exact q1 (fun q => c2 q.2)
  · have e := (ndF_iff k.2.1 iv.1 a).2 c
    (obtain ⟨W9, hW9, hgo9⟩ := wp_ex (T_Hp_common l G) [] _; refine hgo9 200 _ _ _ _ ?_; simp -implicitDefEqProofs (disch := omega) only [hW9, inl, gate, Xq, tz_const, tz_iload, tz_lload, tz_dload, tz_aload, tz_istore, tz_astore, tz_lstore, tz_dstore, tz_iinc, tz_i1, tz_i2, tz_i2z, tz_l2, tz_l2z, tz_i2l, tz_l2i, tz_lcmp, tz_i2d, tz_d2, tz_dcmp, tz_dup, tz_dup2, tz_pop, tz_if, tz_icmp, tz_null, tz_goto, tz_sw, tz_getf, tz_puti, tz_putz, tz_putr, tz_putl, tz_iaload, tz_baload, tz_laload, tz_aaload, tz_iastore, tz_bastore, tz_lastore, tz_aastore, tz_alen, tz_new, tz_newa, tz_oinit, tz_iret, tz_zret, tz_lret, tz_dret, tz_aret, tz_vret, tz_throw, tz_callS, tz_callV, tz_callI, tz_callR, tz_pureS, tz_pureV, tz_callVH, lg, lset, lkill, lst1, lst2, entL, isRf, is1, vl, va_rf_none, va_rf_some, isRf_rf, is1_rf, i0, i1, bI_eq0, bI_eq1, nm_em, nI_eqP, nI_leP, nI_ltP, nN_e1, nN_e2, nN_l1, nN_l2, nN_l3, nN_l4, nI_add, pk_mul, vp_inN, nI_cl, n01, n10, P_i, P_ii, P_iii, f_Mo_at, f_Mo_map, f_Mo_contact, f_Mo_within, f_Mo_isPort, f_Hp_endpoint, f_Hp_nodeOf, f_Hp_portOf, f_Ma_max, f_Ma_min, f_Hp_isSetting, popN, rok, a1, noX, swc, mL, if_true, if_false, ↓reduceIte, cond_true, cond_false, true_and, and_true, List.length_cons, List.length_nil, List.nil_append, List.cons_append, List.append_nil, Option.toList, Nat.reduceEqDiff, Bool.false_eq_true, reduceCtorEq, Nat.reduceAdd, Nat.reduceLT, Nat.reduceLeDiff, Nat.reduceSub, List.replicate, Nat.zero_add, Nat.lt_add_one, Nat.le_refl, Nat.zero_le, Nat.succ_ne_zero, not_false_eq_true, not_true_eq_false, false_implies, true_implies, forall_const, imp_self, true_or, or_true, eq_self, sI_zw, zw_zw, hI_zw, tg_zw, ln_zw, hR_zw, hL_zw, hN_zw, hM_zw, upd_s, upd_u, upd_ne, Classical.not_not, k_Hp_common, x6, x0, w1, hPn, f_Nw_nodeAt, e]; try clear hgo9 hW9)
    exact q1 (fun q => c q.1)
theorem lp_lt {wn b d : Nat} {x1 : Int32} {z : Nat → Int32} {h : AH} {Q : Po} (k : NwR h wn z) (inv : Inv z) (hb : b < mny z) (hd : 1 ≤ d ∧ d ≤ 9999) : ∀ (f st : Nat) (net least : Int32) (sa sp : Nat) (v8 v9 v10 : Option Value), f + st = 10 → (sa < mny z ∧ z (16 + 16 * sa + 1) = net ∧ 1 ≤ sp ∧ sp ≤ 9999) → (net = nN ∨ ∃ t, net = nI t ∧ t + 1 < f) → 1 ≤ f → Q (.inl (some (.int (llZ z b (nI d) f net (nI sa) (nI sp) least)))) h →
    AWp l G M_Nw_leastTicksLeft 28 [some (.ref wn), some (.int x1), some (.int (nI (b * 10000 + d))), some (.int (z (16 + 16 * b + 1))), some (.int net), some (.int (nI (sa * 10000 + sp))), some (.int least), some (.int (nI st)), v8, v9, v10] [] h Q := by
  have m10 := inv.1.1.at.2
  have w1 := k.1.1.1
  have w3 := k.2.1.2.1
  have hPt : ∀ x, P_Nw_translatorAt [.ref wn, .int x] h := fun x => k.1.NdK x
  have hPn : ∀ x, P_Nw_netOf [.ref wn, .int x] h := fun x => k.1.NdK x
  intro f
  induction f with
  | zero => intro st net least sa sp v8 v9 v10 _ _ _ h1; omega
  | succ f ih =>
    intro st net least sa sp v8 v9 v10 e ⟨hsa, esa, hsp⟩ hnet _ hQ
    have ns : ¬ 10 ≤ st := by omega
    rw [llZ] at hQ
    by_cases cg : netZ z b = net
    · rw [if_pos (Or.inr cg)] at hQ
      have cg' : net = z (16 + 16 * b + 1) := cg.symm
      subst cg'
      ((obtain ⟨W9, hW9, hgo9⟩ := wp_ex (T_Nw_leastTicksLeft l G) [28] _; refine hgo9 200 _ _ _ _ ?_; simp -implicitDefEqProofs (disch := omega) only [hW9, inl, gate, Xq, tz_const, tz_iload, tz_lload, tz_dload, tz_aload, tz_istore, tz_astore, tz_lstore, tz_dstore, tz_iinc, tz_i1, tz_i2, tz_i2z, tz_l2, tz_l2z, tz_i2l, tz_l2i, tz_lcmp, tz_i2d, tz_d2, tz_dcmp, tz_dup, tz_dup2, tz_pop, tz_if, tz_icmp, tz_null, tz_goto, tz_sw, tz_getf, tz_puti, tz_putz, tz_putr, tz_putl, tz_iaload, tz_baload, tz_laload, tz_aaload, tz_iastore, tz_bastore, tz_lastore, tz_aastore, tz_alen, tz_new, tz_newa, tz_oinit, tz_iret, tz_zret, tz_lret, tz_dret, tz_aret, tz_vret, tz_throw, tz_callS, tz_callV, tz_callI, tz_callR, tz_pureS, tz_pureV, tz_callVH, lg, lset, lkill, lst1, lst2, entL, isRf, is1, vl, va_rf_none, va_rf_some, isRf_rf, is1_rf, i0, i1, bI_eq0, bI_eq1, nm_em, nI_eqP, nI_leP, nI_ltP, nN_e1, nN_e2, nN_l1, nN_l2, nN_l3, nN_l4, nI_add, pk_mul, vp_inN, nI_cl, n01, n10, P_i, P_ii, P_iii, f_Mo_at, f_Mo_map, f_Mo_contact, f_Mo_within, f_Mo_isPort, f_Hp_endpoint, f_Hp_nodeOf, f_Hp_portOf, f_Ma_max, f_Ma_min, f_Hp_isSetting, popN, rok, a1, noX, swc, mL, if_true, if_false, ↓reduceIte, cond_true, cond_false, true_and, and_true, List.length_cons, List.length_nil, List.nil_append, List.cons_append, List.append_nil, Option.toList, Nat.reduceEqDiff, Bool.false_eq_true, reduceCtorEq, Nat.reduceAdd, Nat.reduceLT, Nat.reduceLeDiff, Nat.reduceSub, List.replicate, Nat.zero_add, Nat.lt_add_one, Nat.le_refl, Nat.zero_le, Nat.succ_ne_zero, not_false_eq_true, not_true_eq_false, false_implies, true_implies, forall_const, imp_self, true_or, or_true, eq_self, sI_zw, zw_zw, hI_zw, tg_zw, ln_zw, hR_zw, hL_zw, hN_zw, hM_zw, upd_s, upd_u, upd_ne, Classical.not_not, k_Nw_leastTicksLeft, w1, ns]; try clear hgo9 hW9); try (obtain ⟨W9, hW9, hgo9⟩ := wp_ex (T_Nw_leastTicksLeft l G) [28] _; refine hgo9 200 _ _ _ _ ?_; simp -implicitDefEqProofs (disch := omega) only [hW9, inl, gate, Xq, tz_const, tz_iload, tz_lload, tz_dload, tz_aload, tz_istore, tz_astore, tz_lstore, tz_dstore, tz_iinc, tz_i1, tz_i2, tz_i2z, tz_l2, tz_l2z, tz_i2l, tz_l2i, tz_lcmp, tz_i2d, tz_d2, tz_dcmp, tz_dup, tz_dup2, tz_pop, tz_if, tz_icmp, tz_null, tz_goto, tz_sw, tz_getf, tz_puti, tz_putz, tz_putr, tz_putl, tz_iaload, tz_baload, tz_laload, tz_aaload, tz_iastore, tz_bastore, tz_lastore, tz_aastore, tz_alen, tz_new, tz_newa, tz_oinit, tz_iret, tz_zret, tz_lret, tz_dret, tz_aret, tz_vret, tz_throw, tz_callS, tz_callV, tz_callI, tz_callR, tz_pureS, tz_pureV, tz_callVH, lg, lset, lkill, lst1, lst2, entL, isRf, is1, vl, va_rf_none, va_rf_some, isRf_rf, is1_rf, i0, i1, bI_eq0, bI_eq1, nm_em, nI_eqP, nI_leP, nI_ltP, nN_e1, nN_e2, nN_l1, nN_l2, nN_l3, nN_l4, nI_add, pk_mul, vp_inN, nI_cl, n01, n10, P_i, P_ii, P_iii, f_Mo_at, f_Mo_map, f_Mo_contact, f_Mo_within, f_Mo_isPort, f_Hp_endpoint, f_Hp_nodeOf, f_Hp_portOf, f_Ma_max, f_Ma_min, f_Hp_isSetting, popN, rok, a1, noX, swc, mL, if_true, if_false, ↓reduceIte, cond_true, cond_false, true_and, and_true, List.length_cons, List.length_nil, List.nil_append, List.cons_append, List.append_nil, Option.toList, Nat.reduceEqDiff, Bool.false_eq_true, reduceCtorEq, Nat.reduceAdd, Nat.reduceLT, Nat.reduceLeDiff, Nat.reduceSub, List.replicate, Nat.zero_add, Nat.lt_add_one, Nat.le_refl, Nat.zero_le, Nat.succ_ne_zero, not_false_eq_true, not_true_eq_false, false_implies, true_implies, forall_const, imp_self, true_or, or_true, eq_self, sI_zw, zw_zw, hI_zw, tg_zw, ln_zw, hR_zw, hL_zw, hN_zw, hM_zw, upd_s, upd_u, upd_ne, Classical.not_not, k_Nw_leastTicksLeft, w1, ns]; try clear hgo9 hW9); try (obtain ⟨W9, hW9, hgo9⟩ := wp_ex (T_Nw_leastTicksLeft l G) [28] _; refine hgo9 200 _ _ _ _ ?_; simp -implicitDefEqProofs (disch := omega) only [hW9, inl, gate, Xq, tz_const, tz_iload, tz_lload, tz_dload, tz_aload, tz_istore, tz_astore, tz_lstore, tz_dstore, tz_iinc, tz_i1, tz_i2, tz_i2z, tz_l2, tz_l2z, tz_i2l, tz_l2i, tz_lcmp, tz_i2d, tz_d2, tz_dcmp, tz_dup, tz_dup2, tz_pop, tz_if, tz_icmp, tz_null, tz_goto, tz_sw, tz_getf, tz_puti, tz_putz, tz_putr, tz_putl, tz_iaload, tz_baload, tz_laload, tz_aaload, tz_iastore, tz_bastore, tz_lastore, tz_aastore, tz_alen, tz_new, tz_newa, tz_oinit, tz_iret, tz_zret, tz_lret, tz_dret, tz_aret, tz_vret, tz_throw, tz_callS, tz_callV, tz_callI, tz_callR, tz_pureS, tz_pureV, tz_callVH, lg, lset, lkill, lst1, lst2, entL, isRf, is1, vl, va_rf_none, va_rf_some, isRf_rf, is1_rf, i0, i1, bI_eq0, bI_eq1, nm_em, nI_eqP, nI_leP, nI_ltP, nN_e1, nN_e2, nN_l1, nN_l2, nN_l3, nN_l4, nI_add, pk_mul, vp_inN, nI_cl, n01, n10, P_i, P_ii, P_iii, f_Mo_at, f_Mo_map, f_Mo_contact, f_Mo_within, f_Mo_isPort, f_Hp_endpoint, f_Hp_nodeOf, f_Hp_portOf, f_Ma_max, f_Ma_min, f_Hp_isSetting, popN, rok, a1, noX, swc, mL, if_true, if_false, ↓reduceIte, cond_true, cond_false, true_and, and_true, List.length_cons, List.length_nil, List.nil_append, List.cons_append, List.append_nil, Option.toList, Nat.reduceEqDiff, Bool.false_eq_true, reduceCtorEq, Nat.reduceAdd, Nat.reduceLT, Nat.reduceLeDiff, Nat.reduceSub, List.replicate, Nat.zero_add, Nat.lt_add_one, Nat.le_refl, Nat.zero_le, Nat.succ_ne_zero, not_false_eq_true, not_true_eq_false, false_implies, true_implies, forall_const, imp_self, true_or, or_true, eq_self, sI_zw, zw_zw, hI_zw, tg_zw, ln_zw, hR_zw, hL_zw, hN_zw, hM_zw, upd_s, upd_u, upd_ne, Classical.not_not, k_Nw_leastTicksLeft, w1, ns]; try clear hgo9 hW9))
      exact hQ
    · have cg' : ¬ net = z (16 + 16 * b + 1) := fun q => cg q.symm
      rcases hnet with en | ⟨t, en, tf⟩
      · rw [if_pos (Or.inl en)] at hQ
        subst en
        have e1 := (k.nN m10).1
        ((obtain ⟨W9, hW9, hgo9⟩ := wp_ex (T_Nw_leastTicksLeft l G) [28] _; refine hgo9 200 _ _ _ _ ?_; simp -implicitDefEqProofs (disch := omega) only [hW9, inl, gate, Xq, tz_const, tz_iload, tz_lload, tz_dload, tz_aload, tz_istore, tz_astore, tz_lstore, tz_dstore, tz_iinc, tz_i1, tz_i2, tz_i2z, tz_l2, tz_l2z, tz_i2l, tz_l2i, tz_lcmp, tz_i2d, tz_d2, tz_dcmp, tz_dup, tz_dup2, tz_pop, tz_if, tz_icmp, tz_null, tz_goto, tz_sw, tz_getf, tz_puti, tz_putz, tz_putr, tz_putl, tz_iaload, tz_baload, tz_laload, tz_aaload, tz_iastore, tz_bastore, tz_lastore, tz_aastore, tz_alen, tz_new, tz_newa, tz_oinit, tz_iret, tz_zret, tz_lret, tz_dret, tz_aret, tz_vret, tz_throw, tz_callS, tz_callV, tz_callI, tz_callR, tz_pureS, tz_pureV, tz_callVH, lg, lset, lkill, lst1, lst2, entL, isRf, is1, vl, va_rf_none, va_rf_some, isRf_rf, is1_rf, i0, i1, bI_eq0, bI_eq1, nm_em, nI_eqP, nI_leP, nI_ltP, nN_e1, nN_e2, nN_l1, nN_l2, nN_l3, nN_l4, nI_add, pk_mul, vp_inN, nI_cl, n01, n10, P_i, P_ii, P_iii, f_Mo_at, f_Mo_map, f_Mo_contact, f_Mo_within, f_Mo_isPort, f_Hp_endpoint, f_Hp_nodeOf, f_Hp_portOf, f_Ma_max, f_Ma_min, f_Hp_isSetting, popN, rok, a1, noX, swc, mL, if_true, if_false, ↓reduceIte, cond_true, cond_false, true_and, and_true, List.length_cons, List.length_nil, List.nil_append, List.cons_append, List.append_nil, Option.toList, Nat.reduceEqDiff, Bool.false_eq_true, reduceCtorEq, Nat.reduceAdd, Nat.reduceLT, Nat.reduceLeDiff, Nat.reduceSub, List.replicate, Nat.zero_add, Nat.lt_add_one, Nat.le_refl, Nat.zero_le, Nat.succ_ne_zero, not_false_eq_true, not_true_eq_false, false_implies, true_implies, forall_const, imp_self, true_or, or_true, eq_self, sI_zw, zw_zw, hI_zw, tg_zw, ln_zw, hR_zw, hL_zw, hN_zw, hM_zw, upd_s, upd_u, upd_ne, Classical.not_not, k_Nw_leastTicksLeft, w1, ns, cg', hPt, f_Nw_translatorAt, e1]; try clear hgo9 hW9); try (obtain ⟨W9, hW9, hgo9⟩ := wp_ex (T_Nw_leastTicksLeft l G) [28] _; refine hgo9 200 _ _ _ _ ?_; simp -implicitDefEqProofs (disch := omega) only [hW9, inl, gate, Xq, tz_const, tz_iload, tz_lload, tz_dload, tz_aload, tz_istore, tz_astore, tz_lstore, tz_dstore, tz_iinc, tz_i1, tz_i2, tz_i2z, tz_l2, tz_l2z, tz_i2l, tz_l2i, tz_lcmp, tz_i2d, tz_d2, tz_dcmp, tz_dup, tz_dup2, tz_pop, tz_if, tz_icmp, tz_null, tz_goto, tz_sw, tz_getf, tz_puti, tz_putz, tz_putr, tz_putl, tz_iaload, tz_baload, tz_laload, tz_aaload, tz_iastore, tz_bastore, tz_lastore, tz_aastore, tz_alen, tz_new, tz_newa, tz_oinit, tz_iret, tz_zret, tz_lret, tz_dret, tz_aret, tz_vret, tz_throw, tz_callS, tz_callV, tz_callI, tz_callR, tz_pureS, tz_pureV, tz_callVH, lg, lset, lkill, lst1, lst2, entL, isRf, is1, vl, va_rf_none, va_rf_some, isRf_rf, is1_rf, i0, i1, bI_eq0, bI_eq1, nm_em, nI_eqP, nI_leP, nI_ltP, nN_e1, nN_e2, nN_l1, nN_l2, nN_l3, nN_l4, nI_add, pk_mul, vp_inN, nI_cl, n01, n10, P_i, P_ii, P_iii, f_Mo_at, f_Mo_map, f_Mo_contact, f_Mo_within, f_Mo_isPort, f_Hp_endpoint, f_Hp_nodeOf, f_Hp_portOf, f_Ma_max, f_Ma_min, f_Hp_isSetting, popN, rok, a1, noX, swc, mL, if_true, if_false, ↓reduceIte, cond_true, cond_false, true_and, and_true, List.length_cons, List.length_nil, List.nil_append, List.cons_append, List.append_nil, Option.toList, Nat.reduceEqDiff, Bool.false_eq_true, reduceCtorEq, Nat.reduceAdd, Nat.reduceLT, Nat.reduceLeDiff, Nat.reduceSub, List.replicate, Nat.zero_add, Nat.lt_add_one, Nat.le_refl, Nat.zero_le, Nat.succ_ne_zero, not_false_eq_true, not_true_eq_false, false_implies, true_implies, forall_const, imp_self, true_or, or_true, eq_self, sI_zw, zw_zw, hI_zw, tg_zw, ln_zw, hR_zw, hL_zw, hN_zw, hM_zw, upd_s, upd_u, upd_ne, Classical.not_not, k_Nw_leastTicksLeft, w1, ns, cg', hPt, f_Nw_translatorAt, e1]; try clear hgo9 hW9); try (obtain ⟨W9, hW9, hgo9⟩ := wp_ex (T_Nw_leastTicksLeft l G) [28] _; refine hgo9 200 _ _ _ _ ?_; simp -implicitDefEqProofs (disch := omega) only [hW9, inl, gate, Xq, tz_const, tz_iload, tz_lload, tz_dload, tz_aload, tz_istore, tz_astore, tz_lstore, tz_dstore, tz_iinc, tz_i1, tz_i2, tz_i2z, tz_l2, tz_l2z, tz_i2l, tz_l2i, tz_lcmp, tz_i2d, tz_d2, tz_dcmp, tz_dup, tz_dup2, tz_pop, tz_if, tz_icmp, tz_null, tz_goto, tz_sw, tz_getf, tz_puti, tz_putz, tz_putr, tz_putl, tz_iaload, tz_baload, tz_laload, tz_aaload, tz_iastore, tz_bastore, tz_lastore, tz_aastore, tz_alen, tz_new, tz_newa, tz_oinit, tz_iret, tz_zret, tz_lret, tz_dret, tz_aret, tz_vret, tz_throw, tz_callS, tz_callV, tz_callI, tz_callR, tz_pureS, tz_pureV, tz_callVH, lg, lset, lkill, lst1, lst2, entL, isRf, is1, vl, va_rf_none, va_rf_some, isRf_rf, is1_rf, i0, i1, bI_eq0, bI_eq1, nm_em, nI_eqP, nI_leP, nI_ltP, nN_e1, nN_e2, nN_l1, nN_l2, nN_l3, nN_l4, nI_add, pk_mul, vp_inN, nI_cl, n01, n10, P_i, P_ii, P_iii, f_Mo_at, f_Mo_map, f_Mo_contact, f_Mo_within, f_Mo_isPort, f_Hp_endpoint, f_Hp_nodeOf, f_Hp_portOf, f_Ma_max, f_Ma_min, f_Hp_isSetting, popN, rok, a1, noX, swc, mL, if_true, if_false, ↓reduceIte, cond_true, cond_false, true_and, and_true, List.length_cons, List.length_nil, List.nil_append, List.cons_append, List.append_nil, Option.toList, Nat.reduceEqDiff, Bool.false_eq_true, reduceCtorEq, Nat.reduceAdd, Nat.reduceLT, Nat.reduceLeDiff, Nat.reduceSub, List.replicate, Nat.zero_add, Nat.lt_add_one, Nat.le_refl, Nat.zero_le, Nat.succ_ne_zero, not_false_eq_true, not_true_eq_false, false_implies, true_implies, forall_const, imp_self, true_or, or_true, eq_self, sI_zw, zw_zw, hI_zw, tg_zw, ln_zw, hR_zw, hL_zw, hN_zw, hM_zw, upd_s, upd_u, upd_ne, Classical.not_not, k_Nw_leastTicksLeft, w1, ns, cg', hPt, f_Nw_translatorAt, e1]; try clear hgo9 hW9))
        exact hQ
      · subst en
        have nn : ¬ (nI t = nN ∨ netZ z b = nI t) := by
          rintro (w | w)
          · rw [nN_e2 (by omega)] at w; exact w
          · exact cg w
        rw [if_neg nn, nI_clamp (by omega)] at hQ
        obtain ⟨ta, tm, tk⟩ := net_tr inv.1 hsa esa (by omega)
        obtain ⟨dd, tt, e1, -, en1, d1, d2, d3, sh, tl⟩ := k.tr m10 tm tk
        have tra := (inv.1.2.2.2 t tm).2.2.2 tk
        have g1 := sh.1.1
        have o8 := tra.1.2
        have slk := tl.SlK sh o8
        have ek := key_ok (r := z (16 + 16 * t + 2)) (b := b) (d := d) tra.2.1.1 (by omega) hd.1 hd.2
        rw [← tl.1.1.1] at ek
        have iff : ∀ j, j < own z t → (mIn h tt (nI (sa * 10000 + sp)) (encK (if hI h tt 0 = nI 0 then nN else nI b) (if nI 2 ≤ hI h tt 0 then nI d else nN)) j ↔ mtZ z t (nI sa) (nI sp) (nI b) (nI d) j) := by
          intro j hj
          rw [tl.1.1.1]
          exact mIn_iff (tl.slot hj).2 (tra.2.2.1 j hj) tra.2.1.1 m10 (by omega) (by omega) (by omega) hd.1 (by omega)
        ((obtain ⟨W9, hW9, hgo9⟩ := wp_ex (T_Nw_leastTicksLeft l G) [28] _; refine hgo9 200 _ _ _ _ ?_; simp -implicitDefEqProofs (disch := omega) only [hW9, inl, gate, Xq, tz_const, tz_iload, tz_lload, tz_dload, tz_aload, tz_istore, tz_astore, tz_lstore, tz_dstore, tz_iinc, tz_i1, tz_i2, tz_i2z, tz_l2, tz_l2z, tz_i2l, tz_l2i, tz_lcmp, tz_i2d, tz_d2, tz_dcmp, tz_dup, tz_dup2, tz_pop, tz_if, tz_icmp, tz_null, tz_goto, tz_sw, tz_getf, tz_puti, tz_putz, tz_putr, tz_putl, tz_iaload, tz_baload, tz_laload, tz_aaload, tz_iastore, tz_bastore, tz_lastore, tz_aastore, tz_alen, tz_new, tz_newa, tz_oinit, tz_iret, tz_zret, tz_lret, tz_dret, tz_aret, tz_vret, tz_throw, tz_callS, tz_callV, tz_callI, tz_callR, tz_pureS, tz_pureV, tz_callVH, lg, lset, lkill, lst1, lst2, entL, isRf, is1, vl, va_rf_none, va_rf_some, isRf_rf, is1_rf, i0, i1, bI_eq0, bI_eq1, nm_em, nI_eqP, nI_leP, nI_ltP, nN_e1, nN_e2, nN_l1, nN_l2, nN_l3, nN_l4, nI_add, pk_mul, vp_inN, nI_cl, n01, n10, P_i, P_ii, P_iii, f_Mo_at, f_Mo_map, f_Mo_contact, f_Mo_within, f_Mo_isPort, f_Hp_endpoint, f_Hp_nodeOf, f_Hp_portOf, f_Ma_max, f_Ma_min, f_Hp_isSetting, popN, rok, a1, noX, swc, mL, if_true, if_false, ↓reduceIte, cond_true, cond_false, true_and, and_true, List.length_cons, List.length_nil, List.nil_append, List.cons_append, List.append_nil, Option.toList, Nat.reduceEqDiff, Bool.false_eq_true, reduceCtorEq, Nat.reduceAdd, Nat.reduceLT, Nat.reduceLeDiff, Nat.reduceSub, List.replicate, Nat.zero_add, Nat.lt_add_one, Nat.le_refl, Nat.zero_le, Nat.succ_ne_zero, not_false_eq_true, not_true_eq_false, false_implies, true_implies, forall_const, imp_self, true_or, or_true, eq_self, sI_zw, zw_zw, hI_zw, tg_zw, ln_zw, hR_zw, hL_zw, hN_zw, hM_zw, upd_s, upd_u, upd_ne, Classical.not_not, k_Nw_leastTicksLeft, w1, ns, cg', hPt, f_Nw_translatorAt, e1, g1]; try clear hgo9 hW9); try (obtain ⟨W9, hW9, hgo9⟩ := wp_ex (T_Nw_leastTicksLeft l G) [28] _; refine hgo9 200 _ _ _ _ ?_; simp -implicitDefEqProofs (disch := omega) only [hW9, inl, gate, Xq, tz_const, tz_iload, tz_lload, tz_dload, tz_aload, tz_istore, tz_astore, tz_lstore, tz_dstore, tz_iinc, tz_i1, tz_i2, tz_i2z, tz_l2, tz_l2z, tz_i2l, tz_l2i, tz_lcmp, tz_i2d, tz_d2, tz_dcmp, tz_dup, tz_dup2, tz_pop, tz_if, tz_icmp, tz_null, tz_goto, tz_sw, tz_getf, tz_puti, tz_putz, tz_putr, tz_putl, tz_iaload, tz_baload, tz_laload, tz_aaload, tz_iastore, tz_bastore, tz_lastore, tz_aastore, tz_alen, tz_new, tz_newa, tz_oinit, tz_iret, tz_zret, tz_lret, tz_dret, tz_aret, tz_vret, tz_throw, tz_callS, tz_callV, tz_callI, tz_callR, tz_pureS, tz_pureV, tz_callVH, lg, lset, lkill, lst1, lst2, entL, isRf, is1, vl, va_rf_none, va_rf_some, isRf_rf, is1_rf, i0, i1, bI_eq0, bI_eq1, nm_em, nI_eqP, nI_leP, nI_ltP, nN_e1, nN_e2, nN_l1, nN_l2, nN_l3, nN_l4, nI_add, pk_mul, vp_inN, nI_cl, n01, n10, P_i, P_ii, P_iii, f_Mo_at, f_Mo_map, f_Mo_contact, f_Mo_within, f_Mo_isPort, f_Hp_endpoint, f_Hp_nodeOf, f_Hp_portOf, f_Ma_max, f_Ma_min, f_Hp_isSetting, popN, rok, a1, noX, swc, mL, if_true, if_false, ↓reduceIte, cond_true, cond_false, true_and, and_true, List.length_cons, List.length_nil, List.nil_append, List.cons_append, List.append_nil, Option.toList, Nat.reduceEqDiff, Bool.false_eq_true, reduceCtorEq, Nat.reduceAdd, Nat.reduceLT, Nat.reduceLeDiff, Nat.reduceSub, List.replicate, Nat.zero_add, Nat.lt_add_one, Nat.le_refl, Nat.zero_le, Nat.succ_ne_zero, not_false_eq_true, not_true_eq_false, false_implies, true_implies, forall_const, imp_self, true_or, or_true, eq_self, sI_zw, zw_zw, hI_zw, tg_zw, ln_zw, hR_zw, hL_zw, hN_zw, hM_zw, upd_s, upd_u, upd_ne, Classical.not_not, k_Nw_leastTicksLeft, w1, ns, cg', hPt, f_Nw_translatorAt, e1, g1]; try clear hgo9 hW9); try (obtain ⟨W9, hW9, hgo9⟩ := wp_ex (T_Nw_leastTicksLeft l G) [28] _; refine hgo9 200 _ _ _ _ ?_; simp -implicitDefEqProofs (disch := omega) only [hW9, inl, gate, Xq, tz_const, tz_iload, tz_lload, tz_dload, tz_aload, tz_istore, tz_astore, tz_lstore, tz_dstore, tz_iinc, tz_i1, tz_i2, tz_i2z, tz_l2, tz_l2z, tz_i2l, tz_l2i, tz_lcmp, tz_i2d, tz_d2, tz_dcmp, tz_dup, tz_dup2, tz_pop, tz_if, tz_icmp, tz_null, tz_goto, tz_sw, tz_getf, tz_puti, tz_putz, tz_putr, tz_putl, tz_iaload, tz_baload, tz_laload, tz_aaload, tz_iastore, tz_bastore, tz_lastore, tz_aastore, tz_alen, tz_new, tz_newa, tz_oinit, tz_iret, tz_zret, tz_lret, tz_dret, tz_aret, tz_vret, tz_throw, tz_callS, tz_callV, tz_callI, tz_callR, tz_pureS, tz_pureV, tz_callVH, lg, lset, lkill, lst1, lst2, entL, isRf, is1, vl, va_rf_none, va_rf_some, isRf_rf, is1_rf, i0, i1, bI_eq0, bI_eq1, nm_em, nI_eqP, nI_leP, nI_ltP, nN_e1, nN_e2, nN_l1, nN_l2, nN_l3, nN_l4, nI_add, pk_mul, vp_inN, nI_cl, n01, n10, P_i, P_ii, P_iii, f_Mo_at, f_Mo_map, f_Mo_contact, f_Mo_within, f_Mo_isPort, f_Hp_endpoint, f_Hp_nodeOf, f_Hp_portOf, f_Ma_max, f_Ma_min, f_Hp_isSetting, popN, rok, a1, noX, swc, mL, if_true, if_false, ↓reduceIte, cond_true, cond_false, true_and, and_true, List.length_cons, List.length_nil, List.nil_append, List.cons_append, List.append_nil, Option.toList, Nat.reduceEqDiff, Bool.false_eq_true, reduceCtorEq, Nat.reduceAdd, Nat.reduceLT, Nat.reduceLeDiff, Nat.reduceSub, List.replicate, Nat.zero_add, Nat.lt_add_one, Nat.le_refl, Nat.zero_le, Nat.succ_ne_zero, not_false_eq_true, not_true_eq_false, false_implies, true_implies, forall_const, imp_self, true_or, or_true, eq_self, sI_zw, zw_zw, hI_zw, tg_zw, ln_zw, hR_zw, hL_zw, hN_zw, hM_zw, upd_s, upd_u, upd_ne, Classical.not_not, k_Nw_leastTicksLeft, w1, ns, cg', hPt, f_Nw_translatorAt, e1, g1]; try clear hgo9 hW9))
        refine c_Tl_mappingOut tt (own z t) _ _ _ h _ slk ek (fun no => ?_) (fun j hj mj => ?_)
        · simp only [aft]
          have mf : mfZ z t (nI sa) (nI sp) (nI b) (nI d) (own z t) = nN := by
            rcases mfZ_range (z := z) (t := t) (a := nI sa) (p := nI sp) (b := nI b) (q := nI d) (own z t) with q | ⟨i, i1, i2, i3⟩
            · exact q
            · exact absurd ((iff i i1).mpr i3) (no i i1)
          rw [if_pos mf] at hQ
          (obtain ⟨W9, hW9, hgo9⟩ := wp_ex (T_Nw_leastTicksLeft l G) [28] _; refine hgo9 200 _ _ _ _ ?_; simp -implicitDefEqProofs (disch := omega) only [hW9, inl, gate, Xq, tz_const, tz_iload, tz_lload, tz_dload, tz_aload, tz_istore, tz_astore, tz_lstore, tz_dstore, tz_iinc, tz_i1, tz_i2, tz_i2z, tz_l2, tz_l2z, tz_i2l, tz_l2i, tz_lcmp, tz_i2d, tz_d2, tz_dcmp, tz_dup, tz_dup2, tz_pop, tz_if, tz_icmp, tz_null, tz_goto, tz_sw, tz_getf, tz_puti, tz_putz, tz_putr, tz_putl, tz_iaload, tz_baload, tz_laload, tz_aaload, tz_iastore, tz_bastore, tz_lastore, tz_aastore, tz_alen, tz_new, tz_newa, tz_oinit, tz_iret, tz_zret, tz_lret, tz_dret, tz_aret, tz_vret, tz_throw, tz_callS, tz_callV, tz_callI, tz_callR, tz_pureS, tz_pureV, tz_callVH, lg, lset, lkill, lst1, lst2, entL, isRf, is1, vl, va_rf_none, va_rf_some, isRf_rf, is1_rf, i0, i1, bI_eq0, bI_eq1, nm_em, nI_eqP, nI_leP, nI_ltP, nN_e1, nN_e2, nN_l1, nN_l2, nN_l3, nN_l4, nI_add, pk_mul, vp_inN, nI_cl, n01, n10, P_i, P_ii, P_iii, f_Mo_at, f_Mo_map, f_Mo_contact, f_Mo_within, f_Mo_isPort, f_Hp_endpoint, f_Hp_nodeOf, f_Hp_portOf, f_Ma_max, f_Ma_min, f_Hp_isSetting, popN, rok, a1, noX, swc, mL, if_true, if_false, ↓reduceIte, cond_true, cond_false, true_and, and_true, List.length_cons, List.length_nil, List.nil_append, List.cons_append, List.append_nil, Option.toList, Nat.reduceEqDiff, Bool.false_eq_true, reduceCtorEq, Nat.reduceAdd, Nat.reduceLT, Nat.reduceLeDiff, Nat.reduceSub, List.replicate, Nat.zero_add, Nat.lt_add_one, Nat.le_refl, Nat.zero_le, Nat.succ_ne_zero, not_false_eq_true, not_true_eq_false, false_implies, true_implies, forall_const, imp_self, true_or, or_true, eq_self, sI_zw, zw_zw, hI_zw, tg_zw, ln_zw, hR_zw, hL_zw, hN_zw, hM_zw, upd_s, upd_u, upd_ne, Classical.not_not, k_Nw_leastTicksLeft, w1, g1]; try clear hgo9 hW9)
          exact hQ
        · simp only [aft]
          have mt := (iff j hj).mp mj
          have mf : mfZ z t (nI sa) (nI sp) (nI b) (nI d) (own z t) = nI j := by
            rcases mfZ_range (z := z) (t := t) (a := nI sa) (p := nI sp) (b := nI b) (q := nI d) (own z t) with q | ⟨i, i1, i2, i3⟩
            · exact absurd mt (mf_no o8 q j hj)
            · rw [i2, mt_uniq tra i1 hj i3 mt]
          rw [mf, if_neg (by rw [nN_e2 (by omega)]; exact id), nI_clamp (by omega)] at hQ
          have m0 := (slk.2.2.2 j hj).2
          obtain ⟨s1, s2⟩ := tl.slot hj
          have hPl : ∀ x, P_Tl_ticksLeft [.ref tt, .ref (mpO h tt j), .int x] h := fun _ => m0
          have el : f_Tl_ticksLeft [.ref tt, .ref (mpO h tt j), .int (z 0)] h = .int (livZ z t j) := by
            simp only [f_Tl_ticksLeft]
            rw [tl.1.1.2.2.2.2.1, s2.1.2.2.2.1]
            rfl
          obtain ⟨o, op1, op2, op3⟩ := (tra.2.2.1 j hj).2.2.1
          have o3 : hI h (mpO h tt j) 1 = nI o := by rw [s2.1.2.1]; exact op3
          have op3' : z (176 + 8 * (8 * t + j) + 2) = nI o := op3
          rw [op3'] at hQ
          have e5 : nI (t * 10000) + nI o = nI (t * 10000 + o) := nI_add _ _
          have nx : z (16 + 16 * t + 1) = nN ∨ ∃ t', z (16 + 16 * t + 1) = nI t' ∧ t' + 1 < f := by
            rcases (inv.1.2.2.2 t tm).1.2 with q | ⟨i, i1, i2, -⟩
            · exact Or.inl q
            · exact Or.inr ⟨i, i2, by omega⟩
          have fin : ∀ lst, lst = (if least = nN ∨ livZ z t j < least then livZ z t j else least) → ∀ v10, AWp l G M_Nw_leastTicksLeft 105 [some (.ref wn), some (.int x1), some (.int (nI (b * 10000 + d))), some (.int (z (16 + 16 * b + 1))), some (.int (nI t)), some (.int (nI (sa * 10000 + sp))), some (.int least), some (.int (nI st)), some (.ref tt), some (.ref (mpO h tt j)), v10] [.int lst] h Q := by
            intro lst elst v10
            (obtain ⟨W9, hW9, hgo9⟩ := wp_ex (T_Nw_leastTicksLeft l G) [28] _; refine hgo9 200 _ _ _ _ ?_; simp -implicitDefEqProofs (disch := omega) only [hW9, inl, gate, Xq, tz_const, tz_iload, tz_lload, tz_dload, tz_aload, tz_istore, tz_astore, tz_lstore, tz_dstore, tz_iinc, tz_i1, tz_i2, tz_i2z, tz_l2, tz_l2z, tz_i2l, tz_l2i, tz_lcmp, tz_i2d, tz_d2, tz_dcmp, tz_dup, tz_dup2, tz_pop, tz_if, tz_icmp, tz_null, tz_goto, tz_sw, tz_getf, tz_puti, tz_putz, tz_putr, tz_putl, tz_iaload, tz_baload, tz_laload, tz_aaload, tz_iastore, tz_bastore, tz_lastore, tz_aastore, tz_alen, tz_new, tz_newa, tz_oinit, tz_iret, tz_zret, tz_lret, tz_dret, tz_aret, tz_vret, tz_throw, tz_callS, tz_callV, tz_callI, tz_callR, tz_pureS, tz_pureV, tz_callVH, lg, lset, lkill, lst1, lst2, entL, isRf, is1, vl, va_rf_none, va_rf_some, isRf_rf, is1_rf, i0, i1, bI_eq0, bI_eq1, nm_em, nI_eqP, nI_leP, nI_ltP, nN_e1, nN_e2, nN_l1, nN_l2, nN_l3, nN_l4, nI_add, pk_mul, vp_inN, nI_cl, n01, n10, P_i, P_ii, P_iii, f_Mo_at, f_Mo_map, f_Mo_contact, f_Mo_within, f_Mo_isPort, f_Hp_endpoint, f_Hp_nodeOf, f_Hp_portOf, f_Ma_max, f_Ma_min, f_Hp_isSetting, popN, rok, a1, noX, swc, mL, if_true, if_false, ↓reduceIte, cond_true, cond_false, true_and, and_true, List.length_cons, List.length_nil, List.nil_append, List.cons_append, List.append_nil, Option.toList, Nat.reduceEqDiff, Bool.false_eq_true, reduceCtorEq, Nat.reduceAdd, Nat.reduceLT, Nat.reduceLeDiff, Nat.reduceSub, List.replicate, Nat.zero_add, Nat.lt_add_one, Nat.le_refl, Nat.zero_le, Nat.succ_ne_zero, not_false_eq_true, not_true_eq_false, false_implies, true_implies, forall_const, imp_self, true_or, or_true, eq_self, sI_zw, zw_zw, hI_zw, tg_zw, ln_zw, hR_zw, hL_zw, hN_zw, hM_zw, upd_s, upd_u, upd_ne, Classical.not_not, k_Nw_leastTicksLeft, w1, m0, o3, e5, hPn, f_Nw_netOf, en1]; try clear hgo9 hW9)
            rw [← elst] at hQ
            exact ih (st + 1) _ lst t o _ _ _ (by omega) ⟨tm, rfl, op1, op2⟩ nx (by omega) hQ
          (obtain ⟨W9, hW9, hgo9⟩ := wp_ex (T_Nw_leastTicksLeft l G) [28, 105] _; refine hgo9 200 _ _ _ _ ?_; simp -implicitDefEqProofs (disch := omega) only [hW9, inl, gate, Xq, tz_const, tz_iload, tz_lload, tz_dload, tz_aload, tz_istore, tz_astore, tz_lstore, tz_dstore, tz_iinc, tz_i1, tz_i2, tz_i2z, tz_l2, tz_l2z, tz_i2l, tz_l2i, tz_lcmp, tz_i2d, tz_d2, tz_dcmp, tz_dup, tz_dup2, tz_pop, tz_if, tz_icmp, tz_null, tz_goto, tz_sw, tz_getf, tz_puti, tz_putz, tz_putr, tz_putl, tz_iaload, tz_baload, tz_laload, tz_aaload, tz_iastore, tz_bastore, tz_lastore, tz_aastore, tz_alen, tz_new, tz_newa, tz_oinit, tz_iret, tz_zret, tz_lret, tz_dret, tz_aret, tz_vret, tz_throw, tz_callS, tz_callV, tz_callI, tz_callR, tz_pureS, tz_pureV, tz_callVH, lg, lset, lkill, lst1, lst2, entL, isRf, is1, vl, va_rf_none, va_rf_some, isRf_rf, is1_rf, i0, i1, bI_eq0, bI_eq1, nm_em, nI_eqP, nI_leP, nI_ltP, nN_e1, nN_e2, nN_l1, nN_l2, nN_l3, nN_l4, nI_add, pk_mul, vp_inN, nI_cl, n01, n10, P_i, P_ii, P_iii, f_Mo_at, f_Mo_map, f_Mo_contact, f_Mo_within, f_Mo_isPort, f_Hp_endpoint, f_Hp_nodeOf, f_Hp_portOf, f_Ma_max, f_Ma_min, f_Hp_isSetting, popN, rok, a1, noX, swc, mL, if_true, if_false, ↓reduceIte, cond_true, cond_false, true_and, and_true, List.length_cons, List.length_nil, List.nil_append, List.cons_append, List.append_nil, Option.toList, Nat.reduceEqDiff, Bool.false_eq_true, reduceCtorEq, Nat.reduceAdd, Nat.reduceLT, Nat.reduceLeDiff, Nat.reduceSub, List.replicate, Nat.zero_add, Nat.lt_add_one, Nat.le_refl, Nat.zero_le, Nat.succ_ne_zero, not_false_eq_true, not_true_eq_false, false_implies, true_implies, forall_const, imp_self, true_or, or_true, eq_self, sI_zw, zw_zw, hI_zw, tg_zw, ln_zw, hR_zw, hL_zw, hN_zw, hM_zw, upd_s, upd_u, upd_ne, Classical.not_not, k_Nw_leastTicksLeft, w1, g1, m0, w3, hPl, el]; try clear hgo9 hW9)
          refine ⟨fun c => ?_, fun c => ?_⟩
          · (obtain ⟨W9, hW9, hgo9⟩ := wp_ex (T_Nw_leastTicksLeft l G) [28, 105] _; refine hgo9 200 _ _ _ _ ?_; simp -implicitDefEqProofs (disch := omega) only [hW9, inl, gate, Xq, tz_const, tz_iload, tz_lload, tz_dload, tz_aload, tz_istore, tz_astore, tz_lstore, tz_dstore, tz_iinc, tz_i1, tz_i2, tz_i2z, tz_l2, tz_l2z, tz_i2l, tz_l2i, tz_lcmp, tz_i2d, tz_d2, tz_dcmp, tz_dup, tz_dup2, tz_pop, tz_if, tz_icmp, tz_null, tz_goto, tz_sw, tz_getf, tz_puti, tz_putz, tz_putr, tz_putl, tz_iaload, tz_baload, tz_laload, tz_aaload, tz_iastore, tz_bastore, tz_lastore, tz_aastore, tz_alen, tz_new, tz_newa, tz_oinit, tz_iret, tz_zret, tz_lret, tz_dret, tz_aret, tz_vret, tz_throw, tz_callS, tz_callV, tz_callI, tz_callR, tz_pureS, tz_pureV, tz_callVH, lg, lset, lkill, lst1, lst2, entL, isRf, is1, vl, va_rf_none, va_rf_some, isRf_rf, is1_rf, i0, i1, bI_eq0, bI_eq1, nm_em, nI_eqP, nI_leP, nI_ltP, nN_e1, nN_e2, nN_l1, nN_l2, nN_l3, nN_l4, nI_add, pk_mul, vp_inN, nI_cl, n01, n10, P_i, P_ii, P_iii, f_Mo_at, f_Mo_map, f_Mo_contact, f_Mo_within, f_Mo_isPort, f_Hp_endpoint, f_Hp_nodeOf, f_Hp_portOf, f_Ma_max, f_Ma_min, f_Hp_isSetting, popN, rok, a1, noX, swc, mL, if_true, if_false, ↓reduceIte, cond_true, cond_false, true_and, and_true, List.length_cons, List.length_nil, List.nil_append, List.cons_append, List.append_nil, Option.toList, Nat.reduceEqDiff, Bool.false_eq_true, reduceCtorEq, Nat.reduceAdd, Nat.reduceLT, Nat.reduceLeDiff, Nat.reduceSub, List.replicate, Nat.zero_add, Nat.lt_add_one, Nat.le_refl, Nat.zero_le, Nat.succ_ne_zero, not_false_eq_true, not_true_eq_false, false_implies, true_implies, forall_const, imp_self, true_or, or_true, eq_self, sI_zw, zw_zw, hI_zw, tg_zw, ln_zw, hR_zw, hL_zw, hN_zw, hM_zw, upd_s, upd_u, upd_ne, Classical.not_not, k_Nw_leastTicksLeft, w1]; try clear hgo9 hW9)
            refine fin _ ?_ _
            by_cases c2 : livZ z t j < least
            · rw [if_pos c2, if_pos (Or.inr c2)]
            · rw [if_neg c2, if_neg (by rintro (w | w); exact c w; exact c2 w)]
          · (obtain ⟨W9, hW9, hgo9⟩ := wp_ex (T_Nw_leastTicksLeft l G) [28, 105] _; refine hgo9 200 _ _ _ _ ?_; simp -implicitDefEqProofs (disch := omega) only [hW9, inl, gate, Xq, tz_const, tz_iload, tz_lload, tz_dload, tz_aload, tz_istore, tz_astore, tz_lstore, tz_dstore, tz_iinc, tz_i1, tz_i2, tz_i2z, tz_l2, tz_l2z, tz_i2l, tz_l2i, tz_lcmp, tz_i2d, tz_d2, tz_dcmp, tz_dup, tz_dup2, tz_pop, tz_if, tz_icmp, tz_null, tz_goto, tz_sw, tz_getf, tz_puti, tz_putz, tz_putr, tz_putl, tz_iaload, tz_baload, tz_laload, tz_aaload, tz_iastore, tz_bastore, tz_lastore, tz_aastore, tz_alen, tz_new, tz_newa, tz_oinit, tz_iret, tz_zret, tz_lret, tz_dret, tz_aret, tz_vret, tz_throw, tz_callS, tz_callV, tz_callI, tz_callR, tz_pureS, tz_pureV, tz_callVH, lg, lset, lkill, lst1, lst2, entL, isRf, is1, vl, va_rf_none, va_rf_some, isRf_rf, is1_rf, i0, i1, bI_eq0, bI_eq1, nm_em, nI_eqP, nI_leP, nI_ltP, nN_e1, nN_e2, nN_l1, nN_l2, nN_l3, nN_l4, nI_add, pk_mul, vp_inN, nI_cl, n01, n10, P_i, P_ii, P_iii, f_Mo_at, f_Mo_map, f_Mo_contact, f_Mo_within, f_Mo_isPort, f_Hp_endpoint, f_Hp_nodeOf, f_Hp_portOf, f_Ma_max, f_Ma_min, f_Hp_isSetting, popN, rok, a1, noX, swc, mL, if_true, if_false, ↓reduceIte, cond_true, cond_false, true_and, and_true, List.length_cons, List.length_nil, List.nil_append, List.cons_append, List.append_nil, Option.toList, Nat.reduceEqDiff, Bool.false_eq_true, reduceCtorEq, Nat.reduceAdd, Nat.reduceLT, Nat.reduceLeDiff, Nat.reduceSub, List.replicate, Nat.zero_add, Nat.lt_add_one, Nat.le_refl, Nat.zero_le, Nat.succ_ne_zero, not_false_eq_true, not_true_eq_false, false_implies, true_implies, forall_const, imp_self, true_or, or_true, eq_self, sI_zw, zw_zw, hI_zw, tg_zw, ln_zw, hR_zw, hL_zw, hN_zw, hM_zw, upd_s, upd_u, upd_ne, Classical.not_not, k_Nw_leastTicksLeft, w1]; try clear hgo9 hW9)
            exact fin _ (by rw [if_pos (Or.inl c)]) _
theorem c_Hp_timeLeft (A : Nat → Nat) (a p b q w : Int32) (z zs t : Nat → Int32) (n : Nat) (h : AH) (Q : Po) (k : HpR h A z zs t n) (iv : Inv z) (hw : wpZ z a p b q = w) (q1 : w = nI 1 → Q (.inr IOE) (nx h)) (q2 : w = nI 2 → Q (.inr IAE) (nx h))
    (q3 : w = nI 0 → ∀ i j, i < mny z → a = nI i → j < mny z → b = nI j → Q (.inl (some (.int (llZ z j q 10 (netZ z i) (nI i) p nN)))) h) : Call l G M_Hp_timeLeft [.ref (A 0), .int a, .int p, .int b, .int q] h Q := by
  have x6 := k.1.1.1
  have x0 := k.1.2.1.1
  have w1 := k.2.1.1.1.1
  have m10 := iv.1.1.at.2
  refine call_of rfl rfl (Nat.le_of_ble_eq_true rfl) ?_
  (obtain ⟨W9, hW9, hgo9⟩ := wp_ex (T_Hp_timeLeft l G) [] _; refine hgo9 200 _ _ _ _ ?_; simp -implicitDefEqProofs (disch := omega) only [hW9, inl, gate, Xq, tz_const, tz_iload, tz_lload, tz_dload, tz_aload, tz_istore, tz_astore, tz_lstore, tz_dstore, tz_iinc, tz_i1, tz_i2, tz_i2z, tz_l2, tz_l2z, tz_i2l, tz_l2i, tz_lcmp, tz_i2d, tz_d2, tz_dcmp, tz_dup, tz_dup2, tz_pop, tz_if, tz_icmp, tz_null, tz_goto, tz_sw, tz_getf, tz_puti, tz_putz, tz_putr, tz_putl, tz_iaload, tz_baload, tz_laload, tz_aaload, tz_iastore, tz_bastore, tz_lastore, tz_aastore, tz_alen, tz_new, tz_newa, tz_oinit, tz_iret, tz_zret, tz_lret, tz_dret, tz_aret, tz_vret, tz_throw, tz_callS, tz_callV, tz_callI, tz_callR, tz_pureS, tz_pureV, tz_callVH, lg, lset, lkill, lst1, lst2, entL, isRf, is1, vl, va_rf_none, va_rf_some, isRf_rf, is1_rf, i0, i1, bI_eq0, bI_eq1, nm_em, nI_eqP, nI_leP, nI_ltP, nN_e1, nN_e2, nN_l1, nN_l2, nN_l3, nN_l4, nI_add, pk_mul, vp_inN, nI_cl, n01, n10, P_i, P_ii, P_iii, f_Mo_at, f_Mo_map, f_Mo_contact, f_Mo_within, f_Mo_isPort, f_Hp_endpoint, f_Hp_nodeOf, f_Hp_portOf, f_Ma_max, f_Ma_min, f_Hp_isSetting, popN, rok, a1, noX, swc, mL, if_true, if_false, ↓reduceIte, cond_true, cond_false, true_and, and_true, List.length_cons, List.length_nil, List.nil_append, List.cons_append, List.append_nil, Option.toList, Nat.reduceEqDiff, Bool.false_eq_true, reduceCtorEq, Nat.reduceAdd, Nat.reduceLT, Nat.reduceLeDiff, Nat.reduceSub, List.replicate, Nat.zero_add, Nat.lt_add_one, Nat.le_refl, Nat.zero_le, Nat.succ_ne_zero, not_false_eq_true, not_true_eq_false, false_implies, true_implies, forall_const, imp_self, true_or, or_true, eq_self, sI_zw, zw_zw, hI_zw, tg_zw, ln_zw, hR_zw, hL_zw, hN_zw, hM_zw, upd_s, upd_u, upd_ne, Classical.not_not, k_Hp_timeLeft, x6]; try clear hgo9 hW9)
  refine c_Hp_checkPacket A a p b q w z zs t n h _ k iv hw (fun c => ?_) (fun c => ?_) (fun c => ?_)
  · simp only [aft]
    exact q1 c
  · simp only [aft]
    exact q2 c
  · simp only [aft]
    obtain ⟨⟨i, i1, rfl, i3⟩, ⟨j, j1, rfl⟩, ⟨pp, p1, p2, rfl⟩, ⟨dd, d1, d2, rfl⟩⟩ := wpZ_0 (hw.trans c)
    have hPe : ∀ x, P_Nw_netOf [.ref (A 1), .int x] h := fun x => k.2.1.1.NdK x
    have ni := k.2.1.ne m10 i1
    have nj := k.2.1.ne m10 j1
    have ea := enc_node (a := i) (p := pp) (by omega) (by omega)
    have eb := enc_node (a := j) (p := dd) (by omega) (by omega)
    (obtain ⟨W9, hW9, hgo9⟩ := wp_ex (T_Hp_timeLeft l G) [] _; refine hgo9 200 _ _ _ _ ?_; simp -implicitDefEqProofs (disch := omega) only [hW9, inl, gate, Xq, tz_const, tz_iload, tz_lload, tz_dload, tz_aload, tz_istore, tz_astore, tz_lstore, tz_dstore, tz_iinc, tz_i1, tz_i2, tz_i2z, tz_l2, tz_l2z, tz_i2l, tz_l2i, tz_lcmp, tz_i2d, tz_d2, tz_dcmp, tz_dup, tz_dup2, tz_pop, tz_if, tz_icmp, tz_null, tz_goto, tz_sw, tz_getf, tz_puti, tz_putz, tz_putr, tz_putl, tz_iaload, tz_baload, tz_laload, tz_aaload, tz_iastore, tz_bastore, tz_lastore, tz_aastore, tz_alen, tz_new, tz_newa, tz_oinit, tz_iret, tz_zret, tz_lret, tz_dret, tz_aret, tz_vret, tz_throw, tz_callS, tz_callV, tz_callI, tz_callR, tz_pureS, tz_pureV, tz_callVH, lg, lset, lkill, lst1, lst2, entL, isRf, is1, vl, va_rf_none, va_rf_some, isRf_rf, is1_rf, i0, i1, bI_eq0, bI_eq1, nm_em, nI_eqP, nI_leP, nI_ltP, nN_e1, nN_e2, nN_l1, nN_l2, nN_l3, nN_l4, nI_add, pk_mul, vp_inN, nI_cl, n01, n10, P_i, P_ii, P_iii, f_Mo_at, f_Mo_map, f_Mo_contact, f_Mo_within, f_Mo_isPort, f_Hp_endpoint, f_Hp_nodeOf, f_Hp_portOf, f_Ma_max, f_Ma_min, f_Hp_isSetting, popN, rok, a1, noX, swc, mL, if_true, if_false, ↓reduceIte, cond_true, cond_false, true_and, and_true, List.length_cons, List.length_nil, List.nil_append, List.cons_append, List.append_nil, Option.toList, Nat.reduceEqDiff, Bool.false_eq_true, reduceCtorEq, Nat.reduceAdd, Nat.reduceLT, Nat.reduceLeDiff, Nat.reduceSub, List.replicate, Nat.zero_add, Nat.lt_add_one, Nat.le_refl, Nat.zero_le, Nat.succ_ne_zero, not_false_eq_true, not_true_eq_false, false_implies, true_implies, forall_const, imp_self, true_or, or_true, eq_self, sI_zw, zw_zw, hI_zw, tg_zw, ln_zw, hR_zw, hL_zw, hN_zw, hM_zw, upd_s, upd_u, upd_ne, Classical.not_not, k_Hp_timeLeft, x6, x0, w1]; try clear hgo9 hW9)
    refine call_of rfl rfl (Nat.le_of_ble_eq_true rfl) ?_
    (obtain ⟨W9, hW9, hgo9⟩ := wp_ex (T_Nw_leastTicksLeft l G) [28] _; refine hgo9 200 _ _ _ _ ?_; simp -implicitDefEqProofs (disch := omega) only [hW9, inl, gate, Xq, tz_const, tz_iload, tz_lload, tz_dload, tz_aload, tz_istore, tz_astore, tz_lstore, tz_dstore, tz_iinc, tz_i1, tz_i2, tz_i2z, tz_l2, tz_l2z, tz_i2l, tz_l2i, tz_lcmp, tz_i2d, tz_d2, tz_dcmp, tz_dup, tz_dup2, tz_pop, tz_if, tz_icmp, tz_null, tz_goto, tz_sw, tz_getf, tz_puti, tz_putz, tz_putr, tz_putl, tz_iaload, tz_baload, tz_laload, tz_aaload, tz_iastore, tz_bastore, tz_lastore, tz_aastore, tz_alen, tz_new, tz_newa, tz_oinit, tz_iret, tz_zret, tz_lret, tz_dret, tz_aret, tz_vret, tz_throw, tz_callS, tz_callV, tz_callI, tz_callR, tz_pureS, tz_pureV, tz_callVH, lg, lset, lkill, lst1, lst2, entL, isRf, is1, vl, va_rf_none, va_rf_some, isRf_rf, is1_rf, i0, i1, bI_eq0, bI_eq1, nm_em, nI_eqP, nI_leP, nI_ltP, nN_e1, nN_e2, nN_l1, nN_l2, nN_l3, nN_l4, nI_add, pk_mul, vp_inN, nI_cl, n01, n10, P_i, P_ii, P_iii, f_Mo_at, f_Mo_map, f_Mo_contact, f_Mo_within, f_Mo_isPort, f_Hp_endpoint, f_Hp_nodeOf, f_Hp_portOf, f_Ma_max, f_Ma_min, f_Hp_isSetting, popN, rok, a1, noX, swc, mL, if_true, if_false, ↓reduceIte, cond_true, cond_false, true_and, and_true, List.length_cons, List.length_nil, List.nil_append, List.cons_append, List.append_nil, Option.toList, Nat.reduceEqDiff, Bool.false_eq_true, reduceCtorEq, Nat.reduceAdd, Nat.reduceLT, Nat.reduceLeDiff, Nat.reduceSub, List.replicate, Nat.zero_add, Nat.lt_add_one, Nat.le_refl, Nat.zero_le, Nat.succ_ne_zero, not_false_eq_true, not_true_eq_false, false_implies, true_implies, forall_const, imp_self, true_or, or_true, eq_self, sI_zw, zw_zw, hI_zw, tg_zw, ln_zw, hR_zw, hL_zw, hN_zw, hM_zw, upd_s, upd_u, upd_ne, Classical.not_not, k_Nw_leastTicksLeft, w1, hPe, f_Nw_netOf, ni, nj, ea, eb]; try clear hgo9 hW9)
    refine lp_lt k.2.1 iv j1 ⟨d1, d2⟩ 10 0 _ _ i pp _ _ _ rfl ⟨i1, rfl, p1, p2⟩ ?_ (by omega) ?_
    · rcases (iv.1.2.2.2 i i1).1.2 with q | ⟨t', t1, t2, -⟩
      · exact Or.inl q
      · exact Or.inr ⟨t', t2, by omega⟩
    · simp only [aft]
      (obtain ⟨W9, hW9, hgo9⟩ := wp_ex (T_Hp_timeLeft l G) [] _; refine hgo9 200 _ _ _ _ ?_; simp -implicitDefEqProofs (disch := omega) only [hW9, inl, gate, Xq, tz_const, tz_iload, tz_lload, tz_dload, tz_aload, tz_istore, tz_astore, tz_lstore, tz_dstore, tz_iinc, tz_i1, tz_i2, tz_i2z, tz_l2, tz_l2z, tz_i2l, tz_l2i, tz_lcmp, tz_i2d, tz_d2, tz_dcmp, tz_dup, tz_dup2, tz_pop, tz_if, tz_icmp, tz_null, tz_goto, tz_sw, tz_getf, tz_puti, tz_putz, tz_putr, tz_putl, tz_iaload, tz_baload, tz_laload, tz_aaload, tz_iastore, tz_bastore, tz_lastore, tz_aastore, tz_alen, tz_new, tz_newa, tz_oinit, tz_iret, tz_zret, tz_lret, tz_dret, tz_aret, tz_vret, tz_throw, tz_callS, tz_callV, tz_callI, tz_callR, tz_pureS, tz_pureV, tz_callVH, lg, lset, lkill, lst1, lst2, entL, isRf, is1, vl, va_rf_none, va_rf_some, isRf_rf, is1_rf, i0, i1, bI_eq0, bI_eq1, nm_em, nI_eqP, nI_leP, nI_ltP, nN_e1, nN_e2, nN_l1, nN_l2, nN_l3, nN_l4, nI_add, pk_mul, vp_inN, nI_cl, n01, n10, P_i, P_ii, P_iii, f_Mo_at, f_Mo_map, f_Mo_contact, f_Mo_within, f_Mo_isPort, f_Hp_endpoint, f_Hp_nodeOf, f_Hp_portOf, f_Ma_max, f_Ma_min, f_Hp_isSetting, popN, rok, a1, noX, swc, mL, if_true, if_false, ↓reduceIte, cond_true, cond_false, true_and, and_true, List.length_cons, List.length_nil, List.nil_append, List.cons_append, List.append_nil, Option.toList, Nat.reduceEqDiff, Bool.false_eq_true, reduceCtorEq, Nat.reduceAdd, Nat.reduceLT, Nat.reduceLeDiff, Nat.reduceSub, List.replicate, Nat.zero_add, Nat.lt_add_one, Nat.le_refl, Nat.zero_le, Nat.succ_ne_zero, not_false_eq_true, not_true_eq_false, false_implies, true_implies, forall_const, imp_self, true_or, or_true, eq_self, sI_zw, zw_zw, hI_zw, tg_zw, ln_zw, hR_zw, hL_zw, hN_zw, hM_zw, upd_s, upd_u, upd_ne, Classical.not_not, k_Hp_timeLeft, x6]; try clear hgo9 hW9)
      exact q3 c i j i1 rfl j1 rfl
end
