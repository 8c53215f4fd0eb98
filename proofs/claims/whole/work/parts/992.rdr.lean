/-! THE CLASS: the reader -/
def k_Rd_leavesNet (l : Launch) (G : Gc) (pc : Nat) : Tr :=
  if pc < 11 then
   if pc < 5 then
    if pc < 1 then
     if pc = 0 then tz_aload 1 0 else dead
    else
     if pc < 4 then
      if pc = 1 then tz_getf 4 2 4 0 else dead
     else
      if pc = 4 then tz_const 5 (.int (nN)) else dead
   else
    if pc < 9 then
     if pc < 8 then
      if pc = 5 then tz_icmp 8 10 (fun a b => ¬ a = b) else dead
     else
      if pc = 8 then tz_const 9 (.int (nI 0)) else dead
    else
     if pc < 10 then
      if pc = 9 then tz_zret else dead
     else
      if pc = 10 then tz_aload 11 0 else dead
  else
   if pc < 19 then
    if pc < 15 then
     if pc < 12 then
      if pc = 11 then tz_aload 12 0 else dead
     else
      if pc = 12 then tz_getf 15 2 0 1 else dead
    else
     if pc < 16 then
      if pc = 15 then tz_aload 16 0 else dead
     else
      if pc = 16 then tz_getf 19 2 4 0 else dead
   else
    if pc < 25 then
     if pc < 22 then
      if pc = 19 then tz_pureV 22 1 1 P_Nw_netOf f_Nw_netOf else dead
     else
      if pc = 22 then tz_puti 25 2 4 else dead
    else
     if pc < 26 then
      if pc = 25 then tz_const 26 (.int (nI 1)) else dead
     else
      if pc = 26 then tz_zret else dead
set_option maxRecDepth 100000 in
theorem T_Rd_leavesNet (l : Launch) (G : Gc) : TabOK l G M_Rd_leavesNet (k_Rd_leavesNet l G) := by
  intro pc
  unfold k_Rd_leavesNet
  exact
   (sd_br
    (sd_br
     (sd_br
      (sd_lf (sd_aload_n (k := 0) (by decide +kernel : decode prog_4_method_6_code 0 = .ok (.aload_n 0, 1))))
      (sd_br
       (sd_lf (sd_getf (q := (RX2, TX2, 5)) (by decide +kernel : decode prog_4_method_6_code 1 = .ok (.getfield 29, 3)) rfl (by decide +kernel) (gm 142 (by decide +kernel) rfl)))
       (sd_lf (sd_iconst (by decide +kernel : decode prog_4_method_6_code 4 = .ok (.iconst (-1), 1)) (by decide +kernel)))))
     (sd_br
      (sd_br
       (sd_lf (sd_icmp_ne (by decide +kernel : decode prog_4_method_6_code 5 = .ok (.if_icmp .ne 5, 3)) (by decide +kernel)))
       (sd_lf (sd_iconst (by decide +kernel : decode prog_4_method_6_code 8 = .ok (.iconst 0, 1)) (by decide +kernel))))
      (sd_br
       (sd_lf (sd_zret (by decide +kernel : decode prog_4_method_6_code 9 = .ok (.ireturn, 1)) rfl))
       (sd_lf (sd_aload_n (k := 0) (by decide +kernel : decode prog_4_method_6_code 10 = .ok (.aload_n 0, 1)))))))
    (sd_br
     (sd_br
      (sd_br
       (sd_lf (sd_aload_n (k := 0) (by decide +kernel : decode prog_4_method_6_code 11 = .ok (.aload_n 0, 1))))
       (sd_lf (sd_getf (q := (RX2, TX2, 5)) (by decide +kernel : decode prog_4_method_6_code 12 = .ok (.getfield 12, 3)) rfl (by decide +kernel) (gm 137 (by decide +kernel) rfl))))
      (sd_br
       (sd_lf (sd_aload_n (k := 0) (by decide +kernel : decode prog_4_method_6_code 15 = .ok (.aload_n 0, 1))))
       (sd_lf (sd_getf (q := (RX2, TX2, 5)) (by decide +kernel : decode prog_4_method_6_code 16 = .ok (.getfield 29, 3)) rfl (by decide +kernel) (gm 142 (by decide +kernel) rfl)))))
     (sd_br
      (sd_br
       (sd_lf (sd_pureV (sd_callV (q := (RX1, TX1, 6)) (by decide +kernel : decode prog_4_method_6_code 19 = .ok (.invokevirtual 62, 3)) ok_Nw_netOf (gm 372 (by decide +kernel) rfl) (gm 373 (by decide +kernel) rfl) (gm 374 (by decide +kernel) rfl) rfl rfl (by decide +kernel) rfl rfl) c_Nw_netOf))
       (sd_lf (sd_puti (q := (RX2, TX2, 5)) (by decide +kernel : decode prog_4_method_6_code 22 = .ok (.putfield 29, 3)) rfl (by decide +kernel) (gm 142 (by decide +kernel) rfl) rfl rfl (Or.inl rfl))))
      (sd_br
       (sd_lf (sd_iconst (by decide +kernel : decode prog_4_method_6_code 25 = .ok (.iconst 1, 1)) (by decide +kernel)))
       (sd_lf (sd_zret (by decide +kernel : decode prog_4_method_6_code 26 = .ok (.ireturn, 1)) rfl))))))
def k_Rd_takesInNet (l : Launch) (G : Gc) (pc : Nat) : Tr :=
  if pc < 62 then
   if pc < 48 then
    if pc < 40 then
     if pc < 36 then
      if pc < 1 then
       if pc = 0 then tz_iload 1 1 else dead
      else
       if pc = 1 then tz_sw [(nI 41, 83), (nI 104, 36), (nI 116, 57)] 88 else dead
     else
      if pc < 37 then
       if pc = 36 then tz_aload 37 0 else dead
      else
       if pc = 37 then tz_getf 40 2 0 1 else dead
    else
     if pc < 44 then
      if pc < 41 then
       if pc = 40 then tz_aload 41 0 else dead
      else
       if pc = 41 then tz_getf 44 2 4 0 else dead
     else
      if pc < 47 then
       if pc = 44 then tz_callV l G 47 M_Nw_newHost 1 1 else dead
      else
       if pc = 47 then tz_const 48 (.int (nN)) else dead
   else
    if pc < 56 then
     if pc < 52 then
      if pc < 51 then
       if pc = 48 then tz_icmp 51 55 (fun a b => a = b) else dead
      else
       if pc = 51 then tz_const 52 (.int (nI 1)) else dead
     else
      if pc < 55 then
       if pc = 52 then tz_goto 56 else dead
      else
       if pc = 55 then tz_const 56 (.int (nI 0)) else dead
    else
     if pc < 58 then
      if pc < 57 then
       if pc = 56 then tz_zret else dead
      else
       if pc = 57 then tz_aload 58 0 else dead
     else
      if pc < 59 then
       if pc = 58 then tz_const 59 (.int (nI 1)) else dead
      else
       if pc = 59 then tz_puti 62 2 2 else dead
  else
   if pc < 78 then
    if pc < 68 then
     if pc < 64 then
      if pc < 63 then
       if pc = 62 then tz_aload 63 0 else dead
      else
       if pc = 63 then tz_const 64 (.int (nI 0)) else dead
     else
      if pc < 67 then
       if pc = 64 then tz_puti 67 2 3 else dead
      else
       if pc = 67 then tz_aload 68 0 else dead
    else
     if pc < 74 then
      if pc < 71 then
       if pc = 68 then tz_getf 71 2 0 1 else dead
      else
       if pc = 71 then tz_pureV 74 0 1 P_Nw_isFull f_Nw_isFull else dead
     else
      if pc < 77 then
       if pc = 74 then tz_if 77 81 (fun a => ¬ a = 0) else dead
      else
       if pc = 77 then tz_const 78 (.int (nI 1)) else dead
   else
    if pc < 84 then
     if pc < 82 then
      if pc < 81 then
       if pc = 78 then tz_goto 82 else dead
      else
       if pc = 81 then tz_const 82 (.int (nI 0)) else dead
     else
      if pc < 83 then
       if pc = 82 then tz_zret else dead
      else
       if pc = 83 then tz_aload 84 0 else dead
    else
     if pc < 88 then
      if pc < 87 then
       if pc = 84 then tz_callV l G 87 M_Rd_leavesNet 0 2 else dead
      else
       if pc = 87 then tz_zret else dead
     else
      if pc < 89 then
       if pc = 88 then tz_const 89 (.int (nI 0)) else dead
      else
       if pc = 89 then tz_zret else dead
set_option maxRecDepth 100000 in
theorem T_Rd_takesInNet (l : Launch) (G : Gc) : TabOK l G M_Rd_takesInNet (k_Rd_takesInNet l G) := by
  intro pc
  unfold k_Rd_takesInNet
  exact
   (sd_br
    (sd_br
     (sd_br
      (sd_br
       (sd_br
        (sd_lf (sd_iload_n (k := 1) (by decide +kernel : decode prog_4_method_5_code 0 = .ok (.iload_n 1, 1))))
        (sd_lf (sd_lsw (by decide +kernel : decode prog_4_method_5_code 1 = .ok (.lookupswitch 87 #[(41, 82), (104, 35), (116, 56)], 35)) (by decide +kernel) (by decide +kernel) (by decide +kernel))))
       (sd_br
        (sd_lf (sd_aload_n (k := 0) (by decide +kernel : decode prog_4_method_5_code 36 = .ok (.aload_n 0, 1))))
        (sd_lf (sd_getf (q := (RX2, TX2, 5)) (by decide +kernel : decode prog_4_method_5_code 37 = .ok (.getfield 12, 3)) rfl (by decide +kernel) (gm 137 (by decide +kernel) rfl)))))
      (sd_br
       (sd_br
        (sd_lf (sd_aload_n (k := 0) (by decide +kernel : decode prog_4_method_5_code 40 = .ok (.aload_n 0, 1))))
        (sd_lf (sd_getf (q := (RX2, TX2, 5)) (by decide +kernel : decode prog_4_method_5_code 41 = .ok (.getfield 29, 3)) rfl (by decide +kernel) (gm 142 (by decide +kernel) rfl))))
       (sd_br
        (sd_lf (sd_callV (q := (RX1, TX1, 6)) (by decide +kernel : decode prog_4_method_5_code 44 = .ok (.invokevirtual 51, 3)) ok_Nw_newHost (gm 359 (by decide +kernel) rfl) (gm 360 (by decide +kernel) rfl) (gm 361 (by decide +kernel) rfl) rfl rfl (by decide +kernel) rfl rfl))
        (sd_lf (sd_iconst (by decide +kernel : decode prog_4_method_5_code 47 = .ok (.iconst (-1), 1)) (by decide +kernel))))))
     (sd_br
      (sd_br
       (sd_br
        (sd_lf (sd_icmp_eq (by decide +kernel : decode prog_4_method_5_code 48 = .ok (.if_icmp .eq 7, 3)) (by decide +kernel)))
        (sd_lf (sd_iconst (by decide +kernel : decode prog_4_method_5_code 51 = .ok (.iconst 1, 1)) (by decide +kernel))))
       (sd_br
        (sd_lf (sd_goto (by decide +kernel : decode prog_4_method_5_code 52 = .ok (.goto 4, 3)) (by decide +kernel)))
        (sd_lf (sd_iconst (by decide +kernel : decode prog_4_method_5_code 55 = .ok (.iconst 0, 1)) (by decide +kernel)))))
      (sd_br
       (sd_br
        (sd_lf (sd_zret (by decide +kernel : decode prog_4_method_5_code 56 = .ok (.ireturn, 1)) rfl))
        (sd_lf (sd_aload_n (k := 0) (by decide +kernel : decode prog_4_method_5_code 57 = .ok (.aload_n 0, 1)))))
       (sd_br
        (sd_lf (sd_iconst (by decide +kernel : decode prog_4_method_5_code 58 = .ok (.iconst 1, 1)) (by decide +kernel)))
        (sd_lf (sd_puti (q := (RX2, TX2, 5)) (by decide +kernel : decode prog_4_method_5_code 59 = .ok (.putfield 22, 3)) rfl (by decide +kernel) (gm 140 (by decide +kernel) rfl) rfl rfl (Or.inl rfl)))))))
    (sd_br
     (sd_br
      (sd_br
       (sd_br
        (sd_lf (sd_aload_n (k := 0) (by decide +kernel : decode prog_4_method_5_code 62 = .ok (.aload_n 0, 1))))
        (sd_lf (sd_iconst (by decide +kernel : decode prog_4_method_5_code 63 = .ok (.iconst 0, 1)) (by decide +kernel))))
       (sd_br
        (sd_lf (sd_puti (q := (RX2, TX2, 5)) (by decide +kernel : decode prog_4_method_5_code 64 = .ok (.putfield 26, 3)) rfl (by decide +kernel) (gm 141 (by decide +kernel) rfl) rfl rfl (Or.inl rfl)))
        (sd_lf (sd_aload_n (k := 0) (by decide +kernel : decode prog_4_method_5_code 67 = .ok (.aload_n 0, 1))))))
      (sd_br
       (sd_br
        (sd_lf (sd_getf (q := (RX2, TX2, 5)) (by decide +kernel : decode prog_4_method_5_code 68 = .ok (.getfield 12, 3)) rfl (by decide +kernel) (gm 137 (by decide +kernel) rfl)))
        (sd_lf (sd_pureV (sd_callV (q := (RX1, TX1, 6)) (by decide +kernel : decode prog_4_method_5_code 71 = .ok (.invokevirtual 55, 3)) ok_Nw_isFull (gm 364 (by decide +kernel) rfl) (gm 365 (by decide +kernel) rfl) (gm 366 (by decide +kernel) rfl) rfl rfl (by decide +kernel) rfl rfl) c_Nw_isFull)))
       (sd_br
        (sd_lf (sd_if_ne (by decide +kernel : decode prog_4_method_5_code 74 = .ok (.ifCond .ne 7, 3)) (by decide +kernel)))
        (sd_lf (sd_iconst (by decide +kernel : decode prog_4_method_5_code 77 = .ok (.iconst 1, 1)) (by decide +kernel))))))
     (sd_br
      (sd_br
       (sd_br
        (sd_lf (sd_goto (by decide +kernel : decode prog_4_method_5_code 78 = .ok (.goto 4, 3)) (by decide +kernel)))
        (sd_lf (sd_iconst (by decide +kernel : decode prog_4_method_5_code 81 = .ok (.iconst 0, 1)) (by decide +kernel))))
       (sd_br
        (sd_lf (sd_zret (by decide +kernel : decode prog_4_method_5_code 82 = .ok (.ireturn, 1)) rfl))
        (sd_lf (sd_aload_n (k := 0) (by decide +kernel : decode prog_4_method_5_code 83 = .ok (.aload_n 0, 1))))))
      (sd_br
       (sd_br
        (sd_lf (sd_callV (q := (RX2, TX2, 5)) (by decide +kernel : decode prog_4_method_5_code 84 = .ok (.invokevirtual 59, 3)) ok_Rd_leavesNet (gm 368 (by decide +kernel) rfl) (gm 370 (by decide +kernel) rfl) (gm 4 (by decide +kernel) rfl) rfl rfl (by decide +kernel) rfl rfl))
        (sd_lf (sd_zret (by decide +kernel : decode prog_4_method_5_code 87 = .ok (.ireturn, 1)) rfl)))
       (sd_br
        (sd_lf (sd_iconst (by decide +kernel : decode prog_4_method_5_code 88 = .ok (.iconst 0, 1)) (by decide +kernel)))
        (sd_lf (sd_zret (by decide +kernel : decode prog_4_method_5_code 89 = .ok (.ireturn, 1)) rfl)))))))
def k_Rd_takesDigit (l : Launch) (G : Gc) (pc : Nat) : Tr :=
  if pc < 41 then
   if pc < 20 then
    if pc < 9 then
     if pc < 3 then
      if pc < 1 then
       if pc = 0 then tz_iload 1 1 else dead
      else
       if pc = 1 then tz_const 3 (.int (nI 48)) else dead
     else
      if pc < 6 then
       if pc = 3 then tz_icmp 6 31 (fun a b => a < b) else dead
      else
       if pc < 7 then
        if pc = 6 then tz_iload 7 1 else dead
       else
        if pc = 7 then tz_const 9 (.int (nI 50)) else dead
    else
     if pc < 13 then
      if pc < 12 then
       if pc = 9 then tz_icmp 12 31 (fun a b => b < a) else dead
      else
       if pc = 12 then tz_aload 13 0 else dead
     else
      if pc < 16 then
       if pc = 13 then tz_getf 16 2 3 0 else dead
      else
       if pc < 19 then
        if pc = 16 then tz_if 19 31 (fun a => a < 0) else dead
       else
        if pc = 19 then tz_aload 20 0 else dead
   else
    if pc < 31 then
     if pc < 24 then
      if pc < 23 then
       if pc = 20 then tz_getf 23 2 3 0 else dead
      else
       if pc = 23 then tz_aload 24 0 else dead
     else
      if pc < 27 then
       if pc = 24 then tz_getf 27 2 1 1 else dead
      else
       if pc < 28 then
        if pc = 27 then tz_alen 28 else dead
       else
        if pc = 28 then tz_icmp 31 33 (fun a b => a < b) else dead
    else
     if pc < 34 then
      if pc < 32 then
       if pc = 31 then tz_const 32 (.int (nI 0)) else dead
      else
       if pc < 33 then
        if pc = 32 then tz_zret else dead
       else
        if pc = 33 then tz_aload 34 0 else dead
     else
      if pc < 37 then
       if pc = 34 then tz_getf 37 2 1 1 else dead
      else
       if pc < 38 then
        if pc = 37 then tz_aload 38 0 else dead
       else
        if pc = 38 then tz_getf 41 2 3 0 else dead
  else
   if pc < 56 then
    if pc < 47 then
     if pc < 44 then
      if pc < 42 then
       if pc = 41 then tz_iload 42 1 else dead
      else
       if pc = 42 then tz_const 44 (.int (nI 48)) else dead
     else
      if pc < 45 then
       if pc = 44 then tz_i2 45 (fun a b => a - b) else dead
      else
       if pc < 46 then
        if pc = 45 then tz_iastore 46 else dead
       else
        if pc = 46 then tz_aload 47 0 else dead
    else
     if pc < 51 then
      if pc < 48 then
       if pc = 47 then tz_dup 48 else dead
      else
       if pc = 48 then tz_getf 51 2 3 0 else dead
     else
      if pc < 52 then
       if pc = 51 then tz_const 52 (.int (nI 1)) else dead
      else
       if pc < 53 then
        if pc = 52 then tz_i2 53 (fun a b => a + b) else dead
       else
        if pc = 53 then tz_puti 56 2 3 else dead
   else
    if pc < 65 then
     if pc < 60 then
      if pc < 57 then
       if pc = 56 then tz_aload 57 0 else dead
      else
       if pc = 57 then tz_getf 60 2 3 0 else dead
     else
      if pc < 61 then
       if pc = 60 then tz_aload 61 0 else dead
      else
       if pc < 64 then
        if pc = 61 then tz_getf 64 2 1 1 else dead
       else
        if pc = 64 then tz_alen 65 else dead
    else
     if pc < 70 then
      if pc < 68 then
       if pc = 65 then tz_icmp 68 73 (fun a b => ¬ a = b) else dead
      else
       if pc < 69 then
        if pc = 68 then tz_aload 69 0 else dead
       else
        if pc = 69 then tz_const 70 (.int (nI 2)) else dead
     else
      if pc < 73 then
       if pc = 70 then tz_puti 73 2 2 else dead
      else
       if pc < 74 then
        if pc = 73 then tz_const 74 (.int (nI 1)) else dead
       else
        if pc = 74 then tz_zret else dead
set_option maxRecDepth 100000 in
theorem T_Rd_takesDigit (l : Launch) (G : Gc) : TabOK l G M_Rd_takesDigit (k_Rd_takesDigit l G) := by
  intro pc
  unfold k_Rd_takesDigit
  exact
   (sd_br
    (sd_br
     (sd_br
      (sd_br
       (sd_br
        (sd_lf (sd_iload_n (k := 1) (by decide +kernel : decode prog_4_method_7_code 0 = .ok (.iload_n 1, 1))))
        (sd_lf (sd_bipush (by decide +kernel : decode prog_4_method_7_code 1 = .ok (.bipush 48, 2)) (by decide +kernel))))
       (sd_br
        (sd_lf (sd_icmp_lt (by decide +kernel : decode prog_4_method_7_code 3 = .ok (.if_icmp .lt 28, 3)) (by decide +kernel)))
        (sd_br
         (sd_lf (sd_iload_n (k := 1) (by decide +kernel : decode prog_4_method_7_code 6 = .ok (.iload_n 1, 1))))
         (sd_lf (sd_bipush (by decide +kernel : decode prog_4_method_7_code 7 = .ok (.bipush 50, 2)) (by decide +kernel))))))
      (sd_br
       (sd_br
        (sd_lf (sd_icmp_gt (by decide +kernel : decode prog_4_method_7_code 9 = .ok (.if_icmp .gt 22, 3)) (by decide +kernel)))
        (sd_lf (sd_aload_n (k := 0) (by decide +kernel : decode prog_4_method_7_code 12 = .ok (.aload_n 0, 1)))))
       (sd_br
        (sd_lf (sd_getf (q := (RX2, TX2, 5)) (by decide +kernel : decode prog_4_method_7_code 13 = .ok (.getfield 26, 3)) rfl (by decide +kernel) (gm 141 (by decide +kernel) rfl)))
        (sd_br
         (sd_lf (sd_if_lt (by decide +kernel : decode prog_4_method_7_code 16 = .ok (.ifCond .lt 15, 3)) (by decide +kernel)))
         (sd_lf (sd_aload_n (k := 0) (by decide +kernel : decode prog_4_method_7_code 19 = .ok (.aload_n 0, 1))))))))
     (sd_br
      (sd_br
       (sd_br
        (sd_lf (sd_getf (q := (RX2, TX2, 5)) (by decide +kernel : decode prog_4_method_7_code 20 = .ok (.getfield 26, 3)) rfl (by decide +kernel) (gm 141 (by decide +kernel) rfl)))
        (sd_lf (sd_aload_n (k := 0) (by decide +kernel : decode prog_4_method_7_code 23 = .ok (.aload_n 0, 1)))))
       (sd_br
        (sd_lf (sd_getf (q := (RX2, TX2, 5)) (by decide +kernel : decode prog_4_method_7_code 24 = .ok (.getfield 18, 3)) rfl (by decide +kernel) (gm 139 (by decide +kernel) rfl)))
        (sd_br
         (sd_lf (sd_alen (by decide +kernel : decode prog_4_method_7_code 27 = .ok (.arraylength, 1))))
         (sd_lf (sd_icmp_lt (by decide +kernel : decode prog_4_method_7_code 28 = .ok (.if_icmp .lt 5, 3)) (by decide +kernel))))))
      (sd_br
       (sd_br
        (sd_lf (sd_iconst (by decide +kernel : decode prog_4_method_7_code 31 = .ok (.iconst 0, 1)) (by decide +kernel)))
        (sd_br
         (sd_lf (sd_zret (by decide +kernel : decode prog_4_method_7_code 32 = .ok (.ireturn, 1)) rfl))
         (sd_lf (sd_aload_n (k := 0) (by decide +kernel : decode prog_4_method_7_code 33 = .ok (.aload_n 0, 1))))))
       (sd_br
        (sd_lf (sd_getf (q := (RX2, TX2, 5)) (by decide +kernel : decode prog_4_method_7_code 34 = .ok (.getfield 18, 3)) rfl (by decide +kernel) (gm 139 (by decide +kernel) rfl)))
        (sd_br
         (sd_lf (sd_aload_n (k := 0) (by decide +kernel : decode prog_4_method_7_code 37 = .ok (.aload_n 0, 1))))
         (sd_lf (sd_getf (q := (RX2, TX2, 5)) (by decide +kernel : decode prog_4_method_7_code 38 = .ok (.getfield 26, 3)) rfl (by decide +kernel) (gm 141 (by decide +kernel) rfl))))))))
    (sd_br
     (sd_br
      (sd_br
       (sd_br
        (sd_lf (sd_iload_n (k := 1) (by decide +kernel : decode prog_4_method_7_code 41 = .ok (.iload_n 1, 1))))
        (sd_lf (sd_bipush (by decide +kernel : decode prog_4_method_7_code 42 = .ok (.bipush 48, 2)) (by decide +kernel))))
       (sd_br
        (sd_lf (sd_isub (by decide +kernel : decode prog_4_method_7_code 44 = .ok (.isub, 1))))
        (sd_br
         (sd_lf (sd_iastore (by decide +kernel : decode prog_4_method_7_code 45 = .ok (.iastore, 1))))
         (sd_lf (sd_aload_n (k := 0) (by decide +kernel : decode prog_4_method_7_code 46 = .ok (.aload_n 0, 1)))))))
      (sd_br
       (sd_br
        (sd_lf (sd_dup (by decide +kernel : decode prog_4_method_7_code 47 = .ok (.dup, 1))))
        (sd_lf (sd_getf (q := (RX2, TX2, 5)) (by decide +kernel : decode prog_4_method_7_code 48 = .ok (.getfield 26, 3)) rfl (by decide +kernel) (gm 141 (by decide +kernel) rfl))))
       (sd_br
        (sd_lf (sd_iconst (by decide +kernel : decode prog_4_method_7_code 51 = .ok (.iconst 1, 1)) (by decide +kernel)))
        (sd_br
         (sd_lf (sd_iadd (by decide +kernel : decode prog_4_method_7_code 52 = .ok (.iadd, 1))))
         (sd_lf (sd_puti (q := (RX2, TX2, 5)) (by decide +kernel : decode prog_4_method_7_code 53 = .ok (.putfield 26, 3)) rfl (by decide +kernel) (gm 141 (by decide +kernel) rfl) rfl rfl (Or.inl rfl)))))))
     (sd_br
      (sd_br
       (sd_br
        (sd_lf (sd_aload_n (k := 0) (by decide +kernel : decode prog_4_method_7_code 56 = .ok (.aload_n 0, 1))))
        (sd_lf (sd_getf (q := (RX2, TX2, 5)) (by decide +kernel : decode prog_4_method_7_code 57 = .ok (.getfield 26, 3)) rfl (by decide +kernel) (gm 141 (by decide +kernel) rfl))))
       (sd_br
        (sd_lf (sd_aload_n (k := 0) (by decide +kernel : decode prog_4_method_7_code 60 = .ok (.aload_n 0, 1))))
        (sd_br
         (sd_lf (sd_getf (q := (RX2, TX2, 5)) (by decide +kernel : decode prog_4_method_7_code 61 = .ok (.getfield 18, 3)) rfl (by decide +kernel) (gm 139 (by decide +kernel) rfl)))
         (sd_lf (sd_alen (by decide +kernel : decode prog_4_method_7_code 64 = .ok (.arraylength, 1)))))))
      (sd_br
       (sd_br
        (sd_lf (sd_icmp_ne (by decide +kernel : decode prog_4_method_7_code 65 = .ok (.if_icmp .ne 8, 3)) (by decide +kernel)))
        (sd_br
         (sd_lf (sd_aload_n (k := 0) (by decide +kernel : decode prog_4_method_7_code 68 = .ok (.aload_n 0, 1))))
         (sd_lf (sd_iconst (by decide +kernel : decode prog_4_method_7_code 69 = .ok (.iconst 2, 1)) (by decide +kernel)))))
       (sd_br
        (sd_lf (sd_puti (q := (RX2, TX2, 5)) (by decide +kernel : decode prog_4_method_7_code 70 = .ok (.putfield 22, 3)) rfl (by decide +kernel) (gm 140 (by decide +kernel) rfl) rfl rfl (Or.inl rfl)))
        (sd_br
         (sd_lf (sd_iconst (by decide +kernel : decode prog_4_method_7_code 73 = .ok (.iconst 1, 1)) (by decide +kernel)))
         (sd_lf (sd_zret (by decide +kernel : decode prog_4_method_7_code 74 = .ok (.ireturn, 1)) rfl))))))))
def k_Rd_takesOpening (l : Launch) (G : Gc) (pc : Nat) : Tr :=
  if pc < 28 then
   if pc < 13 then
    if pc < 7 then
     if pc < 3 then
      if pc < 1 then
       if pc = 0 then tz_iload 1 1 else dead
      else
       if pc = 1 then tz_const 3 (.int (nI 40)) else dead
     else
      if pc < 6 then
       if pc = 3 then tz_icmp 6 8 (fun a b => a = b) else dead
      else
       if pc = 6 then tz_const 7 (.int (nI 0)) else dead
    else
     if pc < 9 then
      if pc < 8 then
       if pc = 7 then tz_zret else dead
      else
       if pc = 8 then tz_aload 9 0 else dead
     else
      if pc < 10 then
       if pc = 9 then tz_aload 10 0 else dead
      else
       if pc = 10 then tz_getf 13 2 0 1 else dead
   else
    if pc < 21 then
     if pc < 17 then
      if pc < 14 then
       if pc = 13 then tz_aload 14 0 else dead
      else
       if pc = 14 then tz_getf 17 2 4 0 else dead
     else
      if pc < 18 then
       if pc = 17 then tz_aload 18 0 else dead
      else
       if pc = 18 then tz_getf 21 2 1 1 else dead
    else
     if pc < 23 then
      if pc < 22 then
       if pc = 21 then tz_const 22 (.int (nI 0)) else dead
      else
       if pc = 22 then tz_iaload 23 else dead
     else
      if pc < 24 then
       if pc = 23 then tz_aload 24 0 else dead
      else
       if pc < 27 then
        if pc = 24 then tz_getf 27 2 1 1 else dead
       else
        if pc = 27 then tz_const 28 (.int (nI 1)) else dead
  else
   if pc < 43 then
    if pc < 34 then
     if pc < 30 then
      if pc < 29 then
       if pc = 28 then tz_iaload 29 else dead
      else
       if pc = 29 then tz_aload 30 0 else dead
     else
      if pc < 33 then
       if pc = 30 then tz_getf 33 2 1 1 else dead
      else
       if pc = 33 then tz_const 34 (.int (nI 2)) else dead
    else
     if pc < 38 then
      if pc < 35 then
       if pc = 34 then tz_iaload 35 else dead
      else
       if pc = 35 then tz_callV l G 38 M_Nw_newTranslator 4 1 else dead
     else
      if pc < 41 then
       if pc = 38 then tz_puti 41 2 4 else dead
      else
       if pc < 42 then
        if pc = 41 then tz_aload 42 0 else dead
       else
        if pc = 42 then tz_const 43 (.int (nI 0)) else dead
   else
    if pc < 51 then
     if pc < 47 then
      if pc < 46 then
       if pc = 43 then tz_puti 46 2 2 else dead
      else
       if pc = 46 then tz_aload 47 0 else dead
     else
      if pc < 50 then
       if pc = 47 then tz_getf 50 2 4 0 else dead
      else
       if pc = 50 then tz_const 51 (.int (nN)) else dead
    else
     if pc < 55 then
      if pc < 54 then
       if pc = 51 then tz_icmp 54 58 (fun a b => a = b) else dead
      else
       if pc = 54 then tz_const 55 (.int (nI 1)) else dead
     else
      if pc < 58 then
       if pc = 55 then tz_goto 59 else dead
      else
       if pc < 59 then
        if pc = 58 then tz_const 59 (.int (nI 0)) else dead
       else
        if pc = 59 then tz_zret else dead
set_option maxRecDepth 100000 in
theorem T_Rd_takesOpening (l : Launch) (G : Gc) : TabOK l G M_Rd_takesOpening (k_Rd_takesOpening l G) := by
  intro pc
  unfold k_Rd_takesOpening
  exact
   (sd_br
    (sd_br
     (sd_br
      (sd_br
       (sd_br
        (sd_lf (sd_iload_n (k := 1) (by decide +kernel : decode prog_4_method_8_code 0 = .ok (.iload_n 1, 1))))
        (sd_lf (sd_bipush (by decide +kernel : decode prog_4_method_8_code 1 = .ok (.bipush 40, 2)) (by decide +kernel))))
       (sd_br
        (sd_lf (sd_icmp_eq (by decide +kernel : decode prog_4_method_8_code 3 = .ok (.if_icmp .eq 5, 3)) (by decide +kernel)))
        (sd_lf (sd_iconst (by decide +kernel : decode prog_4_method_8_code 6 = .ok (.iconst 0, 1)) (by decide +kernel)))))
      (sd_br
       (sd_br
        (sd_lf (sd_zret (by decide +kernel : decode prog_4_method_8_code 7 = .ok (.ireturn, 1)) rfl))
        (sd_lf (sd_aload_n (k := 0) (by decide +kernel : decode prog_4_method_8_code 8 = .ok (.aload_n 0, 1)))))
       (sd_br
        (sd_lf (sd_aload_n (k := 0) (by decide +kernel : decode prog_4_method_8_code 9 = .ok (.aload_n 0, 1))))
        (sd_lf (sd_getf (q := (RX2, TX2, 5)) (by decide +kernel : decode prog_4_method_8_code 10 = .ok (.getfield 12, 3)) rfl (by decide +kernel) (gm 137 (by decide +kernel) rfl))))))
     (sd_br
      (sd_br
       (sd_br
        (sd_lf (sd_aload_n (k := 0) (by decide +kernel : decode prog_4_method_8_code 13 = .ok (.aload_n 0, 1))))
        (sd_lf (sd_getf (q := (RX2, TX2, 5)) (by decide +kernel : decode prog_4_method_8_code 14 = .ok (.getfield 29, 3)) rfl (by decide +kernel) (gm 142 (by decide +kernel) rfl))))
       (sd_br
        (sd_lf (sd_aload_n (k := 0) (by decide +kernel : decode prog_4_method_8_code 17 = .ok (.aload_n 0, 1))))
        (sd_lf (sd_getf (q := (RX2, TX2, 5)) (by decide +kernel : decode prog_4_method_8_code 18 = .ok (.getfield 18, 3)) rfl (by decide +kernel) (gm 139 (by decide +kernel) rfl)))))
      (sd_br
       (sd_br
        (sd_lf (sd_iconst (by decide +kernel : decode prog_4_method_8_code 21 = .ok (.iconst 0, 1)) (by decide +kernel)))
        (sd_lf (sd_iaload (by decide +kernel : decode prog_4_method_8_code 22 = .ok (.iaload, 1)))))
       (sd_br
        (sd_lf (sd_aload_n (k := 0) (by decide +kernel : decode prog_4_method_8_code 23 = .ok (.aload_n 0, 1))))
        (sd_br
         (sd_lf (sd_getf (q := (RX2, TX2, 5)) (by decide +kernel : decode prog_4_method_8_code 24 = .ok (.getfield 18, 3)) rfl (by decide +kernel) (gm 139 (by decide +kernel) rfl)))
         (sd_lf (sd_iconst (by decide +kernel : decode prog_4_method_8_code 27 = .ok (.iconst 1, 1)) (by decide +kernel))))))))
    (sd_br
     (sd_br
      (sd_br
       (sd_br
        (sd_lf (sd_iaload (by decide +kernel : decode prog_4_method_8_code 28 = .ok (.iaload, 1))))
        (sd_lf (sd_aload_n (k := 0) (by decide +kernel : decode prog_4_method_8_code 29 = .ok (.aload_n 0, 1)))))
       (sd_br
        (sd_lf (sd_getf (q := (RX2, TX2, 5)) (by decide +kernel : decode prog_4_method_8_code 30 = .ok (.getfield 18, 3)) rfl (by decide +kernel) (gm 139 (by decide +kernel) rfl)))
        (sd_lf (sd_iconst (by decide +kernel : decode prog_4_method_8_code 33 = .ok (.iconst 2, 1)) (by decide +kernel)))))
      (sd_br
       (sd_br
        (sd_lf (sd_iaload (by decide +kernel : decode prog_4_method_8_code 34 = .ok (.iaload, 1))))
        (sd_lf (sd_callV (q := (RX1, TX1, 6)) (by decide +kernel : decode prog_4_method_8_code 35 = .ok (.invokevirtual 65, 3)) ok_Nw_newTranslator (gm 384 (by decide +kernel) rfl) (gm 385 (by decide +kernel) rfl) (gm 386 (by decide +kernel) rfl) rfl rfl (by decide +kernel) rfl rfl)))
       (sd_br
        (sd_lf (sd_puti (q := (RX2, TX2, 5)) (by decide +kernel : decode prog_4_method_8_code 38 = .ok (.putfield 29, 3)) rfl (by decide +kernel) (gm 142 (by decide +kernel) rfl) rfl rfl (Or.inl rfl)))
        (sd_br
         (sd_lf (sd_aload_n (k := 0) (by decide +kernel : decode prog_4_method_8_code 41 = .ok (.aload_n 0, 1))))
         (sd_lf (sd_iconst (by decide +kernel : decode prog_4_method_8_code 42 = .ok (.iconst 0, 1)) (by decide +kernel)))))))
     (sd_br
      (sd_br
       (sd_br
        (sd_lf (sd_puti (q := (RX2, TX2, 5)) (by decide +kernel : decode prog_4_method_8_code 43 = .ok (.putfield 22, 3)) rfl (by decide +kernel) (gm 140 (by decide +kernel) rfl) rfl rfl (Or.inl rfl)))
        (sd_lf (sd_aload_n (k := 0) (by decide +kernel : decode prog_4_method_8_code 46 = .ok (.aload_n 0, 1)))))
       (sd_br
        (sd_lf (sd_getf (q := (RX2, TX2, 5)) (by decide +kernel : decode prog_4_method_8_code 47 = .ok (.getfield 29, 3)) rfl (by decide +kernel) (gm 142 (by decide +kernel) rfl)))
        (sd_lf (sd_iconst (by decide +kernel : decode prog_4_method_8_code 50 = .ok (.iconst (-1), 1)) (by decide +kernel)))))
      (sd_br
       (sd_br
        (sd_lf (sd_icmp_eq (by decide +kernel : decode prog_4_method_8_code 51 = .ok (.if_icmp .eq 7, 3)) (by decide +kernel)))
        (sd_lf (sd_iconst (by decide +kernel : decode prog_4_method_8_code 54 = .ok (.iconst 1, 1)) (by decide +kernel))))
       (sd_br
        (sd_lf (sd_goto (by decide +kernel : decode prog_4_method_8_code 55 = .ok (.goto 4, 3)) (by decide +kernel)))
        (sd_br
         (sd_lf (sd_iconst (by decide +kernel : decode prog_4_method_8_code 58 = .ok (.iconst 0, 1)) (by decide +kernel)))
         (sd_lf (sd_zret (by decide +kernel : decode prog_4_method_8_code 59 = .ok (.ireturn, 1)) rfl))))))))
def k_Rd_takes (l : Launch) (G : Gc) (pc : Nat) : Tr :=
  if pc < 38 then
   if pc < 32 then
    if pc < 1 then
     if pc = 0 then tz_aload 1 0 else dead
    else
     if pc < 4 then
      if pc = 1 then tz_getf 4 2 2 0 else dead
     else
      if pc = 4 then tz_sw [(nI 0, 32), (nI 1, 38)] 44 else dead
   else
    if pc < 34 then
     if pc < 33 then
      if pc = 32 then tz_aload 33 0 else dead
     else
      if pc = 33 then tz_iload 34 1 else dead
    else
     if pc < 37 then
      if pc = 34 then tz_callV l G 37 M_Rd_takesInNet 1 2 else dead
     else
      if pc = 37 then tz_zret else dead
  else
   if pc < 44 then
    if pc < 40 then
     if pc < 39 then
      if pc = 38 then tz_aload 39 0 else dead
     else
      if pc = 39 then tz_iload 40 1 else dead
    else
     if pc < 43 then
      if pc = 40 then tz_callV l G 43 M_Rd_takesDigit 1 2 else dead
     else
      if pc = 43 then tz_zret else dead
   else
    if pc < 46 then
     if pc < 45 then
      if pc = 44 then tz_aload 45 0 else dead
     else
      if pc = 45 then tz_iload 46 1 else dead
    else
     if pc < 49 then
      if pc = 46 then tz_callV l G 49 M_Rd_takesOpening 1 2 else dead
     else
      if pc = 49 then tz_zret else dead
set_option maxRecDepth 100000 in
theorem T_Rd_takes (l : Launch) (G : Gc) : TabOK l G M_Rd_takes (k_Rd_takes l G) := by
  intro pc
  unfold k_Rd_takes
  exact
   (sd_br
    (sd_br
     (sd_br
      (sd_lf (sd_aload_n (k := 0) (by decide +kernel : decode prog_4_method_4_code 0 = .ok (.aload_n 0, 1))))
      (sd_br
       (sd_lf (sd_getf (q := (RX2, TX2, 5)) (by decide +kernel : decode prog_4_method_4_code 1 = .ok (.getfield 22, 3)) rfl (by decide +kernel) (gm 140 (by decide +kernel) rfl)))
       (sd_lf (sd_lsw (by decide +kernel : decode prog_4_method_4_code 4 = .ok (.lookupswitch 40 #[(0, 28), (1, 34)], 28)) (by decide +kernel) (by decide +kernel) (by decide +kernel)))))
     (sd_br
      (sd_br
       (sd_lf (sd_aload_n (k := 0) (by decide +kernel : decode prog_4_method_4_code 32 = .ok (.aload_n 0, 1))))
       (sd_lf (sd_iload_n (k := 1) (by decide +kernel : decode prog_4_method_4_code 33 = .ok (.iload_n 1, 1)))))
      (sd_br
       (sd_lf (sd_callV (q := (RX2, TX2, 5)) (by decide +kernel : decode prog_4_method_4_code 34 = .ok (.invokevirtual 42, 3)) ok_Rd_takesInNet (gm 355 (by decide +kernel) rfl) (gm 357 (by decide +kernel) rfl) (gm 3 (by decide +kernel) rfl) rfl rfl (by decide +kernel) rfl rfl))
       (sd_lf (sd_zret (by decide +kernel : decode prog_4_method_4_code 37 = .ok (.ireturn, 1)) rfl)))))
    (sd_br
     (sd_br
      (sd_br
       (sd_lf (sd_aload_n (k := 0) (by decide +kernel : decode prog_4_method_4_code 38 = .ok (.aload_n 0, 1))))
       (sd_lf (sd_iload_n (k := 1) (by decide +kernel : decode prog_4_method_4_code 39 = .ok (.iload_n 1, 1)))))
      (sd_br
       (sd_lf (sd_callV (q := (RX2, TX2, 5)) (by decide +kernel : decode prog_4_method_4_code 40 = .ok (.invokevirtual 45, 3)) ok_Rd_takesDigit (gm 376 (by decide +kernel) rfl) (gm 378 (by decide +kernel) rfl) (gm 5 (by decide +kernel) rfl) rfl rfl (by decide +kernel) rfl rfl))
       (sd_lf (sd_zret (by decide +kernel : decode prog_4_method_4_code 43 = .ok (.ireturn, 1)) rfl))))
     (sd_br
      (sd_br
       (sd_lf (sd_aload_n (k := 0) (by decide +kernel : decode prog_4_method_4_code 44 = .ok (.aload_n 0, 1))))
       (sd_lf (sd_iload_n (k := 1) (by decide +kernel : decode prog_4_method_4_code 45 = .ok (.iload_n 1, 1)))))
      (sd_br
       (sd_lf (sd_callV (q := (RX2, TX2, 5)) (by decide +kernel : decode prog_4_method_4_code 46 = .ok (.invokevirtual 48, 3)) ok_Rd_takesOpening (gm 380 (by decide +kernel) rfl) (gm 382 (by decide +kernel) rfl) (gm 6 (by decide +kernel) rfl) rfl rfl (by decide +kernel) rfl rfl))
       (sd_lf (sd_zret (by decide +kernel : decode prog_4_method_4_code 49 = .ok (.ireturn, 1)) rfl))))))
def k_Rd_readAll (l : Launch) (G : Gc) (pc : Nat) : Tr :=
  if pc < 26 then
   if pc < 14 then
    if pc < 8 then
     if pc < 4 then
      if pc < 1 then
       if pc = 0 then tz_aload 1 0 else dead
      else
       if pc = 1 then tz_getf 4 2 0 1 else dead
     else
      if pc < 7 then
       if pc = 4 then tz_callV l G 7 M_Nw_reset 0 1 else dead
      else
       if pc = 7 then tz_aload 8 0 else dead
    else
     if pc < 12 then
      if pc < 9 then
       if pc = 8 then tz_const 9 (.int (nI 0)) else dead
      else
       if pc = 9 then tz_puti 12 2 2 else dead
     else
      if pc < 13 then
       if pc = 12 then tz_aload 13 0 else dead
      else
       if pc = 13 then tz_const 14 (.int (nI 0)) else dead
   else
    if pc < 22 then
     if pc < 18 then
      if pc < 17 then
       if pc = 14 then tz_puti 17 2 3 else dead
      else
       if pc = 17 then tz_aload 18 0 else dead
     else
      if pc < 19 then
       if pc = 18 then tz_const 19 (.int (nN)) else dead
      else
       if pc = 19 then tz_puti 22 2 4 else dead
    else
     if pc < 24 then
      if pc < 23 then
       if pc = 22 then tz_const 23 (.int (nI 0)) else dead
      else
       if pc = 23 then tz_istore 24 3 else dead
     else
      if pc < 25 then
       if pc = 24 then tz_iload 25 3 else dead
      else
       if pc = 25 then tz_iload 26 2 else dead
  else
   if pc < 38 then
    if pc < 32 then
     if pc < 30 then
      if pc < 29 then
       if pc = 26 then tz_icmp 29 53 (fun a b => b ≤ a) else dead
      else
       if pc = 29 then tz_iload 30 3 else dead
     else
      if pc < 31 then
       if pc = 30 then tz_aload 31 1 else dead
      else
       if pc = 31 then tz_alen 32 else dead
    else
     if pc < 36 then
      if pc < 35 then
       if pc = 32 then tz_icmp 35 53 (fun a b => b ≤ a) else dead
      else
       if pc = 35 then tz_aload 36 0 else dead
     else
      if pc < 37 then
       if pc = 36 then tz_aload 37 1 else dead
      else
       if pc = 37 then tz_iload 38 3 else dead
   else
    if pc < 46 then
     if pc < 42 then
      if pc < 39 then
       if pc = 38 then tz_iaload 39 else dead
      else
       if pc = 39 then tz_callV l G 42 M_Rd_takes 1 2 else dead
     else
      if pc < 45 then
       if pc = 42 then tz_if 45 47 (fun a => ¬ a = 0) else dead
      else
       if pc = 45 then tz_iload 46 3 else dead
    else
     if pc < 50 then
      if pc < 47 then
       if pc = 46 then tz_iret else dead
      else
       if pc = 47 then tz_iinc 50 3 (nI 1) else dead
     else
      if pc < 53 then
       if pc = 50 then tz_goto 24 else dead
      else
       if pc < 54 then
        if pc = 53 then tz_iload 54 2 else dead
       else
        if pc = 54 then tz_iret else dead
set_option maxRecDepth 100000 in
theorem T_Rd_readAll (l : Launch) (G : Gc) : TabOK l G M_Rd_readAll (k_Rd_readAll l G) := by
  intro pc
  unfold k_Rd_readAll
  exact
   (sd_br
    (sd_br
     (sd_br
      (sd_br
       (sd_br
        (sd_lf (sd_aload_n (k := 0) (by decide +kernel : decode prog_4_method_2_code 0 = .ok (.aload_n 0, 1))))
        (sd_lf (sd_getf (q := (RX2, TX2, 5)) (by decide +kernel : decode prog_4_method_2_code 1 = .ok (.getfield 12, 3)) rfl (by decide +kernel) (gm 137 (by decide +kernel) rfl))))
       (sd_br
        (sd_lf (sd_callV (q := (RX1, TX1, 6)) (by decide +kernel : decode prog_4_method_2_code 4 = .ok (.invokevirtual 32, 3)) ok_Nw_reset (gm 350 (by decide +kernel) rfl) (gm 181 (by decide +kernel) rfl) (gm 182 (by decide +kernel) rfl) rfl rfl (by decide +kernel) rfl rfl))
        (sd_lf (sd_aload_n (k := 0) (by decide +kernel : decode prog_4_method_2_code 7 = .ok (.aload_n 0, 1))))))
      (sd_br
       (sd_br
        (sd_lf (sd_iconst (by decide +kernel : decode prog_4_method_2_code 8 = .ok (.iconst 0, 1)) (by decide +kernel)))
        (sd_lf (sd_puti (q := (RX2, TX2, 5)) (by decide +kernel : decode prog_4_method_2_code 9 = .ok (.putfield 22, 3)) rfl (by decide +kernel) (gm 140 (by decide +kernel) rfl) rfl rfl (Or.inl rfl))))
       (sd_br
        (sd_lf (sd_aload_n (k := 0) (by decide +kernel : decode prog_4_method_2_code 12 = .ok (.aload_n 0, 1))))
        (sd_lf (sd_iconst (by decide +kernel : decode prog_4_method_2_code 13 = .ok (.iconst 0, 1)) (by decide +kernel))))))
     (sd_br
      (sd_br
       (sd_br
        (sd_lf (sd_puti (q := (RX2, TX2, 5)) (by decide +kernel : decode prog_4_method_2_code 14 = .ok (.putfield 26, 3)) rfl (by decide +kernel) (gm 141 (by decide +kernel) rfl) rfl rfl (Or.inl rfl)))
        (sd_lf (sd_aload_n (k := 0) (by decide +kernel : decode prog_4_method_2_code 17 = .ok (.aload_n 0, 1)))))
       (sd_br
        (sd_lf (sd_iconst (by decide +kernel : decode prog_4_method_2_code 18 = .ok (.iconst (-1), 1)) (by decide +kernel)))
        (sd_lf (sd_puti (q := (RX2, TX2, 5)) (by decide +kernel : decode prog_4_method_2_code 19 = .ok (.putfield 29, 3)) rfl (by decide +kernel) (gm 142 (by decide +kernel) rfl) rfl rfl (Or.inl rfl)))))
      (sd_br
       (sd_br
        (sd_lf (sd_iconst (by decide +kernel : decode prog_4_method_2_code 22 = .ok (.iconst 0, 1)) (by decide +kernel)))
        (sd_lf (sd_istore_n (k := 3) (by decide +kernel : decode prog_4_method_2_code 23 = .ok (.istore_n 3, 1)))))
       (sd_br
        (sd_lf (sd_iload_n (k := 3) (by decide +kernel : decode prog_4_method_2_code 24 = .ok (.iload_n 3, 1))))
        (sd_lf (sd_iload_n (k := 2) (by decide +kernel : decode prog_4_method_2_code 25 = .ok (.iload_n 2, 1))))))))
    (sd_br
     (sd_br
      (sd_br
       (sd_br
        (sd_lf (sd_icmp_ge (by decide +kernel : decode prog_4_method_2_code 26 = .ok (.if_icmp .ge 27, 3)) (by decide +kernel)))
        (sd_lf (sd_iload_n (k := 3) (by decide +kernel : decode prog_4_method_2_code 29 = .ok (.iload_n 3, 1)))))
       (sd_br
        (sd_lf (sd_aload_n (k := 1) (by decide +kernel : decode prog_4_method_2_code 30 = .ok (.aload_n 1, 1))))
        (sd_lf (sd_alen (by decide +kernel : decode prog_4_method_2_code 31 = .ok (.arraylength, 1))))))
      (sd_br
       (sd_br
        (sd_lf (sd_icmp_ge (by decide +kernel : decode prog_4_method_2_code 32 = .ok (.if_icmp .ge 21, 3)) (by decide +kernel)))
        (sd_lf (sd_aload_n (k := 0) (by decide +kernel : decode prog_4_method_2_code 35 = .ok (.aload_n 0, 1)))))
       (sd_br
        (sd_lf (sd_aload_n (k := 1) (by decide +kernel : decode prog_4_method_2_code 36 = .ok (.aload_n 1, 1))))
        (sd_lf (sd_iload_n (k := 3) (by decide +kernel : decode prog_4_method_2_code 37 = .ok (.iload_n 3, 1)))))))
     (sd_br
      (sd_br
       (sd_br
        (sd_lf (sd_iaload (by decide +kernel : decode prog_4_method_2_code 38 = .ok (.iaload, 1))))
        (sd_lf (sd_callV (q := (RX2, TX2, 5)) (by decide +kernel : decode prog_4_method_2_code 39 = .ok (.invokevirtual 35, 3)) ok_Rd_takes (gm 351 (by decide +kernel) rfl) (gm 353 (by decide +kernel) rfl) (gm 2 (by decide +kernel) rfl) rfl rfl (by decide +kernel) rfl rfl)))
       (sd_br
        (sd_lf (sd_if_ne (by decide +kernel : decode prog_4_method_2_code 42 = .ok (.ifCond .ne 5, 3)) (by decide +kernel)))
        (sd_lf (sd_iload_n (k := 3) (by decide +kernel : decode prog_4_method_2_code 45 = .ok (.iload_n 3, 1))))))
      (sd_br
       (sd_br
        (sd_lf (sd_iret (by decide +kernel : decode prog_4_method_2_code 46 = .ok (.ireturn, 1)) rfl))
        (sd_lf (sd_iinc (by decide +kernel : decode prog_4_method_2_code 47 = .ok (.iinc 3 1, 3)) (by decide +kernel))))
       (sd_br
        (sd_lf (sd_goto (by decide +kernel : decode prog_4_method_2_code 50 = .ok (.goto (-26), 3)) (by decide +kernel)))
        (sd_br
         (sd_lf (sd_iload_n (k := 2) (by decide +kernel : decode prog_4_method_2_code 53 = .ok (.iload_n 2, 1))))
         (sd_lf (sd_iret (by decide +kernel : decode prog_4_method_2_code 54 = .ok (.ireturn, 1)) rfl))))))))
def k_Rd_isComplete (l : Launch) (G : Gc) (pc : Nat) : Tr :=
  if pc < 17 then
   if pc < 7 then
    if pc < 1 then
     if pc = 0 then tz_aload 1 0 else dead
    else
     if pc < 4 then
      if pc = 1 then tz_getf 4 2 0 1 else dead
     else
      if pc = 4 then tz_getf 7 1 2 0 else dead
   else
    if pc < 11 then
     if pc < 10 then
      if pc = 7 then tz_if 10 29 (fun a => a ≤ 0) else dead
     else
      if pc = 10 then tz_aload 11 0 else dead
    else
     if pc < 14 then
      if pc = 11 then tz_getf 14 2 2 0 else dead
     else
      if pc = 14 then tz_if 17 29 (fun a => ¬ a = 0) else dead
  else
   if pc < 25 then
    if pc < 21 then
     if pc < 18 then
      if pc = 17 then tz_aload 18 0 else dead
     else
      if pc = 18 then tz_getf 21 2 4 0 else dead
    else
     if pc < 22 then
      if pc = 21 then tz_const 22 (.int (nN)) else dead
     else
      if pc = 22 then tz_icmp 25 29 (fun a b => ¬ a = b) else dead
   else
    if pc < 29 then
     if pc < 26 then
      if pc = 25 then tz_const 26 (.int (nI 1)) else dead
     else
      if pc = 26 then tz_goto 30 else dead
    else
     if pc < 30 then
      if pc = 29 then tz_const 30 (.int (nI 0)) else dead
     else
      if pc = 30 then tz_zret else dead
set_option maxRecDepth 100000 in
theorem T_Rd_isComplete (l : Launch) (G : Gc) : TabOK l G M_Rd_isComplete (k_Rd_isComplete l G) := by
  intro pc
  unfold k_Rd_isComplete
  exact
   (sd_br
    (sd_br
     (sd_br
      (sd_lf (sd_aload_n (k := 0) (by decide +kernel : decode prog_4_method_3_code 0 = .ok (.aload_n 0, 1))))
      (sd_br
       (sd_lf (sd_getf (q := (RX2, TX2, 5)) (by decide +kernel : decode prog_4_method_3_code 1 = .ok (.getfield 12, 3)) rfl (by decide +kernel) (gm 137 (by decide +kernel) rfl)))
       (sd_lf (sd_getf (q := (RX1, TX1, 6)) (by decide +kernel : decode prog_4_method_3_code 4 = .ok (.getfield 39, 3)) rfl (by decide +kernel) (gm 108 (by decide +kernel) rfl)))))
     (sd_br
      (sd_br
       (sd_lf (sd_if_le (by decide +kernel : decode prog_4_method_3_code 7 = .ok (.ifCond .le 22, 3)) (by decide +kernel)))
       (sd_lf (sd_aload_n (k := 0) (by decide +kernel : decode prog_4_method_3_code 10 = .ok (.aload_n 0, 1)))))
      (sd_br
       (sd_lf (sd_getf (q := (RX2, TX2, 5)) (by decide +kernel : decode prog_4_method_3_code 11 = .ok (.getfield 22, 3)) rfl (by decide +kernel) (gm 140 (by decide +kernel) rfl)))
       (sd_lf (sd_if_ne (by decide +kernel : decode prog_4_method_3_code 14 = .ok (.ifCond .ne 15, 3)) (by decide +kernel))))))
    (sd_br
     (sd_br
      (sd_br
       (sd_lf (sd_aload_n (k := 0) (by decide +kernel : decode prog_4_method_3_code 17 = .ok (.aload_n 0, 1))))
       (sd_lf (sd_getf (q := (RX2, TX2, 5)) (by decide +kernel : decode prog_4_method_3_code 18 = .ok (.getfield 29, 3)) rfl (by decide +kernel) (gm 142 (by decide +kernel) rfl))))
      (sd_br
       (sd_lf (sd_iconst (by decide +kernel : decode prog_4_method_3_code 21 = .ok (.iconst (-1), 1)) (by decide +kernel)))
       (sd_lf (sd_icmp_ne (by decide +kernel : decode prog_4_method_3_code 22 = .ok (.if_icmp .ne 7, 3)) (by decide +kernel)))))
     (sd_br
      (sd_br
       (sd_lf (sd_iconst (by decide +kernel : decode prog_4_method_3_code 25 = .ok (.iconst 1, 1)) (by decide +kernel)))
       (sd_lf (sd_goto (by decide +kernel : decode prog_4_method_3_code 26 = .ok (.goto 4, 3)) (by decide +kernel))))
      (sd_br
       (sd_lf (sd_iconst (by decide +kernel : decode prog_4_method_3_code 29 = .ok (.iconst 0, 1)) (by decide +kernel)))
       (sd_lf (sd_zret (by decide +kernel : decode prog_4_method_3_code 30 = .ok (.ireturn, 1)) rfl))))))
def k_Hp_firstError (l : Launch) (G : Gc) (pc : Nat) : Tr :=
  if pc < 8 then
   if pc < 4 then
    if pc < 1 then
     if pc = 0 then tz_aload 1 0 else dead
    else
     if pc = 1 then tz_getf 4 6 3 1 else dead
   else
    if pc < 5 then
     if pc = 4 then tz_aload 5 0 else dead
    else
     if pc = 5 then tz_getf 8 6 4 1 else dead
  else
   if pc < 12 then
    if pc < 9 then
     if pc = 8 then tz_aload 9 0 else dead
    else
     if pc = 9 then tz_getf 12 6 5 0 else dead
   else
    if pc < 15 then
     if pc = 12 then tz_callV l G 15 M_Rd_readAll 2 2 else dead
    else
     if pc = 15 then tz_iret else dead
set_option maxRecDepth 100000 in
theorem T_Hp_firstError (l : Launch) (G : Gc) : TabOK l G M_Hp_firstError (k_Hp_firstError l G) := by
  intro pc
  unfold k_Hp_firstError
  exact
   (sd_br
    (sd_br
     (sd_br
      (sd_lf (sd_aload_n (k := 0) (by decide +kernel : decode prog_1_method_11_code 0 = .ok (.aload_n 0, 1))))
      (sd_lf (sd_getf (q := (RX6, TX6, 7)) (by decide +kernel : decode prog_1_method_11_code 1 = .ok (.getfield 25, 3)) rfl (by decide +kernel) (gm 157 (by decide +kernel) rfl))))
     (sd_br
      (sd_lf (sd_aload_n (k := 0) (by decide +kernel : decode prog_1_method_11_code 4 = .ok (.aload_n 0, 1))))
      (sd_lf (sd_getf (q := (RX6, TX6, 7)) (by decide +kernel : decode prog_1_method_11_code 5 = .ok (.getfield 29, 3)) rfl (by decide +kernel) (gm 158 (by decide +kernel) rfl)))))
    (sd_br
     (sd_br
      (sd_lf (sd_aload_n (k := 0) (by decide +kernel : decode prog_1_method_11_code 8 = .ok (.aload_n 0, 1))))
      (sd_lf (sd_getf (q := (RX6, TX6, 7)) (by decide +kernel : decode prog_1_method_11_code 9 = .ok (.getfield 33, 3)) rfl (by decide +kernel) (gm 159 (by decide +kernel) rfl))))
     (sd_br
      (sd_lf (sd_callV (q := (RX2, TX2, 5)) (by decide +kernel : decode prog_1_method_11_code 12 = .ok (.invokevirtual 127, 3)) ok_Rd_readAll (gm 346 (by decide +kernel) rfl) (gm 347 (by decide +kernel) rfl) (gm 348 (by decide +kernel) rfl) rfl rfl (by decide +kernel) rfl rfl))
      (sd_lf (sd_iret (by decide +kernel : decode prog_1_method_11_code 15 = .ok (.ireturn, 1)) rfl)))))
def k_Hp_load (l : Launch) (G : Gc) (pc : Nat) : Tr :=
  if pc < 34 then
   if pc < 16 then
    if pc < 8 then
     if pc < 4 then
      if pc < 1 then
       if pc = 0 then tz_aload 1 0 else dead
      else
       if pc = 1 then tz_getf 4 6 3 1 else dead
     else
      if pc < 5 then
       if pc = 4 then tz_aload 5 0 else dead
      else
       if pc = 5 then tz_getf 8 6 4 1 else dead
    else
     if pc < 12 then
      if pc < 9 then
       if pc = 8 then tz_aload 9 0 else dead
      else
       if pc = 9 then tz_getf 12 6 5 0 else dead
     else
      if pc < 15 then
       if pc = 12 then tz_callV l G 15 M_Rd_readAll 2 2 else dead
      else
       if pc = 15 then tz_istore 16 1 else dead
   else
    if pc < 24 then
     if pc < 18 then
      if pc < 17 then
       if pc = 16 then tz_iload 17 1 else dead
      else
       if pc = 17 then tz_aload 18 0 else dead
     else
      if pc < 21 then
       if pc = 18 then tz_getf 21 6 5 0 else dead
      else
       if pc = 21 then tz_icmp 24 34 (fun a b => ¬ a = b) else dead
    else
     if pc < 28 then
      if pc < 25 then
       if pc = 24 then tz_aload 25 0 else dead
      else
       if pc = 25 then tz_getf 28 6 3 1 else dead
     else
      if pc < 31 then
       if pc = 28 then tz_callV l G 31 M_Rd_isComplete 0 2 else dead
      else
       if pc = 31 then tz_if 34 44 (fun a => ¬ a = 0) else dead
  else
   if pc < 59 then
    if pc < 49 then
     if pc < 45 then
      if pc < 44 then
       if pc = 34 then tz_throw "java/lang/IllegalArgumentException" else dead
      else
       if pc = 44 then tz_aload 45 0 else dead
     else
      if pc < 48 then
       if pc = 45 then tz_getf 48 6 0 1 else dead
      else
       if pc = 48 then tz_aload 49 0 else dead
    else
     if pc < 55 then
      if pc < 52 then
       if pc = 49 then tz_getf 52 6 3 1 else dead
      else
       if pc = 52 then tz_getf 55 2 0 1 else dead
     else
      if pc < 58 then
       if pc = 55 then tz_callV l G 58 M_Nw_copyFrom 1 1 else dead
      else
       if pc = 58 then tz_aload 59 0 else dead
   else
    if pc < 65 then
     if pc < 63 then
      if pc < 60 then
       if pc = 59 then tz_const 60 (.int (nI 0)) else dead
      else
       if pc = 60 then tz_putz 63 6 6 else dead
     else
      if pc < 64 then
       if pc = 63 then tz_aload 64 0 else dead
      else
       if pc = 64 then tz_const 65 (.int (nI 0)) else dead
    else
     if pc < 69 then
      if pc < 68 then
       if pc = 65 then tz_puti 68 6 5 else dead
      else
       if pc = 68 then tz_aload 69 0 else dead
     else
      if pc < 72 then
       if pc = 69 then tz_getf 72 6 0 1 else dead
      else
       if pc < 75 then
        if pc = 72 then tz_getf 75 1 2 0 else dead
       else
        if pc = 75 then tz_iret else dead
set_option maxRecDepth 100000 in
theorem T_Hp_load (l : Launch) (G : Gc) : TabOK l G M_Hp_load (k_Hp_load l G) := by
  intro pc
  unfold k_Hp_load
  exact
   (sd_br
    (sd_br
     (sd_br
      (sd_br
       (sd_br
        (sd_lf (sd_aload_n (k := 0) (by decide +kernel : decode prog_1_method_12_code 0 = .ok (.aload_n 0, 1))))
        (sd_lf (sd_getf (q := (RX6, TX6, 7)) (by decide +kernel : decode prog_1_method_12_code 1 = .ok (.getfield 25, 3)) rfl (by decide +kernel) (gm 157 (by decide +kernel) rfl))))
       (sd_br
        (sd_lf (sd_aload_n (k := 0) (by decide +kernel : decode prog_1_method_12_code 4 = .ok (.aload_n 0, 1))))
        (sd_lf (sd_getf (q := (RX6, TX6, 7)) (by decide +kernel : decode prog_1_method_12_code 5 = .ok (.getfield 29, 3)) rfl (by decide +kernel) (gm 158 (by decide +kernel) rfl)))))
      (sd_br
       (sd_br
        (sd_lf (sd_aload_n (k := 0) (by decide +kernel : decode prog_1_method_12_code 8 = .ok (.aload_n 0, 1))))
        (sd_lf (sd_getf (q := (RX6, TX6, 7)) (by decide +kernel : decode prog_1_method_12_code 9 = .ok (.getfield 33, 3)) rfl (by decide +kernel) (gm 159 (by decide +kernel) rfl))))
       (sd_br
        (sd_lf (sd_callV (q := (RX2, TX2, 5)) (by decide +kernel : decode prog_1_method_12_code 12 = .ok (.invokevirtual 127, 3)) ok_Rd_readAll (gm 346 (by decide +kernel) rfl) (gm 347 (by decide +kernel) rfl) (gm 348 (by decide +kernel) rfl) rfl rfl (by decide +kernel) rfl rfl))
        (sd_lf (sd_istore_n (k := 1) (by decide +kernel : decode prog_1_method_12_code 15 = .ok (.istore_n 1, 1)))))))
     (sd_br
      (sd_br
       (sd_br
        (sd_lf (sd_iload_n (k := 1) (by decide +kernel : decode prog_1_method_12_code 16 = .ok (.iload_n 1, 1))))
        (sd_lf (sd_aload_n (k := 0) (by decide +kernel : decode prog_1_method_12_code 17 = .ok (.aload_n 0, 1)))))
       (sd_br
        (sd_lf (sd_getf (q := (RX6, TX6, 7)) (by decide +kernel : decode prog_1_method_12_code 18 = .ok (.getfield 33, 3)) rfl (by decide +kernel) (gm 159 (by decide +kernel) rfl)))
        (sd_lf (sd_icmp_ne (by decide +kernel : decode prog_1_method_12_code 21 = .ok (.if_icmp .ne 13, 3)) (by decide +kernel)))))
      (sd_br
       (sd_br
        (sd_lf (sd_aload_n (k := 0) (by decide +kernel : decode prog_1_method_12_code 24 = .ok (.aload_n 0, 1))))
        (sd_lf (sd_getf (q := (RX6, TX6, 7)) (by decide +kernel : decode prog_1_method_12_code 25 = .ok (.getfield 25, 3)) rfl (by decide +kernel) (gm 157 (by decide +kernel) rfl))))
       (sd_br
        (sd_lf (sd_callV (q := (RX2, TX2, 5)) (by decide +kernel : decode prog_1_method_12_code 28 = .ok (.invokevirtual 131, 3)) ok_Rd_isComplete (gm 669 (by decide +kernel) rfl) (gm 670 (by decide +kernel) rfl) (gm 671 (by decide +kernel) rfl) rfl rfl (by decide +kernel) rfl rfl))
        (sd_lf (sd_if_ne (by decide +kernel : decode prog_1_method_12_code 31 = .ok (.ifCond .ne 13, 3)) (by decide +kernel)))))))
    (sd_br
     (sd_br
      (sd_br
       (sd_br
        (sd_lf (sd_throwS (text := "the buffer is not a complete network") (by decide +kernel) (by decide +kernel) (gm 591 (by decide +kernel) rfl) (gm 83 (by decide +kernel) rfl) (List.mem_of_getElem? (i := 601) (by decide +kernel)) thA_IAE thG_IAE (by decide +kernel : decode prog_1_method_12_code 34 = .ok (.new 70, 3)) (by decide +kernel : decode prog_1_method_12_code 37 = .ok (.dup, 1)) (by decide +kernel : decode prog_1_method_12_code 38 = .ok (.ldc 134, 2)) (by decide +kernel : decode prog_1_method_12_code 40 = .ok (.invokespecial 74, 3)) (by decide +kernel : decode prog_1_method_12_code 43 = .ok (.athrow, 1)) rfl (by decide +kernel) (by decide +kernel)))
        (sd_lf (sd_aload_n (k := 0) (by decide +kernel : decode prog_1_method_12_code 44 = .ok (.aload_n 0, 1)))))
       (sd_br
        (sd_lf (sd_getf (q := (RX6, TX6, 7)) (by decide +kernel : decode prog_1_method_12_code 45 = .ok (.getfield 12, 3)) rfl (by decide +kernel) (gm 154 (by decide +kernel) rfl)))
        (sd_lf (sd_aload_n (k := 0) (by decide +kernel : decode prog_1_method_12_code 48 = .ok (.aload_n 0, 1))))))
      (sd_br
       (sd_br
        (sd_lf (sd_getf (q := (RX6, TX6, 7)) (by decide +kernel : decode prog_1_method_12_code 49 = .ok (.getfield 25, 3)) rfl (by decide +kernel) (gm 157 (by decide +kernel) rfl)))
        (sd_lf (sd_getf (q := (RX2, TX2, 5)) (by decide +kernel : decode prog_1_method_12_code 52 = .ok (.getfield 136, 3)) rfl (by decide +kernel) (gm 138 (by decide +kernel) rfl))))
       (sd_br
        (sd_lf (sd_callV (q := (RX1, TX1, 6)) (by decide +kernel : decode prog_1_method_12_code 55 = .ok (.invokevirtual 117, 3)) ok_Nw_copyFrom (gm 188 (by decide +kernel) rfl) (gm 189 (by decide +kernel) rfl) (gm 190 (by decide +kernel) rfl) rfl rfl (by decide +kernel) rfl rfl))
        (sd_lf (sd_aload_n (k := 0) (by decide +kernel : decode prog_1_method_12_code 58 = .ok (.aload_n 0, 1)))))))
     (sd_br
      (sd_br
       (sd_br
        (sd_lf (sd_iconst (by decide +kernel : decode prog_1_method_12_code 59 = .ok (.iconst 0, 1)) (by decide +kernel)))
        (sd_lf (sd_putz (q := (RX6, TX6, 7)) (by decide +kernel : decode prog_1_method_12_code 60 = .ok (.putfield 37, 3)) rfl (by decide +kernel) (gm 160 (by decide +kernel) rfl) rfl rfl (Or.inl rfl))))
       (sd_br
        (sd_lf (sd_aload_n (k := 0) (by decide +kernel : decode prog_1_method_12_code 63 = .ok (.aload_n 0, 1))))
        (sd_lf (sd_iconst (by decide +kernel : decode prog_1_method_12_code 64 = .ok (.iconst 0, 1)) (by decide +kernel)))))
      (sd_br
       (sd_br
        (sd_lf (sd_puti (q := (RX6, TX6, 7)) (by decide +kernel : decode prog_1_method_12_code 65 = .ok (.putfield 33, 3)) rfl (by decide +kernel) (gm 159 (by decide +kernel) rfl) rfl rfl (Or.inl rfl)))
        (sd_lf (sd_aload_n (k := 0) (by decide +kernel : decode prog_1_method_12_code 68 = .ok (.aload_n 0, 1)))))
       (sd_br
        (sd_lf (sd_getf (q := (RX6, TX6, 7)) (by decide +kernel : decode prog_1_method_12_code 69 = .ok (.getfield 12, 3)) rfl (by decide +kernel) (gm 154 (by decide +kernel) rfl)))
        (sd_br
         (sd_lf (sd_getf (q := (RX1, TX1, 6)) (by decide +kernel : decode prog_1_method_12_code 72 = .ok (.getfield 41, 3)) rfl (by decide +kernel) (gm 107 (by decide +kernel) rfl)))
         (sd_lf (sd_iret (by decide +kernel : decode prog_1_method_12_code 75 = .ok (.ireturn, 1)) rfl))))))))
section
variable {h h' : AH} {A : Nat → Nat} {z zs t : Nat → Int32} {n : Nat}
/-- the reader's network has changed -/
theorem HpR.rdn {c : Nat} (k : HpR h A z zs t n) (iv : Inv z) (is : hI h (A 0) 6 = nI 1 → Inv zs) (f : Fr (A 5) c h h') (k' : ShN h' (A 5)) : HpR h' A z zs t n ∧ hI h' (A 0) = hI h (A 0) ∧ hI h' (A 4) = hI h (A 4) ∧ hI h' (A 6) = hI h (A 6) := by
  obtain ⟨a, k1, k2, k3, k4, k5, k6, k7, k8, k9⟩ := k
  obtain ⟨a', e0, e7, e4, e6⟩ := a.own f (a.2.2.2.2.2.2.1 5 (by omega) (by omega) (by omega))
  have hw := a.2.2.2.2.2.2.2
  have g := a.2.2.2.2.2.1
  refine ⟨⟨a', k1.frame hw iv.1 f (g 1 5 (by omega) (by omega) (by omega) (by omega) (by omega) (by omega) (by omega)), k2.frame hw f (g 2 5 (by omega) (by omega) (by omega) (by omega) (by omega) (by omega) (by omega)), fun q => ?_, by rw [e0]; exact k4, k5.frame hw f (g 3 5 (by omega) (by omega) (by omega) (by omega) (by omega) (by omega) (by omega)), k', by rw [e0]; exact k7, k8, fun q hq => by rw [e7]; exact k9 q hq⟩, e0, e4, e6⟩
  rw [e0] at q
  exact (k3 q).frame hw (is q).1 f (g 2 5 (by omega) (by omega) (by omega) (by omega) (by omega) (by omega) (by omega))
/-- numbers of the reader -/
theorem HpR.rdo {b : Nat} {f zN : Nat → Int32} (k : HpR h A z zs t n) (iv : Inv z) (is : hI h (A 0) 6 = nI 1 → Inv zs) (iN : Inv zN) (kN : NwR h (A 5) zN) (hb : b = A 4 ∨ b = A 6) : HpR (zw h b f) A z zs t n ∧ NwR (zw h b f) (A 5) zN ∧ hI (zw h b f) (A 0) = hI h (A 0) ∧ FrX 0 h (zw h b f) := by
  obtain ⟨a, k1, k2, k3, k4, k5, k6, k7, k8, k9⟩ := k
  have hw := a.2.2.2.2.2.2.2
  have g0 := a.2.2.2.2.2.2.1
  have rb : rt h b = some 0 := by
    rcases hb with q | q
    · rw [q]; exact rt_gh a.2.2.2.1.2.1
    · rw [q]; exact rt_gh a.2.2.2.2.1.2.2
  have fz : Fr 0 0 h (zw h b f) := Fr.zw hw rb
  have n0 : A 0 ≠ b := by
    rcases hb with q | q
    · rw [q]; exact ne_tg (by rw [a.1.1, a.2.2.2.1.1]; decide)
    · rw [q]; exact ne_tg (by rw [a.1.1, a.2.2.2.2.1.1]; decide)
  have n7 : A 7 ≠ b := by
    rcases hb with q | q
    · rw [q]; exact ne_tg (by rw [a.2.2.1.1, a.2.2.2.1.1]; decide)
    · rw [q]
      intro e
      have := a.2.2.1.2.1
      rw [e, a.2.2.2.2.1.2.1] at this
      exact absurd this (by decide)
  have e0 := hI_zw_ne (h := h) f n0
  have e7 := hI_zw_ne (h := h) f n7
  refine ⟨⟨a, k1.frame hw iv.1 fz (g0 1 (by omega) (by omega) (by omega)), k2.congr rfl rfl, fun q => (k3 (by rw [← e0]; exact q)).frame hw (is (by rw [← e0]; exact q)).1 fz (g0 2 (by omega) (by omega) (by omega)), by rw [e0]; exact k4, k5.congr rfl rfl, k6.congr rfl rfl, by rw [e0]; exact k7, k8, fun q hq => by rw [e7]; exact k9 q hq⟩, kN.frame hw iN.1 fz (g0 5 (by omega) (by omega) (by omega)), e0, fz.X⟩
end
/-- the net is d deep -/
def DpR (z : Nat → Int32) : Nat → Int32 → Prop
  | 0, net => net = nN
  | d + 1, net => ∃ j, j < mny z ∧ net = nI j ∧ z (16 + 16 * j) = nI 1 ∧ DpR z d (z (16 + 16 * j + 1))
theorem DpR.ne {z : Nat → Int32} : ∀ {d : Nat} {net : Int32}, DpR z d net → NeZ z net
  | 0, _, h => Or.inl h
  | _ + 1, _, ⟨j, j1, j2, j3, _⟩ => Or.inr ⟨j, j1, j2, j3⟩
theorem DpR.grow {z z' : Nat → Int32} (m : mny z ≤ mny z') (e : ∀ j, j < mny z → z' (16 + 16 * j) = z (16 + 16 * j) ∧ z' (16 + 16 * j + 1) = z (16 + 16 * j + 1)) : ∀ {d : Nat} {net : Int32}, DpR z d net → DpR z' d net
  | 0, _, h => h
  | _ + 1, _, ⟨j, j1, j2, j3, j4⟩ => ⟨j, by omega, j2, (e j j1).1.trans j3, by rw [(e j j1).2]; exact j4.grow m e⟩
theorem DpR.pos {z : Nat → Int32} (m10 : mny z ≤ 10) {d : Nat} {net : Int32} (h : DpR z d net) : 0 < d ↔ ¬ net = nN := by
  cases d with
  | zero => exact ⟨fun q => by omega, fun q => absurd h q⟩
  | succ d =>
    obtain ⟨j, j1, j2, -⟩ := h
    exact ⟨fun _ => by rw [j2, nN_e2 (by omega)]; exact id, fun _ => by omega⟩
/-- what the reader does in -/
def mdI (dg : Nat) : Int32 := if dg = 4 then nI 0 else if dg = 3 then nI 2 else nI 1
/-- the reader's numbers -/
def RdN (h : AH) (A : Nat → Nat) (t : Nat → Int32) (n i dp bg dg : Nat) (zN z0 : Nat → Int32) (net : Int32) : Prop :=
  Inv zN ∧ DpR zN dp net ∧ (hI h (A 4) 2 = mdI dg ∧ (dg ≤ 3 → hI h (A 4) 3 = nI dg) ∧ hI h (A 4) 4 = net) ∧ bg = mny zN + (if dg = 4 then 0 else 1) ∧ (dg = 4 → ∀ f z', BldR t n f i zN net z' → BldR t n (f + i) 0 z0 nN z') ∧ (dg < 4 → ∃ k, i = k + 1 + dg ∧ t k = nI 116 ∧ (∀ j, j < dg → hI h (A 6) j = t (k + 1 + j) - nI 48 ∧ in1 (t (k + 1 + j) - nI 48) 0 2) ∧ ∀ f z', BldR t n f k zN net z' → BldR t n (f + k) 0 z0 nN z')
/-- the reader at place i -/
def RdR (h : AH) (A : Nat → Nat) (z zs t : Nat → Int32) (n i dp bg dg : Nat) (z0 : Nat → Int32) : Prop := HpR h A z zs t n ∧ ∃ zN net, NwR h (A 5) zN ∧ RdN h A t n i dp bg dg zN z0 net
section
variable {l : Launch} {G : Gc}
theorem c_Nw_newHostF (wn : Nat) (net : Int32) (z : Nat → Int32) (h : AH) (Q : Po) (k : NwR h wn z) (hc : mny z = 10) (hQ : Q (.inl (some (.int nN))) h) : Call l G M_Nw_newHost [.ref wn, .int net] h Q := by
  obtain ⟨⟨h1, h2, h3, h4⟩, -⟩ := id k.1
  have w2 := k.2.1.1
  rw [hc] at w2
  refine call_of rfl rfl (Nat.le_of_ble_eq_true rfl) ?_
  (obtain ⟨W9, hW9, hgo9⟩ := wp_ex (T_Nw_newHost l G) [] _; refine hgo9 200 _ _ _ _ ?_; simp -implicitDefEqProofs (disch := omega) only [hW9, inl, gate, Xq, tz_const, tz_iload, tz_lload, tz_dload, tz_aload, tz_istore, tz_astore, tz_lstore, tz_dstore, tz_iinc, tz_i1, tz_i2, tz_i2z, tz_l2, tz_l2z, tz_i2l, tz_l2i, tz_lcmp, tz_i2d, tz_d2, tz_dcmp, tz_dup, tz_dup2, tz_pop, tz_if, tz_icmp, tz_null, tz_goto, tz_sw, tz_getf, tz_puti, tz_putz, tz_putr, tz_putl, tz_iaload, tz_baload, tz_laload, tz_aaload, tz_iastore, tz_bastore, tz_lastore, tz_aastore, tz_alen, tz_new, tz_newa, tz_oinit, tz_iret, tz_zret, tz_lret, tz_dret, tz_aret, tz_vret, tz_throw, tz_callS, tz_callV, tz_callI, tz_callR, tz_pureS, tz_pureV, tz_callVH, lg, lset, lkill, lst1, lst2, entL, isRf, is1, vl, va_rf_none, va_rf_some, isRf_rf, is1_rf, i0, i1, bI_eq0, bI_eq1, nm_em, nI_eqP, nI_leP, nI_ltP, nN_e1, nN_e2, nN_l1, nN_l2, nN_l3, nN_l4, nI_add, pk_mul, vp_inN, nI_cl, n01, n10, P_i, P_ii, P_iii, f_Mo_at, f_Mo_map, f_Mo_contact, f_Mo_within, f_Mo_isPort, f_Hp_endpoint, f_Hp_nodeOf, f_Hp_portOf, f_Ma_max, f_Ma_min, f_Hp_isSetting, popN, rok, a1, noX, swc, mL, if_true, if_false, ↓reduceIte, cond_true, cond_false, true_and, and_true, List.length_cons, List.length_nil, List.nil_append, List.cons_append, List.append_nil, Option.toList, Nat.reduceEqDiff, Bool.false_eq_true, reduceCtorEq, Nat.reduceAdd, Nat.reduceLT, Nat.reduceLeDiff, Nat.reduceSub, List.replicate, Nat.zero_add, Nat.lt_add_one, Nat.le_refl, Nat.zero_le, Nat.succ_ne_zero, not_false_eq_true, not_true_eq_false, false_implies, true_implies, forall_const, imp_self, true_or, or_true, eq_self, sI_zw, zw_zw, hI_zw, tg_zw, ln_zw, hR_zw, hL_zw, hN_zw, hM_zw, upd_s, upd_u, upd_ne, Classical.not_not, k_Nw_newHost, h1]; try clear hgo9 hW9)
  refine call_of rfl rfl (Nat.le_of_ble_eq_true rfl) ?_
  ((obtain ⟨W9, hW9, hgo9⟩ := wp_ex (T_Nw_nextNode l G) [] _; refine hgo9 200 _ _ _ _ ?_; simp -implicitDefEqProofs (disch := omega) only [hW9, inl, gate, Xq, tz_const, tz_iload, tz_lload, tz_dload, tz_aload, tz_istore, tz_astore, tz_lstore, tz_dstore, tz_iinc, tz_i1, tz_i2, tz_i2z, tz_l2, tz_l2z, tz_i2l, tz_l2i, tz_lcmp, tz_i2d, tz_d2, tz_dcmp, tz_dup, tz_dup2, tz_pop, tz_if, tz_icmp, tz_null, tz_goto, tz_sw, tz_getf, tz_puti, tz_putz, tz_putr, tz_putl, tz_iaload, tz_baload, tz_laload, tz_aaload, tz_iastore, tz_bastore, tz_lastore, tz_aastore, tz_alen, tz_new, tz_newa, tz_oinit, tz_iret, tz_zret, tz_lret, tz_dret, tz_aret, tz_vret, tz_throw, tz_callS, tz_callV, tz_callI, tz_callR, tz_pureS, tz_pureV, tz_callVH, lg, lset, lkill, lst1, lst2, entL, isRf, is1, vl, va_rf_none, va_rf_some, isRf_rf, is1_rf, i0, i1, bI_eq0, bI_eq1, nm_em, nI_eqP, nI_leP, nI_ltP, nN_e1, nN_e2, nN_l1, nN_l2, nN_l3, nN_l4, nI_add, pk_mul, vp_inN, nI_cl, n01, n10, P_i, P_ii, P_iii, f_Mo_at, f_Mo_map, f_Mo_contact, f_Mo_within, f_Mo_isPort, f_Hp_endpoint, f_Hp_nodeOf, f_Hp_portOf, f_Ma_max, f_Ma_min, f_Hp_isSetting, popN, rok, a1, noX, swc, mL, if_true, if_false, ↓reduceIte, cond_true, cond_false, true_and, and_true, List.length_cons, List.length_nil, List.nil_append, List.cons_append, List.append_nil, Option.toList, Nat.reduceEqDiff, Bool.false_eq_true, reduceCtorEq, Nat.reduceAdd, Nat.reduceLT, Nat.reduceLeDiff, Nat.reduceSub, List.replicate, Nat.zero_add, Nat.lt_add_one, Nat.le_refl, Nat.zero_le, Nat.succ_ne_zero, not_false_eq_true, not_true_eq_false, false_implies, true_implies, forall_const, imp_self, true_or, or_true, eq_self, sI_zw, zw_zw, hI_zw, tg_zw, ln_zw, hR_zw, hL_zw, hN_zw, hM_zw, upd_s, upd_u, upd_ne, Classical.not_not, k_Nw_nextNode, h1, h2, h3, h4, w2]; try clear hgo9 hW9); try (obtain ⟨W9, hW9, hgo9⟩ := wp_ex (T_Nw_nextNode l G) [] _; refine hgo9 200 _ _ _ _ ?_; simp -implicitDefEqProofs (disch := omega) only [hW9, inl, gate, Xq, tz_const, tz_iload, tz_lload, tz_dload, tz_aload, tz_istore, tz_astore, tz_lstore, tz_dstore, tz_iinc, tz_i1, tz_i2, tz_i2z, tz_l2, tz_l2z, tz_i2l, tz_l2i, tz_lcmp, tz_i2d, tz_d2, tz_dcmp, tz_dup, tz_dup2, tz_pop, tz_if, tz_icmp, tz_null, tz_goto, tz_sw, tz_getf, tz_puti, tz_putz, tz_putr, tz_putl, tz_iaload, tz_baload, tz_laload, tz_aaload, tz_iastore, tz_bastore, tz_lastore, tz_aastore, tz_alen, tz_new, tz_newa, tz_oinit, tz_iret, tz_zret, tz_lret, tz_dret, tz_aret, tz_vret, tz_throw, tz_callS, tz_callV, tz_callI, tz_callR, tz_pureS, tz_pureV, tz_callVH, lg, lset, lkill, lst1, lst2, entL, isRf, is1, vl, va_rf_none, va_rf_some, isRf_rf, is1_rf, i0, i1, bI_eq0, bI_eq1, nm_em, nI_eqP, nI_leP, nI_ltP, nN_e1, nN_e2, nN_l1, nN_l2, nN_l3, nN_l4, nI_add, pk_mul, vp_inN, nI_cl, n01, n10, P_i, P_ii, P_iii, f_Mo_at, f_Mo_map, f_Mo_contact, f_Mo_within, f_Mo_isPort, f_Hp_endpoint, f_Hp_nodeOf, f_Hp_portOf, f_Ma_max, f_Ma_min, f_Hp_isSetting, popN, rok, a1, noX, swc, mL, if_true, if_false, ↓reduceIte, cond_true, cond_false, true_and, and_true, List.length_cons, List.length_nil, List.nil_append, List.cons_append, List.append_nil, Option.toList, Nat.reduceEqDiff, Bool.false_eq_true, reduceCtorEq, Nat.reduceAdd, Nat.reduceLT, Nat.reduceLeDiff, Nat.reduceSub, List.replicate, Nat.zero_add, Nat.lt_add_one, Nat.le_refl, Nat.zero_le, Nat.succ_ne_zero, not_false_eq_true, not_true_eq_false, false_implies, true_implies, forall_const, imp_self, true_or, or_true, eq_self, sI_zw, zw_zw, hI_zw, tg_zw, ln_zw, hR_zw, hL_zw, hN_zw, hM_zw, upd_s, upd_u, upd_ne, Classical.not_not, k_Nw_nextNode, h1, h2, h3, h4, w2]; try clear hgo9 hW9); try (obtain ⟨W9, hW9, hgo9⟩ := wp_ex (T_Nw_nextNode l G) [] _; refine hgo9 200 _ _ _ _ ?_; simp -implicitDefEqProofs (disch := omega) only [hW9, inl, gate, Xq, tz_const, tz_iload, tz_lload, tz_dload, tz_aload, tz_istore, tz_astore, tz_lstore, tz_dstore, tz_iinc, tz_i1, tz_i2, tz_i2z, tz_l2, tz_l2z, tz_i2l, tz_l2i, tz_lcmp, tz_i2d, tz_d2, tz_dcmp, tz_dup, tz_dup2, tz_pop, tz_if, tz_icmp, tz_null, tz_goto, tz_sw, tz_getf, tz_puti, tz_putz, tz_putr, tz_putl, tz_iaload, tz_baload, tz_laload, tz_aaload, tz_iastore, tz_bastore, tz_lastore, tz_aastore, tz_alen, tz_new, tz_newa, tz_oinit, tz_iret, tz_zret, tz_lret, tz_dret, tz_aret, tz_vret, tz_throw, tz_callS, tz_callV, tz_callI, tz_callR, tz_pureS, tz_pureV, tz_callVH, lg, lset, lkill, lst1, lst2, entL, isRf, is1, vl, va_rf_none, va_rf_some, isRf_rf, is1_rf, i0, i1, bI_eq0, bI_eq1, nm_em, nI_eqP, nI_leP, nI_ltP, nN_e1, nN_e2, nN_l1, nN_l2, nN_l3, nN_l4, nI_add, pk_mul, vp_inN, nI_cl, n01, n10, P_i, P_ii, P_iii, f_Mo_at, f_Mo_map, f_Mo_contact, f_Mo_within, f_Mo_isPort, f_Hp_endpoint, f_Hp_nodeOf, f_Hp_portOf, f_Ma_max, f_Ma_min, f_Hp_isSetting, popN, rok, a1, noX, swc, mL, if_true, if_false, ↓reduceIte, cond_true, cond_false, true_and, and_true, List.length_cons, List.length_nil, List.nil_append, List.cons_append, List.append_nil, Option.toList, Nat.reduceEqDiff, Bool.false_eq_true, reduceCtorEq, Nat.reduceAdd, Nat.reduceLT, Nat.reduceLeDiff, Nat.reduceSub, List.replicate, Nat.zero_add, Nat.lt_add_one, Nat.le_refl, Nat.zero_le, Nat.succ_ne_zero, not_false_eq_true, not_true_eq_false, false_implies, true_implies, forall_const, imp_self, true_or, or_true, eq_self, sI_zw, zw_zw, hI_zw, tg_zw, ln_zw, hR_zw, hL_zw, hN_zw, hM_zw, upd_s, upd_u, upd_ne, Classical.not_not, k_Nw_nextNode, h1, h2, h3, h4, w2]; try clear hgo9 hW9))
  simp only [aft]
  ((obtain ⟨W9, hW9, hgo9⟩ := wp_ex (T_Nw_newHost l G) [] _; refine hgo9 200 _ _ _ _ ?_; simp -implicitDefEqProofs (disch := omega) only [hW9, inl, gate, Xq, tz_const, tz_iload, tz_lload, tz_dload, tz_aload, tz_istore, tz_astore, tz_lstore, tz_dstore, tz_iinc, tz_i1, tz_i2, tz_i2z, tz_l2, tz_l2z, tz_i2l, tz_l2i, tz_lcmp, tz_i2d, tz_d2, tz_dcmp, tz_dup, tz_dup2, tz_pop, tz_if, tz_icmp, tz_null, tz_goto, tz_sw, tz_getf, tz_puti, tz_putz, tz_putr, tz_putl, tz_iaload, tz_baload, tz_laload, tz_aaload, tz_iastore, tz_bastore, tz_lastore, tz_aastore, tz_alen, tz_new, tz_newa, tz_oinit, tz_iret, tz_zret, tz_lret, tz_dret, tz_aret, tz_vret, tz_throw, tz_callS, tz_callV, tz_callI, tz_callR, tz_pureS, tz_pureV, tz_callVH, lg, lset, lkill, lst1, lst2, entL, isRf, is1, vl, va_rf_none, va_rf_some, isRf_rf, is1_rf, i0, i1, bI_eq0, bI_eq1, nm_em, nI_eqP, nI_leP, nI_ltP, nN_e1, nN_e2, nN_l1, nN_l2, nN_l3, nN_l4, nI_add, pk_mul, vp_inN, nI_cl, n01, n10, P_i, P_ii, P_iii, f_Mo_at, f_Mo_map, f_Mo_contact, f_Mo_within, f_Mo_isPort, f_Hp_endpoint, f_Hp_nodeOf, f_Hp_portOf, f_Ma_max, f_Ma_min, f_Hp_isSetting, popN, rok, a1, noX, swc, mL, if_true, if_false, ↓reduceIte, cond_true, cond_false, true_and, and_true, List.length_cons, List.length_nil, List.nil_append, List.cons_append, List.append_nil, Option.toList, Nat.reduceEqDiff, Bool.false_eq_true, reduceCtorEq, Nat.reduceAdd, Nat.reduceLT, Nat.reduceLeDiff, Nat.reduceSub, List.replicate, Nat.zero_add, Nat.lt_add_one, Nat.le_refl, Nat.zero_le, Nat.succ_ne_zero, not_false_eq_true, not_true_eq_false, false_implies, true_implies, forall_const, imp_self, true_or, or_true, eq_self, sI_zw, zw_zw, hI_zw, tg_zw, ln_zw, hR_zw, hL_zw, hN_zw, hM_zw, upd_s, upd_u, upd_ne, Classical.not_not, k_Nw_newHost, h1]; try clear hgo9 hW9); try (obtain ⟨W9, hW9, hgo9⟩ := wp_ex (T_Nw_newHost l G) [] _; refine hgo9 200 _ _ _ _ ?_; simp -implicitDefEqProofs (disch := omega) only [hW9, inl, gate, Xq, tz_const, tz_iload, tz_lload, tz_dload, tz_aload, tz_istore, tz_astore, tz_lstore, tz_dstore, tz_iinc, tz_i1, tz_i2, tz_i2z, tz_l2, tz_l2z, tz_i2l, tz_l2i, tz_lcmp, tz_i2d, tz_d2, tz_dcmp, tz_dup, tz_dup2, tz_pop, tz_if, tz_icmp, tz_null, tz_goto, tz_sw, tz_getf, tz_puti, tz_putz, tz_putr, tz_putl, tz_iaload, tz_baload, tz_laload, tz_aaload, tz_iastore, tz_bastore, tz_lastore, tz_aastore, tz_alen, tz_new, tz_newa, tz_oinit, tz_iret, tz_zret, tz_lret, tz_dret, tz_aret, tz_vret, tz_throw, tz_callS, tz_callV, tz_callI, tz_callR, tz_pureS, tz_pureV, tz_callVH, lg, lset, lkill, lst1, lst2, entL, isRf, is1, vl, va_rf_none, va_rf_some, isRf_rf, is1_rf, i0, i1, bI_eq0, bI_eq1, nm_em, nI_eqP, nI_leP, nI_ltP, nN_e1, nN_e2, nN_l1, nN_l2, nN_l3, nN_l4, nI_add, pk_mul, vp_inN, nI_cl, n01, n10, P_i, P_ii, P_iii, f_Mo_at, f_Mo_map, f_Mo_contact, f_Mo_within, f_Mo_isPort, f_Hp_endpoint, f_Hp_nodeOf, f_Hp_portOf, f_Ma_max, f_Ma_min, f_Hp_isSetting, popN, rok, a1, noX, swc, mL, if_true, if_false, ↓reduceIte, cond_true, cond_false, true_and, and_true, List.length_cons, List.length_nil, List.nil_append, List.cons_append, List.append_nil, Option.toList, Nat.reduceEqDiff, Bool.false_eq_true, reduceCtorEq, Nat.reduceAdd, Nat.reduceLT, Nat.reduceLeDiff, Nat.reduceSub, List.replicate, Nat.zero_add, Nat.lt_add_one, Nat.le_refl, Nat.zero_le, Nat.succ_ne_zero, not_false_eq_true, not_true_eq_false, false_implies, true_implies, forall_const, imp_self, true_or, or_true, eq_self, sI_zw, zw_zw, hI_zw, tg_zw, ln_zw, hR_zw, hL_zw, hN_zw, hM_zw, upd_s, upd_u, upd_ne, Classical.not_not, k_Nw_newHost, h1]; try clear hgo9 hW9))
  exact hQ
theorem c_Rd_takesInNet (A : Nat → Nat) (z zs t z0 : Nat → Int32) (n i dp bg : Nat) (c : Int32) (h : AH) (Q : Po) (k : RdR h A z zs t n i dp bg 4 z0) (iv : Inv z) (is : hI h (A 0) 6 = nI 1 → Inv zs) (hi : i < n) (ec : c = t i)
    (q1 : tkS c dp bg 4 = none → ∀ h', HpR h' A z zs t n → hI h' (A 0) 6 = hI h (A 0) 6 → FrX 3 h h' → Q (.inl (some (.int (nI 0)))) h')
    (q2 : ∀ dp' bg' dg', tkS c dp bg 4 = some (dp', bg', dg') → ∀ h', RdR h' A z zs t n (i + 1) dp' bg' dg' z0 → hI h' (A 0) 6 = hI h (A 0) 6 → FrX 3 h h' → Q (.inl (some (.int (nI 1)))) h') : Call l G M_Rd_takesInNet [.ref (A 4), .int c] h Q := by
  obtain ⟨kk, zN, net, kN, iN, dN, ⟨r2, -, r4⟩, eb, bl, -⟩ := k
  have bl := bl rfl
  rw [if_pos rfl, Nat.add_zero] at eb
  obtain ⟨s1, s2, s3, s4⟩ := kk.1.2.2.2.1
  have w1 := kN.1.1.1
  have w2 := kN.2.1.1
  have hw := kk.1.2.2.2.2.2.2.2
  have m10 := iN.1.1.at.2
  have n40 := kk.2.2.2.2.2.2.2.2.1
  unfold tkS at q1 q2
  rw [if_pos rfl] at q1 q2
  refine call_of rfl rfl (Nat.le_of_ble_eq_true rfl) ?_
  by_cases c41 : c = nI 41
  · rw [if_pos c41] at q1 q2
    subst c41
    ((obtain ⟨W9, hW9, hgo9⟩ := wp_ex (T_Rd_takesInNet l G) [] _; refine hgo9 200 _ _ _ _ ?_; simp -implicitDefEqProofs (disch := omega) only [hW9, inl, gate, Xq, tz_const, tz_iload, tz_lload, tz_dload, tz_aload, tz_istore, tz_astore, tz_lstore, tz_dstore, tz_iinc, tz_i1, tz_i2, tz_i2z, tz_l2, tz_l2z, tz_i2l, tz_l2i, tz_lcmp, tz_i2d, tz_d2, tz_dcmp, tz_dup, tz_dup2, tz_pop, tz_if, tz_icmp, tz_null, tz_goto, tz_sw, tz_getf, tz_puti, tz_putz, tz_putr, tz_putl, tz_iaload, tz_baload, tz_laload, tz_aaload, tz_iastore, tz_bastore, tz_lastore, tz_aastore, tz_alen, tz_new, tz_newa, tz_oinit, tz_iret, tz_zret, tz_lret, tz_dret, tz_aret, tz_vret, tz_throw, tz_callS, tz_callV, tz_callI, tz_callR, tz_pureS, tz_pureV, tz_callVH, lg, lset, lkill, lst1, lst2, entL, isRf, is1, vl, va_rf_none, va_rf_some, isRf_rf, is1_rf, i0, i1, bI_eq0, bI_eq1, nm_em, nI_eqP, nI_leP, nI_ltP, nN_e1, nN_e2, nN_l1, nN_l2, nN_l3, nN_l4, nI_add, pk_mul, vp_inN, nI_cl, n01, n10, P_i, P_ii, P_iii, f_Mo_at, f_Mo_map, f_Mo_contact, f_Mo_within, f_Mo_isPort, f_Hp_endpoint, f_Hp_nodeOf, f_Hp_portOf, f_Ma_max, f_Ma_min, f_Hp_isSetting, popN, rok, a1, noX, swc, mL, if_true, if_false, ↓reduceIte, cond_true, cond_false, true_and, and_true, List.length_cons, List.length_nil, List.nil_append, List.cons_append, List.append_nil, Option.toList, Nat.reduceEqDiff, Bool.false_eq_true, reduceCtorEq, Nat.reduceAdd, Nat.reduceLT, Nat.reduceLeDiff, Nat.reduceSub, List.replicate, Nat.zero_add, Nat.lt_add_one, Nat.le_refl, Nat.zero_le, Nat.succ_ne_zero, not_false_eq_true, not_true_eq_false, false_implies, true_implies, forall_const, imp_self, true_or, or_true, eq_self, sI_zw, zw_zw, hI_zw, tg_zw, ln_zw, hR_zw, hL_zw, hN_zw, hM_zw, upd_s, upd_u, upd_ne, Classical.not_not, k_Rd_takesInNet, s1]; try clear hgo9 hW9); try (obtain ⟨W9, hW9, hgo9⟩ := wp_ex (T_Rd_takesInNet l G) [] _; refine hgo9 200 _ _ _ _ ?_; simp -implicitDefEqProofs (disch := omega) only [hW9, inl, gate, Xq, tz_const, tz_iload, tz_lload, tz_dload, tz_aload, tz_istore, tz_astore, tz_lstore, tz_dstore, tz_iinc, tz_i1, tz_i2, tz_i2z, tz_l2, tz_l2z, tz_i2l, tz_l2i, tz_lcmp, tz_i2d, tz_d2, tz_dcmp, tz_dup, tz_dup2, tz_pop, tz_if, tz_icmp, tz_null, tz_goto, tz_sw, tz_getf, tz_puti, tz_putz, tz_putr, tz_putl, tz_iaload, tz_baload, tz_laload, tz_aaload, tz_iastore, tz_bastore, tz_lastore, tz_aastore, tz_alen, tz_new, tz_newa, tz_oinit, tz_iret, tz_zret, tz_lret, tz_dret, tz_aret, tz_vret, tz_throw, tz_callS, tz_callV, tz_callI, tz_callR, tz_pureS, tz_pureV, tz_callVH, lg, lset, lkill, lst1, lst2, entL, isRf, is1, vl, va_rf_none, va_rf_some, isRf_rf, is1_rf, i0, i1, bI_eq0, bI_eq1, nm_em, nI_eqP, nI_leP, nI_ltP, nN_e1, nN_e2, nN_l1, nN_l2, nN_l3, nN_l4, nI_add, pk_mul, vp_inN, nI_cl, n01, n10, P_i, P_ii, P_iii, f_Mo_at, f_Mo_map, f_Mo_contact, f_Mo_within, f_Mo_isPort, f_Hp_endpoint, f_Hp_nodeOf, f_Hp_portOf, f_Ma_max, f_Ma_min, f_Hp_isSetting, popN, rok, a1, noX, swc, mL, if_true, if_false, ↓reduceIte, cond_true, cond_false, true_and, and_true, List.length_cons, List.length_nil, List.nil_append, List.cons_append, List.append_nil, Option.toList, Nat.reduceEqDiff, Bool.false_eq_true, reduceCtorEq, Nat.reduceAdd, Nat.reduceLT, Nat.reduceLeDiff, Nat.reduceSub, List.replicate, Nat.zero_add, Nat.lt_add_one, Nat.le_refl, Nat.zero_le, Nat.succ_ne_zero, not_false_eq_true, not_true_eq_false, false_implies, true_implies, forall_const, imp_self, true_or, or_true, eq_self, sI_zw, zw_zw, hI_zw, tg_zw, ln_zw, hR_zw, hL_zw, hN_zw, hM_zw, upd_s, upd_u, upd_ne, Classical.not_not, k_Rd_takesInNet, s1]; try clear hgo9 hW9))
    refine call_of rfl rfl (Nat.le_of_ble_eq_true rfl) ?_
    by_cases c0 : 0 < dp
    · rw [if_pos c0] at q2
      obtain ⟨j, j1, j2, j3, j4⟩ : ∃ j, j < mny zN ∧ net = nI j ∧ zN (16 + 16 * j) = nI 1 ∧ DpR zN (dp - 1) (zN (16 + 16 * j + 1)) := by
        cases dp with
        | zero => omega
        | succ d => exact dN
      subst j2
      have nn : ¬ nI j = nN := by rw [nN_e2 (by omega)]; exact id
      have hPn : P_Nw_netOf [.ref (A 5), .int (nI j)] h := kN.1.NdK _
      have ne1 := kN.ne m10 j1
      ((obtain ⟨W9, hW9, hgo9⟩ := wp_ex (T_Rd_leavesNet l G) [] _; refine hgo9 200 _ _ _ _ ?_; simp -implicitDefEqProofs (disch := omega) only [hW9, inl, gate, Xq, tz_const, tz_iload, tz_lload, tz_dload, tz_aload, tz_istore, tz_astore, tz_lstore, tz_dstore, tz_iinc, tz_i1, tz_i2, tz_i2z, tz_l2, tz_l2z, tz_i2l, tz_l2i, tz_lcmp, tz_i2d, tz_d2, tz_dcmp, tz_dup, tz_dup2, tz_pop, tz_if, tz_icmp, tz_null, tz_goto, tz_sw, tz_getf, tz_puti, tz_putz, tz_putr, tz_putl, tz_iaload, tz_baload, tz_laload, tz_aaload, tz_iastore, tz_bastore, tz_lastore, tz_aastore, tz_alen, tz_new, tz_newa, tz_oinit, tz_iret, tz_zret, tz_lret, tz_dret, tz_aret, tz_vret, tz_throw, tz_callS, tz_callV, tz_callI, tz_callR, tz_pureS, tz_pureV, tz_callVH, lg, lset, lkill, lst1, lst2, entL, isRf, is1, vl, va_rf_none, va_rf_some, isRf_rf, is1_rf, i0, i1, bI_eq0, bI_eq1, nm_em, nI_eqP, nI_leP, nI_ltP, nN_e1, nN_e2, nN_l1, nN_l2, nN_l3, nN_l4, nI_add, pk_mul, vp_inN, nI_cl, n01, n10, P_i, P_ii, P_iii, f_Mo_at, f_Mo_map, f_Mo_contact, f_Mo_within, f_Mo_isPort, f_Hp_endpoint, f_Hp_nodeOf, f_Hp_portOf, f_Ma_max, f_Ma_min, f_Hp_isSetting, popN, rok, a1, noX, swc, mL, if_true, if_false, ↓reduceIte, cond_true, cond_false, true_and, and_true, List.length_cons, List.length_nil, List.nil_append, List.cons_append, List.append_nil, Option.toList, Nat.reduceEqDiff, Bool.false_eq_true, reduceCtorEq, Nat.reduceAdd, Nat.reduceLT, Nat.reduceLeDiff, Nat.reduceSub, List.replicate, Nat.zero_add, Nat.lt_add_one, Nat.le_refl, Nat.zero_le, Nat.succ_ne_zero, not_false_eq_true, not_true_eq_false, false_implies, true_implies, forall_const, imp_self, true_or, or_true, eq_self, sI_zw, zw_zw, hI_zw, tg_zw, ln_zw, hR_zw, hL_zw, hN_zw, hM_zw, upd_s, upd_u, upd_ne, Classical.not_not, k_Rd_leavesNet, s1, s3, r4, w1, nn, hPn, f_Nw_netOf, ne1]; try clear hgo9 hW9); try (obtain ⟨W9, hW9, hgo9⟩ := wp_ex (T_Rd_leavesNet l G) [] _; refine hgo9 200 _ _ _ _ ?_; simp -implicitDefEqProofs (disch := omega) only [hW9, inl, gate, Xq, tz_const, tz_iload, tz_lload, tz_dload, tz_aload, tz_istore, tz_astore, tz_lstore, tz_dstore, tz_iinc, tz_i1, tz_i2, tz_i2z, tz_l2, tz_l2z, tz_i2l, tz_l2i, tz_lcmp, tz_i2d, tz_d2, tz_dcmp, tz_dup, tz_dup2, tz_pop, tz_if, tz_icmp, tz_null, tz_goto, tz_sw, tz_getf, tz_puti, tz_putz, tz_putr, tz_putl, tz_iaload, tz_baload, tz_laload, tz_aaload, tz_iastore, tz_bastore, tz_lastore, tz_aastore, tz_alen, tz_new, tz_newa, tz_oinit, tz_iret, tz_zret, tz_lret, tz_dret, tz_aret, tz_vret, tz_throw, tz_callS, tz_callV, tz_callI, tz_callR, tz_pureS, tz_pureV, tz_callVH, lg, lset, lkill, lst1, lst2, entL, isRf, is1, vl, va_rf_none, va_rf_some, isRf_rf, is1_rf, i0, i1, bI_eq0, bI_eq1, nm_em, nI_eqP, nI_leP, nI_ltP, nN_e1, nN_e2, nN_l1, nN_l2, nN_l3, nN_l4, nI_add, pk_mul, vp_inN, nI_cl, n01, n10, P_i, P_ii, P_iii, f_Mo_at, f_Mo_map, f_Mo_contact, f_Mo_within, f_Mo_isPort, f_Hp_endpoint, f_Hp_nodeOf, f_Hp_portOf, f_Ma_max, f_Ma_min, f_Hp_isSetting, popN, rok, a1, noX, swc, mL, if_true, if_false, ↓reduceIte, cond_true, cond_false, true_and, and_true, List.length_cons, List.length_nil, List.nil_append, List.cons_append, List.append_nil, Option.toList, Nat.reduceEqDiff, Bool.false_eq_true, reduceCtorEq, Nat.reduceAdd, Nat.reduceLT, Nat.reduceLeDiff, Nat.reduceSub, List.replicate, Nat.zero_add, Nat.lt_add_one, Nat.le_refl, Nat.zero_le, Nat.succ_ne_zero, not_false_eq_true, not_true_eq_false, false_implies, true_implies, forall_const, imp_self, true_or, or_true, eq_self, sI_zw, zw_zw, hI_zw, tg_zw, ln_zw, hR_zw, hL_zw, hN_zw, hM_zw, upd_s, upd_u, upd_ne, Classical.not_not, k_Rd_leavesNet, s1, s3, r4, w1, nn, hPn, f_Nw_netOf, ne1]; try clear hgo9 hW9))
      simp only [aft]
      obtain ⟨g1, g2, g3, g4⟩ := kk.rdo (f := upd (hI h (A 4)) 4 (zN (16 + 16 * j + 1))) iv is iN kN (Or.inl rfl)
      have s1' : tg (zw h (A 4) (upd (hI h (A 4)) 4 (zN (16 + 16 * j + 1)))) (A 4) = 2 := s1
      (obtain ⟨W9, hW9, hgo9⟩ := wp_ex (T_Rd_takesInNet l G) [] _; refine hgo9 200 _ _ _ _ ?_; simp -implicitDefEqProofs (disch := omega) only [hW9, inl, gate, Xq, tz_const, tz_iload, tz_lload, tz_dload, tz_aload, tz_istore, tz_astore, tz_lstore, tz_dstore, tz_iinc, tz_i1, tz_i2, tz_i2z, tz_l2, tz_l2z, tz_i2l, tz_l2i, tz_lcmp, tz_i2d, tz_d2, tz_dcmp, tz_dup, tz_dup2, tz_pop, tz_if, tz_icmp, tz_null, tz_goto, tz_sw, tz_getf, tz_puti, tz_putz, tz_putr, tz_putl, tz_iaload, tz_baload, tz_laload, tz_aaload, tz_iastore, tz_bastore, tz_lastore, tz_aastore, tz_alen, tz_new, tz_newa, tz_oinit, tz_iret, tz_zret, tz_lret, tz_dret, tz_aret, tz_vret, tz_throw, tz_callS, tz_callV, tz_callI, tz_callR, tz_pureS, tz_pureV, tz_callVH, lg, lset, lkill, lst1, lst2, entL, isRf, is1, vl, va_rf_none, va_rf_some, isRf_rf, is1_rf, i0, i1, bI_eq0, bI_eq1, nm_em, nI_eqP, nI_leP, nI_ltP, nN_e1, nN_e2, nN_l1, nN_l2, nN_l3, nN_l4, nI_add, pk_mul, vp_inN, nI_cl, n01, n10, P_i, P_ii, P_iii, f_Mo_at, f_Mo_map, f_Mo_contact, f_Mo_within, f_Mo_isPort, f_Hp_endpoint, f_Hp_nodeOf, f_Hp_portOf, f_Ma_max, f_Ma_min, f_Hp_isSetting, popN, rok, a1, noX, swc, mL, if_true, if_false, ↓reduceIte, cond_true, cond_false, true_and, and_true, List.length_cons, List.length_nil, List.nil_append, List.cons_append, List.append_nil, Option.toList, Nat.reduceEqDiff, Bool.false_eq_true, reduceCtorEq, Nat.reduceAdd, Nat.reduceLT, Nat.reduceLeDiff, Nat.reduceSub, List.replicate, Nat.zero_add, Nat.lt_add_one, Nat.le_refl, Nat.zero_le, Nat.succ_ne_zero, not_false_eq_true, not_true_eq_false, false_implies, true_implies, forall_const, imp_self, true_or, or_true, eq_self, sI_zw, zw_zw, hI_zw, tg_zw, ln_zw, hR_zw, hL_zw, hN_zw, hM_zw, upd_s, upd_u, upd_ne, Classical.not_not, k_Rd_takesInNet, s1']; try clear hgo9 hW9)
      refine q2 _ _ _ rfl _ ⟨g1, zN, _, g2, iN, j4, ⟨?_, fun q => by omega, ?_⟩, by rw [if_pos rfl]; exact eb, fun _ f z' hb => ?_, fun q => by omega⟩ (by rw [g3]) (g4.mono (by omega))
      · rw [hI_zw, upd_ne (by omega)]; exact r2
      · rw [hI_zw, upd_s]
      · have := bl (f + 1) z' (Or.inr (Or.inr (Or.inl ⟨hi, ec.symm, j, by omega, rfl, hb⟩)))
        rw [show f + (i + 1) = f + 1 + i by omega]
        exact this
    · rw [if_neg c0] at q1
      have e0 : net = nN := Classical.not_not.mp (fun q => c0 ((dN.pos m10).mpr q))
      subst e0
      ((obtain ⟨W9, hW9, hgo9⟩ := wp_ex (T_Rd_leavesNet l G) [] _; refine hgo9 200 _ _ _ _ ?_; simp -implicitDefEqProofs (disch := omega) only [hW9, inl, gate, Xq, tz_const, tz_iload, tz_lload, tz_dload, tz_aload, tz_istore, tz_astore, tz_lstore, tz_dstore, tz_iinc, tz_i1, tz_i2, tz_i2z, tz_l2, tz_l2z, tz_i2l, tz_l2i, tz_lcmp, tz_i2d, tz_d2, tz_dcmp, tz_dup, tz_dup2, tz_pop, tz_if, tz_icmp, tz_null, tz_goto, tz_sw, tz_getf, tz_puti, tz_putz, tz_putr, tz_putl, tz_iaload, tz_baload, tz_laload, tz_aaload, tz_iastore, tz_bastore, tz_lastore, tz_aastore, tz_alen, tz_new, tz_newa, tz_oinit, tz_iret, tz_zret, tz_lret, tz_dret, tz_aret, tz_vret, tz_throw, tz_callS, tz_callV, tz_callI, tz_callR, tz_pureS, tz_pureV, tz_callVH, lg, lset, lkill, lst1, lst2, entL, isRf, is1, vl, va_rf_none, va_rf_some, isRf_rf, is1_rf, i0, i1, bI_eq0, bI_eq1, nm_em, nI_eqP, nI_leP, nI_ltP, nN_e1, nN_e2, nN_l1, nN_l2, nN_l3, nN_l4, nI_add, pk_mul, vp_inN, nI_cl, n01, n10, P_i, P_ii, P_iii, f_Mo_at, f_Mo_map, f_Mo_contact, f_Mo_within, f_Mo_isPort, f_Hp_endpoint, f_Hp_nodeOf, f_Hp_portOf, f_Ma_max, f_Ma_min, f_Hp_isSetting, popN, rok, a1, noX, swc, mL, if_true, if_false, ↓reduceIte, cond_true, cond_false, true_and, and_true, List.length_cons, List.length_nil, List.nil_append, List.cons_append, List.append_nil, Option.toList, Nat.reduceEqDiff, Bool.false_eq_true, reduceCtorEq, Nat.reduceAdd, Nat.reduceLT, Nat.reduceLeDiff, Nat.reduceSub, List.replicate, Nat.zero_add, Nat.lt_add_one, Nat.le_refl, Nat.zero_le, Nat.succ_ne_zero, not_false_eq_true, not_true_eq_false, false_implies, true_implies, forall_const, imp_self, true_or, or_true, eq_self, sI_zw, zw_zw, hI_zw, tg_zw, ln_zw, hR_zw, hL_zw, hN_zw, hM_zw, upd_s, upd_u, upd_ne, Classical.not_not, k_Rd_leavesNet, s1, s3, r4, w1]; try clear hgo9 hW9); try (obtain ⟨W9, hW9, hgo9⟩ := wp_ex (T_Rd_leavesNet l G) [] _; refine hgo9 200 _ _ _ _ ?_; simp -implicitDefEqProofs (disch := omega) only [hW9, inl, gate, Xq, tz_const, tz_iload, tz_lload, tz_dload, tz_aload, tz_istore, tz_astore, tz_lstore, tz_dstore, tz_iinc, tz_i1, tz_i2, tz_i2z, tz_l2, tz_l2z, tz_i2l, tz_l2i, tz_lcmp, tz_i2d, tz_d2, tz_dcmp, tz_dup, tz_dup2, tz_pop, tz_if, tz_icmp, tz_null, tz_goto, tz_sw, tz_getf, tz_puti, tz_putz, tz_putr, tz_putl, tz_iaload, tz_baload, tz_laload, tz_aaload, tz_iastore, tz_bastore, tz_lastore, tz_aastore, tz_alen, tz_new, tz_newa, tz_oinit, tz_iret, tz_zret, tz_lret, tz_dret, tz_aret, tz_vret, tz_throw, tz_callS, tz_callV, tz_callI, tz_callR, tz_pureS, tz_pureV, tz_callVH, lg, lset, lkill, lst1, lst2, entL, isRf, is1, vl, va_rf_none, va_rf_some, isRf_rf, is1_rf, i0, i1, bI_eq0, bI_eq1, nm_em, nI_eqP, nI_leP, nI_ltP, nN_e1, nN_e2, nN_l1, nN_l2, nN_l3, nN_l4, nI_add, pk_mul, vp_inN, nI_cl, n01, n10, P_i, P_ii, P_iii, f_Mo_at, f_Mo_map, f_Mo_contact, f_Mo_within, f_Mo_isPort, f_Hp_endpoint, f_Hp_nodeOf, f_Hp_portOf, f_Ma_max, f_Ma_min, f_Hp_isSetting, popN, rok, a1, noX, swc, mL, if_true, if_false, ↓reduceIte, cond_true, cond_false, true_and, and_true, List.length_cons, List.length_nil, List.nil_append, List.cons_append, List.append_nil, Option.toList, Nat.reduceEqDiff, Bool.false_eq_true, reduceCtorEq, Nat.reduceAdd, Nat.reduceLT, Nat.reduceLeDiff, Nat.reduceSub, List.replicate, Nat.zero_add, Nat.lt_add_one, Nat.le_refl, Nat.zero_le, Nat.succ_ne_zero, not_false_eq_true, not_true_eq_false, false_implies, true_implies, forall_const, imp_self, true_or, or_true, eq_self, sI_zw, zw_zw, hI_zw, tg_zw, ln_zw, hR_zw, hL_zw, hN_zw, hM_zw, upd_s, upd_u, upd_ne, Classical.not_not, k_Rd_leavesNet, s1, s3, r4, w1]; try clear hgo9 hW9))
      simp only [aft]
      (obtain ⟨W9, hW9, hgo9⟩ := wp_ex (T_Rd_takesInNet l G) [] _; refine hgo9 200 _ _ _ _ ?_; simp -implicitDefEqProofs (disch := omega) only [hW9, inl, gate, Xq, tz_const, tz_iload, tz_lload, tz_dload, tz_aload, tz_istore, tz_astore, tz_lstore, tz_dstore, tz_iinc, tz_i1, tz_i2, tz_i2z, tz_l2, tz_l2z, tz_i2l, tz_l2i, tz_lcmp, tz_i2d, tz_d2, tz_dcmp, tz_dup, tz_dup2, tz_pop, tz_if, tz_icmp, tz_null, tz_goto, tz_sw, tz_getf, tz_puti, tz_putz, tz_putr, tz_putl, tz_iaload, tz_baload, tz_laload, tz_aaload, tz_iastore, tz_bastore, tz_lastore, tz_aastore, tz_alen, tz_new, tz_newa, tz_oinit, tz_iret, tz_zret, tz_lret, tz_dret, tz_aret, tz_vret, tz_throw, tz_callS, tz_callV, tz_callI, tz_callR, tz_pureS, tz_pureV, tz_callVH, lg, lset, lkill, lst1, lst2, entL, isRf, is1, vl, va_rf_none, va_rf_some, isRf_rf, is1_rf, i0, i1, bI_eq0, bI_eq1, nm_em, nI_eqP, nI_leP, nI_ltP, nN_e1, nN_e2, nN_l1, nN_l2, nN_l3, nN_l4, nI_add, pk_mul, vp_inN, nI_cl, n01, n10, P_i, P_ii, P_iii, f_Mo_at, f_Mo_map, f_Mo_contact, f_Mo_within, f_Mo_isPort, f_Hp_endpoint, f_Hp_nodeOf, f_Hp_portOf, f_Ma_max, f_Ma_min, f_Hp_isSetting, popN, rok, a1, noX, swc, mL, if_true, if_false, ↓reduceIte, cond_true, cond_false, true_and, and_true, List.length_cons, List.length_nil, List.nil_append, List.cons_append, List.append_nil, Option.toList, Nat.reduceEqDiff, Bool.false_eq_true, reduceCtorEq, Nat.reduceAdd, Nat.reduceLT, Nat.reduceLeDiff, Nat.reduceSub, List.replicate, Nat.zero_add, Nat.lt_add_one, Nat.le_refl, Nat.zero_le, Nat.succ_ne_zero, not_false_eq_true, not_true_eq_false, false_implies, true_implies, forall_const, imp_self, true_or, or_true, eq_self, sI_zw, zw_zw, hI_zw, tg_zw, ln_zw, hR_zw, hL_zw, hN_zw, hM_zw, upd_s, upd_u, upd_ne, Classical.not_not, k_Rd_takesInNet, s1]; try clear hgo9 hW9)
      exact q1 rfl h kk rfl ((FrX.rf hw).mono (by omega))
  · rw [if_neg c41] at q1 q2
    by_cases ch : c = nI 104
    · subst ch
      ((obtain ⟨W9, hW9, hgo9⟩ := wp_ex (T_Rd_takesInNet l G) [] _; refine hgo9 200 _ _ _ _ ?_; simp -implicitDefEqProofs (disch := omega) only [hW9, inl, gate, Xq, tz_const, tz_iload, tz_lload, tz_dload, tz_aload, tz_istore, tz_astore, tz_lstore, tz_dstore, tz_iinc, tz_i1, tz_i2, tz_i2z, tz_l2, tz_l2z, tz_i2l, tz_l2i, tz_lcmp, tz_i2d, tz_d2, tz_dcmp, tz_dup, tz_dup2, tz_pop, tz_if, tz_icmp, tz_null, tz_goto, tz_sw, tz_getf, tz_puti, tz_putz, tz_putr, tz_putl, tz_iaload, tz_baload, tz_laload, tz_aaload, tz_iastore, tz_bastore, tz_lastore, tz_aastore, tz_alen, tz_new, tz_newa, tz_oinit, tz_iret, tz_zret, tz_lret, tz_dret, tz_aret, tz_vret, tz_throw, tz_callS, tz_callV, tz_callI, tz_callR, tz_pureS, tz_pureV, tz_callVH, lg, lset, lkill, lst1, lst2, entL, isRf, is1, vl, va_rf_none, va_rf_some, isRf_rf, is1_rf, i0, i1, bI_eq0, bI_eq1, nm_em, nI_eqP, nI_leP, nI_ltP, nN_e1, nN_e2, nN_l1, nN_l2, nN_l3, nN_l4, nI_add, pk_mul, vp_inN, nI_cl, n01, n10, P_i, P_ii, P_iii, f_Mo_at, f_Mo_map, f_Mo_contact, f_Mo_within, f_Mo_isPort, f_Hp_endpoint, f_Hp_nodeOf, f_Hp_portOf, f_Ma_max, f_Ma_min, f_Hp_isSetting, popN, rok, a1, noX, swc, mL, if_true, if_false, ↓reduceIte, cond_true, cond_false, true_and, and_true, List.length_cons, List.length_nil, List.nil_append, List.cons_append, List.append_nil, Option.toList, Nat.reduceEqDiff, Bool.false_eq_true, reduceCtorEq, Nat.reduceAdd, Nat.reduceLT, Nat.reduceLeDiff, Nat.reduceSub, List.replicate, Nat.zero_add, Nat.lt_add_one, Nat.le_refl, Nat.zero_le, Nat.succ_ne_zero, not_false_eq_true, not_true_eq_false, false_implies, true_implies, forall_const, imp_self, true_or, or_true, eq_self, sI_zw, zw_zw, hI_zw, tg_zw, ln_zw, hR_zw, hL_zw, hN_zw, hM_zw, upd_s, upd_u, upd_ne, Classical.not_not, k_Rd_takesInNet, s1, s3, r4, w1]; try clear hgo9 hW9); try (obtain ⟨W9, hW9, hgo9⟩ := wp_ex (T_Rd_takesInNet l G) [] _; refine hgo9 200 _ _ _ _ ?_; simp -implicitDefEqProofs (disch := omega) only [hW9, inl, gate, Xq, tz_const, tz_iload, tz_lload, tz_dload, tz_aload, tz_istore, tz_astore, tz_lstore, tz_dstore, tz_iinc, tz_i1, tz_i2, tz_i2z, tz_l2, tz_l2z, tz_i2l, tz_l2i, tz_lcmp, tz_i2d, tz_d2, tz_dcmp, tz_dup, tz_dup2, tz_pop, tz_if, tz_icmp, tz_null, tz_goto, tz_sw, tz_getf, tz_puti, tz_putz, tz_putr, tz_putl, tz_iaload, tz_baload, tz_laload, tz_aaload, tz_iastore, tz_bastore, tz_lastore, tz_aastore, tz_alen, tz_new, tz_newa, tz_oinit, tz_iret, tz_zret, tz_lret, tz_dret, tz_aret, tz_vret, tz_throw, tz_callS, tz_callV, tz_callI, tz_callR, tz_pureS, tz_pureV, tz_callVH, lg, lset, lkill, lst1, lst2, entL, isRf, is1, vl, va_rf_none, va_rf_some, isRf_rf, is1_rf, i0, i1, bI_eq0, bI_eq1, nm_em, nI_eqP, nI_leP, nI_ltP, nN_e1, nN_e2, nN_l1, nN_l2, nN_l3, nN_l4, nI_add, pk_mul, vp_inN, nI_cl, n01, n10, P_i, P_ii, P_iii, f_Mo_at, f_Mo_map, f_Mo_contact, f_Mo_within, f_Mo_isPort, f_Hp_endpoint, f_Hp_nodeOf, f_Hp_portOf, f_Ma_max, f_Ma_min, f_Hp_isSetting, popN, rok, a1, noX, swc, mL, if_true, if_false, ↓reduceIte, cond_true, cond_false, true_and, and_true, List.length_cons, List.length_nil, List.nil_append, List.cons_append, List.append_nil, Option.toList, Nat.reduceEqDiff, Bool.false_eq_true, reduceCtorEq, Nat.reduceAdd, Nat.reduceLT, Nat.reduceLeDiff, Nat.reduceSub, List.replicate, Nat.zero_add, Nat.lt_add_one, Nat.le_refl, Nat.zero_le, Nat.succ_ne_zero, not_false_eq_true, not_true_eq_false, false_implies, true_implies, forall_const, imp_self, true_or, or_true, eq_self, sI_zw, zw_zw, hI_zw, tg_zw, ln_zw, hR_zw, hL_zw, hN_zw, hM_zw, upd_s, upd_u, upd_ne, Classical.not_not, k_Rd_takesInNet, s1, s3, r4, w1]; try clear hgo9 hW9))
      by_cases b10 : bg < 10
      · rw [if_pos ⟨Or.inl rfl, b10⟩, if_neg (by decide)] at q2
        obtain ⟨iN', mN'⟩ := inv_addZ (net := net) iN (by omega) dN.ne
        refine c_Nw_newHost (A 5) net zN h _ hw iN.1 kN (by omega) (fun h1 k1 f1 => ?_)
        simp only [aft]
        obtain ⟨g1, g2, g3, g4⟩ := kk.rdn iv is f1 k1.1
        have s1' := g1.1.2.2.2.1.1
        have nn : ¬ nI (mny zN) = nN := by rw [nN_e2 (by omega)]; exact id
        ((obtain ⟨W9, hW9, hgo9⟩ := wp_ex (T_Rd_takesInNet l G) [] _; refine hgo9 200 _ _ _ _ ?_; simp -implicitDefEqProofs (disch := omega) only [hW9, inl, gate, Xq, tz_const, tz_iload, tz_lload, tz_dload, tz_aload, tz_istore, tz_astore, tz_lstore, tz_dstore, tz_iinc, tz_i1, tz_i2, tz_i2z, tz_l2, tz_l2z, tz_i2l, tz_l2i, tz_lcmp, tz_i2d, tz_d2, tz_dcmp, tz_dup, tz_dup2, tz_pop, tz_if, tz_icmp, tz_null, tz_goto, tz_sw, tz_getf, tz_puti, tz_putz, tz_putr, tz_putl, tz_iaload, tz_baload, tz_laload, tz_aaload, tz_iastore, tz_bastore, tz_lastore, tz_aastore, tz_alen, tz_new, tz_newa, tz_oinit, tz_iret, tz_zret, tz_lret, tz_dret, tz_aret, tz_vret, tz_throw, tz_callS, tz_callV, tz_callI, tz_callR, tz_pureS, tz_pureV, tz_callVH, lg, lset, lkill, lst1, lst2, entL, isRf, is1, vl, va_rf_none, va_rf_some, isRf_rf, is1_rf, i0, i1, bI_eq0, bI_eq1, nm_em, nI_eqP, nI_leP, nI_ltP, nN_e1, nN_e2, nN_l1, nN_l2, nN_l3, nN_l4, nI_add, pk_mul, vp_inN, nI_cl, n01, n10, P_i, P_ii, P_iii, f_Mo_at, f_Mo_map, f_Mo_contact, f_Mo_within, f_Mo_isPort, f_Hp_endpoint, f_Hp_nodeOf, f_Hp_portOf, f_Ma_max, f_Ma_min, f_Hp_isSetting, popN, rok, a1, noX, swc, mL, if_true, if_false, ↓reduceIte, cond_true, cond_false, true_and, and_true, List.length_cons, List.length_nil, List.nil_append, List.cons_append, List.append_nil, Option.toList, Nat.reduceEqDiff, Bool.false_eq_true, reduceCtorEq, Nat.reduceAdd, Nat.reduceLT, Nat.reduceLeDiff, Nat.reduceSub, List.replicate, Nat.zero_add, Nat.lt_add_one, Nat.le_refl, Nat.zero_le, Nat.succ_ne_zero, not_false_eq_true, not_true_eq_false, false_implies, true_implies, forall_const, imp_self, true_or, or_true, eq_self, sI_zw, zw_zw, hI_zw, tg_zw, ln_zw, hR_zw, hL_zw, hN_zw, hM_zw, upd_s, upd_u, upd_ne, Classical.not_not, k_Rd_takesInNet, s1', nn]; try clear hgo9 hW9); try (obtain ⟨W9, hW9, hgo9⟩ := wp_ex (T_Rd_takesInNet l G) [] _; refine hgo9 200 _ _ _ _ ?_; simp -implicitDefEqProofs (disch := omega) only [hW9, inl, gate, Xq, tz_const, tz_iload, tz_lload, tz_dload, tz_aload, tz_istore, tz_astore, tz_lstore, tz_dstore, tz_iinc, tz_i1, tz_i2, tz_i2z, tz_l2, tz_l2z, tz_i2l, tz_l2i, tz_lcmp, tz_i2d, tz_d2, tz_dcmp, tz_dup, tz_dup2, tz_pop, tz_if, tz_icmp, tz_null, tz_goto, tz_sw, tz_getf, tz_puti, tz_putz, tz_putr, tz_putl, tz_iaload, tz_baload, tz_laload, tz_aaload, tz_iastore, tz_bastore, tz_lastore, tz_aastore, tz_alen, tz_new, tz_newa, tz_oinit, tz_iret, tz_zret, tz_lret, tz_dret, tz_aret, tz_vret, tz_throw, tz_callS, tz_callV, tz_callI, tz_callR, tz_pureS, tz_pureV, tz_callVH, lg, lset, lkill, lst1, lst2, entL, isRf, is1, vl, va_rf_none, va_rf_some, isRf_rf, is1_rf, i0, i1, bI_eq0, bI_eq1, nm_em, nI_eqP, nI_leP, nI_ltP, nN_e1, nN_e2, nN_l1, nN_l2, nN_l3, nN_l4, nI_add, pk_mul, vp_inN, nI_cl, n01, n10, P_i, P_ii, P_iii, f_Mo_at, f_Mo_map, f_Mo_contact, f_Mo_within, f_Mo_isPort, f_Hp_endpoint, f_Hp_nodeOf, f_Hp_portOf, f_Ma_max, f_Ma_min, f_Hp_isSetting, popN, rok, a1, noX, swc, mL, if_true, if_false, ↓reduceIte, cond_true, cond_false, true_and, and_true, List.length_cons, List.length_nil, List.nil_append, List.cons_append, List.append_nil, Option.toList, Nat.reduceEqDiff, Bool.false_eq_true, reduceCtorEq, Nat.reduceAdd, Nat.reduceLT, Nat.reduceLeDiff, Nat.reduceSub, List.replicate, Nat.zero_add, Nat.lt_add_one, Nat.le_refl, Nat.zero_le, Nat.succ_ne_zero, not_false_eq_true, not_true_eq_false, false_implies, true_implies, forall_const, imp_self, true_or, or_true, eq_self, sI_zw, zw_zw, hI_zw, tg_zw, ln_zw, hR_zw, hL_zw, hN_zw, hM_zw, upd_s, upd_u, upd_ne, Classical.not_not, k_Rd_takesInNet, s1', nn]; try clear hgo9 hW9))
        refine q2 _ _ _ rfl _ ⟨g1, _, net, k1, iN', dN.grow (by omega) (fun j hj => ?_), ⟨by rw [g3]; exact r2, fun q => by omega, by rw [g3]; exact r4⟩, by rw [if_pos rfl]; omega, fun _ f z' hb => ?_, fun q => by omega⟩ (by rw [g2]) (f1.X.mono (by omega))
        · unfold addZ
          refine ⟨?_, ?_⟩ <;> rw [upd_ne (by omega), upd_ne (by omega), upd_ne (by omega), upd_ne (by omega), upd_ne (by omega)]
        · have := bl (f + 1) z' (Or.inr (Or.inl ⟨hi, ec.symm, ⟨iN.1.1, by omega⟩, hb⟩))
          rw [show f + (i + 1) = f + 1 + i by omega]
          exact this
      · rw [if_neg (fun q => b10 q.2)] at q1
        refine c_Nw_newHostF (A 5) net zN h _ kN (by omega) ?_
        simp only [aft]
        ((obtain ⟨W9, hW9, hgo9⟩ := wp_ex (T_Rd_takesInNet l G) [] _; refine hgo9 200 _ _ _ _ ?_; simp -implicitDefEqProofs (disch := omega) only [hW9, inl, gate, Xq, tz_const, tz_iload, tz_lload, tz_dload, tz_aload, tz_istore, tz_astore, tz_lstore, tz_dstore, tz_iinc, tz_i1, tz_i2, tz_i2z, tz_l2, tz_l2z, tz_i2l, tz_l2i, tz_lcmp, tz_i2d, tz_d2, tz_dcmp, tz_dup, tz_dup2, tz_pop, tz_if, tz_icmp, tz_null, tz_goto, tz_sw, tz_getf, tz_puti, tz_putz, tz_putr, tz_putl, tz_iaload, tz_baload, tz_laload, tz_aaload, tz_iastore, tz_bastore, tz_lastore, tz_aastore, tz_alen, tz_new, tz_newa, tz_oinit, tz_iret, tz_zret, tz_lret, tz_dret, tz_aret, tz_vret, tz_throw, tz_callS, tz_callV, tz_callI, tz_callR, tz_pureS, tz_pureV, tz_callVH, lg, lset, lkill, lst1, lst2, entL, isRf, is1, vl, va_rf_none, va_rf_some, isRf_rf, is1_rf, i0, i1, bI_eq0, bI_eq1, nm_em, nI_eqP, nI_leP, nI_ltP, nN_e1, nN_e2, nN_l1, nN_l2, nN_l3, nN_l4, nI_add, pk_mul, vp_inN, nI_cl, n01, n10, P_i, P_ii, P_iii, f_Mo_at, f_Mo_map, f_Mo_contact, f_Mo_within, f_Mo_isPort, f_Hp_endpoint, f_Hp_nodeOf, f_Hp_portOf, f_Ma_max, f_Ma_min, f_Hp_isSetting, popN, rok, a1, noX, swc, mL, if_true, if_false, ↓reduceIte, cond_true, cond_false, true_and, and_true, List.length_cons, List.length_nil, List.nil_append, List.cons_append, List.append_nil, Option.toList, Nat.reduceEqDiff, Bool.false_eq_true, reduceCtorEq, Nat.reduceAdd, Nat.reduceLT, Nat.reduceLeDiff, Nat.reduceSub, List.replicate, Nat.zero_add, Nat.lt_add_one, Nat.le_refl, Nat.zero_le, Nat.succ_ne_zero, not_false_eq_true, not_true_eq_false, false_implies, true_implies, forall_const, imp_self, true_or, or_true, eq_self, sI_zw, zw_zw, hI_zw, tg_zw, ln_zw, hR_zw, hL_zw, hN_zw, hM_zw, upd_s, upd_u, upd_ne, Classical.not_not, k_Rd_takesInNet, s1]; try clear hgo9 hW9); try (obtain ⟨W9, hW9, hgo9⟩ := wp_ex (T_Rd_takesInNet l G) [] _; refine hgo9 200 _ _ _ _ ?_; simp -implicitDefEqProofs (disch := omega) only [hW9, inl, gate, Xq, tz_const, tz_iload, tz_lload, tz_dload, tz_aload, tz_istore, tz_astore, tz_lstore, tz_dstore, tz_iinc, tz_i1, tz_i2, tz_i2z, tz_l2, tz_l2z, tz_i2l, tz_l2i, tz_lcmp, tz_i2d, tz_d2, tz_dcmp, tz_dup, tz_dup2, tz_pop, tz_if, tz_icmp, tz_null, tz_goto, tz_sw, tz_getf, tz_puti, tz_putz, tz_putr, tz_putl, tz_iaload, tz_baload, tz_laload, tz_aaload, tz_iastore, tz_bastore, tz_lastore, tz_aastore, tz_alen, tz_new, tz_newa, tz_oinit, tz_iret, tz_zret, tz_lret, tz_dret, tz_aret, tz_vret, tz_throw, tz_callS, tz_callV, tz_callI, tz_callR, tz_pureS, tz_pureV, tz_callVH, lg, lset, lkill, lst1, lst2, entL, isRf, is1, vl, va_rf_none, va_rf_some, isRf_rf, is1_rf, i0, i1, bI_eq0, bI_eq1, nm_em, nI_eqP, nI_leP, nI_ltP, nN_e1, nN_e2, nN_l1, nN_l2, nN_l3, nN_l4, nI_add, pk_mul, vp_inN, nI_cl, n01, n10, P_i, P_ii, P_iii, f_Mo_at, f_Mo_map, f_Mo_contact, f_Mo_within, f_Mo_isPort, f_Hp_endpoint, f_Hp_nodeOf, f_Hp_portOf, f_Ma_max, f_Ma_min, f_Hp_isSetting, popN, rok, a1, noX, swc, mL, if_true, if_false, ↓reduceIte, cond_true, cond_false, true_and, and_true, List.length_cons, List.length_nil, List.nil_append, List.cons_append, List.append_nil, Option.toList, Nat.reduceEqDiff, Bool.false_eq_true, reduceCtorEq, Nat.reduceAdd, Nat.reduceLT, Nat.reduceLeDiff, Nat.reduceSub, List.replicate, Nat.zero_add, Nat.lt_add_one, Nat.le_refl, Nat.zero_le, Nat.succ_ne_zero, not_false_eq_true, not_true_eq_false, false_implies, true_implies, forall_const, imp_self, true_or, or_true, eq_self, sI_zw, zw_zw, hI_zw, tg_zw, ln_zw, hR_zw, hL_zw, hN_zw, hM_zw, upd_s, upd_u, upd_ne, Classical.not_not, k_Rd_takesInNet, s1]; try clear hgo9 hW9))
        exact q1 rfl h kk rfl ((FrX.rf hw).mono (by omega))
    · by_cases ct : c = nI 116
      · subst ct
        obtain ⟨g1, g2, g3, g4⟩ := kk.rdo (f := upd (upd (hI h (A 4)) 2 (nI 1)) 3 (nI 0)) iv is iN kN (Or.inl rfl)
        have w1' := g2.1.1.1
        have w2' := g2.2.1.1
        have hPf : P_Nw_isFull [.ref (A 5)] (zw h (A 4) (upd (upd (hI h (A 4)) 2 (nI 1)) 3 (nI 0))) := g2.1.1
        by_cases b10 : bg < 10
        · rw [if_pos ⟨Or.inr rfl, b10⟩, if_pos rfl] at q2
          have e : f_Nw_isFull [.ref (A 5)] (zw h (A 4) (upd (upd (hI h (A 4)) 2 (nI 1)) 3 (nI 0))) = .int (nI 0) := by
            simp only [f_Nw_isFull]
            rw [w2', bI_f (fun q => q (by rw [nI_ltP (by omega) (by omega)]; omega))]
          ((obtain ⟨W9, hW9, hgo9⟩ := wp_ex (T_Rd_takesInNet l G) [] _; refine hgo9 200 _ _ _ _ ?_; simp -implicitDefEqProofs (disch := omega) only [hW9, inl, gate, Xq, tz_const, tz_iload, tz_lload, tz_dload, tz_aload, tz_istore, tz_astore, tz_lstore, tz_dstore, tz_iinc, tz_i1, tz_i2, tz_i2z, tz_l2, tz_l2z, tz_i2l, tz_l2i, tz_lcmp, tz_i2d, tz_d2, tz_dcmp, tz_dup, tz_dup2, tz_pop, tz_if, tz_icmp, tz_null, tz_goto, tz_sw, tz_getf, tz_puti, tz_putz, tz_putr, tz_putl, tz_iaload, tz_baload, tz_laload, tz_aaload, tz_iastore, tz_bastore, tz_lastore, tz_aastore, tz_alen, tz_new, tz_newa, tz_oinit, tz_iret, tz_zret, tz_lret, tz_dret, tz_aret, tz_vret, tz_throw, tz_callS, tz_callV, tz_callI, tz_callR, tz_pureS, tz_pureV, tz_callVH, lg, lset, lkill, lst1, lst2, entL, isRf, is1, vl, va_rf_none, va_rf_some, isRf_rf, is1_rf, i0, i1, bI_eq0, bI_eq1, nm_em, nI_eqP, nI_leP, nI_ltP, nN_e1, nN_e2, nN_l1, nN_l2, nN_l3, nN_l4, nI_add, pk_mul, vp_inN, nI_cl, n01, n10, P_i, P_ii, P_iii, f_Mo_at, f_Mo_map, f_Mo_contact, f_Mo_within, f_Mo_isPort, f_Hp_endpoint, f_Hp_nodeOf, f_Hp_portOf, f_Ma_max, f_Ma_min, f_Hp_isSetting, popN, rok, a1, noX, swc, mL, if_true, if_false, ↓reduceIte, cond_true, cond_false, true_and, and_true, List.length_cons, List.length_nil, List.nil_append, List.cons_append, List.append_nil, Option.toList, Nat.reduceEqDiff, Bool.false_eq_true, reduceCtorEq, Nat.reduceAdd, Nat.reduceLT, Nat.reduceLeDiff, Nat.reduceSub, List.replicate, Nat.zero_add, Nat.lt_add_one, Nat.le_refl, Nat.zero_le, Nat.succ_ne_zero, not_false_eq_true, not_true_eq_false, false_implies, true_implies, forall_const, imp_self, true_or, or_true, eq_self, sI_zw, zw_zw, hI_zw, tg_zw, ln_zw, hR_zw, hL_zw, hN_zw, hM_zw, upd_s, upd_u, upd_ne, Classical.not_not, k_Rd_takesInNet, s1, s3, w1, hPf, e]; try clear hgo9 hW9); try (obtain ⟨W9, hW9, hgo9⟩ := wp_ex (T_Rd_takesInNet l G) [] _; refine hgo9 200 _ _ _ _ ?_; simp -implicitDefEqProofs (disch := omega) only [hW9, inl, gate, Xq, tz_const, tz_iload, tz_lload, tz_dload, tz_aload, tz_istore, tz_astore, tz_lstore, tz_dstore, tz_iinc, tz_i1, tz_i2, tz_i2z, tz_l2, tz_l2z, tz_i2l, tz_l2i, tz_lcmp, tz_i2d, tz_d2, tz_dcmp, tz_dup, tz_dup2, tz_pop, tz_if, tz_icmp, tz_null, tz_goto, tz_sw, tz_getf, tz_puti, tz_putz, tz_putr, tz_putl, tz_iaload, tz_baload, tz_laload, tz_aaload, tz_iastore, tz_bastore, tz_lastore, tz_aastore, tz_alen, tz_new, tz_newa, tz_oinit, tz_iret, tz_zret, tz_lret, tz_dret, tz_aret, tz_vret, tz_throw, tz_callS, tz_callV, tz_callI, tz_callR, tz_pureS, tz_pureV, tz_callVH, lg, lset, lkill, lst1, lst2, entL, isRf, is1, vl, va_rf_none, va_rf_some, isRf_rf, is1_rf, i0, i1, bI_eq0, bI_eq1, nm_em, nI_eqP, nI_leP, nI_ltP, nN_e1, nN_e2, nN_l1, nN_l2, nN_l3, nN_l4, nI_add, pk_mul, vp_inN, nI_cl, n01, n10, P_i, P_ii, P_iii, f_Mo_at, f_Mo_map, f_Mo_contact, f_Mo_within, f_Mo_isPort, f_Hp_endpoint, f_Hp_nodeOf, f_Hp_portOf, f_Ma_max, f_Ma_min, f_Hp_isSetting, popN, rok, a1, noX, swc, mL, if_true, if_false, ↓reduceIte, cond_true, cond_false, true_and, and_true, List.length_cons, List.length_nil, List.nil_append, List.cons_append, List.append_nil, Option.toList, Nat.reduceEqDiff, Bool.false_eq_true, reduceCtorEq, Nat.reduceAdd, Nat.reduceLT, Nat.reduceLeDiff, Nat.reduceSub, List.replicate, Nat.zero_add, Nat.lt_add_one, Nat.le_refl, Nat.zero_le, Nat.succ_ne_zero, not_false_eq_true, not_true_eq_false, false_implies, true_implies, forall_const, imp_self, true_or, or_true, eq_self, sI_zw, zw_zw, hI_zw, tg_zw, ln_zw, hR_zw, hL_zw, hN_zw, hM_zw, upd_s, upd_u, upd_ne, Classical.not_not, k_Rd_takesInNet, s1, s3, w1, hPf, e]; try clear hgo9 hW9); try (obtain ⟨W9, hW9, hgo9⟩ := wp_ex (T_Rd_takesInNet l G) [] _; refine hgo9 200 _ _ _ _ ?_; simp -implicitDefEqProofs (disch := omega) only [hW9, inl, gate, Xq, tz_const, tz_iload, tz_lload, tz_dload, tz_aload, tz_istore, tz_astore, tz_lstore, tz_dstore, tz_iinc, tz_i1, tz_i2, tz_i2z, tz_l2, tz_l2z, tz_i2l, tz_l2i, tz_lcmp, tz_i2d, tz_d2, tz_dcmp, tz_dup, tz_dup2, tz_pop, tz_if, tz_icmp, tz_null, tz_goto, tz_sw, tz_getf, tz_puti, tz_putz, tz_putr, tz_putl, tz_iaload, tz_baload, tz_laload, tz_aaload, tz_iastore, tz_bastore, tz_lastore, tz_aastore, tz_alen, tz_new, tz_newa, tz_oinit, tz_iret, tz_zret, tz_lret, tz_dret, tz_aret, tz_vret, tz_throw, tz_callS, tz_callV, tz_callI, tz_callR, tz_pureS, tz_pureV, tz_callVH, lg, lset, lkill, lst1, lst2, entL, isRf, is1, vl, va_rf_none, va_rf_some, isRf_rf, is1_rf, i0, i1, bI_eq0, bI_eq1, nm_em, nI_eqP, nI_leP, nI_ltP, nN_e1, nN_e2, nN_l1, nN_l2, nN_l3, nN_l4, nI_add, pk_mul, vp_inN, nI_cl, n01, n10, P_i, P_ii, P_iii, f_Mo_at, f_Mo_map, f_Mo_contact, f_Mo_within, f_Mo_isPort, f_Hp_endpoint, f_Hp_nodeOf, f_Hp_portOf, f_Ma_max, f_Ma_min, f_Hp_isSetting, popN, rok, a1, noX, swc, mL, if_true, if_false, ↓reduceIte, cond_true, cond_false, true_and, and_true, List.length_cons, List.length_nil, List.nil_append, List.cons_append, List.append_nil, Option.toList, Nat.reduceEqDiff, Bool.false_eq_true, reduceCtorEq, Nat.reduceAdd, Nat.reduceLT, Nat.reduceLeDiff, Nat.reduceSub, List.replicate, Nat.zero_add, Nat.lt_add_one, Nat.le_refl, Nat.zero_le, Nat.succ_ne_zero, not_false_eq_true, not_true_eq_false, false_implies, true_implies, forall_const, imp_self, true_or, or_true, eq_self, sI_zw, zw_zw, hI_zw, tg_zw, ln_zw, hR_zw, hL_zw, hN_zw, hM_zw, upd_s, upd_u, upd_ne, Classical.not_not, k_Rd_takesInNet, s1, s3, w1, hPf, e]; try clear hgo9 hW9))
          refine q2 _ _ _ rfl _ ⟨g1, zN, net, g2, iN, dN, ⟨?_, fun q => ?_, ?_⟩, by rw [if_neg (by omega)]; omega, fun q => by omega, fun _ => ⟨i, by omega, ec.symm, fun j hj => by omega, bl⟩⟩ (by rw [g3]) (g4.mono (by omega))
          · rw [hI_zw, upd_ne (by omega), upd_s]; rfl
          · rw [hI_zw, upd_s]
          · rw [hI_zw, upd_ne (by omega), upd_ne (by omega)]; exact r4
        · rw [if_neg (fun q => b10 q.2)] at q1
          have e : f_Nw_isFull [.ref (A 5)] (zw h (A 4) (upd (upd (hI h (A 4)) 2 (nI 1)) 3 (nI 0))) = .int (nI 1) := by
            simp only [f_Nw_isFull]
            rw [w2', bI_t (by rw [nI_ltP (by omega) (by omega)]; omega)]
          ((obtain ⟨W9, hW9, hgo9⟩ := wp_ex (T_Rd_takesInNet l G) [] _; refine hgo9 200 _ _ _ _ ?_; simp -implicitDefEqProofs (disch := omega) only [hW9, inl, gate, Xq, tz_const, tz_iload, tz_lload, tz_dload, tz_aload, tz_istore, tz_astore, tz_lstore, tz_dstore, tz_iinc, tz_i1, tz_i2, tz_i2z, tz_l2, tz_l2z, tz_i2l, tz_l2i, tz_lcmp, tz_i2d, tz_d2, tz_dcmp, tz_dup, tz_dup2, tz_pop, tz_if, tz_icmp, tz_null, tz_goto, tz_sw, tz_getf, tz_puti, tz_putz, tz_putr, tz_putl, tz_iaload, tz_baload, tz_laload, tz_aaload, tz_iastore, tz_bastore, tz_lastore, tz_aastore, tz_alen, tz_new, tz_newa, tz_oinit, tz_iret, tz_zret, tz_lret, tz_dret, tz_aret, tz_vret, tz_throw, tz_callS, tz_callV, tz_callI, tz_callR, tz_pureS, tz_pureV, tz_callVH, lg, lset, lkill, lst1, lst2, entL, isRf, is1, vl, va_rf_none, va_rf_some, isRf_rf, is1_rf, i0, i1, bI_eq0, bI_eq1, nm_em, nI_eqP, nI_leP, nI_ltP, nN_e1, nN_e2, nN_l1, nN_l2, nN_l3, nN_l4, nI_add, pk_mul, vp_inN, nI_cl, n01, n10, P_i, P_ii, P_iii, f_Mo_at, f_Mo_map, f_Mo_contact, f_Mo_within, f_Mo_isPort, f_Hp_endpoint, f_Hp_nodeOf, f_Hp_portOf, f_Ma_max, f_Ma_min, f_Hp_isSetting, popN, rok, a1, noX, swc, mL, if_true, if_false, ↓reduceIte, cond_true, cond_false, true_and, and_true, List.length_cons, List.length_nil, List.nil_append, List.cons_append, List.append_nil, Option.toList, Nat.reduceEqDiff, Bool.false_eq_true, reduceCtorEq, Nat.reduceAdd, Nat.reduceLT, Nat.reduceLeDiff, Nat.reduceSub, List.replicate, Nat.zero_add, Nat.lt_add_one, Nat.le_refl, Nat.zero_le, Nat.succ_ne_zero, not_false_eq_true, not_true_eq_false, false_implies, true_implies, forall_const, imp_self, true_or, or_true, eq_self, sI_zw, zw_zw, hI_zw, tg_zw, ln_zw, hR_zw, hL_zw, hN_zw, hM_zw, upd_s, upd_u, upd_ne, Classical.not_not, k_Rd_takesInNet, s1, s3, w1, hPf, e]; try clear hgo9 hW9); try (obtain ⟨W9, hW9, hgo9⟩ := wp_ex (T_Rd_takesInNet l G) [] _; refine hgo9 200 _ _ _ _ ?_; simp -implicitDefEqProofs (disch := omega) only [hW9, inl, gate, Xq, tz_const, tz_iload, tz_lload, tz_dload, tz_aload, tz_istore, tz_astore, tz_lstore, tz_dstore, tz_iinc, tz_i1, tz_i2, tz_i2z, tz_l2, tz_l2z, tz_i2l, tz_l2i, tz_lcmp, tz_i2d, tz_d2, tz_dcmp, tz_dup, tz_dup2, tz_pop, tz_if, tz_icmp, tz_null, tz_goto, tz_sw, tz_getf, tz_puti, tz_putz, tz_putr, tz_putl, tz_iaload, tz_baload, tz_laload, tz_aaload, tz_iastore, tz_bastore, tz_lastore, tz_aastore, tz_alen, tz_new, tz_newa, tz_oinit, tz_iret, tz_zret, tz_lret, tz_dret, tz_aret, tz_vret, tz_throw, tz_callS, tz_callV, tz_callI, tz_callR, tz_pureS, tz_pureV, tz_callVH, lg, lset, lkill, lst1, lst2, entL, isRf, is1, vl, va_rf_none, va_rf_some, isRf_rf, is1_rf, i0, i1, bI_eq0, bI_eq1, nm_em, nI_eqP, nI_leP, nI_ltP, nN_e1, nN_e2, nN_l1, nN_l2, nN_l3, nN_l4, nI_add, pk_mul, vp_inN, nI_cl, n01, n10, P_i, P_ii, P_iii, f_Mo_at, f_Mo_map, f_Mo_contact, f_Mo_within, f_Mo_isPort, f_Hp_endpoint, f_Hp_nodeOf, f_Hp_portOf, f_Ma_max, f_Ma_min, f_Hp_isSetting, popN, rok, a1, noX, swc, mL, if_true, if_false, ↓reduceIte, cond_true, cond_false, true_and, and_true, List.length_cons, List.length_nil, List.nil_append, List.cons_append, List.append_nil, Option.toList, Nat.reduceEqDiff, Bool.false_eq_true, reduceCtorEq, Nat.reduceAdd, Nat.reduceLT, Nat.reduceLeDiff, Nat.reduceSub, List.replicate, Nat.zero_add, Nat.lt_add_one, Nat.le_refl, Nat.zero_le, Nat.succ_ne_zero, not_false_eq_true, not_true_eq_false, false_implies, true_implies, forall_const, imp_self, true_or, or_true, eq_self, sI_zw, zw_zw, hI_zw, tg_zw, ln_zw, hR_zw, hL_zw, hN_zw, hM_zw, upd_s, upd_u, upd_ne, Classical.not_not, k_Rd_takesInNet, s1, s3, w1, hPf, e]; try clear hgo9 hW9); try (obtain ⟨W9, hW9, hgo9⟩ := wp_ex (T_Rd_takesInNet l G) [] _; refine hgo9 200 _ _ _ _ ?_; simp -implicitDefEqProofs (disch := omega) only [hW9, inl, gate, Xq, tz_const, tz_iload, tz_lload, tz_dload, tz_aload, tz_istore, tz_astore, tz_lstore, tz_dstore, tz_iinc, tz_i1, tz_i2, tz_i2z, tz_l2, tz_l2z, tz_i2l, tz_l2i, tz_lcmp, tz_i2d, tz_d2, tz_dcmp, tz_dup, tz_dup2, tz_pop, tz_if, tz_icmp, tz_null, tz_goto, tz_sw, tz_getf, tz_puti, tz_putz, tz_putr, tz_putl, tz_iaload, tz_baload, tz_laload, tz_aaload, tz_iastore, tz_bastore, tz_lastore, tz_aastore, tz_alen, tz_new, tz_newa, tz_oinit, tz_iret, tz_zret, tz_lret, tz_dret, tz_aret, tz_vret, tz_throw, tz_callS, tz_callV, tz_callI, tz_callR, tz_pureS, tz_pureV, tz_callVH, lg, lset, lkill, lst1, lst2, entL, isRf, is1, vl, va_rf_none, va_rf_some, isRf_rf, is1_rf, i0, i1, bI_eq0, bI_eq1, nm_em, nI_eqP, nI_leP, nI_ltP, nN_e1, nN_e2, nN_l1, nN_l2, nN_l3, nN_l4, nI_add, pk_mul, vp_inN, nI_cl, n01, n10, P_i, P_ii, P_iii, f_Mo_at, f_Mo_map, f_Mo_contact, f_Mo_within, f_Mo_isPort, f_Hp_endpoint, f_Hp_nodeOf, f_Hp_portOf, f_Ma_max, f_Ma_min, f_Hp_isSetting, popN, rok, a1, noX, swc, mL, if_true, if_false, ↓reduceIte, cond_true, cond_false, true_and, and_true, List.length_cons, List.length_nil, List.nil_append, List.cons_append, List.append_nil, Option.toList, Nat.reduceEqDiff, Bool.false_eq_true, reduceCtorEq, Nat.reduceAdd, Nat.reduceLT, Nat.reduceLeDiff, Nat.reduceSub, List.replicate, Nat.zero_add, Nat.lt_add_one, Nat.le_refl, Nat.zero_le, Nat.succ_ne_zero, not_false_eq_true, not_true_eq_false, false_implies, true_implies, forall_const, imp_self, true_or, or_true, eq_self, sI_zw, zw_zw, hI_zw, tg_zw, ln_zw, hR_zw, hL_zw, hN_zw, hM_zw, upd_s, upd_u, upd_ne, Classical.not_not, k_Rd_takesInNet, s1, s3, w1, hPf, e]; try clear hgo9 hW9))
          exact q1 rfl _ g1 (by rw [g3]) (g4.mono (by omega))
      · rw [if_neg (fun q => q.1.elim ch ct)] at q1
        ((obtain ⟨W9, hW9, hgo9⟩ := wp_ex (T_Rd_takesInNet l G) [] _; refine hgo9 200 _ _ _ _ ?_; simp -implicitDefEqProofs (disch := omega) only [hW9, inl, gate, Xq, tz_const, tz_iload, tz_lload, tz_dload, tz_aload, tz_istore, tz_astore, tz_lstore, tz_dstore, tz_iinc, tz_i1, tz_i2, tz_i2z, tz_l2, tz_l2z, tz_i2l, tz_l2i, tz_lcmp, tz_i2d, tz_d2, tz_dcmp, tz_dup, tz_dup2, tz_pop, tz_if, tz_icmp, tz_null, tz_goto, tz_sw, tz_getf, tz_puti, tz_putz, tz_putr, tz_putl, tz_iaload, tz_baload, tz_laload, tz_aaload, tz_iastore, tz_bastore, tz_lastore, tz_aastore, tz_alen, tz_new, tz_newa, tz_oinit, tz_iret, tz_zret, tz_lret, tz_dret, tz_aret, tz_vret, tz_throw, tz_callS, tz_callV, tz_callI, tz_callR, tz_pureS, tz_pureV, tz_callVH, lg, lset, lkill, lst1, lst2, entL, isRf, is1, vl, va_rf_none, va_rf_some, isRf_rf, is1_rf, i0, i1, bI_eq0, bI_eq1, nm_em, nI_eqP, nI_leP, nI_ltP, nN_e1, nN_e2, nN_l1, nN_l2, nN_l3, nN_l4, nI_add, pk_mul, vp_inN, nI_cl, n01, n10, P_i, P_ii, P_iii, f_Mo_at, f_Mo_map, f_Mo_contact, f_Mo_within, f_Mo_isPort, f_Hp_endpoint, f_Hp_nodeOf, f_Hp_portOf, f_Ma_max, f_Ma_min, f_Hp_isSetting, popN, rok, a1, noX, swc, mL, if_true, if_false, ↓reduceIte, cond_true, cond_false, true_and, and_true, List.length_cons, List.length_nil, List.nil_append, List.cons_append, List.append_nil, Option.toList, Nat.reduceEqDiff, Bool.false_eq_true, reduceCtorEq, Nat.reduceAdd, Nat.reduceLT, Nat.reduceLeDiff, Nat.reduceSub, List.replicate, Nat.zero_add, Nat.lt_add_one, Nat.le_refl, Nat.zero_le, Nat.succ_ne_zero, not_false_eq_true, not_true_eq_false, false_implies, true_implies, forall_const, imp_self, true_or, or_true, eq_self, sI_zw, zw_zw, hI_zw, tg_zw, ln_zw, hR_zw, hL_zw, hN_zw, hM_zw, upd_s, upd_u, upd_ne, Classical.not_not, k_Rd_takesInNet, s1, c41, ch, ct]; try clear hgo9 hW9); try (obtain ⟨W9, hW9, hgo9⟩ := wp_ex (T_Rd_takesInNet l G) [] _; refine hgo9 200 _ _ _ _ ?_; simp -implicitDefEqProofs (disch := omega) only [hW9, inl, gate, Xq, tz_const, tz_iload, tz_lload, tz_dload, tz_aload, tz_istore, tz_astore, tz_lstore, tz_dstore, tz_iinc, tz_i1, tz_i2, tz_i2z, tz_l2, tz_l2z, tz_i2l, tz_l2i, tz_lcmp, tz_i2d, tz_d2, tz_dcmp, tz_dup, tz_dup2, tz_pop, tz_if, tz_icmp, tz_null, tz_goto, tz_sw, tz_getf, tz_puti, tz_putz, tz_putr, tz_putl, tz_iaload, tz_baload, tz_laload, tz_aaload, tz_iastore, tz_bastore, tz_lastore, tz_aastore, tz_alen, tz_new, tz_newa, tz_oinit, tz_iret, tz_zret, tz_lret, tz_dret, tz_aret, tz_vret, tz_throw, tz_callS, tz_callV, tz_callI, tz_callR, tz_pureS, tz_pureV, tz_callVH, lg, lset, lkill, lst1, lst2, entL, isRf, is1, vl, va_rf_none, va_rf_some, isRf_rf, is1_rf, i0, i1, bI_eq0, bI_eq1, nm_em, nI_eqP, nI_leP, nI_ltP, nN_e1, nN_e2, nN_l1, nN_l2, nN_l3, nN_l4, nI_add, pk_mul, vp_inN, nI_cl, n01, n10, P_i, P_ii, P_iii, f_Mo_at, f_Mo_map, f_Mo_contact, f_Mo_within, f_Mo_isPort, f_Hp_endpoint, f_Hp_nodeOf, f_Hp_portOf, f_Ma_max, f_Ma_min, f_Hp_isSetting, popN, rok, a1, noX, swc, mL, if_true, if_false, ↓reduceIte, cond_true, cond_false, true_and, and_true, List.length_cons, List.length_nil, List.nil_append, List.cons_append, List.append_nil, Option.toList, Nat.reduceEqDiff, Bool.false_eq_true, reduceCtorEq, Nat.reduceAdd, Nat.reduceLT, Nat.reduceLeDiff, Nat.reduceSub, List.replicate, Nat.zero_add, Nat.lt_add_one, Nat.le_refl, Nat.zero_le, Nat.succ_ne_zero, not_false_eq_true, not_true_eq_false, false_implies, true_implies, forall_const, imp_self, true_or, or_true, eq_self, sI_zw, zw_zw, hI_zw, tg_zw, ln_zw, hR_zw, hL_zw, hN_zw, hM_zw, upd_s, upd_u, upd_ne, Classical.not_not, k_Rd_takesInNet, s1, c41, ch, ct]; try clear hgo9 hW9))
        exact q1 rfl h kk rfl ((FrX.rf hw).mono (by omega))
end
