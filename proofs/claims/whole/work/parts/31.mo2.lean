/-! THE REFERENCE: reads with loops -/
def k_Mo_lives (l : Launch) (G : Gc) (pc : Nat) : Tr :=
  if pc < 17 then
   if pc < 10 then
    if pc < 4 then
     if pc < 1 then
      if pc = 0 then tz_aload 1 0 else dead
     else
      if pc = 1 then tz_getf 4 7 1 1 else dead
    else
     if pc < 5 then
      if pc = 4 then tz_iload 5 1 else dead
     else
      if pc < 7 then
       if pc = 5 then tz_const 7 (.int (nI 6)) else dead
      else
       if pc = 7 then tz_pureS 10 2 P_Mo_at f_Mo_at else dead
   else
    if pc < 12 then
     if pc < 11 then
      if pc = 10 then tz_iaload 11 else dead
     else
      if pc = 11 then tz_aload 12 0 else dead
    else
     if pc < 15 then
      if pc = 12 then tz_getf 15 7 1 1 else dead
     else
      if pc < 16 then
       if pc = 15 then tz_const 16 (.int (nI 0)) else dead
      else
       if pc = 16 then tz_iaload 17 else dead
  else
   if pc < 24 then
    if pc < 21 then
     if pc < 18 then
      if pc = 17 then tz_aload 18 0 else dead
     else
      if pc = 18 then tz_getf 21 7 1 1 else dead
    else
     if pc < 22 then
      if pc = 21 then tz_iload 22 1 else dead
     else
      if pc < 23 then
       if pc = 22 then tz_iload 23 2 else dead
      else
       if pc = 23 then tz_const 24 (.int (nI 5)) else dead
   else
    if pc < 28 then
     if pc < 27 then
      if pc = 24 then tz_pureS 27 3 P_Mo_map f_Mo_map else dead
     else
      if pc = 27 then tz_iaload 28 else dead
    else
     if pc < 29 then
      if pc = 28 then tz_i2 29 (fun a b => a - b) else dead
     else
      if pc < 30 then
       if pc = 29 then tz_i2 30 (fun a b => a - b) else dead
      else
       if pc = 30 then tz_iret else dead
set_option maxRecDepth 100000 in
theorem T_Mo_lives (l : Launch) (G : Gc) : TabOK l G M_Mo_lives (k_Mo_lives l G) := by
  intro pc
  unfold k_Mo_lives
  exact
   (sd_br
    (sd_br
     (sd_br
      (sd_br
       (sd_lf (sd_aload_n (k := 0) (by decide +kernel : decode prog_9_method_20_code 0 = .ok (.aload_n 0, 1))))
       (sd_lf (sd_getf (q := (RX7, TX7, 16)) (by decide +kernel : decode prog_9_method_20_code 1 = .ok (.getfield 7, 3)) rfl (by decide +kernel) (gm 913 (by decide +kernel) rfl))))
      (sd_br
       (sd_lf (sd_iload_n (k := 1) (by decide +kernel : decode prog_9_method_20_code 4 = .ok (.iload_n 1, 1))))
       (sd_br
        (sd_lf (sd_bipush (by decide +kernel : decode prog_9_method_20_code 5 = .ok (.bipush 6, 2)) (by decide +kernel)))
        (sd_lf (sd_pureS (sd_callS (by decide +kernel : decode prog_9_method_20_code 7 = .ok (.invokestatic 44, 3)) ok_Mo_at (gm 993 (by decide +kernel) rfl) (gm 994 (by decide +kernel) rfl) (by decide +kernel) rfl rfl) c_Mo_at)))))
     (sd_br
      (sd_br
       (sd_lf (sd_iaload (by decide +kernel : decode prog_9_method_20_code 10 = .ok (.iaload, 1))))
       (sd_lf (sd_aload_n (k := 0) (by decide +kernel : decode prog_9_method_20_code 11 = .ok (.aload_n 0, 1)))))
      (sd_br
       (sd_lf (sd_getf (q := (RX7, TX7, 16)) (by decide +kernel : decode prog_9_method_20_code 12 = .ok (.getfield 7, 3)) rfl (by decide +kernel) (gm 913 (by decide +kernel) rfl)))
       (sd_br
        (sd_lf (sd_iconst (by decide +kernel : decode prog_9_method_20_code 15 = .ok (.iconst 0, 1)) (by decide +kernel)))
        (sd_lf (sd_iaload (by decide +kernel : decode prog_9_method_20_code 16 = .ok (.iaload, 1))))))))
    (sd_br
     (sd_br
      (sd_br
       (sd_lf (sd_aload_n (k := 0) (by decide +kernel : decode prog_9_method_20_code 17 = .ok (.aload_n 0, 1))))
       (sd_lf (sd_getf (q := (RX7, TX7, 16)) (by decide +kernel : decode prog_9_method_20_code 18 = .ok (.getfield 7, 3)) rfl (by decide +kernel) (gm 913 (by decide +kernel) rfl))))
      (sd_br
       (sd_lf (sd_iload_n (k := 1) (by decide +kernel : decode prog_9_method_20_code 21 = .ok (.iload_n 1, 1))))
       (sd_br
        (sd_lf (sd_iload_n (k := 2) (by decide +kernel : decode prog_9_method_20_code 22 = .ok (.iload_n 2, 1))))
        (sd_lf (sd_iconst (by decide +kernel : decode prog_9_method_20_code 23 = .ok (.iconst 5, 1)) (by decide +kernel))))))
     (sd_br
      (sd_br
       (sd_lf (sd_pureS (sd_callS (by decide +kernel : decode prog_9_method_20_code 24 = .ok (.invokestatic 73, 3)) ok_Mo_map (gm 1020 (by decide +kernel) rfl) (gm 1021 (by decide +kernel) rfl) (by decide +kernel) rfl rfl) c_Mo_map))
       (sd_lf (sd_iaload (by decide +kernel : decode prog_9_method_20_code 27 = .ok (.iaload, 1)))))
      (sd_br
       (sd_lf (sd_isub (by decide +kernel : decode prog_9_method_20_code 28 = .ok (.isub, 1))))
       (sd_br
        (sd_lf (sd_isub (by decide +kernel : decode prog_9_method_20_code 29 = .ok (.isub, 1))))
        (sd_lf (sd_iret (by decide +kernel : decode prog_9_method_20_code 30 = .ok (.ireturn, 1)) rfl)))))))
def k_Mo_hasOuter (l : Launch) (G : Gc) (pc : Nat) : Tr :=
  if pc < 26 then
   if pc < 11 then
    if pc < 3 then
     if pc < 1 then
      if pc = 0 then tz_const 1 (.int (nI 0)) else dead
     else
      if pc < 2 then
       if pc = 1 then tz_istore 2 3 else dead
      else
       if pc = 2 then tz_const 3 (.int (nI 0)) else dead
    else
     if pc < 7 then
      if pc < 5 then
       if pc = 3 then tz_istore 5 4 else dead
      else
       if pc = 5 then tz_iload 7 4 else dead
     else
      if pc < 8 then
       if pc = 7 then tz_aload 8 0 else dead
      else
       if pc = 8 then tz_getf 11 7 1 1 else dead
   else
    if pc < 18 then
     if pc < 14 then
      if pc < 12 then
       if pc = 11 then tz_iload 12 1 else dead
      else
       if pc = 12 then tz_const 14 (.int (nI 11)) else dead
     else
      if pc < 17 then
       if pc = 14 then tz_pureS 17 2 P_Mo_at f_Mo_at else dead
      else
       if pc = 17 then tz_iaload 18 else dead
    else
     if pc < 22 then
      if pc < 21 then
       if pc = 18 then tz_icmp 21 53 (fun a b => b ≤ a) else dead
      else
       if pc = 21 then tz_iload 22 3 else dead
     else
      if pc < 25 then
       if pc = 22 then tz_if 25 41 (fun a => ¬ a = 0) else dead
      else
       if pc = 25 then tz_aload 26 0 else dead
  else
   if pc < 41 then
    if pc < 33 then
     if pc < 30 then
      if pc < 29 then
       if pc = 26 then tz_getf 29 7 1 1 else dead
      else
       if pc = 29 then tz_iload 30 1 else dead
     else
      if pc < 32 then
       if pc = 30 then tz_iload 32 4 else dead
      else
       if pc = 32 then tz_const 33 (.int (nI 2)) else dead
    else
     if pc < 37 then
      if pc < 36 then
       if pc = 33 then tz_pureS 36 3 P_Mo_map f_Mo_map else dead
      else
       if pc = 36 then tz_iaload 37 else dead
     else
      if pc < 38 then
       if pc = 37 then tz_iload 38 2 else dead
      else
       if pc = 38 then tz_icmp 41 45 (fun a b => ¬ a = b) else dead
   else
    if pc < 47 then
     if pc < 45 then
      if pc < 42 then
       if pc = 41 then tz_const 42 (.int (nI 1)) else dead
      else
       if pc = 42 then tz_goto 46 else dead
     else
      if pc < 46 then
       if pc = 45 then tz_const 46 (.int (nI 0)) else dead
      else
       if pc = 46 then tz_istore 47 3 else dead
    else
     if pc < 53 then
      if pc < 50 then
       if pc = 47 then tz_iinc 50 4 (nI 1) else dead
      else
       if pc = 50 then tz_goto 5 else dead
     else
      if pc < 54 then
       if pc = 53 then tz_iload 54 3 else dead
      else
       if pc = 54 then tz_zret else dead
set_option maxRecDepth 100000 in
theorem T_Mo_hasOuter (l : Launch) (G : Gc) : TabOK l G M_Mo_hasOuter (k_Mo_hasOuter l G) := by
  intro pc
  unfold k_Mo_hasOuter
  exact
   (sd_br
    (sd_br
     (sd_br
      (sd_br
       (sd_lf (sd_iconst (by decide +kernel : decode prog_9_method_33_code 0 = .ok (.iconst 0, 1)) (by decide +kernel)))
       (sd_br
        (sd_lf (sd_istore_n (k := 3) (by decide +kernel : decode prog_9_method_33_code 1 = .ok (.istore_n 3, 1))))
        (sd_lf (sd_iconst (by decide +kernel : decode prog_9_method_33_code 2 = .ok (.iconst 0, 1)) (by decide +kernel)))))
      (sd_br
       (sd_br
        (sd_lf (sd_istore (by decide +kernel : decode prog_9_method_33_code 3 = .ok (.istore 4, 2))))
        (sd_lf (sd_iload (by decide +kernel : decode prog_9_method_33_code 5 = .ok (.iload 4, 2)))))
       (sd_br
        (sd_lf (sd_aload_n (k := 0) (by decide +kernel : decode prog_9_method_33_code 7 = .ok (.aload_n 0, 1))))
        (sd_lf (sd_getf (q := (RX7, TX7, 16)) (by decide +kernel : decode prog_9_method_33_code 8 = .ok (.getfield 7, 3)) rfl (by decide +kernel) (gm 913 (by decide +kernel) rfl))))))
     (sd_br
      (sd_br
       (sd_br
        (sd_lf (sd_iload_n (k := 1) (by decide +kernel : decode prog_9_method_33_code 11 = .ok (.iload_n 1, 1))))
        (sd_lf (sd_bipush (by decide +kernel : decode prog_9_method_33_code 12 = .ok (.bipush 11, 2)) (by decide +kernel))))
       (sd_br
        (sd_lf (sd_pureS (sd_callS (by decide +kernel : decode prog_9_method_33_code 14 = .ok (.invokestatic 44, 3)) ok_Mo_at (gm 993 (by decide +kernel) rfl) (gm 994 (by decide +kernel) rfl) (by decide +kernel) rfl rfl) c_Mo_at))
        (sd_lf (sd_iaload (by decide +kernel : decode prog_9_method_33_code 17 = .ok (.iaload, 1))))))
      (sd_br
       (sd_br
        (sd_lf (sd_icmp_ge (by decide +kernel : decode prog_9_method_33_code 18 = .ok (.if_icmp .ge 35, 3)) (by decide +kernel)))
        (sd_lf (sd_iload_n (k := 3) (by decide +kernel : decode prog_9_method_33_code 21 = .ok (.iload_n 3, 1)))))
       (sd_br
        (sd_lf (sd_if_ne (by decide +kernel : decode prog_9_method_33_code 22 = .ok (.ifCond .ne 19, 3)) (by decide +kernel)))
        (sd_lf (sd_aload_n (k := 0) (by decide +kernel : decode prog_9_method_33_code 25 = .ok (.aload_n 0, 1))))))))
    (sd_br
     (sd_br
      (sd_br
       (sd_br
        (sd_lf (sd_getf (q := (RX7, TX7, 16)) (by decide +kernel : decode prog_9_method_33_code 26 = .ok (.getfield 7, 3)) rfl (by decide +kernel) (gm 913 (by decide +kernel) rfl)))
        (sd_lf (sd_iload_n (k := 1) (by decide +kernel : decode prog_9_method_33_code 29 = .ok (.iload_n 1, 1)))))
       (sd_br
        (sd_lf (sd_iload (by decide +kernel : decode prog_9_method_33_code 30 = .ok (.iload 4, 2))))
        (sd_lf (sd_iconst (by decide +kernel : decode prog_9_method_33_code 32 = .ok (.iconst 2, 1)) (by decide +kernel)))))
      (sd_br
       (sd_br
        (sd_lf (sd_pureS (sd_callS (by decide +kernel : decode prog_9_method_33_code 33 = .ok (.invokestatic 73, 3)) ok_Mo_map (gm 1020 (by decide +kernel) rfl) (gm 1021 (by decide +kernel) rfl) (by decide +kernel) rfl rfl) c_Mo_map))
        (sd_lf (sd_iaload (by decide +kernel : decode prog_9_method_33_code 36 = .ok (.iaload, 1)))))
       (sd_br
        (sd_lf (sd_iload_n (k := 2) (by decide +kernel : decode prog_9_method_33_code 37 = .ok (.iload_n 2, 1))))
        (sd_lf (sd_icmp_ne (by decide +kernel : decode prog_9_method_33_code 38 = .ok (.if_icmp .ne 7, 3)) (by decide +kernel))))))
     (sd_br
      (sd_br
       (sd_br
        (sd_lf (sd_iconst (by decide +kernel : decode prog_9_method_33_code 41 = .ok (.iconst 1, 1)) (by decide +kernel)))
        (sd_lf (sd_goto (by decide +kernel : decode prog_9_method_33_code 42 = .ok (.goto 4, 3)) (by decide +kernel))))
       (sd_br
        (sd_lf (sd_iconst (by decide +kernel : decode prog_9_method_33_code 45 = .ok (.iconst 0, 1)) (by decide +kernel)))
        (sd_lf (sd_istore_n (k := 3) (by decide +kernel : decode prog_9_method_33_code 46 = .ok (.istore_n 3, 1))))))
      (sd_br
       (sd_br
        (sd_lf (sd_iinc (by decide +kernel : decode prog_9_method_33_code 47 = .ok (.iinc 4 1, 3)) (by decide +kernel)))
        (sd_lf (sd_goto (by decide +kernel : decode prog_9_method_33_code 50 = .ok (.goto (-45), 3)) (by decide +kernel))))
       (sd_br
        (sd_lf (sd_iload_n (k := 3) (by decide +kernel : decode prog_9_method_33_code 53 = .ok (.iload_n 3, 1))))
        (sd_lf (sd_zret (by decide +kernel : decode prog_9_method_33_code 54 = .ok (.ireturn, 1)) rfl)))))))
def k_Mo_mappings (l : Launch) (G : Gc) (pc : Nat) : Tr :=
  if pc < 15 then
   if pc < 5 then
    if pc < 2 then
     if pc < 1 then
      if pc = 0 then tz_const 1 (.int (nI 0)) else dead
     else
      if pc = 1 then tz_istore 2 1 else dead
    else
     if pc < 3 then
      if pc = 2 then tz_const 3 (.int (nI 0)) else dead
     else
      if pc < 4 then
       if pc = 3 then tz_istore 4 2 else dead
      else
       if pc = 4 then tz_iload 5 2 else dead
   else
    if pc < 10 then
     if pc < 6 then
      if pc = 5 then tz_aload 6 0 else dead
     else
      if pc < 9 then
       if pc = 6 then tz_getf 9 7 1 1 else dead
      else
       if pc = 9 then tz_const 10 (.int (nI 1)) else dead
    else
     if pc < 11 then
      if pc = 10 then tz_iaload 11 else dead
     else
      if pc < 14 then
       if pc = 11 then tz_icmp 14 34 (fun a b => b ≤ a) else dead
      else
       if pc = 14 then tz_iload 15 1 else dead
  else
   if pc < 26 then
    if pc < 20 then
     if pc < 16 then
      if pc = 15 then tz_aload 16 0 else dead
     else
      if pc < 19 then
       if pc = 16 then tz_getf 19 7 1 1 else dead
      else
       if pc = 19 then tz_iload 20 2 else dead
    else
     if pc < 22 then
      if pc = 20 then tz_const 22 (.int (nI 11)) else dead
     else
      if pc < 25 then
       if pc = 22 then tz_pureS 25 2 P_Mo_at f_Mo_at else dead
      else
       if pc = 25 then tz_iaload 26 else dead
   else
    if pc < 31 then
     if pc < 27 then
      if pc = 26 then tz_i2 27 (fun a b => a + b) else dead
     else
      if pc < 28 then
       if pc = 27 then tz_istore 28 1 else dead
      else
       if pc = 28 then tz_iinc 31 2 (nI 1) else dead
    else
     if pc < 34 then
      if pc = 31 then tz_goto 4 else dead
     else
      if pc < 35 then
       if pc = 34 then tz_iload 35 1 else dead
      else
       if pc = 35 then tz_iret else dead
set_option maxRecDepth 100000 in
theorem T_Mo_mappings (l : Launch) (G : Gc) : TabOK l G M_Mo_mappings (k_Mo_mappings l G) := by
  intro pc
  unfold k_Mo_mappings
  exact
   (sd_br
    (sd_br
     (sd_br
      (sd_br
       (sd_lf (sd_iconst (by decide +kernel : decode prog_9_method_56_code 0 = .ok (.iconst 0, 1)) (by decide +kernel)))
       (sd_lf (sd_istore_n (k := 1) (by decide +kernel : decode prog_9_method_56_code 1 = .ok (.istore_n 1, 1)))))
      (sd_br
       (sd_lf (sd_iconst (by decide +kernel : decode prog_9_method_56_code 2 = .ok (.iconst 0, 1)) (by decide +kernel)))
       (sd_br
        (sd_lf (sd_istore_n (k := 2) (by decide +kernel : decode prog_9_method_56_code 3 = .ok (.istore_n 2, 1))))
        (sd_lf (sd_iload_n (k := 2) (by decide +kernel : decode prog_9_method_56_code 4 = .ok (.iload_n 2, 1)))))))
     (sd_br
      (sd_br
       (sd_lf (sd_aload_n (k := 0) (by decide +kernel : decode prog_9_method_56_code 5 = .ok (.aload_n 0, 1))))
       (sd_br
        (sd_lf (sd_getf (q := (RX7, TX7, 16)) (by decide +kernel : decode prog_9_method_56_code 6 = .ok (.getfield 7, 3)) rfl (by decide +kernel) (gm 913 (by decide +kernel) rfl)))
        (sd_lf (sd_iconst (by decide +kernel : decode prog_9_method_56_code 9 = .ok (.iconst 1, 1)) (by decide +kernel)))))
      (sd_br
       (sd_lf (sd_iaload (by decide +kernel : decode prog_9_method_56_code 10 = .ok (.iaload, 1))))
       (sd_br
        (sd_lf (sd_icmp_ge (by decide +kernel : decode prog_9_method_56_code 11 = .ok (.if_icmp .ge 23, 3)) (by decide +kernel)))
        (sd_lf (sd_iload_n (k := 1) (by decide +kernel : decode prog_9_method_56_code 14 = .ok (.iload_n 1, 1))))))))
    (sd_br
     (sd_br
      (sd_br
       (sd_lf (sd_aload_n (k := 0) (by decide +kernel : decode prog_9_method_56_code 15 = .ok (.aload_n 0, 1))))
       (sd_br
        (sd_lf (sd_getf (q := (RX7, TX7, 16)) (by decide +kernel : decode prog_9_method_56_code 16 = .ok (.getfield 7, 3)) rfl (by decide +kernel) (gm 913 (by decide +kernel) rfl)))
        (sd_lf (sd_iload_n (k := 2) (by decide +kernel : decode prog_9_method_56_code 19 = .ok (.iload_n 2, 1))))))
      (sd_br
       (sd_lf (sd_bipush (by decide +kernel : decode prog_9_method_56_code 20 = .ok (.bipush 11, 2)) (by decide +kernel)))
       (sd_br
        (sd_lf (sd_pureS (sd_callS (by decide +kernel : decode prog_9_method_56_code 22 = .ok (.invokestatic 44, 3)) ok_Mo_at (gm 993 (by decide +kernel) rfl) (gm 994 (by decide +kernel) rfl) (by decide +kernel) rfl rfl) c_Mo_at))
        (sd_lf (sd_iaload (by decide +kernel : decode prog_9_method_56_code 25 = .ok (.iaload, 1)))))))
     (sd_br
      (sd_br
       (sd_lf (sd_iadd (by decide +kernel : decode prog_9_method_56_code 26 = .ok (.iadd, 1))))
       (sd_br
        (sd_lf (sd_istore_n (k := 1) (by decide +kernel : decode prog_9_method_56_code 27 = .ok (.istore_n 1, 1))))
        (sd_lf (sd_iinc (by decide +kernel : decode prog_9_method_56_code 28 = .ok (.iinc 2 1, 3)) (by decide +kernel)))))
      (sd_br
       (sd_lf (sd_goto (by decide +kernel : decode prog_9_method_56_code 31 = .ok (.goto (-27), 3)) (by decide +kernel)))
       (sd_br
        (sd_lf (sd_iload_n (k := 1) (by decide +kernel : decode prog_9_method_56_code 34 = .ok (.iload_n 1, 1))))
        (sd_lf (sd_iret (by decide +kernel : decode prog_9_method_56_code 35 = .ok (.ireturn, 1)) rfl)))))))
def k_Mo_hosts (l : Launch) (G : Gc) (pc : Nat) : Tr :=
  if pc < 16 then
   if pc < 6 then
    if pc < 3 then
     if pc < 1 then
      if pc = 0 then tz_const 1 (.int (nI 0)) else dead
     else
      if pc < 2 then
       if pc = 1 then tz_istore 2 1 else dead
      else
       if pc = 2 then tz_const 3 (.int (nI 0)) else dead
    else
     if pc < 4 then
      if pc = 3 then tz_istore 4 2 else dead
     else
      if pc < 5 then
       if pc = 4 then tz_iload 5 2 else dead
      else
       if pc = 5 then tz_aload 6 0 else dead
   else
    if pc < 11 then
     if pc < 9 then
      if pc = 6 then tz_getf 9 7 1 1 else dead
     else
      if pc < 10 then
       if pc = 9 then tz_const 10 (.int (nI 1)) else dead
      else
       if pc = 10 then tz_iaload 11 else dead
    else
     if pc < 14 then
      if pc = 11 then tz_icmp 14 36 (fun a b => b ≤ a) else dead
     else
      if pc < 15 then
       if pc = 14 then tz_iload 15 1 else dead
      else
       if pc = 15 then tz_aload 16 0 else dead
  else
   if pc < 28 then
    if pc < 23 then
     if pc < 17 then
      if pc = 16 then tz_iload 17 2 else dead
     else
      if pc < 20 then
       if pc = 17 then tz_pureV 20 1 7 P_Mo_isHost f_Mo_isHost else dead
      else
       if pc = 20 then tz_if 23 27 (fun a => a = 0) else dead
    else
     if pc < 24 then
      if pc = 23 then tz_const 24 (.int (nI 1)) else dead
     else
      if pc < 27 then
       if pc = 24 then tz_goto 28 else dead
      else
       if pc = 27 then tz_const 28 (.int (nI 0)) else dead
   else
    if pc < 33 then
     if pc < 29 then
      if pc = 28 then tz_i2 29 (fun a b => a + b) else dead
     else
      if pc < 30 then
       if pc = 29 then tz_istore 30 1 else dead
      else
       if pc = 30 then tz_iinc 33 2 (nI 1) else dead
    else
     if pc < 36 then
      if pc = 33 then tz_goto 4 else dead
     else
      if pc < 37 then
       if pc = 36 then tz_iload 37 1 else dead
      else
       if pc = 37 then tz_iret else dead
set_option maxRecDepth 100000 in
theorem T_Mo_hosts (l : Launch) (G : Gc) : TabOK l G M_Mo_hosts (k_Mo_hosts l G) := by
  intro pc
  unfold k_Mo_hosts
  exact
   (sd_br
    (sd_br
     (sd_br
      (sd_br
       (sd_lf (sd_iconst (by decide +kernel : decode prog_9_method_55_code 0 = .ok (.iconst 0, 1)) (by decide +kernel)))
       (sd_br
        (sd_lf (sd_istore_n (k := 1) (by decide +kernel : decode prog_9_method_55_code 1 = .ok (.istore_n 1, 1))))
        (sd_lf (sd_iconst (by decide +kernel : decode prog_9_method_55_code 2 = .ok (.iconst 0, 1)) (by decide +kernel)))))
      (sd_br
       (sd_lf (sd_istore_n (k := 2) (by decide +kernel : decode prog_9_method_55_code 3 = .ok (.istore_n 2, 1))))
       (sd_br
        (sd_lf (sd_iload_n (k := 2) (by decide +kernel : decode prog_9_method_55_code 4 = .ok (.iload_n 2, 1))))
        (sd_lf (sd_aload_n (k := 0) (by decide +kernel : decode prog_9_method_55_code 5 = .ok (.aload_n 0, 1)))))))
     (sd_br
      (sd_br
       (sd_lf (sd_getf (q := (RX7, TX7, 16)) (by decide +kernel : decode prog_9_method_55_code 6 = .ok (.getfield 7, 3)) rfl (by decide +kernel) (gm 913 (by decide +kernel) rfl)))
       (sd_br
        (sd_lf (sd_iconst (by decide +kernel : decode prog_9_method_55_code 9 = .ok (.iconst 1, 1)) (by decide +kernel)))
        (sd_lf (sd_iaload (by decide +kernel : decode prog_9_method_55_code 10 = .ok (.iaload, 1))))))
      (sd_br
       (sd_lf (sd_icmp_ge (by decide +kernel : decode prog_9_method_55_code 11 = .ok (.if_icmp .ge 25, 3)) (by decide +kernel)))
       (sd_br
        (sd_lf (sd_iload_n (k := 1) (by decide +kernel : decode prog_9_method_55_code 14 = .ok (.iload_n 1, 1))))
        (sd_lf (sd_aload_n (k := 0) (by decide +kernel : decode prog_9_method_55_code 15 = .ok (.aload_n 0, 1))))))))
    (sd_br
     (sd_br
      (sd_br
       (sd_lf (sd_iload_n (k := 2) (by decide +kernel : decode prog_9_method_55_code 16 = .ok (.iload_n 2, 1))))
       (sd_br
        (sd_lf (sd_pureV (sd_callV (q := (RX7, TX7, 16)) (by decide +kernel : decode prog_9_method_55_code 17 = .ok (.invokevirtual 165, 3)) ok_Mo_isHost (gm 1083 (by decide +kernel) rfl) (gm 1085 (by decide +kernel) rfl) (gm 42 (by decide +kernel) rfl) rfl rfl (by decide +kernel) rfl rfl) c_Mo_isHost))
        (sd_lf (sd_if_eq (by decide +kernel : decode prog_9_method_55_code 20 = .ok (.ifCond .eq 7, 3)) (by decide +kernel)))))
      (sd_br
       (sd_lf (sd_iconst (by decide +kernel : decode prog_9_method_55_code 23 = .ok (.iconst 1, 1)) (by decide +kernel)))
       (sd_br
        (sd_lf (sd_goto (by decide +kernel : decode prog_9_method_55_code 24 = .ok (.goto 4, 3)) (by decide +kernel)))
        (sd_lf (sd_iconst (by decide +kernel : decode prog_9_method_55_code 27 = .ok (.iconst 0, 1)) (by decide +kernel))))))
     (sd_br
      (sd_br
       (sd_lf (sd_iadd (by decide +kernel : decode prog_9_method_55_code 28 = .ok (.iadd, 1))))
       (sd_br
        (sd_lf (sd_istore_n (k := 1) (by decide +kernel : decode prog_9_method_55_code 29 = .ok (.istore_n 1, 1))))
        (sd_lf (sd_iinc (by decide +kernel : decode prog_9_method_55_code 30 = .ok (.iinc 2 1, 3)) (by decide +kernel)))))
      (sd_br
       (sd_lf (sd_goto (by decide +kernel : decode prog_9_method_55_code 33 = .ok (.goto (-29), 3)) (by decide +kernel)))
       (sd_br
        (sd_lf (sd_iload_n (k := 1) (by decide +kernel : decode prog_9_method_55_code 36 = .ok (.iload_n 1, 1))))
        (sd_lf (sd_iret (by decide +kernel : decode prog_9_method_55_code 37 = .ok (.ireturn, 1)) rfl)))))))
theorem cl_of {x : Int32} {k : Nat} (h : x = nI k) (hk : k < 2147483648) : x.toNatClampNeg = k := by rw [h, nI_clamp hk]
/-- how many mappings a node has -/
def own (z : Nat → Int32) (t : Nat) : Nat := (z (16 + 16 * t + 11)).toNatClampNeg
def OwnOK (z : Nat → Int32) (t : Nat) : Prop := z (16 + 16 * t + 11) = nI (own z t) ∧ own z t ≤ 8
def P_Mo_hasOuter : List Value → AH → Prop
  | [.ref m, .int t, .int _], h => ∃ zr tn, MoS h m zr ∧ t = nI tn ∧ tn < 10 ∧ OwnOK (hI h zr) tn
  | _, _ => False
def HasO (z : Nat → Int32) (t : Nat) (p : Int32) (i : Nat) : Prop := ∃ j, j < i ∧ z (176 + 8 * (8 * t + j) + 2) = p
noncomputable def f_Mo_hasOuter : List Value → AH → Value
  | [.ref m, .int t, .int p], h => .int (bI (HasO (zF h m) t.toNatClampNeg p (own (zF h m) t.toNatClampNeg)))
  | _, _ => .null
/-- how long mapping j of t lives -/
def livZ (z : Nat → Int32) (t j : Nat) : Int32 := z (16 + 16 * t + 6) - (z 0 - z (176 + 8 * (8 * t + j) + 5))
def P_Mo_lives : List Value → AH → Prop
  | [.ref m, .int t, .int j], h => ∃ zr tn jn, MoS h m zr ∧ t = nI tn ∧ tn < 10 ∧ j = nI jn ∧ jn < 8
  | _, _ => False
def f_Mo_lives : List Value → AH → Value
  | [.ref m, .int t, .int j], h => .int (livZ (zF h m) t.toNatClampNeg j.toNatClampNeg)
  | _, _ => .null
def sumO (z : Nat → Int32) : Nat → Int32
  | 0 => nI 0
  | n + 1 => sumO z n + z (16 + 16 * n + 11)
def P_Mo_mappings : List Value → AH → Prop
  | [.ref m], h => PM h m
  | _, _ => False
def f_Mo_mappings : List Value → AH → Value
  | [.ref m], h => .int (sumO (zF h m) (mny (zF h m)))
  | _, _ => .null
noncomputable def cntH (z : Nat → Int32) : Nat → Int32
  | 0 => nI 0
  | n + 1 => cntH z n + bI (z (16 + 16 * n) = nI 0)
def P_Mo_hosts := P_Mo_mappings
noncomputable def f_Mo_hosts : List Value → AH → Value
  | [.ref m], h => .int (cntH (zF h m) (mny (zF h m)))
  | _, _ => .null
section
variable {l : Launch} {G : Gc}
theorem c_Mo_lives (a : Nat) (as : List Value) (h : AH) (Q : Po) (hl : as.length = 2) (ht : tg h a = 7) (hP : P_Mo_lives (.ref a :: as) h) (hQ : Q (.inl (some (f_Mo_lives (.ref a :: as) h))) h) : Call l G M_Mo_lives (.ref a :: as) h Q := by
  match as, hP, hQ with
  | [.int t, .int j], hP, hQ =>
    obtain ⟨zr, tn, jn, hm, rfl, h5, rfl, h6⟩ := hP
    simp only [f_Mo_lives, hm.zF, nI_clamp (show tn < 2 ^ 31 by omega), nI_clamp (show jn < 2 ^ 31 by omega), livZ] at hQ
    obtain ⟨h1, h2, h3, h4⟩ := hm
    refine call_of rfl rfl (Nat.le_of_ble_eq_true rfl) ?_
    (obtain ⟨W9, hW9, hgo9⟩ := wp_ex (T_Mo_lives l G) [] _; refine hgo9 200 _ _ _ _ ?_; simp -implicitDefEqProofs (disch := omega) only [hW9, inl, gate, Xq, tz_const, tz_iload, tz_lload, tz_dload, tz_aload, tz_istore, tz_astore, tz_lstore, tz_dstore, tz_iinc, tz_i1, tz_i2, tz_i2z, tz_l2, tz_l2z, tz_i2l, tz_l2i, tz_lcmp, tz_i2d, tz_d2, tz_dcmp, tz_dup, tz_dup2, tz_pop, tz_if, tz_icmp, tz_null, tz_goto, tz_sw, tz_getf, tz_puti, tz_putz, tz_putr, tz_putl, tz_iaload, tz_baload, tz_laload, tz_aaload, tz_iastore, tz_bastore, tz_lastore, tz_aastore, tz_alen, tz_new, tz_newa, tz_oinit, tz_iret, tz_zret, tz_lret, tz_dret, tz_aret, tz_vret, tz_throw, tz_callS, tz_callV, tz_callI, tz_callR, tz_pureS, tz_pureV, tz_callVH, lg, lset, lkill, lst1, lst2, entL, isRf, is1, vl, va_rf_none, va_rf_some, isRf_rf, is1_rf, i0, i1, bI_eq0, bI_eq1, nm_em, nI_eqP, nI_leP, nI_ltP, nN_e1, nN_e2, nN_l1, nN_l2, nN_l3, nN_l4, nI_add, pk_mul, vp_inN, nI_cl, n01, n10, P_i, P_ii, P_iii, f_Mo_at, f_Mo_map, f_Mo_contact, f_Mo_within, f_Mo_isPort, f_Hp_endpoint, f_Hp_nodeOf, f_Hp_portOf, f_Ma_max, f_Ma_min, f_Hp_isSetting, popN, rok, a1, noX, swc, mL, if_true, if_false, ↓reduceIte, cond_true, cond_false, true_and, and_true, List.length_cons, List.length_nil, List.nil_append, List.cons_append, List.append_nil, Option.toList, Nat.reduceEqDiff, Bool.false_eq_true, reduceCtorEq, Nat.reduceAdd, Nat.reduceLT, Nat.reduceLeDiff, Nat.reduceSub, List.replicate, Nat.zero_add, Nat.lt_add_one, Nat.le_refl, Nat.zero_le, Nat.succ_ne_zero, not_false_eq_true, not_true_eq_false, false_implies, true_implies, forall_const, imp_self, true_or, or_true, eq_self, k_Mo_lives, h1, h2, h3, h4]; try clear hgo9 hW9)
    exact hQ
theorem lp_hasOuter {a zr tn : Nat} {p : Int32} {h : AH} {Q : Po} (hm : MoS h a zr) (h5 : tn < 10) (ho : OwnOK (hI h zr) tn) (hQ : Q (.inl (some (.int (bI (HasO (hI h zr) tn p (own (hI h zr) tn)))))) h) :
    ∀ (d i : Nat), i + d = own (hI h zr) tn → AWp l G M_Mo_hasOuter 5 [some (.ref a), some (.int (nI tn)), some (.int p), some (.int (bI (HasO (hI h zr) tn p i))), some (.int (nI i))] [] h Q := by
  obtain ⟨h1, h2, h3, h4⟩ := hm
  obtain ⟨o1, o2⟩ := ho
  intro d
  induction d with
  | zero =>
    intro i hi
    (obtain ⟨W9, hW9, hgo9⟩ := wp_ex (T_Mo_hasOuter l G) [5] _; refine hgo9 200 _ _ _ _ ?_; simp -implicitDefEqProofs (disch := omega) only [hW9, inl, gate, Xq, tz_const, tz_iload, tz_lload, tz_dload, tz_aload, tz_istore, tz_astore, tz_lstore, tz_dstore, tz_iinc, tz_i1, tz_i2, tz_i2z, tz_l2, tz_l2z, tz_i2l, tz_l2i, tz_lcmp, tz_i2d, tz_d2, tz_dcmp, tz_dup, tz_dup2, tz_pop, tz_if, tz_icmp, tz_null, tz_goto, tz_sw, tz_getf, tz_puti, tz_putz, tz_putr, tz_putl, tz_iaload, tz_baload, tz_laload, tz_aaload, tz_iastore, tz_bastore, tz_lastore, tz_aastore, tz_alen, tz_new, tz_newa, tz_oinit, tz_iret, tz_zret, tz_lret, tz_dret, tz_aret, tz_vret, tz_throw, tz_callS, tz_callV, tz_callI, tz_callR, tz_pureS, tz_pureV, tz_callVH, lg, lset, lkill, lst1, lst2, entL, isRf, is1, vl, va_rf_none, va_rf_some, isRf_rf, is1_rf, i0, i1, bI_eq0, bI_eq1, nm_em, nI_eqP, nI_leP, nI_ltP, nN_e1, nN_e2, nN_l1, nN_l2, nN_l3, nN_l4, nI_add, pk_mul, vp_inN, nI_cl, n01, n10, P_i, P_ii, P_iii, f_Mo_at, f_Mo_map, f_Mo_contact, f_Mo_within, f_Mo_isPort, f_Hp_endpoint, f_Hp_nodeOf, f_Hp_portOf, f_Ma_max, f_Ma_min, f_Hp_isSetting, popN, rok, a1, noX, swc, mL, if_true, if_false, ↓reduceIte, cond_true, cond_false, true_and, and_true, List.length_cons, List.length_nil, List.nil_append, List.cons_append, List.append_nil, Option.toList, Nat.reduceEqDiff, Bool.false_eq_true, reduceCtorEq, Nat.reduceAdd, Nat.reduceLT, Nat.reduceLeDiff, Nat.reduceSub, List.replicate, Nat.zero_add, Nat.lt_add_one, Nat.le_refl, Nat.zero_le, Nat.succ_ne_zero, not_false_eq_true, not_true_eq_false, false_implies, true_implies, forall_const, imp_self, true_or, or_true, eq_self, k_Mo_hasOuter, h1, h2, h3, h4, o1]; try clear hgo9 hW9)
    refine ⟨fun c => ?_, fun c => absurd (by omega) c⟩
    (obtain ⟨W9, hW9, hgo9⟩ := wp_ex (T_Mo_hasOuter l G) [5] _; refine hgo9 200 _ _ _ _ ?_; simp -implicitDefEqProofs (disch := omega) only [hW9, inl, gate, Xq, tz_const, tz_iload, tz_lload, tz_dload, tz_aload, tz_istore, tz_astore, tz_lstore, tz_dstore, tz_iinc, tz_i1, tz_i2, tz_i2z, tz_l2, tz_l2z, tz_i2l, tz_l2i, tz_lcmp, tz_i2d, tz_d2, tz_dcmp, tz_dup, tz_dup2, tz_pop, tz_if, tz_icmp, tz_null, tz_goto, tz_sw, tz_getf, tz_puti, tz_putz, tz_putr, tz_putl, tz_iaload, tz_baload, tz_laload, tz_aaload, tz_iastore, tz_bastore, tz_lastore, tz_aastore, tz_alen, tz_new, tz_newa, tz_oinit, tz_iret, tz_zret, tz_lret, tz_dret, tz_aret, tz_vret, tz_throw, tz_callS, tz_callV, tz_callI, tz_callR, tz_pureS, tz_pureV, tz_callVH, lg, lset, lkill, lst1, lst2, entL, isRf, is1, vl, va_rf_none, va_rf_some, isRf_rf, is1_rf, i0, i1, bI_eq0, bI_eq1, nm_em, nI_eqP, nI_leP, nI_ltP, nN_e1, nN_e2, nN_l1, nN_l2, nN_l3, nN_l4, nI_add, pk_mul, vp_inN, nI_cl, n01, n10, P_i, P_ii, P_iii, f_Mo_at, f_Mo_map, f_Mo_contact, f_Mo_within, f_Mo_isPort, f_Hp_endpoint, f_Hp_nodeOf, f_Hp_portOf, f_Ma_max, f_Ma_min, f_Hp_isSetting, popN, rok, a1, noX, swc, mL, if_true, if_false, ↓reduceIte, cond_true, cond_false, true_and, and_true, List.length_cons, List.length_nil, List.nil_append, List.cons_append, List.append_nil, Option.toList, Nat.reduceEqDiff, Bool.false_eq_true, reduceCtorEq, Nat.reduceAdd, Nat.reduceLT, Nat.reduceLeDiff, Nat.reduceSub, List.replicate, Nat.zero_add, Nat.lt_add_one, Nat.le_refl, Nat.zero_le, Nat.succ_ne_zero, not_false_eq_true, not_true_eq_false, false_implies, true_implies, forall_const, imp_self, true_or, or_true, eq_self, k_Mo_hasOuter]; try clear hgo9 hW9)
    rw [show i = own (hI h zr) tn by omega]
    exact hQ
  | succ d ih =>
    intro i hi
    (obtain ⟨W9, hW9, hgo9⟩ := wp_ex (T_Mo_hasOuter l G) [5] _; refine hgo9 200 _ _ _ _ ?_; simp -implicitDefEqProofs (disch := omega) only [hW9, inl, gate, Xq, tz_const, tz_iload, tz_lload, tz_dload, tz_aload, tz_istore, tz_astore, tz_lstore, tz_dstore, tz_iinc, tz_i1, tz_i2, tz_i2z, tz_l2, tz_l2z, tz_i2l, tz_l2i, tz_lcmp, tz_i2d, tz_d2, tz_dcmp, tz_dup, tz_dup2, tz_pop, tz_if, tz_icmp, tz_null, tz_goto, tz_sw, tz_getf, tz_puti, tz_putz, tz_putr, tz_putl, tz_iaload, tz_baload, tz_laload, tz_aaload, tz_iastore, tz_bastore, tz_lastore, tz_aastore, tz_alen, tz_new, tz_newa, tz_oinit, tz_iret, tz_zret, tz_lret, tz_dret, tz_aret, tz_vret, tz_throw, tz_callS, tz_callV, tz_callI, tz_callR, tz_pureS, tz_pureV, tz_callVH, lg, lset, lkill, lst1, lst2, entL, isRf, is1, vl, va_rf_none, va_rf_some, isRf_rf, is1_rf, i0, i1, bI_eq0, bI_eq1, nm_em, nI_eqP, nI_leP, nI_ltP, nN_e1, nN_e2, nN_l1, nN_l2, nN_l3, nN_l4, nI_add, pk_mul, vp_inN, nI_cl, n01, n10, P_i, P_ii, P_iii, f_Mo_at, f_Mo_map, f_Mo_contact, f_Mo_within, f_Mo_isPort, f_Hp_endpoint, f_Hp_nodeOf, f_Hp_portOf, f_Ma_max, f_Ma_min, f_Hp_isSetting, popN, rok, a1, noX, swc, mL, if_true, if_false, ↓reduceIte, cond_true, cond_false, true_and, and_true, List.length_cons, List.length_nil, List.nil_append, List.cons_append, List.append_nil, Option.toList, Nat.reduceEqDiff, Bool.false_eq_true, reduceCtorEq, Nat.reduceAdd, Nat.reduceLT, Nat.reduceLeDiff, Nat.reduceSub, List.replicate, Nat.zero_add, Nat.lt_add_one, Nat.le_refl, Nat.zero_le, Nat.succ_ne_zero, not_false_eq_true, not_true_eq_false, false_implies, true_implies, forall_const, imp_self, true_or, or_true, eq_self, k_Mo_hasOuter, h1, h2, h3, h4, o1]; try clear hgo9 hW9)
    refine ⟨fun c => absurd c (by omega), fun c => ?_⟩
    (obtain ⟨W9, hW9, hgo9⟩ := wp_ex (T_Mo_hasOuter l G) [5] _; refine hgo9 200 _ _ _ _ ?_; simp -implicitDefEqProofs (disch := omega) only [hW9, inl, gate, Xq, tz_const, tz_iload, tz_lload, tz_dload, tz_aload, tz_istore, tz_astore, tz_lstore, tz_dstore, tz_iinc, tz_i1, tz_i2, tz_i2z, tz_l2, tz_l2z, tz_i2l, tz_l2i, tz_lcmp, tz_i2d, tz_d2, tz_dcmp, tz_dup, tz_dup2, tz_pop, tz_if, tz_icmp, tz_null, tz_goto, tz_sw, tz_getf, tz_puti, tz_putz, tz_putr, tz_putl, tz_iaload, tz_baload, tz_laload, tz_aaload, tz_iastore, tz_bastore, tz_lastore, tz_aastore, tz_alen, tz_new, tz_newa, tz_oinit, tz_iret, tz_zret, tz_lret, tz_dret, tz_aret, tz_vret, tz_throw, tz_callS, tz_callV, tz_callI, tz_callR, tz_pureS, tz_pureV, tz_callVH, lg, lset, lkill, lst1, lst2, entL, isRf, is1, vl, va_rf_none, va_rf_some, isRf_rf, is1_rf, i0, i1, bI_eq0, bI_eq1, nm_em, nI_eqP, nI_leP, nI_ltP, nN_e1, nN_e2, nN_l1, nN_l2, nN_l3, nN_l4, nI_add, pk_mul, vp_inN, nI_cl, n01, n10, P_i, P_ii, P_iii, f_Mo_at, f_Mo_map, f_Mo_contact, f_Mo_within, f_Mo_isPort, f_Hp_endpoint, f_Hp_nodeOf, f_Hp_portOf, f_Ma_max, f_Ma_min, f_Hp_isSetting, popN, rok, a1, noX, swc, mL, if_true, if_false, ↓reduceIte, cond_true, cond_false, true_and, and_true, List.length_cons, List.length_nil, List.nil_append, List.cons_append, List.append_nil, Option.toList, Nat.reduceEqDiff, Bool.false_eq_true, reduceCtorEq, Nat.reduceAdd, Nat.reduceLT, Nat.reduceLeDiff, Nat.reduceSub, List.replicate, Nat.zero_add, Nat.lt_add_one, Nat.le_refl, Nat.zero_le, Nat.succ_ne_zero, not_false_eq_true, not_true_eq_false, false_implies, true_implies, forall_const, imp_self, true_or, or_true, eq_self, k_Mo_hasOuter]; try clear hgo9 hW9)
    refine ⟨fun c2 => ?_, fun c2 => ?_⟩
    · (obtain ⟨W9, hW9, hgo9⟩ := wp_ex (T_Mo_hasOuter l G) [5] _; refine hgo9 200 _ _ _ _ ?_; simp -implicitDefEqProofs (disch := omega) only [hW9, inl, gate, Xq, tz_const, tz_iload, tz_lload, tz_dload, tz_aload, tz_istore, tz_astore, tz_lstore, tz_dstore, tz_iinc, tz_i1, tz_i2, tz_i2z, tz_l2, tz_l2z, tz_i2l, tz_l2i, tz_lcmp, tz_i2d, tz_d2, tz_dcmp, tz_dup, tz_dup2, tz_pop, tz_if, tz_icmp, tz_null, tz_goto, tz_sw, tz_getf, tz_puti, tz_putz, tz_putr, tz_putl, tz_iaload, tz_baload, tz_laload, tz_aaload, tz_iastore, tz_bastore, tz_lastore, tz_aastore, tz_alen, tz_new, tz_newa, tz_oinit, tz_iret, tz_zret, tz_lret, tz_dret, tz_aret, tz_vret, tz_throw, tz_callS, tz_callV, tz_callI, tz_callR, tz_pureS, tz_pureV, tz_callVH, lg, lset, lkill, lst1, lst2, entL, isRf, is1, vl, va_rf_none, va_rf_some, isRf_rf, is1_rf, i0, i1, bI_eq0, bI_eq1, nm_em, nI_eqP, nI_leP, nI_ltP, nN_e1, nN_e2, nN_l1, nN_l2, nN_l3, nN_l4, nI_add, pk_mul, vp_inN, nI_cl, n01, n10, P_i, P_ii, P_iii, f_Mo_at, f_Mo_map, f_Mo_contact, f_Mo_within, f_Mo_isPort, f_Hp_endpoint, f_Hp_nodeOf, f_Hp_portOf, f_Ma_max, f_Ma_min, f_Hp_isSetting, popN, rok, a1, noX, swc, mL, if_true, if_false, ↓reduceIte, cond_true, cond_false, true_and, and_true, List.length_cons, List.length_nil, List.nil_append, List.cons_append, List.append_nil, Option.toList, Nat.reduceEqDiff, Bool.false_eq_true, reduceCtorEq, Nat.reduceAdd, Nat.reduceLT, Nat.reduceLeDiff, Nat.reduceSub, List.replicate, Nat.zero_add, Nat.lt_add_one, Nat.le_refl, Nat.zero_le, Nat.succ_ne_zero, not_false_eq_true, not_true_eq_false, false_implies, true_implies, forall_const, imp_self, true_or, or_true, eq_self, k_Mo_hasOuter]; try clear hgo9 hW9)
      have e : nI 1 = bI (HasO (hI h zr) tn p (i + 1)) := by
        obtain ⟨j, q1, q2⟩ := Classical.not_not.mp c2
        exact (bI_t ⟨j, by omega, q2⟩).symm
      rw [e]
      exact ih (i + 1) (by omega)
    · (obtain ⟨W9, hW9, hgo9⟩ := wp_ex (T_Mo_hasOuter l G) [5] _; refine hgo9 200 _ _ _ _ ?_; simp -implicitDefEqProofs (disch := omega) only [hW9, inl, gate, Xq, tz_const, tz_iload, tz_lload, tz_dload, tz_aload, tz_istore, tz_astore, tz_lstore, tz_dstore, tz_iinc, tz_i1, tz_i2, tz_i2z, tz_l2, tz_l2z, tz_i2l, tz_l2i, tz_lcmp, tz_i2d, tz_d2, tz_dcmp, tz_dup, tz_dup2, tz_pop, tz_if, tz_icmp, tz_null, tz_goto, tz_sw, tz_getf, tz_puti, tz_putz, tz_putr, tz_putl, tz_iaload, tz_baload, tz_laload, tz_aaload, tz_iastore, tz_bastore, tz_lastore, tz_aastore, tz_alen, tz_new, tz_newa, tz_oinit, tz_iret, tz_zret, tz_lret, tz_dret, tz_aret, tz_vret, tz_throw, tz_callS, tz_callV, tz_callI, tz_callR, tz_pureS, tz_pureV, tz_callVH, lg, lset, lkill, lst1, lst2, entL, isRf, is1, vl, va_rf_none, va_rf_some, isRf_rf, is1_rf, i0, i1, bI_eq0, bI_eq1, nm_em, nI_eqP, nI_leP, nI_ltP, nN_e1, nN_e2, nN_l1, nN_l2, nN_l3, nN_l4, nI_add, pk_mul, vp_inN, nI_cl, n01, n10, P_i, P_ii, P_iii, f_Mo_at, f_Mo_map, f_Mo_contact, f_Mo_within, f_Mo_isPort, f_Hp_endpoint, f_Hp_nodeOf, f_Hp_portOf, f_Ma_max, f_Ma_min, f_Hp_isSetting, popN, rok, a1, noX, swc, mL, if_true, if_false, ↓reduceIte, cond_true, cond_false, true_and, and_true, List.length_cons, List.length_nil, List.nil_append, List.cons_append, List.append_nil, Option.toList, Nat.reduceEqDiff, Bool.false_eq_true, reduceCtorEq, Nat.reduceAdd, Nat.reduceLT, Nat.reduceLeDiff, Nat.reduceSub, List.replicate, Nat.zero_add, Nat.lt_add_one, Nat.le_refl, Nat.zero_le, Nat.succ_ne_zero, not_false_eq_true, not_true_eq_false, false_implies, true_implies, forall_const, imp_self, true_or, or_true, eq_self, k_Mo_hasOuter, h1, h2, h3, h4]; try clear hgo9 hW9)
      refine ⟨fun c3 => ?_, fun c3 => ?_⟩
      · (obtain ⟨W9, hW9, hgo9⟩ := wp_ex (T_Mo_hasOuter l G) [5] _; refine hgo9 200 _ _ _ _ ?_; simp -implicitDefEqProofs (disch := omega) only [hW9, inl, gate, Xq, tz_const, tz_iload, tz_lload, tz_dload, tz_aload, tz_istore, tz_astore, tz_lstore, tz_dstore, tz_iinc, tz_i1, tz_i2, tz_i2z, tz_l2, tz_l2z, tz_i2l, tz_l2i, tz_lcmp, tz_i2d, tz_d2, tz_dcmp, tz_dup, tz_dup2, tz_pop, tz_if, tz_icmp, tz_null, tz_goto, tz_sw, tz_getf, tz_puti, tz_putz, tz_putr, tz_putl, tz_iaload, tz_baload, tz_laload, tz_aaload, tz_iastore, tz_bastore, tz_lastore, tz_aastore, tz_alen, tz_new, tz_newa, tz_oinit, tz_iret, tz_zret, tz_lret, tz_dret, tz_aret, tz_vret, tz_throw, tz_callS, tz_callV, tz_callI, tz_callR, tz_pureS, tz_pureV, tz_callVH, lg, lset, lkill, lst1, lst2, entL, isRf, is1, vl, va_rf_none, va_rf_some, isRf_rf, is1_rf, i0, i1, bI_eq0, bI_eq1, nm_em, nI_eqP, nI_leP, nI_ltP, nN_e1, nN_e2, nN_l1, nN_l2, nN_l3, nN_l4, nI_add, pk_mul, vp_inN, nI_cl, n01, n10, P_i, P_ii, P_iii, f_Mo_at, f_Mo_map, f_Mo_contact, f_Mo_within, f_Mo_isPort, f_Hp_endpoint, f_Hp_nodeOf, f_Hp_portOf, f_Ma_max, f_Ma_min, f_Hp_isSetting, popN, rok, a1, noX, swc, mL, if_true, if_false, ↓reduceIte, cond_true, cond_false, true_and, and_true, List.length_cons, List.length_nil, List.nil_append, List.cons_append, List.append_nil, Option.toList, Nat.reduceEqDiff, Bool.false_eq_true, reduceCtorEq, Nat.reduceAdd, Nat.reduceLT, Nat.reduceLeDiff, Nat.reduceSub, List.replicate, Nat.zero_add, Nat.lt_add_one, Nat.le_refl, Nat.zero_le, Nat.succ_ne_zero, not_false_eq_true, not_true_eq_false, false_implies, true_implies, forall_const, imp_self, true_or, or_true, eq_self, k_Mo_hasOuter]; try clear hgo9 hW9)
        have e : nI 0 = bI (HasO (hI h zr) tn p (i + 1)) := by
          refine (bI_f ?_).symm
          rintro ⟨j, q1, q2⟩
          by_cases e : j = i
          · subst e; exact c3 q2
          · exact c2 (fun q => q ⟨j, by omega, q2⟩)
        rw [e]
        exact ih (i + 1) (by omega)
      · (obtain ⟨W9, hW9, hgo9⟩ := wp_ex (T_Mo_hasOuter l G) [5] _; refine hgo9 200 _ _ _ _ ?_; simp -implicitDefEqProofs (disch := omega) only [hW9, inl, gate, Xq, tz_const, tz_iload, tz_lload, tz_dload, tz_aload, tz_istore, tz_astore, tz_lstore, tz_dstore, tz_iinc, tz_i1, tz_i2, tz_i2z, tz_l2, tz_l2z, tz_i2l, tz_l2i, tz_lcmp, tz_i2d, tz_d2, tz_dcmp, tz_dup, tz_dup2, tz_pop, tz_if, tz_icmp, tz_null, tz_goto, tz_sw, tz_getf, tz_puti, tz_putz, tz_putr, tz_putl, tz_iaload, tz_baload, tz_laload, tz_aaload, tz_iastore, tz_bastore, tz_lastore, tz_aastore, tz_alen, tz_new, tz_newa, tz_oinit, tz_iret, tz_zret, tz_lret, tz_dret, tz_aret, tz_vret, tz_throw, tz_callS, tz_callV, tz_callI, tz_callR, tz_pureS, tz_pureV, tz_callVH, lg, lset, lkill, lst1, lst2, entL, isRf, is1, vl, va_rf_none, va_rf_some, isRf_rf, is1_rf, i0, i1, bI_eq0, bI_eq1, nm_em, nI_eqP, nI_leP, nI_ltP, nN_e1, nN_e2, nN_l1, nN_l2, nN_l3, nN_l4, nI_add, pk_mul, vp_inN, nI_cl, n01, n10, P_i, P_ii, P_iii, f_Mo_at, f_Mo_map, f_Mo_contact, f_Mo_within, f_Mo_isPort, f_Hp_endpoint, f_Hp_nodeOf, f_Hp_portOf, f_Ma_max, f_Ma_min, f_Hp_isSetting, popN, rok, a1, noX, swc, mL, if_true, if_false, ↓reduceIte, cond_true, cond_false, true_and, and_true, List.length_cons, List.length_nil, List.nil_append, List.cons_append, List.append_nil, Option.toList, Nat.reduceEqDiff, Bool.false_eq_true, reduceCtorEq, Nat.reduceAdd, Nat.reduceLT, Nat.reduceLeDiff, Nat.reduceSub, List.replicate, Nat.zero_add, Nat.lt_add_one, Nat.le_refl, Nat.zero_le, Nat.succ_ne_zero, not_false_eq_true, not_true_eq_false, false_implies, true_implies, forall_const, imp_self, true_or, or_true, eq_self, k_Mo_hasOuter]; try clear hgo9 hW9)
        have e : nI 1 = bI (HasO (hI h zr) tn p (i + 1)) := (bI_t ⟨i, by omega, Classical.not_not.mp c3⟩).symm
        rw [e]
        exact ih (i + 1) (by omega)
theorem c_Mo_hasOuter (a : Nat) (as : List Value) (h : AH) (Q : Po) (hl : as.length = 2) (ht : tg h a = 7) (hP : P_Mo_hasOuter (.ref a :: as) h) (hQ : Q (.inl (some (f_Mo_hasOuter (.ref a :: as) h))) h) : Call l G M_Mo_hasOuter (.ref a :: as) h Q := by
  match as, hP, hQ with
  | [.int t, .int p], hP, hQ =>
    obtain ⟨zr, tn, hm, rfl, h5, ho⟩ := hP
    simp only [f_Mo_hasOuter, hm.zF, nI_clamp (show tn < 2 ^ 31 by omega)] at hQ
    refine call_of rfl rfl (Nat.le_of_ble_eq_true rfl) ?_
    (obtain ⟨W9, hW9, hgo9⟩ := wp_ex (T_Mo_hasOuter l G) [5] _; refine hgo9 200 _ _ _ _ ?_; simp -implicitDefEqProofs (disch := omega) only [hW9, inl, gate, Xq, tz_const, tz_iload, tz_lload, tz_dload, tz_aload, tz_istore, tz_astore, tz_lstore, tz_dstore, tz_iinc, tz_i1, tz_i2, tz_i2z, tz_l2, tz_l2z, tz_i2l, tz_l2i, tz_lcmp, tz_i2d, tz_d2, tz_dcmp, tz_dup, tz_dup2, tz_pop, tz_if, tz_icmp, tz_null, tz_goto, tz_sw, tz_getf, tz_puti, tz_putz, tz_putr, tz_putl, tz_iaload, tz_baload, tz_laload, tz_aaload, tz_iastore, tz_bastore, tz_lastore, tz_aastore, tz_alen, tz_new, tz_newa, tz_oinit, tz_iret, tz_zret, tz_lret, tz_dret, tz_aret, tz_vret, tz_throw, tz_callS, tz_callV, tz_callI, tz_callR, tz_pureS, tz_pureV, tz_callVH, lg, lset, lkill, lst1, lst2, entL, isRf, is1, vl, va_rf_none, va_rf_some, isRf_rf, is1_rf, i0, i1, bI_eq0, bI_eq1, nm_em, nI_eqP, nI_leP, nI_ltP, nN_e1, nN_e2, nN_l1, nN_l2, nN_l3, nN_l4, nI_add, pk_mul, vp_inN, nI_cl, n01, n10, P_i, P_ii, P_iii, f_Mo_at, f_Mo_map, f_Mo_contact, f_Mo_within, f_Mo_isPort, f_Hp_endpoint, f_Hp_nodeOf, f_Hp_portOf, f_Ma_max, f_Ma_min, f_Hp_isSetting, popN, rok, a1, noX, swc, mL, if_true, if_false, ↓reduceIte, cond_true, cond_false, true_and, and_true, List.length_cons, List.length_nil, List.nil_append, List.cons_append, List.append_nil, Option.toList, Nat.reduceEqDiff, Bool.false_eq_true, reduceCtorEq, Nat.reduceAdd, Nat.reduceLT, Nat.reduceLeDiff, Nat.reduceSub, List.replicate, Nat.zero_add, Nat.lt_add_one, Nat.le_refl, Nat.zero_le, Nat.succ_ne_zero, not_false_eq_true, not_true_eq_false, false_implies, true_implies, forall_const, imp_self, true_or, or_true, eq_self, k_Mo_hasOuter]; try clear hgo9 hW9)
    have := lp_hasOuter (l := l) (G := G) hm h5 ho hQ (own (hI h zr) tn) 0 (by omega)
    rwa [bI_f (fun ⟨j, q, _⟩ => by omega)] at this
end
