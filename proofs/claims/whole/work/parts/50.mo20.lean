/-! THE REFERENCE: punch -/
def k_Mo_shows (l : Launch) (G : Gc) (pc : Nat) : Tr :=
  if pc < 48 then
   if pc < 24 then
    if pc < 12 then
     if pc < 5 then
      if pc < 1 then
       if pc = 0 then tz_aload 1 0 else dead
      else
       if pc < 2 then
        if pc = 1 then tz_iload 2 1 else dead
       else
        if pc = 2 then tz_const 5 (.int (nI 500)) else dead
     else
      if pc < 8 then
       if pc < 6 then
        if pc = 5 then tz_iload 6 3 else dead
       else
        if pc = 6 then tz_iload 8 4 else dead
      else
       if pc < 11 then
        if pc = 8 then tz_callV l G 11 M_Mo_sends 4 7 else dead
       else
        if pc = 11 then tz_iload 12 3 else dead
    else
     if pc < 17 then
      if pc < 15 then
       if pc = 12 then tz_icmp 15 17 (fun a b => a = b) else dead
      else
       if pc < 16 then
        if pc = 15 then tz_const 16 (.int (nI 0)) else dead
       else
        if pc = 16 then tz_zret else dead
     else
      if pc < 21 then
       if pc < 18 then
        if pc = 17 then tz_aload 18 0 else dead
       else
        if pc = 18 then tz_getf 21 7 1 1 else dead
      else
       if pc < 22 then
        if pc = 21 then tz_iload 22 3 else dead
       else
        if pc = 22 then tz_const 24 (.int (nI 13)) else dead
   else
    if pc < 36 then
     if pc < 30 then
      if pc < 27 then
       if pc = 24 then tz_pureS 27 2 P_Mo_at f_Mo_at else dead
      else
       if pc < 28 then
        if pc = 27 then tz_iaload 28 else dead
       else
        if pc = 28 then tz_istore 30 6 else dead
     else
      if pc < 34 then
       if pc < 32 then
        if pc = 30 then tz_iload 32 6 else dead
       else
        if pc = 32 then tz_iload 34 6 else dead
      else
       if pc < 35 then
        if pc = 34 then tz_i2 35 (fun a b => a + b) else dead
       else
        if pc = 35 then tz_aload 36 0 else dead
    else
     if pc < 41 then
      if pc < 39 then
       if pc = 36 then tz_getf 39 7 13 1 else dead
      else
       if pc < 40 then
        if pc = 39 then tz_iload 40 2 else dead
       else
        if pc = 40 then tz_iaload 41 else dead
     else
      if pc < 44 then
       if pc < 42 then
        if pc = 41 then tz_i2 42 (fun a b => a - b) else dead
       else
        if pc = 42 then tz_istore 44 7 else dead
      else
       if pc < 45 then
        if pc = 44 then tz_aload 45 0 else dead
       else
        if pc = 45 then tz_getf 48 7 12 1 else dead
  else
   if pc < 74 then
    if pc < 60 then
     if pc < 54 then
      if pc < 49 then
       if pc = 48 then tz_iload 49 2 else dead
      else
       if pc < 51 then
        if pc = 49 then tz_iload 51 5 else dead
       else
        if pc = 51 then tz_if 54 63 (fun a => a = 0) else dead
     else
      if pc < 58 then
       if pc < 55 then
        if pc = 54 then tz_aload 55 0 else dead
       else
        if pc = 55 then tz_getf 58 7 12 1 else dead
      else
       if pc < 59 then
        if pc = 58 then tz_iload 59 2 else dead
       else
        if pc = 59 then tz_iaload 60 else dead
    else
     if pc < 67 then
      if pc < 63 then
       if pc = 60 then tz_goto 74 else dead
      else
       if pc < 64 then
        if pc = 63 then tz_aload 64 0 else dead
       else
        if pc = 64 then tz_getf 67 7 1 1 else dead
     else
      if pc < 70 then
       if pc < 68 then
        if pc = 67 then tz_iload 68 3 else dead
       else
        if pc = 68 then tz_const 70 (.int (nI 12)) else dead
      else
       if pc < 73 then
        if pc = 70 then tz_pureS 73 2 P_Mo_at f_Mo_at else dead
       else
        if pc = 73 then tz_iaload 74 else dead
   else
    if pc < 87 then
     if pc < 79 then
      if pc < 75 then
       if pc = 74 then tz_iastore 75 else dead
      else
       if pc < 76 then
        if pc = 75 then tz_aload 76 0 else dead
       else
        if pc = 76 then tz_getf 79 7 13 1 else dead
     else
      if pc < 82 then
       if pc < 80 then
        if pc = 79 then tz_iload 80 2 else dead
       else
        if pc = 80 then tz_iload 82 5 else dead
      else
       if pc < 85 then
        if pc = 82 then tz_if 85 98 (fun a => a = 0) else dead
       else
        if pc = 85 then tz_iload 87 7 else dead
    else
     if pc < 98 then
      if pc < 93 then
       if pc < 90 then
        if pc = 87 then tz_pureS 90 1 P_Mo_isPort f_Mo_isPort else dead
       else
        if pc = 90 then tz_if 93 98 (fun a => a = 0) else dead
      else
       if pc < 95 then
        if pc = 93 then tz_iload 95 7 else dead
       else
        if pc = 95 then tz_goto 100 else dead
     else
      if pc < 101 then
       if pc < 100 then
        if pc = 98 then tz_iload 100 6 else dead
       else
        if pc = 100 then tz_iastore 101 else dead
      else
       if pc < 102 then
        if pc = 101 then tz_const 102 (.int (nI 1)) else dead
       else
        if pc = 102 then tz_zret else dead
set_option maxRecDepth 100000 in
theorem T_Mo_shows (l : Launch) (G : Gc) : TabOK l G M_Mo_shows (k_Mo_shows l G) := by
  intro pc
  unfold k_Mo_shows
  exact
   (sd_br
    (sd_br
     (sd_br
      (sd_br
       (sd_br
        (sd_lf (sd_aload_n (k := 0) (by decide +kernel : decode prog_9_method_50_code 0 = .ok (.aload_n 0, 1))))
        (sd_br
         (sd_lf (sd_iload_n (k := 1) (by decide +kernel : decode prog_9_method_50_code 1 = .ok (.iload_n 1, 1))))
         (sd_lf (sd_sipush (by decide +kernel : decode prog_9_method_50_code 2 = .ok (.sipush 500, 3)) (by decide +kernel)))))
       (sd_br
        (sd_br
         (sd_lf (sd_iload_n (k := 3) (by decide +kernel : decode prog_9_method_50_code 5 = .ok (.iload_n 3, 1))))
         (sd_lf (sd_iload (by decide +kernel : decode prog_9_method_50_code 6 = .ok (.iload 4, 2)))))
        (sd_br
         (sd_lf (sd_callV (q := (RX7, TX7, 16)) (by decide +kernel : decode prog_9_method_50_code 8 = .ok (.invokevirtual 174, 3)) ok_Mo_sends (gm 1090 (by decide +kernel) rfl) (gm 1092 (by decide +kernel) rfl) (gm 43 (by decide +kernel) rfl) rfl rfl (by decide +kernel) rfl rfl))
         (sd_lf (sd_iload_n (k := 3) (by decide +kernel : decode prog_9_method_50_code 11 = .ok (.iload_n 3, 1)))))))
      (sd_br
       (sd_br
        (sd_lf (sd_icmp_eq (by decide +kernel : decode prog_9_method_50_code 12 = .ok (.if_icmp .eq 5, 3)) (by decide +kernel)))
        (sd_br
         (sd_lf (sd_iconst (by decide +kernel : decode prog_9_method_50_code 15 = .ok (.iconst 0, 1)) (by decide +kernel)))
         (sd_lf (sd_zret (by decide +kernel : decode prog_9_method_50_code 16 = .ok (.ireturn, 1)) rfl))))
       (sd_br
        (sd_br
         (sd_lf (sd_aload_n (k := 0) (by decide +kernel : decode prog_9_method_50_code 17 = .ok (.aload_n 0, 1))))
         (sd_lf (sd_getf (q := (RX7, TX7, 16)) (by decide +kernel : decode prog_9_method_50_code 18 = .ok (.getfield 7, 3)) rfl (by decide +kernel) (gm 913 (by decide +kernel) rfl))))
        (sd_br
         (sd_lf (sd_iload_n (k := 3) (by decide +kernel : decode prog_9_method_50_code 21 = .ok (.iload_n 3, 1))))
         (sd_lf (sd_bipush (by decide +kernel : decode prog_9_method_50_code 22 = .ok (.bipush 13, 2)) (by decide +kernel)))))))
     (sd_br
      (sd_br
       (sd_br
        (sd_lf (sd_pureS (sd_callS (by decide +kernel : decode prog_9_method_50_code 24 = .ok (.invokestatic 44, 3)) ok_Mo_at (gm 993 (by decide +kernel) rfl) (gm 994 (by decide +kernel) rfl) (by decide +kernel) rfl rfl) c_Mo_at))
        (sd_br
         (sd_lf (sd_iaload (by decide +kernel : decode prog_9_method_50_code 27 = .ok (.iaload, 1))))
         (sd_lf (sd_istore (by decide +kernel : decode prog_9_method_50_code 28 = .ok (.istore 6, 2))))))
       (sd_br
        (sd_br
         (sd_lf (sd_iload (by decide +kernel : decode prog_9_method_50_code 30 = .ok (.iload 6, 2))))
         (sd_lf (sd_iload (by decide +kernel : decode prog_9_method_50_code 32 = .ok (.iload 6, 2)))))
        (sd_br
         (sd_lf (sd_iadd (by decide +kernel : decode prog_9_method_50_code 34 = .ok (.iadd, 1))))
         (sd_lf (sd_aload_n (k := 0) (by decide +kernel : decode prog_9_method_50_code 35 = .ok (.aload_n 0, 1)))))))
      (sd_br
       (sd_br
        (sd_lf (sd_getf (q := (RX7, TX7, 16)) (by decide +kernel : decode prog_9_method_50_code 36 = .ok (.getfield 25, 3)) rfl (by decide +kernel) (gm 925 (by decide +kernel) rfl)))
        (sd_br
         (sd_lf (sd_iload_n (k := 2) (by decide +kernel : decode prog_9_method_50_code 39 = .ok (.iload_n 2, 1))))
         (sd_lf (sd_iaload (by decide +kernel : decode prog_9_method_50_code 40 = .ok (.iaload, 1))))))
       (sd_br
        (sd_br
         (sd_lf (sd_isub (by decide +kernel : decode prog_9_method_50_code 41 = .ok (.isub, 1))))
         (sd_lf (sd_istore (by decide +kernel : decode prog_9_method_50_code 42 = .ok (.istore 7, 2)))))
        (sd_br
         (sd_lf (sd_aload_n (k := 0) (by decide +kernel : decode prog_9_method_50_code 44 = .ok (.aload_n 0, 1))))
         (sd_lf (sd_getf (q := (RX7, TX7, 16)) (by decide +kernel : decode prog_9_method_50_code 45 = .ok (.getfield 22, 3)) rfl (by decide +kernel) (gm 924 (by decide +kernel) rfl))))))))
    (sd_br
     (sd_br
      (sd_br
       (sd_br
        (sd_lf (sd_iload_n (k := 2) (by decide +kernel : decode prog_9_method_50_code 48 = .ok (.iload_n 2, 1))))
        (sd_br
         (sd_lf (sd_iload (by decide +kernel : decode prog_9_method_50_code 49 = .ok (.iload 5, 2))))
         (sd_lf (sd_if_eq (by decide +kernel : decode prog_9_method_50_code 51 = .ok (.ifCond .eq 12, 3)) (by decide +kernel)))))
       (sd_br
        (sd_br
         (sd_lf (sd_aload_n (k := 0) (by decide +kernel : decode prog_9_method_50_code 54 = .ok (.aload_n 0, 1))))
         (sd_lf (sd_getf (q := (RX7, TX7, 16)) (by decide +kernel : decode prog_9_method_50_code 55 = .ok (.getfield 22, 3)) rfl (by decide +kernel) (gm 924 (by decide +kernel) rfl))))
        (sd_br
         (sd_lf (sd_iload_n (k := 2) (by decide +kernel : decode prog_9_method_50_code 58 = .ok (.iload_n 2, 1))))
         (sd_lf (sd_iaload (by decide +kernel : decode prog_9_method_50_code 59 = .ok (.iaload, 1)))))))
      (sd_br
       (sd_br
        (sd_lf (sd_goto (by decide +kernel : decode prog_9_method_50_code 60 = .ok (.goto 14, 3)) (by decide +kernel)))
        (sd_br
         (sd_lf (sd_aload_n (k := 0) (by decide +kernel : decode prog_9_method_50_code 63 = .ok (.aload_n 0, 1))))
         (sd_lf (sd_getf (q := (RX7, TX7, 16)) (by decide +kernel : decode prog_9_method_50_code 64 = .ok (.getfield 7, 3)) rfl (by decide +kernel) (gm 913 (by decide +kernel) rfl)))))
       (sd_br
        (sd_br
         (sd_lf (sd_iload_n (k := 3) (by decide +kernel : decode prog_9_method_50_code 67 = .ok (.iload_n 3, 1))))
         (sd_lf (sd_bipush (by decide +kernel : decode prog_9_method_50_code 68 = .ok (.bipush 12, 2)) (by decide +kernel))))
        (sd_br
         (sd_lf (sd_pureS (sd_callS (by decide +kernel : decode prog_9_method_50_code 70 = .ok (.invokestatic 44, 3)) ok_Mo_at (gm 993 (by decide +kernel) rfl) (gm 994 (by decide +kernel) rfl) (by decide +kernel) rfl rfl) c_Mo_at))
         (sd_lf (sd_iaload (by decide +kernel : decode prog_9_method_50_code 73 = .ok (.iaload, 1))))))))
     (sd_br
      (sd_br
       (sd_br
        (sd_lf (sd_iastore (by decide +kernel : decode prog_9_method_50_code 74 = .ok (.iastore, 1))))
        (sd_br
         (sd_lf (sd_aload_n (k := 0) (by decide +kernel : decode prog_9_method_50_code 75 = .ok (.aload_n 0, 1))))
         (sd_lf (sd_getf (q := (RX7, TX7, 16)) (by decide +kernel : decode prog_9_method_50_code 76 = .ok (.getfield 25, 3)) rfl (by decide +kernel) (gm 925 (by decide +kernel) rfl)))))
       (sd_br
        (sd_br
         (sd_lf (sd_iload_n (k := 2) (by decide +kernel : decode prog_9_method_50_code 79 = .ok (.iload_n 2, 1))))
         (sd_lf (sd_iload (by decide +kernel : decode prog_9_method_50_code 80 = .ok (.iload 5, 2)))))
        (sd_br
         (sd_lf (sd_if_eq (by decide +kernel : decode prog_9_method_50_code 82 = .ok (.ifCond .eq 16, 3)) (by decide +kernel)))
         (sd_lf (sd_iload (by decide +kernel : decode prog_9_method_50_code 85 = .ok (.iload 7, 2)))))))
      (sd_br
       (sd_br
        (sd_br
         (sd_lf (sd_pureS (sd_callS (by decide +kernel : decode prog_9_method_50_code 87 = .ok (.invokestatic 168, 3)) ok_Mo_isPort (gm 1087 (by decide +kernel) rfl) (gm 1088 (by decide +kernel) rfl) (by decide +kernel) rfl rfl) c_Mo_isPort))
         (sd_lf (sd_if_eq (by decide +kernel : decode prog_9_method_50_code 90 = .ok (.ifCond .eq 8, 3)) (by decide +kernel))))
        (sd_br
         (sd_lf (sd_iload (by decide +kernel : decode prog_9_method_50_code 93 = .ok (.iload 7, 2))))
         (sd_lf (sd_goto (by decide +kernel : decode prog_9_method_50_code 95 = .ok (.goto 5, 3)) (by decide +kernel)))))
       (sd_br
        (sd_br
         (sd_lf (sd_iload (by decide +kernel : decode prog_9_method_50_code 98 = .ok (.iload 6, 2))))
         (sd_lf (sd_iastore (by decide +kernel : decode prog_9_method_50_code 100 = .ok (.iastore, 1)))))
        (sd_br
         (sd_lf (sd_iconst (by decide +kernel : decode prog_9_method_50_code 101 = .ok (.iconst 1, 1)) (by decide +kernel)))
         (sd_lf (sd_zret (by decide +kernel : decode prog_9_method_50_code 102 = .ok (.ireturn, 1)) rfl))))))))
def k_Mo_tries (l : Launch) (G : Gc) (pc : Nat) : Tr :=
  if pc < 48 then
   if pc < 21 then
    if pc < 10 then
     if pc < 5 then
      if pc < 1 then
       if pc = 0 then tz_aload 1 0 else dead
      else
       if pc < 2 then
        if pc = 1 then tz_iload 2 1 else dead
       else
        if pc = 2 then tz_const 5 (.int (nI 500)) else dead
     else
      if pc < 6 then
       if pc = 5 then tz_aload 6 0 else dead
      else
       if pc < 9 then
        if pc = 6 then tz_getf 9 7 12 1 else dead
       else
        if pc = 9 then tz_iload 10 2 else dead
    else
     if pc < 15 then
      if pc < 11 then
       if pc = 10 then tz_iaload 11 else dead
      else
       if pc < 12 then
        if pc = 11 then tz_aload 12 0 else dead
       else
        if pc = 12 then tz_getf 15 7 13 1 else dead
     else
      if pc < 17 then
       if pc < 16 then
        if pc = 15 then tz_iload 16 2 else dead
       else
        if pc = 16 then tz_iaload 17 else dead
      else
       if pc < 20 then
        if pc = 17 then tz_callV l G 20 M_Mo_sends 4 7 else dead
       else
        if pc = 20 then tz_iload 21 3 else dead
   else
    if pc < 35 then
     if pc < 28 then
      if pc < 24 then
       if pc = 21 then tz_icmp 24 88 (fun a b => ¬ a = b) else dead
      else
       if pc < 25 then
        if pc = 24 then tz_aload 25 0 else dead
       else
        if pc = 25 then tz_getf 28 7 1 1 else dead
     else
      if pc < 31 then
       if pc < 29 then
        if pc = 28 then tz_iload 29 3 else dead
       else
        if pc = 29 then tz_const 31 (.int (nI 14)) else dead
      else
       if pc < 34 then
        if pc = 31 then tz_pureS 34 2 P_Mo_at f_Mo_at else dead
       else
        if pc = 34 then tz_iaload 35 else dead
    else
     if pc < 42 then
      if pc < 38 then
       if pc = 35 then tz_const 38 (.int (nI 500)) else dead
      else
       if pc < 41 then
        if pc = 38 then tz_icmp 41 88 (fun a b => ¬ a = b) else dead
       else
        if pc = 41 then tz_aload 42 0 else dead
     else
      if pc < 46 then
       if pc < 45 then
        if pc = 42 then tz_getf 45 7 14 1 else dead
       else
        if pc = 45 then tz_const 46 (.int (nI 1)) else dead
      else
       if pc < 47 then
        if pc = 46 then tz_iload 47 2 else dead
       else
        if pc = 47 then tz_i2 48 (fun a b => a - b) else dead
  else
   if pc < 68 then
    if pc < 56 then
     if pc < 51 then
      if pc < 49 then
       if pc = 48 then tz_const 49 (.int (nI 1)) else dead
      else
       if pc < 50 then
        if pc = 49 then tz_bastore 50 else dead
       else
        if pc = 50 then tz_aload 51 0 else dead
     else
      if pc < 54 then
       if pc = 51 then tz_getf 54 7 12 1 else dead
      else
       if pc < 55 then
        if pc = 54 then tz_const 55 (.int (nI 1)) else dead
       else
        if pc = 55 then tz_iload 56 2 else dead
    else
     if pc < 61 then
      if pc < 57 then
       if pc = 56 then tz_i2 57 (fun a b => a - b) else dead
      else
       if pc < 58 then
        if pc = 57 then tz_aload 58 0 else dead
       else
        if pc = 58 then tz_getf 61 7 1 1 else dead
     else
      if pc < 64 then
       if pc < 62 then
        if pc = 61 then tz_iload 62 3 else dead
       else
        if pc = 62 then tz_const 64 (.int (nI 12)) else dead
      else
       if pc < 67 then
        if pc = 64 then tz_pureS 67 2 P_Mo_at f_Mo_at else dead
       else
        if pc = 67 then tz_iaload 68 else dead
   else
    if pc < 77 then
     if pc < 73 then
      if pc < 69 then
       if pc = 68 then tz_iastore 69 else dead
      else
       if pc < 70 then
        if pc = 69 then tz_aload 70 0 else dead
       else
        if pc = 70 then tz_getf 73 7 13 1 else dead
     else
      if pc < 75 then
       if pc < 74 then
        if pc = 73 then tz_const 74 (.int (nI 1)) else dead
       else
        if pc = 74 then tz_iload 75 2 else dead
      else
       if pc < 76 then
        if pc = 75 then tz_i2 76 (fun a b => a - b) else dead
       else
        if pc = 76 then tz_aload 77 0 else dead
    else
     if pc < 83 then
      if pc < 80 then
       if pc = 77 then tz_getf 80 7 1 1 else dead
      else
       if pc < 81 then
        if pc = 80 then tz_iload 81 3 else dead
       else
        if pc = 81 then tz_const 83 (.int (nI 13)) else dead
     else
      if pc < 87 then
       if pc < 86 then
        if pc = 83 then tz_pureS 86 2 P_Mo_at f_Mo_at else dead
       else
        if pc = 86 then tz_iaload 87 else dead
      else
       if pc < 88 then
        if pc = 87 then tz_iastore 88 else dead
       else
        if pc = 88 then tz_vret else dead
set_option maxRecDepth 100000 in
theorem T_Mo_tries (l : Launch) (G : Gc) : TabOK l G M_Mo_tries (k_Mo_tries l G) := by
  intro pc
  unfold k_Mo_tries
  exact
   (sd_br
    (sd_br
     (sd_br
      (sd_br
       (sd_br
        (sd_lf (sd_aload_n (k := 0) (by decide +kernel : decode prog_9_method_51_code 0 = .ok (.aload_n 0, 1))))
        (sd_br
         (sd_lf (sd_iload_n (k := 1) (by decide +kernel : decode prog_9_method_51_code 1 = .ok (.iload_n 1, 1))))
         (sd_lf (sd_sipush (by decide +kernel : decode prog_9_method_51_code 2 = .ok (.sipush 500, 3)) (by decide +kernel)))))
       (sd_br
        (sd_lf (sd_aload_n (k := 0) (by decide +kernel : decode prog_9_method_51_code 5 = .ok (.aload_n 0, 1))))
        (sd_br
         (sd_lf (sd_getf (q := (RX7, TX7, 16)) (by decide +kernel : decode prog_9_method_51_code 6 = .ok (.getfield 22, 3)) rfl (by decide +kernel) (gm 924 (by decide +kernel) rfl)))
         (sd_lf (sd_iload_n (k := 2) (by decide +kernel : decode prog_9_method_51_code 9 = .ok (.iload_n 2, 1)))))))
      (sd_br
       (sd_br
        (sd_lf (sd_iaload (by decide +kernel : decode prog_9_method_51_code 10 = .ok (.iaload, 1))))
        (sd_br
         (sd_lf (sd_aload_n (k := 0) (by decide +kernel : decode prog_9_method_51_code 11 = .ok (.aload_n 0, 1))))
         (sd_lf (sd_getf (q := (RX7, TX7, 16)) (by decide +kernel : decode prog_9_method_51_code 12 = .ok (.getfield 25, 3)) rfl (by decide +kernel) (gm 925 (by decide +kernel) rfl)))))
       (sd_br
        (sd_br
         (sd_lf (sd_iload_n (k := 2) (by decide +kernel : decode prog_9_method_51_code 15 = .ok (.iload_n 2, 1))))
         (sd_lf (sd_iaload (by decide +kernel : decode prog_9_method_51_code 16 = .ok (.iaload, 1)))))
        (sd_br
         (sd_lf (sd_callV (q := (RX7, TX7, 16)) (by decide +kernel : decode prog_9_method_51_code 17 = .ok (.invokevirtual 174, 3)) ok_Mo_sends (gm 1090 (by decide +kernel) rfl) (gm 1092 (by decide +kernel) rfl) (gm 43 (by decide +kernel) rfl) rfl rfl (by decide +kernel) rfl rfl))
         (sd_lf (sd_iload_n (k := 3) (by decide +kernel : decode prog_9_method_51_code 20 = .ok (.iload_n 3, 1))))))))
     (sd_br
      (sd_br
       (sd_br
        (sd_lf (sd_icmp_ne (by decide +kernel : decode prog_9_method_51_code 21 = .ok (.if_icmp .ne 67, 3)) (by decide +kernel)))
        (sd_br
         (sd_lf (sd_aload_n (k := 0) (by decide +kernel : decode prog_9_method_51_code 24 = .ok (.aload_n 0, 1))))
         (sd_lf (sd_getf (q := (RX7, TX7, 16)) (by decide +kernel : decode prog_9_method_51_code 25 = .ok (.getfield 7, 3)) rfl (by decide +kernel) (gm 913 (by decide +kernel) rfl)))))
       (sd_br
        (sd_br
         (sd_lf (sd_iload_n (k := 3) (by decide +kernel : decode prog_9_method_51_code 28 = .ok (.iload_n 3, 1))))
         (sd_lf (sd_bipush (by decide +kernel : decode prog_9_method_51_code 29 = .ok (.bipush 14, 2)) (by decide +kernel))))
        (sd_br
         (sd_lf (sd_pureS (sd_callS (by decide +kernel : decode prog_9_method_51_code 31 = .ok (.invokestatic 44, 3)) ok_Mo_at (gm 993 (by decide +kernel) rfl) (gm 994 (by decide +kernel) rfl) (by decide +kernel) rfl rfl) c_Mo_at))
         (sd_lf (sd_iaload (by decide +kernel : decode prog_9_method_51_code 34 = .ok (.iaload, 1)))))))
      (sd_br
       (sd_br
        (sd_lf (sd_sipush (by decide +kernel : decode prog_9_method_51_code 35 = .ok (.sipush 500, 3)) (by decide +kernel)))
        (sd_br
         (sd_lf (sd_icmp_ne (by decide +kernel : decode prog_9_method_51_code 38 = .ok (.if_icmp .ne 50, 3)) (by decide +kernel)))
         (sd_lf (sd_aload_n (k := 0) (by decide +kernel : decode prog_9_method_51_code 41 = .ok (.aload_n 0, 1))))))
       (sd_br
        (sd_br
         (sd_lf (sd_getf (q := (RX7, TX7, 16)) (by decide +kernel : decode prog_9_method_51_code 42 = .ok (.getfield 28, 3)) rfl (by decide +kernel) (gm 926 (by decide +kernel) rfl)))
         (sd_lf (sd_iconst (by decide +kernel : decode prog_9_method_51_code 45 = .ok (.iconst 1, 1)) (by decide +kernel))))
        (sd_br
         (sd_lf (sd_iload_n (k := 2) (by decide +kernel : decode prog_9_method_51_code 46 = .ok (.iload_n 2, 1))))
         (sd_lf (sd_isub (by decide +kernel : decode prog_9_method_51_code 47 = .ok (.isub, 1)))))))))
    (sd_br
     (sd_br
      (sd_br
       (sd_br
        (sd_lf (sd_iconst (by decide +kernel : decode prog_9_method_51_code 48 = .ok (.iconst 1, 1)) (by decide +kernel)))
        (sd_br
         (sd_lf (sd_bastore (by decide +kernel : decode prog_9_method_51_code 49 = .ok (.bastore, 1))))
         (sd_lf (sd_aload_n (k := 0) (by decide +kernel : decode prog_9_method_51_code 50 = .ok (.aload_n 0, 1))))))
       (sd_br
        (sd_lf (sd_getf (q := (RX7, TX7, 16)) (by decide +kernel : decode prog_9_method_51_code 51 = .ok (.getfield 22, 3)) rfl (by decide +kernel) (gm 924 (by decide +kernel) rfl)))
        (sd_br
         (sd_lf (sd_iconst (by decide +kernel : decode prog_9_method_51_code 54 = .ok (.iconst 1, 1)) (by decide +kernel)))
         (sd_lf (sd_iload_n (k := 2) (by decide +kernel : decode prog_9_method_51_code 55 = .ok (.iload_n 2, 1)))))))
      (sd_br
       (sd_br
        (sd_lf (sd_isub (by decide +kernel : decode prog_9_method_51_code 56 = .ok (.isub, 1))))
        (sd_br
         (sd_lf (sd_aload_n (k := 0) (by decide +kernel : decode prog_9_method_51_code 57 = .ok (.aload_n 0, 1))))
         (sd_lf (sd_getf (q := (RX7, TX7, 16)) (by decide +kernel : decode prog_9_method_51_code 58 = .ok (.getfield 7, 3)) rfl (by decide +kernel) (gm 913 (by decide +kernel) rfl)))))
       (sd_br
        (sd_br
         (sd_lf (sd_iload_n (k := 3) (by decide +kernel : decode prog_9_method_51_code 61 = .ok (.iload_n 3, 1))))
         (sd_lf (sd_bipush (by decide +kernel : decode prog_9_method_51_code 62 = .ok (.bipush 12, 2)) (by decide +kernel))))
        (sd_br
         (sd_lf (sd_pureS (sd_callS (by decide +kernel : decode prog_9_method_51_code 64 = .ok (.invokestatic 44, 3)) ok_Mo_at (gm 993 (by decide +kernel) rfl) (gm 994 (by decide +kernel) rfl) (by decide +kernel) rfl rfl) c_Mo_at))
         (sd_lf (sd_iaload (by decide +kernel : decode prog_9_method_51_code 67 = .ok (.iaload, 1))))))))
     (sd_br
      (sd_br
       (sd_br
        (sd_lf (sd_iastore (by decide +kernel : decode prog_9_method_51_code 68 = .ok (.iastore, 1))))
        (sd_br
         (sd_lf (sd_aload_n (k := 0) (by decide +kernel : decode prog_9_method_51_code 69 = .ok (.aload_n 0, 1))))
         (sd_lf (sd_getf (q := (RX7, TX7, 16)) (by decide +kernel : decode prog_9_method_51_code 70 = .ok (.getfield 25, 3)) rfl (by decide +kernel) (gm 925 (by decide +kernel) rfl)))))
       (sd_br
        (sd_br
         (sd_lf (sd_iconst (by decide +kernel : decode prog_9_method_51_code 73 = .ok (.iconst 1, 1)) (by decide +kernel)))
         (sd_lf (sd_iload_n (k := 2) (by decide +kernel : decode prog_9_method_51_code 74 = .ok (.iload_n 2, 1)))))
        (sd_br
         (sd_lf (sd_isub (by decide +kernel : decode prog_9_method_51_code 75 = .ok (.isub, 1))))
         (sd_lf (sd_aload_n (k := 0) (by decide +kernel : decode prog_9_method_51_code 76 = .ok (.aload_n 0, 1)))))))
      (sd_br
       (sd_br
        (sd_lf (sd_getf (q := (RX7, TX7, 16)) (by decide +kernel : decode prog_9_method_51_code 77 = .ok (.getfield 7, 3)) rfl (by decide +kernel) (gm 913 (by decide +kernel) rfl)))
        (sd_br
         (sd_lf (sd_iload_n (k := 3) (by decide +kernel : decode prog_9_method_51_code 80 = .ok (.iload_n 3, 1))))
         (sd_lf (sd_bipush (by decide +kernel : decode prog_9_method_51_code 81 = .ok (.bipush 13, 2)) (by decide +kernel)))))
       (sd_br
        (sd_br
         (sd_lf (sd_pureS (sd_callS (by decide +kernel : decode prog_9_method_51_code 83 = .ok (.invokestatic 44, 3)) ok_Mo_at (gm 993 (by decide +kernel) rfl) (gm 994 (by decide +kernel) rfl) (by decide +kernel) rfl rfl) c_Mo_at))
         (sd_lf (sd_iaload (by decide +kernel : decode prog_9_method_51_code 86 = .ok (.iaload, 1)))))
        (sd_br
         (sd_lf (sd_iastore (by decide +kernel : decode prog_9_method_51_code 87 = .ok (.iastore, 1))))
         (sd_lf (sd_vret (by decide +kernel : decode prog_9_method_51_code 88 = .ok (.return_, 1)) rfl))))))))
def k_Mo_punches (l : Launch) (G : Gc) (pc : Nat) : Tr :=
  if pc < 84 then
   if pc < 42 then
    if pc < 16 then
     if pc < 6 then
      if pc < 3 then
       if pc < 1 then
        if pc = 0 then tz_aload 1 0 else dead
       else
        if pc < 2 then
         if pc = 1 then tz_iload 2 1 else dead
        else
         if pc = 2 then tz_const 3 (.int (nI 1)) else dead
      else
       if pc < 4 then
        if pc = 3 then tz_iload 4 3 else dead
       else
        if pc < 5 then
         if pc = 4 then tz_const 5 (.int (nI 1)) else dead
        else
         if pc = 5 then tz_const 6 (.int (nI 0)) else dead
     else
      if pc < 13 then
       if pc < 9 then
        if pc = 6 then tz_callV l G 9 M_Mo_shows 5 7 else dead
       else
        if pc < 12 then
         if pc = 9 then tz_if 12 28 (fun a => a = 0) else dead
        else
         if pc = 12 then tz_aload 13 0 else dead
      else
       if pc < 14 then
        if pc = 13 then tz_iload 14 2 else dead
       else
        if pc < 15 then
         if pc = 14 then tz_const 15 (.int (nI 0)) else dead
        else
         if pc = 15 then tz_iload 16 3 else dead
    else
     if pc < 28 then
      if pc < 21 then
       if pc < 17 then
        if pc = 16 then tz_const 17 (.int (nI 1)) else dead
       else
        if pc < 18 then
         if pc = 17 then tz_const 18 (.int (nI 0)) else dead
        else
         if pc = 18 then tz_callV l G 21 M_Mo_shows 5 7 else dead
      else
       if pc < 24 then
        if pc = 21 then tz_if 24 28 (fun a => a = 0) else dead
       else
        if pc < 25 then
         if pc = 24 then tz_const 25 (.int (nI 1)) else dead
        else
         if pc = 25 then tz_goto 29 else dead
     else
      if pc < 33 then
       if pc < 29 then
        if pc = 28 then tz_const 29 (.int (nI 0)) else dead
       else
        if pc < 31 then
         if pc = 29 then tz_istore 31 5 else dead
        else
         if pc = 31 then tz_iload 33 5 else dead
      else
       if pc < 38 then
        if pc < 36 then
         if pc = 33 then tz_if 36 69 (fun a => a = 0) else dead
        else
         if pc = 36 then tz_iload 38 4 else dead
       else
        if pc < 41 then
         if pc = 38 then tz_if 41 65 (fun a => a = 0) else dead
        else
         if pc = 41 then tz_aload 42 0 else dead
   else
    if pc < 59 then
     if pc < 50 then
      if pc < 45 then
       if pc < 43 then
        if pc = 42 then tz_iload 43 1 else dead
       else
        if pc < 44 then
         if pc = 43 then tz_const 44 (.int (nI 1)) else dead
        else
         if pc = 44 then tz_iload 45 3 else dead
      else
       if pc < 46 then
        if pc = 45 then tz_const 46 (.int (nI 2)) else dead
       else
        if pc < 47 then
         if pc = 46 then tz_const 47 (.int (nI 1)) else dead
        else
         if pc = 47 then tz_callV l G 50 M_Mo_shows 5 7 else dead
     else
      if pc < 55 then
       if pc < 53 then
        if pc = 50 then tz_if 53 69 (fun a => a = 0) else dead
       else
        if pc < 54 then
         if pc = 53 then tz_aload 54 0 else dead
        else
         if pc = 54 then tz_iload 55 2 else dead
      else
       if pc < 57 then
        if pc < 56 then
         if pc = 55 then tz_const 56 (.int (nI 0)) else dead
        else
         if pc = 56 then tz_iload 57 3 else dead
       else
        if pc < 58 then
         if pc = 57 then tz_const 58 (.int (nI 2)) else dead
        else
         if pc = 58 then tz_const 59 (.int (nI 1)) else dead
    else
     if pc < 72 then
      if pc < 66 then
       if pc < 62 then
        if pc = 59 then tz_callV l G 62 M_Mo_shows 5 7 else dead
       else
        if pc < 65 then
         if pc = 62 then tz_if 65 69 (fun a => a = 0) else dead
        else
         if pc = 65 then tz_const 66 (.int (nI 1)) else dead
      else
       if pc < 69 then
        if pc = 66 then tz_goto 70 else dead
       else
        if pc < 70 then
         if pc = 69 then tz_const 70 (.int (nI 0)) else dead
        else
         if pc = 70 then tz_istore 72 5 else dead
     else
      if pc < 78 then
       if pc < 74 then
        if pc = 72 then tz_iload 74 5 else dead
       else
        if pc < 77 then
         if pc = 74 then tz_if 77 79 (fun a => ¬ a = 0) else dead
        else
         if pc = 77 then tz_const 78 (.int (nI 0)) else dead
      else
       if pc < 80 then
        if pc < 79 then
         if pc = 78 then tz_iret else dead
        else
         if pc = 79 then tz_aload 80 0 else dead
       else
        if pc < 83 then
         if pc = 80 then tz_getf 83 7 14 1 else dead
        else
         if pc = 83 then tz_const 84 (.int (nI 0)) else dead
  else
   if pc < 124 then
    if pc < 103 then
     if pc < 92 then
      if pc < 87 then
       if pc < 85 then
        if pc = 84 then tz_const 85 (.int (nI 0)) else dead
       else
        if pc < 86 then
         if pc = 85 then tz_bastore 86 else dead
        else
         if pc = 86 then tz_aload 87 0 else dead
      else
       if pc < 90 then
        if pc = 87 then tz_getf 90 7 14 1 else dead
       else
        if pc < 91 then
         if pc = 90 then tz_const 91 (.int (nI 1)) else dead
        else
         if pc = 91 then tz_const 92 (.int (nI 0)) else dead
     else
      if pc < 96 then
       if pc < 93 then
        if pc = 92 then tz_bastore 93 else dead
       else
        if pc < 94 then
         if pc = 93 then tz_const 94 (.int (nI 0)) else dead
        else
         if pc = 94 then tz_istore 96 6 else dead
      else
       if pc < 99 then
        if pc < 98 then
         if pc = 96 then tz_iload 98 6 else dead
        else
         if pc = 98 then tz_const 99 (.int (nI 5)) else dead
       else
        if pc < 102 then
         if pc = 99 then tz_icmp 102 146 (fun a b => b ≤ a) else dead
        else
         if pc = 102 then tz_aload 103 0 else dead
    else
     if pc < 115 then
      if pc < 108 then
       if pc < 106 then
        if pc = 103 then tz_getf 106 7 14 1 else dead
       else
        if pc < 107 then
         if pc = 106 then tz_const 107 (.int (nI 0)) else dead
        else
         if pc = 107 then tz_baload 108 else dead
      else
       if pc < 111 then
        if pc = 108 then tz_if 111 120 (fun a => a = 0) else dead
       else
        if pc < 112 then
         if pc = 111 then tz_aload 112 0 else dead
        else
         if pc = 112 then tz_getf 115 7 14 1 else dead
     else
      if pc < 120 then
       if pc < 116 then
        if pc = 115 then tz_const 116 (.int (nI 1)) else dead
       else
        if pc < 117 then
         if pc = 116 then tz_baload 117 else dead
        else
         if pc = 117 then tz_if 120 146 (fun a => ¬ a = 0) else dead
      else
       if pc < 122 then
        if pc < 121 then
         if pc = 120 then tz_aload 121 0 else dead
        else
         if pc = 121 then tz_iload 122 1 else dead
       else
        if pc < 123 then
         if pc = 122 then tz_const 123 (.int (nI 0)) else dead
        else
         if pc = 123 then tz_iload 124 2 else dead
   else
    if pc < 147 then
     if pc < 134 then
      if pc < 129 then
       if pc < 127 then
        if pc = 124 then tz_callV l G 127 M_Mo_tries 3 7 else dead
       else
        if pc < 128 then
         if pc = 127 then tz_aload 128 0 else dead
        else
         if pc = 128 then tz_iload 129 2 else dead
      else
       if pc < 130 then
        if pc = 129 then tz_const 130 (.int (nI 1)) else dead
       else
        if pc < 131 then
         if pc = 130 then tz_iload 131 1 else dead
        else
         if pc = 131 then tz_callV l G 134 M_Mo_tries 3 7 else dead
     else
      if pc < 139 then
       if pc < 135 then
        if pc = 134 then tz_aload 135 0 else dead
       else
        if pc < 136 then
         if pc = 135 then tz_const 136 (.int (nI 1)) else dead
        else
         if pc = 136 then tz_callV l G 139 M_Mo_passes 1 7 else dead
      else
       if pc < 143 then
        if pc < 140 then
         if pc = 139 then tz_pop 140 else dead
        else
         if pc = 140 then tz_iinc 143 6 (nI 1) else dead
       else
        if pc < 146 then
         if pc = 143 then tz_goto 96 else dead
        else
         if pc = 146 then tz_aload 147 0 else dead
    else
     if pc < 159 then
      if pc < 152 then
       if pc < 150 then
        if pc = 147 then tz_getf 150 7 14 1 else dead
       else
        if pc < 151 then
         if pc = 150 then tz_const 151 (.int (nI 0)) else dead
        else
         if pc = 151 then tz_baload 152 else dead
      else
       if pc < 155 then
        if pc = 152 then tz_if 155 169 (fun a => a = 0) else dead
       else
        if pc < 156 then
         if pc = 155 then tz_aload 156 0 else dead
        else
         if pc = 156 then tz_getf 159 7 14 1 else dead
     else
      if pc < 164 then
       if pc < 160 then
        if pc = 159 then tz_const 160 (.int (nI 1)) else dead
       else
        if pc < 161 then
         if pc = 160 then tz_baload 161 else dead
        else
         if pc = 161 then tz_if 164 169 (fun a => a = 0) else dead
      else
       if pc < 169 then
        if pc < 166 then
         if pc = 164 then tz_iload 166 6 else dead
        else
         if pc = 166 then tz_goto 170 else dead
       else
        if pc < 170 then
         if pc = 169 then tz_const 170 (.int (nN)) else dead
        else
         if pc = 170 then tz_iret else dead
set_option maxRecDepth 100000 in
theorem T_Mo_punches (l : Launch) (G : Gc) : TabOK l G M_Mo_punches (k_Mo_punches l G) := by
  intro pc
  unfold k_Mo_punches
  exact
   (sd_br
    (sd_br
     (sd_br
      (sd_br
       (sd_br
        (sd_br
         (sd_lf (sd_aload_n (k := 0) (by decide +kernel : decode prog_9_method_52_code 0 = .ok (.aload_n 0, 1))))
         (sd_br
          (sd_lf (sd_iload_n (k := 1) (by decide +kernel : decode prog_9_method_52_code 1 = .ok (.iload_n 1, 1))))
          (sd_lf (sd_iconst (by decide +kernel : decode prog_9_method_52_code 2 = .ok (.iconst 1, 1)) (by decide +kernel)))))
        (sd_br
         (sd_lf (sd_iload_n (k := 3) (by decide +kernel : decode prog_9_method_52_code 3 = .ok (.iload_n 3, 1))))
         (sd_br
          (sd_lf (sd_iconst (by decide +kernel : decode prog_9_method_52_code 4 = .ok (.iconst 1, 1)) (by decide +kernel)))
          (sd_lf (sd_iconst (by decide +kernel : decode prog_9_method_52_code 5 = .ok (.iconst 0, 1)) (by decide +kernel))))))
       (sd_br
        (sd_br
         (sd_lf (sd_callV (q := (RX7, TX7, 16)) (by decide +kernel : decode prog_9_method_52_code 6 = .ok (.invokevirtual 177, 3)) ok_Mo_shows (gm 1163 (by decide +kernel) rfl) (gm 1165 (by decide +kernel) rfl) (gm 57 (by decide +kernel) rfl) rfl rfl (by decide +kernel) rfl rfl))
         (sd_br
          (sd_lf (sd_if_eq (by decide +kernel : decode prog_9_method_52_code 9 = .ok (.ifCond .eq 19, 3)) (by decide +kernel)))
          (sd_lf (sd_aload_n (k := 0) (by decide +kernel : decode prog_9_method_52_code 12 = .ok (.aload_n 0, 1))))))
        (sd_br
         (sd_lf (sd_iload_n (k := 2) (by decide +kernel : decode prog_9_method_52_code 13 = .ok (.iload_n 2, 1))))
         (sd_br
          (sd_lf (sd_iconst (by decide +kernel : decode prog_9_method_52_code 14 = .ok (.iconst 0, 1)) (by decide +kernel)))
          (sd_lf (sd_iload_n (k := 3) (by decide +kernel : decode prog_9_method_52_code 15 = .ok (.iload_n 3, 1))))))))
      (sd_br
       (sd_br
        (sd_br
         (sd_lf (sd_iconst (by decide +kernel : decode prog_9_method_52_code 16 = .ok (.iconst 1, 1)) (by decide +kernel)))
         (sd_br
          (sd_lf (sd_iconst (by decide +kernel : decode prog_9_method_52_code 17 = .ok (.iconst 0, 1)) (by decide +kernel)))
          (sd_lf (sd_callV (q := (RX7, TX7, 16)) (by decide +kernel : decode prog_9_method_52_code 18 = .ok (.invokevirtual 177, 3)) ok_Mo_shows (gm 1163 (by decide +kernel) rfl) (gm 1165 (by decide +kernel) rfl) (gm 57 (by decide +kernel) rfl) rfl rfl (by decide +kernel) rfl rfl))))
        (sd_br
         (sd_lf (sd_if_eq (by decide +kernel : decode prog_9_method_52_code 21 = .ok (.ifCond .eq 7, 3)) (by decide +kernel)))
         (sd_br
          (sd_lf (sd_iconst (by decide +kernel : decode prog_9_method_52_code 24 = .ok (.iconst 1, 1)) (by decide +kernel)))
          (sd_lf (sd_goto (by decide +kernel : decode prog_9_method_52_code 25 = .ok (.goto 4, 3)) (by decide +kernel))))))
       (sd_br
        (sd_br
         (sd_lf (sd_iconst (by decide +kernel : decode prog_9_method_52_code 28 = .ok (.iconst 0, 1)) (by decide +kernel)))
         (sd_br
          (sd_lf (sd_istore (by decide +kernel : decode prog_9_method_52_code 29 = .ok (.istore 5, 2))))
          (sd_lf (sd_iload (by decide +kernel : decode prog_9_method_52_code 31 = .ok (.iload 5, 2))))))
        (sd_br
         (sd_br
          (sd_lf (sd_if_eq (by decide +kernel : decode prog_9_method_52_code 33 = .ok (.ifCond .eq 36, 3)) (by decide +kernel)))
          (sd_lf (sd_iload (by decide +kernel : decode prog_9_method_52_code 36 = .ok (.iload 4, 2)))))
         (sd_br
          (sd_lf (sd_if_eq (by decide +kernel : decode prog_9_method_52_code 38 = .ok (.ifCond .eq 27, 3)) (by decide +kernel)))
          (sd_lf (sd_aload_n (k := 0) (by decide +kernel : decode prog_9_method_52_code 41 = .ok (.aload_n 0, 1)))))))))
     (sd_br
      (sd_br
       (sd_br
        (sd_br
         (sd_lf (sd_iload_n (k := 1) (by decide +kernel : decode prog_9_method_52_code 42 = .ok (.iload_n 1, 1))))
         (sd_br
          (sd_lf (sd_iconst (by decide +kernel : decode prog_9_method_52_code 43 = .ok (.iconst 1, 1)) (by decide +kernel)))
          (sd_lf (sd_iload_n (k := 3) (by decide +kernel : decode prog_9_method_52_code 44 = .ok (.iload_n 3, 1))))))
        (sd_br
         (sd_lf (sd_iconst (by decide +kernel : decode prog_9_method_52_code 45 = .ok (.iconst 2, 1)) (by decide +kernel)))
         (sd_br
          (sd_lf (sd_iconst (by decide +kernel : decode prog_9_method_52_code 46 = .ok (.iconst 1, 1)) (by decide +kernel)))
          (sd_lf (sd_callV (q := (RX7, TX7, 16)) (by decide +kernel : decode prog_9_method_52_code 47 = .ok (.invokevirtual 177, 3)) ok_Mo_shows (gm 1163 (by decide +kernel) rfl) (gm 1165 (by decide +kernel) rfl) (gm 57 (by decide +kernel) rfl) rfl rfl (by decide +kernel) rfl rfl)))))
       (sd_br
        (sd_br
         (sd_lf (sd_if_eq (by decide +kernel : decode prog_9_method_52_code 50 = .ok (.ifCond .eq 19, 3)) (by decide +kernel)))
         (sd_br
          (sd_lf (sd_aload_n (k := 0) (by decide +kernel : decode prog_9_method_52_code 53 = .ok (.aload_n 0, 1))))
          (sd_lf (sd_iload_n (k := 2) (by decide +kernel : decode prog_9_method_52_code 54 = .ok (.iload_n 2, 1))))))
        (sd_br
         (sd_br
          (sd_lf (sd_iconst (by decide +kernel : decode prog_9_method_52_code 55 = .ok (.iconst 0, 1)) (by decide +kernel)))
          (sd_lf (sd_iload_n (k := 3) (by decide +kernel : decode prog_9_method_52_code 56 = .ok (.iload_n 3, 1)))))
         (sd_br
          (sd_lf (sd_iconst (by decide +kernel : decode prog_9_method_52_code 57 = .ok (.iconst 2, 1)) (by decide +kernel)))
          (sd_lf (sd_iconst (by decide +kernel : decode prog_9_method_52_code 58 = .ok (.iconst 1, 1)) (by decide +kernel)))))))
      (sd_br
       (sd_br
        (sd_br
         (sd_lf (sd_callV (q := (RX7, TX7, 16)) (by decide +kernel : decode prog_9_method_52_code 59 = .ok (.invokevirtual 177, 3)) ok_Mo_shows (gm 1163 (by decide +kernel) rfl) (gm 1165 (by decide +kernel) rfl) (gm 57 (by decide +kernel) rfl) rfl rfl (by decide +kernel) rfl rfl))
         (sd_br
          (sd_lf (sd_if_eq (by decide +kernel : decode prog_9_method_52_code 62 = .ok (.ifCond .eq 7, 3)) (by decide +kernel)))
          (sd_lf (sd_iconst (by decide +kernel : decode prog_9_method_52_code 65 = .ok (.iconst 1, 1)) (by decide +kernel)))))
        (sd_br
         (sd_lf (sd_goto (by decide +kernel : decode prog_9_method_52_code 66 = .ok (.goto 4, 3)) (by decide +kernel)))
         (sd_br
          (sd_lf (sd_iconst (by decide +kernel : decode prog_9_method_52_code 69 = .ok (.iconst 0, 1)) (by decide +kernel)))
          (sd_lf (sd_istore (by decide +kernel : decode prog_9_method_52_code 70 = .ok (.istore 5, 2)))))))
       (sd_br
        (sd_br
         (sd_lf (sd_iload (by decide +kernel : decode prog_9_method_52_code 72 = .ok (.iload 5, 2))))
         (sd_br
          (sd_lf (sd_if_ne (by decide +kernel : decode prog_9_method_52_code 74 = .ok (.ifCond .ne 5, 3)) (by decide +kernel)))
          (sd_lf (sd_iconst (by decide +kernel : decode prog_9_method_52_code 77 = .ok (.iconst 0, 1)) (by decide +kernel)))))
        (sd_br
         (sd_br
          (sd_lf (sd_iret (by decide +kernel : decode prog_9_method_52_code 78 = .ok (.ireturn, 1)) rfl))
          (sd_lf (sd_aload_n (k := 0) (by decide +kernel : decode prog_9_method_52_code 79 = .ok (.aload_n 0, 1)))))
         (sd_br
          (sd_lf (sd_getf (q := (RX7, TX7, 16)) (by decide +kernel : decode prog_9_method_52_code 80 = .ok (.getfield 28, 3)) rfl (by decide +kernel) (gm 926 (by decide +kernel) rfl)))
          (sd_lf (sd_iconst (by decide +kernel : decode prog_9_method_52_code 83 = .ok (.iconst 0, 1)) (by decide +kernel)))))))))
    (sd_br
     (sd_br
      (sd_br
       (sd_br
        (sd_br
         (sd_lf (sd_iconst (by decide +kernel : decode prog_9_method_52_code 84 = .ok (.iconst 0, 1)) (by decide +kernel)))
         (sd_br
          (sd_lf (sd_bastore (by decide +kernel : decode prog_9_method_52_code 85 = .ok (.bastore, 1))))
          (sd_lf (sd_aload_n (k := 0) (by decide +kernel : decode prog_9_method_52_code 86 = .ok (.aload_n 0, 1))))))
        (sd_br
         (sd_lf (sd_getf (q := (RX7, TX7, 16)) (by decide +kernel : decode prog_9_method_52_code 87 = .ok (.getfield 28, 3)) rfl (by decide +kernel) (gm 926 (by decide +kernel) rfl)))
         (sd_br
          (sd_lf (sd_iconst (by decide +kernel : decode prog_9_method_52_code 90 = .ok (.iconst 1, 1)) (by decide +kernel)))
          (sd_lf (sd_iconst (by decide +kernel : decode prog_9_method_52_code 91 = .ok (.iconst 0, 1)) (by decide +kernel))))))
       (sd_br
        (sd_br
         (sd_lf (sd_bastore (by decide +kernel : decode prog_9_method_52_code 92 = .ok (.bastore, 1))))
         (sd_br
          (sd_lf (sd_iconst (by decide +kernel : decode prog_9_method_52_code 93 = .ok (.iconst 0, 1)) (by decide +kernel)))
          (sd_lf (sd_istore (by decide +kernel : decode prog_9_method_52_code 94 = .ok (.istore 6, 2))))))
        (sd_br
         (sd_br
          (sd_lf (sd_iload (by decide +kernel : decode prog_9_method_52_code 96 = .ok (.iload 6, 2))))
          (sd_lf (sd_iconst (by decide +kernel : decode prog_9_method_52_code 98 = .ok (.iconst 5, 1)) (by decide +kernel))))
         (sd_br
          (sd_lf (sd_icmp_ge (by decide +kernel : decode prog_9_method_52_code 99 = .ok (.if_icmp .ge 47, 3)) (by decide +kernel)))
          (sd_lf (sd_aload_n (k := 0) (by decide +kernel : decode prog_9_method_52_code 102 = .ok (.aload_n 0, 1))))))))
      (sd_br
       (sd_br
        (sd_br
         (sd_lf (sd_getf (q := (RX7, TX7, 16)) (by decide +kernel : decode prog_9_method_52_code 103 = .ok (.getfield 28, 3)) rfl (by decide +kernel) (gm 926 (by decide +kernel) rfl)))
         (sd_br
          (sd_lf (sd_iconst (by decide +kernel : decode prog_9_method_52_code 106 = .ok (.iconst 0, 1)) (by decide +kernel)))
          (sd_lf (sd_baload (by decide +kernel : decode prog_9_method_52_code 107 = .ok (.baload, 1))))))
        (sd_br
         (sd_lf (sd_if_eq (by decide +kernel : decode prog_9_method_52_code 108 = .ok (.ifCond .eq 12, 3)) (by decide +kernel)))
         (sd_br
          (sd_lf (sd_aload_n (k := 0) (by decide +kernel : decode prog_9_method_52_code 111 = .ok (.aload_n 0, 1))))
          (sd_lf (sd_getf (q := (RX7, TX7, 16)) (by decide +kernel : decode prog_9_method_52_code 112 = .ok (.getfield 28, 3)) rfl (by decide +kernel) (gm 926 (by decide +kernel) rfl))))))
       (sd_br
        (sd_br
         (sd_lf (sd_iconst (by decide +kernel : decode prog_9_method_52_code 115 = .ok (.iconst 1, 1)) (by decide +kernel)))
         (sd_br
          (sd_lf (sd_baload (by decide +kernel : decode prog_9_method_52_code 116 = .ok (.baload, 1))))
          (sd_lf (sd_if_ne (by decide +kernel : decode prog_9_method_52_code 117 = .ok (.ifCond .ne 29, 3)) (by decide +kernel)))))
        (sd_br
         (sd_br
          (sd_lf (sd_aload_n (k := 0) (by decide +kernel : decode prog_9_method_52_code 120 = .ok (.aload_n 0, 1))))
          (sd_lf (sd_iload_n (k := 1) (by decide +kernel : decode prog_9_method_52_code 121 = .ok (.iload_n 1, 1)))))
         (sd_br
          (sd_lf (sd_iconst (by decide +kernel : decode prog_9_method_52_code 122 = .ok (.iconst 0, 1)) (by decide +kernel)))
          (sd_lf (sd_iload_n (k := 2) (by decide +kernel : decode prog_9_method_52_code 123 = .ok (.iload_n 2, 1)))))))))
     (sd_br
      (sd_br
       (sd_br
        (sd_br
         (sd_lf (sd_callV (q := (RX7, TX7, 16)) (by decide +kernel : decode prog_9_method_52_code 124 = .ok (.invokevirtual 181, 3)) ok_Mo_tries (gm 1167 (by decide +kernel) rfl) (gm 1169 (by decide +kernel) rfl) (gm 58 (by decide +kernel) rfl) rfl rfl (by decide +kernel) rfl rfl))
         (sd_br
          (sd_lf (sd_aload_n (k := 0) (by decide +kernel : decode prog_9_method_52_code 127 = .ok (.aload_n 0, 1))))
          (sd_lf (sd_iload_n (k := 2) (by decide +kernel : decode prog_9_method_52_code 128 = .ok (.iload_n 2, 1))))))
        (sd_br
         (sd_lf (sd_iconst (by decide +kernel : decode prog_9_method_52_code 129 = .ok (.iconst 1, 1)) (by decide +kernel)))
         (sd_br
          (sd_lf (sd_iload_n (k := 1) (by decide +kernel : decode prog_9_method_52_code 130 = .ok (.iload_n 1, 1))))
          (sd_lf (sd_callV (q := (RX7, TX7, 16)) (by decide +kernel : decode prog_9_method_52_code 131 = .ok (.invokevirtual 181, 3)) ok_Mo_tries (gm 1167 (by decide +kernel) rfl) (gm 1169 (by decide +kernel) rfl) (gm 58 (by decide +kernel) rfl) rfl rfl (by decide +kernel) rfl rfl)))))
       (sd_br
        (sd_br
         (sd_lf (sd_aload_n (k := 0) (by decide +kernel : decode prog_9_method_52_code 134 = .ok (.aload_n 0, 1))))
         (sd_br
          (sd_lf (sd_iconst (by decide +kernel : decode prog_9_method_52_code 135 = .ok (.iconst 1, 1)) (by decide +kernel)))
          (sd_lf (sd_callV (q := (RX7, TX7, 16)) (by decide +kernel : decode prog_9_method_52_code 136 = .ok (.invokevirtual 88, 3)) ok_Mo_passes (gm 1035 (by decide +kernel) rfl) (gm 1037 (by decide +kernel) rfl) (gm 37 (by decide +kernel) rfl) rfl rfl (by decide +kernel) rfl rfl))))
        (sd_br
         (sd_br
          (sd_lf (sd_pop (by decide +kernel : decode prog_9_method_52_code 139 = .ok (.pop, 1))))
          (sd_lf (sd_iinc (by decide +kernel : decode prog_9_method_52_code 140 = .ok (.iinc 6 1, 3)) (by decide +kernel))))
         (sd_br
          (sd_lf (sd_goto (by decide +kernel : decode prog_9_method_52_code 143 = .ok (.goto (-47), 3)) (by decide +kernel)))
          (sd_lf (sd_aload_n (k := 0) (by decide +kernel : decode prog_9_method_52_code 146 = .ok (.aload_n 0, 1))))))))
      (sd_br
       (sd_br
        (sd_br
         (sd_lf (sd_getf (q := (RX7, TX7, 16)) (by decide +kernel : decode prog_9_method_52_code 147 = .ok (.getfield 28, 3)) rfl (by decide +kernel) (gm 926 (by decide +kernel) rfl)))
         (sd_br
          (sd_lf (sd_iconst (by decide +kernel : decode prog_9_method_52_code 150 = .ok (.iconst 0, 1)) (by decide +kernel)))
          (sd_lf (sd_baload (by decide +kernel : decode prog_9_method_52_code 151 = .ok (.baload, 1))))))
        (sd_br
         (sd_lf (sd_if_eq (by decide +kernel : decode prog_9_method_52_code 152 = .ok (.ifCond .eq 17, 3)) (by decide +kernel)))
         (sd_br
          (sd_lf (sd_aload_n (k := 0) (by decide +kernel : decode prog_9_method_52_code 155 = .ok (.aload_n 0, 1))))
          (sd_lf (sd_getf (q := (RX7, TX7, 16)) (by decide +kernel : decode prog_9_method_52_code 156 = .ok (.getfield 28, 3)) rfl (by decide +kernel) (gm 926 (by decide +kernel) rfl))))))
       (sd_br
        (sd_br
         (sd_lf (sd_iconst (by decide +kernel : decode prog_9_method_52_code 159 = .ok (.iconst 1, 1)) (by decide +kernel)))
         (sd_br
          (sd_lf (sd_baload (by decide +kernel : decode prog_9_method_52_code 160 = .ok (.baload, 1))))
          (sd_lf (sd_if_eq (by decide +kernel : decode prog_9_method_52_code 161 = .ok (.ifCond .eq 8, 3)) (by decide +kernel)))))
        (sd_br
         (sd_br
          (sd_lf (sd_iload (by decide +kernel : decode prog_9_method_52_code 164 = .ok (.iload 6, 2))))
          (sd_lf (sd_goto (by decide +kernel : decode prog_9_method_52_code 166 = .ok (.goto 4, 3)) (by decide +kernel))))
         (sd_br
          (sd_lf (sd_iconst (by decide +kernel : decode prog_9_method_52_code 169 = .ok (.iconst (-1), 1)) (by decide +kernel)))
          (sd_lf (sd_iret (by decide +kernel : decode prog_9_method_52_code 170 = .ok (.ireturn, 1)) rfl)))))))))
def k_Mo_punch (l : Launch) (G : Gc) (pc : Nat) : Tr :=
  if pc < 51 then
   if pc < 25 then
    if pc < 10 then
     if pc < 5 then
      if pc < 1 then
       if pc = 0 then tz_aload 1 0 else dead
      else
       if pc < 2 then
        if pc = 1 then tz_iload 2 1 else dead
       else
        if pc = 2 then tz_pureV 5 1 7 P_Mo_isHost f_Mo_isHost else dead
     else
      if pc < 8 then
       if pc = 5 then tz_if 8 28 (fun a => a = 0) else dead
      else
       if pc < 9 then
        if pc = 8 then tz_aload 9 0 else dead
       else
        if pc = 9 then tz_iload 10 2 else dead
    else
     if pc < 17 then
      if pc < 13 then
       if pc = 10 then tz_pureV 13 1 7 P_Mo_isHost f_Mo_isHost else dead
      else
       if pc < 16 then
        if pc = 13 then tz_if 16 28 (fun a => a = 0) else dead
       else
        if pc = 16 then tz_aload 17 0 else dead
     else
      if pc < 21 then
       if pc < 18 then
        if pc = 17 then tz_iload 18 3 else dead
       else
        if pc = 18 then tz_pureV 21 1 7 P_Mo_isHost f_Mo_isHost else dead
      else
       if pc < 24 then
        if pc = 21 then tz_if 24 28 (fun a => a = 0) else dead
       else
        if pc = 24 then tz_const 25 (.int (nI 1)) else dead
   else
    if pc < 38 then
     if pc < 31 then
      if pc < 28 then
       if pc = 25 then tz_goto 29 else dead
      else
       if pc < 29 then
        if pc = 28 then tz_const 29 (.int (nI 0)) else dead
       else
        if pc = 29 then tz_istore 31 5 else dead
     else
      if pc < 34 then
       if pc < 32 then
        if pc = 31 then tz_aload 32 0 else dead
       else
        if pc = 32 then tz_iload 34 5 else dead
      else
       if pc < 37 then
        if pc = 34 then tz_if 37 41 (fun a => ¬ a = 0) else dead
       else
        if pc = 37 then tz_const 38 (.int (nI 1)) else dead
    else
     if pc < 43 then
      if pc < 41 then
       if pc = 38 then tz_goto 76 else dead
      else
       if pc < 42 then
        if pc = 41 then tz_iload 42 1 else dead
       else
        if pc = 42 then tz_iload 43 2 else dead
     else
      if pc < 47 then
       if pc < 46 then
        if pc = 43 then tz_icmp 46 56 (fun a b => a = b) else dead
       else
        if pc = 46 then tz_iload 47 1 else dead
      else
       if pc < 48 then
        if pc = 47 then tz_iload 48 3 else dead
       else
        if pc = 48 then tz_icmp 51 56 (fun a b => a = b) else dead
  else
   if pc < 75 then
    if pc < 61 then
     if pc < 56 then
      if pc < 52 then
       if pc = 51 then tz_iload 52 2 else dead
      else
       if pc < 53 then
        if pc = 52 then tz_iload 53 3 else dead
       else
        if pc = 53 then tz_icmp 56 60 (fun a b => ¬ a = b) else dead
     else
      if pc < 57 then
       if pc = 56 then tz_const 57 (.int (nI 2)) else dead
      else
       if pc < 60 then
        if pc = 57 then tz_goto 76 else dead
       else
        if pc = 60 then tz_aload 61 0 else dead
    else
     if pc < 66 then
      if pc < 64 then
       if pc = 61 then tz_getf 64 7 1 1 else dead
      else
       if pc < 65 then
        if pc = 64 then tz_const 65 (.int (nI 0)) else dead
       else
        if pc = 65 then tz_iaload 66 else dead
     else
      if pc < 71 then
       if pc < 68 then
        if pc = 66 then tz_const 68 (.int (nI 99990)) else dead
       else
        if pc = 68 then tz_icmp 71 75 (fun a b => a ≤ b) else dead
      else
       if pc < 72 then
        if pc = 71 then tz_const 72 (.int (nI 3)) else dead
       else
        if pc = 72 then tz_goto 76 else dead
   else
    if pc < 90 then
     if pc < 80 then
      if pc < 76 then
       if pc = 75 then tz_const 76 (.int (nI 0)) else dead
      else
       if pc < 79 then
        if pc = 76 then tz_puti 79 7 0 else dead
       else
        if pc = 79 then tz_aload 80 0 else dead
     else
      if pc < 86 then
       if pc < 83 then
        if pc = 80 then tz_getf 83 7 0 0 else dead
       else
        if pc = 83 then tz_if 86 90 (fun a => a ≤ 0) else dead
      else
       if pc < 87 then
        if pc = 86 then tz_const 87 (.int (nI 0)) else dead
       else
        if pc = 87 then tz_goto 99 else dead
    else
     if pc < 93 then
      if pc < 91 then
       if pc = 90 then tz_aload 91 0 else dead
      else
       if pc < 92 then
        if pc = 91 then tz_iload 92 1 else dead
       else
        if pc = 92 then tz_iload 93 2 else dead
     else
      if pc < 96 then
       if pc < 94 then
        if pc = 93 then tz_iload 94 3 else dead
       else
        if pc = 94 then tz_iload 96 4 else dead
      else
       if pc < 99 then
        if pc = 96 then tz_callV l G 99 M_Mo_punches 4 7 else dead
       else
        if pc = 99 then tz_iret else dead
set_option maxRecDepth 100000 in
theorem T_Mo_punch (l : Launch) (G : Gc) : TabOK l G M_Mo_punch (k_Mo_punch l G) := by
  intro pc
  unfold k_Mo_punch
  exact
   (sd_br
    (sd_br
     (sd_br
      (sd_br
       (sd_br
        (sd_lf (sd_aload_n (k := 0) (by decide +kernel : decode prog_9_method_53_code 0 = .ok (.aload_n 0, 1))))
        (sd_br
         (sd_lf (sd_iload_n (k := 1) (by decide +kernel : decode prog_9_method_53_code 1 = .ok (.iload_n 1, 1))))
         (sd_lf (sd_pureV (sd_callV (q := (RX7, TX7, 16)) (by decide +kernel : decode prog_9_method_53_code 2 = .ok (.invokevirtual 165, 3)) ok_Mo_isHost (gm 1083 (by decide +kernel) rfl) (gm 1085 (by decide +kernel) rfl) (gm 42 (by decide +kernel) rfl) rfl rfl (by decide +kernel) rfl rfl) c_Mo_isHost))))
       (sd_br
        (sd_lf (sd_if_eq (by decide +kernel : decode prog_9_method_53_code 5 = .ok (.ifCond .eq 23, 3)) (by decide +kernel)))
        (sd_br
         (sd_lf (sd_aload_n (k := 0) (by decide +kernel : decode prog_9_method_53_code 8 = .ok (.aload_n 0, 1))))
         (sd_lf (sd_iload_n (k := 2) (by decide +kernel : decode prog_9_method_53_code 9 = .ok (.iload_n 2, 1)))))))
      (sd_br
       (sd_br
        (sd_lf (sd_pureV (sd_callV (q := (RX7, TX7, 16)) (by decide +kernel : decode prog_9_method_53_code 10 = .ok (.invokevirtual 165, 3)) ok_Mo_isHost (gm 1083 (by decide +kernel) rfl) (gm 1085 (by decide +kernel) rfl) (gm 42 (by decide +kernel) rfl) rfl rfl (by decide +kernel) rfl rfl) c_Mo_isHost))
        (sd_br
         (sd_lf (sd_if_eq (by decide +kernel : decode prog_9_method_53_code 13 = .ok (.ifCond .eq 15, 3)) (by decide +kernel)))
         (sd_lf (sd_aload_n (k := 0) (by decide +kernel : decode prog_9_method_53_code 16 = .ok (.aload_n 0, 1))))))
       (sd_br
        (sd_br
         (sd_lf (sd_iload_n (k := 3) (by decide +kernel : decode prog_9_method_53_code 17 = .ok (.iload_n 3, 1))))
         (sd_lf (sd_pureV (sd_callV (q := (RX7, TX7, 16)) (by decide +kernel : decode prog_9_method_53_code 18 = .ok (.invokevirtual 165, 3)) ok_Mo_isHost (gm 1083 (by decide +kernel) rfl) (gm 1085 (by decide +kernel) rfl) (gm 42 (by decide +kernel) rfl) rfl rfl (by decide +kernel) rfl rfl) c_Mo_isHost)))
        (sd_br
         (sd_lf (sd_if_eq (by decide +kernel : decode prog_9_method_53_code 21 = .ok (.ifCond .eq 7, 3)) (by decide +kernel)))
         (sd_lf (sd_iconst (by decide +kernel : decode prog_9_method_53_code 24 = .ok (.iconst 1, 1)) (by decide +kernel)))))))
     (sd_br
      (sd_br
       (sd_br
        (sd_lf (sd_goto (by decide +kernel : decode prog_9_method_53_code 25 = .ok (.goto 4, 3)) (by decide +kernel)))
        (sd_br
         (sd_lf (sd_iconst (by decide +kernel : decode prog_9_method_53_code 28 = .ok (.iconst 0, 1)) (by decide +kernel)))
         (sd_lf (sd_istore (by decide +kernel : decode prog_9_method_53_code 29 = .ok (.istore 5, 2))))))
       (sd_br
        (sd_br
         (sd_lf (sd_aload_n (k := 0) (by decide +kernel : decode prog_9_method_53_code 31 = .ok (.aload_n 0, 1))))
         (sd_lf (sd_iload (by decide +kernel : decode prog_9_method_53_code 32 = .ok (.iload 5, 2)))))
        (sd_br
         (sd_lf (sd_if_ne (by decide +kernel : decode prog_9_method_53_code 34 = .ok (.ifCond .ne 7, 3)) (by decide +kernel)))
         (sd_lf (sd_iconst (by decide +kernel : decode prog_9_method_53_code 37 = .ok (.iconst 1, 1)) (by decide +kernel))))))
      (sd_br
       (sd_br
        (sd_lf (sd_goto (by decide +kernel : decode prog_9_method_53_code 38 = .ok (.goto 38, 3)) (by decide +kernel)))
        (sd_br
         (sd_lf (sd_iload_n (k := 1) (by decide +kernel : decode prog_9_method_53_code 41 = .ok (.iload_n 1, 1))))
         (sd_lf (sd_iload_n (k := 2) (by decide +kernel : decode prog_9_method_53_code 42 = .ok (.iload_n 2, 1))))))
       (sd_br
        (sd_br
         (sd_lf (sd_icmp_eq (by decide +kernel : decode prog_9_method_53_code 43 = .ok (.if_icmp .eq 13, 3)) (by decide +kernel)))
         (sd_lf (sd_iload_n (k := 1) (by decide +kernel : decode prog_9_method_53_code 46 = .ok (.iload_n 1, 1)))))
        (sd_br
         (sd_lf (sd_iload_n (k := 3) (by decide +kernel : decode prog_9_method_53_code 47 = .ok (.iload_n 3, 1))))
         (sd_lf (sd_icmp_eq (by decide +kernel : decode prog_9_method_53_code 48 = .ok (.if_icmp .eq 8, 3)) (by decide +kernel))))))))
    (sd_br
     (sd_br
      (sd_br
       (sd_br
        (sd_lf (sd_iload_n (k := 2) (by decide +kernel : decode prog_9_method_53_code 51 = .ok (.iload_n 2, 1))))
        (sd_br
         (sd_lf (sd_iload_n (k := 3) (by decide +kernel : decode prog_9_method_53_code 52 = .ok (.iload_n 3, 1))))
         (sd_lf (sd_icmp_ne (by decide +kernel : decode prog_9_method_53_code 53 = .ok (.if_icmp .ne 7, 3)) (by decide +kernel)))))
       (sd_br
        (sd_lf (sd_iconst (by decide +kernel : decode prog_9_method_53_code 56 = .ok (.iconst 2, 1)) (by decide +kernel)))
        (sd_br
         (sd_lf (sd_goto (by decide +kernel : decode prog_9_method_53_code 57 = .ok (.goto 19, 3)) (by decide +kernel)))
         (sd_lf (sd_aload_n (k := 0) (by decide +kernel : decode prog_9_method_53_code 60 = .ok (.aload_n 0, 1)))))))
      (sd_br
       (sd_br
        (sd_lf (sd_getf (q := (RX7, TX7, 16)) (by decide +kernel : decode prog_9_method_53_code 61 = .ok (.getfield 7, 3)) rfl (by decide +kernel) (gm 913 (by decide +kernel) rfl)))
        (sd_br
         (sd_lf (sd_iconst (by decide +kernel : decode prog_9_method_53_code 64 = .ok (.iconst 0, 1)) (by decide +kernel)))
         (sd_lf (sd_iaload (by decide +kernel : decode prog_9_method_53_code 65 = .ok (.iaload, 1))))))
       (sd_br
        (sd_br
         (sd_lf (sd_ldc (by decide +kernel : decode prog_9_method_53_code 66 = .ok (.ldc 185, 2)) (gm 1158 (by decide +kernel) rfl)))
         (sd_lf (sd_icmp_le (by decide +kernel : decode prog_9_method_53_code 68 = .ok (.if_icmp .le 7, 3)) (by decide +kernel))))
        (sd_br
         (sd_lf (sd_iconst (by decide +kernel : decode prog_9_method_53_code 71 = .ok (.iconst 3, 1)) (by decide +kernel)))
         (sd_lf (sd_goto (by decide +kernel : decode prog_9_method_53_code 72 = .ok (.goto 4, 3)) (by decide +kernel)))))))
     (sd_br
      (sd_br
       (sd_br
        (sd_lf (sd_iconst (by decide +kernel : decode prog_9_method_53_code 75 = .ok (.iconst 0, 1)) (by decide +kernel)))
        (sd_br
         (sd_lf (sd_puti (q := (RX7, TX7, 16)) (by decide +kernel : decode prog_9_method_53_code 76 = .ok (.putfield 32, 3)) rfl (by decide +kernel) (gm 912 (by decide +kernel) rfl) rfl rfl (Or.inl rfl)))
         (sd_lf (sd_aload_n (k := 0) (by decide +kernel : decode prog_9_method_53_code 79 = .ok (.aload_n 0, 1))))))
       (sd_br
        (sd_br
         (sd_lf (sd_getf (q := (RX7, TX7, 16)) (by decide +kernel : decode prog_9_method_53_code 80 = .ok (.getfield 32, 3)) rfl (by decide +kernel) (gm 912 (by decide +kernel) rfl)))
         (sd_lf (sd_if_le (by decide +kernel : decode prog_9_method_53_code 83 = .ok (.ifCond .le 7, 3)) (by decide +kernel))))
        (sd_br
         (sd_lf (sd_iconst (by decide +kernel : decode prog_9_method_53_code 86 = .ok (.iconst 0, 1)) (by decide +kernel)))
         (sd_lf (sd_goto (by decide +kernel : decode prog_9_method_53_code 87 = .ok (.goto 12, 3)) (by decide +kernel))))))
      (sd_br
       (sd_br
        (sd_lf (sd_aload_n (k := 0) (by decide +kernel : decode prog_9_method_53_code 90 = .ok (.aload_n 0, 1))))
        (sd_br
         (sd_lf (sd_iload_n (k := 1) (by decide +kernel : decode prog_9_method_53_code 91 = .ok (.iload_n 1, 1))))
         (sd_lf (sd_iload_n (k := 2) (by decide +kernel : decode prog_9_method_53_code 92 = .ok (.iload_n 2, 1))))))
       (sd_br
        (sd_br
         (sd_lf (sd_iload_n (k := 3) (by decide +kernel : decode prog_9_method_53_code 93 = .ok (.iload_n 3, 1))))
         (sd_lf (sd_iload (by decide +kernel : decode prog_9_method_53_code 94 = .ok (.iload 4, 2)))))
        (sd_br
         (sd_lf (sd_callV (q := (RX7, TX7, 16)) (by decide +kernel : decode prog_9_method_53_code 96 = .ok (.invokevirtual 186, 3)) ok_Mo_punches (gm 1159 (by decide +kernel) rfl) (gm 1161 (by decide +kernel) rfl) (gm 56 (by decide +kernel) rfl) rfl rfl (by decide +kernel) rfl rfl))
         (sd_lf (sd_iret (by decide +kernel : decode prog_9_method_53_code 99 = .ok (.ireturn, 1)) rfl))))))))
/-- the model's rows for punching -/
def MoP (h : AH) (a zr tA pA eA : Nat) : Prop := MoS h a zr ∧ (hR h a 12 = some tA ∧ tg h tA = 8 ∧ ln h tA = 2) ∧ (hR h a 13 = some pA ∧ tg h pA = 8 ∧ ln h pA = 2) ∧ (hR h a 14 = some eA ∧ tg h eA = 9 ∧ ln h eA = 2) ∧ zr ≠ tA ∧ zr ≠ pA ∧ tA ≠ pA
theorem MoP.zw {h : AH} {a zr tA pA eA b : Nat} {f : Nat → Int32} (k : MoP h a zr tA pA eA) : MoP (zw h b f) a zr tA pA eA := k
theorem MoP.ns {h : AH} {a zr tA pA eA : Nat} (k : MoP h a zr tA pA eA) : zr ≠ a ∧ tA ≠ a ∧ pA ≠ a ∧ eA ≠ a ∧ zr ≠ tA ∧ zr ≠ pA ∧ zr ≠ eA ∧ tA ≠ pA ∧ tA ≠ eA ∧ pA ≠ eA := by
  obtain ⟨⟨h1, h2, h3, h4⟩, ⟨t1, t2, t3⟩, ⟨p1, p2, p3⟩, ⟨e1, e2, e3⟩, n1, n2, n3⟩ := k
  refine ⟨ne_tg (by rw [h1, h3]; decide), ne_tg (by rw [h1, t2]; decide), ne_tg (by rw [h1, p2]; decide), ne_tg (by rw [h1, e2]; decide), n1, n2, ne_tg (by rw [h3, e2]; decide), n3, ne_tg (by rw [t2, e2]; decide), ne_tg (by rw [p2, e2]; decide)⟩
theorem mo_rd {h : AH} {a zr tA pA eA : Nat} (k : MoP h a zr tA pA eA) :
    (∀ h f, hI (zw h a f) zr = hI h zr) ∧ (∀ h f, hI (zw h a f) tA = hI h tA) ∧ (∀ h f, hI (zw h a f) pA = hI h pA) ∧ (∀ h f, hI (zw h a f) eA = hI h eA) ∧
    (∀ h f, hI (zw h zr f) a = hI h a) ∧ (∀ h f, hI (zw h zr f) tA = hI h tA) ∧ (∀ h f, hI (zw h zr f) pA = hI h pA) ∧ (∀ h f, hI (zw h zr f) eA = hI h eA) ∧
    (∀ h f, hI (zw h tA f) a = hI h a) ∧ (∀ h f, hI (zw h tA f) zr = hI h zr) ∧ (∀ h f, hI (zw h tA f) pA = hI h pA) ∧ (∀ h f, hI (zw h tA f) eA = hI h eA) ∧
    (∀ h f, hI (zw h pA f) a = hI h a) ∧ (∀ h f, hI (zw h pA f) zr = hI h zr) ∧ (∀ h f, hI (zw h pA f) tA = hI h tA) ∧ (∀ h f, hI (zw h pA f) eA = hI h eA) ∧
    (∀ h f, hI (zw h eA f) a = hI h a) ∧ (∀ h f, hI (zw h eA f) zr = hI h zr) ∧ (∀ h f, hI (zw h eA f) tA = hI h tA) ∧ (∀ h f, hI (zw h eA f) pA = hI h pA) := by
  obtain ⟨n1, n2, n3, n4, n5, n6, n7, n8, n9, n10⟩ := k.ns
  exact ⟨rd_ne n1, rd_ne n2, rd_ne n3, rd_ne n4, rd_ne n1.symm, rd_ne n5.symm, rd_ne n6.symm, rd_ne n7.symm, rd_ne n2.symm, rd_ne n5, rd_ne n8.symm, rd_ne n9.symm, rd_ne n3.symm, rd_ne n6, rd_ne n8, rd_ne n10.symm, rd_ne n4.symm, rd_ne n7, rd_ne n9, rd_ne n10⟩
/-- writes in the order zr, tA, pA, eA, a -/
theorem mo_cm {h : AH} {a zr tA pA eA : Nat} (k : MoP h a zr tA pA eA) :
    (∀ h f g, zw (zw h a f) zr g = zw (zw h zr g) a f) ∧ (∀ h f g, zw (zw h eA f) zr g = zw (zw h zr g) eA f) ∧ (∀ h f g, zw (zw h pA f) zr g = zw (zw h zr g) pA f) ∧ (∀ h f g, zw (zw h tA f) zr g = zw (zw h zr g) tA f) ∧
    (∀ h f g, zw (zw h a f) tA g = zw (zw h tA g) a f) ∧ (∀ h f g, zw (zw h eA f) tA g = zw (zw h tA g) eA f) ∧ (∀ h f g, zw (zw h pA f) tA g = zw (zw h tA g) pA f) ∧
    (∀ h f g, zw (zw h a f) pA g = zw (zw h pA g) a f) ∧ (∀ h f g, zw (zw h eA f) pA g = zw (zw h pA g) eA f) ∧
    (∀ h f g, zw (zw h a f) eA g = zw (zw h eA g) a f) := by
  obtain ⟨n1, n2, n3, n4, n5, n6, n7, n8, n9, n10⟩ := k.ns
  exact ⟨wr_cm n1.symm, wr_cm n7.symm, wr_cm n6.symm, wr_cm n5.symm, wr_cm n2.symm, wr_cm n9.symm, wr_cm n8.symm, wr_cm n3.symm, wr_cm n10.symm, wr_cm n4.symm⟩
/-- the heap with the model's rows z, tn, tp, hd and its own fields -/
def mw (h : AH) (a zr tA pA eA : Nat) (z tn tp hd : Nat → Int32) (x y : Int32) : AH := zw (zw (zw (zw (zw h zr z) tA tn) pA tp) eA hd) a (upd (upd (hI h a) 10 x) 11 y)
theorem mw_self {h : AH} {a zr tA pA eA : Nat} : mw h a zr tA pA eA (hI h zr) (hI h tA) (hI h pA) (hI h eA) (hI h a 10) (hI h a 11) = h := by
  unfold mw
  have e : upd (upd (hI h a) 10 (hI h a 10)) 11 (hI h a 11) = hI h a := by rw [upd_self, upd_self]
  rw [e]
  simp only [zw_self]
/-- the port ahead -/
def ahd (f e : Int32) : Int32 := if nI 1 ≤ f + f - e ∧ f + f - e ≤ nI 9999 then f + f - e else f
/-- host n shows itself to port d of s; the target of o is told -/
def ShwR (n o s : Nat) (d pr : Int32) (z tn tp : Nat → Int32) (ok : Int32) (z' tn' tp' : Nat → Int32) : Prop := ∃ r, SndR z n (nI 500) s d r z' ∧
  ((¬ r = nI s ∧ ok = nI 0 ∧ tn' = tn ∧ tp' = tp) ∨ (r = nI s ∧ ok = nI 1 ∧
    ((pr = nI 0 ∧ tn' = upd tn o (z' (16 + 16 * s + 12)) ∧ tp' = upd tp o (z' (16 + 16 * s + 13))) ∨ (pr = nI 1 ∧ tn' = tn ∧ tp' = upd tp o (ahd (z' (16 + 16 * s + 13)) (tp o))))))
section
variable {l : Launch} {G : Gc}
theorem c_Mo_shows (a zr tA pA eA n o s : Nat) (d pr x y ok : Int32) (z tn tp hd z' tn' tp' : Nat → Int32) (h : AH) (Q : Po) (hp : MoP h a zr tA pA eA) (ho : o < 2) (hs : ShwR n o s d pr z tn tp ok z' tn' tp')
    (hQ : ∀ x y, Q (.inl (some (.int ok))) (mw h a zr tA pA eA z' tn' tp' hd x y)) : Call l G M_Mo_shows [.ref a, .int (nI n), .int (nI o), .int (nI s), .int d, .int pr] (mw h a zr tA pA eA z tn tp hd x y) Q := by
  have rd := mo_rd hp
  have cm := mo_cm hp
  obtain ⟨⟨h1, h2, h3, h4⟩, ⟨t1, t2, t3⟩, ⟨p1, p2, p3⟩, ⟨e1, e2, e3⟩, -⟩ := id hp
  unfold mw at hQ ⊢
  obtain ⟨r, hs, hr⟩ := hs
  have s10 : s < 10 := by
    have := hs.1.1.1.1.at.2
    have := hs.2.1.2.2.1
    omega
  refine call_of rfl rfl (Nat.le_of_ble_eq_true rfl) ?_
  (obtain ⟨W9, hW9, hgo9⟩ := wp_ex (T_Mo_shows l G) [] _; refine hgo9 200 _ _ _ _ ?_; simp -implicitDefEqProofs (disch := omega) only [hW9, inl, gate, Xq, tz_const, tz_iload, tz_lload, tz_dload, tz_aload, tz_istore, tz_astore, tz_lstore, tz_dstore, tz_iinc, tz_i1, tz_i2, tz_i2z, tz_l2, tz_l2z, tz_i2l, tz_l2i, tz_lcmp, tz_i2d, tz_d2, tz_dcmp, tz_dup, tz_dup2, tz_pop, tz_if, tz_icmp, tz_null, tz_goto, tz_sw, tz_getf, tz_puti, tz_putz, tz_putr, tz_putl, tz_iaload, tz_baload, tz_laload, tz_aaload, tz_iastore, tz_bastore, tz_lastore, tz_aastore, tz_alen, tz_new, tz_newa, tz_oinit, tz_iret, tz_zret, tz_lret, tz_dret, tz_aret, tz_vret, tz_throw, tz_callS, tz_callV, tz_callI, tz_callR, tz_pureS, tz_pureV, tz_callVH, lg, lset, lkill, lst1, lst2, entL, isRf, is1, vl, va_rf_none, va_rf_some, isRf_rf, is1_rf, i0, i1, bI_eq0, bI_eq1, nm_em, nI_eqP, nI_leP, nI_ltP, nN_e1, nN_e2, nN_l1, nN_l2, nN_l3, nN_l4, nI_add, pk_mul, vp_inN, nI_cl, n01, n10, P_i, P_ii, P_iii, f_Mo_at, f_Mo_map, f_Mo_contact, f_Mo_within, f_Mo_isPort, f_Hp_endpoint, f_Hp_nodeOf, f_Hp_portOf, f_Ma_max, f_Ma_min, f_Hp_isSetting, popN, rok, a1, noX, swc, mL, if_true, if_false, ↓reduceIte, cond_true, cond_false, true_and, and_true, List.length_cons, List.length_nil, List.nil_append, List.cons_append, List.append_nil, Option.toList, Nat.reduceEqDiff, Bool.false_eq_true, reduceCtorEq, Nat.reduceAdd, Nat.reduceLT, Nat.reduceLeDiff, Nat.reduceSub, List.replicate, Nat.zero_add, Nat.lt_add_one, Nat.le_refl, Nat.zero_le, Nat.succ_ne_zero, not_false_eq_true, not_true_eq_false, false_implies, true_implies, forall_const, imp_self, true_or, or_true, eq_self, sI_zw, zw_zw, hI_zw, tg_zw, ln_zw, hR_zw, hL_zw, hN_zw, hM_zw, upd_s, upd_u, upd_ne, Classical.not_not, k_Mo_shows, h1]; try clear hgo9 hW9)
  refine m_sends a zr n s (nI 500) d r z' _ _ hp.1 (by simp only [rd, hI_zw]; exact hs) (fun x y => ?_)
  simp only [aft]
  rcases hr with ⟨c, rfl, rfl, rfl⟩ | ⟨rfl, rfl, hr⟩
  · ((obtain ⟨W9, hW9, hgo9⟩ := wp_ex (T_Mo_shows l G) [] _; refine hgo9 200 _ _ _ _ ?_; simp -implicitDefEqProofs (disch := omega) only [hW9, inl, gate, Xq, tz_const, tz_iload, tz_lload, tz_dload, tz_aload, tz_istore, tz_astore, tz_lstore, tz_dstore, tz_iinc, tz_i1, tz_i2, tz_i2z, tz_l2, tz_l2z, tz_i2l, tz_l2i, tz_lcmp, tz_i2d, tz_d2, tz_dcmp, tz_dup, tz_dup2, tz_pop, tz_if, tz_icmp, tz_null, tz_goto, tz_sw, tz_getf, tz_puti, tz_putz, tz_putr, tz_putl, tz_iaload, tz_baload, tz_laload, tz_aaload, tz_iastore, tz_bastore, tz_lastore, tz_aastore, tz_alen, tz_new, tz_newa, tz_oinit, tz_iret, tz_zret, tz_lret, tz_dret, tz_aret, tz_vret, tz_throw, tz_callS, tz_callV, tz_callI, tz_callR, tz_pureS, tz_pureV, tz_callVH, lg, lset, lkill, lst1, lst2, entL, isRf, is1, vl, va_rf_none, va_rf_some, isRf_rf, is1_rf, i0, i1, bI_eq0, bI_eq1, nm_em, nI_eqP, nI_leP, nI_ltP, nN_e1, nN_e2, nN_l1, nN_l2, nN_l3, nN_l4, nI_add, pk_mul, vp_inN, nI_cl, n01, n10, P_i, P_ii, P_iii, f_Mo_at, f_Mo_map, f_Mo_contact, f_Mo_within, f_Mo_isPort, f_Hp_endpoint, f_Hp_nodeOf, f_Hp_portOf, f_Ma_max, f_Ma_min, f_Hp_isSetting, popN, rok, a1, noX, swc, mL, if_true, if_false, ↓reduceIte, cond_true, cond_false, true_and, and_true, List.length_cons, List.length_nil, List.nil_append, List.cons_append, List.append_nil, Option.toList, Nat.reduceEqDiff, Bool.false_eq_true, reduceCtorEq, Nat.reduceAdd, Nat.reduceLT, Nat.reduceLeDiff, Nat.reduceSub, List.replicate, Nat.zero_add, Nat.lt_add_one, Nat.le_refl, Nat.zero_le, Nat.succ_ne_zero, not_false_eq_true, not_true_eq_false, false_implies, true_implies, forall_const, imp_self, true_or, or_true, eq_self, sI_zw, zw_zw, hI_zw, tg_zw, ln_zw, hR_zw, hL_zw, hN_zw, hM_zw, upd_s, upd_u, upd_ne, Classical.not_not, k_Mo_shows, h1, rd, cm, u1011, c]; try clear hgo9 hW9); try (obtain ⟨W9, hW9, hgo9⟩ := wp_ex (T_Mo_shows l G) [] _; refine hgo9 200 _ _ _ _ ?_; simp -implicitDefEqProofs (disch := omega) only [hW9, inl, gate, Xq, tz_const, tz_iload, tz_lload, tz_dload, tz_aload, tz_istore, tz_astore, tz_lstore, tz_dstore, tz_iinc, tz_i1, tz_i2, tz_i2z, tz_l2, tz_l2z, tz_i2l, tz_l2i, tz_lcmp, tz_i2d, tz_d2, tz_dcmp, tz_dup, tz_dup2, tz_pop, tz_if, tz_icmp, tz_null, tz_goto, tz_sw, tz_getf, tz_puti, tz_putz, tz_putr, tz_putl, tz_iaload, tz_baload, tz_laload, tz_aaload, tz_iastore, tz_bastore, tz_lastore, tz_aastore, tz_alen, tz_new, tz_newa, tz_oinit, tz_iret, tz_zret, tz_lret, tz_dret, tz_aret, tz_vret, tz_throw, tz_callS, tz_callV, tz_callI, tz_callR, tz_pureS, tz_pureV, tz_callVH, lg, lset, lkill, lst1, lst2, entL, isRf, is1, vl, va_rf_none, va_rf_some, isRf_rf, is1_rf, i0, i1, bI_eq0, bI_eq1, nm_em, nI_eqP, nI_leP, nI_ltP, nN_e1, nN_e2, nN_l1, nN_l2, nN_l3, nN_l4, nI_add, pk_mul, vp_inN, nI_cl, n01, n10, P_i, P_ii, P_iii, f_Mo_at, f_Mo_map, f_Mo_contact, f_Mo_within, f_Mo_isPort, f_Hp_endpoint, f_Hp_nodeOf, f_Hp_portOf, f_Ma_max, f_Ma_min, f_Hp_isSetting, popN, rok, a1, noX, swc, mL, if_true, if_false, ↓reduceIte, cond_true, cond_false, true_and, and_true, List.length_cons, List.length_nil, List.nil_append, List.cons_append, List.append_nil, Option.toList, Nat.reduceEqDiff, Bool.false_eq_true, reduceCtorEq, Nat.reduceAdd, Nat.reduceLT, Nat.reduceLeDiff, Nat.reduceSub, List.replicate, Nat.zero_add, Nat.lt_add_one, Nat.le_refl, Nat.zero_le, Nat.succ_ne_zero, not_false_eq_true, not_true_eq_false, false_implies, true_implies, forall_const, imp_self, true_or, or_true, eq_self, sI_zw, zw_zw, hI_zw, tg_zw, ln_zw, hR_zw, hL_zw, hN_zw, hM_zw, upd_s, upd_u, upd_ne, Classical.not_not, k_Mo_shows, h1, rd, cm, u1011, c]; try clear hgo9 hW9); try (obtain ⟨W9, hW9, hgo9⟩ := wp_ex (T_Mo_shows l G) [] _; refine hgo9 200 _ _ _ _ ?_; simp -implicitDefEqProofs (disch := omega) only [hW9, inl, gate, Xq, tz_const, tz_iload, tz_lload, tz_dload, tz_aload, tz_istore, tz_astore, tz_lstore, tz_dstore, tz_iinc, tz_i1, tz_i2, tz_i2z, tz_l2, tz_l2z, tz_i2l, tz_l2i, tz_lcmp, tz_i2d, tz_d2, tz_dcmp, tz_dup, tz_dup2, tz_pop, tz_if, tz_icmp, tz_null, tz_goto, tz_sw, tz_getf, tz_puti, tz_putz, tz_putr, tz_putl, tz_iaload, tz_baload, tz_laload, tz_aaload, tz_iastore, tz_bastore, tz_lastore, tz_aastore, tz_alen, tz_new, tz_newa, tz_oinit, tz_iret, tz_zret, tz_lret, tz_dret, tz_aret, tz_vret, tz_throw, tz_callS, tz_callV, tz_callI, tz_callR, tz_pureS, tz_pureV, tz_callVH, lg, lset, lkill, lst1, lst2, entL, isRf, is1, vl, va_rf_none, va_rf_some, isRf_rf, is1_rf, i0, i1, bI_eq0, bI_eq1, nm_em, nI_eqP, nI_leP, nI_ltP, nN_e1, nN_e2, nN_l1, nN_l2, nN_l3, nN_l4, nI_add, pk_mul, vp_inN, nI_cl, n01, n10, P_i, P_ii, P_iii, f_Mo_at, f_Mo_map, f_Mo_contact, f_Mo_within, f_Mo_isPort, f_Hp_endpoint, f_Hp_nodeOf, f_Hp_portOf, f_Ma_max, f_Ma_min, f_Hp_isSetting, popN, rok, a1, noX, swc, mL, if_true, if_false, ↓reduceIte, cond_true, cond_false, true_and, and_true, List.length_cons, List.length_nil, List.nil_append, List.cons_append, List.append_nil, Option.toList, Nat.reduceEqDiff, Bool.false_eq_true, reduceCtorEq, Nat.reduceAdd, Nat.reduceLT, Nat.reduceLeDiff, Nat.reduceSub, List.replicate, Nat.zero_add, Nat.lt_add_one, Nat.le_refl, Nat.zero_le, Nat.succ_ne_zero, not_false_eq_true, not_true_eq_false, false_implies, true_implies, forall_const, imp_self, true_or, or_true, eq_self, sI_zw, zw_zw, hI_zw, tg_zw, ln_zw, hR_zw, hL_zw, hN_zw, hM_zw, upd_s, upd_u, upd_ne, Classical.not_not, k_Mo_shows, h1, rd, cm, u1011, c]; try clear hgo9 hW9))
    exact hQ _ _
  · rcases hr with ⟨rfl, rfl, rfl⟩ | ⟨rfl, rfl, rfl⟩
    · (obtain ⟨W9, hW9, hgo9⟩ := wp_ex (T_Mo_shows l G) [44] _; refine hgo9 200 _ _ _ _ ?_; simp -implicitDefEqProofs (disch := omega) only [hW9, inl, gate, Xq, tz_const, tz_iload, tz_lload, tz_dload, tz_aload, tz_istore, tz_astore, tz_lstore, tz_dstore, tz_iinc, tz_i1, tz_i2, tz_i2z, tz_l2, tz_l2z, tz_i2l, tz_l2i, tz_lcmp, tz_i2d, tz_d2, tz_dcmp, tz_dup, tz_dup2, tz_pop, tz_if, tz_icmp, tz_null, tz_goto, tz_sw, tz_getf, tz_puti, tz_putz, tz_putr, tz_putl, tz_iaload, tz_baload, tz_laload, tz_aaload, tz_iastore, tz_bastore, tz_lastore, tz_aastore, tz_alen, tz_new, tz_newa, tz_oinit, tz_iret, tz_zret, tz_lret, tz_dret, tz_aret, tz_vret, tz_throw, tz_callS, tz_callV, tz_callI, tz_callR, tz_pureS, tz_pureV, tz_callVH, lg, lset, lkill, lst1, lst2, entL, isRf, is1, vl, va_rf_none, va_rf_some, isRf_rf, is1_rf, i0, i1, bI_eq0, bI_eq1, nm_em, nI_eqP, nI_leP, nI_ltP, nN_e1, nN_e2, nN_l1, nN_l2, nN_l3, nN_l4, nI_add, pk_mul, vp_inN, nI_cl, n01, n10, P_i, P_ii, P_iii, f_Mo_at, f_Mo_map, f_Mo_contact, f_Mo_within, f_Mo_isPort, f_Hp_endpoint, f_Hp_nodeOf, f_Hp_portOf, f_Ma_max, f_Ma_min, f_Hp_isSetting, popN, rok, a1, noX, swc, mL, if_true, if_false, ↓reduceIte, cond_true, cond_false, true_and, and_true, List.length_cons, List.length_nil, List.nil_append, List.cons_append, List.append_nil, Option.toList, Nat.reduceEqDiff, Bool.false_eq_true, reduceCtorEq, Nat.reduceAdd, Nat.reduceLT, Nat.reduceLeDiff, Nat.reduceSub, List.replicate, Nat.zero_add, Nat.lt_add_one, Nat.le_refl, Nat.zero_le, Nat.succ_ne_zero, not_false_eq_true, not_true_eq_false, false_implies, true_implies, forall_const, imp_self, true_or, or_true, eq_self, sI_zw, zw_zw, hI_zw, tg_zw, ln_zw, hR_zw, hL_zw, hN_zw, hM_zw, upd_s, upd_u, upd_ne, Classical.not_not, k_Mo_shows, h1, h2, h3, h4, t1, t2, t3, p1, p2, p3, rd, cm, u1011]; try clear hgo9 hW9)
      (obtain ⟨W9, hW9, hgo9⟩ := wp_ex (T_Mo_shows l G) [44] _; refine hgo9 200 _ _ _ _ ?_; simp -implicitDefEqProofs (disch := omega) only [hW9, inl, gate, Xq, tz_const, tz_iload, tz_lload, tz_dload, tz_aload, tz_istore, tz_astore, tz_lstore, tz_dstore, tz_iinc, tz_i1, tz_i2, tz_i2z, tz_l2, tz_l2z, tz_i2l, tz_l2i, tz_lcmp, tz_i2d, tz_d2, tz_dcmp, tz_dup, tz_dup2, tz_pop, tz_if, tz_icmp, tz_null, tz_goto, tz_sw, tz_getf, tz_puti, tz_putz, tz_putr, tz_putl, tz_iaload, tz_baload, tz_laload, tz_aaload, tz_iastore, tz_bastore, tz_lastore, tz_aastore, tz_alen, tz_new, tz_newa, tz_oinit, tz_iret, tz_zret, tz_lret, tz_dret, tz_aret, tz_vret, tz_throw, tz_callS, tz_callV, tz_callI, tz_callR, tz_pureS, tz_pureV, tz_callVH, lg, lset, lkill, lst1, lst2, entL, isRf, is1, vl, va_rf_none, va_rf_some, isRf_rf, is1_rf, i0, i1, bI_eq0, bI_eq1, nm_em, nI_eqP, nI_leP, nI_ltP, nN_e1, nN_e2, nN_l1, nN_l2, nN_l3, nN_l4, nI_add, pk_mul, vp_inN, nI_cl, n01, n10, P_i, P_ii, P_iii, f_Mo_at, f_Mo_map, f_Mo_contact, f_Mo_within, f_Mo_isPort, f_Hp_endpoint, f_Hp_nodeOf, f_Hp_portOf, f_Ma_max, f_Ma_min, f_Hp_isSetting, popN, rok, a1, noX, swc, mL, if_true, if_false, ↓reduceIte, cond_true, cond_false, true_and, and_true, List.length_cons, List.length_nil, List.nil_append, List.cons_append, List.append_nil, Option.toList, Nat.reduceEqDiff, Bool.false_eq_true, reduceCtorEq, Nat.reduceAdd, Nat.reduceLT, Nat.reduceLeDiff, Nat.reduceSub, List.replicate, Nat.zero_add, Nat.lt_add_one, Nat.le_refl, Nat.zero_le, Nat.succ_ne_zero, not_false_eq_true, not_true_eq_false, false_implies, true_implies, forall_const, imp_self, true_or, or_true, eq_self, sI_zw, zw_zw, hI_zw, tg_zw, ln_zw, hR_zw, hL_zw, hN_zw, hM_zw, upd_s, upd_u, upd_ne, Classical.not_not, k_Mo_shows, h1, h2, h3, h4, t1, t2, t3, p1, p2, p3, rd, cm, u1011]; try clear hgo9 hW9)
      ((obtain ⟨W9, hW9, hgo9⟩ := wp_ex (T_Mo_shows l G) [] _; refine hgo9 200 _ _ _ _ ?_; simp -implicitDefEqProofs (disch := omega) only [hW9, inl, gate, Xq, tz_const, tz_iload, tz_lload, tz_dload, tz_aload, tz_istore, tz_astore, tz_lstore, tz_dstore, tz_iinc, tz_i1, tz_i2, tz_i2z, tz_l2, tz_l2z, tz_i2l, tz_l2i, tz_lcmp, tz_i2d, tz_d2, tz_dcmp, tz_dup, tz_dup2, tz_pop, tz_if, tz_icmp, tz_null, tz_goto, tz_sw, tz_getf, tz_puti, tz_putz, tz_putr, tz_putl, tz_iaload, tz_baload, tz_laload, tz_aaload, tz_iastore, tz_bastore, tz_lastore, tz_aastore, tz_alen, tz_new, tz_newa, tz_oinit, tz_iret, tz_zret, tz_lret, tz_dret, tz_aret, tz_vret, tz_throw, tz_callS, tz_callV, tz_callI, tz_callR, tz_pureS, tz_pureV, tz_callVH, lg, lset, lkill, lst1, lst2, entL, isRf, is1, vl, va_rf_none, va_rf_some, isRf_rf, is1_rf, i0, i1, bI_eq0, bI_eq1, nm_em, nI_eqP, nI_leP, nI_ltP, nN_e1, nN_e2, nN_l1, nN_l2, nN_l3, nN_l4, nI_add, pk_mul, vp_inN, nI_cl, n01, n10, P_i, P_ii, P_iii, f_Mo_at, f_Mo_map, f_Mo_contact, f_Mo_within, f_Mo_isPort, f_Hp_endpoint, f_Hp_nodeOf, f_Hp_portOf, f_Ma_max, f_Ma_min, f_Hp_isSetting, popN, rok, a1, noX, swc, mL, if_true, if_false, ↓reduceIte, cond_true, cond_false, true_and, and_true, List.length_cons, List.length_nil, List.nil_append, List.cons_append, List.append_nil, Option.toList, Nat.reduceEqDiff, Bool.false_eq_true, reduceCtorEq, Nat.reduceAdd, Nat.reduceLT, Nat.reduceLeDiff, Nat.reduceSub, List.replicate, Nat.zero_add, Nat.lt_add_one, Nat.le_refl, Nat.zero_le, Nat.succ_ne_zero, not_false_eq_true, not_true_eq_false, false_implies, true_implies, forall_const, imp_self, true_or, or_true, eq_self, sI_zw, zw_zw, hI_zw, tg_zw, ln_zw, hR_zw, hL_zw, hN_zw, hM_zw, upd_s, upd_u, upd_ne, Classical.not_not, k_Mo_shows, h1, h2, h3, h4, t1, t2, t3, p1, p2, p3, rd, cm, u1011]; try clear hgo9 hW9); try (obtain ⟨W9, hW9, hgo9⟩ := wp_ex (T_Mo_shows l G) [] _; refine hgo9 200 _ _ _ _ ?_; simp -implicitDefEqProofs (disch := omega) only [hW9, inl, gate, Xq, tz_const, tz_iload, tz_lload, tz_dload, tz_aload, tz_istore, tz_astore, tz_lstore, tz_dstore, tz_iinc, tz_i1, tz_i2, tz_i2z, tz_l2, tz_l2z, tz_i2l, tz_l2i, tz_lcmp, tz_i2d, tz_d2, tz_dcmp, tz_dup, tz_dup2, tz_pop, tz_if, tz_icmp, tz_null, tz_goto, tz_sw, tz_getf, tz_puti, tz_putz, tz_putr, tz_putl, tz_iaload, tz_baload, tz_laload, tz_aaload, tz_iastore, tz_bastore, tz_lastore, tz_aastore, tz_alen, tz_new, tz_newa, tz_oinit, tz_iret, tz_zret, tz_lret, tz_dret, tz_aret, tz_vret, tz_throw, tz_callS, tz_callV, tz_callI, tz_callR, tz_pureS, tz_pureV, tz_callVH, lg, lset, lkill, lst1, lst2, entL, isRf, is1, vl, va_rf_none, va_rf_some, isRf_rf, is1_rf, i0, i1, bI_eq0, bI_eq1, nm_em, nI_eqP, nI_leP, nI_ltP, nN_e1, nN_e2, nN_l1, nN_l2, nN_l3, nN_l4, nI_add, pk_mul, vp_inN, nI_cl, n01, n10, P_i, P_ii, P_iii, f_Mo_at, f_Mo_map, f_Mo_contact, f_Mo_within, f_Mo_isPort, f_Hp_endpoint, f_Hp_nodeOf, f_Hp_portOf, f_Ma_max, f_Ma_min, f_Hp_isSetting, popN, rok, a1, noX, swc, mL, if_true, if_false, ↓reduceIte, cond_true, cond_false, true_and, and_true, List.length_cons, List.length_nil, List.nil_append, List.cons_append, List.append_nil, Option.toList, Nat.reduceEqDiff, Bool.false_eq_true, reduceCtorEq, Nat.reduceAdd, Nat.reduceLT, Nat.reduceLeDiff, Nat.reduceSub, List.replicate, Nat.zero_add, Nat.lt_add_one, Nat.le_refl, Nat.zero_le, Nat.succ_ne_zero, not_false_eq_true, not_true_eq_false, false_implies, true_implies, forall_const, imp_self, true_or, or_true, eq_self, sI_zw, zw_zw, hI_zw, tg_zw, ln_zw, hR_zw, hL_zw, hN_zw, hM_zw, upd_s, upd_u, upd_ne, Classical.not_not, k_Mo_shows, h1, h2, h3, h4, t1, t2, t3, p1, p2, p3, rd, cm, u1011]; try clear hgo9 hW9); try (obtain ⟨W9, hW9, hgo9⟩ := wp_ex (T_Mo_shows l G) [] _; refine hgo9 200 _ _ _ _ ?_; simp -implicitDefEqProofs (disch := omega) only [hW9, inl, gate, Xq, tz_const, tz_iload, tz_lload, tz_dload, tz_aload, tz_istore, tz_astore, tz_lstore, tz_dstore, tz_iinc, tz_i1, tz_i2, tz_i2z, tz_l2, tz_l2z, tz_i2l, tz_l2i, tz_lcmp, tz_i2d, tz_d2, tz_dcmp, tz_dup, tz_dup2, tz_pop, tz_if, tz_icmp, tz_null, tz_goto, tz_sw, tz_getf, tz_puti, tz_putz, tz_putr, tz_putl, tz_iaload, tz_baload, tz_laload, tz_aaload, tz_iastore, tz_bastore, tz_lastore, tz_aastore, tz_alen, tz_new, tz_newa, tz_oinit, tz_iret, tz_zret, tz_lret, tz_dret, tz_aret, tz_vret, tz_throw, tz_callS, tz_callV, tz_callI, tz_callR, tz_pureS, tz_pureV, tz_callVH, lg, lset, lkill, lst1, lst2, entL, isRf, is1, vl, va_rf_none, va_rf_some, isRf_rf, is1_rf, i0, i1, bI_eq0, bI_eq1, nm_em, nI_eqP, nI_leP, nI_ltP, nN_e1, nN_e2, nN_l1, nN_l2, nN_l3, nN_l4, nI_add, pk_mul, vp_inN, nI_cl, n01, n10, P_i, P_ii, P_iii, f_Mo_at, f_Mo_map, f_Mo_contact, f_Mo_within, f_Mo_isPort, f_Hp_endpoint, f_Hp_nodeOf, f_Hp_portOf, f_Ma_max, f_Ma_min, f_Hp_isSetting, popN, rok, a1, noX, swc, mL, if_true, if_false, ↓reduceIte, cond_true, cond_false, true_and, and_true, List.length_cons, List.length_nil, List.nil_append, List.cons_append, List.append_nil, Option.toList, Nat.reduceEqDiff, Bool.false_eq_true, reduceCtorEq, Nat.reduceAdd, Nat.reduceLT, Nat.reduceLeDiff, Nat.reduceSub, List.replicate, Nat.zero_add, Nat.lt_add_one, Nat.le_refl, Nat.zero_le, Nat.succ_ne_zero, not_false_eq_true, not_true_eq_false, false_implies, true_implies, forall_const, imp_self, true_or, or_true, eq_self, sI_zw, zw_zw, hI_zw, tg_zw, ln_zw, hR_zw, hL_zw, hN_zw, hM_zw, upd_s, upd_u, upd_ne, Classical.not_not, k_Mo_shows, h1, h2, h3, h4, t1, t2, t3, p1, p2, p3, rd, cm, u1011]; try clear hgo9 hW9))
      exact hQ _ _
    · (obtain ⟨W9, hW9, hgo9⟩ := wp_ex (T_Mo_shows l G) [44] _; refine hgo9 200 _ _ _ _ ?_; simp -implicitDefEqProofs (disch := omega) only [hW9, inl, gate, Xq, tz_const, tz_iload, tz_lload, tz_dload, tz_aload, tz_istore, tz_astore, tz_lstore, tz_dstore, tz_iinc, tz_i1, tz_i2, tz_i2z, tz_l2, tz_l2z, tz_i2l, tz_l2i, tz_lcmp, tz_i2d, tz_d2, tz_dcmp, tz_dup, tz_dup2, tz_pop, tz_if, tz_icmp, tz_null, tz_goto, tz_sw, tz_getf, tz_puti, tz_putz, tz_putr, tz_putl, tz_iaload, tz_baload, tz_laload, tz_aaload, tz_iastore, tz_bastore, tz_lastore, tz_aastore, tz_alen, tz_new, tz_newa, tz_oinit, tz_iret, tz_zret, tz_lret, tz_dret, tz_aret, tz_vret, tz_throw, tz_callS, tz_callV, tz_callI, tz_callR, tz_pureS, tz_pureV, tz_callVH, lg, lset, lkill, lst1, lst2, entL, isRf, is1, vl, va_rf_none, va_rf_some, isRf_rf, is1_rf, i0, i1, bI_eq0, bI_eq1, nm_em, nI_eqP, nI_leP, nI_ltP, nN_e1, nN_e2, nN_l1, nN_l2, nN_l3, nN_l4, nI_add, pk_mul, vp_inN, nI_cl, n01, n10, P_i, P_ii, P_iii, f_Mo_at, f_Mo_map, f_Mo_contact, f_Mo_within, f_Mo_isPort, f_Hp_endpoint, f_Hp_nodeOf, f_Hp_portOf, f_Ma_max, f_Ma_min, f_Hp_isSetting, popN, rok, a1, noX, swc, mL, if_true, if_false, ↓reduceIte, cond_true, cond_false, true_and, and_true, List.length_cons, List.length_nil, List.nil_append, List.cons_append, List.append_nil, Option.toList, Nat.reduceEqDiff, Bool.false_eq_true, reduceCtorEq, Nat.reduceAdd, Nat.reduceLT, Nat.reduceLeDiff, Nat.reduceSub, List.replicate, Nat.zero_add, Nat.lt_add_one, Nat.le_refl, Nat.zero_le, Nat.succ_ne_zero, not_false_eq_true, not_true_eq_false, false_implies, true_implies, forall_const, imp_self, true_or, or_true, eq_self, sI_zw, zw_zw, hI_zw, tg_zw, ln_zw, hR_zw, hL_zw, hN_zw, hM_zw, upd_s, upd_u, upd_ne, Classical.not_not, k_Mo_shows, h1, h2, h3, h4, t1, t2, t3, p1, p2, p3, rd, cm, u1011]; try clear hgo9 hW9)
      (obtain ⟨W9, hW9, hgo9⟩ := wp_ex (T_Mo_shows l G) [44] _; refine hgo9 200 _ _ _ _ ?_; simp -implicitDefEqProofs (disch := omega) only [hW9, inl, gate, Xq, tz_const, tz_iload, tz_lload, tz_dload, tz_aload, tz_istore, tz_astore, tz_lstore, tz_dstore, tz_iinc, tz_i1, tz_i2, tz_i2z, tz_l2, tz_l2z, tz_i2l, tz_l2i, tz_lcmp, tz_i2d, tz_d2, tz_dcmp, tz_dup, tz_dup2, tz_pop, tz_if, tz_icmp, tz_null, tz_goto, tz_sw, tz_getf, tz_puti, tz_putz, tz_putr, tz_putl, tz_iaload, tz_baload, tz_laload, tz_aaload, tz_iastore, tz_bastore, tz_lastore, tz_aastore, tz_alen, tz_new, tz_newa, tz_oinit, tz_iret, tz_zret, tz_lret, tz_dret, tz_aret, tz_vret, tz_throw, tz_callS, tz_callV, tz_callI, tz_callR, tz_pureS, tz_pureV, tz_callVH, lg, lset, lkill, lst1, lst2, entL, isRf, is1, vl, va_rf_none, va_rf_some, isRf_rf, is1_rf, i0, i1, bI_eq0, bI_eq1, nm_em, nI_eqP, nI_leP, nI_ltP, nN_e1, nN_e2, nN_l1, nN_l2, nN_l3, nN_l4, nI_add, pk_mul, vp_inN, nI_cl, n01, n10, P_i, P_ii, P_iii, f_Mo_at, f_Mo_map, f_Mo_contact, f_Mo_within, f_Mo_isPort, f_Hp_endpoint, f_Hp_nodeOf, f_Hp_portOf, f_Ma_max, f_Ma_min, f_Hp_isSetting, popN, rok, a1, noX, swc, mL, if_true, if_false, ↓reduceIte, cond_true, cond_false, true_and, and_true, List.length_cons, List.length_nil, List.nil_append, List.cons_append, List.append_nil, Option.toList, Nat.reduceEqDiff, Bool.false_eq_true, reduceCtorEq, Nat.reduceAdd, Nat.reduceLT, Nat.reduceLeDiff, Nat.reduceSub, List.replicate, Nat.zero_add, Nat.lt_add_one, Nat.le_refl, Nat.zero_le, Nat.succ_ne_zero, not_false_eq_true, not_true_eq_false, false_implies, true_implies, forall_const, imp_self, true_or, or_true, eq_self, sI_zw, zw_zw, hI_zw, tg_zw, ln_zw, hR_zw, hL_zw, hN_zw, hM_zw, upd_s, upd_u, upd_ne, Classical.not_not, k_Mo_shows, h1, h2, h3, h4, t1, t2, t3, p1, p2, p3, rd, cm, u1011]; try clear hgo9 hW9)
      unfold ahd at hQ
      ((obtain ⟨W9, hW9, hgo9⟩ := wp_ex (T_Mo_shows l G) [85] _; refine hgo9 200 _ _ _ _ ?_; simp -implicitDefEqProofs (disch := omega) only [hW9, inl, gate, Xq, tz_const, tz_iload, tz_lload, tz_dload, tz_aload, tz_istore, tz_astore, tz_lstore, tz_dstore, tz_iinc, tz_i1, tz_i2, tz_i2z, tz_l2, tz_l2z, tz_i2l, tz_l2i, tz_lcmp, tz_i2d, tz_d2, tz_dcmp, tz_dup, tz_dup2, tz_pop, tz_if, tz_icmp, tz_null, tz_goto, tz_sw, tz_getf, tz_puti, tz_putz, tz_putr, tz_putl, tz_iaload, tz_baload, tz_laload, tz_aaload, tz_iastore, tz_bastore, tz_lastore, tz_aastore, tz_alen, tz_new, tz_newa, tz_oinit, tz_iret, tz_zret, tz_lret, tz_dret, tz_aret, tz_vret, tz_throw, tz_callS, tz_callV, tz_callI, tz_callR, tz_pureS, tz_pureV, tz_callVH, lg, lset, lkill, lst1, lst2, entL, isRf, is1, vl, va_rf_none, va_rf_some, isRf_rf, is1_rf, i0, i1, bI_eq0, bI_eq1, nm_em, nI_eqP, nI_leP, nI_ltP, nN_e1, nN_e2, nN_l1, nN_l2, nN_l3, nN_l4, nI_add, pk_mul, vp_inN, nI_cl, n01, n10, P_i, P_ii, P_iii, f_Mo_at, f_Mo_map, f_Mo_contact, f_Mo_within, f_Mo_isPort, f_Hp_endpoint, f_Hp_nodeOf, f_Hp_portOf, f_Ma_max, f_Ma_min, f_Hp_isSetting, popN, rok, a1, noX, swc, mL, if_true, if_false, ↓reduceIte, cond_true, cond_false, true_and, and_true, List.length_cons, List.length_nil, List.nil_append, List.cons_append, List.append_nil, Option.toList, Nat.reduceEqDiff, Bool.false_eq_true, reduceCtorEq, Nat.reduceAdd, Nat.reduceLT, Nat.reduceLeDiff, Nat.reduceSub, List.replicate, Nat.zero_add, Nat.lt_add_one, Nat.le_refl, Nat.zero_le, Nat.succ_ne_zero, not_false_eq_true, not_true_eq_false, false_implies, true_implies, forall_const, imp_self, true_or, or_true, eq_self, sI_zw, zw_zw, hI_zw, tg_zw, ln_zw, hR_zw, hL_zw, hN_zw, hM_zw, upd_s, upd_u, upd_ne, Classical.not_not, k_Mo_shows, h1, h2, h3, h4, t1, t2, t3, p1, p2, p3, rd, cm, u1011, upd_self]; try clear hgo9 hW9); try (obtain ⟨W9, hW9, hgo9⟩ := wp_ex (T_Mo_shows l G) [85] _; refine hgo9 200 _ _ _ _ ?_; simp -implicitDefEqProofs (disch := omega) only [hW9, inl, gate, Xq, tz_const, tz_iload, tz_lload, tz_dload, tz_aload, tz_istore, tz_astore, tz_lstore, tz_dstore, tz_iinc, tz_i1, tz_i2, tz_i2z, tz_l2, tz_l2z, tz_i2l, tz_l2i, tz_lcmp, tz_i2d, tz_d2, tz_dcmp, tz_dup, tz_dup2, tz_pop, tz_if, tz_icmp, tz_null, tz_goto, tz_sw, tz_getf, tz_puti, tz_putz, tz_putr, tz_putl, tz_iaload, tz_baload, tz_laload, tz_aaload, tz_iastore, tz_bastore, tz_lastore, tz_aastore, tz_alen, tz_new, tz_newa, tz_oinit, tz_iret, tz_zret, tz_lret, tz_dret, tz_aret, tz_vret, tz_throw, tz_callS, tz_callV, tz_callI, tz_callR, tz_pureS, tz_pureV, tz_callVH, lg, lset, lkill, lst1, lst2, entL, isRf, is1, vl, va_rf_none, va_rf_some, isRf_rf, is1_rf, i0, i1, bI_eq0, bI_eq1, nm_em, nI_eqP, nI_leP, nI_ltP, nN_e1, nN_e2, nN_l1, nN_l2, nN_l3, nN_l4, nI_add, pk_mul, vp_inN, nI_cl, n01, n10, P_i, P_ii, P_iii, f_Mo_at, f_Mo_map, f_Mo_contact, f_Mo_within, f_Mo_isPort, f_Hp_endpoint, f_Hp_nodeOf, f_Hp_portOf, f_Ma_max, f_Ma_min, f_Hp_isSetting, popN, rok, a1, noX, swc, mL, if_true, if_false, ↓reduceIte, cond_true, cond_false, true_and, and_true, List.length_cons, List.length_nil, List.nil_append, List.cons_append, List.append_nil, Option.toList, Nat.reduceEqDiff, Bool.false_eq_true, reduceCtorEq, Nat.reduceAdd, Nat.reduceLT, Nat.reduceLeDiff, Nat.reduceSub, List.replicate, Nat.zero_add, Nat.lt_add_one, Nat.le_refl, Nat.zero_le, Nat.succ_ne_zero, not_false_eq_true, not_true_eq_false, false_implies, true_implies, forall_const, imp_self, true_or, or_true, eq_self, sI_zw, zw_zw, hI_zw, tg_zw, ln_zw, hR_zw, hL_zw, hN_zw, hM_zw, upd_s, upd_u, upd_ne, Classical.not_not, k_Mo_shows, h1, h2, h3, h4, t1, t2, t3, p1, p2, p3, rd, cm, u1011, upd_self]; try clear hgo9 hW9))
      (obtain ⟨W9, hW9, hgo9⟩ := wp_ex (T_Mo_shows l G) [] _; refine hgo9 200 _ _ _ _ ?_; simp -implicitDefEqProofs (disch := omega) only [hW9, inl, gate, Xq, tz_const, tz_iload, tz_lload, tz_dload, tz_aload, tz_istore, tz_astore, tz_lstore, tz_dstore, tz_iinc, tz_i1, tz_i2, tz_i2z, tz_l2, tz_l2z, tz_i2l, tz_l2i, tz_lcmp, tz_i2d, tz_d2, tz_dcmp, tz_dup, tz_dup2, tz_pop, tz_if, tz_icmp, tz_null, tz_goto, tz_sw, tz_getf, tz_puti, tz_putz, tz_putr, tz_putl, tz_iaload, tz_baload, tz_laload, tz_aaload, tz_iastore, tz_bastore, tz_lastore, tz_aastore, tz_alen, tz_new, tz_newa, tz_oinit, tz_iret, tz_zret, tz_lret, tz_dret, tz_aret, tz_vret, tz_throw, tz_callS, tz_callV, tz_callI, tz_callR, tz_pureS, tz_pureV, tz_callVH, lg, lset, lkill, lst1, lst2, entL, isRf, is1, vl, va_rf_none, va_rf_some, isRf_rf, is1_rf, i0, i1, bI_eq0, bI_eq1, nm_em, nI_eqP, nI_leP, nI_ltP, nN_e1, nN_e2, nN_l1, nN_l2, nN_l3, nN_l4, nI_add, pk_mul, vp_inN, nI_cl, n01, n10, P_i, P_ii, P_iii, f_Mo_at, f_Mo_map, f_Mo_contact, f_Mo_within, f_Mo_isPort, f_Hp_endpoint, f_Hp_nodeOf, f_Hp_portOf, f_Ma_max, f_Ma_min, f_Hp_isSetting, popN, rok, a1, noX, swc, mL, if_true, if_false, ↓reduceIte, cond_true, cond_false, true_and, and_true, List.length_cons, List.length_nil, List.nil_append, List.cons_append, List.append_nil, Option.toList, Nat.reduceEqDiff, Bool.false_eq_true, reduceCtorEq, Nat.reduceAdd, Nat.reduceLT, Nat.reduceLeDiff, Nat.reduceSub, List.replicate, Nat.zero_add, Nat.lt_add_one, Nat.le_refl, Nat.zero_le, Nat.succ_ne_zero, not_false_eq_true, not_true_eq_false, false_implies, true_implies, forall_const, imp_self, true_or, or_true, eq_self, sI_zw, zw_zw, hI_zw, tg_zw, ln_zw, hR_zw, hL_zw, hN_zw, hM_zw, upd_s, upd_u, upd_ne, Classical.not_not, k_Mo_shows, h1]; try clear hgo9 hW9)
      refine ⟨fun c => ?_, fun c => ?_⟩
      · rw [if_neg c] at hQ
        (obtain ⟨W9, hW9, hgo9⟩ := wp_ex (T_Mo_shows l G) [] _; refine hgo9 200 _ _ _ _ ?_; simp -implicitDefEqProofs (disch := omega) only [hW9, inl, gate, Xq, tz_const, tz_iload, tz_lload, tz_dload, tz_aload, tz_istore, tz_astore, tz_lstore, tz_dstore, tz_iinc, tz_i1, tz_i2, tz_i2z, tz_l2, tz_l2z, tz_i2l, tz_l2i, tz_lcmp, tz_i2d, tz_d2, tz_dcmp, tz_dup, tz_dup2, tz_pop, tz_if, tz_icmp, tz_null, tz_goto, tz_sw, tz_getf, tz_puti, tz_putz, tz_putr, tz_putl, tz_iaload, tz_baload, tz_laload, tz_aaload, tz_iastore, tz_bastore, tz_lastore, tz_aastore, tz_alen, tz_new, tz_newa, tz_oinit, tz_iret, tz_zret, tz_lret, tz_dret, tz_aret, tz_vret, tz_throw, tz_callS, tz_callV, tz_callI, tz_callR, tz_pureS, tz_pureV, tz_callVH, lg, lset, lkill, lst1, lst2, entL, isRf, is1, vl, va_rf_none, va_rf_some, isRf_rf, is1_rf, i0, i1, bI_eq0, bI_eq1, nm_em, nI_eqP, nI_leP, nI_ltP, nN_e1, nN_e2, nN_l1, nN_l2, nN_l3, nN_l4, nI_add, pk_mul, vp_inN, nI_cl, n01, n10, P_i, P_ii, P_iii, f_Mo_at, f_Mo_map, f_Mo_contact, f_Mo_within, f_Mo_isPort, f_Hp_endpoint, f_Hp_nodeOf, f_Hp_portOf, f_Ma_max, f_Ma_min, f_Hp_isSetting, popN, rok, a1, noX, swc, mL, if_true, if_false, ↓reduceIte, cond_true, cond_false, true_and, and_true, List.length_cons, List.length_nil, List.nil_append, List.cons_append, List.append_nil, Option.toList, Nat.reduceEqDiff, Bool.false_eq_true, reduceCtorEq, Nat.reduceAdd, Nat.reduceLT, Nat.reduceLeDiff, Nat.reduceSub, List.replicate, Nat.zero_add, Nat.lt_add_one, Nat.le_refl, Nat.zero_le, Nat.succ_ne_zero, not_false_eq_true, not_true_eq_false, false_implies, true_implies, forall_const, imp_self, true_or, or_true, eq_self, sI_zw, zw_zw, hI_zw, tg_zw, ln_zw, hR_zw, hL_zw, hN_zw, hM_zw, upd_s, upd_u, upd_ne, Classical.not_not, k_Mo_shows, h1, h2, h3, h4, t1, t2, t3, p1, p2, p3, rd, cm]; try clear hgo9 hW9)
        exact hQ _ _
      · rw [if_pos c] at hQ
        (obtain ⟨W9, hW9, hgo9⟩ := wp_ex (T_Mo_shows l G) [] _; refine hgo9 200 _ _ _ _ ?_; simp -implicitDefEqProofs (disch := omega) only [hW9, inl, gate, Xq, tz_const, tz_iload, tz_lload, tz_dload, tz_aload, tz_istore, tz_astore, tz_lstore, tz_dstore, tz_iinc, tz_i1, tz_i2, tz_i2z, tz_l2, tz_l2z, tz_i2l, tz_l2i, tz_lcmp, tz_i2d, tz_d2, tz_dcmp, tz_dup, tz_dup2, tz_pop, tz_if, tz_icmp, tz_null, tz_goto, tz_sw, tz_getf, tz_puti, tz_putz, tz_putr, tz_putl, tz_iaload, tz_baload, tz_laload, tz_aaload, tz_iastore, tz_bastore, tz_lastore, tz_aastore, tz_alen, tz_new, tz_newa, tz_oinit, tz_iret, tz_zret, tz_lret, tz_dret, tz_aret, tz_vret, tz_throw, tz_callS, tz_callV, tz_callI, tz_callR, tz_pureS, tz_pureV, tz_callVH, lg, lset, lkill, lst1, lst2, entL, isRf, is1, vl, va_rf_none, va_rf_some, isRf_rf, is1_rf, i0, i1, bI_eq0, bI_eq1, nm_em, nI_eqP, nI_leP, nI_ltP, nN_e1, nN_e2, nN_l1, nN_l2, nN_l3, nN_l4, nI_add, pk_mul, vp_inN, nI_cl, n01, n10, P_i, P_ii, P_iii, f_Mo_at, f_Mo_map, f_Mo_contact, f_Mo_within, f_Mo_isPort, f_Hp_endpoint, f_Hp_nodeOf, f_Hp_portOf, f_Ma_max, f_Ma_min, f_Hp_isSetting, popN, rok, a1, noX, swc, mL, if_true, if_false, ↓reduceIte, cond_true, cond_false, true_and, and_true, List.length_cons, List.length_nil, List.nil_append, List.cons_append, List.append_nil, Option.toList, Nat.reduceEqDiff, Bool.false_eq_true, reduceCtorEq, Nat.reduceAdd, Nat.reduceLT, Nat.reduceLeDiff, Nat.reduceSub, List.replicate, Nat.zero_add, Nat.lt_add_one, Nat.le_refl, Nat.zero_le, Nat.succ_ne_zero, not_false_eq_true, not_true_eq_false, false_implies, true_implies, forall_const, imp_self, true_or, or_true, eq_self, sI_zw, zw_zw, hI_zw, tg_zw, ln_zw, hR_zw, hL_zw, hN_zw, hM_zw, upd_s, upd_u, upd_ne, Classical.not_not, k_Mo_shows, h1, h2, h3, h4, t1, t2, t3, p1, p2, p3, rd, cm]; try clear hgo9 hW9)
        exact hQ _ _
end
/-- host n, whose own number is o, sends to its target; s is the other one -/
def TryR (n o s : Nat) (z tn tp hd z' tn' tp' hd' : Nat → Int32) : Prop := ∃ b r, tn o = nI b ∧ SndR z n (nI 500) b (tp o) r z' ∧ s < 10 ∧
  ((¬ (r = nI s ∧ z' (16 + 16 * s + 14) = nI 500) ∧ tn' = tn ∧ tp' = tp ∧ hd' = hd) ∨
    (r = nI s ∧ z' (16 + 16 * s + 14) = nI 500 ∧ tn' = upd tn (1 - o) (z' (16 + 16 * s + 12)) ∧ tp' = upd tp (1 - o) (z' (16 + 16 * s + 13)) ∧ hd' = upd hd (1 - o) (nI 1)))
section
variable {l : Launch} {G : Gc}
theorem c_Mo_tries (a zr tA pA eA n o s : Nat) (x y : Int32) (z tn tp hd z' tn' tp' hd' : Nat → Int32) (h : AH) (Q : Po) (hp : MoP h a zr tA pA eA) (ho : o < 2) (hs : TryR n o s z tn tp hd z' tn' tp' hd')
    (hQ : ∀ x y, Q (.inl none) (mw h a zr tA pA eA z' tn' tp' hd' x y)) : Call l G M_Mo_tries [.ref a, .int (nI n), .int (nI o), .int (nI s)] (mw h a zr tA pA eA z tn tp hd x y) Q := by
  have rd := mo_rd hp
  have cm := mo_cm hp
  obtain ⟨⟨h1, h2, h3, h4⟩, ⟨t1, t2, t3⟩, ⟨p1, p2, p3⟩, ⟨e1, e2, e3⟩, -⟩ := id hp
  unfold mw at hQ ⊢
  obtain ⟨b, r, eb, hs, s10, hr⟩ := hs
  refine call_of rfl rfl (Nat.le_of_ble_eq_true rfl) ?_
  (obtain ⟨W9, hW9, hgo9⟩ := wp_ex (T_Mo_tries l G) [] _; refine hgo9 200 _ _ _ _ ?_; simp -implicitDefEqProofs (disch := omega) only [hW9, inl, gate, Xq, tz_const, tz_iload, tz_lload, tz_dload, tz_aload, tz_istore, tz_astore, tz_lstore, tz_dstore, tz_iinc, tz_i1, tz_i2, tz_i2z, tz_l2, tz_l2z, tz_i2l, tz_l2i, tz_lcmp, tz_i2d, tz_d2, tz_dcmp, tz_dup, tz_dup2, tz_pop, tz_if, tz_icmp, tz_null, tz_goto, tz_sw, tz_getf, tz_puti, tz_putz, tz_putr, tz_putl, tz_iaload, tz_baload, tz_laload, tz_aaload, tz_iastore, tz_bastore, tz_lastore, tz_aastore, tz_alen, tz_new, tz_newa, tz_oinit, tz_iret, tz_zret, tz_lret, tz_dret, tz_aret, tz_vret, tz_throw, tz_callS, tz_callV, tz_callI, tz_callR, tz_pureS, tz_pureV, tz_callVH, lg, lset, lkill, lst1, lst2, entL, isRf, is1, vl, va_rf_none, va_rf_some, isRf_rf, is1_rf, i0, i1, bI_eq0, bI_eq1, nm_em, nI_eqP, nI_leP, nI_ltP, nN_e1, nN_e2, nN_l1, nN_l2, nN_l3, nN_l4, nI_add, pk_mul, vp_inN, nI_cl, n01, n10, P_i, P_ii, P_iii, f_Mo_at, f_Mo_map, f_Mo_contact, f_Mo_within, f_Mo_isPort, f_Hp_endpoint, f_Hp_nodeOf, f_Hp_portOf, f_Ma_max, f_Ma_min, f_Hp_isSetting, popN, rok, a1, noX, swc, mL, if_true, if_false, ↓reduceIte, cond_true, cond_false, true_and, and_true, List.length_cons, List.length_nil, List.nil_append, List.cons_append, List.append_nil, Option.toList, Nat.reduceEqDiff, Bool.false_eq_true, reduceCtorEq, Nat.reduceAdd, Nat.reduceLT, Nat.reduceLeDiff, Nat.reduceSub, List.replicate, Nat.zero_add, Nat.lt_add_one, Nat.le_refl, Nat.zero_le, Nat.succ_ne_zero, not_false_eq_true, not_true_eq_false, false_implies, true_implies, forall_const, imp_self, true_or, or_true, eq_self, sI_zw, zw_zw, hI_zw, tg_zw, ln_zw, hR_zw, hL_zw, hN_zw, hM_zw, upd_s, upd_u, upd_ne, Classical.not_not, k_Mo_tries, h1, t1, t2, t3, p1, p2, p3, rd, eb]; try clear hgo9 hW9)
  refine m_sends a zr n b (nI 500) (tp o) r z' _ _ hp.1 (by simp only [rd, hI_zw]; exact hs) (fun x y => ?_)
  simp only [aft]
  rcases hr with ⟨c, rfl, rfl, rfl⟩ | ⟨rfl, c, rfl, rfl, rfl⟩
  · by_cases c1 : r = nI s
    · have c2 : ¬ z' (16 + 16 * s + 14) = nI 500 := fun q => c ⟨c1, q⟩
      subst c1
      ((obtain ⟨W9, hW9, hgo9⟩ := wp_ex (T_Mo_tries l G) [] _; refine hgo9 200 _ _ _ _ ?_; simp -implicitDefEqProofs (disch := omega) only [hW9, inl, gate, Xq, tz_const, tz_iload, tz_lload, tz_dload, tz_aload, tz_istore, tz_astore, tz_lstore, tz_dstore, tz_iinc, tz_i1, tz_i2, tz_i2z, tz_l2, tz_l2z, tz_i2l, tz_l2i, tz_lcmp, tz_i2d, tz_d2, tz_dcmp, tz_dup, tz_dup2, tz_pop, tz_if, tz_icmp, tz_null, tz_goto, tz_sw, tz_getf, tz_puti, tz_putz, tz_putr, tz_putl, tz_iaload, tz_baload, tz_laload, tz_aaload, tz_iastore, tz_bastore, tz_lastore, tz_aastore, tz_alen, tz_new, tz_newa, tz_oinit, tz_iret, tz_zret, tz_lret, tz_dret, tz_aret, tz_vret, tz_throw, tz_callS, tz_callV, tz_callI, tz_callR, tz_pureS, tz_pureV, tz_callVH, lg, lset, lkill, lst1, lst2, entL, isRf, is1, vl, va_rf_none, va_rf_some, isRf_rf, is1_rf, i0, i1, bI_eq0, bI_eq1, nm_em, nI_eqP, nI_leP, nI_ltP, nN_e1, nN_e2, nN_l1, nN_l2, nN_l3, nN_l4, nI_add, pk_mul, vp_inN, nI_cl, n01, n10, P_i, P_ii, P_iii, f_Mo_at, f_Mo_map, f_Mo_contact, f_Mo_within, f_Mo_isPort, f_Hp_endpoint, f_Hp_nodeOf, f_Hp_portOf, f_Ma_max, f_Ma_min, f_Hp_isSetting, popN, rok, a1, noX, swc, mL, if_true, if_false, ↓reduceIte, cond_true, cond_false, true_and, and_true, List.length_cons, List.length_nil, List.nil_append, List.cons_append, List.append_nil, Option.toList, Nat.reduceEqDiff, Bool.false_eq_true, reduceCtorEq, Nat.reduceAdd, Nat.reduceLT, Nat.reduceLeDiff, Nat.reduceSub, List.replicate, Nat.zero_add, Nat.lt_add_one, Nat.le_refl, Nat.zero_le, Nat.succ_ne_zero, not_false_eq_true, not_true_eq_false, false_implies, true_implies, forall_const, imp_self, true_or, or_true, eq_self, sI_zw, zw_zw, hI_zw, tg_zw, ln_zw, hR_zw, hL_zw, hN_zw, hM_zw, upd_s, upd_u, upd_ne, Classical.not_not, k_Mo_tries, h1, h2, h3, h4, rd, cm, u1011, c2]; try clear hgo9 hW9); try (obtain ⟨W9, hW9, hgo9⟩ := wp_ex (T_Mo_tries l G) [] _; refine hgo9 200 _ _ _ _ ?_; simp -implicitDefEqProofs (disch := omega) only [hW9, inl, gate, Xq, tz_const, tz_iload, tz_lload, tz_dload, tz_aload, tz_istore, tz_astore, tz_lstore, tz_dstore, tz_iinc, tz_i1, tz_i2, tz_i2z, tz_l2, tz_l2z, tz_i2l, tz_l2i, tz_lcmp, tz_i2d, tz_d2, tz_dcmp, tz_dup, tz_dup2, tz_pop, tz_if, tz_icmp, tz_null, tz_goto, tz_sw, tz_getf, tz_puti, tz_putz, tz_putr, tz_putl, tz_iaload, tz_baload, tz_laload, tz_aaload, tz_iastore, tz_bastore, tz_lastore, tz_aastore, tz_alen, tz_new, tz_newa, tz_oinit, tz_iret, tz_zret, tz_lret, tz_dret, tz_aret, tz_vret, tz_throw, tz_callS, tz_callV, tz_callI, tz_callR, tz_pureS, tz_pureV, tz_callVH, lg, lset, lkill, lst1, lst2, entL, isRf, is1, vl, va_rf_none, va_rf_some, isRf_rf, is1_rf, i0, i1, bI_eq0, bI_eq1, nm_em, nI_eqP, nI_leP, nI_ltP, nN_e1, nN_e2, nN_l1, nN_l2, nN_l3, nN_l4, nI_add, pk_mul, vp_inN, nI_cl, n01, n10, P_i, P_ii, P_iii, f_Mo_at, f_Mo_map, f_Mo_contact, f_Mo_within, f_Mo_isPort, f_Hp_endpoint, f_Hp_nodeOf, f_Hp_portOf, f_Ma_max, f_Ma_min, f_Hp_isSetting, popN, rok, a1, noX, swc, mL, if_true, if_false, ↓reduceIte, cond_true, cond_false, true_and, and_true, List.length_cons, List.length_nil, List.nil_append, List.cons_append, List.append_nil, Option.toList, Nat.reduceEqDiff, Bool.false_eq_true, reduceCtorEq, Nat.reduceAdd, Nat.reduceLT, Nat.reduceLeDiff, Nat.reduceSub, List.replicate, Nat.zero_add, Nat.lt_add_one, Nat.le_refl, Nat.zero_le, Nat.succ_ne_zero, not_false_eq_true, not_true_eq_false, false_implies, true_implies, forall_const, imp_self, true_or, or_true, eq_self, sI_zw, zw_zw, hI_zw, tg_zw, ln_zw, hR_zw, hL_zw, hN_zw, hM_zw, upd_s, upd_u, upd_ne, Classical.not_not, k_Mo_tries, h1, h2, h3, h4, rd, cm, u1011, c2]; try clear hgo9 hW9); try (obtain ⟨W9, hW9, hgo9⟩ := wp_ex (T_Mo_tries l G) [] _; refine hgo9 200 _ _ _ _ ?_; simp -implicitDefEqProofs (disch := omega) only [hW9, inl, gate, Xq, tz_const, tz_iload, tz_lload, tz_dload, tz_aload, tz_istore, tz_astore, tz_lstore, tz_dstore, tz_iinc, tz_i1, tz_i2, tz_i2z, tz_l2, tz_l2z, tz_i2l, tz_l2i, tz_lcmp, tz_i2d, tz_d2, tz_dcmp, tz_dup, tz_dup2, tz_pop, tz_if, tz_icmp, tz_null, tz_goto, tz_sw, tz_getf, tz_puti, tz_putz, tz_putr, tz_putl, tz_iaload, tz_baload, tz_laload, tz_aaload, tz_iastore, tz_bastore, tz_lastore, tz_aastore, tz_alen, tz_new, tz_newa, tz_oinit, tz_iret, tz_zret, tz_lret, tz_dret, tz_aret, tz_vret, tz_throw, tz_callS, tz_callV, tz_callI, tz_callR, tz_pureS, tz_pureV, tz_callVH, lg, lset, lkill, lst1, lst2, entL, isRf, is1, vl, va_rf_none, va_rf_some, isRf_rf, is1_rf, i0, i1, bI_eq0, bI_eq1, nm_em, nI_eqP, nI_leP, nI_ltP, nN_e1, nN_e2, nN_l1, nN_l2, nN_l3, nN_l4, nI_add, pk_mul, vp_inN, nI_cl, n01, n10, P_i, P_ii, P_iii, f_Mo_at, f_Mo_map, f_Mo_contact, f_Mo_within, f_Mo_isPort, f_Hp_endpoint, f_Hp_nodeOf, f_Hp_portOf, f_Ma_max, f_Ma_min, f_Hp_isSetting, popN, rok, a1, noX, swc, mL, if_true, if_false, ↓reduceIte, cond_true, cond_false, true_and, and_true, List.length_cons, List.length_nil, List.nil_append, List.cons_append, List.append_nil, Option.toList, Nat.reduceEqDiff, Bool.false_eq_true, reduceCtorEq, Nat.reduceAdd, Nat.reduceLT, Nat.reduceLeDiff, Nat.reduceSub, List.replicate, Nat.zero_add, Nat.lt_add_one, Nat.le_refl, Nat.zero_le, Nat.succ_ne_zero, not_false_eq_true, not_true_eq_false, false_implies, true_implies, forall_const, imp_self, true_or, or_true, eq_self, sI_zw, zw_zw, hI_zw, tg_zw, ln_zw, hR_zw, hL_zw, hN_zw, hM_zw, upd_s, upd_u, upd_ne, Classical.not_not, k_Mo_tries, h1, h2, h3, h4, rd, cm, u1011, c2]; try clear hgo9 hW9))
      exact hQ _ _
    · ((obtain ⟨W9, hW9, hgo9⟩ := wp_ex (T_Mo_tries l G) [] _; refine hgo9 200 _ _ _ _ ?_; simp -implicitDefEqProofs (disch := omega) only [hW9, inl, gate, Xq, tz_const, tz_iload, tz_lload, tz_dload, tz_aload, tz_istore, tz_astore, tz_lstore, tz_dstore, tz_iinc, tz_i1, tz_i2, tz_i2z, tz_l2, tz_l2z, tz_i2l, tz_l2i, tz_lcmp, tz_i2d, tz_d2, tz_dcmp, tz_dup, tz_dup2, tz_pop, tz_if, tz_icmp, tz_null, tz_goto, tz_sw, tz_getf, tz_puti, tz_putz, tz_putr, tz_putl, tz_iaload, tz_baload, tz_laload, tz_aaload, tz_iastore, tz_bastore, tz_lastore, tz_aastore, tz_alen, tz_new, tz_newa, tz_oinit, tz_iret, tz_zret, tz_lret, tz_dret, tz_aret, tz_vret, tz_throw, tz_callS, tz_callV, tz_callI, tz_callR, tz_pureS, tz_pureV, tz_callVH, lg, lset, lkill, lst1, lst2, entL, isRf, is1, vl, va_rf_none, va_rf_some, isRf_rf, is1_rf, i0, i1, bI_eq0, bI_eq1, nm_em, nI_eqP, nI_leP, nI_ltP, nN_e1, nN_e2, nN_l1, nN_l2, nN_l3, nN_l4, nI_add, pk_mul, vp_inN, nI_cl, n01, n10, P_i, P_ii, P_iii, f_Mo_at, f_Mo_map, f_Mo_contact, f_Mo_within, f_Mo_isPort, f_Hp_endpoint, f_Hp_nodeOf, f_Hp_portOf, f_Ma_max, f_Ma_min, f_Hp_isSetting, popN, rok, a1, noX, swc, mL, if_true, if_false, ↓reduceIte, cond_true, cond_false, true_and, and_true, List.length_cons, List.length_nil, List.nil_append, List.cons_append, List.append_nil, Option.toList, Nat.reduceEqDiff, Bool.false_eq_true, reduceCtorEq, Nat.reduceAdd, Nat.reduceLT, Nat.reduceLeDiff, Nat.reduceSub, List.replicate, Nat.zero_add, Nat.lt_add_one, Nat.le_refl, Nat.zero_le, Nat.succ_ne_zero, not_false_eq_true, not_true_eq_false, false_implies, true_implies, forall_const, imp_self, true_or, or_true, eq_self, sI_zw, zw_zw, hI_zw, tg_zw, ln_zw, hR_zw, hL_zw, hN_zw, hM_zw, upd_s, upd_u, upd_ne, Classical.not_not, k_Mo_tries, h1, rd, cm, u1011, c1]; try clear hgo9 hW9); try (obtain ⟨W9, hW9, hgo9⟩ := wp_ex (T_Mo_tries l G) [] _; refine hgo9 200 _ _ _ _ ?_; simp -implicitDefEqProofs (disch := omega) only [hW9, inl, gate, Xq, tz_const, tz_iload, tz_lload, tz_dload, tz_aload, tz_istore, tz_astore, tz_lstore, tz_dstore, tz_iinc, tz_i1, tz_i2, tz_i2z, tz_l2, tz_l2z, tz_i2l, tz_l2i, tz_lcmp, tz_i2d, tz_d2, tz_dcmp, tz_dup, tz_dup2, tz_pop, tz_if, tz_icmp, tz_null, tz_goto, tz_sw, tz_getf, tz_puti, tz_putz, tz_putr, tz_putl, tz_iaload, tz_baload, tz_laload, tz_aaload, tz_iastore, tz_bastore, tz_lastore, tz_aastore, tz_alen, tz_new, tz_newa, tz_oinit, tz_iret, tz_zret, tz_lret, tz_dret, tz_aret, tz_vret, tz_throw, tz_callS, tz_callV, tz_callI, tz_callR, tz_pureS, tz_pureV, tz_callVH, lg, lset, lkill, lst1, lst2, entL, isRf, is1, vl, va_rf_none, va_rf_some, isRf_rf, is1_rf, i0, i1, bI_eq0, bI_eq1, nm_em, nI_eqP, nI_leP, nI_ltP, nN_e1, nN_e2, nN_l1, nN_l2, nN_l3, nN_l4, nI_add, pk_mul, vp_inN, nI_cl, n01, n10, P_i, P_ii, P_iii, f_Mo_at, f_Mo_map, f_Mo_contact, f_Mo_within, f_Mo_isPort, f_Hp_endpoint, f_Hp_nodeOf, f_Hp_portOf, f_Ma_max, f_Ma_min, f_Hp_isSetting, popN, rok, a1, noX, swc, mL, if_true, if_false, ↓reduceIte, cond_true, cond_false, true_and, and_true, List.length_cons, List.length_nil, List.nil_append, List.cons_append, List.append_nil, Option.toList, Nat.reduceEqDiff, Bool.false_eq_true, reduceCtorEq, Nat.reduceAdd, Nat.reduceLT, Nat.reduceLeDiff, Nat.reduceSub, List.replicate, Nat.zero_add, Nat.lt_add_one, Nat.le_refl, Nat.zero_le, Nat.succ_ne_zero, not_false_eq_true, not_true_eq_false, false_implies, true_implies, forall_const, imp_self, true_or, or_true, eq_self, sI_zw, zw_zw, hI_zw, tg_zw, ln_zw, hR_zw, hL_zw, hN_zw, hM_zw, upd_s, upd_u, upd_ne, Classical.not_not, k_Mo_tries, h1, rd, cm, u1011, c1]; try clear hgo9 hW9); try (obtain ⟨W9, hW9, hgo9⟩ := wp_ex (T_Mo_tries l G) [] _; refine hgo9 200 _ _ _ _ ?_; simp -implicitDefEqProofs (disch := omega) only [hW9, inl, gate, Xq, tz_const, tz_iload, tz_lload, tz_dload, tz_aload, tz_istore, tz_astore, tz_lstore, tz_dstore, tz_iinc, tz_i1, tz_i2, tz_i2z, tz_l2, tz_l2z, tz_i2l, tz_l2i, tz_lcmp, tz_i2d, tz_d2, tz_dcmp, tz_dup, tz_dup2, tz_pop, tz_if, tz_icmp, tz_null, tz_goto, tz_sw, tz_getf, tz_puti, tz_putz, tz_putr, tz_putl, tz_iaload, tz_baload, tz_laload, tz_aaload, tz_iastore, tz_bastore, tz_lastore, tz_aastore, tz_alen, tz_new, tz_newa, tz_oinit, tz_iret, tz_zret, tz_lret, tz_dret, tz_aret, tz_vret, tz_throw, tz_callS, tz_callV, tz_callI, tz_callR, tz_pureS, tz_pureV, tz_callVH, lg, lset, lkill, lst1, lst2, entL, isRf, is1, vl, va_rf_none, va_rf_some, isRf_rf, is1_rf, i0, i1, bI_eq0, bI_eq1, nm_em, nI_eqP, nI_leP, nI_ltP, nN_e1, nN_e2, nN_l1, nN_l2, nN_l3, nN_l4, nI_add, pk_mul, vp_inN, nI_cl, n01, n10, P_i, P_ii, P_iii, f_Mo_at, f_Mo_map, f_Mo_contact, f_Mo_within, f_Mo_isPort, f_Hp_endpoint, f_Hp_nodeOf, f_Hp_portOf, f_Ma_max, f_Ma_min, f_Hp_isSetting, popN, rok, a1, noX, swc, mL, if_true, if_false, ↓reduceIte, cond_true, cond_false, true_and, and_true, List.length_cons, List.length_nil, List.nil_append, List.cons_append, List.append_nil, Option.toList, Nat.reduceEqDiff, Bool.false_eq_true, reduceCtorEq, Nat.reduceAdd, Nat.reduceLT, Nat.reduceLeDiff, Nat.reduceSub, List.replicate, Nat.zero_add, Nat.lt_add_one, Nat.le_refl, Nat.zero_le, Nat.succ_ne_zero, not_false_eq_true, not_true_eq_false, false_implies, true_implies, forall_const, imp_self, true_or, or_true, eq_self, sI_zw, zw_zw, hI_zw, tg_zw, ln_zw, hR_zw, hL_zw, hN_zw, hM_zw, upd_s, upd_u, upd_ne, Classical.not_not, k_Mo_tries, h1, rd, cm, u1011, c1]; try clear hgo9 hW9))
      exact hQ _ _
  · (obtain ⟨W9, hW9, hgo9⟩ := wp_ex (T_Mo_tries l G) [24] _; refine hgo9 200 _ _ _ _ ?_; simp -implicitDefEqProofs (disch := omega) only [hW9, inl, gate, Xq, tz_const, tz_iload, tz_lload, tz_dload, tz_aload, tz_istore, tz_astore, tz_lstore, tz_dstore, tz_iinc, tz_i1, tz_i2, tz_i2z, tz_l2, tz_l2z, tz_i2l, tz_l2i, tz_lcmp, tz_i2d, tz_d2, tz_dcmp, tz_dup, tz_dup2, tz_pop, tz_if, tz_icmp, tz_null, tz_goto, tz_sw, tz_getf, tz_puti, tz_putz, tz_putr, tz_putl, tz_iaload, tz_baload, tz_laload, tz_aaload, tz_iastore, tz_bastore, tz_lastore, tz_aastore, tz_alen, tz_new, tz_newa, tz_oinit, tz_iret, tz_zret, tz_lret, tz_dret, tz_aret, tz_vret, tz_throw, tz_callS, tz_callV, tz_callI, tz_callR, tz_pureS, tz_pureV, tz_callVH, lg, lset, lkill, lst1, lst2, entL, isRf, is1, vl, va_rf_none, va_rf_some, isRf_rf, is1_rf, i0, i1, bI_eq0, bI_eq1, nm_em, nI_eqP, nI_leP, nI_ltP, nN_e1, nN_e2, nN_l1, nN_l2, nN_l3, nN_l4, nI_add, pk_mul, vp_inN, nI_cl, n01, n10, P_i, P_ii, P_iii, f_Mo_at, f_Mo_map, f_Mo_contact, f_Mo_within, f_Mo_isPort, f_Hp_endpoint, f_Hp_nodeOf, f_Hp_portOf, f_Ma_max, f_Ma_min, f_Hp_isSetting, popN, rok, a1, noX, swc, mL, if_true, if_false, ↓reduceIte, cond_true, cond_false, true_and, and_true, List.length_cons, List.length_nil, List.nil_append, List.cons_append, List.append_nil, Option.toList, Nat.reduceEqDiff, Bool.false_eq_true, reduceCtorEq, Nat.reduceAdd, Nat.reduceLT, Nat.reduceLeDiff, Nat.reduceSub, List.replicate, Nat.zero_add, Nat.lt_add_one, Nat.le_refl, Nat.zero_le, Nat.succ_ne_zero, not_false_eq_true, not_true_eq_false, false_implies, true_implies, forall_const, imp_self, true_or, or_true, eq_self, sI_zw, zw_zw, hI_zw, tg_zw, ln_zw, hR_zw, hL_zw, hN_zw, hM_zw, upd_s, upd_u, upd_ne, Classical.not_not, k_Mo_tries, h1, h2, h3, h4, rd, cm, u1011]; try clear hgo9 hW9)
    (obtain ⟨W9, hW9, hgo9⟩ := wp_ex (T_Mo_tries l G) [41] _; refine hgo9 200 _ _ _ _ ?_; simp -implicitDefEqProofs (disch := omega) only [hW9, inl, gate, Xq, tz_const, tz_iload, tz_lload, tz_dload, tz_aload, tz_istore, tz_astore, tz_lstore, tz_dstore, tz_iinc, tz_i1, tz_i2, tz_i2z, tz_l2, tz_l2z, tz_i2l, tz_l2i, tz_lcmp, tz_i2d, tz_d2, tz_dcmp, tz_dup, tz_dup2, tz_pop, tz_if, tz_icmp, tz_null, tz_goto, tz_sw, tz_getf, tz_puti, tz_putz, tz_putr, tz_putl, tz_iaload, tz_baload, tz_laload, tz_aaload, tz_iastore, tz_bastore, tz_lastore, tz_aastore, tz_alen, tz_new, tz_newa, tz_oinit, tz_iret, tz_zret, tz_lret, tz_dret, tz_aret, tz_vret, tz_throw, tz_callS, tz_callV, tz_callI, tz_callR, tz_pureS, tz_pureV, tz_callVH, lg, lset, lkill, lst1, lst2, entL, isRf, is1, vl, va_rf_none, va_rf_some, isRf_rf, is1_rf, i0, i1, bI_eq0, bI_eq1, nm_em, nI_eqP, nI_leP, nI_ltP, nN_e1, nN_e2, nN_l1, nN_l2, nN_l3, nN_l4, nI_add, pk_mul, vp_inN, nI_cl, n01, n10, P_i, P_ii, P_iii, f_Mo_at, f_Mo_map, f_Mo_contact, f_Mo_within, f_Mo_isPort, f_Hp_endpoint, f_Hp_nodeOf, f_Hp_portOf, f_Ma_max, f_Ma_min, f_Hp_isSetting, popN, rok, a1, noX, swc, mL, if_true, if_false, ↓reduceIte, cond_true, cond_false, true_and, and_true, List.length_cons, List.length_nil, List.nil_append, List.cons_append, List.append_nil, Option.toList, Nat.reduceEqDiff, Bool.false_eq_true, reduceCtorEq, Nat.reduceAdd, Nat.reduceLT, Nat.reduceLeDiff, Nat.reduceSub, List.replicate, Nat.zero_add, Nat.lt_add_one, Nat.le_refl, Nat.zero_le, Nat.succ_ne_zero, not_false_eq_true, not_true_eq_false, false_implies, true_implies, forall_const, imp_self, true_or, or_true, eq_self, sI_zw, zw_zw, hI_zw, tg_zw, ln_zw, hR_zw, hL_zw, hN_zw, hM_zw, upd_s, upd_u, upd_ne, Classical.not_not, k_Mo_tries, h1, h2, h3, h4, t1, t2, t3, p1, p2, p3, e1, e2, e3, rd, cm, u1011, c]; try clear hgo9 hW9)
    (obtain ⟨W9, hW9, hgo9⟩ := wp_ex (T_Mo_tries l G) [50] _; refine hgo9 200 _ _ _ _ ?_; simp -implicitDefEqProofs (disch := omega) only [hW9, inl, gate, Xq, tz_const, tz_iload, tz_lload, tz_dload, tz_aload, tz_istore, tz_astore, tz_lstore, tz_dstore, tz_iinc, tz_i1, tz_i2, tz_i2z, tz_l2, tz_l2z, tz_i2l, tz_l2i, tz_lcmp, tz_i2d, tz_d2, tz_dcmp, tz_dup, tz_dup2, tz_pop, tz_if, tz_icmp, tz_null, tz_goto, tz_sw, tz_getf, tz_puti, tz_putz, tz_putr, tz_putl, tz_iaload, tz_baload, tz_laload, tz_aaload, tz_iastore, tz_bastore, tz_lastore, tz_aastore, tz_alen, tz_new, tz_newa, tz_oinit, tz_iret, tz_zret, tz_lret, tz_dret, tz_aret, tz_vret, tz_throw, tz_callS, tz_callV, tz_callI, tz_callR, tz_pureS, tz_pureV, tz_callVH, lg, lset, lkill, lst1, lst2, entL, isRf, is1, vl, va_rf_none, va_rf_some, isRf_rf, is1_rf, i0, i1, bI_eq0, bI_eq1, nm_em, nI_eqP, nI_leP, nI_ltP, nN_e1, nN_e2, nN_l1, nN_l2, nN_l3, nN_l4, nI_add, pk_mul, vp_inN, nI_cl, n01, n10, P_i, P_ii, P_iii, f_Mo_at, f_Mo_map, f_Mo_contact, f_Mo_within, f_Mo_isPort, f_Hp_endpoint, f_Hp_nodeOf, f_Hp_portOf, f_Ma_max, f_Ma_min, f_Hp_isSetting, popN, rok, a1, noX, swc, mL, if_true, if_false, ↓reduceIte, cond_true, cond_false, true_and, and_true, List.length_cons, List.length_nil, List.nil_append, List.cons_append, List.append_nil, Option.toList, Nat.reduceEqDiff, Bool.false_eq_true, reduceCtorEq, Nat.reduceAdd, Nat.reduceLT, Nat.reduceLeDiff, Nat.reduceSub, List.replicate, Nat.zero_add, Nat.lt_add_one, Nat.le_refl, Nat.zero_le, Nat.succ_ne_zero, not_false_eq_true, not_true_eq_false, false_implies, true_implies, forall_const, imp_self, true_or, or_true, eq_self, sI_zw, zw_zw, hI_zw, tg_zw, ln_zw, hR_zw, hL_zw, hN_zw, hM_zw, upd_s, upd_u, upd_ne, Classical.not_not, k_Mo_tries, h1, h2, h3, h4, t1, t2, t3, p1, p2, p3, e1, e2, e3, rd, cm, u1011, pk_sub]; try clear hgo9 hW9)
    (obtain ⟨W9, hW9, hgo9⟩ := wp_ex (T_Mo_tries l G) [69] _; refine hgo9 200 _ _ _ _ ?_; simp -implicitDefEqProofs (disch := omega) only [hW9, inl, gate, Xq, tz_const, tz_iload, tz_lload, tz_dload, tz_aload, tz_istore, tz_astore, tz_lstore, tz_dstore, tz_iinc, tz_i1, tz_i2, tz_i2z, tz_l2, tz_l2z, tz_i2l, tz_l2i, tz_lcmp, tz_i2d, tz_d2, tz_dcmp, tz_dup, tz_dup2, tz_pop, tz_if, tz_icmp, tz_null, tz_goto, tz_sw, tz_getf, tz_puti, tz_putz, tz_putr, tz_putl, tz_iaload, tz_baload, tz_laload, tz_aaload, tz_iastore, tz_bastore, tz_lastore, tz_aastore, tz_alen, tz_new, tz_newa, tz_oinit, tz_iret, tz_zret, tz_lret, tz_dret, tz_aret, tz_vret, tz_throw, tz_callS, tz_callV, tz_callI, tz_callR, tz_pureS, tz_pureV, tz_callVH, lg, lset, lkill, lst1, lst2, entL, isRf, is1, vl, va_rf_none, va_rf_some, isRf_rf, is1_rf, i0, i1, bI_eq0, bI_eq1, nm_em, nI_eqP, nI_leP, nI_ltP, nN_e1, nN_e2, nN_l1, nN_l2, nN_l3, nN_l4, nI_add, pk_mul, vp_inN, nI_cl, n01, n10, P_i, P_ii, P_iii, f_Mo_at, f_Mo_map, f_Mo_contact, f_Mo_within, f_Mo_isPort, f_Hp_endpoint, f_Hp_nodeOf, f_Hp_portOf, f_Ma_max, f_Ma_min, f_Hp_isSetting, popN, rok, a1, noX, swc, mL, if_true, if_false, ↓reduceIte, cond_true, cond_false, true_and, and_true, List.length_cons, List.length_nil, List.nil_append, List.cons_append, List.append_nil, Option.toList, Nat.reduceEqDiff, Bool.false_eq_true, reduceCtorEq, Nat.reduceAdd, Nat.reduceLT, Nat.reduceLeDiff, Nat.reduceSub, List.replicate, Nat.zero_add, Nat.lt_add_one, Nat.le_refl, Nat.zero_le, Nat.succ_ne_zero, not_false_eq_true, not_true_eq_false, false_implies, true_implies, forall_const, imp_self, true_or, or_true, eq_self, sI_zw, zw_zw, hI_zw, tg_zw, ln_zw, hR_zw, hL_zw, hN_zw, hM_zw, upd_s, upd_u, upd_ne, Classical.not_not, k_Mo_tries, h1, h2, h3, h4, t1, t2, t3, p1, p2, p3, e1, e2, e3, rd, cm, u1011, pk_sub]; try clear hgo9 hW9)
    (obtain ⟨W9, hW9, hgo9⟩ := wp_ex (T_Mo_tries l G) [] _; refine hgo9 200 _ _ _ _ ?_; simp -implicitDefEqProofs (disch := omega) only [hW9, inl, gate, Xq, tz_const, tz_iload, tz_lload, tz_dload, tz_aload, tz_istore, tz_astore, tz_lstore, tz_dstore, tz_iinc, tz_i1, tz_i2, tz_i2z, tz_l2, tz_l2z, tz_i2l, tz_l2i, tz_lcmp, tz_i2d, tz_d2, tz_dcmp, tz_dup, tz_dup2, tz_pop, tz_if, tz_icmp, tz_null, tz_goto, tz_sw, tz_getf, tz_puti, tz_putz, tz_putr, tz_putl, tz_iaload, tz_baload, tz_laload, tz_aaload, tz_iastore, tz_bastore, tz_lastore, tz_aastore, tz_alen, tz_new, tz_newa, tz_oinit, tz_iret, tz_zret, tz_lret, tz_dret, tz_aret, tz_vret, tz_throw, tz_callS, tz_callV, tz_callI, tz_callR, tz_pureS, tz_pureV, tz_callVH, lg, lset, lkill, lst1, lst2, entL, isRf, is1, vl, va_rf_none, va_rf_some, isRf_rf, is1_rf, i0, i1, bI_eq0, bI_eq1, nm_em, nI_eqP, nI_leP, nI_ltP, nN_e1, nN_e2, nN_l1, nN_l2, nN_l3, nN_l4, nI_add, pk_mul, vp_inN, nI_cl, n01, n10, P_i, P_ii, P_iii, f_Mo_at, f_Mo_map, f_Mo_contact, f_Mo_within, f_Mo_isPort, f_Hp_endpoint, f_Hp_nodeOf, f_Hp_portOf, f_Ma_max, f_Ma_min, f_Hp_isSetting, popN, rok, a1, noX, swc, mL, if_true, if_false, ↓reduceIte, cond_true, cond_false, true_and, and_true, List.length_cons, List.length_nil, List.nil_append, List.cons_append, List.append_nil, Option.toList, Nat.reduceEqDiff, Bool.false_eq_true, reduceCtorEq, Nat.reduceAdd, Nat.reduceLT, Nat.reduceLeDiff, Nat.reduceSub, List.replicate, Nat.zero_add, Nat.lt_add_one, Nat.le_refl, Nat.zero_le, Nat.succ_ne_zero, not_false_eq_true, not_true_eq_false, false_implies, true_implies, forall_const, imp_self, true_or, or_true, eq_self, sI_zw, zw_zw, hI_zw, tg_zw, ln_zw, hR_zw, hL_zw, hN_zw, hM_zw, upd_s, upd_u, upd_ne, Classical.not_not, k_Mo_tries, h1, h2, h3, h4, t1, t2, t3, p1, p2, p3, e1, e2, e3, rd, cm, u1011, pk_sub]; try clear hgo9 hW9)
    exact hQ _ _
end
