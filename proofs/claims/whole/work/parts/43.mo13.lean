/-! THE REFERENCE: packets -/
def k_Mo_goesOut (l : Launch) (G : Gc) (pc : Nat) : Tr :=
  if pc < 53 then
   if pc < 25 then
    if pc < 11 then
     if pc < 3 then
      if pc < 1 then
       if pc = 0 then tz_aload 1 0 else dead
      else
       if pc < 2 then
        if pc = 1 then tz_iload 2 1 else dead
       else
        if pc = 2 then tz_aload 3 0 else dead
     else
      if pc < 7 then
       if pc < 6 then
        if pc = 3 then tz_getf 6 7 10 0 else dead
       else
        if pc = 6 then tz_aload 7 0 else dead
      else
       if pc < 10 then
        if pc = 7 then tz_getf 10 7 11 0 else dead
       else
        if pc = 10 then tz_iload 11 2 else dead
    else
     if pc < 19 then
      if pc < 15 then
       if pc < 12 then
        if pc = 11 then tz_iload 12 3 else dead
       else
        if pc = 12 then tz_pureV 15 5 7 P_Mo_mappingFor f_Mo_mappingFor else dead
      else
       if pc < 17 then
        if pc = 15 then tz_istore 17 4 else dead
       else
        if pc = 17 then tz_iload 19 4 else dead
     else
      if pc < 23 then
       if pc < 20 then
        if pc = 19 then tz_const 20 (.int (nN)) else dead
       else
        if pc = 20 then tz_icmp 23 41 (fun a b => ¬ a = b) else dead
      else
       if pc < 24 then
        if pc = 23 then tz_aload 24 0 else dead
       else
        if pc = 24 then tz_iload 25 1 else dead
   else
    if pc < 38 then
     if pc < 30 then
      if pc < 26 then
       if pc = 25 then tz_aload 26 0 else dead
      else
       if pc < 29 then
        if pc = 26 then tz_getf 29 7 10 0 else dead
       else
        if pc = 29 then tz_aload 30 0 else dead
     else
      if pc < 34 then
       if pc < 33 then
        if pc = 30 then tz_getf 33 7 11 0 else dead
       else
        if pc = 33 then tz_iload 34 2 else dead
      else
       if pc < 35 then
        if pc = 34 then tz_iload 35 3 else dead
       else
        if pc = 35 then tz_callV l G 38 M_Mo_make 5 7 else dead
    else
     if pc < 47 then
      if pc < 43 then
       if pc < 41 then
        if pc = 38 then tz_goto 43 else dead
       else
        if pc = 41 then tz_iload 43 4 else dead
      else
       if pc < 45 then
        if pc = 43 then tz_istore 45 4 else dead
       else
        if pc = 45 then tz_iload 47 4 else dead
     else
      if pc < 51 then
       if pc < 48 then
        if pc = 47 then tz_const 48 (.int (nN)) else dead
       else
        if pc = 48 then tz_icmp 51 53 (fun a b => ¬ a = b) else dead
      else
       if pc < 52 then
        if pc = 51 then tz_const 52 (.int (nI 0)) else dead
       else
        if pc = 52 then tz_zret else dead
  else
   if pc < 76 then
    if pc < 65 then
     if pc < 58 then
      if pc < 54 then
       if pc = 53 then tz_aload 54 0 else dead
      else
       if pc < 57 then
        if pc = 54 then tz_getf 57 7 1 1 else dead
       else
        if pc = 57 then tz_iload 58 1 else dead
     else
      if pc < 61 then
       if pc < 60 then
        if pc = 58 then tz_iload 60 4 else dead
       else
        if pc = 60 then tz_const 61 (.int (nI 5)) else dead
      else
       if pc < 64 then
        if pc = 61 then tz_pureS 64 3 P_Mo_map f_Mo_map else dead
       else
        if pc = 64 then tz_aload 65 0 else dead
    else
     if pc < 71 then
      if pc < 69 then
       if pc < 68 then
        if pc = 65 then tz_getf 68 7 1 1 else dead
       else
        if pc = 68 then tz_const 69 (.int (nI 0)) else dead
      else
       if pc < 70 then
        if pc = 69 then tz_iaload 70 else dead
       else
        if pc = 70 then tz_iastore 71 else dead
     else
      if pc < 73 then
       if pc < 72 then
        if pc = 71 then tz_aload 72 0 else dead
       else
        if pc = 72 then tz_iload 73 1 else dead
      else
       if pc < 75 then
        if pc = 73 then tz_iload 75 4 else dead
       else
        if pc = 75 then tz_iload 76 2 else dead
   else
    if pc < 90 then
     if pc < 82 then
      if pc < 80 then
       if pc < 77 then
        if pc = 76 then tz_iload 77 3 else dead
       else
        if pc = 77 then tz_callV l G 80 M_Mo_meet 4 7 else dead
      else
       if pc < 81 then
        if pc = 80 then tz_aload 81 0 else dead
       else
        if pc = 81 then tz_iload 82 1 else dead
     else
      if pc < 86 then
       if pc < 85 then
        if pc = 82 then tz_puti 85 7 10 else dead
       else
        if pc = 85 then tz_aload 86 0 else dead
      else
       if pc < 87 then
        if pc = 86 then tz_aload 87 0 else dead
       else
        if pc = 87 then tz_getf 90 7 1 1 else dead
    else
     if pc < 97 then
      if pc < 93 then
       if pc < 91 then
        if pc = 90 then tz_iload 91 1 else dead
       else
        if pc = 91 then tz_iload 93 4 else dead
      else
       if pc < 94 then
        if pc = 93 then tz_const 94 (.int (nI 2)) else dead
       else
        if pc = 94 then tz_pureS 97 3 P_Mo_map f_Mo_map else dead
     else
      if pc < 101 then
       if pc < 98 then
        if pc = 97 then tz_iaload 98 else dead
       else
        if pc = 98 then tz_puti 101 7 11 else dead
      else
       if pc < 102 then
        if pc = 101 then tz_const 102 (.int (nI 1)) else dead
       else
        if pc = 102 then tz_zret else dead
set_option maxRecDepth 100000 in
theorem T_Mo_goesOut (l : Launch) (G : Gc) : TabOK l G M_Mo_goesOut (k_Mo_goesOut l G) := by
  intro pc
  unfold k_Mo_goesOut
  exact
   (sd_br
    (sd_br
     (sd_br
      (sd_br
       (sd_br
        (sd_lf (sd_aload_n (k := 0) (by decide +kernel : decode prog_9_method_40_code 0 = .ok (.aload_n 0, 1))))
        (sd_br
         (sd_lf (sd_iload_n (k := 1) (by decide +kernel : decode prog_9_method_40_code 1 = .ok (.iload_n 1, 1))))
         (sd_lf (sd_aload_n (k := 0) (by decide +kernel : decode prog_9_method_40_code 2 = .ok (.aload_n 0, 1))))))
       (sd_br
        (sd_br
         (sd_lf (sd_getf (q := (RX7, TX7, 16)) (by decide +kernel : decode prog_9_method_40_code 3 = .ok (.getfield 133, 3)) rfl (by decide +kernel) (gm 922 (by decide +kernel) rfl)))
         (sd_lf (sd_aload_n (k := 0) (by decide +kernel : decode prog_9_method_40_code 6 = .ok (.aload_n 0, 1)))))
        (sd_br
         (sd_lf (sd_getf (q := (RX7, TX7, 16)) (by decide +kernel : decode prog_9_method_40_code 7 = .ok (.getfield 136, 3)) rfl (by decide +kernel) (gm 923 (by decide +kernel) rfl)))
         (sd_lf (sd_iload_n (k := 2) (by decide +kernel : decode prog_9_method_40_code 10 = .ok (.iload_n 2, 1)))))))
      (sd_br
       (sd_br
        (sd_br
         (sd_lf (sd_iload_n (k := 3) (by decide +kernel : decode prog_9_method_40_code 11 = .ok (.iload_n 3, 1))))
         (sd_lf (sd_pureV (sd_callV (q := (RX7, TX7, 16)) (by decide +kernel : decode prog_9_method_40_code 12 = .ok (.invokevirtual 139, 3)) ok_Mo_mappingFor (gm 1102 (by decide +kernel) rfl) (gm 1104 (by decide +kernel) rfl) (gm 46 (by decide +kernel) rfl) rfl rfl (by decide +kernel) rfl rfl) c_Mo_mappingFor)))
        (sd_br
         (sd_lf (sd_istore (by decide +kernel : decode prog_9_method_40_code 15 = .ok (.istore 4, 2))))
         (sd_lf (sd_iload (by decide +kernel : decode prog_9_method_40_code 17 = .ok (.iload 4, 2))))))
       (sd_br
        (sd_br
         (sd_lf (sd_iconst (by decide +kernel : decode prog_9_method_40_code 19 = .ok (.iconst (-1), 1)) (by decide +kernel)))
         (sd_lf (sd_icmp_ne (by decide +kernel : decode prog_9_method_40_code 20 = .ok (.if_icmp .ne 21, 3)) (by decide +kernel))))
        (sd_br
         (sd_lf (sd_aload_n (k := 0) (by decide +kernel : decode prog_9_method_40_code 23 = .ok (.aload_n 0, 1))))
         (sd_lf (sd_iload_n (k := 1) (by decide +kernel : decode prog_9_method_40_code 24 = .ok (.iload_n 1, 1))))))))
     (sd_br
      (sd_br
       (sd_br
        (sd_lf (sd_aload_n (k := 0) (by decide +kernel : decode prog_9_method_40_code 25 = .ok (.aload_n 0, 1))))
        (sd_br
         (sd_lf (sd_getf (q := (RX7, TX7, 16)) (by decide +kernel : decode prog_9_method_40_code 26 = .ok (.getfield 133, 3)) rfl (by decide +kernel) (gm 922 (by decide +kernel) rfl)))
         (sd_lf (sd_aload_n (k := 0) (by decide +kernel : decode prog_9_method_40_code 29 = .ok (.aload_n 0, 1))))))
       (sd_br
        (sd_br
         (sd_lf (sd_getf (q := (RX7, TX7, 16)) (by decide +kernel : decode prog_9_method_40_code 30 = .ok (.getfield 136, 3)) rfl (by decide +kernel) (gm 923 (by decide +kernel) rfl)))
         (sd_lf (sd_iload_n (k := 2) (by decide +kernel : decode prog_9_method_40_code 33 = .ok (.iload_n 2, 1)))))
        (sd_br
         (sd_lf (sd_iload_n (k := 3) (by decide +kernel : decode prog_9_method_40_code 34 = .ok (.iload_n 3, 1))))
         (sd_lf (sd_callV (q := (RX7, TX7, 16)) (by decide +kernel : decode prog_9_method_40_code 35 = .ok (.invokevirtual 143, 3)) ok_Mo_make (gm 1106 (by decide +kernel) rfl) (gm 1108 (by decide +kernel) rfl) (gm 47 (by decide +kernel) rfl) rfl rfl (by decide +kernel) rfl rfl)))))
      (sd_br
       (sd_br
        (sd_br
         (sd_lf (sd_goto (by decide +kernel : decode prog_9_method_40_code 38 = .ok (.goto 5, 3)) (by decide +kernel)))
         (sd_lf (sd_iload (by decide +kernel : decode prog_9_method_40_code 41 = .ok (.iload 4, 2)))))
        (sd_br
         (sd_lf (sd_istore (by decide +kernel : decode prog_9_method_40_code 43 = .ok (.istore 4, 2))))
         (sd_lf (sd_iload (by decide +kernel : decode prog_9_method_40_code 45 = .ok (.iload 4, 2))))))
       (sd_br
        (sd_br
         (sd_lf (sd_iconst (by decide +kernel : decode prog_9_method_40_code 47 = .ok (.iconst (-1), 1)) (by decide +kernel)))
         (sd_lf (sd_icmp_ne (by decide +kernel : decode prog_9_method_40_code 48 = .ok (.if_icmp .ne 5, 3)) (by decide +kernel))))
        (sd_br
         (sd_lf (sd_iconst (by decide +kernel : decode prog_9_method_40_code 51 = .ok (.iconst 0, 1)) (by decide +kernel)))
         (sd_lf (sd_zret (by decide +kernel : decode prog_9_method_40_code 52 = .ok (.ireturn, 1)) rfl)))))))
    (sd_br
     (sd_br
      (sd_br
       (sd_br
        (sd_lf (sd_aload_n (k := 0) (by decide +kernel : decode prog_9_method_40_code 53 = .ok (.aload_n 0, 1))))
        (sd_br
         (sd_lf (sd_getf (q := (RX7, TX7, 16)) (by decide +kernel : decode prog_9_method_40_code 54 = .ok (.getfield 7, 3)) rfl (by decide +kernel) (gm 913 (by decide +kernel) rfl)))
         (sd_lf (sd_iload_n (k := 1) (by decide +kernel : decode prog_9_method_40_code 57 = .ok (.iload_n 1, 1))))))
       (sd_br
        (sd_br
         (sd_lf (sd_iload (by decide +kernel : decode prog_9_method_40_code 58 = .ok (.iload 4, 2))))
         (sd_lf (sd_iconst (by decide +kernel : decode prog_9_method_40_code 60 = .ok (.iconst 5, 1)) (by decide +kernel))))
        (sd_br
         (sd_lf (sd_pureS (sd_callS (by decide +kernel : decode prog_9_method_40_code 61 = .ok (.invokestatic 73, 3)) ok_Mo_map (gm 1020 (by decide +kernel) rfl) (gm 1021 (by decide +kernel) rfl) (by decide +kernel) rfl rfl) c_Mo_map))
         (sd_lf (sd_aload_n (k := 0) (by decide +kernel : decode prog_9_method_40_code 64 = .ok (.aload_n 0, 1)))))))
      (sd_br
       (sd_br
        (sd_br
         (sd_lf (sd_getf (q := (RX7, TX7, 16)) (by decide +kernel : decode prog_9_method_40_code 65 = .ok (.getfield 7, 3)) rfl (by decide +kernel) (gm 913 (by decide +kernel) rfl)))
         (sd_lf (sd_iconst (by decide +kernel : decode prog_9_method_40_code 68 = .ok (.iconst 0, 1)) (by decide +kernel))))
        (sd_br
         (sd_lf (sd_iaload (by decide +kernel : decode prog_9_method_40_code 69 = .ok (.iaload, 1))))
         (sd_lf (sd_iastore (by decide +kernel : decode prog_9_method_40_code 70 = .ok (.iastore, 1))))))
       (sd_br
        (sd_br
         (sd_lf (sd_aload_n (k := 0) (by decide +kernel : decode prog_9_method_40_code 71 = .ok (.aload_n 0, 1))))
         (sd_lf (sd_iload_n (k := 1) (by decide +kernel : decode prog_9_method_40_code 72 = .ok (.iload_n 1, 1)))))
        (sd_br
         (sd_lf (sd_iload (by decide +kernel : decode prog_9_method_40_code 73 = .ok (.iload 4, 2))))
         (sd_lf (sd_iload_n (k := 2) (by decide +kernel : decode prog_9_method_40_code 75 = .ok (.iload_n 2, 1))))))))
     (sd_br
      (sd_br
       (sd_br
        (sd_br
         (sd_lf (sd_iload_n (k := 3) (by decide +kernel : decode prog_9_method_40_code 76 = .ok (.iload_n 3, 1))))
         (sd_lf (sd_callV (q := (RX7, TX7, 16)) (by decide +kernel : decode prog_9_method_40_code 77 = .ok (.invokevirtual 146, 3)) ok_Mo_meet (gm 1130 (by decide +kernel) rfl) (gm 1132 (by decide +kernel) rfl) (gm 52 (by decide +kernel) rfl) rfl rfl (by decide +kernel) rfl rfl)))
        (sd_br
         (sd_lf (sd_aload_n (k := 0) (by decide +kernel : decode prog_9_method_40_code 80 = .ok (.aload_n 0, 1))))
         (sd_lf (sd_iload_n (k := 1) (by decide +kernel : decode prog_9_method_40_code 81 = .ok (.iload_n 1, 1))))))
       (sd_br
        (sd_br
         (sd_lf (sd_puti (q := (RX7, TX7, 16)) (by decide +kernel : decode prog_9_method_40_code 82 = .ok (.putfield 133, 3)) rfl (by decide +kernel) (gm 922 (by decide +kernel) rfl) rfl rfl (Or.inl rfl)))
         (sd_lf (sd_aload_n (k := 0) (by decide +kernel : decode prog_9_method_40_code 85 = .ok (.aload_n 0, 1)))))
        (sd_br
         (sd_lf (sd_aload_n (k := 0) (by decide +kernel : decode prog_9_method_40_code 86 = .ok (.aload_n 0, 1))))
         (sd_lf (sd_getf (q := (RX7, TX7, 16)) (by decide +kernel : decode prog_9_method_40_code 87 = .ok (.getfield 7, 3)) rfl (by decide +kernel) (gm 913 (by decide +kernel) rfl))))))
      (sd_br
       (sd_br
        (sd_br
         (sd_lf (sd_iload_n (k := 1) (by decide +kernel : decode prog_9_method_40_code 90 = .ok (.iload_n 1, 1))))
         (sd_lf (sd_iload (by decide +kernel : decode prog_9_method_40_code 91 = .ok (.iload 4, 2)))))
        (sd_br
         (sd_lf (sd_iconst (by decide +kernel : decode prog_9_method_40_code 93 = .ok (.iconst 2, 1)) (by decide +kernel)))
         (sd_lf (sd_pureS (sd_callS (by decide +kernel : decode prog_9_method_40_code 94 = .ok (.invokestatic 73, 3)) ok_Mo_map (gm 1020 (by decide +kernel) rfl) (gm 1021 (by decide +kernel) rfl) (by decide +kernel) rfl rfl) c_Mo_map))))
       (sd_br
        (sd_br
         (sd_lf (sd_iaload (by decide +kernel : decode prog_9_method_40_code 97 = .ok (.iaload, 1))))
         (sd_lf (sd_puti (q := (RX7, TX7, 16)) (by decide +kernel : decode prog_9_method_40_code 98 = .ok (.putfield 136, 3)) rfl (by decide +kernel) (gm 923 (by decide +kernel) rfl) rfl rfl (Or.inl rfl))))
        (sd_br
         (sd_lf (sd_iconst (by decide +kernel : decode prog_9_method_40_code 101 = .ok (.iconst 1, 1)) (by decide +kernel)))
         (sd_lf (sd_zret (by decide +kernel : decode prog_9_method_40_code 102 = .ok (.ireturn, 1)) rfl))))))))
def k_Mo_deliver (l : Launch) (G : Gc) (pc : Nat) : Tr :=
  if pc < 22 then
   if pc < 11 then
    if pc < 5 then
     if pc < 1 then
      if pc = 0 then tz_aload 1 0 else dead
     else
      if pc < 4 then
       if pc = 1 then tz_getf 4 7 1 1 else dead
      else
       if pc = 4 then tz_iload 5 1 else dead
    else
     if pc < 7 then
      if pc = 5 then tz_const 7 (.int (nI 12)) else dead
     else
      if pc < 10 then
       if pc = 7 then tz_pureS 10 2 P_Mo_at f_Mo_at else dead
      else
       if pc = 10 then tz_aload 11 0 else dead
   else
    if pc < 16 then
     if pc < 14 then
      if pc = 11 then tz_getf 14 7 10 0 else dead
     else
      if pc < 15 then
       if pc = 14 then tz_iastore 15 else dead
      else
       if pc = 15 then tz_aload 16 0 else dead
    else
     if pc < 19 then
      if pc = 16 then tz_getf 19 7 1 1 else dead
     else
      if pc < 20 then
       if pc = 19 then tz_iload 20 1 else dead
      else
       if pc = 20 then tz_const 22 (.int (nI 13)) else dead
  else
   if pc < 34 then
    if pc < 29 then
     if pc < 25 then
      if pc = 22 then tz_pureS 25 2 P_Mo_at f_Mo_at else dead
     else
      if pc < 26 then
       if pc = 25 then tz_aload 26 0 else dead
      else
       if pc = 26 then tz_getf 29 7 11 0 else dead
    else
     if pc < 30 then
      if pc = 29 then tz_iastore 30 else dead
     else
      if pc < 31 then
       if pc = 30 then tz_aload 31 0 else dead
      else
       if pc = 31 then tz_getf 34 7 1 1 else dead
   else
    if pc < 40 then
     if pc < 35 then
      if pc = 34 then tz_iload 35 1 else dead
     else
      if pc < 37 then
       if pc = 35 then tz_const 37 (.int (nI 14)) else dead
      else
       if pc = 37 then tz_pureS 40 2 P_Mo_at f_Mo_at else dead
    else
     if pc < 42 then
      if pc < 41 then
       if pc = 40 then tz_iload 41 2 else dead
      else
       if pc = 41 then tz_iastore 42 else dead
     else
      if pc < 43 then
       if pc = 42 then tz_iload 43 1 else dead
      else
       if pc = 43 then tz_iret else dead
set_option maxRecDepth 100000 in
theorem T_Mo_deliver (l : Launch) (G : Gc) : TabOK l G M_Mo_deliver (k_Mo_deliver l G) := by
  intro pc
  unfold k_Mo_deliver
  exact
   (sd_br
    (sd_br
     (sd_br
      (sd_br
       (sd_lf (sd_aload_n (k := 0) (by decide +kernel : decode prog_9_method_42_code 0 = .ok (.aload_n 0, 1))))
       (sd_br
        (sd_lf (sd_getf (q := (RX7, TX7, 16)) (by decide +kernel : decode prog_9_method_42_code 1 = .ok (.getfield 7, 3)) rfl (by decide +kernel) (gm 913 (by decide +kernel) rfl)))
        (sd_lf (sd_iload_n (k := 1) (by decide +kernel : decode prog_9_method_42_code 4 = .ok (.iload_n 1, 1))))))
      (sd_br
       (sd_lf (sd_bipush (by decide +kernel : decode prog_9_method_42_code 5 = .ok (.bipush 12, 2)) (by decide +kernel)))
       (sd_br
        (sd_lf (sd_pureS (sd_callS (by decide +kernel : decode prog_9_method_42_code 7 = .ok (.invokestatic 44, 3)) ok_Mo_at (gm 993 (by decide +kernel) rfl) (gm 994 (by decide +kernel) rfl) (by decide +kernel) rfl rfl) c_Mo_at))
        (sd_lf (sd_aload_n (k := 0) (by decide +kernel : decode prog_9_method_42_code 10 = .ok (.aload_n 0, 1)))))))
     (sd_br
      (sd_br
       (sd_lf (sd_getf (q := (RX7, TX7, 16)) (by decide +kernel : decode prog_9_method_42_code 11 = .ok (.getfield 133, 3)) rfl (by decide +kernel) (gm 922 (by decide +kernel) rfl)))
       (sd_br
        (sd_lf (sd_iastore (by decide +kernel : decode prog_9_method_42_code 14 = .ok (.iastore, 1))))
        (sd_lf (sd_aload_n (k := 0) (by decide +kernel : decode prog_9_method_42_code 15 = .ok (.aload_n 0, 1))))))
      (sd_br
       (sd_lf (sd_getf (q := (RX7, TX7, 16)) (by decide +kernel : decode prog_9_method_42_code 16 = .ok (.getfield 7, 3)) rfl (by decide +kernel) (gm 913 (by decide +kernel) rfl)))
       (sd_br
        (sd_lf (sd_iload_n (k := 1) (by decide +kernel : decode prog_9_method_42_code 19 = .ok (.iload_n 1, 1))))
        (sd_lf (sd_bipush (by decide +kernel : decode prog_9_method_42_code 20 = .ok (.bipush 13, 2)) (by decide +kernel)))))))
    (sd_br
     (sd_br
      (sd_br
       (sd_lf (sd_pureS (sd_callS (by decide +kernel : decode prog_9_method_42_code 22 = .ok (.invokestatic 44, 3)) ok_Mo_at (gm 993 (by decide +kernel) rfl) (gm 994 (by decide +kernel) rfl) (by decide +kernel) rfl rfl) c_Mo_at))
       (sd_br
        (sd_lf (sd_aload_n (k := 0) (by decide +kernel : decode prog_9_method_42_code 25 = .ok (.aload_n 0, 1))))
        (sd_lf (sd_getf (q := (RX7, TX7, 16)) (by decide +kernel : decode prog_9_method_42_code 26 = .ok (.getfield 136, 3)) rfl (by decide +kernel) (gm 923 (by decide +kernel) rfl)))))
      (sd_br
       (sd_lf (sd_iastore (by decide +kernel : decode prog_9_method_42_code 29 = .ok (.iastore, 1))))
       (sd_br
        (sd_lf (sd_aload_n (k := 0) (by decide +kernel : decode prog_9_method_42_code 30 = .ok (.aload_n 0, 1))))
        (sd_lf (sd_getf (q := (RX7, TX7, 16)) (by decide +kernel : decode prog_9_method_42_code 31 = .ok (.getfield 7, 3)) rfl (by decide +kernel) (gm 913 (by decide +kernel) rfl))))))
     (sd_br
      (sd_br
       (sd_lf (sd_iload_n (k := 1) (by decide +kernel : decode prog_9_method_42_code 34 = .ok (.iload_n 1, 1))))
       (sd_br
        (sd_lf (sd_bipush (by decide +kernel : decode prog_9_method_42_code 35 = .ok (.bipush 14, 2)) (by decide +kernel)))
        (sd_lf (sd_pureS (sd_callS (by decide +kernel : decode prog_9_method_42_code 37 = .ok (.invokestatic 44, 3)) ok_Mo_at (gm 993 (by decide +kernel) rfl) (gm 994 (by decide +kernel) rfl) (by decide +kernel) rfl rfl) c_Mo_at))))
      (sd_br
       (sd_br
        (sd_lf (sd_iload_n (k := 2) (by decide +kernel : decode prog_9_method_42_code 40 = .ok (.iload_n 2, 1))))
        (sd_lf (sd_iastore (by decide +kernel : decode prog_9_method_42_code 41 = .ok (.iastore, 1)))))
       (sd_br
        (sd_lf (sd_iload_n (k := 1) (by decide +kernel : decode prog_9_method_42_code 42 = .ok (.iload_n 1, 1))))
        (sd_lf (sd_iret (by decide +kernel : decode prog_9_method_42_code 43 = .ok (.ireturn, 1)) rfl)))))))
/-- a packet of (s, q) for (b, d) does not leave t / leaves t by its i-th mapping -/
def GoF (z : Nat → Int32) (t : Nat) (s q b d : Int32) (z' : Nat → Int32) : Prop := mfZ z t s q b d (own z t) = nN ∧ MakR z t s q b d nN z'
def GoS (z : Nat → Int32) (t : Nat) (s q b d : Int32) (i : Nat) (z' : Nat → Int32) : Prop := ∃ z1 c, i < 8 ∧ ((mfZ z t s q b d (own z t) = nI i ∧ z1 = z) ∨ (mfZ z t s q b d (own z t) = nN ∧ MakR z t s q b d (nI i) z1)) ∧ z1 (176 + 8 * (8 * t + i) + 6) = nI c ∧ c ≤ 8 ∧ z' = meeZ (upd z1 (176 + 8 * (8 * t + i) + 5) (z1 0)) t i c b d
section
variable {l : Launch} {G : Gc}
theorem c_Mo_goesOutF (a zr t : Nat) (s q b d : Int32) (z' : Nat → Int32) (h : AH) (Q : Po) (hm : MoS h a zr) (ht : t < 10) (ho : OwnOK (hI h zr) t) (hs : hI h a 10 = s) (hq : hI h a 11 = q) (hr : GoF (hI h zr) t s q b d z') (hQ : Q (.inl (some (.int (nI 0)))) (zw h zr z')) : Call l G M_Mo_goesOut [.ref a, .int (nI t), .int b, .int d] h Q := by
  obtain ⟨h1, h2, h3, h4⟩ := id hm
  obtain ⟨r1, r2⟩ := hr
  have hP : P_Mo_mappingFor [.ref a, .int (nI t), .int s, .int q, .int b, .int d] h := ⟨zr, t, hm, rfl, ht, ho⟩
  have hzF := hm.zF
  have hcl : (nI t).toNatClampNeg = t := nI_clamp (by omega)
  refine call_of rfl rfl (Nat.le_of_ble_eq_true rfl) ?_
  ((obtain ⟨W9, hW9, hgo9⟩ := wp_ex (T_Mo_goesOut l G) [] _; refine hgo9 200 _ _ _ _ ?_; simp -implicitDefEqProofs (disch := omega) only [hW9, inl, gate, Xq, tz_const, tz_iload, tz_lload, tz_dload, tz_aload, tz_istore, tz_astore, tz_lstore, tz_dstore, tz_iinc, tz_i1, tz_i2, tz_i2z, tz_l2, tz_l2z, tz_i2l, tz_l2i, tz_lcmp, tz_i2d, tz_d2, tz_dcmp, tz_dup, tz_dup2, tz_pop, tz_if, tz_icmp, tz_null, tz_goto, tz_sw, tz_getf, tz_puti, tz_putz, tz_putr, tz_putl, tz_iaload, tz_baload, tz_laload, tz_aaload, tz_iastore, tz_bastore, tz_lastore, tz_aastore, tz_alen, tz_new, tz_newa, tz_oinit, tz_iret, tz_zret, tz_lret, tz_dret, tz_aret, tz_vret, tz_throw, tz_callS, tz_callV, tz_callI, tz_callR, tz_pureS, tz_pureV, tz_callVH, lg, lset, lkill, lst1, lst2, entL, isRf, is1, vl, va_rf_none, va_rf_some, isRf_rf, is1_rf, i0, i1, bI_eq0, bI_eq1, nm_em, nI_eqP, nI_leP, nI_ltP, nN_e1, nN_e2, nN_l1, nN_l2, nN_l3, nN_l4, nI_add, pk_mul, vp_inN, nI_cl, n01, n10, P_i, P_ii, P_iii, f_Mo_at, f_Mo_map, f_Mo_contact, f_Mo_within, f_Mo_isPort, f_Hp_endpoint, f_Hp_nodeOf, f_Hp_portOf, f_Ma_max, f_Ma_min, f_Hp_isSetting, popN, rok, a1, noX, swc, mL, if_true, if_false, ↓reduceIte, cond_true, cond_false, true_and, and_true, List.length_cons, List.length_nil, List.nil_append, List.cons_append, List.append_nil, Option.toList, Nat.reduceEqDiff, Bool.false_eq_true, reduceCtorEq, Nat.reduceAdd, Nat.reduceLT, Nat.reduceLeDiff, Nat.reduceSub, List.replicate, Nat.zero_add, Nat.lt_add_one, Nat.le_refl, Nat.zero_le, Nat.succ_ne_zero, not_false_eq_true, not_true_eq_false, false_implies, true_implies, forall_const, imp_self, true_or, or_true, eq_self, sI_zw, zw_zw, hI_zw, tg_zw, ln_zw, hR_zw, hL_zw, hN_zw, hM_zw, upd_s, upd_u, upd_ne, Classical.not_not, k_Mo_goesOut, h1, h2, h3, h4, hs, hq, hP, f_Mo_mappingFor, hzF, hcl, r1]; try clear hgo9 hW9); try (obtain ⟨W9, hW9, hgo9⟩ := wp_ex (T_Mo_goesOut l G) [] _; refine hgo9 200 _ _ _ _ ?_; simp -implicitDefEqProofs (disch := omega) only [hW9, inl, gate, Xq, tz_const, tz_iload, tz_lload, tz_dload, tz_aload, tz_istore, tz_astore, tz_lstore, tz_dstore, tz_iinc, tz_i1, tz_i2, tz_i2z, tz_l2, tz_l2z, tz_i2l, tz_l2i, tz_lcmp, tz_i2d, tz_d2, tz_dcmp, tz_dup, tz_dup2, tz_pop, tz_if, tz_icmp, tz_null, tz_goto, tz_sw, tz_getf, tz_puti, tz_putz, tz_putr, tz_putl, tz_iaload, tz_baload, tz_laload, tz_aaload, tz_iastore, tz_bastore, tz_lastore, tz_aastore, tz_alen, tz_new, tz_newa, tz_oinit, tz_iret, tz_zret, tz_lret, tz_dret, tz_aret, tz_vret, tz_throw, tz_callS, tz_callV, tz_callI, tz_callR, tz_pureS, tz_pureV, tz_callVH, lg, lset, lkill, lst1, lst2, entL, isRf, is1, vl, va_rf_none, va_rf_some, isRf_rf, is1_rf, i0, i1, bI_eq0, bI_eq1, nm_em, nI_eqP, nI_leP, nI_ltP, nN_e1, nN_e2, nN_l1, nN_l2, nN_l3, nN_l4, nI_add, pk_mul, vp_inN, nI_cl, n01, n10, P_i, P_ii, P_iii, f_Mo_at, f_Mo_map, f_Mo_contact, f_Mo_within, f_Mo_isPort, f_Hp_endpoint, f_Hp_nodeOf, f_Hp_portOf, f_Ma_max, f_Ma_min, f_Hp_isSetting, popN, rok, a1, noX, swc, mL, if_true, if_false, ↓reduceIte, cond_true, cond_false, true_and, and_true, List.length_cons, List.length_nil, List.nil_append, List.cons_append, List.append_nil, Option.toList, Nat.reduceEqDiff, Bool.false_eq_true, reduceCtorEq, Nat.reduceAdd, Nat.reduceLT, Nat.reduceLeDiff, Nat.reduceSub, List.replicate, Nat.zero_add, Nat.lt_add_one, Nat.le_refl, Nat.zero_le, Nat.succ_ne_zero, not_false_eq_true, not_true_eq_false, false_implies, true_implies, forall_const, imp_self, true_or, or_true, eq_self, sI_zw, zw_zw, hI_zw, tg_zw, ln_zw, hR_zw, hL_zw, hN_zw, hM_zw, upd_s, upd_u, upd_ne, Classical.not_not, k_Mo_goesOut, h1, h2, h3, h4, hs, hq, hP, f_Mo_mappingFor, hzF, hcl, r1]; try clear hgo9 hW9))
  refine c_Mo_make a zr t _ _ _ _ _ _ _ _ hm ht ho r2 ?_
  simp only [aft]
  ((obtain ⟨W9, hW9, hgo9⟩ := wp_ex (T_Mo_goesOut l G) [] _; refine hgo9 200 _ _ _ _ ?_; simp -implicitDefEqProofs (disch := omega) only [hW9, inl, gate, Xq, tz_const, tz_iload, tz_lload, tz_dload, tz_aload, tz_istore, tz_astore, tz_lstore, tz_dstore, tz_iinc, tz_i1, tz_i2, tz_i2z, tz_l2, tz_l2z, tz_i2l, tz_l2i, tz_lcmp, tz_i2d, tz_d2, tz_dcmp, tz_dup, tz_dup2, tz_pop, tz_if, tz_icmp, tz_null, tz_goto, tz_sw, tz_getf, tz_puti, tz_putz, tz_putr, tz_putl, tz_iaload, tz_baload, tz_laload, tz_aaload, tz_iastore, tz_bastore, tz_lastore, tz_aastore, tz_alen, tz_new, tz_newa, tz_oinit, tz_iret, tz_zret, tz_lret, tz_dret, tz_aret, tz_vret, tz_throw, tz_callS, tz_callV, tz_callI, tz_callR, tz_pureS, tz_pureV, tz_callVH, lg, lset, lkill, lst1, lst2, entL, isRf, is1, vl, va_rf_none, va_rf_some, isRf_rf, is1_rf, i0, i1, bI_eq0, bI_eq1, nm_em, nI_eqP, nI_leP, nI_ltP, nN_e1, nN_e2, nN_l1, nN_l2, nN_l3, nN_l4, nI_add, pk_mul, vp_inN, nI_cl, n01, n10, P_i, P_ii, P_iii, f_Mo_at, f_Mo_map, f_Mo_contact, f_Mo_within, f_Mo_isPort, f_Hp_endpoint, f_Hp_nodeOf, f_Hp_portOf, f_Ma_max, f_Ma_min, f_Hp_isSetting, popN, rok, a1, noX, swc, mL, if_true, if_false, ↓reduceIte, cond_true, cond_false, true_and, and_true, List.length_cons, List.length_nil, List.nil_append, List.cons_append, List.append_nil, Option.toList, Nat.reduceEqDiff, Bool.false_eq_true, reduceCtorEq, Nat.reduceAdd, Nat.reduceLT, Nat.reduceLeDiff, Nat.reduceSub, List.replicate, Nat.zero_add, Nat.lt_add_one, Nat.le_refl, Nat.zero_le, Nat.succ_ne_zero, not_false_eq_true, not_true_eq_false, false_implies, true_implies, forall_const, imp_self, true_or, or_true, eq_self, sI_zw, zw_zw, hI_zw, tg_zw, ln_zw, hR_zw, hL_zw, hN_zw, hM_zw, upd_s, upd_u, upd_ne, Classical.not_not, k_Mo_goesOut, h1, h2, h3, h4]; try clear hgo9 hW9); try (obtain ⟨W9, hW9, hgo9⟩ := wp_ex (T_Mo_goesOut l G) [] _; refine hgo9 200 _ _ _ _ ?_; simp -implicitDefEqProofs (disch := omega) only [hW9, inl, gate, Xq, tz_const, tz_iload, tz_lload, tz_dload, tz_aload, tz_istore, tz_astore, tz_lstore, tz_dstore, tz_iinc, tz_i1, tz_i2, tz_i2z, tz_l2, tz_l2z, tz_i2l, tz_l2i, tz_lcmp, tz_i2d, tz_d2, tz_dcmp, tz_dup, tz_dup2, tz_pop, tz_if, tz_icmp, tz_null, tz_goto, tz_sw, tz_getf, tz_puti, tz_putz, tz_putr, tz_putl, tz_iaload, tz_baload, tz_laload, tz_aaload, tz_iastore, tz_bastore, tz_lastore, tz_aastore, tz_alen, tz_new, tz_newa, tz_oinit, tz_iret, tz_zret, tz_lret, tz_dret, tz_aret, tz_vret, tz_throw, tz_callS, tz_callV, tz_callI, tz_callR, tz_pureS, tz_pureV, tz_callVH, lg, lset, lkill, lst1, lst2, entL, isRf, is1, vl, va_rf_none, va_rf_some, isRf_rf, is1_rf, i0, i1, bI_eq0, bI_eq1, nm_em, nI_eqP, nI_leP, nI_ltP, nN_e1, nN_e2, nN_l1, nN_l2, nN_l3, nN_l4, nI_add, pk_mul, vp_inN, nI_cl, n01, n10, P_i, P_ii, P_iii, f_Mo_at, f_Mo_map, f_Mo_contact, f_Mo_within, f_Mo_isPort, f_Hp_endpoint, f_Hp_nodeOf, f_Hp_portOf, f_Ma_max, f_Ma_min, f_Hp_isSetting, popN, rok, a1, noX, swc, mL, if_true, if_false, ↓reduceIte, cond_true, cond_false, true_and, and_true, List.length_cons, List.length_nil, List.nil_append, List.cons_append, List.append_nil, Option.toList, Nat.reduceEqDiff, Bool.false_eq_true, reduceCtorEq, Nat.reduceAdd, Nat.reduceLT, Nat.reduceLeDiff, Nat.reduceSub, List.replicate, Nat.zero_add, Nat.lt_add_one, Nat.le_refl, Nat.zero_le, Nat.succ_ne_zero, not_false_eq_true, not_true_eq_false, false_implies, true_implies, forall_const, imp_self, true_or, or_true, eq_self, sI_zw, zw_zw, hI_zw, tg_zw, ln_zw, hR_zw, hL_zw, hN_zw, hM_zw, upd_s, upd_u, upd_ne, Classical.not_not, k_Mo_goesOut, h1, h2, h3, h4]; try clear hgo9 hW9))
  exact hQ
theorem go_tail {a zr t i c : Nat} {b d : Int32} {z1 : Nat → Int32} {h : AH} {Q : Po} (hm : MoS h a zr) (ht : t < 10) (hi : i < 8) (hc : z1 (176 + 8 * (8 * t + i) + 6) = nI c) (hc8 : c ≤ 8)
    (hQ : Q (.inl (some (.int (nI 1)))) (zw (zw h zr (meeZ (upd z1 (176 + 8 * (8 * t + i) + 5) (z1 0)) t i c b d)) a (upd (upd (hI h a) 10 (nI t)) 11 (meeZ (upd z1 (176 + 8 * (8 * t + i) + 5) (z1 0)) t i c b d (176 + 8 * (8 * t + i) + 2))))) : AWp l G M_Mo_goesOut 53 [some (.ref a), some (.int (nI t)), some (.int b), some (.int d), some (.int (nI i))] [] (zw h zr z1) Q := by
  have rz := rd_ne hm.ne
  have ra := rd_ne hm.ne'
  obtain ⟨h1, h2, h3, h4⟩ := id hm
  (obtain ⟨W9, hW9, hgo9⟩ := wp_ex (T_Mo_goesOut l G) [] _; refine hgo9 200 _ _ _ _ ?_; simp -implicitDefEqProofs (disch := omega) only [hW9, inl, gate, Xq, tz_const, tz_iload, tz_lload, tz_dload, tz_aload, tz_istore, tz_astore, tz_lstore, tz_dstore, tz_iinc, tz_i1, tz_i2, tz_i2z, tz_l2, tz_l2z, tz_i2l, tz_l2i, tz_lcmp, tz_i2d, tz_d2, tz_dcmp, tz_dup, tz_dup2, tz_pop, tz_if, tz_icmp, tz_null, tz_goto, tz_sw, tz_getf, tz_puti, tz_putz, tz_putr, tz_putl, tz_iaload, tz_baload, tz_laload, tz_aaload, tz_iastore, tz_bastore, tz_lastore, tz_aastore, tz_alen, tz_new, tz_newa, tz_oinit, tz_iret, tz_zret, tz_lret, tz_dret, tz_aret, tz_vret, tz_throw, tz_callS, tz_callV, tz_callI, tz_callR, tz_pureS, tz_pureV, tz_callVH, lg, lset, lkill, lst1, lst2, entL, isRf, is1, vl, va_rf_none, va_rf_some, isRf_rf, is1_rf, i0, i1, bI_eq0, bI_eq1, nm_em, nI_eqP, nI_leP, nI_ltP, nN_e1, nN_e2, nN_l1, nN_l2, nN_l3, nN_l4, nI_add, pk_mul, vp_inN, nI_cl, n01, n10, P_i, P_ii, P_iii, f_Mo_at, f_Mo_map, f_Mo_contact, f_Mo_within, f_Mo_isPort, f_Hp_endpoint, f_Hp_nodeOf, f_Hp_portOf, f_Ma_max, f_Ma_min, f_Hp_isSetting, popN, rok, a1, noX, swc, mL, if_true, if_false, ↓reduceIte, cond_true, cond_false, true_and, and_true, List.length_cons, List.length_nil, List.nil_append, List.cons_append, List.append_nil, Option.toList, Nat.reduceEqDiff, Bool.false_eq_true, reduceCtorEq, Nat.reduceAdd, Nat.reduceLT, Nat.reduceLeDiff, Nat.reduceSub, List.replicate, Nat.zero_add, Nat.lt_add_one, Nat.le_refl, Nat.zero_le, Nat.succ_ne_zero, not_false_eq_true, not_true_eq_false, false_implies, true_implies, forall_const, imp_self, true_or, or_true, eq_self, sI_zw, zw_zw, hI_zw, tg_zw, ln_zw, hR_zw, hL_zw, hN_zw, hM_zw, upd_s, upd_u, upd_ne, Classical.not_not, k_Mo_goesOut, h1, h2, h3, h4]; try clear hgo9 hW9)
  refine c_Mo_meet a zr t i c _ _ _ _ hm.zw ht hi ?_ hc8 ?_
  · rw [hI_zw, upd_ne (by omega)]
    exact hc
  simp only [aft]
  (obtain ⟨W9, hW9, hgo9⟩ := wp_ex (T_Mo_goesOut l G) [] _; refine hgo9 200 _ _ _ _ ?_; simp -implicitDefEqProofs (disch := omega) only [hW9, inl, gate, Xq, tz_const, tz_iload, tz_lload, tz_dload, tz_aload, tz_istore, tz_astore, tz_lstore, tz_dstore, tz_iinc, tz_i1, tz_i2, tz_i2z, tz_l2, tz_l2z, tz_i2l, tz_l2i, tz_lcmp, tz_i2d, tz_d2, tz_dcmp, tz_dup, tz_dup2, tz_pop, tz_if, tz_icmp, tz_null, tz_goto, tz_sw, tz_getf, tz_puti, tz_putz, tz_putr, tz_putl, tz_iaload, tz_baload, tz_laload, tz_aaload, tz_iastore, tz_bastore, tz_lastore, tz_aastore, tz_alen, tz_new, tz_newa, tz_oinit, tz_iret, tz_zret, tz_lret, tz_dret, tz_aret, tz_vret, tz_throw, tz_callS, tz_callV, tz_callI, tz_callR, tz_pureS, tz_pureV, tz_callVH, lg, lset, lkill, lst1, lst2, entL, isRf, is1, vl, va_rf_none, va_rf_some, isRf_rf, is1_rf, i0, i1, bI_eq0, bI_eq1, nm_em, nI_eqP, nI_leP, nI_ltP, nN_e1, nN_e2, nN_l1, nN_l2, nN_l3, nN_l4, nI_add, pk_mul, vp_inN, nI_cl, n01, n10, P_i, P_ii, P_iii, f_Mo_at, f_Mo_map, f_Mo_contact, f_Mo_within, f_Mo_isPort, f_Hp_endpoint, f_Hp_nodeOf, f_Hp_portOf, f_Ma_max, f_Ma_min, f_Hp_isSetting, popN, rok, a1, noX, swc, mL, if_true, if_false, ↓reduceIte, cond_true, cond_false, true_and, and_true, List.length_cons, List.length_nil, List.nil_append, List.cons_append, List.append_nil, Option.toList, Nat.reduceEqDiff, Bool.false_eq_true, reduceCtorEq, Nat.reduceAdd, Nat.reduceLT, Nat.reduceLeDiff, Nat.reduceSub, List.replicate, Nat.zero_add, Nat.lt_add_one, Nat.le_refl, Nat.zero_le, Nat.succ_ne_zero, not_false_eq_true, not_true_eq_false, false_implies, true_implies, forall_const, imp_self, true_or, or_true, eq_self, sI_zw, zw_zw, hI_zw, tg_zw, ln_zw, hR_zw, hL_zw, hN_zw, hM_zw, upd_s, upd_u, upd_ne, Classical.not_not, k_Mo_goesOut, h1, h2, h3, h4, rz, ra]; try clear hgo9 hW9)
  exact hQ
theorem c_Mo_goesOutS (a zr t i : Nat) (s q b d : Int32) (z' : Nat → Int32) (h : AH) (Q : Po) (hm : MoS h a zr) (ht : t < 10) (ho : OwnOK (hI h zr) t) (hs : hI h a 10 = s) (hq : hI h a 11 = q) (hr : GoS (hI h zr) t s q b d i z') (hQ : Q (.inl (some (.int (nI 1)))) (zw (zw h zr z') a (upd (upd (hI h a) 10 (nI t)) 11 (z' (176 + 8 * (8 * t + i) + 2))))) : Call l G M_Mo_goesOut [.ref a, .int (nI t), .int b, .int d] h Q := by
  obtain ⟨h1, h2, h3, h4⟩ := id hm
  obtain ⟨z1, c, hi, r1, hc, hc8, rfl⟩ := hr
  have hP : P_Mo_mappingFor [.ref a, .int (nI t), .int s, .int q, .int b, .int d] h := ⟨zr, t, hm, rfl, ht, ho⟩
  have hzF := hm.zF
  have hcl : (nI t).toNatClampNeg = t := nI_clamp (by omega)
  refine call_of rfl rfl (Nat.le_of_ble_eq_true rfl) ?_
  rcases r1 with ⟨r1, rfl⟩ | ⟨r1, r2⟩
  · ((obtain ⟨W9, hW9, hgo9⟩ := wp_ex (T_Mo_goesOut l G) [53] _; refine hgo9 200 _ _ _ _ ?_; simp -implicitDefEqProofs (disch := omega) only [hW9, inl, gate, Xq, tz_const, tz_iload, tz_lload, tz_dload, tz_aload, tz_istore, tz_astore, tz_lstore, tz_dstore, tz_iinc, tz_i1, tz_i2, tz_i2z, tz_l2, tz_l2z, tz_i2l, tz_l2i, tz_lcmp, tz_i2d, tz_d2, tz_dcmp, tz_dup, tz_dup2, tz_pop, tz_if, tz_icmp, tz_null, tz_goto, tz_sw, tz_getf, tz_puti, tz_putz, tz_putr, tz_putl, tz_iaload, tz_baload, tz_laload, tz_aaload, tz_iastore, tz_bastore, tz_lastore, tz_aastore, tz_alen, tz_new, tz_newa, tz_oinit, tz_iret, tz_zret, tz_lret, tz_dret, tz_aret, tz_vret, tz_throw, tz_callS, tz_callV, tz_callI, tz_callR, tz_pureS, tz_pureV, tz_callVH, lg, lset, lkill, lst1, lst2, entL, isRf, is1, vl, va_rf_none, va_rf_some, isRf_rf, is1_rf, i0, i1, bI_eq0, bI_eq1, nm_em, nI_eqP, nI_leP, nI_ltP, nN_e1, nN_e2, nN_l1, nN_l2, nN_l3, nN_l4, nI_add, pk_mul, vp_inN, nI_cl, n01, n10, P_i, P_ii, P_iii, f_Mo_at, f_Mo_map, f_Mo_contact, f_Mo_within, f_Mo_isPort, f_Hp_endpoint, f_Hp_nodeOf, f_Hp_portOf, f_Ma_max, f_Ma_min, f_Hp_isSetting, popN, rok, a1, noX, swc, mL, if_true, if_false, ↓reduceIte, cond_true, cond_false, true_and, and_true, List.length_cons, List.length_nil, List.nil_append, List.cons_append, List.append_nil, Option.toList, Nat.reduceEqDiff, Bool.false_eq_true, reduceCtorEq, Nat.reduceAdd, Nat.reduceLT, Nat.reduceLeDiff, Nat.reduceSub, List.replicate, Nat.zero_add, Nat.lt_add_one, Nat.le_refl, Nat.zero_le, Nat.succ_ne_zero, not_false_eq_true, not_true_eq_false, false_implies, true_implies, forall_const, imp_self, true_or, or_true, eq_self, sI_zw, zw_zw, hI_zw, tg_zw, ln_zw, hR_zw, hL_zw, hN_zw, hM_zw, upd_s, upd_u, upd_ne, Classical.not_not, k_Mo_goesOut, h1, h2, h3, h4, hs, hq, hP, f_Mo_mappingFor, hzF, hcl, r1]; try clear hgo9 hW9); try (obtain ⟨W9, hW9, hgo9⟩ := wp_ex (T_Mo_goesOut l G) [53] _; refine hgo9 200 _ _ _ _ ?_; simp -implicitDefEqProofs (disch := omega) only [hW9, inl, gate, Xq, tz_const, tz_iload, tz_lload, tz_dload, tz_aload, tz_istore, tz_astore, tz_lstore, tz_dstore, tz_iinc, tz_i1, tz_i2, tz_i2z, tz_l2, tz_l2z, tz_i2l, tz_l2i, tz_lcmp, tz_i2d, tz_d2, tz_dcmp, tz_dup, tz_dup2, tz_pop, tz_if, tz_icmp, tz_null, tz_goto, tz_sw, tz_getf, tz_puti, tz_putz, tz_putr, tz_putl, tz_iaload, tz_baload, tz_laload, tz_aaload, tz_iastore, tz_bastore, tz_lastore, tz_aastore, tz_alen, tz_new, tz_newa, tz_oinit, tz_iret, tz_zret, tz_lret, tz_dret, tz_aret, tz_vret, tz_throw, tz_callS, tz_callV, tz_callI, tz_callR, tz_pureS, tz_pureV, tz_callVH, lg, lset, lkill, lst1, lst2, entL, isRf, is1, vl, va_rf_none, va_rf_some, isRf_rf, is1_rf, i0, i1, bI_eq0, bI_eq1, nm_em, nI_eqP, nI_leP, nI_ltP, nN_e1, nN_e2, nN_l1, nN_l2, nN_l3, nN_l4, nI_add, pk_mul, vp_inN, nI_cl, n01, n10, P_i, P_ii, P_iii, f_Mo_at, f_Mo_map, f_Mo_contact, f_Mo_within, f_Mo_isPort, f_Hp_endpoint, f_Hp_nodeOf, f_Hp_portOf, f_Ma_max, f_Ma_min, f_Hp_isSetting, popN, rok, a1, noX, swc, mL, if_true, if_false, ↓reduceIte, cond_true, cond_false, true_and, and_true, List.length_cons, List.length_nil, List.nil_append, List.cons_append, List.append_nil, Option.toList, Nat.reduceEqDiff, Bool.false_eq_true, reduceCtorEq, Nat.reduceAdd, Nat.reduceLT, Nat.reduceLeDiff, Nat.reduceSub, List.replicate, Nat.zero_add, Nat.lt_add_one, Nat.le_refl, Nat.zero_le, Nat.succ_ne_zero, not_false_eq_true, not_true_eq_false, false_implies, true_implies, forall_const, imp_self, true_or, or_true, eq_self, sI_zw, zw_zw, hI_zw, tg_zw, ln_zw, hR_zw, hL_zw, hN_zw, hM_zw, upd_s, upd_u, upd_ne, Classical.not_not, k_Mo_goesOut, h1, h2, h3, h4, hs, hq, hP, f_Mo_mappingFor, hzF, hcl, r1]; try clear hgo9 hW9))
    have := go_tail (l := l) (G := G) (Q := Q) hm ht hi hc hc8 hQ
    rw [zw_self] at this
    exact this
  · ((obtain ⟨W9, hW9, hgo9⟩ := wp_ex (T_Mo_goesOut l G) [] _; refine hgo9 200 _ _ _ _ ?_; simp -implicitDefEqProofs (disch := omega) only [hW9, inl, gate, Xq, tz_const, tz_iload, tz_lload, tz_dload, tz_aload, tz_istore, tz_astore, tz_lstore, tz_dstore, tz_iinc, tz_i1, tz_i2, tz_i2z, tz_l2, tz_l2z, tz_i2l, tz_l2i, tz_lcmp, tz_i2d, tz_d2, tz_dcmp, tz_dup, tz_dup2, tz_pop, tz_if, tz_icmp, tz_null, tz_goto, tz_sw, tz_getf, tz_puti, tz_putz, tz_putr, tz_putl, tz_iaload, tz_baload, tz_laload, tz_aaload, tz_iastore, tz_bastore, tz_lastore, tz_aastore, tz_alen, tz_new, tz_newa, tz_oinit, tz_iret, tz_zret, tz_lret, tz_dret, tz_aret, tz_vret, tz_throw, tz_callS, tz_callV, tz_callI, tz_callR, tz_pureS, tz_pureV, tz_callVH, lg, lset, lkill, lst1, lst2, entL, isRf, is1, vl, va_rf_none, va_rf_some, isRf_rf, is1_rf, i0, i1, bI_eq0, bI_eq1, nm_em, nI_eqP, nI_leP, nI_ltP, nN_e1, nN_e2, nN_l1, nN_l2, nN_l3, nN_l4, nI_add, pk_mul, vp_inN, nI_cl, n01, n10, P_i, P_ii, P_iii, f_Mo_at, f_Mo_map, f_Mo_contact, f_Mo_within, f_Mo_isPort, f_Hp_endpoint, f_Hp_nodeOf, f_Hp_portOf, f_Ma_max, f_Ma_min, f_Hp_isSetting, popN, rok, a1, noX, swc, mL, if_true, if_false, ↓reduceIte, cond_true, cond_false, true_and, and_true, List.length_cons, List.length_nil, List.nil_append, List.cons_append, List.append_nil, Option.toList, Nat.reduceEqDiff, Bool.false_eq_true, reduceCtorEq, Nat.reduceAdd, Nat.reduceLT, Nat.reduceLeDiff, Nat.reduceSub, List.replicate, Nat.zero_add, Nat.lt_add_one, Nat.le_refl, Nat.zero_le, Nat.succ_ne_zero, not_false_eq_true, not_true_eq_false, false_implies, true_implies, forall_const, imp_self, true_or, or_true, eq_self, sI_zw, zw_zw, hI_zw, tg_zw, ln_zw, hR_zw, hL_zw, hN_zw, hM_zw, upd_s, upd_u, upd_ne, Classical.not_not, k_Mo_goesOut, h1, h2, h3, h4, hs, hq, hP, f_Mo_mappingFor, hzF, hcl, r1]; try clear hgo9 hW9); try (obtain ⟨W9, hW9, hgo9⟩ := wp_ex (T_Mo_goesOut l G) [] _; refine hgo9 200 _ _ _ _ ?_; simp -implicitDefEqProofs (disch := omega) only [hW9, inl, gate, Xq, tz_const, tz_iload, tz_lload, tz_dload, tz_aload, tz_istore, tz_astore, tz_lstore, tz_dstore, tz_iinc, tz_i1, tz_i2, tz_i2z, tz_l2, tz_l2z, tz_i2l, tz_l2i, tz_lcmp, tz_i2d, tz_d2, tz_dcmp, tz_dup, tz_dup2, tz_pop, tz_if, tz_icmp, tz_null, tz_goto, tz_sw, tz_getf, tz_puti, tz_putz, tz_putr, tz_putl, tz_iaload, tz_baload, tz_laload, tz_aaload, tz_iastore, tz_bastore, tz_lastore, tz_aastore, tz_alen, tz_new, tz_newa, tz_oinit, tz_iret, tz_zret, tz_lret, tz_dret, tz_aret, tz_vret, tz_throw, tz_callS, tz_callV, tz_callI, tz_callR, tz_pureS, tz_pureV, tz_callVH, lg, lset, lkill, lst1, lst2, entL, isRf, is1, vl, va_rf_none, va_rf_some, isRf_rf, is1_rf, i0, i1, bI_eq0, bI_eq1, nm_em, nI_eqP, nI_leP, nI_ltP, nN_e1, nN_e2, nN_l1, nN_l2, nN_l3, nN_l4, nI_add, pk_mul, vp_inN, nI_cl, n01, n10, P_i, P_ii, P_iii, f_Mo_at, f_Mo_map, f_Mo_contact, f_Mo_within, f_Mo_isPort, f_Hp_endpoint, f_Hp_nodeOf, f_Hp_portOf, f_Ma_max, f_Ma_min, f_Hp_isSetting, popN, rok, a1, noX, swc, mL, if_true, if_false, ↓reduceIte, cond_true, cond_false, true_and, and_true, List.length_cons, List.length_nil, List.nil_append, List.cons_append, List.append_nil, Option.toList, Nat.reduceEqDiff, Bool.false_eq_true, reduceCtorEq, Nat.reduceAdd, Nat.reduceLT, Nat.reduceLeDiff, Nat.reduceSub, List.replicate, Nat.zero_add, Nat.lt_add_one, Nat.le_refl, Nat.zero_le, Nat.succ_ne_zero, not_false_eq_true, not_true_eq_false, false_implies, true_implies, forall_const, imp_self, true_or, or_true, eq_self, sI_zw, zw_zw, hI_zw, tg_zw, ln_zw, hR_zw, hL_zw, hN_zw, hM_zw, upd_s, upd_u, upd_ne, Classical.not_not, k_Mo_goesOut, h1, h2, h3, h4, hs, hq, hP, f_Mo_mappingFor, hzF, hcl, r1]; try clear hgo9 hW9))
    refine c_Mo_make a zr t _ _ _ _ _ _ _ _ hm ht ho r2 ?_
    simp only [aft]
    (obtain ⟨W9, hW9, hgo9⟩ := wp_ex (T_Mo_goesOut l G) [53] _; refine hgo9 200 _ _ _ _ ?_; simp -implicitDefEqProofs (disch := omega) only [hW9, inl, gate, Xq, tz_const, tz_iload, tz_lload, tz_dload, tz_aload, tz_istore, tz_astore, tz_lstore, tz_dstore, tz_iinc, tz_i1, tz_i2, tz_i2z, tz_l2, tz_l2z, tz_i2l, tz_l2i, tz_lcmp, tz_i2d, tz_d2, tz_dcmp, tz_dup, tz_dup2, tz_pop, tz_if, tz_icmp, tz_null, tz_goto, tz_sw, tz_getf, tz_puti, tz_putz, tz_putr, tz_putl, tz_iaload, tz_baload, tz_laload, tz_aaload, tz_iastore, tz_bastore, tz_lastore, tz_aastore, tz_alen, tz_new, tz_newa, tz_oinit, tz_iret, tz_zret, tz_lret, tz_dret, tz_aret, tz_vret, tz_throw, tz_callS, tz_callV, tz_callI, tz_callR, tz_pureS, tz_pureV, tz_callVH, lg, lset, lkill, lst1, lst2, entL, isRf, is1, vl, va_rf_none, va_rf_some, isRf_rf, is1_rf, i0, i1, bI_eq0, bI_eq1, nm_em, nI_eqP, nI_leP, nI_ltP, nN_e1, nN_e2, nN_l1, nN_l2, nN_l3, nN_l4, nI_add, pk_mul, vp_inN, nI_cl, n01, n10, P_i, P_ii, P_iii, f_Mo_at, f_Mo_map, f_Mo_contact, f_Mo_within, f_Mo_isPort, f_Hp_endpoint, f_Hp_nodeOf, f_Hp_portOf, f_Ma_max, f_Ma_min, f_Hp_isSetting, popN, rok, a1, noX, swc, mL, if_true, if_false, ↓reduceIte, cond_true, cond_false, true_and, and_true, List.length_cons, List.length_nil, List.nil_append, List.cons_append, List.append_nil, Option.toList, Nat.reduceEqDiff, Bool.false_eq_true, reduceCtorEq, Nat.reduceAdd, Nat.reduceLT, Nat.reduceLeDiff, Nat.reduceSub, List.replicate, Nat.zero_add, Nat.lt_add_one, Nat.le_refl, Nat.zero_le, Nat.succ_ne_zero, not_false_eq_true, not_true_eq_false, false_implies, true_implies, forall_const, imp_self, true_or, or_true, eq_self, sI_zw, zw_zw, hI_zw, tg_zw, ln_zw, hR_zw, hL_zw, hN_zw, hM_zw, upd_s, upd_u, upd_ne, Classical.not_not, k_Mo_goesOut, h1, h2, h3, h4]; try clear hgo9 hW9)
    exact go_tail hm ht hi hc hc8 hQ
def delZ (z : Nat → Int32) (n : Nat) (s q p : Int32) : Nat → Int32 := upd (upd (upd z (16 + 16 * n + 12) s) (16 + 16 * n + 13) q) (16 + 16 * n + 14) p
theorem c_Mo_deliver (a zr n : Nat) (s q p : Int32) (h : AH) (Q : Po) (hm : MoS h a zr) (hn : n < 10) (hs : hI h a 10 = s) (hq : hI h a 11 = q) (hQ : Q (.inl (some (.int (nI n)))) (zw h zr (delZ (hI h zr) n s q p))) : Call l G M_Mo_deliver [.ref a, .int (nI n), .int p] h Q := by
  have ra := rd_ne hm.ne'
  obtain ⟨h1, h2, h3, h4⟩ := id hm
  refine call_of rfl rfl (Nat.le_of_ble_eq_true rfl) ?_
  (obtain ⟨W9, hW9, hgo9⟩ := wp_ex (T_Mo_deliver l G) [] _; refine hgo9 200 _ _ _ _ ?_; simp -implicitDefEqProofs (disch := omega) only [hW9, inl, gate, Xq, tz_const, tz_iload, tz_lload, tz_dload, tz_aload, tz_istore, tz_astore, tz_lstore, tz_dstore, tz_iinc, tz_i1, tz_i2, tz_i2z, tz_l2, tz_l2z, tz_i2l, tz_l2i, tz_lcmp, tz_i2d, tz_d2, tz_dcmp, tz_dup, tz_dup2, tz_pop, tz_if, tz_icmp, tz_null, tz_goto, tz_sw, tz_getf, tz_puti, tz_putz, tz_putr, tz_putl, tz_iaload, tz_baload, tz_laload, tz_aaload, tz_iastore, tz_bastore, tz_lastore, tz_aastore, tz_alen, tz_new, tz_newa, tz_oinit, tz_iret, tz_zret, tz_lret, tz_dret, tz_aret, tz_vret, tz_throw, tz_callS, tz_callV, tz_callI, tz_callR, tz_pureS, tz_pureV, tz_callVH, lg, lset, lkill, lst1, lst2, entL, isRf, is1, vl, va_rf_none, va_rf_some, isRf_rf, is1_rf, i0, i1, bI_eq0, bI_eq1, nm_em, nI_eqP, nI_leP, nI_ltP, nN_e1, nN_e2, nN_l1, nN_l2, nN_l3, nN_l4, nI_add, pk_mul, vp_inN, nI_cl, n01, n10, P_i, P_ii, P_iii, f_Mo_at, f_Mo_map, f_Mo_contact, f_Mo_within, f_Mo_isPort, f_Hp_endpoint, f_Hp_nodeOf, f_Hp_portOf, f_Ma_max, f_Ma_min, f_Hp_isSetting, popN, rok, a1, noX, swc, mL, if_true, if_false, ↓reduceIte, cond_true, cond_false, true_and, and_true, List.length_cons, List.length_nil, List.nil_append, List.cons_append, List.append_nil, Option.toList, Nat.reduceEqDiff, Bool.false_eq_true, reduceCtorEq, Nat.reduceAdd, Nat.reduceLT, Nat.reduceLeDiff, Nat.reduceSub, List.replicate, Nat.zero_add, Nat.lt_add_one, Nat.le_refl, Nat.zero_le, Nat.succ_ne_zero, not_false_eq_true, not_true_eq_false, false_implies, true_implies, forall_const, imp_self, true_or, or_true, eq_self, sI_zw, zw_zw, hI_zw, tg_zw, ln_zw, hR_zw, hL_zw, hN_zw, hM_zw, upd_s, upd_u, upd_ne, Classical.not_not, k_Mo_deliver, h1, h2, h3, h4, hs, hq, ra]; try clear hgo9 hW9)
  exact hQ
end
