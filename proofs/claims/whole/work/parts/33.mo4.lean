def k_Mo_hostsBehind (l : Launch) (G : Gc) (pc : Nat) : Tr :=
  if pc < 20 then
   if pc < 9 then
    if pc < 3 then
     if pc < 1 then
      if pc = 0 then tz_const 1 (.int (nI 0)) else dead
     else
      if pc < 2 then
       if pc = 1 then tz_istore 2 2 else dead
      else
       if pc = 2 then tz_const 3 (.int (nI 0)) else dead
    else
     if pc < 5 then
      if pc < 4 then
       if pc = 3 then tz_istore 4 3 else dead
      else
       if pc = 4 then tz_iload 5 3 else dead
     else
      if pc < 6 then
       if pc = 5 then tz_aload 6 0 else dead
      else
       if pc = 6 then tz_getf 9 7 1 1 else dead
   else
    if pc < 14 then
     if pc < 10 then
      if pc = 9 then tz_const 10 (.int (nI 1)) else dead
     else
      if pc < 11 then
       if pc = 10 then tz_iaload 11 else dead
      else
       if pc = 11 then tz_icmp 14 45 (fun a b => b ≤ a) else dead
    else
     if pc < 16 then
      if pc < 15 then
       if pc = 14 then tz_iload 15 2 else dead
      else
       if pc = 15 then tz_aload 16 0 else dead
     else
      if pc < 17 then
       if pc = 16 then tz_iload 17 3 else dead
      else
       if pc = 17 then tz_pureV 20 1 7 P_Mo_isHost f_Mo_isHost else dead
  else
   if pc < 33 then
    if pc < 25 then
     if pc < 23 then
      if pc = 20 then tz_if 23 36 (fun a => a = 0) else dead
     else
      if pc < 24 then
       if pc = 23 then tz_aload 24 0 else dead
      else
       if pc = 24 then tz_iload 25 3 else dead
    else
     if pc < 29 then
      if pc < 26 then
       if pc = 25 then tz_iload 26 1 else dead
      else
       if pc = 26 then tz_pureV 29 2 7 P_Mo_isBehind f_Mo_isBehind else dead
     else
      if pc < 32 then
       if pc = 29 then tz_if 32 36 (fun a => a = 0) else dead
      else
       if pc = 32 then tz_const 33 (.int (nI 1)) else dead
   else
    if pc < 39 then
     if pc < 37 then
      if pc < 36 then
       if pc = 33 then tz_goto 37 else dead
      else
       if pc = 36 then tz_const 37 (.int (nI 0)) else dead
     else
      if pc < 38 then
       if pc = 37 then tz_i2 38 (fun a b => a + b) else dead
      else
       if pc = 38 then tz_istore 39 2 else dead
    else
     if pc < 45 then
      if pc < 42 then
       if pc = 39 then tz_iinc 42 3 (nI 1) else dead
      else
       if pc = 42 then tz_goto 4 else dead
     else
      if pc < 46 then
       if pc = 45 then tz_iload 46 2 else dead
      else
       if pc = 46 then tz_iret else dead
set_option maxRecDepth 100000 in
theorem T_Mo_hostsBehind (l : Launch) (G : Gc) : TabOK l G M_Mo_hostsBehind (k_Mo_hostsBehind l G) := by
  intro pc
  unfold k_Mo_hostsBehind
  exact
   (sd_br
    (sd_br
     (sd_br
      (sd_br
       (sd_lf (sd_iconst (by decide +kernel : decode prog_9_method_61_code 0 = .ok (.iconst 0, 1)) (by decide +kernel)))
       (sd_br
        (sd_lf (sd_istore_n (k := 2) (by decide +kernel : decode prog_9_method_61_code 1 = .ok (.istore_n 2, 1))))
        (sd_lf (sd_iconst (by decide +kernel : decode prog_9_method_61_code 2 = .ok (.iconst 0, 1)) (by decide +kernel)))))
      (sd_br
       (sd_br
        (sd_lf (sd_istore_n (k := 3) (by decide +kernel : decode prog_9_method_61_code 3 = .ok (.istore_n 3, 1))))
        (sd_lf (sd_iload_n (k := 3) (by decide +kernel : decode prog_9_method_61_code 4 = .ok (.iload_n 3, 1)))))
       (sd_br
        (sd_lf (sd_aload_n (k := 0) (by decide +kernel : decode prog_9_method_61_code 5 = .ok (.aload_n 0, 1))))
        (sd_lf (sd_getf (q := (RX7, TX7, 16)) (by decide +kernel : decode prog_9_method_61_code 6 = .ok (.getfield 7, 3)) rfl (by decide +kernel) (gm 913 (by decide +kernel) rfl))))))
     (sd_br
      (sd_br
       (sd_lf (sd_iconst (by decide +kernel : decode prog_9_method_61_code 9 = .ok (.iconst 1, 1)) (by decide +kernel)))
       (sd_br
        (sd_lf (sd_iaload (by decide +kernel : decode prog_9_method_61_code 10 = .ok (.iaload, 1))))
        (sd_lf (sd_icmp_ge (by decide +kernel : decode prog_9_method_61_code 11 = .ok (.if_icmp .ge 34, 3)) (by decide +kernel)))))
      (sd_br
       (sd_br
        (sd_lf (sd_iload_n (k := 2) (by decide +kernel : decode prog_9_method_61_code 14 = .ok (.iload_n 2, 1))))
        (sd_lf (sd_aload_n (k := 0) (by decide +kernel : decode prog_9_method_61_code 15 = .ok (.aload_n 0, 1)))))
       (sd_br
        (sd_lf (sd_iload_n (k := 3) (by decide +kernel : decode prog_9_method_61_code 16 = .ok (.iload_n 3, 1))))
        (sd_lf (sd_pureV (sd_callV (q := (RX7, TX7, 16)) (by decide +kernel : decode prog_9_method_61_code 17 = .ok (.invokevirtual 165, 3)) ok_Mo_isHost (gm 1083 (by decide +kernel) rfl) (gm 1085 (by decide +kernel) rfl) (gm 42 (by decide +kernel) rfl) rfl rfl (by decide +kernel) rfl rfl) c_Mo_isHost))))))
    (sd_br
     (sd_br
      (sd_br
       (sd_lf (sd_if_eq (by decide +kernel : decode prog_9_method_61_code 20 = .ok (.ifCond .eq 16, 3)) (by decide +kernel)))
       (sd_br
        (sd_lf (sd_aload_n (k := 0) (by decide +kernel : decode prog_9_method_61_code 23 = .ok (.aload_n 0, 1))))
        (sd_lf (sd_iload_n (k := 3) (by decide +kernel : decode prog_9_method_61_code 24 = .ok (.iload_n 3, 1))))))
      (sd_br
       (sd_br
        (sd_lf (sd_iload_n (k := 1) (by decide +kernel : decode prog_9_method_61_code 25 = .ok (.iload_n 1, 1))))
        (sd_lf (sd_pureV (sd_callV (q := (RX7, TX7, 16)) (by decide +kernel : decode prog_9_method_61_code 26 = .ok (.invokevirtual 199, 3)) ok_Mo_isBehind (gm 1207 (by decide +kernel) rfl) (gm 1209 (by decide +kernel) rfl) (gm 65 (by decide +kernel) rfl) rfl rfl (by decide +kernel) rfl rfl) c_Mo_isBehind)))
       (sd_br
        (sd_lf (sd_if_eq (by decide +kernel : decode prog_9_method_61_code 29 = .ok (.ifCond .eq 7, 3)) (by decide +kernel)))
        (sd_lf (sd_iconst (by decide +kernel : decode prog_9_method_61_code 32 = .ok (.iconst 1, 1)) (by decide +kernel))))))
     (sd_br
      (sd_br
       (sd_br
        (sd_lf (sd_goto (by decide +kernel : decode prog_9_method_61_code 33 = .ok (.goto 4, 3)) (by decide +kernel)))
        (sd_lf (sd_iconst (by decide +kernel : decode prog_9_method_61_code 36 = .ok (.iconst 0, 1)) (by decide +kernel))))
       (sd_br
        (sd_lf (sd_iadd (by decide +kernel : decode prog_9_method_61_code 37 = .ok (.iadd, 1))))
        (sd_lf (sd_istore_n (k := 2) (by decide +kernel : decode prog_9_method_61_code 38 = .ok (.istore_n 2, 1))))))
      (sd_br
       (sd_br
        (sd_lf (sd_iinc (by decide +kernel : decode prog_9_method_61_code 39 = .ok (.iinc 3 1, 3)) (by decide +kernel)))
        (sd_lf (sd_goto (by decide +kernel : decode prog_9_method_61_code 42 = .ok (.goto (-38), 3)) (by decide +kernel))))
       (sd_br
        (sd_lf (sd_iload_n (k := 2) (by decide +kernel : decode prog_9_method_61_code 45 = .ok (.iload_n 2, 1))))
        (sd_lf (sd_iret (by decide +kernel : decode prog_9_method_61_code 46 = .ok (.ireturn, 1)) rfl)))))))
def k_Mo_mappingFor (l : Launch) (G : Gc) (pc : Nat) : Tr :=
  if pc < 71 then
   if pc < 35 then
    if pc < 16 then
     if pc < 9 then
      if pc < 4 then
       if pc < 1 then
        if pc = 0 then tz_aload 1 0 else dead
       else
        if pc = 1 then tz_getf 4 7 1 1 else dead
      else
       if pc < 5 then
        if pc = 4 then tz_iload 5 1 else dead
       else
        if pc < 6 then
         if pc = 5 then tz_const 6 (.int (nI 2)) else dead
        else
         if pc = 6 then tz_pureS 9 2 P_Mo_at f_Mo_at else dead
     else
      if pc < 12 then
       if pc < 10 then
        if pc = 9 then tz_iaload 10 else dead
       else
        if pc = 10 then tz_istore 12 6 else dead
      else
       if pc < 13 then
        if pc = 12 then tz_const 13 (.int (nN)) else dead
       else
        if pc < 15 then
         if pc = 13 then tz_istore 15 7 else dead
        else
         if pc = 15 then tz_const 16 (.int (nI 0)) else dead
    else
     if pc < 25 then
      if pc < 20 then
       if pc < 18 then
        if pc = 16 then tz_istore 18 8 else dead
       else
        if pc = 18 then tz_iload 20 8 else dead
      else
       if pc < 21 then
        if pc = 20 then tz_aload 21 0 else dead
       else
        if pc < 24 then
         if pc = 21 then tz_getf 24 7 1 1 else dead
        else
         if pc = 24 then tz_iload 25 1 else dead
     else
      if pc < 30 then
       if pc < 27 then
        if pc = 25 then tz_const 27 (.int (nI 11)) else dead
       else
        if pc = 27 then tz_pureS 30 2 P_Mo_at f_Mo_at else dead
      else
       if pc < 31 then
        if pc = 30 then tz_iaload 31 else dead
       else
        if pc < 34 then
         if pc = 31 then tz_icmp 34 150 (fun a b => b ≤ a) else dead
        else
         if pc = 34 then tz_aload 35 0 else dead
   else
    if pc < 54 then
     if pc < 45 then
      if pc < 39 then
       if pc < 38 then
        if pc = 35 then tz_getf 38 7 1 1 else dead
       else
        if pc = 38 then tz_iload 39 1 else dead
      else
       if pc < 41 then
        if pc = 39 then tz_iload 41 8 else dead
       else
        if pc < 42 then
         if pc = 41 then tz_const 42 (.int (nI 0)) else dead
        else
         if pc = 42 then tz_pureS 45 3 P_Mo_map f_Mo_map else dead
     else
      if pc < 47 then
       if pc < 46 then
        if pc = 45 then tz_iaload 46 else dead
       else
        if pc = 46 then tz_iload 47 2 else dead
      else
       if pc < 50 then
        if pc = 47 then tz_icmp 50 70 (fun a b => ¬ a = b) else dead
       else
        if pc < 51 then
         if pc = 50 then tz_aload 51 0 else dead
        else
         if pc = 51 then tz_getf 54 7 1 1 else dead
    else
     if pc < 62 then
      if pc < 57 then
       if pc < 55 then
        if pc = 54 then tz_iload 55 1 else dead
       else
        if pc = 55 then tz_iload 57 8 else dead
      else
       if pc < 58 then
        if pc = 57 then tz_const 58 (.int (nI 1)) else dead
       else
        if pc < 61 then
         if pc = 58 then tz_pureS 61 3 P_Mo_map f_Mo_map else dead
        else
         if pc = 61 then tz_iaload 62 else dead
     else
      if pc < 66 then
       if pc < 63 then
        if pc = 62 then tz_iload 63 3 else dead
       else
        if pc = 63 then tz_icmp 66 70 (fun a b => ¬ a = b) else dead
      else
       if pc < 67 then
        if pc = 66 then tz_const 67 (.int (nI 1)) else dead
       else
        if pc < 70 then
         if pc = 67 then tz_goto 71 else dead
        else
         if pc = 70 then tz_const 71 (.int (nI 0)) else dead
  else
   if pc < 111 then
    if pc < 91 then
     if pc < 83 then
      if pc < 75 then
       if pc < 73 then
        if pc = 71 then tz_istore 73 9 else dead
       else
        if pc = 73 then tz_iload 75 9 else dead
      else
       if pc < 78 then
        if pc = 75 then tz_if 78 127 (fun a => a = 0) else dead
       else
        if pc < 80 then
         if pc = 78 then tz_iload 80 6 else dead
        else
         if pc = 80 then tz_if 83 100 (fun a => a = 0) else dead
     else
      if pc < 87 then
       if pc < 84 then
        if pc = 83 then tz_aload 84 0 else dead
       else
        if pc = 84 then tz_getf 87 7 1 1 else dead
      else
       if pc < 88 then
        if pc = 87 then tz_iload 88 1 else dead
       else
        if pc < 90 then
         if pc = 88 then tz_iload 90 8 else dead
        else
         if pc = 90 then tz_const 91 (.int (nI 3)) else dead
    else
     if pc < 102 then
      if pc < 95 then
       if pc < 94 then
        if pc = 91 then tz_pureS 94 3 P_Mo_map f_Mo_map else dead
       else
        if pc = 94 then tz_iaload 95 else dead
      else
       if pc < 97 then
        if pc = 95 then tz_iload 97 4 else dead
       else
        if pc < 100 then
         if pc = 97 then tz_icmp 100 127 (fun a b => ¬ a = b) else dead
        else
         if pc = 100 then tz_iload 102 6 else dead
     else
      if pc < 106 then
       if pc < 103 then
        if pc = 102 then tz_const 103 (.int (nI 2)) else dead
       else
        if pc = 103 then tz_icmp 106 123 (fun a b => a < b) else dead
      else
       if pc < 107 then
        if pc = 106 then tz_aload 107 0 else dead
       else
        if pc < 110 then
         if pc = 107 then tz_getf 110 7 1 1 else dead
        else
         if pc = 110 then tz_iload 111 1 else dead
   else
    if pc < 130 then
     if pc < 120 then
      if pc < 114 then
       if pc < 113 then
        if pc = 111 then tz_iload 113 8 else dead
       else
        if pc = 113 then tz_const 114 (.int (nI 4)) else dead
      else
       if pc < 117 then
        if pc = 114 then tz_pureS 117 3 P_Mo_map f_Mo_map else dead
       else
        if pc < 118 then
         if pc = 117 then tz_iaload 118 else dead
        else
         if pc = 118 then tz_iload 120 5 else dead
     else
      if pc < 124 then
       if pc < 123 then
        if pc = 120 then tz_icmp 123 127 (fun a b => ¬ a = b) else dead
       else
        if pc = 123 then tz_const 124 (.int (nI 1)) else dead
      else
       if pc < 127 then
        if pc = 124 then tz_goto 128 else dead
       else
        if pc < 128 then
         if pc = 127 then tz_const 128 (.int (nI 0)) else dead
        else
         if pc = 128 then tz_istore 130 9 else dead
    else
     if pc < 142 then
      if pc < 135 then
       if pc < 132 then
        if pc = 130 then tz_iload 132 9 else dead
       else
        if pc = 132 then tz_if 135 140 (fun a => a = 0) else dead
      else
       if pc < 137 then
        if pc = 135 then tz_iload 137 8 else dead
       else
        if pc < 140 then
         if pc = 137 then tz_goto 142 else dead
        else
         if pc = 140 then tz_iload 142 7 else dead
     else
      if pc < 147 then
       if pc < 144 then
        if pc = 142 then tz_istore 144 7 else dead
       else
        if pc = 144 then tz_iinc 147 8 (nI 1) else dead
      else
       if pc < 150 then
        if pc = 147 then tz_goto 18 else dead
       else
        if pc < 152 then
         if pc = 150 then tz_iload 152 7 else dead
        else
         if pc = 152 then tz_iret else dead
set_option maxRecDepth 100000 in
theorem T_Mo_mappingFor (l : Launch) (G : Gc) : TabOK l G M_Mo_mappingFor (k_Mo_mappingFor l G) := by
  intro pc
  unfold k_Mo_mappingFor
  exact
   (sd_br
    (sd_br
     (sd_br
      (sd_br
       (sd_br
        (sd_br
         (sd_lf (sd_aload_n (k := 0) (by decide +kernel : decode prog_9_method_34_code 0 = .ok (.aload_n 0, 1))))
         (sd_lf (sd_getf (q := (RX7, TX7, 16)) (by decide +kernel : decode prog_9_method_34_code 1 = .ok (.getfield 7, 3)) rfl (by decide +kernel) (gm 913 (by decide +kernel) rfl))))
        (sd_br
         (sd_lf (sd_iload_n (k := 1) (by decide +kernel : decode prog_9_method_34_code 4 = .ok (.iload_n 1, 1))))
         (sd_br
          (sd_lf (sd_iconst (by decide +kernel : decode prog_9_method_34_code 5 = .ok (.iconst 2, 1)) (by decide +kernel)))
          (sd_lf (sd_pureS (sd_callS (by decide +kernel : decode prog_9_method_34_code 6 = .ok (.invokestatic 44, 3)) ok_Mo_at (gm 993 (by decide +kernel) rfl) (gm 994 (by decide +kernel) rfl) (by decide +kernel) rfl rfl) c_Mo_at)))))
       (sd_br
        (sd_br
         (sd_lf (sd_iaload (by decide +kernel : decode prog_9_method_34_code 9 = .ok (.iaload, 1))))
         (sd_lf (sd_istore (by decide +kernel : decode prog_9_method_34_code 10 = .ok (.istore 6, 2)))))
        (sd_br
         (sd_lf (sd_iconst (by decide +kernel : decode prog_9_method_34_code 12 = .ok (.iconst (-1), 1)) (by decide +kernel)))
         (sd_br
          (sd_lf (sd_istore (by decide +kernel : decode prog_9_method_34_code 13 = .ok (.istore 7, 2))))
          (sd_lf (sd_iconst (by decide +kernel : decode prog_9_method_34_code 15 = .ok (.iconst 0, 1)) (by decide +kernel)))))))
      (sd_br
       (sd_br
        (sd_br
         (sd_lf (sd_istore (by decide +kernel : decode prog_9_method_34_code 16 = .ok (.istore 8, 2))))
         (sd_lf (sd_iload (by decide +kernel : decode prog_9_method_34_code 18 = .ok (.iload 8, 2)))))
        (sd_br
         (sd_lf (sd_aload_n (k := 0) (by decide +kernel : decode prog_9_method_34_code 20 = .ok (.aload_n 0, 1))))
         (sd_br
          (sd_lf (sd_getf (q := (RX7, TX7, 16)) (by decide +kernel : decode prog_9_method_34_code 21 = .ok (.getfield 7, 3)) rfl (by decide +kernel) (gm 913 (by decide +kernel) rfl)))
          (sd_lf (sd_iload_n (k := 1) (by decide +kernel : decode prog_9_method_34_code 24 = .ok (.iload_n 1, 1)))))))
       (sd_br
        (sd_br
         (sd_lf (sd_bipush (by decide +kernel : decode prog_9_method_34_code 25 = .ok (.bipush 11, 2)) (by decide +kernel)))
         (sd_lf (sd_pureS (sd_callS (by decide +kernel : decode prog_9_method_34_code 27 = .ok (.invokestatic 44, 3)) ok_Mo_at (gm 993 (by decide +kernel) rfl) (gm 994 (by decide +kernel) rfl) (by decide +kernel) rfl rfl) c_Mo_at)))
        (sd_br
         (sd_lf (sd_iaload (by decide +kernel : decode prog_9_method_34_code 30 = .ok (.iaload, 1))))
         (sd_br
          (sd_lf (sd_icmp_ge (by decide +kernel : decode prog_9_method_34_code 31 = .ok (.if_icmp .ge 119, 3)) (by decide +kernel)))
          (sd_lf (sd_aload_n (k := 0) (by decide +kernel : decode prog_9_method_34_code 34 = .ok (.aload_n 0, 1)))))))))
     (sd_br
      (sd_br
       (sd_br
        (sd_br
         (sd_lf (sd_getf (q := (RX7, TX7, 16)) (by decide +kernel : decode prog_9_method_34_code 35 = .ok (.getfield 7, 3)) rfl (by decide +kernel) (gm 913 (by decide +kernel) rfl)))
         (sd_lf (sd_iload_n (k := 1) (by decide +kernel : decode prog_9_method_34_code 38 = .ok (.iload_n 1, 1)))))
        (sd_br
         (sd_lf (sd_iload (by decide +kernel : decode prog_9_method_34_code 39 = .ok (.iload 8, 2))))
         (sd_br
          (sd_lf (sd_iconst (by decide +kernel : decode prog_9_method_34_code 41 = .ok (.iconst 0, 1)) (by decide +kernel)))
          (sd_lf (sd_pureS (sd_callS (by decide +kernel : decode prog_9_method_34_code 42 = .ok (.invokestatic 73, 3)) ok_Mo_map (gm 1020 (by decide +kernel) rfl) (gm 1021 (by decide +kernel) rfl) (by decide +kernel) rfl rfl) c_Mo_map)))))
       (sd_br
        (sd_br
         (sd_lf (sd_iaload (by decide +kernel : decode prog_9_method_34_code 45 = .ok (.iaload, 1))))
         (sd_lf (sd_iload_n (k := 2) (by decide +kernel : decode prog_9_method_34_code 46 = .ok (.iload_n 2, 1)))))
        (sd_br
         (sd_lf (sd_icmp_ne (by decide +kernel : decode prog_9_method_34_code 47 = .ok (.if_icmp .ne 23, 3)) (by decide +kernel)))
         (sd_br
          (sd_lf (sd_aload_n (k := 0) (by decide +kernel : decode prog_9_method_34_code 50 = .ok (.aload_n 0, 1))))
          (sd_lf (sd_getf (q := (RX7, TX7, 16)) (by decide +kernel : decode prog_9_method_34_code 51 = .ok (.getfield 7, 3)) rfl (by decide +kernel) (gm 913 (by decide +kernel) rfl)))))))
      (sd_br
       (sd_br
        (sd_br
         (sd_lf (sd_iload_n (k := 1) (by decide +kernel : decode prog_9_method_34_code 54 = .ok (.iload_n 1, 1))))
         (sd_lf (sd_iload (by decide +kernel : decode prog_9_method_34_code 55 = .ok (.iload 8, 2)))))
        (sd_br
         (sd_lf (sd_iconst (by decide +kernel : decode prog_9_method_34_code 57 = .ok (.iconst 1, 1)) (by decide +kernel)))
         (sd_br
          (sd_lf (sd_pureS (sd_callS (by decide +kernel : decode prog_9_method_34_code 58 = .ok (.invokestatic 73, 3)) ok_Mo_map (gm 1020 (by decide +kernel) rfl) (gm 1021 (by decide +kernel) rfl) (by decide +kernel) rfl rfl) c_Mo_map))
          (sd_lf (sd_iaload (by decide +kernel : decode prog_9_method_34_code 61 = .ok (.iaload, 1)))))))
       (sd_br
        (sd_br
         (sd_lf (sd_iload_n (k := 3) (by decide +kernel : decode prog_9_method_34_code 62 = .ok (.iload_n 3, 1))))
         (sd_lf (sd_icmp_ne (by decide +kernel : decode prog_9_method_34_code 63 = .ok (.if_icmp .ne 7, 3)) (by decide +kernel))))
        (sd_br
         (sd_lf (sd_iconst (by decide +kernel : decode prog_9_method_34_code 66 = .ok (.iconst 1, 1)) (by decide +kernel)))
         (sd_br
          (sd_lf (sd_goto (by decide +kernel : decode prog_9_method_34_code 67 = .ok (.goto 4, 3)) (by decide +kernel)))
          (sd_lf (sd_iconst (by decide +kernel : decode prog_9_method_34_code 70 = .ok (.iconst 0, 1)) (by decide +kernel)))))))))
    (sd_br
     (sd_br
      (sd_br
       (sd_br
        (sd_br
         (sd_lf (sd_istore (by decide +kernel : decode prog_9_method_34_code 71 = .ok (.istore 9, 2))))
         (sd_lf (sd_iload (by decide +kernel : decode prog_9_method_34_code 73 = .ok (.iload 9, 2)))))
        (sd_br
         (sd_lf (sd_if_eq (by decide +kernel : decode prog_9_method_34_code 75 = .ok (.ifCond .eq 52, 3)) (by decide +kernel)))
         (sd_br
          (sd_lf (sd_iload (by decide +kernel : decode prog_9_method_34_code 78 = .ok (.iload 6, 2))))
          (sd_lf (sd_if_eq (by decide +kernel : decode prog_9_method_34_code 80 = .ok (.ifCond .eq 20, 3)) (by decide +kernel))))))
       (sd_br
        (sd_br
         (sd_lf (sd_aload_n (k := 0) (by decide +kernel : decode prog_9_method_34_code 83 = .ok (.aload_n 0, 1))))
         (sd_lf (sd_getf (q := (RX7, TX7, 16)) (by decide +kernel : decode prog_9_method_34_code 84 = .ok (.getfield 7, 3)) rfl (by decide +kernel) (gm 913 (by decide +kernel) rfl))))
        (sd_br
         (sd_lf (sd_iload_n (k := 1) (by decide +kernel : decode prog_9_method_34_code 87 = .ok (.iload_n 1, 1))))
         (sd_br
          (sd_lf (sd_iload (by decide +kernel : decode prog_9_method_34_code 88 = .ok (.iload 8, 2))))
          (sd_lf (sd_iconst (by decide +kernel : decode prog_9_method_34_code 90 = .ok (.iconst 3, 1)) (by decide +kernel)))))))
      (sd_br
       (sd_br
        (sd_br
         (sd_lf (sd_pureS (sd_callS (by decide +kernel : decode prog_9_method_34_code 91 = .ok (.invokestatic 73, 3)) ok_Mo_map (gm 1020 (by decide +kernel) rfl) (gm 1021 (by decide +kernel) rfl) (by decide +kernel) rfl rfl) c_Mo_map))
         (sd_lf (sd_iaload (by decide +kernel : decode prog_9_method_34_code 94 = .ok (.iaload, 1)))))
        (sd_br
         (sd_lf (sd_iload (by decide +kernel : decode prog_9_method_34_code 95 = .ok (.iload 4, 2))))
         (sd_br
          (sd_lf (sd_icmp_ne (by decide +kernel : decode prog_9_method_34_code 97 = .ok (.if_icmp .ne 30, 3)) (by decide +kernel)))
          (sd_lf (sd_iload (by decide +kernel : decode prog_9_method_34_code 100 = .ok (.iload 6, 2)))))))
       (sd_br
        (sd_br
         (sd_lf (sd_iconst (by decide +kernel : decode prog_9_method_34_code 102 = .ok (.iconst 2, 1)) (by decide +kernel)))
         (sd_lf (sd_icmp_lt (by decide +kernel : decode prog_9_method_34_code 103 = .ok (.if_icmp .lt 20, 3)) (by decide +kernel))))
        (sd_br
         (sd_lf (sd_aload_n (k := 0) (by decide +kernel : decode prog_9_method_34_code 106 = .ok (.aload_n 0, 1))))
         (sd_br
          (sd_lf (sd_getf (q := (RX7, TX7, 16)) (by decide +kernel : decode prog_9_method_34_code 107 = .ok (.getfield 7, 3)) rfl (by decide +kernel) (gm 913 (by decide +kernel) rfl)))
          (sd_lf (sd_iload_n (k := 1) (by decide +kernel : decode prog_9_method_34_code 110 = .ok (.iload_n 1, 1)))))))))
     (sd_br
      (sd_br
       (sd_br
        (sd_br
         (sd_lf (sd_iload (by decide +kernel : decode prog_9_method_34_code 111 = .ok (.iload 8, 2))))
         (sd_lf (sd_iconst (by decide +kernel : decode prog_9_method_34_code 113 = .ok (.iconst 4, 1)) (by decide +kernel))))
        (sd_br
         (sd_lf (sd_pureS (sd_callS (by decide +kernel : decode prog_9_method_34_code 114 = .ok (.invokestatic 73, 3)) ok_Mo_map (gm 1020 (by decide +kernel) rfl) (gm 1021 (by decide +kernel) rfl) (by decide +kernel) rfl rfl) c_Mo_map))
         (sd_br
          (sd_lf (sd_iaload (by decide +kernel : decode prog_9_method_34_code 117 = .ok (.iaload, 1))))
          (sd_lf (sd_iload (by decide +kernel : decode prog_9_method_34_code 118 = .ok (.iload 5, 2)))))))
       (sd_br
        (sd_br
         (sd_lf (sd_icmp_ne (by decide +kernel : decode prog_9_method_34_code 120 = .ok (.if_icmp .ne 7, 3)) (by decide +kernel)))
         (sd_lf (sd_iconst (by decide +kernel : decode prog_9_method_34_code 123 = .ok (.iconst 1, 1)) (by decide +kernel))))
        (sd_br
         (sd_lf (sd_goto (by decide +kernel : decode prog_9_method_34_code 124 = .ok (.goto 4, 3)) (by decide +kernel)))
         (sd_br
          (sd_lf (sd_iconst (by decide +kernel : decode prog_9_method_34_code 127 = .ok (.iconst 0, 1)) (by decide +kernel)))
          (sd_lf (sd_istore (by decide +kernel : decode prog_9_method_34_code 128 = .ok (.istore 9, 2))))))))
      (sd_br
       (sd_br
        (sd_br
         (sd_lf (sd_iload (by decide +kernel : decode prog_9_method_34_code 130 = .ok (.iload 9, 2))))
         (sd_lf (sd_if_eq (by decide +kernel : decode prog_9_method_34_code 132 = .ok (.ifCond .eq 8, 3)) (by decide +kernel))))
        (sd_br
         (sd_lf (sd_iload (by decide +kernel : decode prog_9_method_34_code 135 = .ok (.iload 8, 2))))
         (sd_br
          (sd_lf (sd_goto (by decide +kernel : decode prog_9_method_34_code 137 = .ok (.goto 5, 3)) (by decide +kernel)))
          (sd_lf (sd_iload (by decide +kernel : decode prog_9_method_34_code 140 = .ok (.iload 7, 2)))))))
       (sd_br
        (sd_br
         (sd_lf (sd_istore (by decide +kernel : decode prog_9_method_34_code 142 = .ok (.istore 7, 2))))
         (sd_lf (sd_iinc (by decide +kernel : decode prog_9_method_34_code 144 = .ok (.iinc 8 1, 3)) (by decide +kernel))))
        (sd_br
         (sd_lf (sd_goto (by decide +kernel : decode prog_9_method_34_code 147 = .ok (.goto (-129), 3)) (by decide +kernel)))
         (sd_br
          (sd_lf (sd_iload (by decide +kernel : decode prog_9_method_34_code 150 = .ok (.iload 7, 2))))
          (sd_lf (sd_iret (by decide +kernel : decode prog_9_method_34_code 152 = .ok (.ireturn, 1)) rfl)))))))))
def k_Mo_passesFilter (l : Launch) (G : Gc) (pc : Nat) : Tr :=
  if pc < 51 then
   if pc < 23 then
    if pc < 11 then
     if pc < 5 then
      if pc < 1 then
       if pc = 0 then tz_aload 1 0 else dead
      else
       if pc < 4 then
        if pc = 1 then tz_getf 4 7 1 1 else dead
       else
        if pc = 4 then tz_iload 5 1 else dead
     else
      if pc < 9 then
       if pc < 6 then
        if pc = 5 then tz_const 6 (.int (nI 3)) else dead
       else
        if pc = 6 then tz_pureS 9 2 P_Mo_at f_Mo_at else dead
      else
       if pc < 10 then
        if pc = 9 then tz_iaload 10 else dead
       else
        if pc = 10 then tz_istore 11 3 else dead
    else
     if pc < 16 then
      if pc < 12 then
       if pc = 11 then tz_iload 12 3 else dead
      else
       if pc < 15 then
        if pc = 12 then tz_if 15 19 (fun a => ¬ a = 0) else dead
       else
        if pc = 15 then tz_const 16 (.int (nI 1)) else dead
     else
      if pc < 20 then
       if pc < 19 then
        if pc = 16 then tz_goto 20 else dead
       else
        if pc = 19 then tz_const 20 (.int (nI 0)) else dead
      else
       if pc < 22 then
        if pc = 20 then tz_istore 22 4 else dead
       else
        if pc = 22 then tz_const 23 (.int (nI 0)) else dead
   else
    if pc < 35 then
     if pc < 28 then
      if pc < 25 then
       if pc = 23 then tz_istore 25 5 else dead
      else
       if pc < 27 then
        if pc = 25 then tz_iload 27 5 else dead
       else
        if pc = 27 then tz_aload 28 0 else dead
     else
      if pc < 32 then
       if pc < 31 then
        if pc = 28 then tz_getf 31 7 1 1 else dead
       else
        if pc = 31 then tz_iload 32 1 else dead
      else
       if pc < 33 then
        if pc = 32 then tz_iload 33 2 else dead
       else
        if pc = 33 then tz_const 35 (.int (nI 6)) else dead
    else
     if pc < 43 then
      if pc < 39 then
       if pc < 38 then
        if pc = 35 then tz_pureS 38 3 P_Mo_map f_Mo_map else dead
       else
        if pc = 38 then tz_iaload 39 else dead
      else
       if pc < 42 then
        if pc = 39 then tz_icmp 42 104 (fun a b => b ≤ a) else dead
       else
        if pc = 42 then tz_iload 43 1 else dead
     else
      if pc < 46 then
       if pc < 44 then
        if pc = 43 then tz_iload 44 2 else dead
       else
        if pc = 44 then tz_iload 46 5 else dead
      else
       if pc < 49 then
        if pc = 46 then tz_pureS 49 3 P_Mo_contact f_Mo_contact else dead
       else
        if pc = 49 then tz_istore 51 6 else dead
  else
   if pc < 79 then
    if pc < 64 then
     if pc < 57 then
      if pc < 53 then
       if pc = 51 then tz_iload 53 4 else dead
      else
       if pc < 56 then
        if pc = 53 then tz_if 56 91 (fun a => ¬ a = 0) else dead
       else
        if pc = 56 then tz_aload 57 0 else dead
     else
      if pc < 62 then
       if pc < 60 then
        if pc = 57 then tz_getf 60 7 1 1 else dead
       else
        if pc = 60 then tz_iload 62 6 else dead
      else
       if pc < 63 then
        if pc = 62 then tz_iaload 63 else dead
       else
        if pc = 63 then tz_aload 64 0 else dead
    else
     if pc < 71 then
      if pc < 67 then
       if pc = 64 then tz_getf 67 7 10 0 else dead
      else
       if pc < 70 then
        if pc = 67 then tz_icmp 70 95 (fun a b => ¬ a = b) else dead
       else
        if pc = 70 then tz_iload 71 3 else dead
     else
      if pc < 75 then
       if pc < 72 then
        if pc = 71 then tz_const 72 (.int (nI 1)) else dead
       else
        if pc = 72 then tz_icmp 75 91 (fun a b => a = b) else dead
      else
       if pc < 76 then
        if pc = 75 then tz_aload 76 0 else dead
       else
        if pc = 76 then tz_getf 79 7 1 1 else dead
   else
    if pc < 91 then
     if pc < 83 then
      if pc < 81 then
       if pc = 79 then tz_iload 81 6 else dead
      else
       if pc < 82 then
        if pc = 81 then tz_const 82 (.int (nI 1)) else dead
       else
        if pc = 82 then tz_i2 83 (fun a b => a + b) else dead
     else
      if pc < 85 then
       if pc < 84 then
        if pc = 83 then tz_iaload 84 else dead
       else
        if pc = 84 then tz_aload 85 0 else dead
      else
       if pc < 88 then
        if pc = 85 then tz_getf 88 7 11 0 else dead
       else
        if pc = 88 then tz_icmp 91 95 (fun a b => ¬ a = b) else dead
    else
     if pc < 98 then
      if pc < 95 then
       if pc < 92 then
        if pc = 91 then tz_const 92 (.int (nI 1)) else dead
       else
        if pc = 92 then tz_goto 96 else dead
      else
       if pc < 96 then
        if pc = 95 then tz_const 96 (.int (nI 0)) else dead
       else
        if pc = 96 then tz_istore 98 4 else dead
     else
      if pc < 104 then
       if pc < 101 then
        if pc = 98 then tz_iinc 101 5 (nI 1) else dead
       else
        if pc = 101 then tz_goto 25 else dead
      else
       if pc < 106 then
        if pc = 104 then tz_iload 106 4 else dead
       else
        if pc = 106 then tz_zret else dead
set_option maxRecDepth 100000 in
theorem T_Mo_passesFilter (l : Launch) (G : Gc) : TabOK l G M_Mo_passesFilter (k_Mo_passesFilter l G) := by
  intro pc
  unfold k_Mo_passesFilter
  exact
   (sd_br
    (sd_br
     (sd_br
      (sd_br
       (sd_br
        (sd_lf (sd_aload_n (k := 0) (by decide +kernel : decode prog_9_method_41_code 0 = .ok (.aload_n 0, 1))))
        (sd_br
         (sd_lf (sd_getf (q := (RX7, TX7, 16)) (by decide +kernel : decode prog_9_method_41_code 1 = .ok (.getfield 7, 3)) rfl (by decide +kernel) (gm 913 (by decide +kernel) rfl)))
         (sd_lf (sd_iload_n (k := 1) (by decide +kernel : decode prog_9_method_41_code 4 = .ok (.iload_n 1, 1))))))
       (sd_br
        (sd_br
         (sd_lf (sd_iconst (by decide +kernel : decode prog_9_method_41_code 5 = .ok (.iconst 3, 1)) (by decide +kernel)))
         (sd_lf (sd_pureS (sd_callS (by decide +kernel : decode prog_9_method_41_code 6 = .ok (.invokestatic 44, 3)) ok_Mo_at (gm 993 (by decide +kernel) rfl) (gm 994 (by decide +kernel) rfl) (by decide +kernel) rfl rfl) c_Mo_at)))
        (sd_br
         (sd_lf (sd_iaload (by decide +kernel : decode prog_9_method_41_code 9 = .ok (.iaload, 1))))
         (sd_lf (sd_istore_n (k := 3) (by decide +kernel : decode prog_9_method_41_code 10 = .ok (.istore_n 3, 1)))))))
      (sd_br
       (sd_br
        (sd_lf (sd_iload_n (k := 3) (by decide +kernel : decode prog_9_method_41_code 11 = .ok (.iload_n 3, 1))))
        (sd_br
         (sd_lf (sd_if_ne (by decide +kernel : decode prog_9_method_41_code 12 = .ok (.ifCond .ne 7, 3)) (by decide +kernel)))
         (sd_lf (sd_iconst (by decide +kernel : decode prog_9_method_41_code 15 = .ok (.iconst 1, 1)) (by decide +kernel)))))
       (sd_br
        (sd_br
         (sd_lf (sd_goto (by decide +kernel : decode prog_9_method_41_code 16 = .ok (.goto 4, 3)) (by decide +kernel)))
         (sd_lf (sd_iconst (by decide +kernel : decode prog_9_method_41_code 19 = .ok (.iconst 0, 1)) (by decide +kernel))))
        (sd_br
         (sd_lf (sd_istore (by decide +kernel : decode prog_9_method_41_code 20 = .ok (.istore 4, 2))))
         (sd_lf (sd_iconst (by decide +kernel : decode prog_9_method_41_code 22 = .ok (.iconst 0, 1)) (by decide +kernel)))))))
     (sd_br
      (sd_br
       (sd_br
        (sd_lf (sd_istore (by decide +kernel : decode prog_9_method_41_code 23 = .ok (.istore 5, 2))))
        (sd_br
         (sd_lf (sd_iload (by decide +kernel : decode prog_9_method_41_code 25 = .ok (.iload 5, 2))))
         (sd_lf (sd_aload_n (k := 0) (by decide +kernel : decode prog_9_method_41_code 27 = .ok (.aload_n 0, 1))))))
       (sd_br
        (sd_br
         (sd_lf (sd_getf (q := (RX7, TX7, 16)) (by decide +kernel : decode prog_9_method_41_code 28 = .ok (.getfield 7, 3)) rfl (by decide +kernel) (gm 913 (by decide +kernel) rfl)))
         (sd_lf (sd_iload_n (k := 1) (by decide +kernel : decode prog_9_method_41_code 31 = .ok (.iload_n 1, 1)))))
        (sd_br
         (sd_lf (sd_iload_n (k := 2) (by decide +kernel : decode prog_9_method_41_code 32 = .ok (.iload_n 2, 1))))
         (sd_lf (sd_bipush (by decide +kernel : decode prog_9_method_41_code 33 = .ok (.bipush 6, 2)) (by decide +kernel))))))
      (sd_br
       (sd_br
        (sd_br
         (sd_lf (sd_pureS (sd_callS (by decide +kernel : decode prog_9_method_41_code 35 = .ok (.invokestatic 73, 3)) ok_Mo_map (gm 1020 (by decide +kernel) rfl) (gm 1021 (by decide +kernel) rfl) (by decide +kernel) rfl rfl) c_Mo_map))
         (sd_lf (sd_iaload (by decide +kernel : decode prog_9_method_41_code 38 = .ok (.iaload, 1)))))
        (sd_br
         (sd_lf (sd_icmp_ge (by decide +kernel : decode prog_9_method_41_code 39 = .ok (.if_icmp .ge 65, 3)) (by decide +kernel)))
         (sd_lf (sd_iload_n (k := 1) (by decide +kernel : decode prog_9_method_41_code 42 = .ok (.iload_n 1, 1))))))
       (sd_br
        (sd_br
         (sd_lf (sd_iload_n (k := 2) (by decide +kernel : decode prog_9_method_41_code 43 = .ok (.iload_n 2, 1))))
         (sd_lf (sd_iload (by decide +kernel : decode prog_9_method_41_code 44 = .ok (.iload 5, 2)))))
        (sd_br
         (sd_lf (sd_pureS (sd_callS (by decide +kernel : decode prog_9_method_41_code 46 = .ok (.invokestatic 77, 3)) ok_Mo_contact (gm 1027 (by decide +kernel) rfl) (gm 1028 (by decide +kernel) rfl) (by decide +kernel) rfl rfl) c_Mo_contact))
         (sd_lf (sd_istore (by decide +kernel : decode prog_9_method_41_code 49 = .ok (.istore 6, 2)))))))))
    (sd_br
     (sd_br
      (sd_br
       (sd_br
        (sd_lf (sd_iload (by decide +kernel : decode prog_9_method_41_code 51 = .ok (.iload 4, 2))))
        (sd_br
         (sd_lf (sd_if_ne (by decide +kernel : decode prog_9_method_41_code 53 = .ok (.ifCond .ne 38, 3)) (by decide +kernel)))
         (sd_lf (sd_aload_n (k := 0) (by decide +kernel : decode prog_9_method_41_code 56 = .ok (.aload_n 0, 1))))))
       (sd_br
        (sd_br
         (sd_lf (sd_getf (q := (RX7, TX7, 16)) (by decide +kernel : decode prog_9_method_41_code 57 = .ok (.getfield 7, 3)) rfl (by decide +kernel) (gm 913 (by decide +kernel) rfl)))
         (sd_lf (sd_iload (by decide +kernel : decode prog_9_method_41_code 60 = .ok (.iload 6, 2)))))
        (sd_br
         (sd_lf (sd_iaload (by decide +kernel : decode prog_9_method_41_code 62 = .ok (.iaload, 1))))
         (sd_lf (sd_aload_n (k := 0) (by decide +kernel : decode prog_9_method_41_code 63 = .ok (.aload_n 0, 1)))))))
      (sd_br
       (sd_br
        (sd_lf (sd_getf (q := (RX7, TX7, 16)) (by decide +kernel : decode prog_9_method_41_code 64 = .ok (.getfield 133, 3)) rfl (by decide +kernel) (gm 922 (by decide +kernel) rfl)))
        (sd_br
         (sd_lf (sd_icmp_ne (by decide +kernel : decode prog_9_method_41_code 67 = .ok (.if_icmp .ne 28, 3)) (by decide +kernel)))
         (sd_lf (sd_iload_n (k := 3) (by decide +kernel : decode prog_9_method_41_code 70 = .ok (.iload_n 3, 1))))))
       (sd_br
        (sd_br
         (sd_lf (sd_iconst (by decide +kernel : decode prog_9_method_41_code 71 = .ok (.iconst 1, 1)) (by decide +kernel)))
         (sd_lf (sd_icmp_eq (by decide +kernel : decode prog_9_method_41_code 72 = .ok (.if_icmp .eq 19, 3)) (by decide +kernel))))
        (sd_br
         (sd_lf (sd_aload_n (k := 0) (by decide +kernel : decode prog_9_method_41_code 75 = .ok (.aload_n 0, 1))))
         (sd_lf (sd_getf (q := (RX7, TX7, 16)) (by decide +kernel : decode prog_9_method_41_code 76 = .ok (.getfield 7, 3)) rfl (by decide +kernel) (gm 913 (by decide +kernel) rfl)))))))
     (sd_br
      (sd_br
       (sd_br
        (sd_lf (sd_iload (by decide +kernel : decode prog_9_method_41_code 79 = .ok (.iload 6, 2))))
        (sd_br
         (sd_lf (sd_iconst (by decide +kernel : decode prog_9_method_41_code 81 = .ok (.iconst 1, 1)) (by decide +kernel)))
         (sd_lf (sd_iadd (by decide +kernel : decode prog_9_method_41_code 82 = .ok (.iadd, 1))))))
       (sd_br
        (sd_br
         (sd_lf (sd_iaload (by decide +kernel : decode prog_9_method_41_code 83 = .ok (.iaload, 1))))
         (sd_lf (sd_aload_n (k := 0) (by decide +kernel : decode prog_9_method_41_code 84 = .ok (.aload_n 0, 1)))))
        (sd_br
         (sd_lf (sd_getf (q := (RX7, TX7, 16)) (by decide +kernel : decode prog_9_method_41_code 85 = .ok (.getfield 136, 3)) rfl (by decide +kernel) (gm 923 (by decide +kernel) rfl)))
         (sd_lf (sd_icmp_ne (by decide +kernel : decode prog_9_method_41_code 88 = .ok (.if_icmp .ne 7, 3)) (by decide +kernel))))))
      (sd_br
       (sd_br
        (sd_br
         (sd_lf (sd_iconst (by decide +kernel : decode prog_9_method_41_code 91 = .ok (.iconst 1, 1)) (by decide +kernel)))
         (sd_lf (sd_goto (by decide +kernel : decode prog_9_method_41_code 92 = .ok (.goto 4, 3)) (by decide +kernel))))
        (sd_br
         (sd_lf (sd_iconst (by decide +kernel : decode prog_9_method_41_code 95 = .ok (.iconst 0, 1)) (by decide +kernel)))
         (sd_lf (sd_istore (by decide +kernel : decode prog_9_method_41_code 96 = .ok (.istore 4, 2))))))
       (sd_br
        (sd_br
         (sd_lf (sd_iinc (by decide +kernel : decode prog_9_method_41_code 98 = .ok (.iinc 5 1, 3)) (by decide +kernel)))
         (sd_lf (sd_goto (by decide +kernel : decode prog_9_method_41_code 101 = .ok (.goto (-76), 3)) (by decide +kernel))))
        (sd_br
         (sd_lf (sd_iload (by decide +kernel : decode prog_9_method_41_code 104 = .ok (.iload 4, 2))))
         (sd_lf (sd_zret (by decide +kernel : decode prog_9_method_41_code 106 = .ok (.ireturn, 1)) rfl))))))))
def k_Mo_wrongPacket (l : Launch) (G : Gc) (pc : Nat) : Tr :=
  if pc < 20 then
   if pc < 9 then
    if pc < 2 then
     if pc < 1 then
      if pc = 0 then tz_aload 1 0 else dead
     else
      if pc = 1 then tz_iload 2 1 else dead
    else
     if pc < 5 then
      if pc = 2 then tz_pureV 5 1 7 P_Mo_isHost f_Mo_isHost else dead
     else
      if pc < 8 then
       if pc = 5 then tz_if 8 16 (fun a => a = 0) else dead
      else
       if pc = 8 then tz_aload 9 0 else dead
   else
    if pc < 13 then
     if pc < 10 then
      if pc = 9 then tz_iload 10 3 else dead
     else
      if pc = 10 then tz_pureV 13 1 7 P_Mo_isNode f_Mo_isNode else dead
    else
     if pc < 16 then
      if pc = 13 then tz_if 16 20 (fun a => ¬ a = 0) else dead
     else
      if pc < 17 then
       if pc = 16 then tz_const 17 (.int (nI 1)) else dead
      else
       if pc = 17 then tz_goto 40 else dead
  else
   if pc < 32 then
    if pc < 24 then
     if pc < 21 then
      if pc = 20 then tz_iload 21 2 else dead
     else
      if pc = 21 then tz_pureS 24 1 P_Mo_isPort f_Mo_isPort else dead
    else
     if pc < 27 then
      if pc = 24 then tz_if 27 39 (fun a => a = 0) else dead
     else
      if pc < 29 then
       if pc = 27 then tz_iload 29 4 else dead
      else
       if pc = 29 then tz_pureS 32 1 P_Mo_isPort f_Mo_isPort else dead
   else
    if pc < 36 then
     if pc < 35 then
      if pc = 32 then tz_if 35 39 (fun a => a = 0) else dead
     else
      if pc = 35 then tz_const 36 (.int (nI 0)) else dead
    else
     if pc < 39 then
      if pc = 36 then tz_goto 40 else dead
     else
      if pc < 40 then
       if pc = 39 then tz_const 40 (.int (nI 2)) else dead
      else
       if pc = 40 then tz_iret else dead
set_option maxRecDepth 100000 in
theorem T_Mo_wrongPacket (l : Launch) (G : Gc) : TabOK l G M_Mo_wrongPacket (k_Mo_wrongPacket l G) := by
  intro pc
  unfold k_Mo_wrongPacket
  exact
   (sd_br
    (sd_br
     (sd_br
      (sd_br
       (sd_lf (sd_aload_n (k := 0) (by decide +kernel : decode prog_9_method_46_code 0 = .ok (.aload_n 0, 1))))
       (sd_lf (sd_iload_n (k := 1) (by decide +kernel : decode prog_9_method_46_code 1 = .ok (.iload_n 1, 1)))))
      (sd_br
       (sd_lf (sd_pureV (sd_callV (q := (RX7, TX7, 16)) (by decide +kernel : decode prog_9_method_46_code 2 = .ok (.invokevirtual 165, 3)) ok_Mo_isHost (gm 1083 (by decide +kernel) rfl) (gm 1085 (by decide +kernel) rfl) (gm 42 (by decide +kernel) rfl) rfl rfl (by decide +kernel) rfl rfl) c_Mo_isHost))
       (sd_br
        (sd_lf (sd_if_eq (by decide +kernel : decode prog_9_method_46_code 5 = .ok (.ifCond .eq 11, 3)) (by decide +kernel)))
        (sd_lf (sd_aload_n (k := 0) (by decide +kernel : decode prog_9_method_46_code 8 = .ok (.aload_n 0, 1)))))))
     (sd_br
      (sd_br
       (sd_lf (sd_iload_n (k := 3) (by decide +kernel : decode prog_9_method_46_code 9 = .ok (.iload_n 3, 1))))
       (sd_lf (sd_pureV (sd_callV (q := (RX7, TX7, 16)) (by decide +kernel : decode prog_9_method_46_code 10 = .ok (.invokevirtual 40, 3)) ok_Mo_isNode (gm 986 (by decide +kernel) rfl) (gm 988 (by decide +kernel) rfl) (gm 31 (by decide +kernel) rfl) rfl rfl (by decide +kernel) rfl rfl) c_Mo_isNode)))
      (sd_br
       (sd_lf (sd_if_ne (by decide +kernel : decode prog_9_method_46_code 13 = .ok (.ifCond .ne 7, 3)) (by decide +kernel)))
       (sd_br
        (sd_lf (sd_iconst (by decide +kernel : decode prog_9_method_46_code 16 = .ok (.iconst 1, 1)) (by decide +kernel)))
        (sd_lf (sd_goto (by decide +kernel : decode prog_9_method_46_code 17 = .ok (.goto 23, 3)) (by decide +kernel)))))))
    (sd_br
     (sd_br
      (sd_br
       (sd_lf (sd_iload_n (k := 2) (by decide +kernel : decode prog_9_method_46_code 20 = .ok (.iload_n 2, 1))))
       (sd_lf (sd_pureS (sd_callS (by decide +kernel : decode prog_9_method_46_code 21 = .ok (.invokestatic 168, 3)) ok_Mo_isPort (gm 1087 (by decide +kernel) rfl) (gm 1088 (by decide +kernel) rfl) (by decide +kernel) rfl rfl) c_Mo_isPort)))
      (sd_br
       (sd_lf (sd_if_eq (by decide +kernel : decode prog_9_method_46_code 24 = .ok (.ifCond .eq 15, 3)) (by decide +kernel)))
       (sd_br
        (sd_lf (sd_iload (by decide +kernel : decode prog_9_method_46_code 27 = .ok (.iload 4, 2))))
        (sd_lf (sd_pureS (sd_callS (by decide +kernel : decode prog_9_method_46_code 29 = .ok (.invokestatic 168, 3)) ok_Mo_isPort (gm 1087 (by decide +kernel) rfl) (gm 1088 (by decide +kernel) rfl) (by decide +kernel) rfl rfl) c_Mo_isPort)))))
     (sd_br
      (sd_br
       (sd_lf (sd_if_eq (by decide +kernel : decode prog_9_method_46_code 32 = .ok (.ifCond .eq 7, 3)) (by decide +kernel)))
       (sd_lf (sd_iconst (by decide +kernel : decode prog_9_method_46_code 35 = .ok (.iconst 0, 1)) (by decide +kernel))))
      (sd_br
       (sd_lf (sd_goto (by decide +kernel : decode prog_9_method_46_code 36 = .ok (.goto 4, 3)) (by decide +kernel)))
       (sd_br
        (sd_lf (sd_iconst (by decide +kernel : decode prog_9_method_46_code 39 = .ok (.iconst 2, 1)) (by decide +kernel)))
        (sd_lf (sd_iret (by decide +kernel : decode prog_9_method_46_code 40 = .ok (.ireturn, 1)) rfl)))))))
section
variable {l : Launch} {G : Gc}
theorem lp_mappings {a zr : Nat} {h : AH} {Q : Po} (hm : MoS h a zr) (hz : Z10 (hI h zr)) (hQ : Q (.inl (some (.int (sumO (hI h zr) (mny (hI h zr)))))) h) :
    ∀ (d i : Nat), i + d = mny (hI h zr) → AWp l G M_Mo_mappings 4 [some (.ref a), some (.int (sumO (hI h zr) i)), some (.int (nI i))] [] h Q := by
  obtain ⟨h1, h2, h3, h4⟩ := hm
  obtain ⟨z1, z2⟩ := hz.at
  intro d
  induction d with
  | zero =>
    intro i hi
    (obtain ⟨W9, hW9, hgo9⟩ := wp_ex (T_Mo_mappings l G) [4] _; refine hgo9 200 _ _ _ _ ?_; simp -implicitDefEqProofs (disch := omega) only [hW9, inl, gate, Xq, tz_const, tz_iload, tz_lload, tz_dload, tz_aload, tz_istore, tz_astore, tz_lstore, tz_dstore, tz_iinc, tz_i1, tz_i2, tz_i2z, tz_l2, tz_l2z, tz_i2l, tz_l2i, tz_lcmp, tz_i2d, tz_d2, tz_dcmp, tz_dup, tz_dup2, tz_pop, tz_if, tz_icmp, tz_null, tz_goto, tz_sw, tz_getf, tz_puti, tz_putz, tz_putr, tz_putl, tz_iaload, tz_baload, tz_laload, tz_aaload, tz_iastore, tz_bastore, tz_lastore, tz_aastore, tz_alen, tz_new, tz_newa, tz_oinit, tz_iret, tz_zret, tz_lret, tz_dret, tz_aret, tz_vret, tz_throw, tz_callS, tz_callV, tz_callI, tz_callR, tz_pureS, tz_pureV, tz_callVH, lg, lset, lkill, lst1, lst2, entL, isRf, is1, vl, va_rf_none, va_rf_some, isRf_rf, is1_rf, i0, i1, bI_eq0, bI_eq1, nm_em, nI_eqP, nI_leP, nI_ltP, nN_e1, nN_e2, nN_l1, nN_l2, nN_l3, nN_l4, nI_add, pk_mul, vp_inN, nI_cl, n01, n10, P_i, P_ii, P_iii, f_Mo_at, f_Mo_map, f_Mo_contact, f_Mo_within, f_Mo_isPort, f_Hp_endpoint, f_Hp_nodeOf, f_Hp_portOf, f_Ma_max, f_Ma_min, f_Hp_isSetting, popN, rok, a1, noX, swc, mL, if_true, if_false, ↓reduceIte, cond_true, cond_false, true_and, and_true, List.length_cons, List.length_nil, List.nil_append, List.cons_append, List.append_nil, Option.toList, Nat.reduceEqDiff, Bool.false_eq_true, reduceCtorEq, Nat.reduceAdd, Nat.reduceLT, Nat.reduceLeDiff, Nat.reduceSub, List.replicate, Nat.zero_add, Nat.lt_add_one, Nat.le_refl, Nat.zero_le, Nat.succ_ne_zero, not_false_eq_true, not_true_eq_false, false_implies, true_implies, forall_const, imp_self, true_or, or_true, eq_self, k_Mo_mappings, h1, h2, h3, h4, z1]; try clear hgo9 hW9)
    refine ⟨fun c => ?_, fun c => absurd (by omega) c⟩
    (obtain ⟨W9, hW9, hgo9⟩ := wp_ex (T_Mo_mappings l G) [4] _; refine hgo9 200 _ _ _ _ ?_; simp -implicitDefEqProofs (disch := omega) only [hW9, inl, gate, Xq, tz_const, tz_iload, tz_lload, tz_dload, tz_aload, tz_istore, tz_astore, tz_lstore, tz_dstore, tz_iinc, tz_i1, tz_i2, tz_i2z, tz_l2, tz_l2z, tz_i2l, tz_l2i, tz_lcmp, tz_i2d, tz_d2, tz_dcmp, tz_dup, tz_dup2, tz_pop, tz_if, tz_icmp, tz_null, tz_goto, tz_sw, tz_getf, tz_puti, tz_putz, tz_putr, tz_putl, tz_iaload, tz_baload, tz_laload, tz_aaload, tz_iastore, tz_bastore, tz_lastore, tz_aastore, tz_alen, tz_new, tz_newa, tz_oinit, tz_iret, tz_zret, tz_lret, tz_dret, tz_aret, tz_vret, tz_throw, tz_callS, tz_callV, tz_callI, tz_callR, tz_pureS, tz_pureV, tz_callVH, lg, lset, lkill, lst1, lst2, entL, isRf, is1, vl, va_rf_none, va_rf_some, isRf_rf, is1_rf, i0, i1, bI_eq0, bI_eq1, nm_em, nI_eqP, nI_leP, nI_ltP, nN_e1, nN_e2, nN_l1, nN_l2, nN_l3, nN_l4, nI_add, pk_mul, vp_inN, nI_cl, n01, n10, P_i, P_ii, P_iii, f_Mo_at, f_Mo_map, f_Mo_contact, f_Mo_within, f_Mo_isPort, f_Hp_endpoint, f_Hp_nodeOf, f_Hp_portOf, f_Ma_max, f_Ma_min, f_Hp_isSetting, popN, rok, a1, noX, swc, mL, if_true, if_false, ↓reduceIte, cond_true, cond_false, true_and, and_true, List.length_cons, List.length_nil, List.nil_append, List.cons_append, List.append_nil, Option.toList, Nat.reduceEqDiff, Bool.false_eq_true, reduceCtorEq, Nat.reduceAdd, Nat.reduceLT, Nat.reduceLeDiff, Nat.reduceSub, List.replicate, Nat.zero_add, Nat.lt_add_one, Nat.le_refl, Nat.zero_le, Nat.succ_ne_zero, not_false_eq_true, not_true_eq_false, false_implies, true_implies, forall_const, imp_self, true_or, or_true, eq_self, k_Mo_mappings]; try clear hgo9 hW9)
    rw [show i = mny (hI h zr) by omega]
    exact hQ
  | succ d ih =>
    intro i hi
    (obtain ⟨W9, hW9, hgo9⟩ := wp_ex (T_Mo_mappings l G) [4] _; refine hgo9 200 _ _ _ _ ?_; simp -implicitDefEqProofs (disch := omega) only [hW9, inl, gate, Xq, tz_const, tz_iload, tz_lload, tz_dload, tz_aload, tz_istore, tz_astore, tz_lstore, tz_dstore, tz_iinc, tz_i1, tz_i2, tz_i2z, tz_l2, tz_l2z, tz_i2l, tz_l2i, tz_lcmp, tz_i2d, tz_d2, tz_dcmp, tz_dup, tz_dup2, tz_pop, tz_if, tz_icmp, tz_null, tz_goto, tz_sw, tz_getf, tz_puti, tz_putz, tz_putr, tz_putl, tz_iaload, tz_baload, tz_laload, tz_aaload, tz_iastore, tz_bastore, tz_lastore, tz_aastore, tz_alen, tz_new, tz_newa, tz_oinit, tz_iret, tz_zret, tz_lret, tz_dret, tz_aret, tz_vret, tz_throw, tz_callS, tz_callV, tz_callI, tz_callR, tz_pureS, tz_pureV, tz_callVH, lg, lset, lkill, lst1, lst2, entL, isRf, is1, vl, va_rf_none, va_rf_some, isRf_rf, is1_rf, i0, i1, bI_eq0, bI_eq1, nm_em, nI_eqP, nI_leP, nI_ltP, nN_e1, nN_e2, nN_l1, nN_l2, nN_l3, nN_l4, nI_add, pk_mul, vp_inN, nI_cl, n01, n10, P_i, P_ii, P_iii, f_Mo_at, f_Mo_map, f_Mo_contact, f_Mo_within, f_Mo_isPort, f_Hp_endpoint, f_Hp_nodeOf, f_Hp_portOf, f_Ma_max, f_Ma_min, f_Hp_isSetting, popN, rok, a1, noX, swc, mL, if_true, if_false, ↓reduceIte, cond_true, cond_false, true_and, and_true, List.length_cons, List.length_nil, List.nil_append, List.cons_append, List.append_nil, Option.toList, Nat.reduceEqDiff, Bool.false_eq_true, reduceCtorEq, Nat.reduceAdd, Nat.reduceLT, Nat.reduceLeDiff, Nat.reduceSub, List.replicate, Nat.zero_add, Nat.lt_add_one, Nat.le_refl, Nat.zero_le, Nat.succ_ne_zero, not_false_eq_true, not_true_eq_false, false_implies, true_implies, forall_const, imp_self, true_or, or_true, eq_self, k_Mo_mappings, h1, h2, h3, h4, z1]; try clear hgo9 hW9)
    refine ⟨fun c => absurd c (by omega), fun c => ?_⟩
    (obtain ⟨W9, hW9, hgo9⟩ := wp_ex (T_Mo_mappings l G) [4] _; refine hgo9 200 _ _ _ _ ?_; simp -implicitDefEqProofs (disch := omega) only [hW9, inl, gate, Xq, tz_const, tz_iload, tz_lload, tz_dload, tz_aload, tz_istore, tz_astore, tz_lstore, tz_dstore, tz_iinc, tz_i1, tz_i2, tz_i2z, tz_l2, tz_l2z, tz_i2l, tz_l2i, tz_lcmp, tz_i2d, tz_d2, tz_dcmp, tz_dup, tz_dup2, tz_pop, tz_if, tz_icmp, tz_null, tz_goto, tz_sw, tz_getf, tz_puti, tz_putz, tz_putr, tz_putl, tz_iaload, tz_baload, tz_laload, tz_aaload, tz_iastore, tz_bastore, tz_lastore, tz_aastore, tz_alen, tz_new, tz_newa, tz_oinit, tz_iret, tz_zret, tz_lret, tz_dret, tz_aret, tz_vret, tz_throw, tz_callS, tz_callV, tz_callI, tz_callR, tz_pureS, tz_pureV, tz_callVH, lg, lset, lkill, lst1, lst2, entL, isRf, is1, vl, va_rf_none, va_rf_some, isRf_rf, is1_rf, i0, i1, bI_eq0, bI_eq1, nm_em, nI_eqP, nI_leP, nI_ltP, nN_e1, nN_e2, nN_l1, nN_l2, nN_l3, nN_l4, nI_add, pk_mul, vp_inN, nI_cl, n01, n10, P_i, P_ii, P_iii, f_Mo_at, f_Mo_map, f_Mo_contact, f_Mo_within, f_Mo_isPort, f_Hp_endpoint, f_Hp_nodeOf, f_Hp_portOf, f_Ma_max, f_Ma_min, f_Hp_isSetting, popN, rok, a1, noX, swc, mL, if_true, if_false, ↓reduceIte, cond_true, cond_false, true_and, and_true, List.length_cons, List.length_nil, List.nil_append, List.cons_append, List.append_nil, Option.toList, Nat.reduceEqDiff, Bool.false_eq_true, reduceCtorEq, Nat.reduceAdd, Nat.reduceLT, Nat.reduceLeDiff, Nat.reduceSub, List.replicate, Nat.zero_add, Nat.lt_add_one, Nat.le_refl, Nat.zero_le, Nat.succ_ne_zero, not_false_eq_true, not_true_eq_false, false_implies, true_implies, forall_const, imp_self, true_or, or_true, eq_self, k_Mo_mappings, h1, h2, h3, h4]; try clear hgo9 hW9)
    exact ih (i + 1) (by omega)
theorem c_Mo_mappings (a : Nat) (as : List Value) (h : AH) (Q : Po) (hl : as.length = 0) (ht : tg h a = 7) (hP : P_Mo_mappings (.ref a :: as) h) (hQ : Q (.inl (some (f_Mo_mappings (.ref a :: as) h))) h) : Call l G M_Mo_mappings (.ref a :: as) h Q := by
  match as, hP, hQ with
  | [], hP, hQ =>
    obtain ⟨zr, hm, hz⟩ := hP
    simp only [f_Mo_mappings, hm.zF] at hQ
    refine call_of rfl rfl (Nat.le_of_ble_eq_true rfl) ?_
    (obtain ⟨W9, hW9, hgo9⟩ := wp_ex (T_Mo_mappings l G) [4] _; refine hgo9 200 _ _ _ _ ?_; simp -implicitDefEqProofs (disch := omega) only [hW9, inl, gate, Xq, tz_const, tz_iload, tz_lload, tz_dload, tz_aload, tz_istore, tz_astore, tz_lstore, tz_dstore, tz_iinc, tz_i1, tz_i2, tz_i2z, tz_l2, tz_l2z, tz_i2l, tz_l2i, tz_lcmp, tz_i2d, tz_d2, tz_dcmp, tz_dup, tz_dup2, tz_pop, tz_if, tz_icmp, tz_null, tz_goto, tz_sw, tz_getf, tz_puti, tz_putz, tz_putr, tz_putl, tz_iaload, tz_baload, tz_laload, tz_aaload, tz_iastore, tz_bastore, tz_lastore, tz_aastore, tz_alen, tz_new, tz_newa, tz_oinit, tz_iret, tz_zret, tz_lret, tz_dret, tz_aret, tz_vret, tz_throw, tz_callS, tz_callV, tz_callI, tz_callR, tz_pureS, tz_pureV, tz_callVH, lg, lset, lkill, lst1, lst2, entL, isRf, is1, vl, va_rf_none, va_rf_some, isRf_rf, is1_rf, i0, i1, bI_eq0, bI_eq1, nm_em, nI_eqP, nI_leP, nI_ltP, nN_e1, nN_e2, nN_l1, nN_l2, nN_l3, nN_l4, nI_add, pk_mul, vp_inN, nI_cl, n01, n10, P_i, P_ii, P_iii, f_Mo_at, f_Mo_map, f_Mo_contact, f_Mo_within, f_Mo_isPort, f_Hp_endpoint, f_Hp_nodeOf, f_Hp_portOf, f_Ma_max, f_Ma_min, f_Hp_isSetting, popN, rok, a1, noX, swc, mL, if_true, if_false, ↓reduceIte, cond_true, cond_false, true_and, and_true, List.length_cons, List.length_nil, List.nil_append, List.cons_append, List.append_nil, Option.toList, Nat.reduceEqDiff, Bool.false_eq_true, reduceCtorEq, Nat.reduceAdd, Nat.reduceLT, Nat.reduceLeDiff, Nat.reduceSub, List.replicate, Nat.zero_add, Nat.lt_add_one, Nat.le_refl, Nat.zero_le, Nat.succ_ne_zero, not_false_eq_true, not_true_eq_false, false_implies, true_implies, forall_const, imp_self, true_or, or_true, eq_self, k_Mo_mappings]; try clear hgo9 hW9)
    exact lp_mappings hm hz hQ (mny (hI h zr)) 0 (by omega)
theorem lp_hosts {a zr : Nat} {h : AH} {Q : Po} (hm : MoS h a zr) (hz : Z10 (hI h zr)) (hQ : Q (.inl (some (.int (cntH (hI h zr) (mny (hI h zr)))))) h) :
    ∀ (d i : Nat), i + d = mny (hI h zr) → AWp l G M_Mo_hosts 4 [some (.ref a), some (.int (cntH (hI h zr) i)), some (.int (nI i))] [] h Q := by
  have hPP : PM h a := ⟨zr, hm, hz⟩
  have hzF := hm.zF
  obtain ⟨h1, h2, h3, h4⟩ := hm
  obtain ⟨z1, z2⟩ := hz.at
  intro d
  induction d with
  | zero =>
    intro i hi
    (obtain ⟨W9, hW9, hgo9⟩ := wp_ex (T_Mo_hosts l G) [4] _; refine hgo9 200 _ _ _ _ ?_; simp -implicitDefEqProofs (disch := omega) only [hW9, inl, gate, Xq, tz_const, tz_iload, tz_lload, tz_dload, tz_aload, tz_istore, tz_astore, tz_lstore, tz_dstore, tz_iinc, tz_i1, tz_i2, tz_i2z, tz_l2, tz_l2z, tz_i2l, tz_l2i, tz_lcmp, tz_i2d, tz_d2, tz_dcmp, tz_dup, tz_dup2, tz_pop, tz_if, tz_icmp, tz_null, tz_goto, tz_sw, tz_getf, tz_puti, tz_putz, tz_putr, tz_putl, tz_iaload, tz_baload, tz_laload, tz_aaload, tz_iastore, tz_bastore, tz_lastore, tz_aastore, tz_alen, tz_new, tz_newa, tz_oinit, tz_iret, tz_zret, tz_lret, tz_dret, tz_aret, tz_vret, tz_throw, tz_callS, tz_callV, tz_callI, tz_callR, tz_pureS, tz_pureV, tz_callVH, lg, lset, lkill, lst1, lst2, entL, isRf, is1, vl, va_rf_none, va_rf_some, isRf_rf, is1_rf, i0, i1, bI_eq0, bI_eq1, nm_em, nI_eqP, nI_leP, nI_ltP, nN_e1, nN_e2, nN_l1, nN_l2, nN_l3, nN_l4, nI_add, pk_mul, vp_inN, nI_cl, n01, n10, P_i, P_ii, P_iii, f_Mo_at, f_Mo_map, f_Mo_contact, f_Mo_within, f_Mo_isPort, f_Hp_endpoint, f_Hp_nodeOf, f_Hp_portOf, f_Ma_max, f_Ma_min, f_Hp_isSetting, popN, rok, a1, noX, swc, mL, if_true, if_false, ↓reduceIte, cond_true, cond_false, true_and, and_true, List.length_cons, List.length_nil, List.nil_append, List.cons_append, List.append_nil, Option.toList, Nat.reduceEqDiff, Bool.false_eq_true, reduceCtorEq, Nat.reduceAdd, Nat.reduceLT, Nat.reduceLeDiff, Nat.reduceSub, List.replicate, Nat.zero_add, Nat.lt_add_one, Nat.le_refl, Nat.zero_le, Nat.succ_ne_zero, not_false_eq_true, not_true_eq_false, false_implies, true_implies, forall_const, imp_self, true_or, or_true, eq_self, k_Mo_hosts, h1, h2, h3, h4, z1]; try clear hgo9 hW9)
    refine ⟨fun c => ?_, fun c => absurd (by omega) c⟩
    (obtain ⟨W9, hW9, hgo9⟩ := wp_ex (T_Mo_hosts l G) [4] _; refine hgo9 200 _ _ _ _ ?_; simp -implicitDefEqProofs (disch := omega) only [hW9, inl, gate, Xq, tz_const, tz_iload, tz_lload, tz_dload, tz_aload, tz_istore, tz_astore, tz_lstore, tz_dstore, tz_iinc, tz_i1, tz_i2, tz_i2z, tz_l2, tz_l2z, tz_i2l, tz_l2i, tz_lcmp, tz_i2d, tz_d2, tz_dcmp, tz_dup, tz_dup2, tz_pop, tz_if, tz_icmp, tz_null, tz_goto, tz_sw, tz_getf, tz_puti, tz_putz, tz_putr, tz_putl, tz_iaload, tz_baload, tz_laload, tz_aaload, tz_iastore, tz_bastore, tz_lastore, tz_aastore, tz_alen, tz_new, tz_newa, tz_oinit, tz_iret, tz_zret, tz_lret, tz_dret, tz_aret, tz_vret, tz_throw, tz_callS, tz_callV, tz_callI, tz_callR, tz_pureS, tz_pureV, tz_callVH, lg, lset, lkill, lst1, lst2, entL, isRf, is1, vl, va_rf_none, va_rf_some, isRf_rf, is1_rf, i0, i1, bI_eq0, bI_eq1, nm_em, nI_eqP, nI_leP, nI_ltP, nN_e1, nN_e2, nN_l1, nN_l2, nN_l3, nN_l4, nI_add, pk_mul, vp_inN, nI_cl, n01, n10, P_i, P_ii, P_iii, f_Mo_at, f_Mo_map, f_Mo_contact, f_Mo_within, f_Mo_isPort, f_Hp_endpoint, f_Hp_nodeOf, f_Hp_portOf, f_Ma_max, f_Ma_min, f_Hp_isSetting, popN, rok, a1, noX, swc, mL, if_true, if_false, ↓reduceIte, cond_true, cond_false, true_and, and_true, List.length_cons, List.length_nil, List.nil_append, List.cons_append, List.append_nil, Option.toList, Nat.reduceEqDiff, Bool.false_eq_true, reduceCtorEq, Nat.reduceAdd, Nat.reduceLT, Nat.reduceLeDiff, Nat.reduceSub, List.replicate, Nat.zero_add, Nat.lt_add_one, Nat.le_refl, Nat.zero_le, Nat.succ_ne_zero, not_false_eq_true, not_true_eq_false, false_implies, true_implies, forall_const, imp_self, true_or, or_true, eq_self, k_Mo_hosts]; try clear hgo9 hW9)
    rw [show i = mny (hI h zr) by omega]
    exact hQ
  | succ d ih =>
    intro i hi
    (obtain ⟨W9, hW9, hgo9⟩ := wp_ex (T_Mo_hosts l G) [4] _; refine hgo9 200 _ _ _ _ ?_; simp -implicitDefEqProofs (disch := omega) only [hW9, inl, gate, Xq, tz_const, tz_iload, tz_lload, tz_dload, tz_aload, tz_istore, tz_astore, tz_lstore, tz_dstore, tz_iinc, tz_i1, tz_i2, tz_i2z, tz_l2, tz_l2z, tz_i2l, tz_l2i, tz_lcmp, tz_i2d, tz_d2, tz_dcmp, tz_dup, tz_dup2, tz_pop, tz_if, tz_icmp, tz_null, tz_goto, tz_sw, tz_getf, tz_puti, tz_putz, tz_putr, tz_putl, tz_iaload, tz_baload, tz_laload, tz_aaload, tz_iastore, tz_bastore, tz_lastore, tz_aastore, tz_alen, tz_new, tz_newa, tz_oinit, tz_iret, tz_zret, tz_lret, tz_dret, tz_aret, tz_vret, tz_throw, tz_callS, tz_callV, tz_callI, tz_callR, tz_pureS, tz_pureV, tz_callVH, lg, lset, lkill, lst1, lst2, entL, isRf, is1, vl, va_rf_none, va_rf_some, isRf_rf, is1_rf, i0, i1, bI_eq0, bI_eq1, nm_em, nI_eqP, nI_leP, nI_ltP, nN_e1, nN_e2, nN_l1, nN_l2, nN_l3, nN_l4, nI_add, pk_mul, vp_inN, nI_cl, n01, n10, P_i, P_ii, P_iii, f_Mo_at, f_Mo_map, f_Mo_contact, f_Mo_within, f_Mo_isPort, f_Hp_endpoint, f_Hp_nodeOf, f_Hp_portOf, f_Ma_max, f_Ma_min, f_Hp_isSetting, popN, rok, a1, noX, swc, mL, if_true, if_false, ↓reduceIte, cond_true, cond_false, true_and, and_true, List.length_cons, List.length_nil, List.nil_append, List.cons_append, List.append_nil, Option.toList, Nat.reduceEqDiff, Bool.false_eq_true, reduceCtorEq, Nat.reduceAdd, Nat.reduceLT, Nat.reduceLeDiff, Nat.reduceSub, List.replicate, Nat.zero_add, Nat.lt_add_one, Nat.le_refl, Nat.zero_le, Nat.succ_ne_zero, not_false_eq_true, not_true_eq_false, false_implies, true_implies, forall_const, imp_self, true_or, or_true, eq_self, k_Mo_hosts, h1, h2, h3, h4, z1]; try clear hgo9 hW9)
    refine ⟨fun c => absurd c (by omega), fun c => ?_⟩
    (obtain ⟨W9, hW9, hgo9⟩ := wp_ex (T_Mo_hosts l G) [4] _; refine hgo9 200 _ _ _ _ ?_; simp -implicitDefEqProofs (disch := omega) only [hW9, inl, gate, Xq, tz_const, tz_iload, tz_lload, tz_dload, tz_aload, tz_istore, tz_astore, tz_lstore, tz_dstore, tz_iinc, tz_i1, tz_i2, tz_i2z, tz_l2, tz_l2z, tz_i2l, tz_l2i, tz_lcmp, tz_i2d, tz_d2, tz_dcmp, tz_dup, tz_dup2, tz_pop, tz_if, tz_icmp, tz_null, tz_goto, tz_sw, tz_getf, tz_puti, tz_putz, tz_putr, tz_putl, tz_iaload, tz_baload, tz_laload, tz_aaload, tz_iastore, tz_bastore, tz_lastore, tz_aastore, tz_alen, tz_new, tz_newa, tz_oinit, tz_iret, tz_zret, tz_lret, tz_dret, tz_aret, tz_vret, tz_throw, tz_callS, tz_callV, tz_callI, tz_callR, tz_pureS, tz_pureV, tz_callVH, lg, lset, lkill, lst1, lst2, entL, isRf, is1, vl, va_rf_none, va_rf_some, isRf_rf, is1_rf, i0, i1, bI_eq0, bI_eq1, nm_em, nI_eqP, nI_leP, nI_ltP, nN_e1, nN_e2, nN_l1, nN_l2, nN_l3, nN_l4, nI_add, pk_mul, vp_inN, nI_cl, n01, n10, P_i, P_ii, P_iii, f_Mo_at, f_Mo_map, f_Mo_contact, f_Mo_within, f_Mo_isPort, f_Hp_endpoint, f_Hp_nodeOf, f_Hp_portOf, f_Ma_max, f_Ma_min, f_Hp_isSetting, popN, rok, a1, noX, swc, mL, if_true, if_false, ↓reduceIte, cond_true, cond_false, true_and, and_true, List.length_cons, List.length_nil, List.nil_append, List.cons_append, List.append_nil, Option.toList, Nat.reduceEqDiff, Bool.false_eq_true, reduceCtorEq, Nat.reduceAdd, Nat.reduceLT, Nat.reduceLeDiff, Nat.reduceSub, List.replicate, Nat.zero_add, Nat.lt_add_one, Nat.le_refl, Nat.zero_le, Nat.succ_ne_zero, not_false_eq_true, not_true_eq_false, false_implies, true_implies, forall_const, imp_self, true_or, or_true, eq_self, k_Mo_hosts, h1, P_Mo_isHost, P_Mo_isNode, f_Mo_isHost, hPP, hzF]; try clear hgo9 hW9)
    have key : HoZ (hI h zr) (nI i) ↔ hI h zr (16 + 16 * i) = nI 0 := by
      constructor
      · rintro ⟨j, q1, q2, q3⟩
        rw [nI_eq (by omega) (by omega)] at q2
        subst q2; exact q3
      · intro q; exact ⟨i, by omega, rfl, q⟩
    refine ⟨fun c2 => ?_, fun c2 => ?_⟩
    · (obtain ⟨W9, hW9, hgo9⟩ := wp_ex (T_Mo_hosts l G) [4] _; refine hgo9 200 _ _ _ _ ?_; simp -implicitDefEqProofs (disch := omega) only [hW9, inl, gate, Xq, tz_const, tz_iload, tz_lload, tz_dload, tz_aload, tz_istore, tz_astore, tz_lstore, tz_dstore, tz_iinc, tz_i1, tz_i2, tz_i2z, tz_l2, tz_l2z, tz_i2l, tz_l2i, tz_lcmp, tz_i2d, tz_d2, tz_dcmp, tz_dup, tz_dup2, tz_pop, tz_if, tz_icmp, tz_null, tz_goto, tz_sw, tz_getf, tz_puti, tz_putz, tz_putr, tz_putl, tz_iaload, tz_baload, tz_laload, tz_aaload, tz_iastore, tz_bastore, tz_lastore, tz_aastore, tz_alen, tz_new, tz_newa, tz_oinit, tz_iret, tz_zret, tz_lret, tz_dret, tz_aret, tz_vret, tz_throw, tz_callS, tz_callV, tz_callI, tz_callR, tz_pureS, tz_pureV, tz_callVH, lg, lset, lkill, lst1, lst2, entL, isRf, is1, vl, va_rf_none, va_rf_some, isRf_rf, is1_rf, i0, i1, bI_eq0, bI_eq1, nm_em, nI_eqP, nI_leP, nI_ltP, nN_e1, nN_e2, nN_l1, nN_l2, nN_l3, nN_l4, nI_add, pk_mul, vp_inN, nI_cl, n01, n10, P_i, P_ii, P_iii, f_Mo_at, f_Mo_map, f_Mo_contact, f_Mo_within, f_Mo_isPort, f_Hp_endpoint, f_Hp_nodeOf, f_Hp_portOf, f_Ma_max, f_Ma_min, f_Hp_isSetting, popN, rok, a1, noX, swc, mL, if_true, if_false, ↓reduceIte, cond_true, cond_false, true_and, and_true, List.length_cons, List.length_nil, List.nil_append, List.cons_append, List.append_nil, Option.toList, Nat.reduceEqDiff, Bool.false_eq_true, reduceCtorEq, Nat.reduceAdd, Nat.reduceLT, Nat.reduceLeDiff, Nat.reduceSub, List.replicate, Nat.zero_add, Nat.lt_add_one, Nat.le_refl, Nat.zero_le, Nat.succ_ne_zero, not_false_eq_true, not_true_eq_false, false_implies, true_implies, forall_const, imp_self, true_or, or_true, eq_self, k_Mo_hosts]; try clear hgo9 hW9)
      have := ih (i + 1) (by omega)
      rw [cntH, bI_f (fun q => c2 (key.mpr q))] at this
      exact this
    · (obtain ⟨W9, hW9, hgo9⟩ := wp_ex (T_Mo_hosts l G) [4] _; refine hgo9 200 _ _ _ _ ?_; simp -implicitDefEqProofs (disch := omega) only [hW9, inl, gate, Xq, tz_const, tz_iload, tz_lload, tz_dload, tz_aload, tz_istore, tz_astore, tz_lstore, tz_dstore, tz_iinc, tz_i1, tz_i2, tz_i2z, tz_l2, tz_l2z, tz_i2l, tz_l2i, tz_lcmp, tz_i2d, tz_d2, tz_dcmp, tz_dup, tz_dup2, tz_pop, tz_if, tz_icmp, tz_null, tz_goto, tz_sw, tz_getf, tz_puti, tz_putz, tz_putr, tz_putl, tz_iaload, tz_baload, tz_laload, tz_aaload, tz_iastore, tz_bastore, tz_lastore, tz_aastore, tz_alen, tz_new, tz_newa, tz_oinit, tz_iret, tz_zret, tz_lret, tz_dret, tz_aret, tz_vret, tz_throw, tz_callS, tz_callV, tz_callI, tz_callR, tz_pureS, tz_pureV, tz_callVH, lg, lset, lkill, lst1, lst2, entL, isRf, is1, vl, va_rf_none, va_rf_some, isRf_rf, is1_rf, i0, i1, bI_eq0, bI_eq1, nm_em, nI_eqP, nI_leP, nI_ltP, nN_e1, nN_e2, nN_l1, nN_l2, nN_l3, nN_l4, nI_add, pk_mul, vp_inN, nI_cl, n01, n10, P_i, P_ii, P_iii, f_Mo_at, f_Mo_map, f_Mo_contact, f_Mo_within, f_Mo_isPort, f_Hp_endpoint, f_Hp_nodeOf, f_Hp_portOf, f_Ma_max, f_Ma_min, f_Hp_isSetting, popN, rok, a1, noX, swc, mL, if_true, if_false, ↓reduceIte, cond_true, cond_false, true_and, and_true, List.length_cons, List.length_nil, List.nil_append, List.cons_append, List.append_nil, Option.toList, Nat.reduceEqDiff, Bool.false_eq_true, reduceCtorEq, Nat.reduceAdd, Nat.reduceLT, Nat.reduceLeDiff, Nat.reduceSub, List.replicate, Nat.zero_add, Nat.lt_add_one, Nat.le_refl, Nat.zero_le, Nat.succ_ne_zero, not_false_eq_true, not_true_eq_false, false_implies, true_implies, forall_const, imp_self, true_or, or_true, eq_self, k_Mo_hosts]; try clear hgo9 hW9)
      have := ih (i + 1) (by omega)
      rw [cntH, bI_t (key.mp (Classical.not_not.mp c2))] at this
      exact this
theorem c_Mo_hosts (a : Nat) (as : List Value) (h : AH) (Q : Po) (hl : as.length = 0) (ht : tg h a = 7) (hP : P_Mo_hosts (.ref a :: as) h) (hQ : Q (.inl (some (f_Mo_hosts (.ref a :: as) h))) h) : Call l G M_Mo_hosts (.ref a :: as) h Q := by
  match as, hP, hQ with
  | [], hP, hQ =>
    obtain ⟨zr, hm, hz⟩ := hP
    simp only [f_Mo_hosts, hm.zF] at hQ
    refine call_of rfl rfl (Nat.le_of_ble_eq_true rfl) ?_
    (obtain ⟨W9, hW9, hgo9⟩ := wp_ex (T_Mo_hosts l G) [4] _; refine hgo9 200 _ _ _ _ ?_; simp -implicitDefEqProofs (disch := omega) only [hW9, inl, gate, Xq, tz_const, tz_iload, tz_lload, tz_dload, tz_aload, tz_istore, tz_astore, tz_lstore, tz_dstore, tz_iinc, tz_i1, tz_i2, tz_i2z, tz_l2, tz_l2z, tz_i2l, tz_l2i, tz_lcmp, tz_i2d, tz_d2, tz_dcmp, tz_dup, tz_dup2, tz_pop, tz_if, tz_icmp, tz_null, tz_goto, tz_sw, tz_getf, tz_puti, tz_putz, tz_putr, tz_putl, tz_iaload, tz_baload, tz_laload, tz_aaload, tz_iastore, tz_bastore, tz_lastore, tz_aastore, tz_alen, tz_new, tz_newa, tz_oinit, tz_iret, tz_zret, tz_lret, tz_dret, tz_aret, tz_vret, tz_throw, tz_callS, tz_callV, tz_callI, tz_callR, tz_pureS, tz_pureV, tz_callVH, lg, lset, lkill, lst1, lst2, entL, isRf, is1, vl, va_rf_none, va_rf_some, isRf_rf, is1_rf, i0, i1, bI_eq0, bI_eq1, nm_em, nI_eqP, nI_leP, nI_ltP, nN_e1, nN_e2, nN_l1, nN_l2, nN_l3, nN_l4, nI_add, pk_mul, vp_inN, nI_cl, n01, n10, P_i, P_ii, P_iii, f_Mo_at, f_Mo_map, f_Mo_contact, f_Mo_within, f_Mo_isPort, f_Hp_endpoint, f_Hp_nodeOf, f_Hp_portOf, f_Ma_max, f_Ma_min, f_Hp_isSetting, popN, rok, a1, noX, swc, mL, if_true, if_false, ↓reduceIte, cond_true, cond_false, true_and, and_true, List.length_cons, List.length_nil, List.nil_append, List.cons_append, List.append_nil, Option.toList, Nat.reduceEqDiff, Bool.false_eq_true, reduceCtorEq, Nat.reduceAdd, Nat.reduceLT, Nat.reduceLeDiff, Nat.reduceSub, List.replicate, Nat.zero_add, Nat.lt_add_one, Nat.le_refl, Nat.zero_le, Nat.succ_ne_zero, not_false_eq_true, not_true_eq_false, false_implies, true_implies, forall_const, imp_self, true_or, or_true, eq_self, k_Mo_hosts]; try clear hgo9 hW9)
    exact lp_hosts hm hz hQ (mny (hI h zr)) 0 (by omega)
end
/-- the hosts below i that are behind t -/
noncomputable def cntB (z : Nat → Int32) (t : Int32) : Nat → Int32
  | 0 => nI 0
  | n + 1 => cntB z t n + bI (z (16 + 16 * n) = nI 0 ∧ bhZ z t 10 (netZ z n))
def PN0 (h : AH) (m : Nat) : Prop := ∃ zr, MoS h m zr ∧ Z10 (hI h zr) ∧ NetOK (hI h zr)
def P_Mo_hostsBehind : List Value → AH → Prop
  | [.ref m, .int _], h => PN0 h m
  | _, _ => False
noncomputable def f_Mo_hostsBehind : List Value → AH → Value
  | [.ref m, .int t], h => .int (cntB (zF h m) t (mny (zF h m)))
  | _, _ => .null
/-- mapping j of t is the one for the source (a, p) and the remote (b, q) -/
def mtZ (z : Nat → Int32) (t : Nat) (a p b q : Int32) (j : Nat) : Prop := (z (176 + 8 * (8 * t + j) + 0) = a ∧ z (176 + 8 * (8 * t + j) + 1) = p) ∧ (z (16 + 16 * t + 2) = nI 0 ∨ z (176 + 8 * (8 * t + j) + 3) = b) ∧ (z (16 + 16 * t + 2) < nI 2 ∨ z (176 + 8 * (8 * t + j) + 4) = q)
noncomputable def mfZ (z : Nat → Int32) (t : Nat) (a p b q : Int32) : Nat → Int32
  | 0 => nN
  | j + 1 => @ite _ (mtZ z t a p b q j) (Classical.propDecidable _) (nI j) (mfZ z t a p b q j)
def P_Mo_mappingFor : List Value → AH → Prop
  | [.ref m, .int t, .int _, .int _, .int _, .int _], h => ∃ zr tn, MoS h m zr ∧ t = nI tn ∧ tn < 10 ∧ OwnOK (hI h zr) tn
  | _, _ => False
noncomputable def f_Mo_mappingFor : List Value → AH → Value
  | [.ref m, .int t, .int a, .int p, .int b, .int q], h => .int (mfZ (zF h m) t.toNatClampNeg a p b q (own (zF h m) t.toNatClampNeg))
  | _, _ => .null
section
variable {l : Launch} {G : Gc}
theorem lp_hostsBehind {a zr : Nat} {t : Int32} {h : AH} {Q : Po} (hm : MoS h a zr) (hz : Z10 (hI h zr)) (hn : NetOK (hI h zr)) (hQ : Q (.inl (some (.int (cntB (hI h zr) t (mny (hI h zr)))))) h) :
    ∀ (d i : Nat), i + d = mny (hI h zr) → AWp l G M_Mo_hostsBehind 4 [some (.ref a), some (.int t), some (.int (cntB (hI h zr) t i)), some (.int (nI i))] [] h Q := by
  have hPP : PM h a := ⟨zr, hm, hz⟩
  have hzF := hm.zF
  have hPN : ∀ i, i < mny (hI h zr) → PN h a (nI i) := fun i hi => ⟨zr, i, hm, hz, hn, rfl, hi⟩
  obtain ⟨h1, h2, h3, h4⟩ := hm
  obtain ⟨z1, z2⟩ := hz.at
  intro d
  induction d with
  | zero =>
    intro i hi
    (obtain ⟨W9, hW9, hgo9⟩ := wp_ex (T_Mo_hostsBehind l G) [4] _; refine hgo9 200 _ _ _ _ ?_; simp -implicitDefEqProofs (disch := omega) only [hW9, inl, gate, Xq, tz_const, tz_iload, tz_lload, tz_dload, tz_aload, tz_istore, tz_astore, tz_lstore, tz_dstore, tz_iinc, tz_i1, tz_i2, tz_i2z, tz_l2, tz_l2z, tz_i2l, tz_l2i, tz_lcmp, tz_i2d, tz_d2, tz_dcmp, tz_dup, tz_dup2, tz_pop, tz_if, tz_icmp, tz_null, tz_goto, tz_sw, tz_getf, tz_puti, tz_putz, tz_putr, tz_putl, tz_iaload, tz_baload, tz_laload, tz_aaload, tz_iastore, tz_bastore, tz_lastore, tz_aastore, tz_alen, tz_new, tz_newa, tz_oinit, tz_iret, tz_zret, tz_lret, tz_dret, tz_aret, tz_vret, tz_throw, tz_callS, tz_callV, tz_callI, tz_callR, tz_pureS, tz_pureV, tz_callVH, lg, lset, lkill, lst1, lst2, entL, isRf, is1, vl, va_rf_none, va_rf_some, isRf_rf, is1_rf, i0, i1, bI_eq0, bI_eq1, nm_em, nI_eqP, nI_leP, nI_ltP, nN_e1, nN_e2, nN_l1, nN_l2, nN_l3, nN_l4, nI_add, pk_mul, vp_inN, nI_cl, n01, n10, P_i, P_ii, P_iii, f_Mo_at, f_Mo_map, f_Mo_contact, f_Mo_within, f_Mo_isPort, f_Hp_endpoint, f_Hp_nodeOf, f_Hp_portOf, f_Ma_max, f_Ma_min, f_Hp_isSetting, popN, rok, a1, noX, swc, mL, if_true, if_false, ↓reduceIte, cond_true, cond_false, true_and, and_true, List.length_cons, List.length_nil, List.nil_append, List.cons_append, List.append_nil, Option.toList, Nat.reduceEqDiff, Bool.false_eq_true, reduceCtorEq, Nat.reduceAdd, Nat.reduceLT, Nat.reduceLeDiff, Nat.reduceSub, List.replicate, Nat.zero_add, Nat.lt_add_one, Nat.le_refl, Nat.zero_le, Nat.succ_ne_zero, not_false_eq_true, not_true_eq_false, false_implies, true_implies, forall_const, imp_self, true_or, or_true, eq_self, k_Mo_hostsBehind, h1, h2, h3, h4, z1]; try clear hgo9 hW9)
    refine ⟨fun c => ?_, fun c => absurd (by omega) c⟩
    (obtain ⟨W9, hW9, hgo9⟩ := wp_ex (T_Mo_hostsBehind l G) [4] _; refine hgo9 200 _ _ _ _ ?_; simp -implicitDefEqProofs (disch := omega) only [hW9, inl, gate, Xq, tz_const, tz_iload, tz_lload, tz_dload, tz_aload, tz_istore, tz_astore, tz_lstore, tz_dstore, tz_iinc, tz_i1, tz_i2, tz_i2z, tz_l2, tz_l2z, tz_i2l, tz_l2i, tz_lcmp, tz_i2d, tz_d2, tz_dcmp, tz_dup, tz_dup2, tz_pop, tz_if, tz_icmp, tz_null, tz_goto, tz_sw, tz_getf, tz_puti, tz_putz, tz_putr, tz_putl, tz_iaload, tz_baload, tz_laload, tz_aaload, tz_iastore, tz_bastore, tz_lastore, tz_aastore, tz_alen, tz_new, tz_newa, tz_oinit, tz_iret, tz_zret, tz_lret, tz_dret, tz_aret, tz_vret, tz_throw, tz_callS, tz_callV, tz_callI, tz_callR, tz_pureS, tz_pureV, tz_callVH, lg, lset, lkill, lst1, lst2, entL, isRf, is1, vl, va_rf_none, va_rf_some, isRf_rf, is1_rf, i0, i1, bI_eq0, bI_eq1, nm_em, nI_eqP, nI_leP, nI_ltP, nN_e1, nN_e2, nN_l1, nN_l2, nN_l3, nN_l4, nI_add, pk_mul, vp_inN, nI_cl, n01, n10, P_i, P_ii, P_iii, f_Mo_at, f_Mo_map, f_Mo_contact, f_Mo_within, f_Mo_isPort, f_Hp_endpoint, f_Hp_nodeOf, f_Hp_portOf, f_Ma_max, f_Ma_min, f_Hp_isSetting, popN, rok, a1, noX, swc, mL, if_true, if_false, ↓reduceIte, cond_true, cond_false, true_and, and_true, List.length_cons, List.length_nil, List.nil_append, List.cons_append, List.append_nil, Option.toList, Nat.reduceEqDiff, Bool.false_eq_true, reduceCtorEq, Nat.reduceAdd, Nat.reduceLT, Nat.reduceLeDiff, Nat.reduceSub, List.replicate, Nat.zero_add, Nat.lt_add_one, Nat.le_refl, Nat.zero_le, Nat.succ_ne_zero, not_false_eq_true, not_true_eq_false, false_implies, true_implies, forall_const, imp_self, true_or, or_true, eq_self, k_Mo_hostsBehind]; try clear hgo9 hW9)
    rw [show i = mny (hI h zr) by omega]
    exact hQ
  | succ d ih =>
    intro i hi
    (obtain ⟨W9, hW9, hgo9⟩ := wp_ex (T_Mo_hostsBehind l G) [4] _; refine hgo9 200 _ _ _ _ ?_; simp -implicitDefEqProofs (disch := omega) only [hW9, inl, gate, Xq, tz_const, tz_iload, tz_lload, tz_dload, tz_aload, tz_istore, tz_astore, tz_lstore, tz_dstore, tz_iinc, tz_i1, tz_i2, tz_i2z, tz_l2, tz_l2z, tz_i2l, tz_l2i, tz_lcmp, tz_i2d, tz_d2, tz_dcmp, tz_dup, tz_dup2, tz_pop, tz_if, tz_icmp, tz_null, tz_goto, tz_sw, tz_getf, tz_puti, tz_putz, tz_putr, tz_putl, tz_iaload, tz_baload, tz_laload, tz_aaload, tz_iastore, tz_bastore, tz_lastore, tz_aastore, tz_alen, tz_new, tz_newa, tz_oinit, tz_iret, tz_zret, tz_lret, tz_dret, tz_aret, tz_vret, tz_throw, tz_callS, tz_callV, tz_callI, tz_callR, tz_pureS, tz_pureV, tz_callVH, lg, lset, lkill, lst1, lst2, entL, isRf, is1, vl, va_rf_none, va_rf_some, isRf_rf, is1_rf, i0, i1, bI_eq0, bI_eq1, nm_em, nI_eqP, nI_leP, nI_ltP, nN_e1, nN_e2, nN_l1, nN_l2, nN_l3, nN_l4, nI_add, pk_mul, vp_inN, nI_cl, n01, n10, P_i, P_ii, P_iii, f_Mo_at, f_Mo_map, f_Mo_contact, f_Mo_within, f_Mo_isPort, f_Hp_endpoint, f_Hp_nodeOf, f_Hp_portOf, f_Ma_max, f_Ma_min, f_Hp_isSetting, popN, rok, a1, noX, swc, mL, if_true, if_false, ↓reduceIte, cond_true, cond_false, true_and, and_true, List.length_cons, List.length_nil, List.nil_append, List.cons_append, List.append_nil, Option.toList, Nat.reduceEqDiff, Bool.false_eq_true, reduceCtorEq, Nat.reduceAdd, Nat.reduceLT, Nat.reduceLeDiff, Nat.reduceSub, List.replicate, Nat.zero_add, Nat.lt_add_one, Nat.le_refl, Nat.zero_le, Nat.succ_ne_zero, not_false_eq_true, not_true_eq_false, false_implies, true_implies, forall_const, imp_self, true_or, or_true, eq_self, k_Mo_hostsBehind, h1, h2, h3, h4, z1]; try clear hgo9 hW9)
    refine ⟨fun c => absurd c (by omega), fun c => ?_⟩
    (obtain ⟨W9, hW9, hgo9⟩ := wp_ex (T_Mo_hostsBehind l G) [4] _; refine hgo9 200 _ _ _ _ ?_; simp -implicitDefEqProofs (disch := omega) only [hW9, inl, gate, Xq, tz_const, tz_iload, tz_lload, tz_dload, tz_aload, tz_istore, tz_astore, tz_lstore, tz_dstore, tz_iinc, tz_i1, tz_i2, tz_i2z, tz_l2, tz_l2z, tz_i2l, tz_l2i, tz_lcmp, tz_i2d, tz_d2, tz_dcmp, tz_dup, tz_dup2, tz_pop, tz_if, tz_icmp, tz_null, tz_goto, tz_sw, tz_getf, tz_puti, tz_putz, tz_putr, tz_putl, tz_iaload, tz_baload, tz_laload, tz_aaload, tz_iastore, tz_bastore, tz_lastore, tz_aastore, tz_alen, tz_new, tz_newa, tz_oinit, tz_iret, tz_zret, tz_lret, tz_dret, tz_aret, tz_vret, tz_throw, tz_callS, tz_callV, tz_callI, tz_callR, tz_pureS, tz_pureV, tz_callVH, lg, lset, lkill, lst1, lst2, entL, isRf, is1, vl, va_rf_none, va_rf_some, isRf_rf, is1_rf, i0, i1, bI_eq0, bI_eq1, nm_em, nI_eqP, nI_leP, nI_ltP, nN_e1, nN_e2, nN_l1, nN_l2, nN_l3, nN_l4, nI_add, pk_mul, vp_inN, nI_cl, n01, n10, P_i, P_ii, P_iii, f_Mo_at, f_Mo_map, f_Mo_contact, f_Mo_within, f_Mo_isPort, f_Hp_endpoint, f_Hp_nodeOf, f_Hp_portOf, f_Ma_max, f_Ma_min, f_Hp_isSetting, popN, rok, a1, noX, swc, mL, if_true, if_false, ↓reduceIte, cond_true, cond_false, true_and, and_true, List.length_cons, List.length_nil, List.nil_append, List.cons_append, List.append_nil, Option.toList, Nat.reduceEqDiff, Bool.false_eq_true, reduceCtorEq, Nat.reduceAdd, Nat.reduceLT, Nat.reduceLeDiff, Nat.reduceSub, List.replicate, Nat.zero_add, Nat.lt_add_one, Nat.le_refl, Nat.zero_le, Nat.succ_ne_zero, not_false_eq_true, not_true_eq_false, false_implies, true_implies, forall_const, imp_self, true_or, or_true, eq_self, k_Mo_hostsBehind, h1, P_Mo_isHost, P_Mo_isNode, f_Mo_isHost, hPP, hzF]; try clear hgo9 hW9)
    have hih := ih (i + 1) (by omega)
    have key : HoZ (hI h zr) (nI i) ↔ hI h zr (16 + 16 * i) = nI 0 := by
      constructor
      · rintro ⟨j, q1, q2, q3⟩
        rw [nI_eq (by omega) (by omega)] at q2
        subst q2; exact q3
      · intro q; exact ⟨i, by omega, rfl, q⟩
    refine ⟨fun c2 => ?_, fun c2 => ?_⟩
    · (obtain ⟨W9, hW9, hgo9⟩ := wp_ex (T_Mo_hostsBehind l G) [4] _; refine hgo9 200 _ _ _ _ ?_; simp -implicitDefEqProofs (disch := omega) only [hW9, inl, gate, Xq, tz_const, tz_iload, tz_lload, tz_dload, tz_aload, tz_istore, tz_astore, tz_lstore, tz_dstore, tz_iinc, tz_i1, tz_i2, tz_i2z, tz_l2, tz_l2z, tz_i2l, tz_l2i, tz_lcmp, tz_i2d, tz_d2, tz_dcmp, tz_dup, tz_dup2, tz_pop, tz_if, tz_icmp, tz_null, tz_goto, tz_sw, tz_getf, tz_puti, tz_putz, tz_putr, tz_putl, tz_iaload, tz_baload, tz_laload, tz_aaload, tz_iastore, tz_bastore, tz_lastore, tz_aastore, tz_alen, tz_new, tz_newa, tz_oinit, tz_iret, tz_zret, tz_lret, tz_dret, tz_aret, tz_vret, tz_throw, tz_callS, tz_callV, tz_callI, tz_callR, tz_pureS, tz_pureV, tz_callVH, lg, lset, lkill, lst1, lst2, entL, isRf, is1, vl, va_rf_none, va_rf_some, isRf_rf, is1_rf, i0, i1, bI_eq0, bI_eq1, nm_em, nI_eqP, nI_leP, nI_ltP, nN_e1, nN_e2, nN_l1, nN_l2, nN_l3, nN_l4, nI_add, pk_mul, vp_inN, nI_cl, n01, n10, P_i, P_ii, P_iii, f_Mo_at, f_Mo_map, f_Mo_contact, f_Mo_within, f_Mo_isPort, f_Hp_endpoint, f_Hp_nodeOf, f_Hp_portOf, f_Ma_max, f_Ma_min, f_Hp_isSetting, popN, rok, a1, noX, swc, mL, if_true, if_false, ↓reduceIte, cond_true, cond_false, true_and, and_true, List.length_cons, List.length_nil, List.nil_append, List.cons_append, List.append_nil, Option.toList, Nat.reduceEqDiff, Bool.false_eq_true, reduceCtorEq, Nat.reduceAdd, Nat.reduceLT, Nat.reduceLeDiff, Nat.reduceSub, List.replicate, Nat.zero_add, Nat.lt_add_one, Nat.le_refl, Nat.zero_le, Nat.succ_ne_zero, not_false_eq_true, not_true_eq_false, false_implies, true_implies, forall_const, imp_self, true_or, or_true, eq_self, k_Mo_hostsBehind]; try clear hgo9 hW9)
      rw [cntB, bI_f (fun q => c2 (key.mpr q.1))] at hih
      exact hih
    · have hP5 := hPN i (by omega)
      (obtain ⟨W9, hW9, hgo9⟩ := wp_ex (T_Mo_hostsBehind l G) [4] _; refine hgo9 200 _ _ _ _ ?_; simp -implicitDefEqProofs (disch := omega) only [hW9, inl, gate, Xq, tz_const, tz_iload, tz_lload, tz_dload, tz_aload, tz_istore, tz_astore, tz_lstore, tz_dstore, tz_iinc, tz_i1, tz_i2, tz_i2z, tz_l2, tz_l2z, tz_i2l, tz_l2i, tz_lcmp, tz_i2d, tz_d2, tz_dcmp, tz_dup, tz_dup2, tz_pop, tz_if, tz_icmp, tz_null, tz_goto, tz_sw, tz_getf, tz_puti, tz_putz, tz_putr, tz_putl, tz_iaload, tz_baload, tz_laload, tz_aaload, tz_iastore, tz_bastore, tz_lastore, tz_aastore, tz_alen, tz_new, tz_newa, tz_oinit, tz_iret, tz_zret, tz_lret, tz_dret, tz_aret, tz_vret, tz_throw, tz_callS, tz_callV, tz_callI, tz_callR, tz_pureS, tz_pureV, tz_callVH, lg, lset, lkill, lst1, lst2, entL, isRf, is1, vl, va_rf_none, va_rf_some, isRf_rf, is1_rf, i0, i1, bI_eq0, bI_eq1, nm_em, nI_eqP, nI_leP, nI_ltP, nN_e1, nN_e2, nN_l1, nN_l2, nN_l3, nN_l4, nI_add, pk_mul, vp_inN, nI_cl, n01, n10, P_i, P_ii, P_iii, f_Mo_at, f_Mo_map, f_Mo_contact, f_Mo_within, f_Mo_isPort, f_Hp_endpoint, f_Hp_nodeOf, f_Hp_portOf, f_Ma_max, f_Ma_min, f_Hp_isSetting, popN, rok, a1, noX, swc, mL, if_true, if_false, ↓reduceIte, cond_true, cond_false, true_and, and_true, List.length_cons, List.length_nil, List.nil_append, List.cons_append, List.append_nil, Option.toList, Nat.reduceEqDiff, Bool.false_eq_true, reduceCtorEq, Nat.reduceAdd, Nat.reduceLT, Nat.reduceLeDiff, Nat.reduceSub, List.replicate, Nat.zero_add, Nat.lt_add_one, Nat.le_refl, Nat.zero_le, Nat.succ_ne_zero, not_false_eq_true, not_true_eq_false, false_implies, true_implies, forall_const, imp_self, true_or, or_true, eq_self, k_Mo_hostsBehind, h1, P_Mo_isBehind, f_Mo_isBehind, hP5, hzF]; try clear hgo9 hW9)
      refine ⟨fun c3 => ?_, fun c3 => ?_⟩
      · (obtain ⟨W9, hW9, hgo9⟩ := wp_ex (T_Mo_hostsBehind l G) [4] _; refine hgo9 200 _ _ _ _ ?_; simp -implicitDefEqProofs (disch := omega) only [hW9, inl, gate, Xq, tz_const, tz_iload, tz_lload, tz_dload, tz_aload, tz_istore, tz_astore, tz_lstore, tz_dstore, tz_iinc, tz_i1, tz_i2, tz_i2z, tz_l2, tz_l2z, tz_i2l, tz_l2i, tz_lcmp, tz_i2d, tz_d2, tz_dcmp, tz_dup, tz_dup2, tz_pop, tz_if, tz_icmp, tz_null, tz_goto, tz_sw, tz_getf, tz_puti, tz_putz, tz_putr, tz_putl, tz_iaload, tz_baload, tz_laload, tz_aaload, tz_iastore, tz_bastore, tz_lastore, tz_aastore, tz_alen, tz_new, tz_newa, tz_oinit, tz_iret, tz_zret, tz_lret, tz_dret, tz_aret, tz_vret, tz_throw, tz_callS, tz_callV, tz_callI, tz_callR, tz_pureS, tz_pureV, tz_callVH, lg, lset, lkill, lst1, lst2, entL, isRf, is1, vl, va_rf_none, va_rf_some, isRf_rf, is1_rf, i0, i1, bI_eq0, bI_eq1, nm_em, nI_eqP, nI_leP, nI_ltP, nN_e1, nN_e2, nN_l1, nN_l2, nN_l3, nN_l4, nI_add, pk_mul, vp_inN, nI_cl, n01, n10, P_i, P_ii, P_iii, f_Mo_at, f_Mo_map, f_Mo_contact, f_Mo_within, f_Mo_isPort, f_Hp_endpoint, f_Hp_nodeOf, f_Hp_portOf, f_Ma_max, f_Ma_min, f_Hp_isSetting, popN, rok, a1, noX, swc, mL, if_true, if_false, ↓reduceIte, cond_true, cond_false, true_and, and_true, List.length_cons, List.length_nil, List.nil_append, List.cons_append, List.append_nil, Option.toList, Nat.reduceEqDiff, Bool.false_eq_true, reduceCtorEq, Nat.reduceAdd, Nat.reduceLT, Nat.reduceLeDiff, Nat.reduceSub, List.replicate, Nat.zero_add, Nat.lt_add_one, Nat.le_refl, Nat.zero_le, Nat.succ_ne_zero, not_false_eq_true, not_true_eq_false, false_implies, true_implies, forall_const, imp_self, true_or, or_true, eq_self, k_Mo_hostsBehind]; try clear hgo9 hW9)
        rw [cntB, bI_f (fun q => c3 q.2)] at hih
        exact hih
      · (obtain ⟨W9, hW9, hgo9⟩ := wp_ex (T_Mo_hostsBehind l G) [4] _; refine hgo9 200 _ _ _ _ ?_; simp -implicitDefEqProofs (disch := omega) only [hW9, inl, gate, Xq, tz_const, tz_iload, tz_lload, tz_dload, tz_aload, tz_istore, tz_astore, tz_lstore, tz_dstore, tz_iinc, tz_i1, tz_i2, tz_i2z, tz_l2, tz_l2z, tz_i2l, tz_l2i, tz_lcmp, tz_i2d, tz_d2, tz_dcmp, tz_dup, tz_dup2, tz_pop, tz_if, tz_icmp, tz_null, tz_goto, tz_sw, tz_getf, tz_puti, tz_putz, tz_putr, tz_putl, tz_iaload, tz_baload, tz_laload, tz_aaload, tz_iastore, tz_bastore, tz_lastore, tz_aastore, tz_alen, tz_new, tz_newa, tz_oinit, tz_iret, tz_zret, tz_lret, tz_dret, tz_aret, tz_vret, tz_throw, tz_callS, tz_callV, tz_callI, tz_callR, tz_pureS, tz_pureV, tz_callVH, lg, lset, lkill, lst1, lst2, entL, isRf, is1, vl, va_rf_none, va_rf_some, isRf_rf, is1_rf, i0, i1, bI_eq0, bI_eq1, nm_em, nI_eqP, nI_leP, nI_ltP, nN_e1, nN_e2, nN_l1, nN_l2, nN_l3, nN_l4, nI_add, pk_mul, vp_inN, nI_cl, n01, n10, P_i, P_ii, P_iii, f_Mo_at, f_Mo_map, f_Mo_contact, f_Mo_within, f_Mo_isPort, f_Hp_endpoint, f_Hp_nodeOf, f_Hp_portOf, f_Ma_max, f_Ma_min, f_Hp_isSetting, popN, rok, a1, noX, swc, mL, if_true, if_false, ↓reduceIte, cond_true, cond_false, true_and, and_true, List.length_cons, List.length_nil, List.nil_append, List.cons_append, List.append_nil, Option.toList, Nat.reduceEqDiff, Bool.false_eq_true, reduceCtorEq, Nat.reduceAdd, Nat.reduceLT, Nat.reduceLeDiff, Nat.reduceSub, List.replicate, Nat.zero_add, Nat.lt_add_one, Nat.le_refl, Nat.zero_le, Nat.succ_ne_zero, not_false_eq_true, not_true_eq_false, false_implies, true_implies, forall_const, imp_self, true_or, or_true, eq_self, k_Mo_hostsBehind]; try clear hgo9 hW9)
        rw [cntB, bI_t ⟨key.mp (Classical.not_not.mp c2), Classical.not_not.mp c3⟩] at hih
        exact hih
theorem c_Mo_hostsBehind (a : Nat) (as : List Value) (h : AH) (Q : Po) (hl : as.length = 1) (ht : tg h a = 7) (hP : P_Mo_hostsBehind (.ref a :: as) h) (hQ : Q (.inl (some (f_Mo_hostsBehind (.ref a :: as) h))) h) : Call l G M_Mo_hostsBehind (.ref a :: as) h Q := by
  match as, hP, hQ with
  | [.int t], hP, hQ =>
    obtain ⟨zr, hm, hz, hn⟩ := hP
    simp only [f_Mo_hostsBehind, hm.zF] at hQ
    refine call_of rfl rfl (Nat.le_of_ble_eq_true rfl) ?_
    (obtain ⟨W9, hW9, hgo9⟩ := wp_ex (T_Mo_hostsBehind l G) [4] _; refine hgo9 200 _ _ _ _ ?_; simp -implicitDefEqProofs (disch := omega) only [hW9, inl, gate, Xq, tz_const, tz_iload, tz_lload, tz_dload, tz_aload, tz_istore, tz_astore, tz_lstore, tz_dstore, tz_iinc, tz_i1, tz_i2, tz_i2z, tz_l2, tz_l2z, tz_i2l, tz_l2i, tz_lcmp, tz_i2d, tz_d2, tz_dcmp, tz_dup, tz_dup2, tz_pop, tz_if, tz_icmp, tz_null, tz_goto, tz_sw, tz_getf, tz_puti, tz_putz, tz_putr, tz_putl, tz_iaload, tz_baload, tz_laload, tz_aaload, tz_iastore, tz_bastore, tz_lastore, tz_aastore, tz_alen, tz_new, tz_newa, tz_oinit, tz_iret, tz_zret, tz_lret, tz_dret, tz_aret, tz_vret, tz_throw, tz_callS, tz_callV, tz_callI, tz_callR, tz_pureS, tz_pureV, tz_callVH, lg, lset, lkill, lst1, lst2, entL, isRf, is1, vl, va_rf_none, va_rf_some, isRf_rf, is1_rf, i0, i1, bI_eq0, bI_eq1, nm_em, nI_eqP, nI_leP, nI_ltP, nN_e1, nN_e2, nN_l1, nN_l2, nN_l3, nN_l4, nI_add, pk_mul, vp_inN, nI_cl, n01, n10, P_i, P_ii, P_iii, f_Mo_at, f_Mo_map, f_Mo_contact, f_Mo_within, f_Mo_isPort, f_Hp_endpoint, f_Hp_nodeOf, f_Hp_portOf, f_Ma_max, f_Ma_min, f_Hp_isSetting, popN, rok, a1, noX, swc, mL, if_true, if_false, ↓reduceIte, cond_true, cond_false, true_and, and_true, List.length_cons, List.length_nil, List.nil_append, List.cons_append, List.append_nil, Option.toList, Nat.reduceEqDiff, Bool.false_eq_true, reduceCtorEq, Nat.reduceAdd, Nat.reduceLT, Nat.reduceLeDiff, Nat.reduceSub, List.replicate, Nat.zero_add, Nat.lt_add_one, Nat.le_refl, Nat.zero_le, Nat.succ_ne_zero, not_false_eq_true, not_true_eq_false, false_implies, true_implies, forall_const, imp_self, true_or, or_true, eq_self, k_Mo_hostsBehind]; try clear hgo9 hW9)
    exact lp_hostsBehind hm hz hn hQ (mny (hI h zr)) 0 (by omega)
end
