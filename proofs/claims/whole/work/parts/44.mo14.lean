/-! THE REFERENCE: a packet comes in -/
def k_Mo_comesIn (l : Launch) (G : Gc) (pc : Nat) : Tr :=
  if pc < 88 then
   if pc < 40 then
    if pc < 18 then
     if pc < 6 then
      if pc < 2 then
       if pc < 1 then
        if pc = 0 then tz_iload 1 1 else dead
       else
        if pc = 1 then tz_istore 2 3 else dead
      else
       if pc < 3 then
        if pc = 2 then tz_iload 3 2 else dead
       else
        if pc < 5 then
         if pc = 3 then tz_istore 5 4 else dead
        else
         if pc = 5 then tz_aload 6 0 else dead
     else
      if pc < 13 then
       if pc < 7 then
        if pc = 6 then tz_iload 7 3 else dead
       else
        if pc < 10 then
         if pc = 7 then tz_pureV 10 1 7 P_Mo_isTranslator f_Mo_isTranslator else dead
        else
         if pc = 10 then tz_if 13 165 (fun a => a = 0) else dead
      else
       if pc < 14 then
        if pc = 13 then tz_const 14 (.int (nI 0)) else dead
       else
        if pc < 16 then
         if pc = 14 then tz_istore 16 5 else dead
        else
         if pc = 16 then tz_iload 18 5 else dead
    else
     if pc < 29 then
      if pc < 23 then
       if pc < 19 then
        if pc = 18 then tz_aload 19 0 else dead
       else
        if pc < 22 then
         if pc = 19 then tz_getf 22 7 1 1 else dead
        else
         if pc = 22 then tz_iload 23 3 else dead
      else
       if pc < 25 then
        if pc = 23 then tz_const 25 (.int (nI 11)) else dead
       else
        if pc < 28 then
         if pc = 25 then tz_pureS 28 2 P_Mo_at f_Mo_at else dead
        else
         if pc = 28 then tz_iaload 29 else dead
     else
      if pc < 36 then
       if pc < 32 then
        if pc = 29 then tz_icmp 32 55 (fun a b => b ≤ a) else dead
       else
        if pc < 33 then
         if pc = 32 then tz_aload 33 0 else dead
        else
         if pc = 33 then tz_getf 36 7 1 1 else dead
      else
       if pc < 37 then
        if pc = 36 then tz_iload 37 3 else dead
       else
        if pc < 39 then
         if pc = 37 then tz_iload 39 5 else dead
        else
         if pc = 39 then tz_const 40 (.int (nI 2)) else dead
   else
    if pc < 67 then
     if pc < 55 then
      if pc < 46 then
       if pc < 43 then
        if pc = 40 then tz_pureS 43 3 P_Mo_map f_Mo_map else dead
       else
        if pc < 44 then
         if pc = 43 then tz_iaload 44 else dead
        else
         if pc = 44 then tz_iload 46 4 else dead
      else
       if pc < 49 then
        if pc = 46 then tz_icmp 49 55 (fun a b => a = b) else dead
       else
        if pc < 52 then
         if pc = 49 then tz_iinc 52 5 (nI 1) else dead
        else
         if pc = 52 then tz_goto 16 else dead
     else
      if pc < 61 then
       if pc < 57 then
        if pc = 55 then tz_iload 57 5 else dead
       else
        if pc < 58 then
         if pc = 57 then tz_aload 58 0 else dead
        else
         if pc = 58 then tz_getf 61 7 1 1 else dead
      else
       if pc < 62 then
        if pc = 61 then tz_iload 62 3 else dead
       else
        if pc < 64 then
         if pc = 62 then tz_const 64 (.int (nI 11)) else dead
        else
         if pc = 64 then tz_pureS 67 2 P_Mo_at f_Mo_at else dead
    else
     if pc < 76 then
      if pc < 73 then
       if pc < 68 then
        if pc = 67 then tz_iaload 68 else dead
       else
        if pc < 71 then
         if pc = 68 then tz_icmp 71 74 (fun a b => ¬ a = b) else dead
        else
         if pc = 71 then tz_const 73 (.int ((-2))) else dead
      else
       if pc < 74 then
        if pc = 73 then tz_iret else dead
       else
        if pc < 75 then
         if pc = 74 then tz_aload 75 0 else dead
        else
         if pc = 75 then tz_iload 76 3 else dead
     else
      if pc < 84 then
       if pc < 78 then
        if pc = 76 then tz_iload 78 5 else dead
       else
        if pc < 81 then
         if pc = 78 then tz_pureV 81 2 7 P_Mo_passesFilter f_Mo_passesFilter else dead
        else
         if pc = 81 then tz_if 84 87 (fun a => ¬ a = 0) else dead
      else
       if pc < 86 then
        if pc = 84 then tz_const 86 (.int ((-3))) else dead
       else
        if pc < 87 then
         if pc = 86 then tz_iret else dead
        else
         if pc = 87 then tz_aload 88 0 else dead
  else
   if pc < 133 then
    if pc < 110 then
     if pc < 99 then
      if pc < 94 then
       if pc < 91 then
        if pc = 88 then tz_getf 91 7 1 1 else dead
       else
        if pc < 92 then
         if pc = 91 then tz_iload 92 3 else dead
        else
         if pc = 92 then tz_iload 94 5 else dead
      else
       if pc < 95 then
        if pc = 94 then tz_const 95 (.int (nI 5)) else dead
       else
        if pc < 98 then
         if pc = 95 then tz_pureS 98 3 P_Mo_map f_Mo_map else dead
        else
         if pc = 98 then tz_aload 99 0 else dead
     else
      if pc < 105 then
       if pc < 102 then
        if pc = 99 then tz_getf 102 7 1 1 else dead
       else
        if pc < 103 then
         if pc = 102 then tz_iload 103 3 else dead
        else
         if pc = 103 then tz_const 105 (.int (nI 8)) else dead
      else
       if pc < 108 then
        if pc = 105 then tz_pureS 108 2 P_Mo_at f_Mo_at else dead
       else
        if pc < 109 then
         if pc = 108 then tz_iaload 109 else dead
        else
         if pc = 109 then tz_const 110 (.int (nI 1)) else dead
    else
     if pc < 122 then
      if pc < 117 then
       if pc < 113 then
        if pc = 110 then tz_icmp 113 122 (fun a b => ¬ a = b) else dead
       else
        if pc < 114 then
         if pc = 113 then tz_aload 114 0 else dead
        else
         if pc = 114 then tz_getf 117 7 1 1 else dead
      else
       if pc < 118 then
        if pc = 117 then tz_const 118 (.int (nI 0)) else dead
       else
        if pc < 119 then
         if pc = 118 then tz_iaload 119 else dead
        else
         if pc = 119 then tz_goto 134 else dead
     else
      if pc < 127 then
       if pc < 123 then
        if pc = 122 then tz_aload 123 0 else dead
       else
        if pc < 126 then
         if pc = 123 then tz_getf 126 7 1 1 else dead
        else
         if pc = 126 then tz_iload 127 3 else dead
      else
       if pc < 129 then
        if pc = 127 then tz_iload 129 5 else dead
       else
        if pc < 130 then
         if pc = 129 then tz_const 130 (.int (nI 5)) else dead
        else
         if pc = 130 then tz_pureS 133 3 P_Mo_map f_Mo_map else dead
   else
    if pc < 153 then
     if pc < 142 then
      if pc < 136 then
       if pc < 134 then
        if pc = 133 then tz_iaload 134 else dead
       else
        if pc < 135 then
         if pc = 134 then tz_iastore 135 else dead
        else
         if pc = 135 then tz_aload 136 0 else dead
      else
       if pc < 139 then
        if pc = 136 then tz_getf 139 7 1 1 else dead
       else
        if pc < 140 then
         if pc = 139 then tz_iload 140 3 else dead
        else
         if pc = 140 then tz_iload 142 5 else dead
     else
      if pc < 147 then
       if pc < 143 then
        if pc = 142 then tz_const 143 (.int (nI 1)) else dead
       else
        if pc < 146 then
         if pc = 143 then tz_pureS 146 3 P_Mo_map f_Mo_map else dead
        else
         if pc = 146 then tz_iaload 147 else dead
      else
       if pc < 149 then
        if pc = 147 then tz_istore 149 4 else dead
       else
        if pc < 150 then
         if pc = 149 then tz_aload 150 0 else dead
        else
         if pc = 150 then tz_getf 153 7 1 1 else dead
    else
     if pc < 162 then
      if pc < 157 then
       if pc < 154 then
        if pc = 153 then tz_iload 154 3 else dead
       else
        if pc < 156 then
         if pc = 154 then tz_iload 156 5 else dead
        else
         if pc = 156 then tz_const 157 (.int (nI 0)) else dead
      else
       if pc < 160 then
        if pc = 157 then tz_pureS 160 3 P_Mo_map f_Mo_map else dead
       else
        if pc < 161 then
         if pc = 160 then tz_iaload 161 else dead
        else
         if pc = 161 then tz_istore 162 3 else dead
     else
      if pc < 167 then
       if pc < 165 then
        if pc = 162 then tz_goto 5 else dead
       else
        if pc < 166 then
         if pc = 165 then tz_aload 166 0 else dead
        else
         if pc = 166 then tz_iload 167 3 else dead
      else
       if pc < 169 then
        if pc = 167 then tz_iload 169 4 else dead
       else
        if pc < 172 then
         if pc = 169 then tz_callV l G 172 M_Mo_deliver 2 7 else dead
        else
         if pc = 172 then tz_iret else dead
set_option maxRecDepth 100000 in
theorem T_Mo_comesIn (l : Launch) (G : Gc) : TabOK l G M_Mo_comesIn (k_Mo_comesIn l G) := by
  intro pc
  unfold k_Mo_comesIn
  exact
   (sd_br
    (sd_br
     (sd_br
      (sd_br
       (sd_br
        (sd_br
         (sd_lf (sd_iload_n (k := 1) (by decide +kernel : decode prog_9_method_43_code 0 = .ok (.iload_n 1, 1))))
         (sd_lf (sd_istore_n (k := 3) (by decide +kernel : decode prog_9_method_43_code 1 = .ok (.istore_n 3, 1)))))
        (sd_br
         (sd_lf (sd_iload_n (k := 2) (by decide +kernel : decode prog_9_method_43_code 2 = .ok (.iload_n 2, 1))))
         (sd_br
          (sd_lf (sd_istore (by decide +kernel : decode prog_9_method_43_code 3 = .ok (.istore 4, 2))))
          (sd_lf (sd_aload_n (k := 0) (by decide +kernel : decode prog_9_method_43_code 5 = .ok (.aload_n 0, 1)))))))
       (sd_br
        (sd_br
         (sd_lf (sd_iload_n (k := 3) (by decide +kernel : decode prog_9_method_43_code 6 = .ok (.iload_n 3, 1))))
         (sd_br
          (sd_lf (sd_pureV (sd_callV (q := (RX7, TX7, 16)) (by decide +kernel : decode prog_9_method_43_code 7 = .ok (.invokevirtual 55, 3)) ok_Mo_isTranslator (gm 982 (by decide +kernel) rfl) (gm 984 (by decide +kernel) rfl) (gm 30 (by decide +kernel) rfl) rfl rfl (by decide +kernel) rfl rfl) c_Mo_isTranslator))
          (sd_lf (sd_if_eq (by decide +kernel : decode prog_9_method_43_code 10 = .ok (.ifCond .eq 155, 3)) (by decide +kernel)))))
        (sd_br
         (sd_lf (sd_iconst (by decide +kernel : decode prog_9_method_43_code 13 = .ok (.iconst 0, 1)) (by decide +kernel)))
         (sd_br
          (sd_lf (sd_istore (by decide +kernel : decode prog_9_method_43_code 14 = .ok (.istore 5, 2))))
          (sd_lf (sd_iload (by decide +kernel : decode prog_9_method_43_code 16 = .ok (.iload 5, 2))))))))
      (sd_br
       (sd_br
        (sd_br
         (sd_lf (sd_aload_n (k := 0) (by decide +kernel : decode prog_9_method_43_code 18 = .ok (.aload_n 0, 1))))
         (sd_br
          (sd_lf (sd_getf (q := (RX7, TX7, 16)) (by decide +kernel : decode prog_9_method_43_code 19 = .ok (.getfield 7, 3)) rfl (by decide +kernel) (gm 913 (by decide +kernel) rfl)))
          (sd_lf (sd_iload_n (k := 3) (by decide +kernel : decode prog_9_method_43_code 22 = .ok (.iload_n 3, 1))))))
        (sd_br
         (sd_lf (sd_bipush (by decide +kernel : decode prog_9_method_43_code 23 = .ok (.bipush 11, 2)) (by decide +kernel)))
         (sd_br
          (sd_lf (sd_pureS (sd_callS (by decide +kernel : decode prog_9_method_43_code 25 = .ok (.invokestatic 44, 3)) ok_Mo_at (gm 993 (by decide +kernel) rfl) (gm 994 (by decide +kernel) rfl) (by decide +kernel) rfl rfl) c_Mo_at))
          (sd_lf (sd_iaload (by decide +kernel : decode prog_9_method_43_code 28 = .ok (.iaload, 1)))))))
       (sd_br
        (sd_br
         (sd_lf (sd_icmp_ge (by decide +kernel : decode prog_9_method_43_code 29 = .ok (.if_icmp .ge 26, 3)) (by decide +kernel)))
         (sd_br
          (sd_lf (sd_aload_n (k := 0) (by decide +kernel : decode prog_9_method_43_code 32 = .ok (.aload_n 0, 1))))
          (sd_lf (sd_getf (q := (RX7, TX7, 16)) (by decide +kernel : decode prog_9_method_43_code 33 = .ok (.getfield 7, 3)) rfl (by decide +kernel) (gm 913 (by decide +kernel) rfl)))))
        (sd_br
         (sd_lf (sd_iload_n (k := 3) (by decide +kernel : decode prog_9_method_43_code 36 = .ok (.iload_n 3, 1))))
         (sd_br
          (sd_lf (sd_iload (by decide +kernel : decode prog_9_method_43_code 37 = .ok (.iload 5, 2))))
          (sd_lf (sd_iconst (by decide +kernel : decode prog_9_method_43_code 39 = .ok (.iconst 2, 1)) (by decide +kernel))))))))
     (sd_br
      (sd_br
       (sd_br
        (sd_br
         (sd_lf (sd_pureS (sd_callS (by decide +kernel : decode prog_9_method_43_code 40 = .ok (.invokestatic 73, 3)) ok_Mo_map (gm 1020 (by decide +kernel) rfl) (gm 1021 (by decide +kernel) rfl) (by decide +kernel) rfl rfl) c_Mo_map))
         (sd_br
          (sd_lf (sd_iaload (by decide +kernel : decode prog_9_method_43_code 43 = .ok (.iaload, 1))))
          (sd_lf (sd_iload (by decide +kernel : decode prog_9_method_43_code 44 = .ok (.iload 4, 2))))))
        (sd_br
         (sd_lf (sd_icmp_eq (by decide +kernel : decode prog_9_method_43_code 46 = .ok (.if_icmp .eq 9, 3)) (by decide +kernel)))
         (sd_br
          (sd_lf (sd_iinc (by decide +kernel : decode prog_9_method_43_code 49 = .ok (.iinc 5 1, 3)) (by decide +kernel)))
          (sd_lf (sd_goto (by decide +kernel : decode prog_9_method_43_code 52 = .ok (.goto (-36), 3)) (by decide +kernel))))))
       (sd_br
        (sd_br
         (sd_lf (sd_iload (by decide +kernel : decode prog_9_method_43_code 55 = .ok (.iload 5, 2))))
         (sd_br
          (sd_lf (sd_aload_n (k := 0) (by decide +kernel : decode prog_9_method_43_code 57 = .ok (.aload_n 0, 1))))
          (sd_lf (sd_getf (q := (RX7, TX7, 16)) (by decide +kernel : decode prog_9_method_43_code 58 = .ok (.getfield 7, 3)) rfl (by decide +kernel) (gm 913 (by decide +kernel) rfl)))))
        (sd_br
         (sd_lf (sd_iload_n (k := 3) (by decide +kernel : decode prog_9_method_43_code 61 = .ok (.iload_n 3, 1))))
         (sd_br
          (sd_lf (sd_bipush (by decide +kernel : decode prog_9_method_43_code 62 = .ok (.bipush 11, 2)) (by decide +kernel)))
          (sd_lf (sd_pureS (sd_callS (by decide +kernel : decode prog_9_method_43_code 64 = .ok (.invokestatic 44, 3)) ok_Mo_at (gm 993 (by decide +kernel) rfl) (gm 994 (by decide +kernel) rfl) (by decide +kernel) rfl rfl) c_Mo_at))))))
      (sd_br
       (sd_br
        (sd_br
         (sd_lf (sd_iaload (by decide +kernel : decode prog_9_method_43_code 67 = .ok (.iaload, 1))))
         (sd_br
          (sd_lf (sd_icmp_ne (by decide +kernel : decode prog_9_method_43_code 68 = .ok (.if_icmp .ne 6, 3)) (by decide +kernel)))
          (sd_lf (sd_bipush (by decide +kernel : decode prog_9_method_43_code 71 = .ok (.bipush (-2), 2)) (by decide +kernel)))))
        (sd_br
         (sd_lf (sd_iret (by decide +kernel : decode prog_9_method_43_code 73 = .ok (.ireturn, 1)) rfl))
         (sd_br
          (sd_lf (sd_aload_n (k := 0) (by decide +kernel : decode prog_9_method_43_code 74 = .ok (.aload_n 0, 1))))
          (sd_lf (sd_iload_n (k := 3) (by decide +kernel : decode prog_9_method_43_code 75 = .ok (.iload_n 3, 1)))))))
       (sd_br
        (sd_br
         (sd_lf (sd_iload (by decide +kernel : decode prog_9_method_43_code 76 = .ok (.iload 5, 2))))
         (sd_br
          (sd_lf (sd_pureV (sd_callV (q := (RX7, TX7, 16)) (by decide +kernel : decode prog_9_method_43_code 78 = .ok (.invokevirtual 150, 3)) ok_Mo_passesFilter (gm 1138 (by decide +kernel) rfl) (gm 1140 (by decide +kernel) rfl) (gm 54 (by decide +kernel) rfl) rfl rfl (by decide +kernel) rfl rfl) c_Mo_passesFilter))
          (sd_lf (sd_if_ne (by decide +kernel : decode prog_9_method_43_code 81 = .ok (.ifCond .ne 6, 3)) (by decide +kernel)))))
        (sd_br
         (sd_lf (sd_bipush (by decide +kernel : decode prog_9_method_43_code 84 = .ok (.bipush (-3), 2)) (by decide +kernel)))
         (sd_br
          (sd_lf (sd_iret (by decide +kernel : decode prog_9_method_43_code 86 = .ok (.ireturn, 1)) rfl))
          (sd_lf (sd_aload_n (k := 0) (by decide +kernel : decode prog_9_method_43_code 87 = .ok (.aload_n 0, 1))))))))))
    (sd_br
     (sd_br
      (sd_br
       (sd_br
        (sd_br
         (sd_lf (sd_getf (q := (RX7, TX7, 16)) (by decide +kernel : decode prog_9_method_43_code 88 = .ok (.getfield 7, 3)) rfl (by decide +kernel) (gm 913 (by decide +kernel) rfl)))
         (sd_br
          (sd_lf (sd_iload_n (k := 3) (by decide +kernel : decode prog_9_method_43_code 91 = .ok (.iload_n 3, 1))))
          (sd_lf (sd_iload (by decide +kernel : decode prog_9_method_43_code 92 = .ok (.iload 5, 2))))))
        (sd_br
         (sd_lf (sd_iconst (by decide +kernel : decode prog_9_method_43_code 94 = .ok (.iconst 5, 1)) (by decide +kernel)))
         (sd_br
          (sd_lf (sd_pureS (sd_callS (by decide +kernel : decode prog_9_method_43_code 95 = .ok (.invokestatic 73, 3)) ok_Mo_map (gm 1020 (by decide +kernel) rfl) (gm 1021 (by decide +kernel) rfl) (by decide +kernel) rfl rfl) c_Mo_map))
          (sd_lf (sd_aload_n (k := 0) (by decide +kernel : decode prog_9_method_43_code 98 = .ok (.aload_n 0, 1)))))))
       (sd_br
        (sd_br
         (sd_lf (sd_getf (q := (RX7, TX7, 16)) (by decide +kernel : decode prog_9_method_43_code 99 = .ok (.getfield 7, 3)) rfl (by decide +kernel) (gm 913 (by decide +kernel) rfl)))
         (sd_br
          (sd_lf (sd_iload_n (k := 3) (by decide +kernel : decode prog_9_method_43_code 102 = .ok (.iload_n 3, 1))))
          (sd_lf (sd_bipush (by decide +kernel : decode prog_9_method_43_code 103 = .ok (.bipush 8, 2)) (by decide +kernel)))))
        (sd_br
         (sd_lf (sd_pureS (sd_callS (by decide +kernel : decode prog_9_method_43_code 105 = .ok (.invokestatic 44, 3)) ok_Mo_at (gm 993 (by decide +kernel) rfl) (gm 994 (by decide +kernel) rfl) (by decide +kernel) rfl rfl) c_Mo_at))
         (sd_br
          (sd_lf (sd_iaload (by decide +kernel : decode prog_9_method_43_code 108 = .ok (.iaload, 1))))
          (sd_lf (sd_iconst (by decide +kernel : decode prog_9_method_43_code 109 = .ok (.iconst 1, 1)) (by decide +kernel)))))))
      (sd_br
       (sd_br
        (sd_br
         (sd_lf (sd_icmp_ne (by decide +kernel : decode prog_9_method_43_code 110 = .ok (.if_icmp .ne 12, 3)) (by decide +kernel)))
         (sd_br
          (sd_lf (sd_aload_n (k := 0) (by decide +kernel : decode prog_9_method_43_code 113 = .ok (.aload_n 0, 1))))
          (sd_lf (sd_getf (q := (RX7, TX7, 16)) (by decide +kernel : decode prog_9_method_43_code 114 = .ok (.getfield 7, 3)) rfl (by decide +kernel) (gm 913 (by decide +kernel) rfl)))))
        (sd_br
         (sd_lf (sd_iconst (by decide +kernel : decode prog_9_method_43_code 117 = .ok (.iconst 0, 1)) (by decide +kernel)))
         (sd_br
          (sd_lf (sd_iaload (by decide +kernel : decode prog_9_method_43_code 118 = .ok (.iaload, 1))))
          (sd_lf (sd_goto (by decide +kernel : decode prog_9_method_43_code 119 = .ok (.goto 15, 3)) (by decide +kernel))))))
       (sd_br
        (sd_br
         (sd_lf (sd_aload_n (k := 0) (by decide +kernel : decode prog_9_method_43_code 122 = .ok (.aload_n 0, 1))))
         (sd_br
          (sd_lf (sd_getf (q := (RX7, TX7, 16)) (by decide +kernel : decode prog_9_method_43_code 123 = .ok (.getfield 7, 3)) rfl (by decide +kernel) (gm 913 (by decide +kernel) rfl)))
          (sd_lf (sd_iload_n (k := 3) (by decide +kernel : decode prog_9_method_43_code 126 = .ok (.iload_n 3, 1))))))
        (sd_br
         (sd_lf (sd_iload (by decide +kernel : decode prog_9_method_43_code 127 = .ok (.iload 5, 2))))
         (sd_br
          (sd_lf (sd_iconst (by decide +kernel : decode prog_9_method_43_code 129 = .ok (.iconst 5, 1)) (by decide +kernel)))
          (sd_lf (sd_pureS (sd_callS (by decide +kernel : decode prog_9_method_43_code 130 = .ok (.invokestatic 73, 3)) ok_Mo_map (gm 1020 (by decide +kernel) rfl) (gm 1021 (by decide +kernel) rfl) (by decide +kernel) rfl rfl) c_Mo_map)))))))
     (sd_br
      (sd_br
       (sd_br
        (sd_br
         (sd_lf (sd_iaload (by decide +kernel : decode prog_9_method_43_code 133 = .ok (.iaload, 1))))
         (sd_br
          (sd_lf (sd_iastore (by decide +kernel : decode prog_9_method_43_code 134 = .ok (.iastore, 1))))
          (sd_lf (sd_aload_n (k := 0) (by decide +kernel : decode prog_9_method_43_code 135 = .ok (.aload_n 0, 1))))))
        (sd_br
         (sd_lf (sd_getf (q := (RX7, TX7, 16)) (by decide +kernel : decode prog_9_method_43_code 136 = .ok (.getfield 7, 3)) rfl (by decide +kernel) (gm 913 (by decide +kernel) rfl)))
         (sd_br
          (sd_lf (sd_iload_n (k := 3) (by decide +kernel : decode prog_9_method_43_code 139 = .ok (.iload_n 3, 1))))
          (sd_lf (sd_iload (by decide +kernel : decode prog_9_method_43_code 140 = .ok (.iload 5, 2)))))))
       (sd_br
        (sd_br
         (sd_lf (sd_iconst (by decide +kernel : decode prog_9_method_43_code 142 = .ok (.iconst 1, 1)) (by decide +kernel)))
         (sd_br
          (sd_lf (sd_pureS (sd_callS (by decide +kernel : decode prog_9_method_43_code 143 = .ok (.invokestatic 73, 3)) ok_Mo_map (gm 1020 (by decide +kernel) rfl) (gm 1021 (by decide +kernel) rfl) (by decide +kernel) rfl rfl) c_Mo_map))
          (sd_lf (sd_iaload (by decide +kernel : decode prog_9_method_43_code 146 = .ok (.iaload, 1))))))
        (sd_br
         (sd_lf (sd_istore (by decide +kernel : decode prog_9_method_43_code 147 = .ok (.istore 4, 2))))
         (sd_br
          (sd_lf (sd_aload_n (k := 0) (by decide +kernel : decode prog_9_method_43_code 149 = .ok (.aload_n 0, 1))))
          (sd_lf (sd_getf (q := (RX7, TX7, 16)) (by decide +kernel : decode prog_9_method_43_code 150 = .ok (.getfield 7, 3)) rfl (by decide +kernel) (gm 913 (by decide +kernel) rfl)))))))
      (sd_br
       (sd_br
        (sd_br
         (sd_lf (sd_iload_n (k := 3) (by decide +kernel : decode prog_9_method_43_code 153 = .ok (.iload_n 3, 1))))
         (sd_br
          (sd_lf (sd_iload (by decide +kernel : decode prog_9_method_43_code 154 = .ok (.iload 5, 2))))
          (sd_lf (sd_iconst (by decide +kernel : decode prog_9_method_43_code 156 = .ok (.iconst 0, 1)) (by decide +kernel)))))
        (sd_br
         (sd_lf (sd_pureS (sd_callS (by decide +kernel : decode prog_9_method_43_code 157 = .ok (.invokestatic 73, 3)) ok_Mo_map (gm 1020 (by decide +kernel) rfl) (gm 1021 (by decide +kernel) rfl) (by decide +kernel) rfl rfl) c_Mo_map))
         (sd_br
          (sd_lf (sd_iaload (by decide +kernel : decode prog_9_method_43_code 160 = .ok (.iaload, 1))))
          (sd_lf (sd_istore_n (k := 3) (by decide +kernel : decode prog_9_method_43_code 161 = .ok (.istore_n 3, 1)))))))
       (sd_br
        (sd_br
         (sd_lf (sd_goto (by decide +kernel : decode prog_9_method_43_code 162 = .ok (.goto (-157), 3)) (by decide +kernel)))
         (sd_br
          (sd_lf (sd_aload_n (k := 0) (by decide +kernel : decode prog_9_method_43_code 165 = .ok (.aload_n 0, 1))))
          (sd_lf (sd_iload_n (k := 3) (by decide +kernel : decode prog_9_method_43_code 166 = .ok (.iload_n 3, 1))))))
        (sd_br
         (sd_lf (sd_iload (by decide +kernel : decode prog_9_method_43_code 167 = .ok (.iload 4, 2))))
         (sd_br
          (sd_lf (sd_callV (q := (RX7, TX7, 16)) (by decide +kernel : decode prog_9_method_43_code 169 = .ok (.invokevirtual 153, 3)) ok_Mo_deliver (gm 1142 (by decide +kernel) rfl) (gm 1144 (by decide +kernel) rfl) (gm 55 (by decide +kernel) rfl) rfl rfl (by decide +kernel) rfl rfl))
          (sd_lf (sd_iret (by decide +kernel : decode prog_9_method_43_code 172 = .ok (.ireturn, 1)) rfl)))))))))
/-- a packet of (s, q) comes in at (n, p): the answer r and the numbers after it -/
def CinR (s q : Int32) : Nat → (Nat → Int32) → Int32 → Int32 → Int32 → (Nat → Int32) → Prop
  | 0, _, _, _, _, _ => False
  | f + 1, z, n, p, r, z' => (¬ TrZ z n ∧ ∃ k, n = nI k ∧ k < 10 ∧ r = nI k ∧ z' = delZ z k s q p) ∨
    (∃ t, n = nI t ∧ t < mny z ∧ z (16 + 16 * t) = nI 1 ∧ OwnOK z t ∧
      ((¬ HasP z t p ∧ r = (-2) ∧ z' = z) ∨
       (∃ i, i < own z t ∧ z (176 + 8 * (8 * t + i) + 2) = p ∧ (∀ j, j < i → ¬ z (176 + 8 * (8 * t + j) + 2) = p) ∧ KnwOK z t i ∧
         ((¬ pfZ z t i s q (knw z t i) ∧ r = (-3) ∧ z' = z) ∨
          (pfZ z t i s q (knw z t i) ∧ CinR s q f (upd z (176 + 8 * (8 * t + i) + 5) (if z (16 + 16 * t + 8) = nI 1 then z 0 else z (176 + 8 * (8 * t + i) + 5))) (z (176 + 8 * (8 * t + i) + 0)) (z (176 + 8 * (8 * t + i) + 1)) r z')))))
section
variable {l : Launch} {G : Gc}
theorem lp_ci1 {a zr t k : Nat} {x1 x2 p : Int32} {g : Nat → Int32} {h : AH} {Q : Po} (hm : MoS h a zr) (ht : t < 10) (ho : OwnOK g t) (hk : k ≤ own g t) (h0 : ∀ j, j < k → ¬ g (176 + 8 * (8 * t + j) + 2) = p) (hend : k = own g t ∨ g (176 + 8 * (8 * t + k) + 2) = p)
    (hQ : AWp l G M_Mo_comesIn 55 [some (.ref a), some (.int x1), some (.int x2), some (.int (nI t)), some (.int p), some (.int (nI k))] [] (zw h zr g) Q) : ∀ (d i : Nat), i + d = k → AWp l G M_Mo_comesIn 16 [some (.ref a), some (.int x1), some (.int x2), some (.int (nI t)), some (.int p), some (.int (nI i))] [] (zw h zr g) Q := by
  obtain ⟨h1, h2, h3, h4⟩ := id hm
  obtain ⟨o1, o2⟩ := id ho
  intro d
  induction d with
  | zero =>
    intro i e
    have ei : k = i := by omega
    subst ei
    by_cases c : own g t ≤ k
    · (obtain ⟨W9, hW9, hgo9⟩ := wp_ex (T_Mo_comesIn l G) [16, 55] _; refine hgo9 200 _ _ _ _ ?_; simp -implicitDefEqProofs (disch := omega) only [hW9, inl, gate, Xq, tz_const, tz_iload, tz_lload, tz_dload, tz_aload, tz_istore, tz_astore, tz_lstore, tz_dstore, tz_iinc, tz_i1, tz_i2, tz_i2z, tz_l2, tz_l2z, tz_i2l, tz_l2i, tz_lcmp, tz_i2d, tz_d2, tz_dcmp, tz_dup, tz_dup2, tz_pop, tz_if, tz_icmp, tz_null, tz_goto, tz_sw, tz_getf, tz_puti, tz_putz, tz_putr, tz_putl, tz_iaload, tz_baload, tz_laload, tz_aaload, tz_iastore, tz_bastore, tz_lastore, tz_aastore, tz_alen, tz_new, tz_newa, tz_oinit, tz_iret, tz_zret, tz_lret, tz_dret, tz_aret, tz_vret, tz_throw, tz_callS, tz_callV, tz_callI, tz_callR, tz_pureS, tz_pureV, tz_callVH, lg, lset, lkill, lst1, lst2, entL, isRf, is1, vl, va_rf_none, va_rf_some, isRf_rf, is1_rf, i0, i1, bI_eq0, bI_eq1, nm_em, nI_eqP, nI_leP, nI_ltP, nN_e1, nN_e2, nN_l1, nN_l2, nN_l3, nN_l4, nI_add, pk_mul, vp_inN, nI_cl, n01, n10, P_i, P_ii, P_iii, f_Mo_at, f_Mo_map, f_Mo_contact, f_Mo_within, f_Mo_isPort, f_Hp_endpoint, f_Hp_nodeOf, f_Hp_portOf, f_Ma_max, f_Ma_min, f_Hp_isSetting, popN, rok, a1, noX, swc, mL, if_true, if_false, ↓reduceIte, cond_true, cond_false, true_and, and_true, List.length_cons, List.length_nil, List.nil_append, List.cons_append, List.append_nil, Option.toList, Nat.reduceEqDiff, Bool.false_eq_true, reduceCtorEq, Nat.reduceAdd, Nat.reduceLT, Nat.reduceLeDiff, Nat.reduceSub, List.replicate, Nat.zero_add, Nat.lt_add_one, Nat.le_refl, Nat.zero_le, Nat.succ_ne_zero, not_false_eq_true, not_true_eq_false, false_implies, true_implies, forall_const, imp_self, true_or, or_true, eq_self, sI_zw, zw_zw, hI_zw, tg_zw, ln_zw, hR_zw, hL_zw, hN_zw, hM_zw, upd_s, upd_u, upd_ne, Classical.not_not, k_Mo_comesIn, h1, h2, h3, h4, o1, c]; try clear hgo9 hW9)
      exact hQ
    · have hp : g (176 + 8 * (8 * t + k) + 2) = p := by
        rcases hend with q | q
        · omega
        · exact q
      ((obtain ⟨W9, hW9, hgo9⟩ := wp_ex (T_Mo_comesIn l G) [16, 55] _; refine hgo9 200 _ _ _ _ ?_; simp -implicitDefEqProofs (disch := omega) only [hW9, inl, gate, Xq, tz_const, tz_iload, tz_lload, tz_dload, tz_aload, tz_istore, tz_astore, tz_lstore, tz_dstore, tz_iinc, tz_i1, tz_i2, tz_i2z, tz_l2, tz_l2z, tz_i2l, tz_l2i, tz_lcmp, tz_i2d, tz_d2, tz_dcmp, tz_dup, tz_dup2, tz_pop, tz_if, tz_icmp, tz_null, tz_goto, tz_sw, tz_getf, tz_puti, tz_putz, tz_putr, tz_putl, tz_iaload, tz_baload, tz_laload, tz_aaload, tz_iastore, tz_bastore, tz_lastore, tz_aastore, tz_alen, tz_new, tz_newa, tz_oinit, tz_iret, tz_zret, tz_lret, tz_dret, tz_aret, tz_vret, tz_throw, tz_callS, tz_callV, tz_callI, tz_callR, tz_pureS, tz_pureV, tz_callVH, lg, lset, lkill, lst1, lst2, entL, isRf, is1, vl, va_rf_none, va_rf_some, isRf_rf, is1_rf, i0, i1, bI_eq0, bI_eq1, nm_em, nI_eqP, nI_leP, nI_ltP, nN_e1, nN_e2, nN_l1, nN_l2, nN_l3, nN_l4, nI_add, pk_mul, vp_inN, nI_cl, n01, n10, P_i, P_ii, P_iii, f_Mo_at, f_Mo_map, f_Mo_contact, f_Mo_within, f_Mo_isPort, f_Hp_endpoint, f_Hp_nodeOf, f_Hp_portOf, f_Ma_max, f_Ma_min, f_Hp_isSetting, popN, rok, a1, noX, swc, mL, if_true, if_false, ↓reduceIte, cond_true, cond_false, true_and, and_true, List.length_cons, List.length_nil, List.nil_append, List.cons_append, List.append_nil, Option.toList, Nat.reduceEqDiff, Bool.false_eq_true, reduceCtorEq, Nat.reduceAdd, Nat.reduceLT, Nat.reduceLeDiff, Nat.reduceSub, List.replicate, Nat.zero_add, Nat.lt_add_one, Nat.le_refl, Nat.zero_le, Nat.succ_ne_zero, not_false_eq_true, not_true_eq_false, false_implies, true_implies, forall_const, imp_self, true_or, or_true, eq_self, sI_zw, zw_zw, hI_zw, tg_zw, ln_zw, hR_zw, hL_zw, hN_zw, hM_zw, upd_s, upd_u, upd_ne, Classical.not_not, k_Mo_comesIn, h1, h2, h3, h4, o1, c, hp]; try clear hgo9 hW9); try (obtain ⟨W9, hW9, hgo9⟩ := wp_ex (T_Mo_comesIn l G) [16, 55] _; refine hgo9 200 _ _ _ _ ?_; simp -implicitDefEqProofs (disch := omega) only [hW9, inl, gate, Xq, tz_const, tz_iload, tz_lload, tz_dload, tz_aload, tz_istore, tz_astore, tz_lstore, tz_dstore, tz_iinc, tz_i1, tz_i2, tz_i2z, tz_l2, tz_l2z, tz_i2l, tz_l2i, tz_lcmp, tz_i2d, tz_d2, tz_dcmp, tz_dup, tz_dup2, tz_pop, tz_if, tz_icmp, tz_null, tz_goto, tz_sw, tz_getf, tz_puti, tz_putz, tz_putr, tz_putl, tz_iaload, tz_baload, tz_laload, tz_aaload, tz_iastore, tz_bastore, tz_lastore, tz_aastore, tz_alen, tz_new, tz_newa, tz_oinit, tz_iret, tz_zret, tz_lret, tz_dret, tz_aret, tz_vret, tz_throw, tz_callS, tz_callV, tz_callI, tz_callR, tz_pureS, tz_pureV, tz_callVH, lg, lset, lkill, lst1, lst2, entL, isRf, is1, vl, va_rf_none, va_rf_some, isRf_rf, is1_rf, i0, i1, bI_eq0, bI_eq1, nm_em, nI_eqP, nI_leP, nI_ltP, nN_e1, nN_e2, nN_l1, nN_l2, nN_l3, nN_l4, nI_add, pk_mul, vp_inN, nI_cl, n01, n10, P_i, P_ii, P_iii, f_Mo_at, f_Mo_map, f_Mo_contact, f_Mo_within, f_Mo_isPort, f_Hp_endpoint, f_Hp_nodeOf, f_Hp_portOf, f_Ma_max, f_Ma_min, f_Hp_isSetting, popN, rok, a1, noX, swc, mL, if_true, if_false, ↓reduceIte, cond_true, cond_false, true_and, and_true, List.length_cons, List.length_nil, List.nil_append, List.cons_append, List.append_nil, Option.toList, Nat.reduceEqDiff, Bool.false_eq_true, reduceCtorEq, Nat.reduceAdd, Nat.reduceLT, Nat.reduceLeDiff, Nat.reduceSub, List.replicate, Nat.zero_add, Nat.lt_add_one, Nat.le_refl, Nat.zero_le, Nat.succ_ne_zero, not_false_eq_true, not_true_eq_false, false_implies, true_implies, forall_const, imp_self, true_or, or_true, eq_self, sI_zw, zw_zw, hI_zw, tg_zw, ln_zw, hR_zw, hL_zw, hN_zw, hM_zw, upd_s, upd_u, upd_ne, Classical.not_not, k_Mo_comesIn, h1, h2, h3, h4, o1, c, hp]; try clear hgo9 hW9))
      exact hQ
  | succ d ih =>
    intro i e
    have c : ¬ own g t ≤ i := by omega
    have hp := h0 i (by omega)
    ((obtain ⟨W9, hW9, hgo9⟩ := wp_ex (T_Mo_comesIn l G) [16, 55] _; refine hgo9 200 _ _ _ _ ?_; simp -implicitDefEqProofs (disch := omega) only [hW9, inl, gate, Xq, tz_const, tz_iload, tz_lload, tz_dload, tz_aload, tz_istore, tz_astore, tz_lstore, tz_dstore, tz_iinc, tz_i1, tz_i2, tz_i2z, tz_l2, tz_l2z, tz_i2l, tz_l2i, tz_lcmp, tz_i2d, tz_d2, tz_dcmp, tz_dup, tz_dup2, tz_pop, tz_if, tz_icmp, tz_null, tz_goto, tz_sw, tz_getf, tz_puti, tz_putz, tz_putr, tz_putl, tz_iaload, tz_baload, tz_laload, tz_aaload, tz_iastore, tz_bastore, tz_lastore, tz_aastore, tz_alen, tz_new, tz_newa, tz_oinit, tz_iret, tz_zret, tz_lret, tz_dret, tz_aret, tz_vret, tz_throw, tz_callS, tz_callV, tz_callI, tz_callR, tz_pureS, tz_pureV, tz_callVH, lg, lset, lkill, lst1, lst2, entL, isRf, is1, vl, va_rf_none, va_rf_some, isRf_rf, is1_rf, i0, i1, bI_eq0, bI_eq1, nm_em, nI_eqP, nI_leP, nI_ltP, nN_e1, nN_e2, nN_l1, nN_l2, nN_l3, nN_l4, nI_add, pk_mul, vp_inN, nI_cl, n01, n10, P_i, P_ii, P_iii, f_Mo_at, f_Mo_map, f_Mo_contact, f_Mo_within, f_Mo_isPort, f_Hp_endpoint, f_Hp_nodeOf, f_Hp_portOf, f_Ma_max, f_Ma_min, f_Hp_isSetting, popN, rok, a1, noX, swc, mL, if_true, if_false, ↓reduceIte, cond_true, cond_false, true_and, and_true, List.length_cons, List.length_nil, List.nil_append, List.cons_append, List.append_nil, Option.toList, Nat.reduceEqDiff, Bool.false_eq_true, reduceCtorEq, Nat.reduceAdd, Nat.reduceLT, Nat.reduceLeDiff, Nat.reduceSub, List.replicate, Nat.zero_add, Nat.lt_add_one, Nat.le_refl, Nat.zero_le, Nat.succ_ne_zero, not_false_eq_true, not_true_eq_false, false_implies, true_implies, forall_const, imp_self, true_or, or_true, eq_self, sI_zw, zw_zw, hI_zw, tg_zw, ln_zw, hR_zw, hL_zw, hN_zw, hM_zw, upd_s, upd_u, upd_ne, Classical.not_not, k_Mo_comesIn, h1, h2, h3, h4, o1, c, hp]; try clear hgo9 hW9); try (obtain ⟨W9, hW9, hgo9⟩ := wp_ex (T_Mo_comesIn l G) [16, 55] _; refine hgo9 200 _ _ _ _ ?_; simp -implicitDefEqProofs (disch := omega) only [hW9, inl, gate, Xq, tz_const, tz_iload, tz_lload, tz_dload, tz_aload, tz_istore, tz_astore, tz_lstore, tz_dstore, tz_iinc, tz_i1, tz_i2, tz_i2z, tz_l2, tz_l2z, tz_i2l, tz_l2i, tz_lcmp, tz_i2d, tz_d2, tz_dcmp, tz_dup, tz_dup2, tz_pop, tz_if, tz_icmp, tz_null, tz_goto, tz_sw, tz_getf, tz_puti, tz_putz, tz_putr, tz_putl, tz_iaload, tz_baload, tz_laload, tz_aaload, tz_iastore, tz_bastore, tz_lastore, tz_aastore, tz_alen, tz_new, tz_newa, tz_oinit, tz_iret, tz_zret, tz_lret, tz_dret, tz_aret, tz_vret, tz_throw, tz_callS, tz_callV, tz_callI, tz_callR, tz_pureS, tz_pureV, tz_callVH, lg, lset, lkill, lst1, lst2, entL, isRf, is1, vl, va_rf_none, va_rf_some, isRf_rf, is1_rf, i0, i1, bI_eq0, bI_eq1, nm_em, nI_eqP, nI_leP, nI_ltP, nN_e1, nN_e2, nN_l1, nN_l2, nN_l3, nN_l4, nI_add, pk_mul, vp_inN, nI_cl, n01, n10, P_i, P_ii, P_iii, f_Mo_at, f_Mo_map, f_Mo_contact, f_Mo_within, f_Mo_isPort, f_Hp_endpoint, f_Hp_nodeOf, f_Hp_portOf, f_Ma_max, f_Ma_min, f_Hp_isSetting, popN, rok, a1, noX, swc, mL, if_true, if_false, ↓reduceIte, cond_true, cond_false, true_and, and_true, List.length_cons, List.length_nil, List.nil_append, List.cons_append, List.append_nil, Option.toList, Nat.reduceEqDiff, Bool.false_eq_true, reduceCtorEq, Nat.reduceAdd, Nat.reduceLT, Nat.reduceLeDiff, Nat.reduceSub, List.replicate, Nat.zero_add, Nat.lt_add_one, Nat.le_refl, Nat.zero_le, Nat.succ_ne_zero, not_false_eq_true, not_true_eq_false, false_implies, true_implies, forall_const, imp_self, true_or, or_true, eq_self, sI_zw, zw_zw, hI_zw, tg_zw, ln_zw, hR_zw, hL_zw, hN_zw, hM_zw, upd_s, upd_u, upd_ne, Classical.not_not, k_Mo_comesIn, h1, h2, h3, h4, o1, c, hp]; try clear hgo9 hW9); try (obtain ⟨W9, hW9, hgo9⟩ := wp_ex (T_Mo_comesIn l G) [16, 55] _; refine hgo9 200 _ _ _ _ ?_; simp -implicitDefEqProofs (disch := omega) only [hW9, inl, gate, Xq, tz_const, tz_iload, tz_lload, tz_dload, tz_aload, tz_istore, tz_astore, tz_lstore, tz_dstore, tz_iinc, tz_i1, tz_i2, tz_i2z, tz_l2, tz_l2z, tz_i2l, tz_l2i, tz_lcmp, tz_i2d, tz_d2, tz_dcmp, tz_dup, tz_dup2, tz_pop, tz_if, tz_icmp, tz_null, tz_goto, tz_sw, tz_getf, tz_puti, tz_putz, tz_putr, tz_putl, tz_iaload, tz_baload, tz_laload, tz_aaload, tz_iastore, tz_bastore, tz_lastore, tz_aastore, tz_alen, tz_new, tz_newa, tz_oinit, tz_iret, tz_zret, tz_lret, tz_dret, tz_aret, tz_vret, tz_throw, tz_callS, tz_callV, tz_callI, tz_callR, tz_pureS, tz_pureV, tz_callVH, lg, lset, lkill, lst1, lst2, entL, isRf, is1, vl, va_rf_none, va_rf_some, isRf_rf, is1_rf, i0, i1, bI_eq0, bI_eq1, nm_em, nI_eqP, nI_leP, nI_ltP, nN_e1, nN_e2, nN_l1, nN_l2, nN_l3, nN_l4, nI_add, pk_mul, vp_inN, nI_cl, n01, n10, P_i, P_ii, P_iii, f_Mo_at, f_Mo_map, f_Mo_contact, f_Mo_within, f_Mo_isPort, f_Hp_endpoint, f_Hp_nodeOf, f_Hp_portOf, f_Ma_max, f_Ma_min, f_Hp_isSetting, popN, rok, a1, noX, swc, mL, if_true, if_false, ↓reduceIte, cond_true, cond_false, true_and, and_true, List.length_cons, List.length_nil, List.nil_append, List.cons_append, List.append_nil, Option.toList, Nat.reduceEqDiff, Bool.false_eq_true, reduceCtorEq, Nat.reduceAdd, Nat.reduceLT, Nat.reduceLeDiff, Nat.reduceSub, List.replicate, Nat.zero_add, Nat.lt_add_one, Nat.le_refl, Nat.zero_le, Nat.succ_ne_zero, not_false_eq_true, not_true_eq_false, false_implies, true_implies, forall_const, imp_self, true_or, or_true, eq_self, sI_zw, zw_zw, hI_zw, tg_zw, ln_zw, hR_zw, hL_zw, hN_zw, hM_zw, upd_s, upd_u, upd_ne, Classical.not_not, k_Mo_comesIn, h1, h2, h3, h4, o1, c, hp]; try clear hgo9 hW9))
    exact ih (i + 1) (by omega)
theorem lp_ci {a zr : Nat} {x1 x2 s q r : Int32} {z' : Nat → Int32} {h : AH} {Q : Po} (hm : MoS h a zr) (hs : hI h a 10 = s) (hq : hI h a 11 = q) (hQ : Q (.inl (some (.int r))) (zw h zr z')) : ∀ (f : Nat) (g : Nat → Int32) (n p : Int32) (v : Option Value), Z10 g → CinR s q f g n p r z' → AWp l G M_Mo_comesIn 5 [some (.ref a), some (.int x1), some (.int x2), some (.int n), some (.int p), v] [] (zw h zr g) Q := by
  have ra := rd_ne hm.ne'
  obtain ⟨h1, h2, h3, h4⟩ := id hm
  intro f
  induction f with
  | zero => exact fun g n p v hz hr => hr.elim
  | succ f ih =>
    intro g n p v hz hr
    obtain ⟨z1, z2⟩ := hz.at
    have hzF : zF (zw h zr g) a = g := by rw [(hm.zw (b := zr) (f := g)).zF, hI_zw]
    have hP : P_Mo_isTranslator [.ref a, .int n] (zw h zr g) := ⟨zr, hm.zw, by rw [hI_zw]; exact hz⟩
    rcases hr with ⟨c, k, rfl, hk, er, ez⟩ | ⟨t, rfl, ht, tk, ho, hr⟩
    · ((obtain ⟨W9, hW9, hgo9⟩ := wp_ex (T_Mo_comesIn l G) [5, 16] _; refine hgo9 200 _ _ _ _ ?_; simp -implicitDefEqProofs (disch := omega) only [hW9, inl, gate, Xq, tz_const, tz_iload, tz_lload, tz_dload, tz_aload, tz_istore, tz_astore, tz_lstore, tz_dstore, tz_iinc, tz_i1, tz_i2, tz_i2z, tz_l2, tz_l2z, tz_i2l, tz_l2i, tz_lcmp, tz_i2d, tz_d2, tz_dcmp, tz_dup, tz_dup2, tz_pop, tz_if, tz_icmp, tz_null, tz_goto, tz_sw, tz_getf, tz_puti, tz_putz, tz_putr, tz_putl, tz_iaload, tz_baload, tz_laload, tz_aaload, tz_iastore, tz_bastore, tz_lastore, tz_aastore, tz_alen, tz_new, tz_newa, tz_oinit, tz_iret, tz_zret, tz_lret, tz_dret, tz_aret, tz_vret, tz_throw, tz_callS, tz_callV, tz_callI, tz_callR, tz_pureS, tz_pureV, tz_callVH, lg, lset, lkill, lst1, lst2, entL, isRf, is1, vl, va_rf_none, va_rf_some, isRf_rf, is1_rf, i0, i1, bI_eq0, bI_eq1, nm_em, nI_eqP, nI_leP, nI_ltP, nN_e1, nN_e2, nN_l1, nN_l2, nN_l3, nN_l4, nI_add, pk_mul, vp_inN, nI_cl, n01, n10, P_i, P_ii, P_iii, f_Mo_at, f_Mo_map, f_Mo_contact, f_Mo_within, f_Mo_isPort, f_Hp_endpoint, f_Hp_nodeOf, f_Hp_portOf, f_Ma_max, f_Ma_min, f_Hp_isSetting, popN, rok, a1, noX, swc, mL, if_true, if_false, ↓reduceIte, cond_true, cond_false, true_and, and_true, List.length_cons, List.length_nil, List.nil_append, List.cons_append, List.append_nil, Option.toList, Nat.reduceEqDiff, Bool.false_eq_true, reduceCtorEq, Nat.reduceAdd, Nat.reduceLT, Nat.reduceLeDiff, Nat.reduceSub, List.replicate, Nat.zero_add, Nat.lt_add_one, Nat.le_refl, Nat.zero_le, Nat.succ_ne_zero, not_false_eq_true, not_true_eq_false, false_implies, true_implies, forall_const, imp_self, true_or, or_true, eq_self, sI_zw, zw_zw, hI_zw, tg_zw, ln_zw, hR_zw, hL_zw, hN_zw, hM_zw, upd_s, upd_u, upd_ne, Classical.not_not, k_Mo_comesIn, h1, h2, h3, h4, hP, f_Mo_isTranslator, hzF, c]; try clear hgo9 hW9); try (obtain ⟨W9, hW9, hgo9⟩ := wp_ex (T_Mo_comesIn l G) [5, 16] _; refine hgo9 200 _ _ _ _ ?_; simp -implicitDefEqProofs (disch := omega) only [hW9, inl, gate, Xq, tz_const, tz_iload, tz_lload, tz_dload, tz_aload, tz_istore, tz_astore, tz_lstore, tz_dstore, tz_iinc, tz_i1, tz_i2, tz_i2z, tz_l2, tz_l2z, tz_i2l, tz_l2i, tz_lcmp, tz_i2d, tz_d2, tz_dcmp, tz_dup, tz_dup2, tz_pop, tz_if, tz_icmp, tz_null, tz_goto, tz_sw, tz_getf, tz_puti, tz_putz, tz_putr, tz_putl, tz_iaload, tz_baload, tz_laload, tz_aaload, tz_iastore, tz_bastore, tz_lastore, tz_aastore, tz_alen, tz_new, tz_newa, tz_oinit, tz_iret, tz_zret, tz_lret, tz_dret, tz_aret, tz_vret, tz_throw, tz_callS, tz_callV, tz_callI, tz_callR, tz_pureS, tz_pureV, tz_callVH, lg, lset, lkill, lst1, lst2, entL, isRf, is1, vl, va_rf_none, va_rf_some, isRf_rf, is1_rf, i0, i1, bI_eq0, bI_eq1, nm_em, nI_eqP, nI_leP, nI_ltP, nN_e1, nN_e2, nN_l1, nN_l2, nN_l3, nN_l4, nI_add, pk_mul, vp_inN, nI_cl, n01, n10, P_i, P_ii, P_iii, f_Mo_at, f_Mo_map, f_Mo_contact, f_Mo_within, f_Mo_isPort, f_Hp_endpoint, f_Hp_nodeOf, f_Hp_portOf, f_Ma_max, f_Ma_min, f_Hp_isSetting, popN, rok, a1, noX, swc, mL, if_true, if_false, ↓reduceIte, cond_true, cond_false, true_and, and_true, List.length_cons, List.length_nil, List.nil_append, List.cons_append, List.append_nil, Option.toList, Nat.reduceEqDiff, Bool.false_eq_true, reduceCtorEq, Nat.reduceAdd, Nat.reduceLT, Nat.reduceLeDiff, Nat.reduceSub, List.replicate, Nat.zero_add, Nat.lt_add_one, Nat.le_refl, Nat.zero_le, Nat.succ_ne_zero, not_false_eq_true, not_true_eq_false, false_implies, true_implies, forall_const, imp_self, true_or, or_true, eq_self, sI_zw, zw_zw, hI_zw, tg_zw, ln_zw, hR_zw, hL_zw, hN_zw, hM_zw, upd_s, upd_u, upd_ne, Classical.not_not, k_Mo_comesIn, h1, h2, h3, h4, hP, f_Mo_isTranslator, hzF, c]; try clear hgo9 hW9))
      refine c_Mo_deliver a zr k s q p _ _ hm.zw hk (by rw [ra]; exact hs) (by rw [ra]; exact hq) ?_
      simp only [aft]
      (obtain ⟨W9, hW9, hgo9⟩ := wp_ex (T_Mo_comesIn l G) [5, 16] _; refine hgo9 200 _ _ _ _ ?_; simp -implicitDefEqProofs (disch := omega) only [hW9, inl, gate, Xq, tz_const, tz_iload, tz_lload, tz_dload, tz_aload, tz_istore, tz_astore, tz_lstore, tz_dstore, tz_iinc, tz_i1, tz_i2, tz_i2z, tz_l2, tz_l2z, tz_i2l, tz_l2i, tz_lcmp, tz_i2d, tz_d2, tz_dcmp, tz_dup, tz_dup2, tz_pop, tz_if, tz_icmp, tz_null, tz_goto, tz_sw, tz_getf, tz_puti, tz_putz, tz_putr, tz_putl, tz_iaload, tz_baload, tz_laload, tz_aaload, tz_iastore, tz_bastore, tz_lastore, tz_aastore, tz_alen, tz_new, tz_newa, tz_oinit, tz_iret, tz_zret, tz_lret, tz_dret, tz_aret, tz_vret, tz_throw, tz_callS, tz_callV, tz_callI, tz_callR, tz_pureS, tz_pureV, tz_callVH, lg, lset, lkill, lst1, lst2, entL, isRf, is1, vl, va_rf_none, va_rf_some, isRf_rf, is1_rf, i0, i1, bI_eq0, bI_eq1, nm_em, nI_eqP, nI_leP, nI_ltP, nN_e1, nN_e2, nN_l1, nN_l2, nN_l3, nN_l4, nI_add, pk_mul, vp_inN, nI_cl, n01, n10, P_i, P_ii, P_iii, f_Mo_at, f_Mo_map, f_Mo_contact, f_Mo_within, f_Mo_isPort, f_Hp_endpoint, f_Hp_nodeOf, f_Hp_portOf, f_Ma_max, f_Ma_min, f_Hp_isSetting, popN, rok, a1, noX, swc, mL, if_true, if_false, ↓reduceIte, cond_true, cond_false, true_and, and_true, List.length_cons, List.length_nil, List.nil_append, List.cons_append, List.append_nil, Option.toList, Nat.reduceEqDiff, Bool.false_eq_true, reduceCtorEq, Nat.reduceAdd, Nat.reduceLT, Nat.reduceLeDiff, Nat.reduceSub, List.replicate, Nat.zero_add, Nat.lt_add_one, Nat.le_refl, Nat.zero_le, Nat.succ_ne_zero, not_false_eq_true, not_true_eq_false, false_implies, true_implies, forall_const, imp_self, true_or, or_true, eq_self, sI_zw, zw_zw, hI_zw, tg_zw, ln_zw, hR_zw, hL_zw, hN_zw, hM_zw, upd_s, upd_u, upd_ne, Classical.not_not, k_Mo_comesIn, h1, h2, h3, h4]; try clear hgo9 hW9)
      subst er ez
      exact hQ
    · have c : TrZ g (nI t) := ⟨t, ht, rfl, tk⟩
      have hcl : (nI t).toNatClampNeg = t := nI_clamp (by omega)
      obtain ⟨o1, o2⟩ := id ho
      ((obtain ⟨W9, hW9, hgo9⟩ := wp_ex (T_Mo_comesIn l G) [5, 16] _; refine hgo9 200 _ _ _ _ ?_; simp -implicitDefEqProofs (disch := omega) only [hW9, inl, gate, Xq, tz_const, tz_iload, tz_lload, tz_dload, tz_aload, tz_istore, tz_astore, tz_lstore, tz_dstore, tz_iinc, tz_i1, tz_i2, tz_i2z, tz_l2, tz_l2z, tz_i2l, tz_l2i, tz_lcmp, tz_i2d, tz_d2, tz_dcmp, tz_dup, tz_dup2, tz_pop, tz_if, tz_icmp, tz_null, tz_goto, tz_sw, tz_getf, tz_puti, tz_putz, tz_putr, tz_putl, tz_iaload, tz_baload, tz_laload, tz_aaload, tz_iastore, tz_bastore, tz_lastore, tz_aastore, tz_alen, tz_new, tz_newa, tz_oinit, tz_iret, tz_zret, tz_lret, tz_dret, tz_aret, tz_vret, tz_throw, tz_callS, tz_callV, tz_callI, tz_callR, tz_pureS, tz_pureV, tz_callVH, lg, lset, lkill, lst1, lst2, entL, isRf, is1, vl, va_rf_none, va_rf_some, isRf_rf, is1_rf, i0, i1, bI_eq0, bI_eq1, nm_em, nI_eqP, nI_leP, nI_ltP, nN_e1, nN_e2, nN_l1, nN_l2, nN_l3, nN_l4, nI_add, pk_mul, vp_inN, nI_cl, n01, n10, P_i, P_ii, P_iii, f_Mo_at, f_Mo_map, f_Mo_contact, f_Mo_within, f_Mo_isPort, f_Hp_endpoint, f_Hp_nodeOf, f_Hp_portOf, f_Ma_max, f_Ma_min, f_Hp_isSetting, popN, rok, a1, noX, swc, mL, if_true, if_false, ↓reduceIte, cond_true, cond_false, true_and, and_true, List.length_cons, List.length_nil, List.nil_append, List.cons_append, List.append_nil, Option.toList, Nat.reduceEqDiff, Bool.false_eq_true, reduceCtorEq, Nat.reduceAdd, Nat.reduceLT, Nat.reduceLeDiff, Nat.reduceSub, List.replicate, Nat.zero_add, Nat.lt_add_one, Nat.le_refl, Nat.zero_le, Nat.succ_ne_zero, not_false_eq_true, not_true_eq_false, false_implies, true_implies, forall_const, imp_self, true_or, or_true, eq_self, sI_zw, zw_zw, hI_zw, tg_zw, ln_zw, hR_zw, hL_zw, hN_zw, hM_zw, upd_s, upd_u, upd_ne, Classical.not_not, k_Mo_comesIn, h1, h2, h3, h4, hP, f_Mo_isTranslator, hzF, c]; try clear hgo9 hW9); try (obtain ⟨W9, hW9, hgo9⟩ := wp_ex (T_Mo_comesIn l G) [5, 16] _; refine hgo9 200 _ _ _ _ ?_; simp -implicitDefEqProofs (disch := omega) only [hW9, inl, gate, Xq, tz_const, tz_iload, tz_lload, tz_dload, tz_aload, tz_istore, tz_astore, tz_lstore, tz_dstore, tz_iinc, tz_i1, tz_i2, tz_i2z, tz_l2, tz_l2z, tz_i2l, tz_l2i, tz_lcmp, tz_i2d, tz_d2, tz_dcmp, tz_dup, tz_dup2, tz_pop, tz_if, tz_icmp, tz_null, tz_goto, tz_sw, tz_getf, tz_puti, tz_putz, tz_putr, tz_putl, tz_iaload, tz_baload, tz_laload, tz_aaload, tz_iastore, tz_bastore, tz_lastore, tz_aastore, tz_alen, tz_new, tz_newa, tz_oinit, tz_iret, tz_zret, tz_lret, tz_dret, tz_aret, tz_vret, tz_throw, tz_callS, tz_callV, tz_callI, tz_callR, tz_pureS, tz_pureV, tz_callVH, lg, lset, lkill, lst1, lst2, entL, isRf, is1, vl, va_rf_none, va_rf_some, isRf_rf, is1_rf, i0, i1, bI_eq0, bI_eq1, nm_em, nI_eqP, nI_leP, nI_ltP, nN_e1, nN_e2, nN_l1, nN_l2, nN_l3, nN_l4, nI_add, pk_mul, vp_inN, nI_cl, n01, n10, P_i, P_ii, P_iii, f_Mo_at, f_Mo_map, f_Mo_contact, f_Mo_within, f_Mo_isPort, f_Hp_endpoint, f_Hp_nodeOf, f_Hp_portOf, f_Ma_max, f_Ma_min, f_Hp_isSetting, popN, rok, a1, noX, swc, mL, if_true, if_false, ↓reduceIte, cond_true, cond_false, true_and, and_true, List.length_cons, List.length_nil, List.nil_append, List.cons_append, List.append_nil, Option.toList, Nat.reduceEqDiff, Bool.false_eq_true, reduceCtorEq, Nat.reduceAdd, Nat.reduceLT, Nat.reduceLeDiff, Nat.reduceSub, List.replicate, Nat.zero_add, Nat.lt_add_one, Nat.le_refl, Nat.zero_le, Nat.succ_ne_zero, not_false_eq_true, not_true_eq_false, false_implies, true_implies, forall_const, imp_self, true_or, or_true, eq_self, sI_zw, zw_zw, hI_zw, tg_zw, ln_zw, hR_zw, hL_zw, hN_zw, hM_zw, upd_s, upd_u, upd_ne, Classical.not_not, k_Mo_comesIn, h1, h2, h3, h4, hP, f_Mo_isTranslator, hzF, c]; try clear hgo9 hW9))
      rcases hr with ⟨c1, er, ez⟩ | ⟨i, hi, e2, e3, kn, hr⟩
      · rw [er, ez] at hQ
        refine lp_ci1 (k := own g t) hm (by omega) ho (Nat.le_refl _) (fun j hj e => c1 ⟨j, hj, e⟩) (Or.inl rfl) ?_ (own g t) 0 (by omega)
        ((obtain ⟨W9, hW9, hgo9⟩ := wp_ex (T_Mo_comesIn l G) [5, 16] _; refine hgo9 200 _ _ _ _ ?_; simp -implicitDefEqProofs (disch := omega) only [hW9, inl, gate, Xq, tz_const, tz_iload, tz_lload, tz_dload, tz_aload, tz_istore, tz_astore, tz_lstore, tz_dstore, tz_iinc, tz_i1, tz_i2, tz_i2z, tz_l2, tz_l2z, tz_i2l, tz_l2i, tz_lcmp, tz_i2d, tz_d2, tz_dcmp, tz_dup, tz_dup2, tz_pop, tz_if, tz_icmp, tz_null, tz_goto, tz_sw, tz_getf, tz_puti, tz_putz, tz_putr, tz_putl, tz_iaload, tz_baload, tz_laload, tz_aaload, tz_iastore, tz_bastore, tz_lastore, tz_aastore, tz_alen, tz_new, tz_newa, tz_oinit, tz_iret, tz_zret, tz_lret, tz_dret, tz_aret, tz_vret, tz_throw, tz_callS, tz_callV, tz_callI, tz_callR, tz_pureS, tz_pureV, tz_callVH, lg, lset, lkill, lst1, lst2, entL, isRf, is1, vl, va_rf_none, va_rf_some, isRf_rf, is1_rf, i0, i1, bI_eq0, bI_eq1, nm_em, nI_eqP, nI_leP, nI_ltP, nN_e1, nN_e2, nN_l1, nN_l2, nN_l3, nN_l4, nI_add, pk_mul, vp_inN, nI_cl, n01, n10, P_i, P_ii, P_iii, f_Mo_at, f_Mo_map, f_Mo_contact, f_Mo_within, f_Mo_isPort, f_Hp_endpoint, f_Hp_nodeOf, f_Hp_portOf, f_Ma_max, f_Ma_min, f_Hp_isSetting, popN, rok, a1, noX, swc, mL, if_true, if_false, ↓reduceIte, cond_true, cond_false, true_and, and_true, List.length_cons, List.length_nil, List.nil_append, List.cons_append, List.append_nil, Option.toList, Nat.reduceEqDiff, Bool.false_eq_true, reduceCtorEq, Nat.reduceAdd, Nat.reduceLT, Nat.reduceLeDiff, Nat.reduceSub, List.replicate, Nat.zero_add, Nat.lt_add_one, Nat.le_refl, Nat.zero_le, Nat.succ_ne_zero, not_false_eq_true, not_true_eq_false, false_implies, true_implies, forall_const, imp_self, true_or, or_true, eq_self, sI_zw, zw_zw, hI_zw, tg_zw, ln_zw, hR_zw, hL_zw, hN_zw, hM_zw, upd_s, upd_u, upd_ne, Classical.not_not, k_Mo_comesIn, h1, h2, h3, h4, o1]; try clear hgo9 hW9); try (obtain ⟨W9, hW9, hgo9⟩ := wp_ex (T_Mo_comesIn l G) [5, 16] _; refine hgo9 200 _ _ _ _ ?_; simp -implicitDefEqProofs (disch := omega) only [hW9, inl, gate, Xq, tz_const, tz_iload, tz_lload, tz_dload, tz_aload, tz_istore, tz_astore, tz_lstore, tz_dstore, tz_iinc, tz_i1, tz_i2, tz_i2z, tz_l2, tz_l2z, tz_i2l, tz_l2i, tz_lcmp, tz_i2d, tz_d2, tz_dcmp, tz_dup, tz_dup2, tz_pop, tz_if, tz_icmp, tz_null, tz_goto, tz_sw, tz_getf, tz_puti, tz_putz, tz_putr, tz_putl, tz_iaload, tz_baload, tz_laload, tz_aaload, tz_iastore, tz_bastore, tz_lastore, tz_aastore, tz_alen, tz_new, tz_newa, tz_oinit, tz_iret, tz_zret, tz_lret, tz_dret, tz_aret, tz_vret, tz_throw, tz_callS, tz_callV, tz_callI, tz_callR, tz_pureS, tz_pureV, tz_callVH, lg, lset, lkill, lst1, lst2, entL, isRf, is1, vl, va_rf_none, va_rf_some, isRf_rf, is1_rf, i0, i1, bI_eq0, bI_eq1, nm_em, nI_eqP, nI_leP, nI_ltP, nN_e1, nN_e2, nN_l1, nN_l2, nN_l3, nN_l4, nI_add, pk_mul, vp_inN, nI_cl, n01, n10, P_i, P_ii, P_iii, f_Mo_at, f_Mo_map, f_Mo_contact, f_Mo_within, f_Mo_isPort, f_Hp_endpoint, f_Hp_nodeOf, f_Hp_portOf, f_Ma_max, f_Ma_min, f_Hp_isSetting, popN, rok, a1, noX, swc, mL, if_true, if_false, ↓reduceIte, cond_true, cond_false, true_and, and_true, List.length_cons, List.length_nil, List.nil_append, List.cons_append, List.append_nil, Option.toList, Nat.reduceEqDiff, Bool.false_eq_true, reduceCtorEq, Nat.reduceAdd, Nat.reduceLT, Nat.reduceLeDiff, Nat.reduceSub, List.replicate, Nat.zero_add, Nat.lt_add_one, Nat.le_refl, Nat.zero_le, Nat.succ_ne_zero, not_false_eq_true, not_true_eq_false, false_implies, true_implies, forall_const, imp_self, true_or, or_true, eq_self, sI_zw, zw_zw, hI_zw, tg_zw, ln_zw, hR_zw, hL_zw, hN_zw, hM_zw, upd_s, upd_u, upd_ne, Classical.not_not, k_Mo_comesIn, h1, h2, h3, h4, o1]; try clear hgo9 hW9))
        exact hQ
      · refine lp_ci1 (k := i) hm (by omega) ho (by omega) e3 (Or.inr e2) ?_ i 0 (by omega)
        have ni : ¬ i = own g t := by omega
        have hcl2 : (nI i).toNatClampNeg = i := nI_clamp (by omega)
        have hPf : P_Mo_passesFilter [.ref a, .int (nI t), .int (nI i)] (zw h zr g) := ⟨zr, t, i, hm.zw, rfl, by omega, rfl, by omega, by rw [hI_zw]; exact kn⟩
        rcases hr with ⟨c2, er, ez⟩ | ⟨c2, hr⟩
        · rw [er, ez] at hQ
          ((obtain ⟨W9, hW9, hgo9⟩ := wp_ex (T_Mo_comesIn l G) [5, 16] _; refine hgo9 200 _ _ _ _ ?_; simp -implicitDefEqProofs (disch := omega) only [hW9, inl, gate, Xq, tz_const, tz_iload, tz_lload, tz_dload, tz_aload, tz_istore, tz_astore, tz_lstore, tz_dstore, tz_iinc, tz_i1, tz_i2, tz_i2z, tz_l2, tz_l2z, tz_i2l, tz_l2i, tz_lcmp, tz_i2d, tz_d2, tz_dcmp, tz_dup, tz_dup2, tz_pop, tz_if, tz_icmp, tz_null, tz_goto, tz_sw, tz_getf, tz_puti, tz_putz, tz_putr, tz_putl, tz_iaload, tz_baload, tz_laload, tz_aaload, tz_iastore, tz_bastore, tz_lastore, tz_aastore, tz_alen, tz_new, tz_newa, tz_oinit, tz_iret, tz_zret, tz_lret, tz_dret, tz_aret, tz_vret, tz_throw, tz_callS, tz_callV, tz_callI, tz_callR, tz_pureS, tz_pureV, tz_callVH, lg, lset, lkill, lst1, lst2, entL, isRf, is1, vl, va_rf_none, va_rf_some, isRf_rf, is1_rf, i0, i1, bI_eq0, bI_eq1, nm_em, nI_eqP, nI_leP, nI_ltP, nN_e1, nN_e2, nN_l1, nN_l2, nN_l3, nN_l4, nI_add, pk_mul, vp_inN, nI_cl, n01, n10, P_i, P_ii, P_iii, f_Mo_at, f_Mo_map, f_Mo_contact, f_Mo_within, f_Mo_isPort, f_Hp_endpoint, f_Hp_nodeOf, f_Hp_portOf, f_Ma_max, f_Ma_min, f_Hp_isSetting, popN, rok, a1, noX, swc, mL, if_true, if_false, ↓reduceIte, cond_true, cond_false, true_and, and_true, List.length_cons, List.length_nil, List.nil_append, List.cons_append, List.append_nil, Option.toList, Nat.reduceEqDiff, Bool.false_eq_true, reduceCtorEq, Nat.reduceAdd, Nat.reduceLT, Nat.reduceLeDiff, Nat.reduceSub, List.replicate, Nat.zero_add, Nat.lt_add_one, Nat.le_refl, Nat.zero_le, Nat.succ_ne_zero, not_false_eq_true, not_true_eq_false, false_implies, true_implies, forall_const, imp_self, true_or, or_true, eq_self, sI_zw, zw_zw, hI_zw, tg_zw, ln_zw, hR_zw, hL_zw, hN_zw, hM_zw, upd_s, upd_u, upd_ne, Classical.not_not, k_Mo_comesIn, h1, h2, h3, h4, o1, ni, hPf, f_Mo_passesFilter, hzF, hcl, hcl2, ra, hs, hq, c2]; try clear hgo9 hW9); try (obtain ⟨W9, hW9, hgo9⟩ := wp_ex (T_Mo_comesIn l G) [5, 16] _; refine hgo9 200 _ _ _ _ ?_; simp -implicitDefEqProofs (disch := omega) only [hW9, inl, gate, Xq, tz_const, tz_iload, tz_lload, tz_dload, tz_aload, tz_istore, tz_astore, tz_lstore, tz_dstore, tz_iinc, tz_i1, tz_i2, tz_i2z, tz_l2, tz_l2z, tz_i2l, tz_l2i, tz_lcmp, tz_i2d, tz_d2, tz_dcmp, tz_dup, tz_dup2, tz_pop, tz_if, tz_icmp, tz_null, tz_goto, tz_sw, tz_getf, tz_puti, tz_putz, tz_putr, tz_putl, tz_iaload, tz_baload, tz_laload, tz_aaload, tz_iastore, tz_bastore, tz_lastore, tz_aastore, tz_alen, tz_new, tz_newa, tz_oinit, tz_iret, tz_zret, tz_lret, tz_dret, tz_aret, tz_vret, tz_throw, tz_callS, tz_callV, tz_callI, tz_callR, tz_pureS, tz_pureV, tz_callVH, lg, lset, lkill, lst1, lst2, entL, isRf, is1, vl, va_rf_none, va_rf_some, isRf_rf, is1_rf, i0, i1, bI_eq0, bI_eq1, nm_em, nI_eqP, nI_leP, nI_ltP, nN_e1, nN_e2, nN_l1, nN_l2, nN_l3, nN_l4, nI_add, pk_mul, vp_inN, nI_cl, n01, n10, P_i, P_ii, P_iii, f_Mo_at, f_Mo_map, f_Mo_contact, f_Mo_within, f_Mo_isPort, f_Hp_endpoint, f_Hp_nodeOf, f_Hp_portOf, f_Ma_max, f_Ma_min, f_Hp_isSetting, popN, rok, a1, noX, swc, mL, if_true, if_false, ↓reduceIte, cond_true, cond_false, true_and, and_true, List.length_cons, List.length_nil, List.nil_append, List.cons_append, List.append_nil, Option.toList, Nat.reduceEqDiff, Bool.false_eq_true, reduceCtorEq, Nat.reduceAdd, Nat.reduceLT, Nat.reduceLeDiff, Nat.reduceSub, List.replicate, Nat.zero_add, Nat.lt_add_one, Nat.le_refl, Nat.zero_le, Nat.succ_ne_zero, not_false_eq_true, not_true_eq_false, false_implies, true_implies, forall_const, imp_self, true_or, or_true, eq_self, sI_zw, zw_zw, hI_zw, tg_zw, ln_zw, hR_zw, hL_zw, hN_zw, hM_zw, upd_s, upd_u, upd_ne, Classical.not_not, k_Mo_comesIn, h1, h2, h3, h4, o1, ni, hPf, f_Mo_passesFilter, hzF, hcl, hcl2, ra, hs, hq, c2]; try clear hgo9 hW9); try (obtain ⟨W9, hW9, hgo9⟩ := wp_ex (T_Mo_comesIn l G) [5, 16] _; refine hgo9 200 _ _ _ _ ?_; simp -implicitDefEqProofs (disch := omega) only [hW9, inl, gate, Xq, tz_const, tz_iload, tz_lload, tz_dload, tz_aload, tz_istore, tz_astore, tz_lstore, tz_dstore, tz_iinc, tz_i1, tz_i2, tz_i2z, tz_l2, tz_l2z, tz_i2l, tz_l2i, tz_lcmp, tz_i2d, tz_d2, tz_dcmp, tz_dup, tz_dup2, tz_pop, tz_if, tz_icmp, tz_null, tz_goto, tz_sw, tz_getf, tz_puti, tz_putz, tz_putr, tz_putl, tz_iaload, tz_baload, tz_laload, tz_aaload, tz_iastore, tz_bastore, tz_lastore, tz_aastore, tz_alen, tz_new, tz_newa, tz_oinit, tz_iret, tz_zret, tz_lret, tz_dret, tz_aret, tz_vret, tz_throw, tz_callS, tz_callV, tz_callI, tz_callR, tz_pureS, tz_pureV, tz_callVH, lg, lset, lkill, lst1, lst2, entL, isRf, is1, vl, va_rf_none, va_rf_some, isRf_rf, is1_rf, i0, i1, bI_eq0, bI_eq1, nm_em, nI_eqP, nI_leP, nI_ltP, nN_e1, nN_e2, nN_l1, nN_l2, nN_l3, nN_l4, nI_add, pk_mul, vp_inN, nI_cl, n01, n10, P_i, P_ii, P_iii, f_Mo_at, f_Mo_map, f_Mo_contact, f_Mo_within, f_Mo_isPort, f_Hp_endpoint, f_Hp_nodeOf, f_Hp_portOf, f_Ma_max, f_Ma_min, f_Hp_isSetting, popN, rok, a1, noX, swc, mL, if_true, if_false, ↓reduceIte, cond_true, cond_false, true_and, and_true, List.length_cons, List.length_nil, List.nil_append, List.cons_append, List.append_nil, Option.toList, Nat.reduceEqDiff, Bool.false_eq_true, reduceCtorEq, Nat.reduceAdd, Nat.reduceLT, Nat.reduceLeDiff, Nat.reduceSub, List.replicate, Nat.zero_add, Nat.lt_add_one, Nat.le_refl, Nat.zero_le, Nat.succ_ne_zero, not_false_eq_true, not_true_eq_false, false_implies, true_implies, forall_const, imp_self, true_or, or_true, eq_self, sI_zw, zw_zw, hI_zw, tg_zw, ln_zw, hR_zw, hL_zw, hN_zw, hM_zw, upd_s, upd_u, upd_ne, Classical.not_not, k_Mo_comesIn, h1, h2, h3, h4, o1, ni, hPf, f_Mo_passesFilter, hzF, hcl, hcl2, ra, hs, hq, c2]; try clear hgo9 hW9))
          exact hQ
        · ((obtain ⟨W9, hW9, hgo9⟩ := wp_ex (T_Mo_comesIn l G) [5, 16, 87] _; refine hgo9 200 _ _ _ _ ?_; simp -implicitDefEqProofs (disch := omega) only [hW9, inl, gate, Xq, tz_const, tz_iload, tz_lload, tz_dload, tz_aload, tz_istore, tz_astore, tz_lstore, tz_dstore, tz_iinc, tz_i1, tz_i2, tz_i2z, tz_l2, tz_l2z, tz_i2l, tz_l2i, tz_lcmp, tz_i2d, tz_d2, tz_dcmp, tz_dup, tz_dup2, tz_pop, tz_if, tz_icmp, tz_null, tz_goto, tz_sw, tz_getf, tz_puti, tz_putz, tz_putr, tz_putl, tz_iaload, tz_baload, tz_laload, tz_aaload, tz_iastore, tz_bastore, tz_lastore, tz_aastore, tz_alen, tz_new, tz_newa, tz_oinit, tz_iret, tz_zret, tz_lret, tz_dret, tz_aret, tz_vret, tz_throw, tz_callS, tz_callV, tz_callI, tz_callR, tz_pureS, tz_pureV, tz_callVH, lg, lset, lkill, lst1, lst2, entL, isRf, is1, vl, va_rf_none, va_rf_some, isRf_rf, is1_rf, i0, i1, bI_eq0, bI_eq1, nm_em, nI_eqP, nI_leP, nI_ltP, nN_e1, nN_e2, nN_l1, nN_l2, nN_l3, nN_l4, nI_add, pk_mul, vp_inN, nI_cl, n01, n10, P_i, P_ii, P_iii, f_Mo_at, f_Mo_map, f_Mo_contact, f_Mo_within, f_Mo_isPort, f_Hp_endpoint, f_Hp_nodeOf, f_Hp_portOf, f_Ma_max, f_Ma_min, f_Hp_isSetting, popN, rok, a1, noX, swc, mL, if_true, if_false, ↓reduceIte, cond_true, cond_false, true_and, and_true, List.length_cons, List.length_nil, List.nil_append, List.cons_append, List.append_nil, Option.toList, Nat.reduceEqDiff, Bool.false_eq_true, reduceCtorEq, Nat.reduceAdd, Nat.reduceLT, Nat.reduceLeDiff, Nat.reduceSub, List.replicate, Nat.zero_add, Nat.lt_add_one, Nat.le_refl, Nat.zero_le, Nat.succ_ne_zero, not_false_eq_true, not_true_eq_false, false_implies, true_implies, forall_const, imp_self, true_or, or_true, eq_self, sI_zw, zw_zw, hI_zw, tg_zw, ln_zw, hR_zw, hL_zw, hN_zw, hM_zw, upd_s, upd_u, upd_ne, Classical.not_not, k_Mo_comesIn, h1, h2, h3, h4, o1, ni, hPf, f_Mo_passesFilter, hzF, hcl, hcl2, ra, hs, hq, c2]; try clear hgo9 hW9); try (obtain ⟨W9, hW9, hgo9⟩ := wp_ex (T_Mo_comesIn l G) [5, 16, 87] _; refine hgo9 200 _ _ _ _ ?_; simp -implicitDefEqProofs (disch := omega) only [hW9, inl, gate, Xq, tz_const, tz_iload, tz_lload, tz_dload, tz_aload, tz_istore, tz_astore, tz_lstore, tz_dstore, tz_iinc, tz_i1, tz_i2, tz_i2z, tz_l2, tz_l2z, tz_i2l, tz_l2i, tz_lcmp, tz_i2d, tz_d2, tz_dcmp, tz_dup, tz_dup2, tz_pop, tz_if, tz_icmp, tz_null, tz_goto, tz_sw, tz_getf, tz_puti, tz_putz, tz_putr, tz_putl, tz_iaload, tz_baload, tz_laload, tz_aaload, tz_iastore, tz_bastore, tz_lastore, tz_aastore, tz_alen, tz_new, tz_newa, tz_oinit, tz_iret, tz_zret, tz_lret, tz_dret, tz_aret, tz_vret, tz_throw, tz_callS, tz_callV, tz_callI, tz_callR, tz_pureS, tz_pureV, tz_callVH, lg, lset, lkill, lst1, lst2, entL, isRf, is1, vl, va_rf_none, va_rf_some, isRf_rf, is1_rf, i0, i1, bI_eq0, bI_eq1, nm_em, nI_eqP, nI_leP, nI_ltP, nN_e1, nN_e2, nN_l1, nN_l2, nN_l3, nN_l4, nI_add, pk_mul, vp_inN, nI_cl, n01, n10, P_i, P_ii, P_iii, f_Mo_at, f_Mo_map, f_Mo_contact, f_Mo_within, f_Mo_isPort, f_Hp_endpoint, f_Hp_nodeOf, f_Hp_portOf, f_Ma_max, f_Ma_min, f_Hp_isSetting, popN, rok, a1, noX, swc, mL, if_true, if_false, ↓reduceIte, cond_true, cond_false, true_and, and_true, List.length_cons, List.length_nil, List.nil_append, List.cons_append, List.append_nil, Option.toList, Nat.reduceEqDiff, Bool.false_eq_true, reduceCtorEq, Nat.reduceAdd, Nat.reduceLT, Nat.reduceLeDiff, Nat.reduceSub, List.replicate, Nat.zero_add, Nat.lt_add_one, Nat.le_refl, Nat.zero_le, Nat.succ_ne_zero, not_false_eq_true, not_true_eq_false, false_implies, true_implies, forall_const, imp_self, true_or, or_true, eq_self, sI_zw, zw_zw, hI_zw, tg_zw, ln_zw, hR_zw, hL_zw, hN_zw, hM_zw, upd_s, upd_u, upd_ne, Classical.not_not, k_Mo_comesIn, h1, h2, h3, h4, o1, ni, hPf, f_Mo_passesFilter, hzF, hcl, hcl2, ra, hs, hq, c2]; try clear hgo9 hW9); try (obtain ⟨W9, hW9, hgo9⟩ := wp_ex (T_Mo_comesIn l G) [5, 16, 87] _; refine hgo9 200 _ _ _ _ ?_; simp -implicitDefEqProofs (disch := omega) only [hW9, inl, gate, Xq, tz_const, tz_iload, tz_lload, tz_dload, tz_aload, tz_istore, tz_astore, tz_lstore, tz_dstore, tz_iinc, tz_i1, tz_i2, tz_i2z, tz_l2, tz_l2z, tz_i2l, tz_l2i, tz_lcmp, tz_i2d, tz_d2, tz_dcmp, tz_dup, tz_dup2, tz_pop, tz_if, tz_icmp, tz_null, tz_goto, tz_sw, tz_getf, tz_puti, tz_putz, tz_putr, tz_putl, tz_iaload, tz_baload, tz_laload, tz_aaload, tz_iastore, tz_bastore, tz_lastore, tz_aastore, tz_alen, tz_new, tz_newa, tz_oinit, tz_iret, tz_zret, tz_lret, tz_dret, tz_aret, tz_vret, tz_throw, tz_callS, tz_callV, tz_callI, tz_callR, tz_pureS, tz_pureV, tz_callVH, lg, lset, lkill, lst1, lst2, entL, isRf, is1, vl, va_rf_none, va_rf_some, isRf_rf, is1_rf, i0, i1, bI_eq0, bI_eq1, nm_em, nI_eqP, nI_leP, nI_ltP, nN_e1, nN_e2, nN_l1, nN_l2, nN_l3, nN_l4, nI_add, pk_mul, vp_inN, nI_cl, n01, n10, P_i, P_ii, P_iii, f_Mo_at, f_Mo_map, f_Mo_contact, f_Mo_within, f_Mo_isPort, f_Hp_endpoint, f_Hp_nodeOf, f_Hp_portOf, f_Ma_max, f_Ma_min, f_Hp_isSetting, popN, rok, a1, noX, swc, mL, if_true, if_false, ↓reduceIte, cond_true, cond_false, true_and, and_true, List.length_cons, List.length_nil, List.nil_append, List.cons_append, List.append_nil, Option.toList, Nat.reduceEqDiff, Bool.false_eq_true, reduceCtorEq, Nat.reduceAdd, Nat.reduceLT, Nat.reduceLeDiff, Nat.reduceSub, List.replicate, Nat.zero_add, Nat.lt_add_one, Nat.le_refl, Nat.zero_le, Nat.succ_ne_zero, not_false_eq_true, not_true_eq_false, false_implies, true_implies, forall_const, imp_self, true_or, or_true, eq_self, sI_zw, zw_zw, hI_zw, tg_zw, ln_zw, hR_zw, hL_zw, hN_zw, hM_zw, upd_s, upd_u, upd_ne, Classical.not_not, k_Mo_comesIn, h1, h2, h3, h4, o1, ni, hPf, f_Mo_passesFilter, hzF, hcl, hcl2, ra, hs, hq, c2]; try clear hgo9 hW9))
          have hz2 : ∀ x, Z10 (upd g (176 + 8 * (8 * t + i) + 5) x) := by
            intro x
            obtain ⟨k9, k91, k92⟩ := hz
            exact ⟨k9, k91, by rw [upd_ne (by omega)]; exact k92⟩
          refine ⟨fun c3 => ?_, fun c3 => ?_⟩
          · rw [if_neg c3] at hr
            (obtain ⟨W9, hW9, hgo9⟩ := wp_ex (T_Mo_comesIn l G) [5, 16] _; refine hgo9 200 _ _ _ _ ?_; simp -implicitDefEqProofs (disch := omega) only [hW9, inl, gate, Xq, tz_const, tz_iload, tz_lload, tz_dload, tz_aload, tz_istore, tz_astore, tz_lstore, tz_dstore, tz_iinc, tz_i1, tz_i2, tz_i2z, tz_l2, tz_l2z, tz_i2l, tz_l2i, tz_lcmp, tz_i2d, tz_d2, tz_dcmp, tz_dup, tz_dup2, tz_pop, tz_if, tz_icmp, tz_null, tz_goto, tz_sw, tz_getf, tz_puti, tz_putz, tz_putr, tz_putl, tz_iaload, tz_baload, tz_laload, tz_aaload, tz_iastore, tz_bastore, tz_lastore, tz_aastore, tz_alen, tz_new, tz_newa, tz_oinit, tz_iret, tz_zret, tz_lret, tz_dret, tz_aret, tz_vret, tz_throw, tz_callS, tz_callV, tz_callI, tz_callR, tz_pureS, tz_pureV, tz_callVH, lg, lset, lkill, lst1, lst2, entL, isRf, is1, vl, va_rf_none, va_rf_some, isRf_rf, is1_rf, i0, i1, bI_eq0, bI_eq1, nm_em, nI_eqP, nI_leP, nI_ltP, nN_e1, nN_e2, nN_l1, nN_l2, nN_l3, nN_l4, nI_add, pk_mul, vp_inN, nI_cl, n01, n10, P_i, P_ii, P_iii, f_Mo_at, f_Mo_map, f_Mo_contact, f_Mo_within, f_Mo_isPort, f_Hp_endpoint, f_Hp_nodeOf, f_Hp_portOf, f_Ma_max, f_Ma_min, f_Hp_isSetting, popN, rok, a1, noX, swc, mL, if_true, if_false, ↓reduceIte, cond_true, cond_false, true_and, and_true, List.length_cons, List.length_nil, List.nil_append, List.cons_append, List.append_nil, Option.toList, Nat.reduceEqDiff, Bool.false_eq_true, reduceCtorEq, Nat.reduceAdd, Nat.reduceLT, Nat.reduceLeDiff, Nat.reduceSub, List.replicate, Nat.zero_add, Nat.lt_add_one, Nat.le_refl, Nat.zero_le, Nat.succ_ne_zero, not_false_eq_true, not_true_eq_false, false_implies, true_implies, forall_const, imp_self, true_or, or_true, eq_self, sI_zw, zw_zw, hI_zw, tg_zw, ln_zw, hR_zw, hL_zw, hN_zw, hM_zw, upd_s, upd_u, upd_ne, Classical.not_not, k_Mo_comesIn, h1, h2, h3, h4]; try clear hgo9 hW9)
            exact ih _ _ _ _ (hz2 _) hr
          · rw [if_pos c3] at hr
            (obtain ⟨W9, hW9, hgo9⟩ := wp_ex (T_Mo_comesIn l G) [5, 16] _; refine hgo9 200 _ _ _ _ ?_; simp -implicitDefEqProofs (disch := omega) only [hW9, inl, gate, Xq, tz_const, tz_iload, tz_lload, tz_dload, tz_aload, tz_istore, tz_astore, tz_lstore, tz_dstore, tz_iinc, tz_i1, tz_i2, tz_i2z, tz_l2, tz_l2z, tz_i2l, tz_l2i, tz_lcmp, tz_i2d, tz_d2, tz_dcmp, tz_dup, tz_dup2, tz_pop, tz_if, tz_icmp, tz_null, tz_goto, tz_sw, tz_getf, tz_puti, tz_putz, tz_putr, tz_putl, tz_iaload, tz_baload, tz_laload, tz_aaload, tz_iastore, tz_bastore, tz_lastore, tz_aastore, tz_alen, tz_new, tz_newa, tz_oinit, tz_iret, tz_zret, tz_lret, tz_dret, tz_aret, tz_vret, tz_throw, tz_callS, tz_callV, tz_callI, tz_callR, tz_pureS, tz_pureV, tz_callVH, lg, lset, lkill, lst1, lst2, entL, isRf, is1, vl, va_rf_none, va_rf_some, isRf_rf, is1_rf, i0, i1, bI_eq0, bI_eq1, nm_em, nI_eqP, nI_leP, nI_ltP, nN_e1, nN_e2, nN_l1, nN_l2, nN_l3, nN_l4, nI_add, pk_mul, vp_inN, nI_cl, n01, n10, P_i, P_ii, P_iii, f_Mo_at, f_Mo_map, f_Mo_contact, f_Mo_within, f_Mo_isPort, f_Hp_endpoint, f_Hp_nodeOf, f_Hp_portOf, f_Ma_max, f_Ma_min, f_Hp_isSetting, popN, rok, a1, noX, swc, mL, if_true, if_false, ↓reduceIte, cond_true, cond_false, true_and, and_true, List.length_cons, List.length_nil, List.nil_append, List.cons_append, List.append_nil, Option.toList, Nat.reduceEqDiff, Bool.false_eq_true, reduceCtorEq, Nat.reduceAdd, Nat.reduceLT, Nat.reduceLeDiff, Nat.reduceSub, List.replicate, Nat.zero_add, Nat.lt_add_one, Nat.le_refl, Nat.zero_le, Nat.succ_ne_zero, not_false_eq_true, not_true_eq_false, false_implies, true_implies, forall_const, imp_self, true_or, or_true, eq_self, sI_zw, zw_zw, hI_zw, tg_zw, ln_zw, hR_zw, hL_zw, hN_zw, hM_zw, upd_s, upd_u, upd_ne, Classical.not_not, k_Mo_comesIn, h1, h2, h3, h4]; try clear hgo9 hW9)
            exact ih _ _ _ _ (hz2 _) hr
theorem c_Mo_comesIn (a zr f : Nat) (n p s q r : Int32) (z' : Nat → Int32) (h : AH) (Q : Po) (hm : MoS h a zr) (hs : hI h a 10 = s) (hq : hI h a 11 = q) (hz : Z10 (hI h zr)) (hr : CinR s q f (hI h zr) n p r z') (hQ : Q (.inl (some (.int r))) (zw h zr z')) : Call l G M_Mo_comesIn [.ref a, .int n, .int p] h Q := by
  refine call_of rfl rfl (Nat.le_of_ble_eq_true rfl) ?_
  (obtain ⟨W9, hW9, hgo9⟩ := wp_ex (T_Mo_comesIn l G) [5] _; refine hgo9 200 _ _ _ _ ?_; simp -implicitDefEqProofs (disch := omega) only [hW9, inl, gate, Xq, tz_const, tz_iload, tz_lload, tz_dload, tz_aload, tz_istore, tz_astore, tz_lstore, tz_dstore, tz_iinc, tz_i1, tz_i2, tz_i2z, tz_l2, tz_l2z, tz_i2l, tz_l2i, tz_lcmp, tz_i2d, tz_d2, tz_dcmp, tz_dup, tz_dup2, tz_pop, tz_if, tz_icmp, tz_null, tz_goto, tz_sw, tz_getf, tz_puti, tz_putz, tz_putr, tz_putl, tz_iaload, tz_baload, tz_laload, tz_aaload, tz_iastore, tz_bastore, tz_lastore, tz_aastore, tz_alen, tz_new, tz_newa, tz_oinit, tz_iret, tz_zret, tz_lret, tz_dret, tz_aret, tz_vret, tz_throw, tz_callS, tz_callV, tz_callI, tz_callR, tz_pureS, tz_pureV, tz_callVH, lg, lset, lkill, lst1, lst2, entL, isRf, is1, vl, va_rf_none, va_rf_some, isRf_rf, is1_rf, i0, i1, bI_eq0, bI_eq1, nm_em, nI_eqP, nI_leP, nI_ltP, nN_e1, nN_e2, nN_l1, nN_l2, nN_l3, nN_l4, nI_add, pk_mul, vp_inN, nI_cl, n01, n10, P_i, P_ii, P_iii, f_Mo_at, f_Mo_map, f_Mo_contact, f_Mo_within, f_Mo_isPort, f_Hp_endpoint, f_Hp_nodeOf, f_Hp_portOf, f_Ma_max, f_Ma_min, f_Hp_isSetting, popN, rok, a1, noX, swc, mL, if_true, if_false, ↓reduceIte, cond_true, cond_false, true_and, and_true, List.length_cons, List.length_nil, List.nil_append, List.cons_append, List.append_nil, Option.toList, Nat.reduceEqDiff, Bool.false_eq_true, reduceCtorEq, Nat.reduceAdd, Nat.reduceLT, Nat.reduceLeDiff, Nat.reduceSub, List.replicate, Nat.zero_add, Nat.lt_add_one, Nat.le_refl, Nat.zero_le, Nat.succ_ne_zero, not_false_eq_true, not_true_eq_false, false_implies, true_implies, forall_const, imp_self, true_or, or_true, eq_self, sI_zw, zw_zw, hI_zw, tg_zw, ln_zw, hR_zw, hL_zw, hN_zw, hM_zw, upd_s, upd_u, upd_ne, Classical.not_not, k_Mo_comesIn, hm.1]; try clear hgo9 hW9)
  have := lp_ci (l := l) (G := G) (Q := Q) (x1 := n) (x2 := p) hm hs hq hQ f (hI h zr) n p none hz hr
  rw [zw_self] at this
  exact this
end
