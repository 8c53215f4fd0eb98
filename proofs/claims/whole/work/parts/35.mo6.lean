def k_Mo_counted (l : Launch) (G : Gc) (pc : Nat) : Tr :=
  if pc < 87 then
   if pc < 72 then
    if pc < 68 then
     if pc < 64 then
      if pc < 1 then
       if pc = 0 then tz_iload 1 1 else dead
      else
       if pc = 1 then tz_sw [(nI 0, 64), (nI 1, 71), (nI 2, 76), (nI 3, 83), (nI 4, 101), (nI 5, 101), (nI 6, 101), (nI 7, 101), (nI 8, 101), (nI 9, 101), (nI 10, 101), (nI 11, 88)] 101 else dead
     else
      if pc < 65 then
       if pc = 64 then tz_aload 65 0 else dead
      else
       if pc = 65 then tz_getf 68 7 1 1 else dead
    else
     if pc < 70 then
      if pc < 69 then
       if pc = 68 then tz_const 69 (.int (nI 1)) else dead
      else
       if pc = 69 then tz_iaload 70 else dead
     else
      if pc < 71 then
       if pc = 70 then tz_iret else dead
      else
       if pc = 71 then tz_aload 72 0 else dead
   else
    if pc < 80 then
     if pc < 76 then
      if pc < 75 then
       if pc = 72 then tz_pureV 75 0 7 P_Mo_hosts f_Mo_hosts else dead
      else
       if pc = 75 then tz_iret else dead
     else
      if pc < 77 then
       if pc = 76 then tz_aload 77 0 else dead
      else
       if pc = 77 then tz_getf 80 7 1 1 else dead
    else
     if pc < 82 then
      if pc < 81 then
       if pc = 80 then tz_const 81 (.int (nI 0)) else dead
      else
       if pc = 81 then tz_iaload 82 else dead
     else
      if pc < 83 then
       if pc = 82 then tz_iret else dead
      else
       if pc < 84 then
        if pc = 83 then tz_aload 84 0 else dead
       else
        if pc = 84 then tz_pureV 87 0 7 P_Mo_mappings f_Mo_mappings else dead
  else
   if pc < 101 then
    if pc < 95 then
     if pc < 89 then
      if pc < 88 then
       if pc = 87 then tz_iret else dead
      else
       if pc = 88 then tz_aload 89 0 else dead
     else
      if pc < 92 then
       if pc = 89 then tz_getf 92 7 3 0 else dead
      else
       if pc = 92 then tz_if 95 99 (fun a => a = 0) else dead
    else
     if pc < 99 then
      if pc < 96 then
       if pc = 95 then tz_const 96 (.int (nI 1)) else dead
      else
       if pc = 96 then tz_goto 100 else dead
     else
      if pc < 100 then
       if pc = 99 then tz_const 100 (.int (nI 0)) else dead
      else
       if pc = 100 then tz_iret else dead
   else
    if pc < 107 then
     if pc < 105 then
      if pc < 102 then
       if pc = 101 then tz_aload 102 0 else dead
      else
       if pc = 102 then tz_getf 105 7 1 1 else dead
     else
      if pc < 106 then
       if pc = 105 then tz_const 106 (.int (nI 2)) else dead
      else
       if pc = 106 then tz_iload 107 1 else dead
    else
     if pc < 109 then
      if pc < 108 then
       if pc = 107 then tz_i2 108 (fun a b => a + b) else dead
      else
       if pc = 108 then tz_const 109 (.int (nI 4)) else dead
     else
      if pc < 110 then
       if pc = 109 then tz_i2 110 (fun a b => a - b) else dead
      else
       if pc < 111 then
        if pc = 110 then tz_iaload 111 else dead
       else
        if pc = 111 then tz_iret else dead
set_option maxRecDepth 100000 in
theorem T_Mo_counted (l : Launch) (G : Gc) : TabOK l G M_Mo_counted (k_Mo_counted l G) := by
  intro pc
  unfold k_Mo_counted
  exact
   (sd_br
    (sd_br
     (sd_br
      (sd_br
       (sd_br
        (sd_lf (sd_iload_n (k := 1) (by decide +kernel : decode prog_9_method_57_code 0 = .ok (.iload_n 1, 1))))
        (sd_lf (sd_tsw (by decide +kernel : decode prog_9_method_57_code 1 = .ok (.tableswitch 100 0 11 #[63, 70, 75, 82, 100, 100, 100, 100, 100, 100, 100, 87], 63)) (by decide +kernel) (by decide +kernel) (by decide +kernel))))
       (sd_br
        (sd_lf (sd_aload_n (k := 0) (by decide +kernel : decode prog_9_method_57_code 64 = .ok (.aload_n 0, 1))))
        (sd_lf (sd_getf (q := (RX7, TX7, 16)) (by decide +kernel : decode prog_9_method_57_code 65 = .ok (.getfield 7, 3)) rfl (by decide +kernel) (gm 913 (by decide +kernel) rfl)))))
      (sd_br
       (sd_br
        (sd_lf (sd_iconst (by decide +kernel : decode prog_9_method_57_code 68 = .ok (.iconst 1, 1)) (by decide +kernel)))
        (sd_lf (sd_iaload (by decide +kernel : decode prog_9_method_57_code 69 = .ok (.iaload, 1)))))
       (sd_br
        (sd_lf (sd_iret (by decide +kernel : decode prog_9_method_57_code 70 = .ok (.ireturn, 1)) rfl))
        (sd_lf (sd_aload_n (k := 0) (by decide +kernel : decode prog_9_method_57_code 71 = .ok (.aload_n 0, 1)))))))
     (sd_br
      (sd_br
       (sd_br
        (sd_lf (sd_pureV (sd_callV (q := (RX7, TX7, 16)) (by decide +kernel : decode prog_9_method_57_code 72 = .ok (.invokevirtual 190, 3)) ok_Mo_hosts (gm 1183 (by decide +kernel) rfl) (gm 1185 (by decide +kernel) rfl) (gm 60 (by decide +kernel) rfl) rfl rfl (by decide +kernel) rfl rfl) c_Mo_hosts))
        (sd_lf (sd_iret (by decide +kernel : decode prog_9_method_57_code 75 = .ok (.ireturn, 1)) rfl)))
       (sd_br
        (sd_lf (sd_aload_n (k := 0) (by decide +kernel : decode prog_9_method_57_code 76 = .ok (.aload_n 0, 1))))
        (sd_lf (sd_getf (q := (RX7, TX7, 16)) (by decide +kernel : decode prog_9_method_57_code 77 = .ok (.getfield 7, 3)) rfl (by decide +kernel) (gm 913 (by decide +kernel) rfl)))))
      (sd_br
       (sd_br
        (sd_lf (sd_iconst (by decide +kernel : decode prog_9_method_57_code 80 = .ok (.iconst 0, 1)) (by decide +kernel)))
        (sd_lf (sd_iaload (by decide +kernel : decode prog_9_method_57_code 81 = .ok (.iaload, 1)))))
       (sd_br
        (sd_lf (sd_iret (by decide +kernel : decode prog_9_method_57_code 82 = .ok (.ireturn, 1)) rfl))
        (sd_br
         (sd_lf (sd_aload_n (k := 0) (by decide +kernel : decode prog_9_method_57_code 83 = .ok (.aload_n 0, 1))))
         (sd_lf (sd_pureV (sd_callV (q := (RX7, TX7, 16)) (by decide +kernel : decode prog_9_method_57_code 84 = .ok (.invokevirtual 193, 3)) ok_Mo_mappings (gm 1187 (by decide +kernel) rfl) (gm 1189 (by decide +kernel) rfl) (gm 61 (by decide +kernel) rfl) rfl rfl (by decide +kernel) rfl rfl) c_Mo_mappings)))))))
    (sd_br
     (sd_br
      (sd_br
       (sd_br
        (sd_lf (sd_iret (by decide +kernel : decode prog_9_method_57_code 87 = .ok (.ireturn, 1)) rfl))
        (sd_lf (sd_aload_n (k := 0) (by decide +kernel : decode prog_9_method_57_code 88 = .ok (.aload_n 0, 1)))))
       (sd_br
        (sd_lf (sd_getf (q := (RX7, TX7, 16)) (by decide +kernel : decode prog_9_method_57_code 89 = .ok (.getfield 48, 3)) rfl (by decide +kernel) (gm 915 (by decide +kernel) rfl)))
        (sd_lf (sd_if_eq (by decide +kernel : decode prog_9_method_57_code 92 = .ok (.ifCond .eq 7, 3)) (by decide +kernel)))))
      (sd_br
       (sd_br
        (sd_lf (sd_iconst (by decide +kernel : decode prog_9_method_57_code 95 = .ok (.iconst 1, 1)) (by decide +kernel)))
        (sd_lf (sd_goto (by decide +kernel : decode prog_9_method_57_code 96 = .ok (.goto 4, 3)) (by decide +kernel))))
       (sd_br
        (sd_lf (sd_iconst (by decide +kernel : decode prog_9_method_57_code 99 = .ok (.iconst 0, 1)) (by decide +kernel)))
        (sd_lf (sd_iret (by decide +kernel : decode prog_9_method_57_code 100 = .ok (.ireturn, 1)) rfl)))))
     (sd_br
      (sd_br
       (sd_br
        (sd_lf (sd_aload_n (k := 0) (by decide +kernel : decode prog_9_method_57_code 101 = .ok (.aload_n 0, 1))))
        (sd_lf (sd_getf (q := (RX7, TX7, 16)) (by decide +kernel : decode prog_9_method_57_code 102 = .ok (.getfield 7, 3)) rfl (by decide +kernel) (gm 913 (by decide +kernel) rfl))))
       (sd_br
        (sd_lf (sd_iconst (by decide +kernel : decode prog_9_method_57_code 105 = .ok (.iconst 2, 1)) (by decide +kernel)))
        (sd_lf (sd_iload_n (k := 1) (by decide +kernel : decode prog_9_method_57_code 106 = .ok (.iload_n 1, 1))))))
      (sd_br
       (sd_br
        (sd_lf (sd_iadd (by decide +kernel : decode prog_9_method_57_code 107 = .ok (.iadd, 1))))
        (sd_lf (sd_iconst (by decide +kernel : decode prog_9_method_57_code 108 = .ok (.iconst 4, 1)) (by decide +kernel))))
       (sd_br
        (sd_lf (sd_isub (by decide +kernel : decode prog_9_method_57_code 109 = .ok (.isub, 1))))
        (sd_br
         (sd_lf (sd_iaload (by decide +kernel : decode prog_9_method_57_code 110 = .ok (.iaload, 1))))
         (sd_lf (sd_iret (by decide +kernel : decode prog_9_method_57_code 111 = .ok (.ireturn, 1)) rfl))))))))
def k_Mo_nodeNow (l : Launch) (G : Gc) (pc : Nat) : Tr :=
  if pc < 55 then
   if pc < 42 then
    if pc < 36 then
     if pc < 32 then
      if pc < 1 then
       if pc = 0 then tz_iload 1 2 else dead
      else
       if pc = 1 then tz_sw [(nI 0, 32), (nI 1, 43), (nI 2, 54), (nI 3, 60)] 66 else dead
     else
      if pc < 33 then
       if pc = 32 then tz_aload 33 0 else dead
      else
       if pc = 33 then tz_getf 36 7 1 1 else dead
    else
     if pc < 38 then
      if pc < 37 then
       if pc = 36 then tz_iload 37 1 else dead
      else
       if pc = 37 then tz_const 38 (.int (nI 0)) else dead
     else
      if pc < 41 then
       if pc = 38 then tz_pureS 41 2 P_Mo_at f_Mo_at else dead
      else
       if pc = 41 then tz_iaload 42 else dead
   else
    if pc < 48 then
     if pc < 44 then
      if pc < 43 then
       if pc = 42 then tz_iret else dead
      else
       if pc = 43 then tz_aload 44 0 else dead
     else
      if pc < 47 then
       if pc = 44 then tz_getf 47 7 1 1 else dead
      else
       if pc = 47 then tz_iload 48 1 else dead
    else
     if pc < 52 then
      if pc < 49 then
       if pc = 48 then tz_const 49 (.int (nI 1)) else dead
      else
       if pc = 49 then tz_pureS 52 2 P_Mo_at f_Mo_at else dead
     else
      if pc < 53 then
       if pc = 52 then tz_iaload 53 else dead
      else
       if pc < 54 then
        if pc = 53 then tz_iret else dead
       else
        if pc = 54 then tz_aload 55 0 else dead
  else
   if pc < 70 then
    if pc < 61 then
     if pc < 59 then
      if pc < 56 then
       if pc = 55 then tz_iload 56 1 else dead
      else
       if pc = 56 then tz_pureV 59 1 7 P_Mo_depth f_Mo_depth else dead
     else
      if pc < 60 then
       if pc = 59 then tz_iret else dead
      else
       if pc = 60 then tz_aload 61 0 else dead
    else
     if pc < 65 then
      if pc < 62 then
       if pc = 61 then tz_iload 62 1 else dead
      else
       if pc = 62 then tz_pureV 65 1 7 P_Mo_hostsBehind f_Mo_hostsBehind else dead
     else
      if pc < 66 then
       if pc = 65 then tz_iret else dead
      else
       if pc < 67 then
        if pc = 66 then tz_aload 67 0 else dead
       else
        if pc = 67 then tz_getf 70 7 1 1 else dead
   else
    if pc < 75 then
     if pc < 73 then
      if pc < 71 then
       if pc = 70 then tz_iload 71 1 else dead
      else
       if pc = 71 then tz_const 73 (.int (nI 12)) else dead
     else
      if pc < 74 then
       if pc = 73 then tz_iload 74 2 else dead
      else
       if pc = 74 then tz_i2 75 (fun a b => a + b) else dead
    else
     if pc < 77 then
      if pc < 76 then
       if pc = 75 then tz_const 76 (.int (nI 4)) else dead
      else
       if pc = 76 then tz_i2 77 (fun a b => a - b) else dead
     else
      if pc < 80 then
       if pc = 77 then tz_pureS 80 2 P_Mo_at f_Mo_at else dead
      else
       if pc < 81 then
        if pc = 80 then tz_iaload 81 else dead
       else
        if pc = 81 then tz_iret else dead
set_option maxRecDepth 100000 in
theorem T_Mo_nodeNow (l : Launch) (G : Gc) : TabOK l G M_Mo_nodeNow (k_Mo_nodeNow l G) := by
  intro pc
  unfold k_Mo_nodeNow
  exact
   (sd_br
    (sd_br
     (sd_br
      (sd_br
       (sd_br
        (sd_lf (sd_iload_n (k := 2) (by decide +kernel : decode prog_9_method_62_code 0 = .ok (.iload_n 2, 1))))
        (sd_lf (sd_tsw (by decide +kernel : decode prog_9_method_62_code 1 = .ok (.tableswitch 65 0 3 #[31, 42, 53, 59], 31)) (by decide +kernel) (by decide +kernel) (by decide +kernel))))
       (sd_br
        (sd_lf (sd_aload_n (k := 0) (by decide +kernel : decode prog_9_method_62_code 32 = .ok (.aload_n 0, 1))))
        (sd_lf (sd_getf (q := (RX7, TX7, 16)) (by decide +kernel : decode prog_9_method_62_code 33 = .ok (.getfield 7, 3)) rfl (by decide +kernel) (gm 913 (by decide +kernel) rfl)))))
      (sd_br
       (sd_br
        (sd_lf (sd_iload_n (k := 1) (by decide +kernel : decode prog_9_method_62_code 36 = .ok (.iload_n 1, 1))))
        (sd_lf (sd_iconst (by decide +kernel : decode prog_9_method_62_code 37 = .ok (.iconst 0, 1)) (by decide +kernel))))
       (sd_br
        (sd_lf (sd_pureS (sd_callS (by decide +kernel : decode prog_9_method_62_code 38 = .ok (.invokestatic 44, 3)) ok_Mo_at (gm 993 (by decide +kernel) rfl) (gm 994 (by decide +kernel) rfl) (by decide +kernel) rfl rfl) c_Mo_at))
        (sd_lf (sd_iaload (by decide +kernel : decode prog_9_method_62_code 41 = .ok (.iaload, 1)))))))
     (sd_br
      (sd_br
       (sd_br
        (sd_lf (sd_iret (by decide +kernel : decode prog_9_method_62_code 42 = .ok (.ireturn, 1)) rfl))
        (sd_lf (sd_aload_n (k := 0) (by decide +kernel : decode prog_9_method_62_code 43 = .ok (.aload_n 0, 1)))))
       (sd_br
        (sd_lf (sd_getf (q := (RX7, TX7, 16)) (by decide +kernel : decode prog_9_method_62_code 44 = .ok (.getfield 7, 3)) rfl (by decide +kernel) (gm 913 (by decide +kernel) rfl)))
        (sd_lf (sd_iload_n (k := 1) (by decide +kernel : decode prog_9_method_62_code 47 = .ok (.iload_n 1, 1))))))
      (sd_br
       (sd_br
        (sd_lf (sd_iconst (by decide +kernel : decode prog_9_method_62_code 48 = .ok (.iconst 1, 1)) (by decide +kernel)))
        (sd_lf (sd_pureS (sd_callS (by decide +kernel : decode prog_9_method_62_code 49 = .ok (.invokestatic 44, 3)) ok_Mo_at (gm 993 (by decide +kernel) rfl) (gm 994 (by decide +kernel) rfl) (by decide +kernel) rfl rfl) c_Mo_at)))
       (sd_br
        (sd_lf (sd_iaload (by decide +kernel : decode prog_9_method_62_code 52 = .ok (.iaload, 1))))
        (sd_br
         (sd_lf (sd_iret (by decide +kernel : decode prog_9_method_62_code 53 = .ok (.ireturn, 1)) rfl))
         (sd_lf (sd_aload_n (k := 0) (by decide +kernel : decode prog_9_method_62_code 54 = .ok (.aload_n 0, 1)))))))))
    (sd_br
     (sd_br
      (sd_br
       (sd_br
        (sd_lf (sd_iload_n (k := 1) (by decide +kernel : decode prog_9_method_62_code 55 = .ok (.iload_n 1, 1))))
        (sd_lf (sd_pureV (sd_callV (q := (RX7, TX7, 16)) (by decide +kernel : decode prog_9_method_62_code 56 = .ok (.invokevirtual 202, 3)) ok_Mo_depth (gm 1199 (by decide +kernel) rfl) (gm 1201 (by decide +kernel) rfl) (gm 63 (by decide +kernel) rfl) rfl rfl (by decide +kernel) rfl rfl) c_Mo_depth)))
       (sd_br
        (sd_lf (sd_iret (by decide +kernel : decode prog_9_method_62_code 59 = .ok (.ireturn, 1)) rfl))
        (sd_lf (sd_aload_n (k := 0) (by decide +kernel : decode prog_9_method_62_code 60 = .ok (.aload_n 0, 1))))))
      (sd_br
       (sd_br
        (sd_lf (sd_iload_n (k := 1) (by decide +kernel : decode prog_9_method_62_code 61 = .ok (.iload_n 1, 1))))
        (sd_lf (sd_pureV (sd_callV (q := (RX7, TX7, 16)) (by decide +kernel : decode prog_9_method_62_code 62 = .ok (.invokevirtual 205, 3)) ok_Mo_hostsBehind (gm 1203 (by decide +kernel) rfl) (gm 1205 (by decide +kernel) rfl) (gm 64 (by decide +kernel) rfl) rfl rfl (by decide +kernel) rfl rfl) c_Mo_hostsBehind)))
       (sd_br
        (sd_lf (sd_iret (by decide +kernel : decode prog_9_method_62_code 65 = .ok (.ireturn, 1)) rfl))
        (sd_br
         (sd_lf (sd_aload_n (k := 0) (by decide +kernel : decode prog_9_method_62_code 66 = .ok (.aload_n 0, 1))))
         (sd_lf (sd_getf (q := (RX7, TX7, 16)) (by decide +kernel : decode prog_9_method_62_code 67 = .ok (.getfield 7, 3)) rfl (by decide +kernel) (gm 913 (by decide +kernel) rfl)))))))
     (sd_br
      (sd_br
       (sd_br
        (sd_lf (sd_iload_n (k := 1) (by decide +kernel : decode prog_9_method_62_code 70 = .ok (.iload_n 1, 1))))
        (sd_lf (sd_bipush (by decide +kernel : decode prog_9_method_62_code 71 = .ok (.bipush 12, 2)) (by decide +kernel))))
       (sd_br
        (sd_lf (sd_iload_n (k := 2) (by decide +kernel : decode prog_9_method_62_code 73 = .ok (.iload_n 2, 1))))
        (sd_lf (sd_iadd (by decide +kernel : decode prog_9_method_62_code 74 = .ok (.iadd, 1))))))
      (sd_br
       (sd_br
        (sd_lf (sd_iconst (by decide +kernel : decode prog_9_method_62_code 75 = .ok (.iconst 4, 1)) (by decide +kernel)))
        (sd_lf (sd_isub (by decide +kernel : decode prog_9_method_62_code 76 = .ok (.isub, 1)))))
       (sd_br
        (sd_lf (sd_pureS (sd_callS (by decide +kernel : decode prog_9_method_62_code 77 = .ok (.invokestatic 44, 3)) ok_Mo_at (gm 993 (by decide +kernel) rfl) (gm 994 (by decide +kernel) rfl) (by decide +kernel) rfl rfl) c_Mo_at))
        (sd_br
         (sd_lf (sd_iaload (by decide +kernel : decode prog_9_method_62_code 80 = .ok (.iaload, 1))))
         (sd_lf (sd_iret (by decide +kernel : decode prog_9_method_62_code 81 = .ok (.ireturn, 1)) rfl))))))))
def k_Mo_translatorNow (l : Launch) (G : Gc) (pc : Nat) : Tr :=
  if pc < 24 then
   if pc < 12 then
    if pc < 6 then
     if pc < 1 then
      if pc = 0 then tz_iload 1 2 else dead
     else
      if pc < 3 then
       if pc = 1 then tz_const 3 (.int (nI 7)) else dead
      else
       if pc = 3 then tz_icmp 6 21 (fun a b => b ≤ a) else dead
    else
     if pc < 10 then
      if pc < 7 then
       if pc = 6 then tz_aload 7 0 else dead
      else
       if pc = 7 then tz_getf 10 7 1 1 else dead
     else
      if pc < 11 then
       if pc = 10 then tz_iload 11 1 else dead
      else
       if pc = 11 then tz_const 12 (.int (nI 2)) else dead
   else
    if pc < 17 then
     if pc < 13 then
      if pc = 12 then tz_iload 13 2 else dead
     else
      if pc < 14 then
       if pc = 13 then tz_i2 14 (fun a b => a + b) else dead
      else
       if pc = 14 then tz_pureS 17 2 P_Mo_at f_Mo_at else dead
    else
     if pc < 21 then
      if pc < 18 then
       if pc = 17 then tz_iaload 18 else dead
      else
       if pc = 18 then tz_goto 52 else dead
     else
      if pc < 22 then
       if pc = 21 then tz_iload 22 2 else dead
      else
       if pc = 22 then tz_const 24 (.int (nI 7)) else dead
  else
   if pc < 38 then
    if pc < 31 then
     if pc < 27 then
      if pc = 24 then tz_icmp 27 41 (fun a b => ¬ a = b) else dead
     else
      if pc < 28 then
       if pc = 27 then tz_aload 28 0 else dead
      else
       if pc = 28 then tz_getf 31 7 1 1 else dead
    else
     if pc < 34 then
      if pc < 32 then
       if pc = 31 then tz_iload 32 1 else dead
      else
       if pc = 32 then tz_const 34 (.int (nI 11)) else dead
     else
      if pc < 37 then
       if pc = 34 then tz_pureS 37 2 P_Mo_at f_Mo_at else dead
      else
       if pc = 37 then tz_iaload 38 else dead
   else
    if pc < 46 then
     if pc < 42 then
      if pc < 41 then
       if pc = 38 then tz_goto 52 else dead
      else
       if pc = 41 then tz_aload 42 0 else dead
     else
      if pc < 45 then
       if pc = 42 then tz_getf 45 7 1 1 else dead
      else
       if pc = 45 then tz_iload 46 1 else dead
    else
     if pc < 51 then
      if pc < 48 then
       if pc = 46 then tz_const 48 (.int (nI 9)) else dead
      else
       if pc = 48 then tz_pureS 51 2 P_Mo_at f_Mo_at else dead
     else
      if pc < 52 then
       if pc = 51 then tz_iaload 52 else dead
      else
       if pc = 52 then tz_iret else dead
set_option maxRecDepth 100000 in
theorem T_Mo_translatorNow (l : Launch) (G : Gc) : TabOK l G M_Mo_translatorNow (k_Mo_translatorNow l G) := by
  intro pc
  unfold k_Mo_translatorNow
  exact
   (sd_br
    (sd_br
     (sd_br
      (sd_br
       (sd_lf (sd_iload_n (k := 2) (by decide +kernel : decode prog_9_method_64_code 0 = .ok (.iload_n 2, 1))))
       (sd_br
        (sd_lf (sd_bipush (by decide +kernel : decode prog_9_method_64_code 1 = .ok (.bipush 7, 2)) (by decide +kernel)))
        (sd_lf (sd_icmp_ge (by decide +kernel : decode prog_9_method_64_code 3 = .ok (.if_icmp .ge 18, 3)) (by decide +kernel)))))
      (sd_br
       (sd_br
        (sd_lf (sd_aload_n (k := 0) (by decide +kernel : decode prog_9_method_64_code 6 = .ok (.aload_n 0, 1))))
        (sd_lf (sd_getf (q := (RX7, TX7, 16)) (by decide +kernel : decode prog_9_method_64_code 7 = .ok (.getfield 7, 3)) rfl (by decide +kernel) (gm 913 (by decide +kernel) rfl))))
       (sd_br
        (sd_lf (sd_iload_n (k := 1) (by decide +kernel : decode prog_9_method_64_code 10 = .ok (.iload_n 1, 1))))
        (sd_lf (sd_iconst (by decide +kernel : decode prog_9_method_64_code 11 = .ok (.iconst 2, 1)) (by decide +kernel))))))
     (sd_br
      (sd_br
       (sd_lf (sd_iload_n (k := 2) (by decide +kernel : decode prog_9_method_64_code 12 = .ok (.iload_n 2, 1))))
       (sd_br
        (sd_lf (sd_iadd (by decide +kernel : decode prog_9_method_64_code 13 = .ok (.iadd, 1))))
        (sd_lf (sd_pureS (sd_callS (by decide +kernel : decode prog_9_method_64_code 14 = .ok (.invokestatic 44, 3)) ok_Mo_at (gm 993 (by decide +kernel) rfl) (gm 994 (by decide +kernel) rfl) (by decide +kernel) rfl rfl) c_Mo_at))))
      (sd_br
       (sd_br
        (sd_lf (sd_iaload (by decide +kernel : decode prog_9_method_64_code 17 = .ok (.iaload, 1))))
        (sd_lf (sd_goto (by decide +kernel : decode prog_9_method_64_code 18 = .ok (.goto 34, 3)) (by decide +kernel))))
       (sd_br
        (sd_lf (sd_iload_n (k := 2) (by decide +kernel : decode prog_9_method_64_code 21 = .ok (.iload_n 2, 1))))
        (sd_lf (sd_bipush (by decide +kernel : decode prog_9_method_64_code 22 = .ok (.bipush 7, 2)) (by decide +kernel)))))))
    (sd_br
     (sd_br
      (sd_br
       (sd_lf (sd_icmp_ne (by decide +kernel : decode prog_9_method_64_code 24 = .ok (.if_icmp .ne 17, 3)) (by decide +kernel)))
       (sd_br
        (sd_lf (sd_aload_n (k := 0) (by decide +kernel : decode prog_9_method_64_code 27 = .ok (.aload_n 0, 1))))
        (sd_lf (sd_getf (q := (RX7, TX7, 16)) (by decide +kernel : decode prog_9_method_64_code 28 = .ok (.getfield 7, 3)) rfl (by decide +kernel) (gm 913 (by decide +kernel) rfl)))))
      (sd_br
       (sd_br
        (sd_lf (sd_iload_n (k := 1) (by decide +kernel : decode prog_9_method_64_code 31 = .ok (.iload_n 1, 1))))
        (sd_lf (sd_bipush (by decide +kernel : decode prog_9_method_64_code 32 = .ok (.bipush 11, 2)) (by decide +kernel))))
       (sd_br
        (sd_lf (sd_pureS (sd_callS (by decide +kernel : decode prog_9_method_64_code 34 = .ok (.invokestatic 44, 3)) ok_Mo_at (gm 993 (by decide +kernel) rfl) (gm 994 (by decide +kernel) rfl) (by decide +kernel) rfl rfl) c_Mo_at))
        (sd_lf (sd_iaload (by decide +kernel : decode prog_9_method_64_code 37 = .ok (.iaload, 1)))))))
     (sd_br
      (sd_br
       (sd_br
        (sd_lf (sd_goto (by decide +kernel : decode prog_9_method_64_code 38 = .ok (.goto 14, 3)) (by decide +kernel)))
        (sd_lf (sd_aload_n (k := 0) (by decide +kernel : decode prog_9_method_64_code 41 = .ok (.aload_n 0, 1)))))
       (sd_br
        (sd_lf (sd_getf (q := (RX7, TX7, 16)) (by decide +kernel : decode prog_9_method_64_code 42 = .ok (.getfield 7, 3)) rfl (by decide +kernel) (gm 913 (by decide +kernel) rfl)))
        (sd_lf (sd_iload_n (k := 1) (by decide +kernel : decode prog_9_method_64_code 45 = .ok (.iload_n 1, 1))))))
      (sd_br
       (sd_br
        (sd_lf (sd_bipush (by decide +kernel : decode prog_9_method_64_code 46 = .ok (.bipush 9, 2)) (by decide +kernel)))
        (sd_lf (sd_pureS (sd_callS (by decide +kernel : decode prog_9_method_64_code 48 = .ok (.invokestatic 44, 3)) ok_Mo_at (gm 993 (by decide +kernel) rfl) (gm 994 (by decide +kernel) rfl) (by decide +kernel) rfl rfl) c_Mo_at)))
       (sd_br
        (sd_lf (sd_iaload (by decide +kernel : decode prog_9_method_64_code 51 = .ok (.iaload, 1))))
        (sd_lf (sd_iret (by decide +kernel : decode prog_9_method_64_code 52 = .ok (.ireturn, 1)) rfl)))))))
def k_Mo_mappingNow (l : Launch) (G : Gc) (pc : Nat) : Tr :=
  if pc < 21 then
   if pc < 10 then
    if pc < 5 then
     if pc < 1 then
      if pc = 0 then tz_iload 1 3 else dead
     else
      if pc < 2 then
       if pc = 1 then tz_const 2 (.int (nI 5)) else dead
      else
       if pc = 2 then tz_icmp 5 19 (fun a b => b ≤ a) else dead
    else
     if pc < 6 then
      if pc = 5 then tz_aload 6 0 else dead
     else
      if pc < 9 then
       if pc = 6 then tz_getf 9 7 1 1 else dead
      else
       if pc = 9 then tz_iload 10 1 else dead
   else
    if pc < 15 then
     if pc < 11 then
      if pc = 10 then tz_iload 11 2 else dead
     else
      if pc < 12 then
       if pc = 11 then tz_iload 12 3 else dead
      else
       if pc = 12 then tz_pureS 15 3 P_Mo_map f_Mo_map else dead
    else
     if pc < 19 then
      if pc < 16 then
       if pc = 15 then tz_iaload 16 else dead
      else
       if pc = 16 then tz_goto 45 else dead
     else
      if pc < 20 then
       if pc = 19 then tz_iload 20 3 else dead
      else
       if pc = 20 then tz_const 21 (.int (nI 5)) else dead
  else
   if pc < 34 then
    if pc < 26 then
     if pc < 24 then
      if pc = 21 then tz_icmp 24 33 (fun a b => ¬ a = b) else dead
     else
      if pc < 25 then
       if pc = 24 then tz_aload 25 0 else dead
      else
       if pc = 25 then tz_iload 26 1 else dead
    else
     if pc < 30 then
      if pc < 27 then
       if pc = 26 then tz_iload 27 2 else dead
      else
       if pc = 27 then tz_pureV 30 2 7 P_Mo_lives f_Mo_lives else dead
     else
      if pc < 33 then
       if pc = 30 then tz_goto 45 else dead
      else
       if pc = 33 then tz_aload 34 0 else dead
   else
    if pc < 39 then
     if pc < 37 then
      if pc = 34 then tz_getf 37 7 1 1 else dead
     else
      if pc < 38 then
       if pc = 37 then tz_iload 38 1 else dead
      else
       if pc = 38 then tz_iload 39 2 else dead
    else
     if pc < 44 then
      if pc < 41 then
       if pc = 39 then tz_const 41 (.int (nI 6)) else dead
      else
       if pc = 41 then tz_pureS 44 3 P_Mo_map f_Mo_map else dead
     else
      if pc < 45 then
       if pc = 44 then tz_iaload 45 else dead
      else
       if pc = 45 then tz_iret else dead
set_option maxRecDepth 100000 in
theorem T_Mo_mappingNow (l : Launch) (G : Gc) : TabOK l G M_Mo_mappingNow (k_Mo_mappingNow l G) := by
  intro pc
  unfold k_Mo_mappingNow
  exact
   (sd_br
    (sd_br
     (sd_br
      (sd_br
       (sd_lf (sd_iload_n (k := 3) (by decide +kernel : decode prog_9_method_66_code 0 = .ok (.iload_n 3, 1))))
       (sd_br
        (sd_lf (sd_iconst (by decide +kernel : decode prog_9_method_66_code 1 = .ok (.iconst 5, 1)) (by decide +kernel)))
        (sd_lf (sd_icmp_ge (by decide +kernel : decode prog_9_method_66_code 2 = .ok (.if_icmp .ge 17, 3)) (by decide +kernel)))))
      (sd_br
       (sd_lf (sd_aload_n (k := 0) (by decide +kernel : decode prog_9_method_66_code 5 = .ok (.aload_n 0, 1))))
       (sd_br
        (sd_lf (sd_getf (q := (RX7, TX7, 16)) (by decide +kernel : decode prog_9_method_66_code 6 = .ok (.getfield 7, 3)) rfl (by decide +kernel) (gm 913 (by decide +kernel) rfl)))
        (sd_lf (sd_iload_n (k := 1) (by decide +kernel : decode prog_9_method_66_code 9 = .ok (.iload_n 1, 1)))))))
     (sd_br
      (sd_br
       (sd_lf (sd_iload_n (k := 2) (by decide +kernel : decode prog_9_method_66_code 10 = .ok (.iload_n 2, 1))))
       (sd_br
        (sd_lf (sd_iload_n (k := 3) (by decide +kernel : decode prog_9_method_66_code 11 = .ok (.iload_n 3, 1))))
        (sd_lf (sd_pureS (sd_callS (by decide +kernel : decode prog_9_method_66_code 12 = .ok (.invokestatic 73, 3)) ok_Mo_map (gm 1020 (by decide +kernel) rfl) (gm 1021 (by decide +kernel) rfl) (by decide +kernel) rfl rfl) c_Mo_map))))
      (sd_br
       (sd_br
        (sd_lf (sd_iaload (by decide +kernel : decode prog_9_method_66_code 15 = .ok (.iaload, 1))))
        (sd_lf (sd_goto (by decide +kernel : decode prog_9_method_66_code 16 = .ok (.goto 29, 3)) (by decide +kernel))))
       (sd_br
        (sd_lf (sd_iload_n (k := 3) (by decide +kernel : decode prog_9_method_66_code 19 = .ok (.iload_n 3, 1))))
        (sd_lf (sd_iconst (by decide +kernel : decode prog_9_method_66_code 20 = .ok (.iconst 5, 1)) (by decide +kernel)))))))
    (sd_br
     (sd_br
      (sd_br
       (sd_lf (sd_icmp_ne (by decide +kernel : decode prog_9_method_66_code 21 = .ok (.if_icmp .ne 12, 3)) (by decide +kernel)))
       (sd_br
        (sd_lf (sd_aload_n (k := 0) (by decide +kernel : decode prog_9_method_66_code 24 = .ok (.aload_n 0, 1))))
        (sd_lf (sd_iload_n (k := 1) (by decide +kernel : decode prog_9_method_66_code 25 = .ok (.iload_n 1, 1))))))
      (sd_br
       (sd_br
        (sd_lf (sd_iload_n (k := 2) (by decide +kernel : decode prog_9_method_66_code 26 = .ok (.iload_n 2, 1))))
        (sd_lf (sd_pureV (sd_callV (q := (RX7, TX7, 16)) (by decide +kernel : decode prog_9_method_66_code 27 = .ok (.invokevirtual 80, 3)) ok_Mo_lives (gm 1016 (by decide +kernel) rfl) (gm 1018 (by decide +kernel) rfl) (gm 35 (by decide +kernel) rfl) rfl rfl (by decide +kernel) rfl rfl) c_Mo_lives)))
       (sd_br
        (sd_lf (sd_goto (by decide +kernel : decode prog_9_method_66_code 30 = .ok (.goto 15, 3)) (by decide +kernel)))
        (sd_lf (sd_aload_n (k := 0) (by decide +kernel : decode prog_9_method_66_code 33 = .ok (.aload_n 0, 1)))))))
     (sd_br
      (sd_br
       (sd_lf (sd_getf (q := (RX7, TX7, 16)) (by decide +kernel : decode prog_9_method_66_code 34 = .ok (.getfield 7, 3)) rfl (by decide +kernel) (gm 913 (by decide +kernel) rfl)))
       (sd_br
        (sd_lf (sd_iload_n (k := 1) (by decide +kernel : decode prog_9_method_66_code 37 = .ok (.iload_n 1, 1))))
        (sd_lf (sd_iload_n (k := 2) (by decide +kernel : decode prog_9_method_66_code 38 = .ok (.iload_n 2, 1))))))
      (sd_br
       (sd_br
        (sd_lf (sd_bipush (by decide +kernel : decode prog_9_method_66_code 39 = .ok (.bipush 6, 2)) (by decide +kernel)))
        (sd_lf (sd_pureS (sd_callS (by decide +kernel : decode prog_9_method_66_code 41 = .ok (.invokestatic 73, 3)) ok_Mo_map (gm 1020 (by decide +kernel) rfl) (gm 1021 (by decide +kernel) rfl) (by decide +kernel) rfl rfl) c_Mo_map)))
       (sd_br
        (sd_lf (sd_iaload (by decide +kernel : decode prog_9_method_66_code 44 = .ok (.iaload, 1))))
        (sd_lf (sd_iret (by decide +kernel : decode prog_9_method_66_code 45 = .ok (.ireturn, 1)) rfl)))))))
def k_Mo_leastLeft (l : Launch) (G : Gc) (pc : Nat) : Tr :=
  if pc < 64 then
   if pc < 31 then
    if pc < 15 then
     if pc < 6 then
      if pc < 4 then
       if pc < 1 then
        if pc = 0 then tz_aload 1 0 else dead
       else
        if pc = 1 then tz_getf 4 7 1 1 else dead
      else
       if pc < 5 then
        if pc = 4 then tz_iload 5 1 else dead
       else
        if pc = 5 then tz_const 6 (.int (nI 1)) else dead
     else
      if pc < 10 then
       if pc < 9 then
        if pc = 6 then tz_pureS 9 2 P_Mo_at f_Mo_at else dead
       else
        if pc = 9 then tz_iaload 10 else dead
      else
       if pc < 12 then
        if pc = 10 then tz_istore 12 5 else dead
       else
        if pc < 13 then
         if pc = 12 then tz_iload 13 1 else dead
        else
         if pc = 13 then tz_istore 15 6 else dead
    else
     if pc < 21 then
      if pc < 18 then
       if pc < 16 then
        if pc = 15 then tz_iload 16 2 else dead
       else
        if pc = 16 then tz_istore 18 7 else dead
      else
       if pc < 19 then
        if pc = 18 then tz_const 19 (.int (nN)) else dead
       else
        if pc = 19 then tz_istore 21 8 else dead
     else
      if pc < 24 then
       if pc < 23 then
        if pc = 21 then tz_iload 23 5 else dead
       else
        if pc = 23 then tz_const 24 (.int (nN)) else dead
      else
       if pc < 27 then
        if pc = 24 then tz_icmp 27 134 (fun a b => a = b) else dead
       else
        if pc < 28 then
         if pc = 27 then tz_aload 28 0 else dead
        else
         if pc = 28 then tz_getf 31 7 1 1 else dead
   else
    if pc < 47 then
     if pc < 37 then
      if pc < 33 then
       if pc < 32 then
        if pc = 31 then tz_iload 32 3 else dead
       else
        if pc = 32 then tz_const 33 (.int (nI 1)) else dead
      else
       if pc < 36 then
        if pc = 33 then tz_pureS 36 2 P_Mo_at f_Mo_at else dead
       else
        if pc = 36 then tz_iaload 37 else dead
     else
      if pc < 42 then
       if pc < 39 then
        if pc = 37 then tz_iload 39 5 else dead
       else
        if pc = 39 then tz_icmp 42 134 (fun a b => a = b) else dead
      else
       if pc < 43 then
        if pc = 42 then tz_aload 43 0 else dead
       else
        if pc < 45 then
         if pc = 43 then tz_iload 45 5 else dead
        else
         if pc = 45 then tz_iload 47 6 else dead
    else
     if pc < 55 then
      if pc < 50 then
       if pc < 49 then
        if pc = 47 then tz_iload 49 7 else dead
       else
        if pc = 49 then tz_iload 50 3 else dead
      else
       if pc < 52 then
        if pc = 50 then tz_iload 52 4 else dead
       else
        if pc = 52 then tz_pureV 55 5 7 P_Mo_mappingFor f_Mo_mappingFor else dead
     else
      if pc < 59 then
       if pc < 57 then
        if pc = 55 then tz_istore 57 9 else dead
       else
        if pc = 57 then tz_iload 59 9 else dead
      else
       if pc < 60 then
        if pc = 59 then tz_const 60 (.int (nN)) else dead
       else
        if pc < 63 then
         if pc = 60 then tz_icmp 63 65 (fun a b => ¬ a = b) else dead
        else
         if pc = 63 then tz_const 64 (.int (nN)) else dead
  else
   if pc < 101 then
    if pc < 81 then
     if pc < 71 then
      if pc < 67 then
       if pc < 65 then
        if pc = 64 then tz_iret else dead
       else
        if pc = 65 then tz_iload 67 8 else dead
      else
       if pc < 68 then
        if pc = 67 then tz_const 68 (.int (nN)) else dead
       else
        if pc = 68 then tz_icmp 71 84 (fun a b => a = b) else dead
     else
      if pc < 74 then
       if pc < 72 then
        if pc = 71 then tz_aload 72 0 else dead
       else
        if pc = 72 then tz_iload 74 5 else dead
      else
       if pc < 76 then
        if pc = 74 then tz_iload 76 9 else dead
       else
        if pc < 79 then
         if pc = 76 then tz_pureV 79 2 7 P_Mo_lives f_Mo_lives else dead
        else
         if pc = 79 then tz_iload 81 8 else dead
    else
     if pc < 89 then
      if pc < 85 then
       if pc < 84 then
        if pc = 81 then tz_icmp 84 95 (fun a b => b ≤ a) else dead
       else
        if pc = 84 then tz_aload 85 0 else dead
      else
       if pc < 87 then
        if pc = 85 then tz_iload 87 5 else dead
       else
        if pc = 87 then tz_iload 89 9 else dead
     else
      if pc < 95 then
       if pc < 92 then
        if pc = 89 then tz_pureV 92 2 7 P_Mo_lives f_Mo_lives else dead
       else
        if pc = 92 then tz_goto 97 else dead
      else
       if pc < 97 then
        if pc = 95 then tz_iload 97 8 else dead
       else
        if pc < 99 then
         if pc = 97 then tz_istore 99 8 else dead
        else
         if pc = 99 then tz_iload 101 5 else dead
   else
    if pc < 118 then
     if pc < 109 then
      if pc < 104 then
       if pc < 103 then
        if pc = 101 then tz_istore 103 6 else dead
       else
        if pc = 103 then tz_aload 104 0 else dead
      else
       if pc < 107 then
        if pc = 104 then tz_getf 107 7 1 1 else dead
       else
        if pc = 107 then tz_iload 109 5 else dead
     else
      if pc < 112 then
       if pc < 111 then
        if pc = 109 then tz_iload 111 9 else dead
       else
        if pc = 111 then tz_const 112 (.int (nI 2)) else dead
      else
       if pc < 115 then
        if pc = 112 then tz_pureS 115 3 P_Mo_map f_Mo_map else dead
       else
        if pc < 116 then
         if pc = 115 then tz_iaload 116 else dead
        else
         if pc = 116 then tz_istore 118 7 else dead
    else
     if pc < 128 then
      if pc < 122 then
       if pc < 119 then
        if pc = 118 then tz_aload 119 0 else dead
       else
        if pc = 119 then tz_getf 122 7 1 1 else dead
      else
       if pc < 124 then
        if pc = 122 then tz_iload 124 5 else dead
       else
        if pc < 125 then
         if pc = 124 then tz_const 125 (.int (nI 1)) else dead
        else
         if pc = 125 then tz_pureS 128 2 P_Mo_at f_Mo_at else dead
     else
      if pc < 131 then
       if pc < 129 then
        if pc = 128 then tz_iaload 129 else dead
       else
        if pc = 129 then tz_istore 131 5 else dead
      else
       if pc < 134 then
        if pc = 131 then tz_goto 21 else dead
       else
        if pc < 136 then
         if pc = 134 then tz_iload 136 8 else dead
        else
         if pc = 136 then tz_iret else dead
set_option maxRecDepth 100000 in
theorem T_Mo_leastLeft (l : Launch) (G : Gc) : TabOK l G M_Mo_leastLeft (k_Mo_leastLeft l G) := by
  intro pc
  unfold k_Mo_leastLeft
  exact
   (sd_br
    (sd_br
     (sd_br
      (sd_br
       (sd_br
        (sd_br
         (sd_lf (sd_aload_n (k := 0) (by decide +kernel : decode prog_9_method_68_code 0 = .ok (.aload_n 0, 1))))
         (sd_lf (sd_getf (q := (RX7, TX7, 16)) (by decide +kernel : decode prog_9_method_68_code 1 = .ok (.getfield 7, 3)) rfl (by decide +kernel) (gm 913 (by decide +kernel) rfl))))
        (sd_br
         (sd_lf (sd_iload_n (k := 1) (by decide +kernel : decode prog_9_method_68_code 4 = .ok (.iload_n 1, 1))))
         (sd_lf (sd_iconst (by decide +kernel : decode prog_9_method_68_code 5 = .ok (.iconst 1, 1)) (by decide +kernel)))))
       (sd_br
        (sd_br
         (sd_lf (sd_pureS (sd_callS (by decide +kernel : decode prog_9_method_68_code 6 = .ok (.invokestatic 44, 3)) ok_Mo_at (gm 993 (by decide +kernel) rfl) (gm 994 (by decide +kernel) rfl) (by decide +kernel) rfl rfl) c_Mo_at))
         (sd_lf (sd_iaload (by decide +kernel : decode prog_9_method_68_code 9 = .ok (.iaload, 1)))))
        (sd_br
         (sd_lf (sd_istore (by decide +kernel : decode prog_9_method_68_code 10 = .ok (.istore 5, 2))))
         (sd_br
          (sd_lf (sd_iload_n (k := 1) (by decide +kernel : decode prog_9_method_68_code 12 = .ok (.iload_n 1, 1))))
          (sd_lf (sd_istore (by decide +kernel : decode prog_9_method_68_code 13 = .ok (.istore 6, 2))))))))
      (sd_br
       (sd_br
        (sd_br
         (sd_lf (sd_iload_n (k := 2) (by decide +kernel : decode prog_9_method_68_code 15 = .ok (.iload_n 2, 1))))
         (sd_lf (sd_istore (by decide +kernel : decode prog_9_method_68_code 16 = .ok (.istore 7, 2)))))
        (sd_br
         (sd_lf (sd_iconst (by decide +kernel : decode prog_9_method_68_code 18 = .ok (.iconst (-1), 1)) (by decide +kernel)))
         (sd_lf (sd_istore (by decide +kernel : decode prog_9_method_68_code 19 = .ok (.istore 8, 2))))))
       (sd_br
        (sd_br
         (sd_lf (sd_iload (by decide +kernel : decode prog_9_method_68_code 21 = .ok (.iload 5, 2))))
         (sd_lf (sd_iconst (by decide +kernel : decode prog_9_method_68_code 23 = .ok (.iconst (-1), 1)) (by decide +kernel))))
        (sd_br
         (sd_lf (sd_icmp_eq (by decide +kernel : decode prog_9_method_68_code 24 = .ok (.if_icmp .eq 110, 3)) (by decide +kernel)))
         (sd_br
          (sd_lf (sd_aload_n (k := 0) (by decide +kernel : decode prog_9_method_68_code 27 = .ok (.aload_n 0, 1))))
          (sd_lf (sd_getf (q := (RX7, TX7, 16)) (by decide +kernel : decode prog_9_method_68_code 28 = .ok (.getfield 7, 3)) rfl (by decide +kernel) (gm 913 (by decide +kernel) rfl))))))))
     (sd_br
      (sd_br
       (sd_br
        (sd_br
         (sd_lf (sd_iload_n (k := 3) (by decide +kernel : decode prog_9_method_68_code 31 = .ok (.iload_n 3, 1))))
         (sd_lf (sd_iconst (by decide +kernel : decode prog_9_method_68_code 32 = .ok (.iconst 1, 1)) (by decide +kernel))))
        (sd_br
         (sd_lf (sd_pureS (sd_callS (by decide +kernel : decode prog_9_method_68_code 33 = .ok (.invokestatic 44, 3)) ok_Mo_at (gm 993 (by decide +kernel) rfl) (gm 994 (by decide +kernel) rfl) (by decide +kernel) rfl rfl) c_Mo_at))
         (sd_lf (sd_iaload (by decide +kernel : decode prog_9_method_68_code 36 = .ok (.iaload, 1))))))
       (sd_br
        (sd_br
         (sd_lf (sd_iload (by decide +kernel : decode prog_9_method_68_code 37 = .ok (.iload 5, 2))))
         (sd_lf (sd_icmp_eq (by decide +kernel : decode prog_9_method_68_code 39 = .ok (.if_icmp .eq 95, 3)) (by decide +kernel))))
        (sd_br
         (sd_lf (sd_aload_n (k := 0) (by decide +kernel : decode prog_9_method_68_code 42 = .ok (.aload_n 0, 1))))
         (sd_br
          (sd_lf (sd_iload (by decide +kernel : decode prog_9_method_68_code 43 = .ok (.iload 5, 2))))
          (sd_lf (sd_iload (by decide +kernel : decode prog_9_method_68_code 45 = .ok (.iload 6, 2))))))))
      (sd_br
       (sd_br
        (sd_br
         (sd_lf (sd_iload (by decide +kernel : decode prog_9_method_68_code 47 = .ok (.iload 7, 2))))
         (sd_lf (sd_iload_n (k := 3) (by decide +kernel : decode prog_9_method_68_code 49 = .ok (.iload_n 3, 1)))))
        (sd_br
         (sd_lf (sd_iload (by decide +kernel : decode prog_9_method_68_code 50 = .ok (.iload 4, 2))))
         (sd_lf (sd_pureV (sd_callV (q := (RX7, TX7, 16)) (by decide +kernel : decode prog_9_method_68_code 52 = .ok (.invokevirtual 139, 3)) ok_Mo_mappingFor (gm 1102 (by decide +kernel) rfl) (gm 1104 (by decide +kernel) rfl) (gm 46 (by decide +kernel) rfl) rfl rfl (by decide +kernel) rfl rfl) c_Mo_mappingFor))))
       (sd_br
        (sd_br
         (sd_lf (sd_istore (by decide +kernel : decode prog_9_method_68_code 55 = .ok (.istore 9, 2))))
         (sd_lf (sd_iload (by decide +kernel : decode prog_9_method_68_code 57 = .ok (.iload 9, 2)))))
        (sd_br
         (sd_lf (sd_iconst (by decide +kernel : decode prog_9_method_68_code 59 = .ok (.iconst (-1), 1)) (by decide +kernel)))
         (sd_br
          (sd_lf (sd_icmp_ne (by decide +kernel : decode prog_9_method_68_code 60 = .ok (.if_icmp .ne 5, 3)) (by decide +kernel)))
          (sd_lf (sd_iconst (by decide +kernel : decode prog_9_method_68_code 63 = .ok (.iconst (-1), 1)) (by decide +kernel)))))))))
    (sd_br
     (sd_br
      (sd_br
       (sd_br
        (sd_br
         (sd_lf (sd_iret (by decide +kernel : decode prog_9_method_68_code 64 = .ok (.ireturn, 1)) rfl))
         (sd_lf (sd_iload (by decide +kernel : decode prog_9_method_68_code 65 = .ok (.iload 8, 2)))))
        (sd_br
         (sd_lf (sd_iconst (by decide +kernel : decode prog_9_method_68_code 67 = .ok (.iconst (-1), 1)) (by decide +kernel)))
         (sd_lf (sd_icmp_eq (by decide +kernel : decode prog_9_method_68_code 68 = .ok (.if_icmp .eq 16, 3)) (by decide +kernel)))))
       (sd_br
        (sd_br
         (sd_lf (sd_aload_n (k := 0) (by decide +kernel : decode prog_9_method_68_code 71 = .ok (.aload_n 0, 1))))
         (sd_lf (sd_iload (by decide +kernel : decode prog_9_method_68_code 72 = .ok (.iload 5, 2)))))
        (sd_br
         (sd_lf (sd_iload (by decide +kernel : decode prog_9_method_68_code 74 = .ok (.iload 9, 2))))
         (sd_br
          (sd_lf (sd_pureV (sd_callV (q := (RX7, TX7, 16)) (by decide +kernel : decode prog_9_method_68_code 76 = .ok (.invokevirtual 80, 3)) ok_Mo_lives (gm 1016 (by decide +kernel) rfl) (gm 1018 (by decide +kernel) rfl) (gm 35 (by decide +kernel) rfl) rfl rfl (by decide +kernel) rfl rfl) c_Mo_lives))
          (sd_lf (sd_iload (by decide +kernel : decode prog_9_method_68_code 79 = .ok (.iload 8, 2))))))))
      (sd_br
       (sd_br
        (sd_br
         (sd_lf (sd_icmp_ge (by decide +kernel : decode prog_9_method_68_code 81 = .ok (.if_icmp .ge 14, 3)) (by decide +kernel)))
         (sd_lf (sd_aload_n (k := 0) (by decide +kernel : decode prog_9_method_68_code 84 = .ok (.aload_n 0, 1)))))
        (sd_br
         (sd_lf (sd_iload (by decide +kernel : decode prog_9_method_68_code 85 = .ok (.iload 5, 2))))
         (sd_lf (sd_iload (by decide +kernel : decode prog_9_method_68_code 87 = .ok (.iload 9, 2))))))
       (sd_br
        (sd_br
         (sd_lf (sd_pureV (sd_callV (q := (RX7, TX7, 16)) (by decide +kernel : decode prog_9_method_68_code 89 = .ok (.invokevirtual 80, 3)) ok_Mo_lives (gm 1016 (by decide +kernel) rfl) (gm 1018 (by decide +kernel) rfl) (gm 35 (by decide +kernel) rfl) rfl rfl (by decide +kernel) rfl rfl) c_Mo_lives))
         (sd_lf (sd_goto (by decide +kernel : decode prog_9_method_68_code 92 = .ok (.goto 5, 3)) (by decide +kernel))))
        (sd_br
         (sd_lf (sd_iload (by decide +kernel : decode prog_9_method_68_code 95 = .ok (.iload 8, 2))))
         (sd_br
          (sd_lf (sd_istore (by decide +kernel : decode prog_9_method_68_code 97 = .ok (.istore 8, 2))))
          (sd_lf (sd_iload (by decide +kernel : decode prog_9_method_68_code 99 = .ok (.iload 5, 2)))))))))
     (sd_br
      (sd_br
       (sd_br
        (sd_br
         (sd_lf (sd_istore (by decide +kernel : decode prog_9_method_68_code 101 = .ok (.istore 6, 2))))
         (sd_lf (sd_aload_n (k := 0) (by decide +kernel : decode prog_9_method_68_code 103 = .ok (.aload_n 0, 1)))))
        (sd_br
         (sd_lf (sd_getf (q := (RX7, TX7, 16)) (by decide +kernel : decode prog_9_method_68_code 104 = .ok (.getfield 7, 3)) rfl (by decide +kernel) (gm 913 (by decide +kernel) rfl)))
         (sd_lf (sd_iload (by decide +kernel : decode prog_9_method_68_code 107 = .ok (.iload 5, 2))))))
       (sd_br
        (sd_br
         (sd_lf (sd_iload (by decide +kernel : decode prog_9_method_68_code 109 = .ok (.iload 9, 2))))
         (sd_lf (sd_iconst (by decide +kernel : decode prog_9_method_68_code 111 = .ok (.iconst 2, 1)) (by decide +kernel))))
        (sd_br
         (sd_lf (sd_pureS (sd_callS (by decide +kernel : decode prog_9_method_68_code 112 = .ok (.invokestatic 73, 3)) ok_Mo_map (gm 1020 (by decide +kernel) rfl) (gm 1021 (by decide +kernel) rfl) (by decide +kernel) rfl rfl) c_Mo_map))
         (sd_br
          (sd_lf (sd_iaload (by decide +kernel : decode prog_9_method_68_code 115 = .ok (.iaload, 1))))
          (sd_lf (sd_istore (by decide +kernel : decode prog_9_method_68_code 116 = .ok (.istore 7, 2))))))))
      (sd_br
       (sd_br
        (sd_br
         (sd_lf (sd_aload_n (k := 0) (by decide +kernel : decode prog_9_method_68_code 118 = .ok (.aload_n 0, 1))))
         (sd_lf (sd_getf (q := (RX7, TX7, 16)) (by decide +kernel : decode prog_9_method_68_code 119 = .ok (.getfield 7, 3)) rfl (by decide +kernel) (gm 913 (by decide +kernel) rfl))))
        (sd_br
         (sd_lf (sd_iload (by decide +kernel : decode prog_9_method_68_code 122 = .ok (.iload 5, 2))))
         (sd_br
          (sd_lf (sd_iconst (by decide +kernel : decode prog_9_method_68_code 124 = .ok (.iconst 1, 1)) (by decide +kernel)))
          (sd_lf (sd_pureS (sd_callS (by decide +kernel : decode prog_9_method_68_code 125 = .ok (.invokestatic 44, 3)) ok_Mo_at (gm 993 (by decide +kernel) rfl) (gm 994 (by decide +kernel) rfl) (by decide +kernel) rfl rfl) c_Mo_at)))))
       (sd_br
        (sd_br
         (sd_lf (sd_iaload (by decide +kernel : decode prog_9_method_68_code 128 = .ok (.iaload, 1))))
         (sd_lf (sd_istore (by decide +kernel : decode prog_9_method_68_code 129 = .ok (.istore 5, 2)))))
        (sd_br
         (sd_lf (sd_goto (by decide +kernel : decode prog_9_method_68_code 131 = .ok (.goto (-110), 3)) (by decide +kernel)))
         (sd_br
          (sd_lf (sd_iload (by decide +kernel : decode prog_9_method_68_code 134 = .ok (.iload 8, 2))))
          (sd_lf (sd_iret (by decide +kernel : decode prog_9_method_68_code 136 = .ok (.ireturn, 1)) rfl)))))))))
def k_Mo_commonOf (l : Launch) (G : Gc) (pc : Nat) : Tr :=
  if pc < 18 then
   if pc < 10 then
    if pc < 5 then
     if pc < 1 then
      if pc = 0 then tz_aload 1 0 else dead
     else
      if pc < 4 then
       if pc = 1 then tz_getf 4 7 1 1 else dead
      else
       if pc = 4 then tz_iload 5 1 else dead
    else
     if pc < 6 then
      if pc = 5 then tz_const 6 (.int (nI 1)) else dead
     else
      if pc < 9 then
       if pc = 6 then tz_pureS 9 2 P_Mo_at f_Mo_at else dead
      else
       if pc = 9 then tz_iaload 10 else dead
   else
    if pc < 13 then
     if pc < 11 then
      if pc = 10 then tz_istore 11 3 else dead
     else
      if pc < 12 then
       if pc = 11 then tz_iload 12 3 else dead
      else
       if pc = 12 then tz_const 13 (.int (nN)) else dead
    else
     if pc < 16 then
      if pc = 13 then tz_icmp 16 39 (fun a b => a = b) else dead
     else
      if pc < 17 then
       if pc = 16 then tz_aload 17 0 else dead
      else
       if pc = 17 then tz_iload 18 2 else dead
  else
   if pc < 30 then
    if pc < 25 then
     if pc < 19 then
      if pc = 18 then tz_iload 19 3 else dead
     else
      if pc < 22 then
       if pc = 19 then tz_pureV 22 2 7 P_Mo_isBehind f_Mo_isBehind else dead
      else
       if pc = 22 then tz_if 25 39 (fun a => ¬ a = 0) else dead
    else
     if pc < 26 then
      if pc = 25 then tz_aload 26 0 else dead
     else
      if pc < 29 then
       if pc = 26 then tz_getf 29 7 1 1 else dead
      else
       if pc = 29 then tz_iload 30 3 else dead
   else
    if pc < 35 then
     if pc < 31 then
      if pc = 30 then tz_const 31 (.int (nI 1)) else dead
     else
      if pc < 34 then
       if pc = 31 then tz_pureS 34 2 P_Mo_at f_Mo_at else dead
      else
       if pc = 34 then tz_iaload 35 else dead
    else
     if pc < 39 then
      if pc < 36 then
       if pc = 35 then tz_istore 36 3 else dead
      else
       if pc = 36 then tz_goto 11 else dead
     else
      if pc < 40 then
       if pc = 39 then tz_iload 40 3 else dead
      else
       if pc = 40 then tz_iret else dead
set_option maxRecDepth 100000 in
theorem T_Mo_commonOf (l : Launch) (G : Gc) : TabOK l G M_Mo_commonOf (k_Mo_commonOf l G) := by
  intro pc
  unfold k_Mo_commonOf
  exact
   (sd_br
    (sd_br
     (sd_br
      (sd_br
       (sd_lf (sd_aload_n (k := 0) (by decide +kernel : decode prog_9_method_70_code 0 = .ok (.aload_n 0, 1))))
       (sd_br
        (sd_lf (sd_getf (q := (RX7, TX7, 16)) (by decide +kernel : decode prog_9_method_70_code 1 = .ok (.getfield 7, 3)) rfl (by decide +kernel) (gm 913 (by decide +kernel) rfl)))
        (sd_lf (sd_iload_n (k := 1) (by decide +kernel : decode prog_9_method_70_code 4 = .ok (.iload_n 1, 1))))))
      (sd_br
       (sd_lf (sd_iconst (by decide +kernel : decode prog_9_method_70_code 5 = .ok (.iconst 1, 1)) (by decide +kernel)))
       (sd_br
        (sd_lf (sd_pureS (sd_callS (by decide +kernel : decode prog_9_method_70_code 6 = .ok (.invokestatic 44, 3)) ok_Mo_at (gm 993 (by decide +kernel) rfl) (gm 994 (by decide +kernel) rfl) (by decide +kernel) rfl rfl) c_Mo_at))
        (sd_lf (sd_iaload (by decide +kernel : decode prog_9_method_70_code 9 = .ok (.iaload, 1)))))))
     (sd_br
      (sd_br
       (sd_lf (sd_istore_n (k := 3) (by decide +kernel : decode prog_9_method_70_code 10 = .ok (.istore_n 3, 1))))
       (sd_br
        (sd_lf (sd_iload_n (k := 3) (by decide +kernel : decode prog_9_method_70_code 11 = .ok (.iload_n 3, 1))))
        (sd_lf (sd_iconst (by decide +kernel : decode prog_9_method_70_code 12 = .ok (.iconst (-1), 1)) (by decide +kernel)))))
      (sd_br
       (sd_lf (sd_icmp_eq (by decide +kernel : decode prog_9_method_70_code 13 = .ok (.if_icmp .eq 26, 3)) (by decide +kernel)))
       (sd_br
        (sd_lf (sd_aload_n (k := 0) (by decide +kernel : decode prog_9_method_70_code 16 = .ok (.aload_n 0, 1))))
        (sd_lf (sd_iload_n (k := 2) (by decide +kernel : decode prog_9_method_70_code 17 = .ok (.iload_n 2, 1))))))))
    (sd_br
     (sd_br
      (sd_br
       (sd_lf (sd_iload_n (k := 3) (by decide +kernel : decode prog_9_method_70_code 18 = .ok (.iload_n 3, 1))))
       (sd_br
        (sd_lf (sd_pureV (sd_callV (q := (RX7, TX7, 16)) (by decide +kernel : decode prog_9_method_70_code 19 = .ok (.invokevirtual 199, 3)) ok_Mo_isBehind (gm 1207 (by decide +kernel) rfl) (gm 1209 (by decide +kernel) rfl) (gm 65 (by decide +kernel) rfl) rfl rfl (by decide +kernel) rfl rfl) c_Mo_isBehind))
        (sd_lf (sd_if_ne (by decide +kernel : decode prog_9_method_70_code 22 = .ok (.ifCond .ne 17, 3)) (by decide +kernel)))))
      (sd_br
       (sd_lf (sd_aload_n (k := 0) (by decide +kernel : decode prog_9_method_70_code 25 = .ok (.aload_n 0, 1))))
       (sd_br
        (sd_lf (sd_getf (q := (RX7, TX7, 16)) (by decide +kernel : decode prog_9_method_70_code 26 = .ok (.getfield 7, 3)) rfl (by decide +kernel) (gm 913 (by decide +kernel) rfl)))
        (sd_lf (sd_iload_n (k := 3) (by decide +kernel : decode prog_9_method_70_code 29 = .ok (.iload_n 3, 1)))))))
     (sd_br
      (sd_br
       (sd_lf (sd_iconst (by decide +kernel : decode prog_9_method_70_code 30 = .ok (.iconst 1, 1)) (by decide +kernel)))
       (sd_br
        (sd_lf (sd_pureS (sd_callS (by decide +kernel : decode prog_9_method_70_code 31 = .ok (.invokestatic 44, 3)) ok_Mo_at (gm 993 (by decide +kernel) rfl) (gm 994 (by decide +kernel) rfl) (by decide +kernel) rfl rfl) c_Mo_at))
        (sd_lf (sd_iaload (by decide +kernel : decode prog_9_method_70_code 34 = .ok (.iaload, 1))))))
      (sd_br
       (sd_br
        (sd_lf (sd_istore_n (k := 3) (by decide +kernel : decode prog_9_method_70_code 35 = .ok (.istore_n 3, 1))))
        (sd_lf (sd_goto (by decide +kernel : decode prog_9_method_70_code 36 = .ok (.goto (-25), 3)) (by decide +kernel))))
       (sd_br
        (sd_lf (sd_iload_n (k := 3) (by decide +kernel : decode prog_9_method_70_code 39 = .ok (.iload_n 3, 1))))
        (sd_lf (sd_iret (by decide +kernel : decode prog_9_method_70_code 40 = .ok (.ireturn, 1)) rfl)))))))
/-- counts: what as a number -/
noncomputable def ctZ (z : Nat → Int32) (sv : Int32) (w : Nat) : Int32 := match w with
  | 0 => z 1
  | 1 => cntH z (mny z)
  | 2 => z 0
  | 3 => sumO z (mny z)
  | 11 => @ite _ (sv = nI 0) (Classical.propDecidable _) (nI 0) (nI 1)
  | w => z (2 + w - 4)
def P_Mo_counted : List Value → AH → Prop
  | [.ref m, .int w], h => PM h m ∧ ∃ k, k < 12 ∧ w = nI k
  | _, _ => False
noncomputable def f_Mo_counted : List Value → AH → Value
  | [.ref m, .int w], h => .int (ctZ (zF h m) (hI h m 3) w.toNatClampNeg)
  | _, _ => .null
/-- properties of node n -/
noncomputable def npZ (z : Nat → Int32) (n w : Nat) : Int32 := match w with
  | 0 => z (16 + 16 * n + 0)
  | 1 => z (16 + 16 * n + 1)
  | 2 => nI (dpZ z 10 (netZ z n))
  | 3 => cntB z (nI n) (mny z)
  | w => z (16 + 16 * n + (12 + w - 4))
def P_Mo_nodeNow : List Value → AH → Prop
  | [.ref m, .int n, .int w], h => PN h m n ∧ ∃ k, k < 7 ∧ w = nI k
  | _, _ => False
noncomputable def f_Mo_nodeNow : List Value → AH → Value
  | [.ref m, .int n, .int w], h => .int (npZ (zF h m) n.toNatClampNeg w.toNatClampNeg)
  | _, _ => .null
def tpZ (z : Nat → Int32) (t w : Nat) : Int32 := if w < 7 then z (16 + 16 * t + (2 + w)) else if w = 7 then z (16 + 16 * t + 11) else z (16 + 16 * t + 9)
def P_Mo_translatorNow : List Value → AH → Prop
  | [.ref m, .int t, .int w], h => ∃ zr tn k, MoS h m zr ∧ t = nI tn ∧ tn < 10 ∧ w = nI k ∧ k < 9
  | _, _ => False
def f_Mo_translatorNow : List Value → AH → Value
  | [.ref m, .int t, .int w], h => .int (tpZ (zF h m) t.toNatClampNeg w.toNatClampNeg)
  | _, _ => .null
def mpZ (z : Nat → Int32) (t m w : Nat) : Int32 := if w < 5 then z (176 + 8 * (8 * t + m) + w) else if w = 5 then livZ z t m else z (176 + 8 * (8 * t + m) + 6)
def P_Mo_mappingNow : List Value → AH → Prop
  | [.ref o, .int t, .int m, .int w], h => ∃ zr tn mn k, MoS h o zr ∧ t = nI tn ∧ tn < 10 ∧ m = nI mn ∧ mn < 8 ∧ w = nI k ∧ k < 7
  | _, _ => False
def f_Mo_mappingNow : List Value → AH → Value
  | [.ref o, .int t, .int m, .int w], h => .int (mpZ (zF h o) t.toNatClampNeg m.toNatClampNeg w.toNatClampNeg)
  | _, _ => .null
section
variable {l : Launch} {G : Gc}
theorem c_Mo_translatorNow (a : Nat) (as : List Value) (h : AH) (Q : Po) (hl : as.length = 2) (ht : tg h a = 7) (hP : P_Mo_translatorNow (.ref a :: as) h) (hQ : Q (.inl (some (f_Mo_translatorNow (.ref a :: as) h))) h) : Call l G M_Mo_translatorNow (.ref a :: as) h Q := by
  match as, hP, hQ with
  | [.int t, .int w], hP, hQ =>
    obtain ⟨zr, tn, k, hm, rfl, h5, rfl, h6⟩ := hP
    simp only [f_Mo_translatorNow, hm.zF, nI_clamp (show tn < 2 ^ 31 by omega), nI_clamp (show k < 2 ^ 31 by omega), tpZ] at hQ
    obtain ⟨h1, h2, h3, h4⟩ := hm
    refine call_of rfl rfl (Nat.le_of_ble_eq_true rfl) ?_
    (obtain ⟨W9, hW9, hgo9⟩ := wp_ex (T_Mo_translatorNow l G) [] _; refine hgo9 200 _ _ _ _ ?_; simp -implicitDefEqProofs (disch := omega) only [hW9, inl, gate, Xq, tz_const, tz_iload, tz_lload, tz_dload, tz_aload, tz_istore, tz_astore, tz_lstore, tz_dstore, tz_iinc, tz_i1, tz_i2, tz_i2z, tz_l2, tz_l2z, tz_i2l, tz_l2i, tz_lcmp, tz_i2d, tz_d2, tz_dcmp, tz_dup, tz_dup2, tz_pop, tz_if, tz_icmp, tz_null, tz_goto, tz_sw, tz_getf, tz_puti, tz_putz, tz_putr, tz_putl, tz_iaload, tz_baload, tz_laload, tz_aaload, tz_iastore, tz_bastore, tz_lastore, tz_aastore, tz_alen, tz_new, tz_newa, tz_oinit, tz_iret, tz_zret, tz_lret, tz_dret, tz_aret, tz_vret, tz_throw, tz_callS, tz_callV, tz_callI, tz_callR, tz_pureS, tz_pureV, tz_callVH, lg, lset, lkill, lst1, lst2, entL, isRf, is1, vl, va_rf_none, va_rf_some, isRf_rf, is1_rf, i0, i1, bI_eq0, bI_eq1, nm_em, nI_eqP, nI_leP, nI_ltP, nN_e1, nN_e2, nN_l1, nN_l2, nN_l3, nN_l4, nI_add, pk_mul, vp_inN, nI_cl, n01, n10, P_i, P_ii, P_iii, f_Mo_at, f_Mo_map, f_Mo_contact, f_Mo_within, f_Mo_isPort, f_Hp_endpoint, f_Hp_nodeOf, f_Hp_portOf, f_Ma_max, f_Ma_min, f_Hp_isSetting, popN, rok, a1, noX, swc, mL, if_true, if_false, ↓reduceIte, cond_true, cond_false, true_and, and_true, List.length_cons, List.length_nil, List.nil_append, List.cons_append, List.append_nil, Option.toList, Nat.reduceEqDiff, Bool.false_eq_true, reduceCtorEq, Nat.reduceAdd, Nat.reduceLT, Nat.reduceLeDiff, Nat.reduceSub, List.replicate, Nat.zero_add, Nat.lt_add_one, Nat.le_refl, Nat.zero_le, Nat.succ_ne_zero, not_false_eq_true, not_true_eq_false, false_implies, true_implies, forall_const, imp_self, true_or, or_true, eq_self, k_Mo_translatorNow]; try clear hgo9 hW9)
    refine ⟨fun c => ?_, fun c => ?_⟩
    · rw [if_neg (by omega)] at hQ
      (obtain ⟨W9, hW9, hgo9⟩ := wp_ex (T_Mo_translatorNow l G) [] _; refine hgo9 200 _ _ _ _ ?_; simp -implicitDefEqProofs (disch := omega) only [hW9, inl, gate, Xq, tz_const, tz_iload, tz_lload, tz_dload, tz_aload, tz_istore, tz_astore, tz_lstore, tz_dstore, tz_iinc, tz_i1, tz_i2, tz_i2z, tz_l2, tz_l2z, tz_i2l, tz_l2i, tz_lcmp, tz_i2d, tz_d2, tz_dcmp, tz_dup, tz_dup2, tz_pop, tz_if, tz_icmp, tz_null, tz_goto, tz_sw, tz_getf, tz_puti, tz_putz, tz_putr, tz_putl, tz_iaload, tz_baload, tz_laload, tz_aaload, tz_iastore, tz_bastore, tz_lastore, tz_aastore, tz_alen, tz_new, tz_newa, tz_oinit, tz_iret, tz_zret, tz_lret, tz_dret, tz_aret, tz_vret, tz_throw, tz_callS, tz_callV, tz_callI, tz_callR, tz_pureS, tz_pureV, tz_callVH, lg, lset, lkill, lst1, lst2, entL, isRf, is1, vl, va_rf_none, va_rf_some, isRf_rf, is1_rf, i0, i1, bI_eq0, bI_eq1, nm_em, nI_eqP, nI_leP, nI_ltP, nN_e1, nN_e2, nN_l1, nN_l2, nN_l3, nN_l4, nI_add, pk_mul, vp_inN, nI_cl, n01, n10, P_i, P_ii, P_iii, f_Mo_at, f_Mo_map, f_Mo_contact, f_Mo_within, f_Mo_isPort, f_Hp_endpoint, f_Hp_nodeOf, f_Hp_portOf, f_Ma_max, f_Ma_min, f_Hp_isSetting, popN, rok, a1, noX, swc, mL, if_true, if_false, ↓reduceIte, cond_true, cond_false, true_and, and_true, List.length_cons, List.length_nil, List.nil_append, List.cons_append, List.append_nil, Option.toList, Nat.reduceEqDiff, Bool.false_eq_true, reduceCtorEq, Nat.reduceAdd, Nat.reduceLT, Nat.reduceLeDiff, Nat.reduceSub, List.replicate, Nat.zero_add, Nat.lt_add_one, Nat.le_refl, Nat.zero_le, Nat.succ_ne_zero, not_false_eq_true, not_true_eq_false, false_implies, true_implies, forall_const, imp_self, true_or, or_true, eq_self, k_Mo_translatorNow]; try clear hgo9 hW9)
      refine ⟨fun c2 => ?_, fun c2 => ?_⟩
      · rw [if_neg c2] at hQ
        (obtain ⟨W9, hW9, hgo9⟩ := wp_ex (T_Mo_translatorNow l G) [] _; refine hgo9 200 _ _ _ _ ?_; simp -implicitDefEqProofs (disch := omega) only [hW9, inl, gate, Xq, tz_const, tz_iload, tz_lload, tz_dload, tz_aload, tz_istore, tz_astore, tz_lstore, tz_dstore, tz_iinc, tz_i1, tz_i2, tz_i2z, tz_l2, tz_l2z, tz_i2l, tz_l2i, tz_lcmp, tz_i2d, tz_d2, tz_dcmp, tz_dup, tz_dup2, tz_pop, tz_if, tz_icmp, tz_null, tz_goto, tz_sw, tz_getf, tz_puti, tz_putz, tz_putr, tz_putl, tz_iaload, tz_baload, tz_laload, tz_aaload, tz_iastore, tz_bastore, tz_lastore, tz_aastore, tz_alen, tz_new, tz_newa, tz_oinit, tz_iret, tz_zret, tz_lret, tz_dret, tz_aret, tz_vret, tz_throw, tz_callS, tz_callV, tz_callI, tz_callR, tz_pureS, tz_pureV, tz_callVH, lg, lset, lkill, lst1, lst2, entL, isRf, is1, vl, va_rf_none, va_rf_some, isRf_rf, is1_rf, i0, i1, bI_eq0, bI_eq1, nm_em, nI_eqP, nI_leP, nI_ltP, nN_e1, nN_e2, nN_l1, nN_l2, nN_l3, nN_l4, nI_add, pk_mul, vp_inN, nI_cl, n01, n10, P_i, P_ii, P_iii, f_Mo_at, f_Mo_map, f_Mo_contact, f_Mo_within, f_Mo_isPort, f_Hp_endpoint, f_Hp_nodeOf, f_Hp_portOf, f_Ma_max, f_Ma_min, f_Hp_isSetting, popN, rok, a1, noX, swc, mL, if_true, if_false, ↓reduceIte, cond_true, cond_false, true_and, and_true, List.length_cons, List.length_nil, List.nil_append, List.cons_append, List.append_nil, Option.toList, Nat.reduceEqDiff, Bool.false_eq_true, reduceCtorEq, Nat.reduceAdd, Nat.reduceLT, Nat.reduceLeDiff, Nat.reduceSub, List.replicate, Nat.zero_add, Nat.lt_add_one, Nat.le_refl, Nat.zero_le, Nat.succ_ne_zero, not_false_eq_true, not_true_eq_false, false_implies, true_implies, forall_const, imp_self, true_or, or_true, eq_self, k_Mo_translatorNow, h1, h2, h3, h4]; try clear hgo9 hW9)
        exact hQ
      · rw [if_pos (by omega)] at hQ
        (obtain ⟨W9, hW9, hgo9⟩ := wp_ex (T_Mo_translatorNow l G) [] _; refine hgo9 200 _ _ _ _ ?_; simp -implicitDefEqProofs (disch := omega) only [hW9, inl, gate, Xq, tz_const, tz_iload, tz_lload, tz_dload, tz_aload, tz_istore, tz_astore, tz_lstore, tz_dstore, tz_iinc, tz_i1, tz_i2, tz_i2z, tz_l2, tz_l2z, tz_i2l, tz_l2i, tz_lcmp, tz_i2d, tz_d2, tz_dcmp, tz_dup, tz_dup2, tz_pop, tz_if, tz_icmp, tz_null, tz_goto, tz_sw, tz_getf, tz_puti, tz_putz, tz_putr, tz_putl, tz_iaload, tz_baload, tz_laload, tz_aaload, tz_iastore, tz_bastore, tz_lastore, tz_aastore, tz_alen, tz_new, tz_newa, tz_oinit, tz_iret, tz_zret, tz_lret, tz_dret, tz_aret, tz_vret, tz_throw, tz_callS, tz_callV, tz_callI, tz_callR, tz_pureS, tz_pureV, tz_callVH, lg, lset, lkill, lst1, lst2, entL, isRf, is1, vl, va_rf_none, va_rf_some, isRf_rf, is1_rf, i0, i1, bI_eq0, bI_eq1, nm_em, nI_eqP, nI_leP, nI_ltP, nN_e1, nN_e2, nN_l1, nN_l2, nN_l3, nN_l4, nI_add, pk_mul, vp_inN, nI_cl, n01, n10, P_i, P_ii, P_iii, f_Mo_at, f_Mo_map, f_Mo_contact, f_Mo_within, f_Mo_isPort, f_Hp_endpoint, f_Hp_nodeOf, f_Hp_portOf, f_Ma_max, f_Ma_min, f_Hp_isSetting, popN, rok, a1, noX, swc, mL, if_true, if_false, ↓reduceIte, cond_true, cond_false, true_and, and_true, List.length_cons, List.length_nil, List.nil_append, List.cons_append, List.append_nil, Option.toList, Nat.reduceEqDiff, Bool.false_eq_true, reduceCtorEq, Nat.reduceAdd, Nat.reduceLT, Nat.reduceLeDiff, Nat.reduceSub, List.replicate, Nat.zero_add, Nat.lt_add_one, Nat.le_refl, Nat.zero_le, Nat.succ_ne_zero, not_false_eq_true, not_true_eq_false, false_implies, true_implies, forall_const, imp_self, true_or, or_true, eq_self, k_Mo_translatorNow, h1, h2, h3, h4]; try clear hgo9 hW9)
        exact hQ
    · rw [if_pos (by omega)] at hQ
      (obtain ⟨W9, hW9, hgo9⟩ := wp_ex (T_Mo_translatorNow l G) [] _; refine hgo9 200 _ _ _ _ ?_; simp -implicitDefEqProofs (disch := omega) only [hW9, inl, gate, Xq, tz_const, tz_iload, tz_lload, tz_dload, tz_aload, tz_istore, tz_astore, tz_lstore, tz_dstore, tz_iinc, tz_i1, tz_i2, tz_i2z, tz_l2, tz_l2z, tz_i2l, tz_l2i, tz_lcmp, tz_i2d, tz_d2, tz_dcmp, tz_dup, tz_dup2, tz_pop, tz_if, tz_icmp, tz_null, tz_goto, tz_sw, tz_getf, tz_puti, tz_putz, tz_putr, tz_putl, tz_iaload, tz_baload, tz_laload, tz_aaload, tz_iastore, tz_bastore, tz_lastore, tz_aastore, tz_alen, tz_new, tz_newa, tz_oinit, tz_iret, tz_zret, tz_lret, tz_dret, tz_aret, tz_vret, tz_throw, tz_callS, tz_callV, tz_callI, tz_callR, tz_pureS, tz_pureV, tz_callVH, lg, lset, lkill, lst1, lst2, entL, isRf, is1, vl, va_rf_none, va_rf_some, isRf_rf, is1_rf, i0, i1, bI_eq0, bI_eq1, nm_em, nI_eqP, nI_leP, nI_ltP, nN_e1, nN_e2, nN_l1, nN_l2, nN_l3, nN_l4, nI_add, pk_mul, vp_inN, nI_cl, n01, n10, P_i, P_ii, P_iii, f_Mo_at, f_Mo_map, f_Mo_contact, f_Mo_within, f_Mo_isPort, f_Hp_endpoint, f_Hp_nodeOf, f_Hp_portOf, f_Ma_max, f_Ma_min, f_Hp_isSetting, popN, rok, a1, noX, swc, mL, if_true, if_false, ↓reduceIte, cond_true, cond_false, true_and, and_true, List.length_cons, List.length_nil, List.nil_append, List.cons_append, List.append_nil, Option.toList, Nat.reduceEqDiff, Bool.false_eq_true, reduceCtorEq, Nat.reduceAdd, Nat.reduceLT, Nat.reduceLeDiff, Nat.reduceSub, List.replicate, Nat.zero_add, Nat.lt_add_one, Nat.le_refl, Nat.zero_le, Nat.succ_ne_zero, not_false_eq_true, not_true_eq_false, false_implies, true_implies, forall_const, imp_self, true_or, or_true, eq_self, k_Mo_translatorNow, h1, h2, h3, h4]; try clear hgo9 hW9)
      exact hQ
theorem c_Mo_mappingNow (a : Nat) (as : List Value) (h : AH) (Q : Po) (hl : as.length = 3) (ht : tg h a = 7) (hP : P_Mo_mappingNow (.ref a :: as) h) (hQ : Q (.inl (some (f_Mo_mappingNow (.ref a :: as) h))) h) : Call l G M_Mo_mappingNow (.ref a :: as) h Q := by
  match as, hP, hQ with
  | [.int t, .int m, .int w], hP, hQ =>
    obtain ⟨zr, tn, mn, k, hm, rfl, h5, rfl, h6, rfl, h7⟩ := hP
    have hzF := hm.zF
    have hPl : P_Mo_lives [.ref a, .int (nI tn), .int (nI mn)] h := ⟨zr, tn, mn, hm, rfl, h5, rfl, h6⟩
    simp only [f_Mo_mappingNow, hm.zF, nI_clamp (show tn < 2 ^ 31 by omega), nI_clamp (show mn < 2 ^ 31 by omega), nI_clamp (show k < 2 ^ 31 by omega), mpZ] at hQ
    obtain ⟨h1, h2, h3, h4⟩ := hm
    refine call_of rfl rfl (Nat.le_of_ble_eq_true rfl) ?_
    (obtain ⟨W9, hW9, hgo9⟩ := wp_ex (T_Mo_mappingNow l G) [] _; refine hgo9 200 _ _ _ _ ?_; simp -implicitDefEqProofs (disch := omega) only [hW9, inl, gate, Xq, tz_const, tz_iload, tz_lload, tz_dload, tz_aload, tz_istore, tz_astore, tz_lstore, tz_dstore, tz_iinc, tz_i1, tz_i2, tz_i2z, tz_l2, tz_l2z, tz_i2l, tz_l2i, tz_lcmp, tz_i2d, tz_d2, tz_dcmp, tz_dup, tz_dup2, tz_pop, tz_if, tz_icmp, tz_null, tz_goto, tz_sw, tz_getf, tz_puti, tz_putz, tz_putr, tz_putl, tz_iaload, tz_baload, tz_laload, tz_aaload, tz_iastore, tz_bastore, tz_lastore, tz_aastore, tz_alen, tz_new, tz_newa, tz_oinit, tz_iret, tz_zret, tz_lret, tz_dret, tz_aret, tz_vret, tz_throw, tz_callS, tz_callV, tz_callI, tz_callR, tz_pureS, tz_pureV, tz_callVH, lg, lset, lkill, lst1, lst2, entL, isRf, is1, vl, va_rf_none, va_rf_some, isRf_rf, is1_rf, i0, i1, bI_eq0, bI_eq1, nm_em, nI_eqP, nI_leP, nI_ltP, nN_e1, nN_e2, nN_l1, nN_l2, nN_l3, nN_l4, nI_add, pk_mul, vp_inN, nI_cl, n01, n10, P_i, P_ii, P_iii, f_Mo_at, f_Mo_map, f_Mo_contact, f_Mo_within, f_Mo_isPort, f_Hp_endpoint, f_Hp_nodeOf, f_Hp_portOf, f_Ma_max, f_Ma_min, f_Hp_isSetting, popN, rok, a1, noX, swc, mL, if_true, if_false, ↓reduceIte, cond_true, cond_false, true_and, and_true, List.length_cons, List.length_nil, List.nil_append, List.cons_append, List.append_nil, Option.toList, Nat.reduceEqDiff, Bool.false_eq_true, reduceCtorEq, Nat.reduceAdd, Nat.reduceLT, Nat.reduceLeDiff, Nat.reduceSub, List.replicate, Nat.zero_add, Nat.lt_add_one, Nat.le_refl, Nat.zero_le, Nat.succ_ne_zero, not_false_eq_true, not_true_eq_false, false_implies, true_implies, forall_const, imp_self, true_or, or_true, eq_self, k_Mo_mappingNow]; try clear hgo9 hW9)
    refine ⟨fun c => ?_, fun c => ?_⟩
    · rw [if_neg (by omega)] at hQ
      (obtain ⟨W9, hW9, hgo9⟩ := wp_ex (T_Mo_mappingNow l G) [] _; refine hgo9 200 _ _ _ _ ?_; simp -implicitDefEqProofs (disch := omega) only [hW9, inl, gate, Xq, tz_const, tz_iload, tz_lload, tz_dload, tz_aload, tz_istore, tz_astore, tz_lstore, tz_dstore, tz_iinc, tz_i1, tz_i2, tz_i2z, tz_l2, tz_l2z, tz_i2l, tz_l2i, tz_lcmp, tz_i2d, tz_d2, tz_dcmp, tz_dup, tz_dup2, tz_pop, tz_if, tz_icmp, tz_null, tz_goto, tz_sw, tz_getf, tz_puti, tz_putz, tz_putr, tz_putl, tz_iaload, tz_baload, tz_laload, tz_aaload, tz_iastore, tz_bastore, tz_lastore, tz_aastore, tz_alen, tz_new, tz_newa, tz_oinit, tz_iret, tz_zret, tz_lret, tz_dret, tz_aret, tz_vret, tz_throw, tz_callS, tz_callV, tz_callI, tz_callR, tz_pureS, tz_pureV, tz_callVH, lg, lset, lkill, lst1, lst2, entL, isRf, is1, vl, va_rf_none, va_rf_some, isRf_rf, is1_rf, i0, i1, bI_eq0, bI_eq1, nm_em, nI_eqP, nI_leP, nI_ltP, nN_e1, nN_e2, nN_l1, nN_l2, nN_l3, nN_l4, nI_add, pk_mul, vp_inN, nI_cl, n01, n10, P_i, P_ii, P_iii, f_Mo_at, f_Mo_map, f_Mo_contact, f_Mo_within, f_Mo_isPort, f_Hp_endpoint, f_Hp_nodeOf, f_Hp_portOf, f_Ma_max, f_Ma_min, f_Hp_isSetting, popN, rok, a1, noX, swc, mL, if_true, if_false, ↓reduceIte, cond_true, cond_false, true_and, and_true, List.length_cons, List.length_nil, List.nil_append, List.cons_append, List.append_nil, Option.toList, Nat.reduceEqDiff, Bool.false_eq_true, reduceCtorEq, Nat.reduceAdd, Nat.reduceLT, Nat.reduceLeDiff, Nat.reduceSub, List.replicate, Nat.zero_add, Nat.lt_add_one, Nat.le_refl, Nat.zero_le, Nat.succ_ne_zero, not_false_eq_true, not_true_eq_false, false_implies, true_implies, forall_const, imp_self, true_or, or_true, eq_self, k_Mo_mappingNow]; try clear hgo9 hW9)
      refine ⟨fun c2 => ?_, fun c2 => ?_⟩
      · rw [if_neg c2] at hQ
        (obtain ⟨W9, hW9, hgo9⟩ := wp_ex (T_Mo_mappingNow l G) [] _; refine hgo9 200 _ _ _ _ ?_; simp -implicitDefEqProofs (disch := omega) only [hW9, inl, gate, Xq, tz_const, tz_iload, tz_lload, tz_dload, tz_aload, tz_istore, tz_astore, tz_lstore, tz_dstore, tz_iinc, tz_i1, tz_i2, tz_i2z, tz_l2, tz_l2z, tz_i2l, tz_l2i, tz_lcmp, tz_i2d, tz_d2, tz_dcmp, tz_dup, tz_dup2, tz_pop, tz_if, tz_icmp, tz_null, tz_goto, tz_sw, tz_getf, tz_puti, tz_putz, tz_putr, tz_putl, tz_iaload, tz_baload, tz_laload, tz_aaload, tz_iastore, tz_bastore, tz_lastore, tz_aastore, tz_alen, tz_new, tz_newa, tz_oinit, tz_iret, tz_zret, tz_lret, tz_dret, tz_aret, tz_vret, tz_throw, tz_callS, tz_callV, tz_callI, tz_callR, tz_pureS, tz_pureV, tz_callVH, lg, lset, lkill, lst1, lst2, entL, isRf, is1, vl, va_rf_none, va_rf_some, isRf_rf, is1_rf, i0, i1, bI_eq0, bI_eq1, nm_em, nI_eqP, nI_leP, nI_ltP, nN_e1, nN_e2, nN_l1, nN_l2, nN_l3, nN_l4, nI_add, pk_mul, vp_inN, nI_cl, n01, n10, P_i, P_ii, P_iii, f_Mo_at, f_Mo_map, f_Mo_contact, f_Mo_within, f_Mo_isPort, f_Hp_endpoint, f_Hp_nodeOf, f_Hp_portOf, f_Ma_max, f_Ma_min, f_Hp_isSetting, popN, rok, a1, noX, swc, mL, if_true, if_false, ↓reduceIte, cond_true, cond_false, true_and, and_true, List.length_cons, List.length_nil, List.nil_append, List.cons_append, List.append_nil, Option.toList, Nat.reduceEqDiff, Bool.false_eq_true, reduceCtorEq, Nat.reduceAdd, Nat.reduceLT, Nat.reduceLeDiff, Nat.reduceSub, List.replicate, Nat.zero_add, Nat.lt_add_one, Nat.le_refl, Nat.zero_le, Nat.succ_ne_zero, not_false_eq_true, not_true_eq_false, false_implies, true_implies, forall_const, imp_self, true_or, or_true, eq_self, k_Mo_mappingNow, h1, h2, h3, h4]; try clear hgo9 hW9)
        exact hQ
      · rw [if_pos (by omega)] at hQ
        (obtain ⟨W9, hW9, hgo9⟩ := wp_ex (T_Mo_mappingNow l G) [] _; refine hgo9 200 _ _ _ _ ?_; simp -implicitDefEqProofs (disch := omega) only [hW9, inl, gate, Xq, tz_const, tz_iload, tz_lload, tz_dload, tz_aload, tz_istore, tz_astore, tz_lstore, tz_dstore, tz_iinc, tz_i1, tz_i2, tz_i2z, tz_l2, tz_l2z, tz_i2l, tz_l2i, tz_lcmp, tz_i2d, tz_d2, tz_dcmp, tz_dup, tz_dup2, tz_pop, tz_if, tz_icmp, tz_null, tz_goto, tz_sw, tz_getf, tz_puti, tz_putz, tz_putr, tz_putl, tz_iaload, tz_baload, tz_laload, tz_aaload, tz_iastore, tz_bastore, tz_lastore, tz_aastore, tz_alen, tz_new, tz_newa, tz_oinit, tz_iret, tz_zret, tz_lret, tz_dret, tz_aret, tz_vret, tz_throw, tz_callS, tz_callV, tz_callI, tz_callR, tz_pureS, tz_pureV, tz_callVH, lg, lset, lkill, lst1, lst2, entL, isRf, is1, vl, va_rf_none, va_rf_some, isRf_rf, is1_rf, i0, i1, bI_eq0, bI_eq1, nm_em, nI_eqP, nI_leP, nI_ltP, nN_e1, nN_e2, nN_l1, nN_l2, nN_l3, nN_l4, nI_add, pk_mul, vp_inN, nI_cl, n01, n10, P_i, P_ii, P_iii, f_Mo_at, f_Mo_map, f_Mo_contact, f_Mo_within, f_Mo_isPort, f_Hp_endpoint, f_Hp_nodeOf, f_Hp_portOf, f_Ma_max, f_Ma_min, f_Hp_isSetting, popN, rok, a1, noX, swc, mL, if_true, if_false, ↓reduceIte, cond_true, cond_false, true_and, and_true, List.length_cons, List.length_nil, List.nil_append, List.cons_append, List.append_nil, Option.toList, Nat.reduceEqDiff, Bool.false_eq_true, reduceCtorEq, Nat.reduceAdd, Nat.reduceLT, Nat.reduceLeDiff, Nat.reduceSub, List.replicate, Nat.zero_add, Nat.lt_add_one, Nat.le_refl, Nat.zero_le, Nat.succ_ne_zero, not_false_eq_true, not_true_eq_false, false_implies, true_implies, forall_const, imp_self, true_or, or_true, eq_self, k_Mo_mappingNow, h1, hPl, f_Mo_lives, hzF]; try clear hgo9 hW9)
        exact hQ
    · rw [if_pos (by omega)] at hQ
      (obtain ⟨W9, hW9, hgo9⟩ := wp_ex (T_Mo_mappingNow l G) [] _; refine hgo9 200 _ _ _ _ ?_; simp -implicitDefEqProofs (disch := omega) only [hW9, inl, gate, Xq, tz_const, tz_iload, tz_lload, tz_dload, tz_aload, tz_istore, tz_astore, tz_lstore, tz_dstore, tz_iinc, tz_i1, tz_i2, tz_i2z, tz_l2, tz_l2z, tz_i2l, tz_l2i, tz_lcmp, tz_i2d, tz_d2, tz_dcmp, tz_dup, tz_dup2, tz_pop, tz_if, tz_icmp, tz_null, tz_goto, tz_sw, tz_getf, tz_puti, tz_putz, tz_putr, tz_putl, tz_iaload, tz_baload, tz_laload, tz_aaload, tz_iastore, tz_bastore, tz_lastore, tz_aastore, tz_alen, tz_new, tz_newa, tz_oinit, tz_iret, tz_zret, tz_lret, tz_dret, tz_aret, tz_vret, tz_throw, tz_callS, tz_callV, tz_callI, tz_callR, tz_pureS, tz_pureV, tz_callVH, lg, lset, lkill, lst1, lst2, entL, isRf, is1, vl, va_rf_none, va_rf_some, isRf_rf, is1_rf, i0, i1, bI_eq0, bI_eq1, nm_em, nI_eqP, nI_leP, nI_ltP, nN_e1, nN_e2, nN_l1, nN_l2, nN_l3, nN_l4, nI_add, pk_mul, vp_inN, nI_cl, n01, n10, P_i, P_ii, P_iii, f_Mo_at, f_Mo_map, f_Mo_contact, f_Mo_within, f_Mo_isPort, f_Hp_endpoint, f_Hp_nodeOf, f_Hp_portOf, f_Ma_max, f_Ma_min, f_Hp_isSetting, popN, rok, a1, noX, swc, mL, if_true, if_false, ↓reduceIte, cond_true, cond_false, true_and, and_true, List.length_cons, List.length_nil, List.nil_append, List.cons_append, List.append_nil, Option.toList, Nat.reduceEqDiff, Bool.false_eq_true, reduceCtorEq, Nat.reduceAdd, Nat.reduceLT, Nat.reduceLeDiff, Nat.reduceSub, List.replicate, Nat.zero_add, Nat.lt_add_one, Nat.le_refl, Nat.zero_le, Nat.succ_ne_zero, not_false_eq_true, not_true_eq_false, false_implies, true_implies, forall_const, imp_self, true_or, or_true, eq_self, k_Mo_mappingNow, h1, h2, h3, h4]; try clear hgo9 hW9)
      exact hQ
theorem c_Mo_counted (a : Nat) (as : List Value) (h : AH) (Q : Po) (hl : as.length = 1) (ht : tg h a = 7) (hP : P_Mo_counted (.ref a :: as) h) (hQ : Q (.inl (some (f_Mo_counted (.ref a :: as) h))) h) : Call l G M_Mo_counted (.ref a :: as) h Q := by
  match as, hP, hQ with
  | [.int w], hP, hQ =>
    obtain ⟨hPP, k, hk, rfl⟩ := hP
    obtain ⟨zr, hm, hz⟩ := id hPP
    have hzF := hm.zF
    simp only [f_Mo_counted, nI_clamp (show k < 2 ^ 31 by omega)] at hQ
    rw [hzF] at hQ
    obtain ⟨h1, h2, h3, h4⟩ := hm
    obtain ⟨z1, z2⟩ := hz.at
    have hall : k = 0 ∨ k = 1 ∨ k = 2 ∨ k = 3 ∨ k = 4 ∨ k = 5 ∨ k = 6 ∨ k = 7 ∨ k = 8 ∨ k = 9 ∨ k = 10 ∨ k = 11 := by omega
    refine call_of rfl rfl (Nat.le_of_ble_eq_true rfl) ?_
    rcases hall with rfl | rfl | rfl | rfl | rfl | rfl | rfl | rfl | rfl | rfl | rfl | rfl
    · ((obtain ⟨W9, hW9, hgo9⟩ := wp_ex (T_Mo_counted l G) [] _; refine hgo9 200 _ _ _ _ ?_; simp -implicitDefEqProofs (disch := omega) only [hW9, inl, gate, Xq, tz_const, tz_iload, tz_lload, tz_dload, tz_aload, tz_istore, tz_astore, tz_lstore, tz_dstore, tz_iinc, tz_i1, tz_i2, tz_i2z, tz_l2, tz_l2z, tz_i2l, tz_l2i, tz_lcmp, tz_i2d, tz_d2, tz_dcmp, tz_dup, tz_dup2, tz_pop, tz_if, tz_icmp, tz_null, tz_goto, tz_sw, tz_getf, tz_puti, tz_putz, tz_putr, tz_putl, tz_iaload, tz_baload, tz_laload, tz_aaload, tz_iastore, tz_bastore, tz_lastore, tz_aastore, tz_alen, tz_new, tz_newa, tz_oinit, tz_iret, tz_zret, tz_lret, tz_dret, tz_aret, tz_vret, tz_throw, tz_callS, tz_callV, tz_callI, tz_callR, tz_pureS, tz_pureV, tz_callVH, lg, lset, lkill, lst1, lst2, entL, isRf, is1, vl, va_rf_none, va_rf_some, isRf_rf, is1_rf, i0, i1, bI_eq0, bI_eq1, nm_em, nI_eqP, nI_leP, nI_ltP, nN_e1, nN_e2, nN_l1, nN_l2, nN_l3, nN_l4, nI_add, pk_mul, vp_inN, nI_cl, n01, n10, P_i, P_ii, P_iii, f_Mo_at, f_Mo_map, f_Mo_contact, f_Mo_within, f_Mo_isPort, f_Hp_endpoint, f_Hp_nodeOf, f_Hp_portOf, f_Ma_max, f_Ma_min, f_Hp_isSetting, popN, rok, a1, noX, swc, mL, if_true, if_false, ↓reduceIte, cond_true, cond_false, true_and, and_true, List.length_cons, List.length_nil, List.nil_append, List.cons_append, List.append_nil, Option.toList, Nat.reduceEqDiff, Bool.false_eq_true, reduceCtorEq, Nat.reduceAdd, Nat.reduceLT, Nat.reduceLeDiff, Nat.reduceSub, List.replicate, Nat.zero_add, Nat.lt_add_one, Nat.le_refl, Nat.zero_le, Nat.succ_ne_zero, not_false_eq_true, not_true_eq_false, false_implies, true_implies, forall_const, imp_self, true_or, or_true, eq_self, k_Mo_counted, h1, h2, h3, h4]; try clear hgo9 hW9); (obtain ⟨W9, hW9, hgo9⟩ := wp_ex (T_Mo_counted l G) [] _; refine hgo9 200 _ _ _ _ ?_; simp -implicitDefEqProofs (disch := omega) only [hW9, inl, gate, Xq, tz_const, tz_iload, tz_lload, tz_dload, tz_aload, tz_istore, tz_astore, tz_lstore, tz_dstore, tz_iinc, tz_i1, tz_i2, tz_i2z, tz_l2, tz_l2z, tz_i2l, tz_l2i, tz_lcmp, tz_i2d, tz_d2, tz_dcmp, tz_dup, tz_dup2, tz_pop, tz_if, tz_icmp, tz_null, tz_goto, tz_sw, tz_getf, tz_puti, tz_putz, tz_putr, tz_putl, tz_iaload, tz_baload, tz_laload, tz_aaload, tz_iastore, tz_bastore, tz_lastore, tz_aastore, tz_alen, tz_new, tz_newa, tz_oinit, tz_iret, tz_zret, tz_lret, tz_dret, tz_aret, tz_vret, tz_throw, tz_callS, tz_callV, tz_callI, tz_callR, tz_pureS, tz_pureV, tz_callVH, lg, lset, lkill, lst1, lst2, entL, isRf, is1, vl, va_rf_none, va_rf_some, isRf_rf, is1_rf, i0, i1, bI_eq0, bI_eq1, nm_em, nI_eqP, nI_leP, nI_ltP, nN_e1, nN_e2, nN_l1, nN_l2, nN_l3, nN_l4, nI_add, pk_mul, vp_inN, nI_cl, n01, n10, P_i, P_ii, P_iii, f_Mo_at, f_Mo_map, f_Mo_contact, f_Mo_within, f_Mo_isPort, f_Hp_endpoint, f_Hp_nodeOf, f_Hp_portOf, f_Ma_max, f_Ma_min, f_Hp_isSetting, popN, rok, a1, noX, swc, mL, if_true, if_false, ↓reduceIte, cond_true, cond_false, true_and, and_true, List.length_cons, List.length_nil, List.nil_append, List.cons_append, List.append_nil, Option.toList, Nat.reduceEqDiff, Bool.false_eq_true, reduceCtorEq, Nat.reduceAdd, Nat.reduceLT, Nat.reduceLeDiff, Nat.reduceSub, List.replicate, Nat.zero_add, Nat.lt_add_one, Nat.le_refl, Nat.zero_le, Nat.succ_ne_zero, not_false_eq_true, not_true_eq_false, false_implies, true_implies, forall_const, imp_self, true_or, or_true, eq_self, k_Mo_counted, h1, h2, h3, h4]; try clear hgo9 hW9))
      exact hQ
    · ((obtain ⟨W9, hW9, hgo9⟩ := wp_ex (T_Mo_counted l G) [] _; refine hgo9 200 _ _ _ _ ?_; simp -implicitDefEqProofs (disch := omega) only [hW9, inl, gate, Xq, tz_const, tz_iload, tz_lload, tz_dload, tz_aload, tz_istore, tz_astore, tz_lstore, tz_dstore, tz_iinc, tz_i1, tz_i2, tz_i2z, tz_l2, tz_l2z, tz_i2l, tz_l2i, tz_lcmp, tz_i2d, tz_d2, tz_dcmp, tz_dup, tz_dup2, tz_pop, tz_if, tz_icmp, tz_null, tz_goto, tz_sw, tz_getf, tz_puti, tz_putz, tz_putr, tz_putl, tz_iaload, tz_baload, tz_laload, tz_aaload, tz_iastore, tz_bastore, tz_lastore, tz_aastore, tz_alen, tz_new, tz_newa, tz_oinit, tz_iret, tz_zret, tz_lret, tz_dret, tz_aret, tz_vret, tz_throw, tz_callS, tz_callV, tz_callI, tz_callR, tz_pureS, tz_pureV, tz_callVH, lg, lset, lkill, lst1, lst2, entL, isRf, is1, vl, va_rf_none, va_rf_some, isRf_rf, is1_rf, i0, i1, bI_eq0, bI_eq1, nm_em, nI_eqP, nI_leP, nI_ltP, nN_e1, nN_e2, nN_l1, nN_l2, nN_l3, nN_l4, nI_add, pk_mul, vp_inN, nI_cl, n01, n10, P_i, P_ii, P_iii, f_Mo_at, f_Mo_map, f_Mo_contact, f_Mo_within, f_Mo_isPort, f_Hp_endpoint, f_Hp_nodeOf, f_Hp_portOf, f_Ma_max, f_Ma_min, f_Hp_isSetting, popN, rok, a1, noX, swc, mL, if_true, if_false, ↓reduceIte, cond_true, cond_false, true_and, and_true, List.length_cons, List.length_nil, List.nil_append, List.cons_append, List.append_nil, Option.toList, Nat.reduceEqDiff, Bool.false_eq_true, reduceCtorEq, Nat.reduceAdd, Nat.reduceLT, Nat.reduceLeDiff, Nat.reduceSub, List.replicate, Nat.zero_add, Nat.lt_add_one, Nat.le_refl, Nat.zero_le, Nat.succ_ne_zero, not_false_eq_true, not_true_eq_false, false_implies, true_implies, forall_const, imp_self, true_or, or_true, eq_self, k_Mo_counted, h1, P_Mo_hosts, P_Mo_mappings, f_Mo_hosts, hPP, hzF]; try clear hgo9 hW9); (obtain ⟨W9, hW9, hgo9⟩ := wp_ex (T_Mo_counted l G) [] _; refine hgo9 200 _ _ _ _ ?_; simp -implicitDefEqProofs (disch := omega) only [hW9, inl, gate, Xq, tz_const, tz_iload, tz_lload, tz_dload, tz_aload, tz_istore, tz_astore, tz_lstore, tz_dstore, tz_iinc, tz_i1, tz_i2, tz_i2z, tz_l2, tz_l2z, tz_i2l, tz_l2i, tz_lcmp, tz_i2d, tz_d2, tz_dcmp, tz_dup, tz_dup2, tz_pop, tz_if, tz_icmp, tz_null, tz_goto, tz_sw, tz_getf, tz_puti, tz_putz, tz_putr, tz_putl, tz_iaload, tz_baload, tz_laload, tz_aaload, tz_iastore, tz_bastore, tz_lastore, tz_aastore, tz_alen, tz_new, tz_newa, tz_oinit, tz_iret, tz_zret, tz_lret, tz_dret, tz_aret, tz_vret, tz_throw, tz_callS, tz_callV, tz_callI, tz_callR, tz_pureS, tz_pureV, tz_callVH, lg, lset, lkill, lst1, lst2, entL, isRf, is1, vl, va_rf_none, va_rf_some, isRf_rf, is1_rf, i0, i1, bI_eq0, bI_eq1, nm_em, nI_eqP, nI_leP, nI_ltP, nN_e1, nN_e2, nN_l1, nN_l2, nN_l3, nN_l4, nI_add, pk_mul, vp_inN, nI_cl, n01, n10, P_i, P_ii, P_iii, f_Mo_at, f_Mo_map, f_Mo_contact, f_Mo_within, f_Mo_isPort, f_Hp_endpoint, f_Hp_nodeOf, f_Hp_portOf, f_Ma_max, f_Ma_min, f_Hp_isSetting, popN, rok, a1, noX, swc, mL, if_true, if_false, ↓reduceIte, cond_true, cond_false, true_and, and_true, List.length_cons, List.length_nil, List.nil_append, List.cons_append, List.append_nil, Option.toList, Nat.reduceEqDiff, Bool.false_eq_true, reduceCtorEq, Nat.reduceAdd, Nat.reduceLT, Nat.reduceLeDiff, Nat.reduceSub, List.replicate, Nat.zero_add, Nat.lt_add_one, Nat.le_refl, Nat.zero_le, Nat.succ_ne_zero, not_false_eq_true, not_true_eq_false, false_implies, true_implies, forall_const, imp_self, true_or, or_true, eq_self, k_Mo_counted, h1, P_Mo_hosts, P_Mo_mappings, f_Mo_hosts, hPP, hzF]; try clear hgo9 hW9))
      exact hQ
    · ((obtain ⟨W9, hW9, hgo9⟩ := wp_ex (T_Mo_counted l G) [] _; refine hgo9 200 _ _ _ _ ?_; simp -implicitDefEqProofs (disch := omega) only [hW9, inl, gate, Xq, tz_const, tz_iload, tz_lload, tz_dload, tz_aload, tz_istore, tz_astore, tz_lstore, tz_dstore, tz_iinc, tz_i1, tz_i2, tz_i2z, tz_l2, tz_l2z, tz_i2l, tz_l2i, tz_lcmp, tz_i2d, tz_d2, tz_dcmp, tz_dup, tz_dup2, tz_pop, tz_if, tz_icmp, tz_null, tz_goto, tz_sw, tz_getf, tz_puti, tz_putz, tz_putr, tz_putl, tz_iaload, tz_baload, tz_laload, tz_aaload, tz_iastore, tz_bastore, tz_lastore, tz_aastore, tz_alen, tz_new, tz_newa, tz_oinit, tz_iret, tz_zret, tz_lret, tz_dret, tz_aret, tz_vret, tz_throw, tz_callS, tz_callV, tz_callI, tz_callR, tz_pureS, tz_pureV, tz_callVH, lg, lset, lkill, lst1, lst2, entL, isRf, is1, vl, va_rf_none, va_rf_some, isRf_rf, is1_rf, i0, i1, bI_eq0, bI_eq1, nm_em, nI_eqP, nI_leP, nI_ltP, nN_e1, nN_e2, nN_l1, nN_l2, nN_l3, nN_l4, nI_add, pk_mul, vp_inN, nI_cl, n01, n10, P_i, P_ii, P_iii, f_Mo_at, f_Mo_map, f_Mo_contact, f_Mo_within, f_Mo_isPort, f_Hp_endpoint, f_Hp_nodeOf, f_Hp_portOf, f_Ma_max, f_Ma_min, f_Hp_isSetting, popN, rok, a1, noX, swc, mL, if_true, if_false, ↓reduceIte, cond_true, cond_false, true_and, and_true, List.length_cons, List.length_nil, List.nil_append, List.cons_append, List.append_nil, Option.toList, Nat.reduceEqDiff, Bool.false_eq_true, reduceCtorEq, Nat.reduceAdd, Nat.reduceLT, Nat.reduceLeDiff, Nat.reduceSub, List.replicate, Nat.zero_add, Nat.lt_add_one, Nat.le_refl, Nat.zero_le, Nat.succ_ne_zero, not_false_eq_true, not_true_eq_false, false_implies, true_implies, forall_const, imp_self, true_or, or_true, eq_self, k_Mo_counted, h1, h2, h3, h4]; try clear hgo9 hW9); (obtain ⟨W9, hW9, hgo9⟩ := wp_ex (T_Mo_counted l G) [] _; refine hgo9 200 _ _ _ _ ?_; simp -implicitDefEqProofs (disch := omega) only [hW9, inl, gate, Xq, tz_const, tz_iload, tz_lload, tz_dload, tz_aload, tz_istore, tz_astore, tz_lstore, tz_dstore, tz_iinc, tz_i1, tz_i2, tz_i2z, tz_l2, tz_l2z, tz_i2l, tz_l2i, tz_lcmp, tz_i2d, tz_d2, tz_dcmp, tz_dup, tz_dup2, tz_pop, tz_if, tz_icmp, tz_null, tz_goto, tz_sw, tz_getf, tz_puti, tz_putz, tz_putr, tz_putl, tz_iaload, tz_baload, tz_laload, tz_aaload, tz_iastore, tz_bastore, tz_lastore, tz_aastore, tz_alen, tz_new, tz_newa, tz_oinit, tz_iret, tz_zret, tz_lret, tz_dret, tz_aret, tz_vret, tz_throw, tz_callS, tz_callV, tz_callI, tz_callR, tz_pureS, tz_pureV, tz_callVH, lg, lset, lkill, lst1, lst2, entL, isRf, is1, vl, va_rf_none, va_rf_some, isRf_rf, is1_rf, i0, i1, bI_eq0, bI_eq1, nm_em, nI_eqP, nI_leP, nI_ltP, nN_e1, nN_e2, nN_l1, nN_l2, nN_l3, nN_l4, nI_add, pk_mul, vp_inN, nI_cl, n01, n10, P_i, P_ii, P_iii, f_Mo_at, f_Mo_map, f_Mo_contact, f_Mo_within, f_Mo_isPort, f_Hp_endpoint, f_Hp_nodeOf, f_Hp_portOf, f_Ma_max, f_Ma_min, f_Hp_isSetting, popN, rok, a1, noX, swc, mL, if_true, if_false, ↓reduceIte, cond_true, cond_false, true_and, and_true, List.length_cons, List.length_nil, List.nil_append, List.cons_append, List.append_nil, Option.toList, Nat.reduceEqDiff, Bool.false_eq_true, reduceCtorEq, Nat.reduceAdd, Nat.reduceLT, Nat.reduceLeDiff, Nat.reduceSub, List.replicate, Nat.zero_add, Nat.lt_add_one, Nat.le_refl, Nat.zero_le, Nat.succ_ne_zero, not_false_eq_true, not_true_eq_false, false_implies, true_implies, forall_const, imp_self, true_or, or_true, eq_self, k_Mo_counted, h1, h2, h3, h4]; try clear hgo9 hW9))
      exact hQ
    · ((obtain ⟨W9, hW9, hgo9⟩ := wp_ex (T_Mo_counted l G) [] _; refine hgo9 200 _ _ _ _ ?_; simp -implicitDefEqProofs (disch := omega) only [hW9, inl, gate, Xq, tz_const, tz_iload, tz_lload, tz_dload, tz_aload, tz_istore, tz_astore, tz_lstore, tz_dstore, tz_iinc, tz_i1, tz_i2, tz_i2z, tz_l2, tz_l2z, tz_i2l, tz_l2i, tz_lcmp, tz_i2d, tz_d2, tz_dcmp, tz_dup, tz_dup2, tz_pop, tz_if, tz_icmp, tz_null, tz_goto, tz_sw, tz_getf, tz_puti, tz_putz, tz_putr, tz_putl, tz_iaload, tz_baload, tz_laload, tz_aaload, tz_iastore, tz_bastore, tz_lastore, tz_aastore, tz_alen, tz_new, tz_newa, tz_oinit, tz_iret, tz_zret, tz_lret, tz_dret, tz_aret, tz_vret, tz_throw, tz_callS, tz_callV, tz_callI, tz_callR, tz_pureS, tz_pureV, tz_callVH, lg, lset, lkill, lst1, lst2, entL, isRf, is1, vl, va_rf_none, va_rf_some, isRf_rf, is1_rf, i0, i1, bI_eq0, bI_eq1, nm_em, nI_eqP, nI_leP, nI_ltP, nN_e1, nN_e2, nN_l1, nN_l2, nN_l3, nN_l4, nI_add, pk_mul, vp_inN, nI_cl, n01, n10, P_i, P_ii, P_iii, f_Mo_at, f_Mo_map, f_Mo_contact, f_Mo_within, f_Mo_isPort, f_Hp_endpoint, f_Hp_nodeOf, f_Hp_portOf, f_Ma_max, f_Ma_min, f_Hp_isSetting, popN, rok, a1, noX, swc, mL, if_true, if_false, ↓reduceIte, cond_true, cond_false, true_and, and_true, List.length_cons, List.length_nil, List.nil_append, List.cons_append, List.append_nil, Option.toList, Nat.reduceEqDiff, Bool.false_eq_true, reduceCtorEq, Nat.reduceAdd, Nat.reduceLT, Nat.reduceLeDiff, Nat.reduceSub, List.replicate, Nat.zero_add, Nat.lt_add_one, Nat.le_refl, Nat.zero_le, Nat.succ_ne_zero, not_false_eq_true, not_true_eq_false, false_implies, true_implies, forall_const, imp_self, true_or, or_true, eq_self, k_Mo_counted, h1, P_Mo_mappings, f_Mo_mappings, hPP, hzF]; try clear hgo9 hW9); (obtain ⟨W9, hW9, hgo9⟩ := wp_ex (T_Mo_counted l G) [] _; refine hgo9 200 _ _ _ _ ?_; simp -implicitDefEqProofs (disch := omega) only [hW9, inl, gate, Xq, tz_const, tz_iload, tz_lload, tz_dload, tz_aload, tz_istore, tz_astore, tz_lstore, tz_dstore, tz_iinc, tz_i1, tz_i2, tz_i2z, tz_l2, tz_l2z, tz_i2l, tz_l2i, tz_lcmp, tz_i2d, tz_d2, tz_dcmp, tz_dup, tz_dup2, tz_pop, tz_if, tz_icmp, tz_null, tz_goto, tz_sw, tz_getf, tz_puti, tz_putz, tz_putr, tz_putl, tz_iaload, tz_baload, tz_laload, tz_aaload, tz_iastore, tz_bastore, tz_lastore, tz_aastore, tz_alen, tz_new, tz_newa, tz_oinit, tz_iret, tz_zret, tz_lret, tz_dret, tz_aret, tz_vret, tz_throw, tz_callS, tz_callV, tz_callI, tz_callR, tz_pureS, tz_pureV, tz_callVH, lg, lset, lkill, lst1, lst2, entL, isRf, is1, vl, va_rf_none, va_rf_some, isRf_rf, is1_rf, i0, i1, bI_eq0, bI_eq1, nm_em, nI_eqP, nI_leP, nI_ltP, nN_e1, nN_e2, nN_l1, nN_l2, nN_l3, nN_l4, nI_add, pk_mul, vp_inN, nI_cl, n01, n10, P_i, P_ii, P_iii, f_Mo_at, f_Mo_map, f_Mo_contact, f_Mo_within, f_Mo_isPort, f_Hp_endpoint, f_Hp_nodeOf, f_Hp_portOf, f_Ma_max, f_Ma_min, f_Hp_isSetting, popN, rok, a1, noX, swc, mL, if_true, if_false, ↓reduceIte, cond_true, cond_false, true_and, and_true, List.length_cons, List.length_nil, List.nil_append, List.cons_append, List.append_nil, Option.toList, Nat.reduceEqDiff, Bool.false_eq_true, reduceCtorEq, Nat.reduceAdd, Nat.reduceLT, Nat.reduceLeDiff, Nat.reduceSub, List.replicate, Nat.zero_add, Nat.lt_add_one, Nat.le_refl, Nat.zero_le, Nat.succ_ne_zero, not_false_eq_true, not_true_eq_false, false_implies, true_implies, forall_const, imp_self, true_or, or_true, eq_self, k_Mo_counted, h1, P_Mo_mappings, f_Mo_mappings, hPP, hzF]; try clear hgo9 hW9))
      exact hQ
    · ((obtain ⟨W9, hW9, hgo9⟩ := wp_ex (T_Mo_counted l G) [] _; refine hgo9 200 _ _ _ _ ?_; simp -implicitDefEqProofs (disch := omega) only [hW9, inl, gate, Xq, tz_const, tz_iload, tz_lload, tz_dload, tz_aload, tz_istore, tz_astore, tz_lstore, tz_dstore, tz_iinc, tz_i1, tz_i2, tz_i2z, tz_l2, tz_l2z, tz_i2l, tz_l2i, tz_lcmp, tz_i2d, tz_d2, tz_dcmp, tz_dup, tz_dup2, tz_pop, tz_if, tz_icmp, tz_null, tz_goto, tz_sw, tz_getf, tz_puti, tz_putz, tz_putr, tz_putl, tz_iaload, tz_baload, tz_laload, tz_aaload, tz_iastore, tz_bastore, tz_lastore, tz_aastore, tz_alen, tz_new, tz_newa, tz_oinit, tz_iret, tz_zret, tz_lret, tz_dret, tz_aret, tz_vret, tz_throw, tz_callS, tz_callV, tz_callI, tz_callR, tz_pureS, tz_pureV, tz_callVH, lg, lset, lkill, lst1, lst2, entL, isRf, is1, vl, va_rf_none, va_rf_some, isRf_rf, is1_rf, i0, i1, bI_eq0, bI_eq1, nm_em, nI_eqP, nI_leP, nI_ltP, nN_e1, nN_e2, nN_l1, nN_l2, nN_l3, nN_l4, nI_add, pk_mul, vp_inN, nI_cl, n01, n10, P_i, P_ii, P_iii, f_Mo_at, f_Mo_map, f_Mo_contact, f_Mo_within, f_Mo_isPort, f_Hp_endpoint, f_Hp_nodeOf, f_Hp_portOf, f_Ma_max, f_Ma_min, f_Hp_isSetting, popN, rok, a1, noX, swc, mL, if_true, if_false, ↓reduceIte, cond_true, cond_false, true_and, and_true, List.length_cons, List.length_nil, List.nil_append, List.cons_append, List.append_nil, Option.toList, Nat.reduceEqDiff, Bool.false_eq_true, reduceCtorEq, Nat.reduceAdd, Nat.reduceLT, Nat.reduceLeDiff, Nat.reduceSub, List.replicate, Nat.zero_add, Nat.lt_add_one, Nat.le_refl, Nat.zero_le, Nat.succ_ne_zero, not_false_eq_true, not_true_eq_false, false_implies, true_implies, forall_const, imp_self, true_or, or_true, eq_self, k_Mo_counted, h1, h2, h3, h4, pk_sub]; try clear hgo9 hW9); (obtain ⟨W9, hW9, hgo9⟩ := wp_ex (T_Mo_counted l G) [] _; refine hgo9 200 _ _ _ _ ?_; simp -implicitDefEqProofs (disch := omega) only [hW9, inl, gate, Xq, tz_const, tz_iload, tz_lload, tz_dload, tz_aload, tz_istore, tz_astore, tz_lstore, tz_dstore, tz_iinc, tz_i1, tz_i2, tz_i2z, tz_l2, tz_l2z, tz_i2l, tz_l2i, tz_lcmp, tz_i2d, tz_d2, tz_dcmp, tz_dup, tz_dup2, tz_pop, tz_if, tz_icmp, tz_null, tz_goto, tz_sw, tz_getf, tz_puti, tz_putz, tz_putr, tz_putl, tz_iaload, tz_baload, tz_laload, tz_aaload, tz_iastore, tz_bastore, tz_lastore, tz_aastore, tz_alen, tz_new, tz_newa, tz_oinit, tz_iret, tz_zret, tz_lret, tz_dret, tz_aret, tz_vret, tz_throw, tz_callS, tz_callV, tz_callI, tz_callR, tz_pureS, tz_pureV, tz_callVH, lg, lset, lkill, lst1, lst2, entL, isRf, is1, vl, va_rf_none, va_rf_some, isRf_rf, is1_rf, i0, i1, bI_eq0, bI_eq1, nm_em, nI_eqP, nI_leP, nI_ltP, nN_e1, nN_e2, nN_l1, nN_l2, nN_l3, nN_l4, nI_add, pk_mul, vp_inN, nI_cl, n01, n10, P_i, P_ii, P_iii, f_Mo_at, f_Mo_map, f_Mo_contact, f_Mo_within, f_Mo_isPort, f_Hp_endpoint, f_Hp_nodeOf, f_Hp_portOf, f_Ma_max, f_Ma_min, f_Hp_isSetting, popN, rok, a1, noX, swc, mL, if_true, if_false, ↓reduceIte, cond_true, cond_false, true_and, and_true, List.length_cons, List.length_nil, List.nil_append, List.cons_append, List.append_nil, Option.toList, Nat.reduceEqDiff, Bool.false_eq_true, reduceCtorEq, Nat.reduceAdd, Nat.reduceLT, Nat.reduceLeDiff, Nat.reduceSub, List.replicate, Nat.zero_add, Nat.lt_add_one, Nat.le_refl, Nat.zero_le, Nat.succ_ne_zero, not_false_eq_true, not_true_eq_false, false_implies, true_implies, forall_const, imp_self, true_or, or_true, eq_self, k_Mo_counted, h1, h2, h3, h4, pk_sub]; try clear hgo9 hW9))
      exact hQ
    · ((obtain ⟨W9, hW9, hgo9⟩ := wp_ex (T_Mo_counted l G) [] _; refine hgo9 200 _ _ _ _ ?_; simp -implicitDefEqProofs (disch := omega) only [hW9, inl, gate, Xq, tz_const, tz_iload, tz_lload, tz_dload, tz_aload, tz_istore, tz_astore, tz_lstore, tz_dstore, tz_iinc, tz_i1, tz_i2, tz_i2z, tz_l2, tz_l2z, tz_i2l, tz_l2i, tz_lcmp, tz_i2d, tz_d2, tz_dcmp, tz_dup, tz_dup2, tz_pop, tz_if, tz_icmp, tz_null, tz_goto, tz_sw, tz_getf, tz_puti, tz_putz, tz_putr, tz_putl, tz_iaload, tz_baload, tz_laload, tz_aaload, tz_iastore, tz_bastore, tz_lastore, tz_aastore, tz_alen, tz_new, tz_newa, tz_oinit, tz_iret, tz_zret, tz_lret, tz_dret, tz_aret, tz_vret, tz_throw, tz_callS, tz_callV, tz_callI, tz_callR, tz_pureS, tz_pureV, tz_callVH, lg, lset, lkill, lst1, lst2, entL, isRf, is1, vl, va_rf_none, va_rf_some, isRf_rf, is1_rf, i0, i1, bI_eq0, bI_eq1, nm_em, nI_eqP, nI_leP, nI_ltP, nN_e1, nN_e2, nN_l1, nN_l2, nN_l3, nN_l4, nI_add, pk_mul, vp_inN, nI_cl, n01, n10, P_i, P_ii, P_iii, f_Mo_at, f_Mo_map, f_Mo_contact, f_Mo_within, f_Mo_isPort, f_Hp_endpoint, f_Hp_nodeOf, f_Hp_portOf, f_Ma_max, f_Ma_min, f_Hp_isSetting, popN, rok, a1, noX, swc, mL, if_true, if_false, ↓reduceIte, cond_true, cond_false, true_and, and_true, List.length_cons, List.length_nil, List.nil_append, List.cons_append, List.append_nil, Option.toList, Nat.reduceEqDiff, Bool.false_eq_true, reduceCtorEq, Nat.reduceAdd, Nat.reduceLT, Nat.reduceLeDiff, Nat.reduceSub, List.replicate, Nat.zero_add, Nat.lt_add_one, Nat.le_refl, Nat.zero_le, Nat.succ_ne_zero, not_false_eq_true, not_true_eq_false, false_implies, true_implies, forall_const, imp_self, true_or, or_true, eq_self, k_Mo_counted, h1, h2, h3, h4, pk_sub]; try clear hgo9 hW9); (obtain ⟨W9, hW9, hgo9⟩ := wp_ex (T_Mo_counted l G) [] _; refine hgo9 200 _ _ _ _ ?_; simp -implicitDefEqProofs (disch := omega) only [hW9, inl, gate, Xq, tz_const, tz_iload, tz_lload, tz_dload, tz_aload, tz_istore, tz_astore, tz_lstore, tz_dstore, tz_iinc, tz_i1, tz_i2, tz_i2z, tz_l2, tz_l2z, tz_i2l, tz_l2i, tz_lcmp, tz_i2d, tz_d2, tz_dcmp, tz_dup, tz_dup2, tz_pop, tz_if, tz_icmp, tz_null, tz_goto, tz_sw, tz_getf, tz_puti, tz_putz, tz_putr, tz_putl, tz_iaload, tz_baload, tz_laload, tz_aaload, tz_iastore, tz_bastore, tz_lastore, tz_aastore, tz_alen, tz_new, tz_newa, tz_oinit, tz_iret, tz_zret, tz_lret, tz_dret, tz_aret, tz_vret, tz_throw, tz_callS, tz_callV, tz_callI, tz_callR, tz_pureS, tz_pureV, tz_callVH, lg, lset, lkill, lst1, lst2, entL, isRf, is1, vl, va_rf_none, va_rf_some, isRf_rf, is1_rf, i0, i1, bI_eq0, bI_eq1, nm_em, nI_eqP, nI_leP, nI_ltP, nN_e1, nN_e2, nN_l1, nN_l2, nN_l3, nN_l4, nI_add, pk_mul, vp_inN, nI_cl, n01, n10, P_i, P_ii, P_iii, f_Mo_at, f_Mo_map, f_Mo_contact, f_Mo_within, f_Mo_isPort, f_Hp_endpoint, f_Hp_nodeOf, f_Hp_portOf, f_Ma_max, f_Ma_min, f_Hp_isSetting, popN, rok, a1, noX, swc, mL, if_true, if_false, ↓reduceIte, cond_true, cond_false, true_and, and_true, List.length_cons, List.length_nil, List.nil_append, List.cons_append, List.append_nil, Option.toList, Nat.reduceEqDiff, Bool.false_eq_true, reduceCtorEq, Nat.reduceAdd, Nat.reduceLT, Nat.reduceLeDiff, Nat.reduceSub, List.replicate, Nat.zero_add, Nat.lt_add_one, Nat.le_refl, Nat.zero_le, Nat.succ_ne_zero, not_false_eq_true, not_true_eq_false, false_implies, true_implies, forall_const, imp_self, true_or, or_true, eq_self, k_Mo_counted, h1, h2, h3, h4, pk_sub]; try clear hgo9 hW9))
      exact hQ
    · ((obtain ⟨W9, hW9, hgo9⟩ := wp_ex (T_Mo_counted l G) [] _; refine hgo9 200 _ _ _ _ ?_; simp -implicitDefEqProofs (disch := omega) only [hW9, inl, gate, Xq, tz_const, tz_iload, tz_lload, tz_dload, tz_aload, tz_istore, tz_astore, tz_lstore, tz_dstore, tz_iinc, tz_i1, tz_i2, tz_i2z, tz_l2, tz_l2z, tz_i2l, tz_l2i, tz_lcmp, tz_i2d, tz_d2, tz_dcmp, tz_dup, tz_dup2, tz_pop, tz_if, tz_icmp, tz_null, tz_goto, tz_sw, tz_getf, tz_puti, tz_putz, tz_putr, tz_putl, tz_iaload, tz_baload, tz_laload, tz_aaload, tz_iastore, tz_bastore, tz_lastore, tz_aastore, tz_alen, tz_new, tz_newa, tz_oinit, tz_iret, tz_zret, tz_lret, tz_dret, tz_aret, tz_vret, tz_throw, tz_callS, tz_callV, tz_callI, tz_callR, tz_pureS, tz_pureV, tz_callVH, lg, lset, lkill, lst1, lst2, entL, isRf, is1, vl, va_rf_none, va_rf_some, isRf_rf, is1_rf, i0, i1, bI_eq0, bI_eq1, nm_em, nI_eqP, nI_leP, nI_ltP, nN_e1, nN_e2, nN_l1, nN_l2, nN_l3, nN_l4, nI_add, pk_mul, vp_inN, nI_cl, n01, n10, P_i, P_ii, P_iii, f_Mo_at, f_Mo_map, f_Mo_contact, f_Mo_within, f_Mo_isPort, f_Hp_endpoint, f_Hp_nodeOf, f_Hp_portOf, f_Ma_max, f_Ma_min, f_Hp_isSetting, popN, rok, a1, noX, swc, mL, if_true, if_false, ↓reduceIte, cond_true, cond_false, true_and, and_true, List.length_cons, List.length_nil, List.nil_append, List.cons_append, List.append_nil, Option.toList, Nat.reduceEqDiff, Bool.false_eq_true, reduceCtorEq, Nat.reduceAdd, Nat.reduceLT, Nat.reduceLeDiff, Nat.reduceSub, List.replicate, Nat.zero_add, Nat.lt_add_one, Nat.le_refl, Nat.zero_le, Nat.succ_ne_zero, not_false_eq_true, not_true_eq_false, false_implies, true_implies, forall_const, imp_self, true_or, or_true, eq_self, k_Mo_counted, h1, h2, h3, h4, pk_sub]; try clear hgo9 hW9); (obtain ⟨W9, hW9, hgo9⟩ := wp_ex (T_Mo_counted l G) [] _; refine hgo9 200 _ _ _ _ ?_; simp -implicitDefEqProofs (disch := omega) only [hW9, inl, gate, Xq, tz_const, tz_iload, tz_lload, tz_dload, tz_aload, tz_istore, tz_astore, tz_lstore, tz_dstore, tz_iinc, tz_i1, tz_i2, tz_i2z, tz_l2, tz_l2z, tz_i2l, tz_l2i, tz_lcmp, tz_i2d, tz_d2, tz_dcmp, tz_dup, tz_dup2, tz_pop, tz_if, tz_icmp, tz_null, tz_goto, tz_sw, tz_getf, tz_puti, tz_putz, tz_putr, tz_putl, tz_iaload, tz_baload, tz_laload, tz_aaload, tz_iastore, tz_bastore, tz_lastore, tz_aastore, tz_alen, tz_new, tz_newa, tz_oinit, tz_iret, tz_zret, tz_lret, tz_dret, tz_aret, tz_vret, tz_throw, tz_callS, tz_callV, tz_callI, tz_callR, tz_pureS, tz_pureV, tz_callVH, lg, lset, lkill, lst1, lst2, entL, isRf, is1, vl, va_rf_none, va_rf_some, isRf_rf, is1_rf, i0, i1, bI_eq0, bI_eq1, nm_em, nI_eqP, nI_leP, nI_ltP, nN_e1, nN_e2, nN_l1, nN_l2, nN_l3, nN_l4, nI_add, pk_mul, vp_inN, nI_cl, n01, n10, P_i, P_ii, P_iii, f_Mo_at, f_Mo_map, f_Mo_contact, f_Mo_within, f_Mo_isPort, f_Hp_endpoint, f_Hp_nodeOf, f_Hp_portOf, f_Ma_max, f_Ma_min, f_Hp_isSetting, popN, rok, a1, noX, swc, mL, if_true, if_false, ↓reduceIte, cond_true, cond_false, true_and, and_true, List.length_cons, List.length_nil, List.nil_append, List.cons_append, List.append_nil, Option.toList, Nat.reduceEqDiff, Bool.false_eq_true, reduceCtorEq, Nat.reduceAdd, Nat.reduceLT, Nat.reduceLeDiff, Nat.reduceSub, List.replicate, Nat.zero_add, Nat.lt_add_one, Nat.le_refl, Nat.zero_le, Nat.succ_ne_zero, not_false_eq_true, not_true_eq_false, false_implies, true_implies, forall_const, imp_self, true_or, or_true, eq_self, k_Mo_counted, h1, h2, h3, h4, pk_sub]; try clear hgo9 hW9))
      exact hQ
    · ((obtain ⟨W9, hW9, hgo9⟩ := wp_ex (T_Mo_counted l G) [] _; refine hgo9 200 _ _ _ _ ?_; simp -implicitDefEqProofs (disch := omega) only [hW9, inl, gate, Xq, tz_const, tz_iload, tz_lload, tz_dload, tz_aload, tz_istore, tz_astore, tz_lstore, tz_dstore, tz_iinc, tz_i1, tz_i2, tz_i2z, tz_l2, tz_l2z, tz_i2l, tz_l2i, tz_lcmp, tz_i2d, tz_d2, tz_dcmp, tz_dup, tz_dup2, tz_pop, tz_if, tz_icmp, tz_null, tz_goto, tz_sw, tz_getf, tz_puti, tz_putz, tz_putr, tz_putl, tz_iaload, tz_baload, tz_laload, tz_aaload, tz_iastore, tz_bastore, tz_lastore, tz_aastore, tz_alen, tz_new, tz_newa, tz_oinit, tz_iret, tz_zret, tz_lret, tz_dret, tz_aret, tz_vret, tz_throw, tz_callS, tz_callV, tz_callI, tz_callR, tz_pureS, tz_pureV, tz_callVH, lg, lset, lkill, lst1, lst2, entL, isRf, is1, vl, va_rf_none, va_rf_some, isRf_rf, is1_rf, i0, i1, bI_eq0, bI_eq1, nm_em, nI_eqP, nI_leP, nI_ltP, nN_e1, nN_e2, nN_l1, nN_l2, nN_l3, nN_l4, nI_add, pk_mul, vp_inN, nI_cl, n01, n10, P_i, P_ii, P_iii, f_Mo_at, f_Mo_map, f_Mo_contact, f_Mo_within, f_Mo_isPort, f_Hp_endpoint, f_Hp_nodeOf, f_Hp_portOf, f_Ma_max, f_Ma_min, f_Hp_isSetting, popN, rok, a1, noX, swc, mL, if_true, if_false, ↓reduceIte, cond_true, cond_false, true_and, and_true, List.length_cons, List.length_nil, List.nil_append, List.cons_append, List.append_nil, Option.toList, Nat.reduceEqDiff, Bool.false_eq_true, reduceCtorEq, Nat.reduceAdd, Nat.reduceLT, Nat.reduceLeDiff, Nat.reduceSub, List.replicate, Nat.zero_add, Nat.lt_add_one, Nat.le_refl, Nat.zero_le, Nat.succ_ne_zero, not_false_eq_true, not_true_eq_false, false_implies, true_implies, forall_const, imp_self, true_or, or_true, eq_self, k_Mo_counted, h1, h2, h3, h4, pk_sub]; try clear hgo9 hW9); (obtain ⟨W9, hW9, hgo9⟩ := wp_ex (T_Mo_counted l G) [] _; refine hgo9 200 _ _ _ _ ?_; simp -implicitDefEqProofs (disch := omega) only [hW9, inl, gate, Xq, tz_const, tz_iload, tz_lload, tz_dload, tz_aload, tz_istore, tz_astore, tz_lstore, tz_dstore, tz_iinc, tz_i1, tz_i2, tz_i2z, tz_l2, tz_l2z, tz_i2l, tz_l2i, tz_lcmp, tz_i2d, tz_d2, tz_dcmp, tz_dup, tz_dup2, tz_pop, tz_if, tz_icmp, tz_null, tz_goto, tz_sw, tz_getf, tz_puti, tz_putz, tz_putr, tz_putl, tz_iaload, tz_baload, tz_laload, tz_aaload, tz_iastore, tz_bastore, tz_lastore, tz_aastore, tz_alen, tz_new, tz_newa, tz_oinit, tz_iret, tz_zret, tz_lret, tz_dret, tz_aret, tz_vret, tz_throw, tz_callS, tz_callV, tz_callI, tz_callR, tz_pureS, tz_pureV, tz_callVH, lg, lset, lkill, lst1, lst2, entL, isRf, is1, vl, va_rf_none, va_rf_some, isRf_rf, is1_rf, i0, i1, bI_eq0, bI_eq1, nm_em, nI_eqP, nI_leP, nI_ltP, nN_e1, nN_e2, nN_l1, nN_l2, nN_l3, nN_l4, nI_add, pk_mul, vp_inN, nI_cl, n01, n10, P_i, P_ii, P_iii, f_Mo_at, f_Mo_map, f_Mo_contact, f_Mo_within, f_Mo_isPort, f_Hp_endpoint, f_Hp_nodeOf, f_Hp_portOf, f_Ma_max, f_Ma_min, f_Hp_isSetting, popN, rok, a1, noX, swc, mL, if_true, if_false, ↓reduceIte, cond_true, cond_false, true_and, and_true, List.length_cons, List.length_nil, List.nil_append, List.cons_append, List.append_nil, Option.toList, Nat.reduceEqDiff, Bool.false_eq_true, reduceCtorEq, Nat.reduceAdd, Nat.reduceLT, Nat.reduceLeDiff, Nat.reduceSub, List.replicate, Nat.zero_add, Nat.lt_add_one, Nat.le_refl, Nat.zero_le, Nat.succ_ne_zero, not_false_eq_true, not_true_eq_false, false_implies, true_implies, forall_const, imp_self, true_or, or_true, eq_self, k_Mo_counted, h1, h2, h3, h4, pk_sub]; try clear hgo9 hW9))
      exact hQ
    · ((obtain ⟨W9, hW9, hgo9⟩ := wp_ex (T_Mo_counted l G) [] _; refine hgo9 200 _ _ _ _ ?_; simp -implicitDefEqProofs (disch := omega) only [hW9, inl, gate, Xq, tz_const, tz_iload, tz_lload, tz_dload, tz_aload, tz_istore, tz_astore, tz_lstore, tz_dstore, tz_iinc, tz_i1, tz_i2, tz_i2z, tz_l2, tz_l2z, tz_i2l, tz_l2i, tz_lcmp, tz_i2d, tz_d2, tz_dcmp, tz_dup, tz_dup2, tz_pop, tz_if, tz_icmp, tz_null, tz_goto, tz_sw, tz_getf, tz_puti, tz_putz, tz_putr, tz_putl, tz_iaload, tz_baload, tz_laload, tz_aaload, tz_iastore, tz_bastore, tz_lastore, tz_aastore, tz_alen, tz_new, tz_newa, tz_oinit, tz_iret, tz_zret, tz_lret, tz_dret, tz_aret, tz_vret, tz_throw, tz_callS, tz_callV, tz_callI, tz_callR, tz_pureS, tz_pureV, tz_callVH, lg, lset, lkill, lst1, lst2, entL, isRf, is1, vl, va_rf_none, va_rf_some, isRf_rf, is1_rf, i0, i1, bI_eq0, bI_eq1, nm_em, nI_eqP, nI_leP, nI_ltP, nN_e1, nN_e2, nN_l1, nN_l2, nN_l3, nN_l4, nI_add, pk_mul, vp_inN, nI_cl, n01, n10, P_i, P_ii, P_iii, f_Mo_at, f_Mo_map, f_Mo_contact, f_Mo_within, f_Mo_isPort, f_Hp_endpoint, f_Hp_nodeOf, f_Hp_portOf, f_Ma_max, f_Ma_min, f_Hp_isSetting, popN, rok, a1, noX, swc, mL, if_true, if_false, ↓reduceIte, cond_true, cond_false, true_and, and_true, List.length_cons, List.length_nil, List.nil_append, List.cons_append, List.append_nil, Option.toList, Nat.reduceEqDiff, Bool.false_eq_true, reduceCtorEq, Nat.reduceAdd, Nat.reduceLT, Nat.reduceLeDiff, Nat.reduceSub, List.replicate, Nat.zero_add, Nat.lt_add_one, Nat.le_refl, Nat.zero_le, Nat.succ_ne_zero, not_false_eq_true, not_true_eq_false, false_implies, true_implies, forall_const, imp_self, true_or, or_true, eq_self, k_Mo_counted, h1, h2, h3, h4, pk_sub]; try clear hgo9 hW9); (obtain ⟨W9, hW9, hgo9⟩ := wp_ex (T_Mo_counted l G) [] _; refine hgo9 200 _ _ _ _ ?_; simp -implicitDefEqProofs (disch := omega) only [hW9, inl, gate, Xq, tz_const, tz_iload, tz_lload, tz_dload, tz_aload, tz_istore, tz_astore, tz_lstore, tz_dstore, tz_iinc, tz_i1, tz_i2, tz_i2z, tz_l2, tz_l2z, tz_i2l, tz_l2i, tz_lcmp, tz_i2d, tz_d2, tz_dcmp, tz_dup, tz_dup2, tz_pop, tz_if, tz_icmp, tz_null, tz_goto, tz_sw, tz_getf, tz_puti, tz_putz, tz_putr, tz_putl, tz_iaload, tz_baload, tz_laload, tz_aaload, tz_iastore, tz_bastore, tz_lastore, tz_aastore, tz_alen, tz_new, tz_newa, tz_oinit, tz_iret, tz_zret, tz_lret, tz_dret, tz_aret, tz_vret, tz_throw, tz_callS, tz_callV, tz_callI, tz_callR, tz_pureS, tz_pureV, tz_callVH, lg, lset, lkill, lst1, lst2, entL, isRf, is1, vl, va_rf_none, va_rf_some, isRf_rf, is1_rf, i0, i1, bI_eq0, bI_eq1, nm_em, nI_eqP, nI_leP, nI_ltP, nN_e1, nN_e2, nN_l1, nN_l2, nN_l3, nN_l4, nI_add, pk_mul, vp_inN, nI_cl, n01, n10, P_i, P_ii, P_iii, f_Mo_at, f_Mo_map, f_Mo_contact, f_Mo_within, f_Mo_isPort, f_Hp_endpoint, f_Hp_nodeOf, f_Hp_portOf, f_Ma_max, f_Ma_min, f_Hp_isSetting, popN, rok, a1, noX, swc, mL, if_true, if_false, ↓reduceIte, cond_true, cond_false, true_and, and_true, List.length_cons, List.length_nil, List.nil_append, List.cons_append, List.append_nil, Option.toList, Nat.reduceEqDiff, Bool.false_eq_true, reduceCtorEq, Nat.reduceAdd, Nat.reduceLT, Nat.reduceLeDiff, Nat.reduceSub, List.replicate, Nat.zero_add, Nat.lt_add_one, Nat.le_refl, Nat.zero_le, Nat.succ_ne_zero, not_false_eq_true, not_true_eq_false, false_implies, true_implies, forall_const, imp_self, true_or, or_true, eq_self, k_Mo_counted, h1, h2, h3, h4, pk_sub]; try clear hgo9 hW9))
      exact hQ
    · ((obtain ⟨W9, hW9, hgo9⟩ := wp_ex (T_Mo_counted l G) [] _; refine hgo9 200 _ _ _ _ ?_; simp -implicitDefEqProofs (disch := omega) only [hW9, inl, gate, Xq, tz_const, tz_iload, tz_lload, tz_dload, tz_aload, tz_istore, tz_astore, tz_lstore, tz_dstore, tz_iinc, tz_i1, tz_i2, tz_i2z, tz_l2, tz_l2z, tz_i2l, tz_l2i, tz_lcmp, tz_i2d, tz_d2, tz_dcmp, tz_dup, tz_dup2, tz_pop, tz_if, tz_icmp, tz_null, tz_goto, tz_sw, tz_getf, tz_puti, tz_putz, tz_putr, tz_putl, tz_iaload, tz_baload, tz_laload, tz_aaload, tz_iastore, tz_bastore, tz_lastore, tz_aastore, tz_alen, tz_new, tz_newa, tz_oinit, tz_iret, tz_zret, tz_lret, tz_dret, tz_aret, tz_vret, tz_throw, tz_callS, tz_callV, tz_callI, tz_callR, tz_pureS, tz_pureV, tz_callVH, lg, lset, lkill, lst1, lst2, entL, isRf, is1, vl, va_rf_none, va_rf_some, isRf_rf, is1_rf, i0, i1, bI_eq0, bI_eq1, nm_em, nI_eqP, nI_leP, nI_ltP, nN_e1, nN_e2, nN_l1, nN_l2, nN_l3, nN_l4, nI_add, pk_mul, vp_inN, nI_cl, n01, n10, P_i, P_ii, P_iii, f_Mo_at, f_Mo_map, f_Mo_contact, f_Mo_within, f_Mo_isPort, f_Hp_endpoint, f_Hp_nodeOf, f_Hp_portOf, f_Ma_max, f_Ma_min, f_Hp_isSetting, popN, rok, a1, noX, swc, mL, if_true, if_false, ↓reduceIte, cond_true, cond_false, true_and, and_true, List.length_cons, List.length_nil, List.nil_append, List.cons_append, List.append_nil, Option.toList, Nat.reduceEqDiff, Bool.false_eq_true, reduceCtorEq, Nat.reduceAdd, Nat.reduceLT, Nat.reduceLeDiff, Nat.reduceSub, List.replicate, Nat.zero_add, Nat.lt_add_one, Nat.le_refl, Nat.zero_le, Nat.succ_ne_zero, not_false_eq_true, not_true_eq_false, false_implies, true_implies, forall_const, imp_self, true_or, or_true, eq_self, k_Mo_counted, h1, h2, h3, h4, pk_sub]; try clear hgo9 hW9); (obtain ⟨W9, hW9, hgo9⟩ := wp_ex (T_Mo_counted l G) [] _; refine hgo9 200 _ _ _ _ ?_; simp -implicitDefEqProofs (disch := omega) only [hW9, inl, gate, Xq, tz_const, tz_iload, tz_lload, tz_dload, tz_aload, tz_istore, tz_astore, tz_lstore, tz_dstore, tz_iinc, tz_i1, tz_i2, tz_i2z, tz_l2, tz_l2z, tz_i2l, tz_l2i, tz_lcmp, tz_i2d, tz_d2, tz_dcmp, tz_dup, tz_dup2, tz_pop, tz_if, tz_icmp, tz_null, tz_goto, tz_sw, tz_getf, tz_puti, tz_putz, tz_putr, tz_putl, tz_iaload, tz_baload, tz_laload, tz_aaload, tz_iastore, tz_bastore, tz_lastore, tz_aastore, tz_alen, tz_new, tz_newa, tz_oinit, tz_iret, tz_zret, tz_lret, tz_dret, tz_aret, tz_vret, tz_throw, tz_callS, tz_callV, tz_callI, tz_callR, tz_pureS, tz_pureV, tz_callVH, lg, lset, lkill, lst1, lst2, entL, isRf, is1, vl, va_rf_none, va_rf_some, isRf_rf, is1_rf, i0, i1, bI_eq0, bI_eq1, nm_em, nI_eqP, nI_leP, nI_ltP, nN_e1, nN_e2, nN_l1, nN_l2, nN_l3, nN_l4, nI_add, pk_mul, vp_inN, nI_cl, n01, n10, P_i, P_ii, P_iii, f_Mo_at, f_Mo_map, f_Mo_contact, f_Mo_within, f_Mo_isPort, f_Hp_endpoint, f_Hp_nodeOf, f_Hp_portOf, f_Ma_max, f_Ma_min, f_Hp_isSetting, popN, rok, a1, noX, swc, mL, if_true, if_false, ↓reduceIte, cond_true, cond_false, true_and, and_true, List.length_cons, List.length_nil, List.nil_append, List.cons_append, List.append_nil, Option.toList, Nat.reduceEqDiff, Bool.false_eq_true, reduceCtorEq, Nat.reduceAdd, Nat.reduceLT, Nat.reduceLeDiff, Nat.reduceSub, List.replicate, Nat.zero_add, Nat.lt_add_one, Nat.le_refl, Nat.zero_le, Nat.succ_ne_zero, not_false_eq_true, not_true_eq_false, false_implies, true_implies, forall_const, imp_self, true_or, or_true, eq_self, k_Mo_counted, h1, h2, h3, h4, pk_sub]; try clear hgo9 hW9))
      exact hQ
    · ((obtain ⟨W9, hW9, hgo9⟩ := wp_ex (T_Mo_counted l G) [] _; refine hgo9 200 _ _ _ _ ?_; simp -implicitDefEqProofs (disch := omega) only [hW9, inl, gate, Xq, tz_const, tz_iload, tz_lload, tz_dload, tz_aload, tz_istore, tz_astore, tz_lstore, tz_dstore, tz_iinc, tz_i1, tz_i2, tz_i2z, tz_l2, tz_l2z, tz_i2l, tz_l2i, tz_lcmp, tz_i2d, tz_d2, tz_dcmp, tz_dup, tz_dup2, tz_pop, tz_if, tz_icmp, tz_null, tz_goto, tz_sw, tz_getf, tz_puti, tz_putz, tz_putr, tz_putl, tz_iaload, tz_baload, tz_laload, tz_aaload, tz_iastore, tz_bastore, tz_lastore, tz_aastore, tz_alen, tz_new, tz_newa, tz_oinit, tz_iret, tz_zret, tz_lret, tz_dret, tz_aret, tz_vret, tz_throw, tz_callS, tz_callV, tz_callI, tz_callR, tz_pureS, tz_pureV, tz_callVH, lg, lset, lkill, lst1, lst2, entL, isRf, is1, vl, va_rf_none, va_rf_some, isRf_rf, is1_rf, i0, i1, bI_eq0, bI_eq1, nm_em, nI_eqP, nI_leP, nI_ltP, nN_e1, nN_e2, nN_l1, nN_l2, nN_l3, nN_l4, nI_add, pk_mul, vp_inN, nI_cl, n01, n10, P_i, P_ii, P_iii, f_Mo_at, f_Mo_map, f_Mo_contact, f_Mo_within, f_Mo_isPort, f_Hp_endpoint, f_Hp_nodeOf, f_Hp_portOf, f_Ma_max, f_Ma_min, f_Hp_isSetting, popN, rok, a1, noX, swc, mL, if_true, if_false, ↓reduceIte, cond_true, cond_false, true_and, and_true, List.length_cons, List.length_nil, List.nil_append, List.cons_append, List.append_nil, Option.toList, Nat.reduceEqDiff, Bool.false_eq_true, reduceCtorEq, Nat.reduceAdd, Nat.reduceLT, Nat.reduceLeDiff, Nat.reduceSub, List.replicate, Nat.zero_add, Nat.lt_add_one, Nat.le_refl, Nat.zero_le, Nat.succ_ne_zero, not_false_eq_true, not_true_eq_false, false_implies, true_implies, forall_const, imp_self, true_or, or_true, eq_self, k_Mo_counted, h1, h2, h3, h4, pk_sub]; try clear hgo9 hW9); (obtain ⟨W9, hW9, hgo9⟩ := wp_ex (T_Mo_counted l G) [] _; refine hgo9 200 _ _ _ _ ?_; simp -implicitDefEqProofs (disch := omega) only [hW9, inl, gate, Xq, tz_const, tz_iload, tz_lload, tz_dload, tz_aload, tz_istore, tz_astore, tz_lstore, tz_dstore, tz_iinc, tz_i1, tz_i2, tz_i2z, tz_l2, tz_l2z, tz_i2l, tz_l2i, tz_lcmp, tz_i2d, tz_d2, tz_dcmp, tz_dup, tz_dup2, tz_pop, tz_if, tz_icmp, tz_null, tz_goto, tz_sw, tz_getf, tz_puti, tz_putz, tz_putr, tz_putl, tz_iaload, tz_baload, tz_laload, tz_aaload, tz_iastore, tz_bastore, tz_lastore, tz_aastore, tz_alen, tz_new, tz_newa, tz_oinit, tz_iret, tz_zret, tz_lret, tz_dret, tz_aret, tz_vret, tz_throw, tz_callS, tz_callV, tz_callI, tz_callR, tz_pureS, tz_pureV, tz_callVH, lg, lset, lkill, lst1, lst2, entL, isRf, is1, vl, va_rf_none, va_rf_some, isRf_rf, is1_rf, i0, i1, bI_eq0, bI_eq1, nm_em, nI_eqP, nI_leP, nI_ltP, nN_e1, nN_e2, nN_l1, nN_l2, nN_l3, nN_l4, nI_add, pk_mul, vp_inN, nI_cl, n01, n10, P_i, P_ii, P_iii, f_Mo_at, f_Mo_map, f_Mo_contact, f_Mo_within, f_Mo_isPort, f_Hp_endpoint, f_Hp_nodeOf, f_Hp_portOf, f_Ma_max, f_Ma_min, f_Hp_isSetting, popN, rok, a1, noX, swc, mL, if_true, if_false, ↓reduceIte, cond_true, cond_false, true_and, and_true, List.length_cons, List.length_nil, List.nil_append, List.cons_append, List.append_nil, Option.toList, Nat.reduceEqDiff, Bool.false_eq_true, reduceCtorEq, Nat.reduceAdd, Nat.reduceLT, Nat.reduceLeDiff, Nat.reduceSub, List.replicate, Nat.zero_add, Nat.lt_add_one, Nat.le_refl, Nat.zero_le, Nat.succ_ne_zero, not_false_eq_true, not_true_eq_false, false_implies, true_implies, forall_const, imp_self, true_or, or_true, eq_self, k_Mo_counted, h1, h2, h3, h4, pk_sub]; try clear hgo9 hW9))
      exact hQ
    · ((obtain ⟨W9, hW9, hgo9⟩ := wp_ex (T_Mo_counted l G) [] _; refine hgo9 200 _ _ _ _ ?_; simp -implicitDefEqProofs (disch := omega) only [hW9, inl, gate, Xq, tz_const, tz_iload, tz_lload, tz_dload, tz_aload, tz_istore, tz_astore, tz_lstore, tz_dstore, tz_iinc, tz_i1, tz_i2, tz_i2z, tz_l2, tz_l2z, tz_i2l, tz_l2i, tz_lcmp, tz_i2d, tz_d2, tz_dcmp, tz_dup, tz_dup2, tz_pop, tz_if, tz_icmp, tz_null, tz_goto, tz_sw, tz_getf, tz_puti, tz_putz, tz_putr, tz_putl, tz_iaload, tz_baload, tz_laload, tz_aaload, tz_iastore, tz_bastore, tz_lastore, tz_aastore, tz_alen, tz_new, tz_newa, tz_oinit, tz_iret, tz_zret, tz_lret, tz_dret, tz_aret, tz_vret, tz_throw, tz_callS, tz_callV, tz_callI, tz_callR, tz_pureS, tz_pureV, tz_callVH, lg, lset, lkill, lst1, lst2, entL, isRf, is1, vl, va_rf_none, va_rf_some, isRf_rf, is1_rf, i0, i1, bI_eq0, bI_eq1, nm_em, nI_eqP, nI_leP, nI_ltP, nN_e1, nN_e2, nN_l1, nN_l2, nN_l3, nN_l4, nI_add, pk_mul, vp_inN, nI_cl, n01, n10, P_i, P_ii, P_iii, f_Mo_at, f_Mo_map, f_Mo_contact, f_Mo_within, f_Mo_isPort, f_Hp_endpoint, f_Hp_nodeOf, f_Hp_portOf, f_Ma_max, f_Ma_min, f_Hp_isSetting, popN, rok, a1, noX, swc, mL, if_true, if_false, ↓reduceIte, cond_true, cond_false, true_and, and_true, List.length_cons, List.length_nil, List.nil_append, List.cons_append, List.append_nil, Option.toList, Nat.reduceEqDiff, Bool.false_eq_true, reduceCtorEq, Nat.reduceAdd, Nat.reduceLT, Nat.reduceLeDiff, Nat.reduceSub, List.replicate, Nat.zero_add, Nat.lt_add_one, Nat.le_refl, Nat.zero_le, Nat.succ_ne_zero, not_false_eq_true, not_true_eq_false, false_implies, true_implies, forall_const, imp_self, true_or, or_true, eq_self, k_Mo_counted, h1]; try clear hgo9 hW9); (obtain ⟨W9, hW9, hgo9⟩ := wp_ex (T_Mo_counted l G) [] _; refine hgo9 200 _ _ _ _ ?_; simp -implicitDefEqProofs (disch := omega) only [hW9, inl, gate, Xq, tz_const, tz_iload, tz_lload, tz_dload, tz_aload, tz_istore, tz_astore, tz_lstore, tz_dstore, tz_iinc, tz_i1, tz_i2, tz_i2z, tz_l2, tz_l2z, tz_i2l, tz_l2i, tz_lcmp, tz_i2d, tz_d2, tz_dcmp, tz_dup, tz_dup2, tz_pop, tz_if, tz_icmp, tz_null, tz_goto, tz_sw, tz_getf, tz_puti, tz_putz, tz_putr, tz_putl, tz_iaload, tz_baload, tz_laload, tz_aaload, tz_iastore, tz_bastore, tz_lastore, tz_aastore, tz_alen, tz_new, tz_newa, tz_oinit, tz_iret, tz_zret, tz_lret, tz_dret, tz_aret, tz_vret, tz_throw, tz_callS, tz_callV, tz_callI, tz_callR, tz_pureS, tz_pureV, tz_callVH, lg, lset, lkill, lst1, lst2, entL, isRf, is1, vl, va_rf_none, va_rf_some, isRf_rf, is1_rf, i0, i1, bI_eq0, bI_eq1, nm_em, nI_eqP, nI_leP, nI_ltP, nN_e1, nN_e2, nN_l1, nN_l2, nN_l3, nN_l4, nI_add, pk_mul, vp_inN, nI_cl, n01, n10, P_i, P_ii, P_iii, f_Mo_at, f_Mo_map, f_Mo_contact, f_Mo_within, f_Mo_isPort, f_Hp_endpoint, f_Hp_nodeOf, f_Hp_portOf, f_Ma_max, f_Ma_min, f_Hp_isSetting, popN, rok, a1, noX, swc, mL, if_true, if_false, ↓reduceIte, cond_true, cond_false, true_and, and_true, List.length_cons, List.length_nil, List.nil_append, List.cons_append, List.append_nil, Option.toList, Nat.reduceEqDiff, Bool.false_eq_true, reduceCtorEq, Nat.reduceAdd, Nat.reduceLT, Nat.reduceLeDiff, Nat.reduceSub, List.replicate, Nat.zero_add, Nat.lt_add_one, Nat.le_refl, Nat.zero_le, Nat.succ_ne_zero, not_false_eq_true, not_true_eq_false, false_implies, true_implies, forall_const, imp_self, true_or, or_true, eq_self, k_Mo_counted, h1]; try clear hgo9 hW9))
      simp only [ctZ] at hQ
      refine ⟨fun c => ?_, fun c => ?_⟩
      · (obtain ⟨W9, hW9, hgo9⟩ := wp_ex (T_Mo_counted l G) [] _; refine hgo9 200 _ _ _ _ ?_; simp -implicitDefEqProofs (disch := omega) only [hW9, inl, gate, Xq, tz_const, tz_iload, tz_lload, tz_dload, tz_aload, tz_istore, tz_astore, tz_lstore, tz_dstore, tz_iinc, tz_i1, tz_i2, tz_i2z, tz_l2, tz_l2z, tz_i2l, tz_l2i, tz_lcmp, tz_i2d, tz_d2, tz_dcmp, tz_dup, tz_dup2, tz_pop, tz_if, tz_icmp, tz_null, tz_goto, tz_sw, tz_getf, tz_puti, tz_putz, tz_putr, tz_putl, tz_iaload, tz_baload, tz_laload, tz_aaload, tz_iastore, tz_bastore, tz_lastore, tz_aastore, tz_alen, tz_new, tz_newa, tz_oinit, tz_iret, tz_zret, tz_lret, tz_dret, tz_aret, tz_vret, tz_throw, tz_callS, tz_callV, tz_callI, tz_callR, tz_pureS, tz_pureV, tz_callVH, lg, lset, lkill, lst1, lst2, entL, isRf, is1, vl, va_rf_none, va_rf_some, isRf_rf, is1_rf, i0, i1, bI_eq0, bI_eq1, nm_em, nI_eqP, nI_leP, nI_ltP, nN_e1, nN_e2, nN_l1, nN_l2, nN_l3, nN_l4, nI_add, pk_mul, vp_inN, nI_cl, n01, n10, P_i, P_ii, P_iii, f_Mo_at, f_Mo_map, f_Mo_contact, f_Mo_within, f_Mo_isPort, f_Hp_endpoint, f_Hp_nodeOf, f_Hp_portOf, f_Ma_max, f_Ma_min, f_Hp_isSetting, popN, rok, a1, noX, swc, mL, if_true, if_false, ↓reduceIte, cond_true, cond_false, true_and, and_true, List.length_cons, List.length_nil, List.nil_append, List.cons_append, List.append_nil, Option.toList, Nat.reduceEqDiff, Bool.false_eq_true, reduceCtorEq, Nat.reduceAdd, Nat.reduceLT, Nat.reduceLeDiff, Nat.reduceSub, List.replicate, Nat.zero_add, Nat.lt_add_one, Nat.le_refl, Nat.zero_le, Nat.succ_ne_zero, not_false_eq_true, not_true_eq_false, false_implies, true_implies, forall_const, imp_self, true_or, or_true, eq_self, k_Mo_counted]; try clear hgo9 hW9)
        rwa [if_pos c] at hQ
      · (obtain ⟨W9, hW9, hgo9⟩ := wp_ex (T_Mo_counted l G) [] _; refine hgo9 200 _ _ _ _ ?_; simp -implicitDefEqProofs (disch := omega) only [hW9, inl, gate, Xq, tz_const, tz_iload, tz_lload, tz_dload, tz_aload, tz_istore, tz_astore, tz_lstore, tz_dstore, tz_iinc, tz_i1, tz_i2, tz_i2z, tz_l2, tz_l2z, tz_i2l, tz_l2i, tz_lcmp, tz_i2d, tz_d2, tz_dcmp, tz_dup, tz_dup2, tz_pop, tz_if, tz_icmp, tz_null, tz_goto, tz_sw, tz_getf, tz_puti, tz_putz, tz_putr, tz_putl, tz_iaload, tz_baload, tz_laload, tz_aaload, tz_iastore, tz_bastore, tz_lastore, tz_aastore, tz_alen, tz_new, tz_newa, tz_oinit, tz_iret, tz_zret, tz_lret, tz_dret, tz_aret, tz_vret, tz_throw, tz_callS, tz_callV, tz_callI, tz_callR, tz_pureS, tz_pureV, tz_callVH, lg, lset, lkill, lst1, lst2, entL, isRf, is1, vl, va_rf_none, va_rf_some, isRf_rf, is1_rf, i0, i1, bI_eq0, bI_eq1, nm_em, nI_eqP, nI_leP, nI_ltP, nN_e1, nN_e2, nN_l1, nN_l2, nN_l3, nN_l4, nI_add, pk_mul, vp_inN, nI_cl, n01, n10, P_i, P_ii, P_iii, f_Mo_at, f_Mo_map, f_Mo_contact, f_Mo_within, f_Mo_isPort, f_Hp_endpoint, f_Hp_nodeOf, f_Hp_portOf, f_Ma_max, f_Ma_min, f_Hp_isSetting, popN, rok, a1, noX, swc, mL, if_true, if_false, ↓reduceIte, cond_true, cond_false, true_and, and_true, List.length_cons, List.length_nil, List.nil_append, List.cons_append, List.append_nil, Option.toList, Nat.reduceEqDiff, Bool.false_eq_true, reduceCtorEq, Nat.reduceAdd, Nat.reduceLT, Nat.reduceLeDiff, Nat.reduceSub, List.replicate, Nat.zero_add, Nat.lt_add_one, Nat.le_refl, Nat.zero_le, Nat.succ_ne_zero, not_false_eq_true, not_true_eq_false, false_implies, true_implies, forall_const, imp_self, true_or, or_true, eq_self, k_Mo_counted]; try clear hgo9 hW9)
        rwa [if_neg c] at hQ
theorem c_Mo_nodeNow (a : Nat) (as : List Value) (h : AH) (Q : Po) (hl : as.length = 2) (ht : tg h a = 7) (hP : P_Mo_nodeNow (.ref a :: as) h) (hQ : Q (.inl (some (f_Mo_nodeNow (.ref a :: as) h))) h) : Call l G M_Mo_nodeNow (.ref a :: as) h Q := by
  match as, hP, hQ with
  | [.int n, .int w], hP, hQ =>
    obtain ⟨hPN, k, hk, rfl⟩ := hP
    obtain ⟨zr, nn, hm, hz, hn, rfl, hnn⟩ := id hPN
    have hzF := hm.zF
    have hP0 : PN0 h a := ⟨zr, hm, hz, hn⟩
    obtain ⟨z1, z2⟩ := hz.at
    have hcl : (nI nn).toNatClampNeg = nn := nI_clamp (by omega)
    simp only [f_Mo_nodeNow, hcl, nI_clamp (show k < 2 ^ 31 by omega)] at hQ
    rw [hzF] at hQ
    obtain ⟨h1, h2, h3, h4⟩ := hm
    have hall : k = 0 ∨ k = 1 ∨ k = 2 ∨ k = 3 ∨ k = 4 ∨ k = 5 ∨ k = 6 := by omega
    refine call_of rfl rfl (Nat.le_of_ble_eq_true rfl) ?_
    rcases hall with rfl | rfl | rfl | rfl | rfl | rfl | rfl
    · ((obtain ⟨W9, hW9, hgo9⟩ := wp_ex (T_Mo_nodeNow l G) [] _; refine hgo9 200 _ _ _ _ ?_; simp -implicitDefEqProofs (disch := omega) only [hW9, inl, gate, Xq, tz_const, tz_iload, tz_lload, tz_dload, tz_aload, tz_istore, tz_astore, tz_lstore, tz_dstore, tz_iinc, tz_i1, tz_i2, tz_i2z, tz_l2, tz_l2z, tz_i2l, tz_l2i, tz_lcmp, tz_i2d, tz_d2, tz_dcmp, tz_dup, tz_dup2, tz_pop, tz_if, tz_icmp, tz_null, tz_goto, tz_sw, tz_getf, tz_puti, tz_putz, tz_putr, tz_putl, tz_iaload, tz_baload, tz_laload, tz_aaload, tz_iastore, tz_bastore, tz_lastore, tz_aastore, tz_alen, tz_new, tz_newa, tz_oinit, tz_iret, tz_zret, tz_lret, tz_dret, tz_aret, tz_vret, tz_throw, tz_callS, tz_callV, tz_callI, tz_callR, tz_pureS, tz_pureV, tz_callVH, lg, lset, lkill, lst1, lst2, entL, isRf, is1, vl, va_rf_none, va_rf_some, isRf_rf, is1_rf, i0, i1, bI_eq0, bI_eq1, nm_em, nI_eqP, nI_leP, nI_ltP, nN_e1, nN_e2, nN_l1, nN_l2, nN_l3, nN_l4, nI_add, pk_mul, vp_inN, nI_cl, n01, n10, P_i, P_ii, P_iii, f_Mo_at, f_Mo_map, f_Mo_contact, f_Mo_within, f_Mo_isPort, f_Hp_endpoint, f_Hp_nodeOf, f_Hp_portOf, f_Ma_max, f_Ma_min, f_Hp_isSetting, popN, rok, a1, noX, swc, mL, if_true, if_false, ↓reduceIte, cond_true, cond_false, true_and, and_true, List.length_cons, List.length_nil, List.nil_append, List.cons_append, List.append_nil, Option.toList, Nat.reduceEqDiff, Bool.false_eq_true, reduceCtorEq, Nat.reduceAdd, Nat.reduceLT, Nat.reduceLeDiff, Nat.reduceSub, List.replicate, Nat.zero_add, Nat.lt_add_one, Nat.le_refl, Nat.zero_le, Nat.succ_ne_zero, not_false_eq_true, not_true_eq_false, false_implies, true_implies, forall_const, imp_self, true_or, or_true, eq_self, k_Mo_nodeNow, h1, h2, h3, h4]; try clear hgo9 hW9); (obtain ⟨W9, hW9, hgo9⟩ := wp_ex (T_Mo_nodeNow l G) [] _; refine hgo9 200 _ _ _ _ ?_; simp -implicitDefEqProofs (disch := omega) only [hW9, inl, gate, Xq, tz_const, tz_iload, tz_lload, tz_dload, tz_aload, tz_istore, tz_astore, tz_lstore, tz_dstore, tz_iinc, tz_i1, tz_i2, tz_i2z, tz_l2, tz_l2z, tz_i2l, tz_l2i, tz_lcmp, tz_i2d, tz_d2, tz_dcmp, tz_dup, tz_dup2, tz_pop, tz_if, tz_icmp, tz_null, tz_goto, tz_sw, tz_getf, tz_puti, tz_putz, tz_putr, tz_putl, tz_iaload, tz_baload, tz_laload, tz_aaload, tz_iastore, tz_bastore, tz_lastore, tz_aastore, tz_alen, tz_new, tz_newa, tz_oinit, tz_iret, tz_zret, tz_lret, tz_dret, tz_aret, tz_vret, tz_throw, tz_callS, tz_callV, tz_callI, tz_callR, tz_pureS, tz_pureV, tz_callVH, lg, lset, lkill, lst1, lst2, entL, isRf, is1, vl, va_rf_none, va_rf_some, isRf_rf, is1_rf, i0, i1, bI_eq0, bI_eq1, nm_em, nI_eqP, nI_leP, nI_ltP, nN_e1, nN_e2, nN_l1, nN_l2, nN_l3, nN_l4, nI_add, pk_mul, vp_inN, nI_cl, n01, n10, P_i, P_ii, P_iii, f_Mo_at, f_Mo_map, f_Mo_contact, f_Mo_within, f_Mo_isPort, f_Hp_endpoint, f_Hp_nodeOf, f_Hp_portOf, f_Ma_max, f_Ma_min, f_Hp_isSetting, popN, rok, a1, noX, swc, mL, if_true, if_false, ↓reduceIte, cond_true, cond_false, true_and, and_true, List.length_cons, List.length_nil, List.nil_append, List.cons_append, List.append_nil, Option.toList, Nat.reduceEqDiff, Bool.false_eq_true, reduceCtorEq, Nat.reduceAdd, Nat.reduceLT, Nat.reduceLeDiff, Nat.reduceSub, List.replicate, Nat.zero_add, Nat.lt_add_one, Nat.le_refl, Nat.zero_le, Nat.succ_ne_zero, not_false_eq_true, not_true_eq_false, false_implies, true_implies, forall_const, imp_self, true_or, or_true, eq_self, k_Mo_nodeNow, h1, h2, h3, h4]; try clear hgo9 hW9))
      exact hQ
    · ((obtain ⟨W9, hW9, hgo9⟩ := wp_ex (T_Mo_nodeNow l G) [] _; refine hgo9 200 _ _ _ _ ?_; simp -implicitDefEqProofs (disch := omega) only [hW9, inl, gate, Xq, tz_const, tz_iload, tz_lload, tz_dload, tz_aload, tz_istore, tz_astore, tz_lstore, tz_dstore, tz_iinc, tz_i1, tz_i2, tz_i2z, tz_l2, tz_l2z, tz_i2l, tz_l2i, tz_lcmp, tz_i2d, tz_d2, tz_dcmp, tz_dup, tz_dup2, tz_pop, tz_if, tz_icmp, tz_null, tz_goto, tz_sw, tz_getf, tz_puti, tz_putz, tz_putr, tz_putl, tz_iaload, tz_baload, tz_laload, tz_aaload, tz_iastore, tz_bastore, tz_lastore, tz_aastore, tz_alen, tz_new, tz_newa, tz_oinit, tz_iret, tz_zret, tz_lret, tz_dret, tz_aret, tz_vret, tz_throw, tz_callS, tz_callV, tz_callI, tz_callR, tz_pureS, tz_pureV, tz_callVH, lg, lset, lkill, lst1, lst2, entL, isRf, is1, vl, va_rf_none, va_rf_some, isRf_rf, is1_rf, i0, i1, bI_eq0, bI_eq1, nm_em, nI_eqP, nI_leP, nI_ltP, nN_e1, nN_e2, nN_l1, nN_l2, nN_l3, nN_l4, nI_add, pk_mul, vp_inN, nI_cl, n01, n10, P_i, P_ii, P_iii, f_Mo_at, f_Mo_map, f_Mo_contact, f_Mo_within, f_Mo_isPort, f_Hp_endpoint, f_Hp_nodeOf, f_Hp_portOf, f_Ma_max, f_Ma_min, f_Hp_isSetting, popN, rok, a1, noX, swc, mL, if_true, if_false, ↓reduceIte, cond_true, cond_false, true_and, and_true, List.length_cons, List.length_nil, List.nil_append, List.cons_append, List.append_nil, Option.toList, Nat.reduceEqDiff, Bool.false_eq_true, reduceCtorEq, Nat.reduceAdd, Nat.reduceLT, Nat.reduceLeDiff, Nat.reduceSub, List.replicate, Nat.zero_add, Nat.lt_add_one, Nat.le_refl, Nat.zero_le, Nat.succ_ne_zero, not_false_eq_true, not_true_eq_false, false_implies, true_implies, forall_const, imp_self, true_or, or_true, eq_self, k_Mo_nodeNow, h1, h2, h3, h4]; try clear hgo9 hW9); (obtain ⟨W9, hW9, hgo9⟩ := wp_ex (T_Mo_nodeNow l G) [] _; refine hgo9 200 _ _ _ _ ?_; simp -implicitDefEqProofs (disch := omega) only [hW9, inl, gate, Xq, tz_const, tz_iload, tz_lload, tz_dload, tz_aload, tz_istore, tz_astore, tz_lstore, tz_dstore, tz_iinc, tz_i1, tz_i2, tz_i2z, tz_l2, tz_l2z, tz_i2l, tz_l2i, tz_lcmp, tz_i2d, tz_d2, tz_dcmp, tz_dup, tz_dup2, tz_pop, tz_if, tz_icmp, tz_null, tz_goto, tz_sw, tz_getf, tz_puti, tz_putz, tz_putr, tz_putl, tz_iaload, tz_baload, tz_laload, tz_aaload, tz_iastore, tz_bastore, tz_lastore, tz_aastore, tz_alen, tz_new, tz_newa, tz_oinit, tz_iret, tz_zret, tz_lret, tz_dret, tz_aret, tz_vret, tz_throw, tz_callS, tz_callV, tz_callI, tz_callR, tz_pureS, tz_pureV, tz_callVH, lg, lset, lkill, lst1, lst2, entL, isRf, is1, vl, va_rf_none, va_rf_some, isRf_rf, is1_rf, i0, i1, bI_eq0, bI_eq1, nm_em, nI_eqP, nI_leP, nI_ltP, nN_e1, nN_e2, nN_l1, nN_l2, nN_l3, nN_l4, nI_add, pk_mul, vp_inN, nI_cl, n01, n10, P_i, P_ii, P_iii, f_Mo_at, f_Mo_map, f_Mo_contact, f_Mo_within, f_Mo_isPort, f_Hp_endpoint, f_Hp_nodeOf, f_Hp_portOf, f_Ma_max, f_Ma_min, f_Hp_isSetting, popN, rok, a1, noX, swc, mL, if_true, if_false, ↓reduceIte, cond_true, cond_false, true_and, and_true, List.length_cons, List.length_nil, List.nil_append, List.cons_append, List.append_nil, Option.toList, Nat.reduceEqDiff, Bool.false_eq_true, reduceCtorEq, Nat.reduceAdd, Nat.reduceLT, Nat.reduceLeDiff, Nat.reduceSub, List.replicate, Nat.zero_add, Nat.lt_add_one, Nat.le_refl, Nat.zero_le, Nat.succ_ne_zero, not_false_eq_true, not_true_eq_false, false_implies, true_implies, forall_const, imp_self, true_or, or_true, eq_self, k_Mo_nodeNow, h1, h2, h3, h4]; try clear hgo9 hW9))
      exact hQ
    · ((obtain ⟨W9, hW9, hgo9⟩ := wp_ex (T_Mo_nodeNow l G) [] _; refine hgo9 200 _ _ _ _ ?_; simp -implicitDefEqProofs (disch := omega) only [hW9, inl, gate, Xq, tz_const, tz_iload, tz_lload, tz_dload, tz_aload, tz_istore, tz_astore, tz_lstore, tz_dstore, tz_iinc, tz_i1, tz_i2, tz_i2z, tz_l2, tz_l2z, tz_i2l, tz_l2i, tz_lcmp, tz_i2d, tz_d2, tz_dcmp, tz_dup, tz_dup2, tz_pop, tz_if, tz_icmp, tz_null, tz_goto, tz_sw, tz_getf, tz_puti, tz_putz, tz_putr, tz_putl, tz_iaload, tz_baload, tz_laload, tz_aaload, tz_iastore, tz_bastore, tz_lastore, tz_aastore, tz_alen, tz_new, tz_newa, tz_oinit, tz_iret, tz_zret, tz_lret, tz_dret, tz_aret, tz_vret, tz_throw, tz_callS, tz_callV, tz_callI, tz_callR, tz_pureS, tz_pureV, tz_callVH, lg, lset, lkill, lst1, lst2, entL, isRf, is1, vl, va_rf_none, va_rf_some, isRf_rf, is1_rf, i0, i1, bI_eq0, bI_eq1, nm_em, nI_eqP, nI_leP, nI_ltP, nN_e1, nN_e2, nN_l1, nN_l2, nN_l3, nN_l4, nI_add, pk_mul, vp_inN, nI_cl, n01, n10, P_i, P_ii, P_iii, f_Mo_at, f_Mo_map, f_Mo_contact, f_Mo_within, f_Mo_isPort, f_Hp_endpoint, f_Hp_nodeOf, f_Hp_portOf, f_Ma_max, f_Ma_min, f_Hp_isSetting, popN, rok, a1, noX, swc, mL, if_true, if_false, ↓reduceIte, cond_true, cond_false, true_and, and_true, List.length_cons, List.length_nil, List.nil_append, List.cons_append, List.append_nil, Option.toList, Nat.reduceEqDiff, Bool.false_eq_true, reduceCtorEq, Nat.reduceAdd, Nat.reduceLT, Nat.reduceLeDiff, Nat.reduceSub, List.replicate, Nat.zero_add, Nat.lt_add_one, Nat.le_refl, Nat.zero_le, Nat.succ_ne_zero, not_false_eq_true, not_true_eq_false, false_implies, true_implies, forall_const, imp_self, true_or, or_true, eq_self, k_Mo_nodeNow, h1, P_Mo_depth, f_Mo_depth, hPN, hzF, hcl]; try clear hgo9 hW9); (obtain ⟨W9, hW9, hgo9⟩ := wp_ex (T_Mo_nodeNow l G) [] _; refine hgo9 200 _ _ _ _ ?_; simp -implicitDefEqProofs (disch := omega) only [hW9, inl, gate, Xq, tz_const, tz_iload, tz_lload, tz_dload, tz_aload, tz_istore, tz_astore, tz_lstore, tz_dstore, tz_iinc, tz_i1, tz_i2, tz_i2z, tz_l2, tz_l2z, tz_i2l, tz_l2i, tz_lcmp, tz_i2d, tz_d2, tz_dcmp, tz_dup, tz_dup2, tz_pop, tz_if, tz_icmp, tz_null, tz_goto, tz_sw, tz_getf, tz_puti, tz_putz, tz_putr, tz_putl, tz_iaload, tz_baload, tz_laload, tz_aaload, tz_iastore, tz_bastore, tz_lastore, tz_aastore, tz_alen, tz_new, tz_newa, tz_oinit, tz_iret, tz_zret, tz_lret, tz_dret, tz_aret, tz_vret, tz_throw, tz_callS, tz_callV, tz_callI, tz_callR, tz_pureS, tz_pureV, tz_callVH, lg, lset, lkill, lst1, lst2, entL, isRf, is1, vl, va_rf_none, va_rf_some, isRf_rf, is1_rf, i0, i1, bI_eq0, bI_eq1, nm_em, nI_eqP, nI_leP, nI_ltP, nN_e1, nN_e2, nN_l1, nN_l2, nN_l3, nN_l4, nI_add, pk_mul, vp_inN, nI_cl, n01, n10, P_i, P_ii, P_iii, f_Mo_at, f_Mo_map, f_Mo_contact, f_Mo_within, f_Mo_isPort, f_Hp_endpoint, f_Hp_nodeOf, f_Hp_portOf, f_Ma_max, f_Ma_min, f_Hp_isSetting, popN, rok, a1, noX, swc, mL, if_true, if_false, ↓reduceIte, cond_true, cond_false, true_and, and_true, List.length_cons, List.length_nil, List.nil_append, List.cons_append, List.append_nil, Option.toList, Nat.reduceEqDiff, Bool.false_eq_true, reduceCtorEq, Nat.reduceAdd, Nat.reduceLT, Nat.reduceLeDiff, Nat.reduceSub, List.replicate, Nat.zero_add, Nat.lt_add_one, Nat.le_refl, Nat.zero_le, Nat.succ_ne_zero, not_false_eq_true, not_true_eq_false, false_implies, true_implies, forall_const, imp_self, true_or, or_true, eq_self, k_Mo_nodeNow, h1, P_Mo_depth, f_Mo_depth, hPN, hzF, hcl]; try clear hgo9 hW9))
      exact hQ
    · ((obtain ⟨W9, hW9, hgo9⟩ := wp_ex (T_Mo_nodeNow l G) [] _; refine hgo9 200 _ _ _ _ ?_; simp -implicitDefEqProofs (disch := omega) only [hW9, inl, gate, Xq, tz_const, tz_iload, tz_lload, tz_dload, tz_aload, tz_istore, tz_astore, tz_lstore, tz_dstore, tz_iinc, tz_i1, tz_i2, tz_i2z, tz_l2, tz_l2z, tz_i2l, tz_l2i, tz_lcmp, tz_i2d, tz_d2, tz_dcmp, tz_dup, tz_dup2, tz_pop, tz_if, tz_icmp, tz_null, tz_goto, tz_sw, tz_getf, tz_puti, tz_putz, tz_putr, tz_putl, tz_iaload, tz_baload, tz_laload, tz_aaload, tz_iastore, tz_bastore, tz_lastore, tz_aastore, tz_alen, tz_new, tz_newa, tz_oinit, tz_iret, tz_zret, tz_lret, tz_dret, tz_aret, tz_vret, tz_throw, tz_callS, tz_callV, tz_callI, tz_callR, tz_pureS, tz_pureV, tz_callVH, lg, lset, lkill, lst1, lst2, entL, isRf, is1, vl, va_rf_none, va_rf_some, isRf_rf, is1_rf, i0, i1, bI_eq0, bI_eq1, nm_em, nI_eqP, nI_leP, nI_ltP, nN_e1, nN_e2, nN_l1, nN_l2, nN_l3, nN_l4, nI_add, pk_mul, vp_inN, nI_cl, n01, n10, P_i, P_ii, P_iii, f_Mo_at, f_Mo_map, f_Mo_contact, f_Mo_within, f_Mo_isPort, f_Hp_endpoint, f_Hp_nodeOf, f_Hp_portOf, f_Ma_max, f_Ma_min, f_Hp_isSetting, popN, rok, a1, noX, swc, mL, if_true, if_false, ↓reduceIte, cond_true, cond_false, true_and, and_true, List.length_cons, List.length_nil, List.nil_append, List.cons_append, List.append_nil, Option.toList, Nat.reduceEqDiff, Bool.false_eq_true, reduceCtorEq, Nat.reduceAdd, Nat.reduceLT, Nat.reduceLeDiff, Nat.reduceSub, List.replicate, Nat.zero_add, Nat.lt_add_one, Nat.le_refl, Nat.zero_le, Nat.succ_ne_zero, not_false_eq_true, not_true_eq_false, false_implies, true_implies, forall_const, imp_self, true_or, or_true, eq_self, k_Mo_nodeNow, h1, P_Mo_hostsBehind, f_Mo_hostsBehind, hP0, hzF, hcl]; try clear hgo9 hW9); (obtain ⟨W9, hW9, hgo9⟩ := wp_ex (T_Mo_nodeNow l G) [] _; refine hgo9 200 _ _ _ _ ?_; simp -implicitDefEqProofs (disch := omega) only [hW9, inl, gate, Xq, tz_const, tz_iload, tz_lload, tz_dload, tz_aload, tz_istore, tz_astore, tz_lstore, tz_dstore, tz_iinc, tz_i1, tz_i2, tz_i2z, tz_l2, tz_l2z, tz_i2l, tz_l2i, tz_lcmp, tz_i2d, tz_d2, tz_dcmp, tz_dup, tz_dup2, tz_pop, tz_if, tz_icmp, tz_null, tz_goto, tz_sw, tz_getf, tz_puti, tz_putz, tz_putr, tz_putl, tz_iaload, tz_baload, tz_laload, tz_aaload, tz_iastore, tz_bastore, tz_lastore, tz_aastore, tz_alen, tz_new, tz_newa, tz_oinit, tz_iret, tz_zret, tz_lret, tz_dret, tz_aret, tz_vret, tz_throw, tz_callS, tz_callV, tz_callI, tz_callR, tz_pureS, tz_pureV, tz_callVH, lg, lset, lkill, lst1, lst2, entL, isRf, is1, vl, va_rf_none, va_rf_some, isRf_rf, is1_rf, i0, i1, bI_eq0, bI_eq1, nm_em, nI_eqP, nI_leP, nI_ltP, nN_e1, nN_e2, nN_l1, nN_l2, nN_l3, nN_l4, nI_add, pk_mul, vp_inN, nI_cl, n01, n10, P_i, P_ii, P_iii, f_Mo_at, f_Mo_map, f_Mo_contact, f_Mo_within, f_Mo_isPort, f_Hp_endpoint, f_Hp_nodeOf, f_Hp_portOf, f_Ma_max, f_Ma_min, f_Hp_isSetting, popN, rok, a1, noX, swc, mL, if_true, if_false, ↓reduceIte, cond_true, cond_false, true_and, and_true, List.length_cons, List.length_nil, List.nil_append, List.cons_append, List.append_nil, Option.toList, Nat.reduceEqDiff, Bool.false_eq_true, reduceCtorEq, Nat.reduceAdd, Nat.reduceLT, Nat.reduceLeDiff, Nat.reduceSub, List.replicate, Nat.zero_add, Nat.lt_add_one, Nat.le_refl, Nat.zero_le, Nat.succ_ne_zero, not_false_eq_true, not_true_eq_false, false_implies, true_implies, forall_const, imp_self, true_or, or_true, eq_self, k_Mo_nodeNow, h1, P_Mo_hostsBehind, f_Mo_hostsBehind, hP0, hzF, hcl]; try clear hgo9 hW9))
      exact hQ
    · ((obtain ⟨W9, hW9, hgo9⟩ := wp_ex (T_Mo_nodeNow l G) [] _; refine hgo9 200 _ _ _ _ ?_; simp -implicitDefEqProofs (disch := omega) only [hW9, inl, gate, Xq, tz_const, tz_iload, tz_lload, tz_dload, tz_aload, tz_istore, tz_astore, tz_lstore, tz_dstore, tz_iinc, tz_i1, tz_i2, tz_i2z, tz_l2, tz_l2z, tz_i2l, tz_l2i, tz_lcmp, tz_i2d, tz_d2, tz_dcmp, tz_dup, tz_dup2, tz_pop, tz_if, tz_icmp, tz_null, tz_goto, tz_sw, tz_getf, tz_puti, tz_putz, tz_putr, tz_putl, tz_iaload, tz_baload, tz_laload, tz_aaload, tz_iastore, tz_bastore, tz_lastore, tz_aastore, tz_alen, tz_new, tz_newa, tz_oinit, tz_iret, tz_zret, tz_lret, tz_dret, tz_aret, tz_vret, tz_throw, tz_callS, tz_callV, tz_callI, tz_callR, tz_pureS, tz_pureV, tz_callVH, lg, lset, lkill, lst1, lst2, entL, isRf, is1, vl, va_rf_none, va_rf_some, isRf_rf, is1_rf, i0, i1, bI_eq0, bI_eq1, nm_em, nI_eqP, nI_leP, nI_ltP, nN_e1, nN_e2, nN_l1, nN_l2, nN_l3, nN_l4, nI_add, pk_mul, vp_inN, nI_cl, n01, n10, P_i, P_ii, P_iii, f_Mo_at, f_Mo_map, f_Mo_contact, f_Mo_within, f_Mo_isPort, f_Hp_endpoint, f_Hp_nodeOf, f_Hp_portOf, f_Ma_max, f_Ma_min, f_Hp_isSetting, popN, rok, a1, noX, swc, mL, if_true, if_false, ↓reduceIte, cond_true, cond_false, true_and, and_true, List.length_cons, List.length_nil, List.nil_append, List.cons_append, List.append_nil, Option.toList, Nat.reduceEqDiff, Bool.false_eq_true, reduceCtorEq, Nat.reduceAdd, Nat.reduceLT, Nat.reduceLeDiff, Nat.reduceSub, List.replicate, Nat.zero_add, Nat.lt_add_one, Nat.le_refl, Nat.zero_le, Nat.succ_ne_zero, not_false_eq_true, not_true_eq_false, false_implies, true_implies, forall_const, imp_self, true_or, or_true, eq_self, k_Mo_nodeNow, h1, h2, h3, h4, pk_sub]; try clear hgo9 hW9); (obtain ⟨W9, hW9, hgo9⟩ := wp_ex (T_Mo_nodeNow l G) [] _; refine hgo9 200 _ _ _ _ ?_; simp -implicitDefEqProofs (disch := omega) only [hW9, inl, gate, Xq, tz_const, tz_iload, tz_lload, tz_dload, tz_aload, tz_istore, tz_astore, tz_lstore, tz_dstore, tz_iinc, tz_i1, tz_i2, tz_i2z, tz_l2, tz_l2z, tz_i2l, tz_l2i, tz_lcmp, tz_i2d, tz_d2, tz_dcmp, tz_dup, tz_dup2, tz_pop, tz_if, tz_icmp, tz_null, tz_goto, tz_sw, tz_getf, tz_puti, tz_putz, tz_putr, tz_putl, tz_iaload, tz_baload, tz_laload, tz_aaload, tz_iastore, tz_bastore, tz_lastore, tz_aastore, tz_alen, tz_new, tz_newa, tz_oinit, tz_iret, tz_zret, tz_lret, tz_dret, tz_aret, tz_vret, tz_throw, tz_callS, tz_callV, tz_callI, tz_callR, tz_pureS, tz_pureV, tz_callVH, lg, lset, lkill, lst1, lst2, entL, isRf, is1, vl, va_rf_none, va_rf_some, isRf_rf, is1_rf, i0, i1, bI_eq0, bI_eq1, nm_em, nI_eqP, nI_leP, nI_ltP, nN_e1, nN_e2, nN_l1, nN_l2, nN_l3, nN_l4, nI_add, pk_mul, vp_inN, nI_cl, n01, n10, P_i, P_ii, P_iii, f_Mo_at, f_Mo_map, f_Mo_contact, f_Mo_within, f_Mo_isPort, f_Hp_endpoint, f_Hp_nodeOf, f_Hp_portOf, f_Ma_max, f_Ma_min, f_Hp_isSetting, popN, rok, a1, noX, swc, mL, if_true, if_false, ↓reduceIte, cond_true, cond_false, true_and, and_true, List.length_cons, List.length_nil, List.nil_append, List.cons_append, List.append_nil, Option.toList, Nat.reduceEqDiff, Bool.false_eq_true, reduceCtorEq, Nat.reduceAdd, Nat.reduceLT, Nat.reduceLeDiff, Nat.reduceSub, List.replicate, Nat.zero_add, Nat.lt_add_one, Nat.le_refl, Nat.zero_le, Nat.succ_ne_zero, not_false_eq_true, not_true_eq_false, false_implies, true_implies, forall_const, imp_self, true_or, or_true, eq_self, k_Mo_nodeNow, h1, h2, h3, h4, pk_sub]; try clear hgo9 hW9))
      exact hQ
    · ((obtain ⟨W9, hW9, hgo9⟩ := wp_ex (T_Mo_nodeNow l G) [] _; refine hgo9 200 _ _ _ _ ?_; simp -implicitDefEqProofs (disch := omega) only [hW9, inl, gate, Xq, tz_const, tz_iload, tz_lload, tz_dload, tz_aload, tz_istore, tz_astore, tz_lstore, tz_dstore, tz_iinc, tz_i1, tz_i2, tz_i2z, tz_l2, tz_l2z, tz_i2l, tz_l2i, tz_lcmp, tz_i2d, tz_d2, tz_dcmp, tz_dup, tz_dup2, tz_pop, tz_if, tz_icmp, tz_null, tz_goto, tz_sw, tz_getf, tz_puti, tz_putz, tz_putr, tz_putl, tz_iaload, tz_baload, tz_laload, tz_aaload, tz_iastore, tz_bastore, tz_lastore, tz_aastore, tz_alen, tz_new, tz_newa, tz_oinit, tz_iret, tz_zret, tz_lret, tz_dret, tz_aret, tz_vret, tz_throw, tz_callS, tz_callV, tz_callI, tz_callR, tz_pureS, tz_pureV, tz_callVH, lg, lset, lkill, lst1, lst2, entL, isRf, is1, vl, va_rf_none, va_rf_some, isRf_rf, is1_rf, i0, i1, bI_eq0, bI_eq1, nm_em, nI_eqP, nI_leP, nI_ltP, nN_e1, nN_e2, nN_l1, nN_l2, nN_l3, nN_l4, nI_add, pk_mul, vp_inN, nI_cl, n01, n10, P_i, P_ii, P_iii, f_Mo_at, f_Mo_map, f_Mo_contact, f_Mo_within, f_Mo_isPort, f_Hp_endpoint, f_Hp_nodeOf, f_Hp_portOf, f_Ma_max, f_Ma_min, f_Hp_isSetting, popN, rok, a1, noX, swc, mL, if_true, if_false, ↓reduceIte, cond_true, cond_false, true_and, and_true, List.length_cons, List.length_nil, List.nil_append, List.cons_append, List.append_nil, Option.toList, Nat.reduceEqDiff, Bool.false_eq_true, reduceCtorEq, Nat.reduceAdd, Nat.reduceLT, Nat.reduceLeDiff, Nat.reduceSub, List.replicate, Nat.zero_add, Nat.lt_add_one, Nat.le_refl, Nat.zero_le, Nat.succ_ne_zero, not_false_eq_true, not_true_eq_false, false_implies, true_implies, forall_const, imp_self, true_or, or_true, eq_self, k_Mo_nodeNow, h1, h2, h3, h4, pk_sub]; try clear hgo9 hW9); (obtain ⟨W9, hW9, hgo9⟩ := wp_ex (T_Mo_nodeNow l G) [] _; refine hgo9 200 _ _ _ _ ?_; simp -implicitDefEqProofs (disch := omega) only [hW9, inl, gate, Xq, tz_const, tz_iload, tz_lload, tz_dload, tz_aload, tz_istore, tz_astore, tz_lstore, tz_dstore, tz_iinc, tz_i1, tz_i2, tz_i2z, tz_l2, tz_l2z, tz_i2l, tz_l2i, tz_lcmp, tz_i2d, tz_d2, tz_dcmp, tz_dup, tz_dup2, tz_pop, tz_if, tz_icmp, tz_null, tz_goto, tz_sw, tz_getf, tz_puti, tz_putz, tz_putr, tz_putl, tz_iaload, tz_baload, tz_laload, tz_aaload, tz_iastore, tz_bastore, tz_lastore, tz_aastore, tz_alen, tz_new, tz_newa, tz_oinit, tz_iret, tz_zret, tz_lret, tz_dret, tz_aret, tz_vret, tz_throw, tz_callS, tz_callV, tz_callI, tz_callR, tz_pureS, tz_pureV, tz_callVH, lg, lset, lkill, lst1, lst2, entL, isRf, is1, vl, va_rf_none, va_rf_some, isRf_rf, is1_rf, i0, i1, bI_eq0, bI_eq1, nm_em, nI_eqP, nI_leP, nI_ltP, nN_e1, nN_e2, nN_l1, nN_l2, nN_l3, nN_l4, nI_add, pk_mul, vp_inN, nI_cl, n01, n10, P_i, P_ii, P_iii, f_Mo_at, f_Mo_map, f_Mo_contact, f_Mo_within, f_Mo_isPort, f_Hp_endpoint, f_Hp_nodeOf, f_Hp_portOf, f_Ma_max, f_Ma_min, f_Hp_isSetting, popN, rok, a1, noX, swc, mL, if_true, if_false, ↓reduceIte, cond_true, cond_false, true_and, and_true, List.length_cons, List.length_nil, List.nil_append, List.cons_append, List.append_nil, Option.toList, Nat.reduceEqDiff, Bool.false_eq_true, reduceCtorEq, Nat.reduceAdd, Nat.reduceLT, Nat.reduceLeDiff, Nat.reduceSub, List.replicate, Nat.zero_add, Nat.lt_add_one, Nat.le_refl, Nat.zero_le, Nat.succ_ne_zero, not_false_eq_true, not_true_eq_false, false_implies, true_implies, forall_const, imp_self, true_or, or_true, eq_self, k_Mo_nodeNow, h1, h2, h3, h4, pk_sub]; try clear hgo9 hW9))
      exact hQ
    · ((obtain ⟨W9, hW9, hgo9⟩ := wp_ex (T_Mo_nodeNow l G) [] _; refine hgo9 200 _ _ _ _ ?_; simp -implicitDefEqProofs (disch := omega) only [hW9, inl, gate, Xq, tz_const, tz_iload, tz_lload, tz_dload, tz_aload, tz_istore, tz_astore, tz_lstore, tz_dstore, tz_iinc, tz_i1, tz_i2, tz_i2z, tz_l2, tz_l2z, tz_i2l, tz_l2i, tz_lcmp, tz_i2d, tz_d2, tz_dcmp, tz_dup, tz_dup2, tz_pop, tz_if, tz_icmp, tz_null, tz_goto, tz_sw, tz_getf, tz_puti, tz_putz, tz_putr, tz_putl, tz_iaload, tz_baload, tz_laload, tz_aaload, tz_iastore, tz_bastore, tz_lastore, tz_aastore, tz_alen, tz_new, tz_newa, tz_oinit, tz_iret, tz_zret, tz_lret, tz_dret, tz_aret, tz_vret, tz_throw, tz_callS, tz_callV, tz_callI, tz_callR, tz_pureS, tz_pureV, tz_callVH, lg, lset, lkill, lst1, lst2, entL, isRf, is1, vl, va_rf_none, va_rf_some, isRf_rf, is1_rf, i0, i1, bI_eq0, bI_eq1, nm_em, nI_eqP, nI_leP, nI_ltP, nN_e1, nN_e2, nN_l1, nN_l2, nN_l3, nN_l4, nI_add, pk_mul, vp_inN, nI_cl, n01, n10, P_i, P_ii, P_iii, f_Mo_at, f_Mo_map, f_Mo_contact, f_Mo_within, f_Mo_isPort, f_Hp_endpoint, f_Hp_nodeOf, f_Hp_portOf, f_Ma_max, f_Ma_min, f_Hp_isSetting, popN, rok, a1, noX, swc, mL, if_true, if_false, ↓reduceIte, cond_true, cond_false, true_and, and_true, List.length_cons, List.length_nil, List.nil_append, List.cons_append, List.append_nil, Option.toList, Nat.reduceEqDiff, Bool.false_eq_true, reduceCtorEq, Nat.reduceAdd, Nat.reduceLT, Nat.reduceLeDiff, Nat.reduceSub, List.replicate, Nat.zero_add, Nat.lt_add_one, Nat.le_refl, Nat.zero_le, Nat.succ_ne_zero, not_false_eq_true, not_true_eq_false, false_implies, true_implies, forall_const, imp_self, true_or, or_true, eq_self, k_Mo_nodeNow, h1, h2, h3, h4, pk_sub]; try clear hgo9 hW9); (obtain ⟨W9, hW9, hgo9⟩ := wp_ex (T_Mo_nodeNow l G) [] _; refine hgo9 200 _ _ _ _ ?_; simp -implicitDefEqProofs (disch := omega) only [hW9, inl, gate, Xq, tz_const, tz_iload, tz_lload, tz_dload, tz_aload, tz_istore, tz_astore, tz_lstore, tz_dstore, tz_iinc, tz_i1, tz_i2, tz_i2z, tz_l2, tz_l2z, tz_i2l, tz_l2i, tz_lcmp, tz_i2d, tz_d2, tz_dcmp, tz_dup, tz_dup2, tz_pop, tz_if, tz_icmp, tz_null, tz_goto, tz_sw, tz_getf, tz_puti, tz_putz, tz_putr, tz_putl, tz_iaload, tz_baload, tz_laload, tz_aaload, tz_iastore, tz_bastore, tz_lastore, tz_aastore, tz_alen, tz_new, tz_newa, tz_oinit, tz_iret, tz_zret, tz_lret, tz_dret, tz_aret, tz_vret, tz_throw, tz_callS, tz_callV, tz_callI, tz_callR, tz_pureS, tz_pureV, tz_callVH, lg, lset, lkill, lst1, lst2, entL, isRf, is1, vl, va_rf_none, va_rf_some, isRf_rf, is1_rf, i0, i1, bI_eq0, bI_eq1, nm_em, nI_eqP, nI_leP, nI_ltP, nN_e1, nN_e2, nN_l1, nN_l2, nN_l3, nN_l4, nI_add, pk_mul, vp_inN, nI_cl, n01, n10, P_i, P_ii, P_iii, f_Mo_at, f_Mo_map, f_Mo_contact, f_Mo_within, f_Mo_isPort, f_Hp_endpoint, f_Hp_nodeOf, f_Hp_portOf, f_Ma_max, f_Ma_min, f_Hp_isSetting, popN, rok, a1, noX, swc, mL, if_true, if_false, ↓reduceIte, cond_true, cond_false, true_and, and_true, List.length_cons, List.length_nil, List.nil_append, List.cons_append, List.append_nil, Option.toList, Nat.reduceEqDiff, Bool.false_eq_true, reduceCtorEq, Nat.reduceAdd, Nat.reduceLT, Nat.reduceLeDiff, Nat.reduceSub, List.replicate, Nat.zero_add, Nat.lt_add_one, Nat.le_refl, Nat.zero_le, Nat.succ_ne_zero, not_false_eq_true, not_true_eq_false, false_implies, true_implies, forall_const, imp_self, true_or, or_true, eq_self, k_Mo_nodeNow, h1, h2, h3, h4, pk_sub]; try clear hgo9 hW9))
      exact hQ
end
