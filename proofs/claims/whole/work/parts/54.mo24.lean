/-! THE REFERENCE: the digest; a new model -/
def k_Mo_mix (l : Launch) (G : Gc) (pc : Nat) : Tr :=
  if pc < 8 then
   if pc < 4 then
    if pc < 1 then
     if pc = 0 then tz_aload 1 0 else dead
    else
     if pc = 1 then tz_const 4 (.long (lN 31)) else dead
   else
    if pc < 5 then
     if pc = 4 then tz_aload 5 0 else dead
    else
     if pc = 5 then tz_getf 8 7 15 2 else dead
  else
   if pc < 10 then
    if pc < 9 then
     if pc = 8 then tz_l2 9 (fun a b => a * b) else dead
    else
     if pc = 9 then tz_lload 10 1 else dead
   else
    if pc < 11 then
     if pc = 10 then tz_l2 11 (fun a b => a + b) else dead
    else
     if pc < 14 then
      if pc = 11 then tz_putl 14 7 15 else dead
     else
      if pc = 14 then tz_vret else dead
set_option maxRecDepth 100000 in
theorem T_Mo_mix (l : Launch) (G : Gc) : TabOK l G M_Mo_mix (k_Mo_mix l G) := by
  intro pc
  unfold k_Mo_mix
  exact
   (sd_br
    (sd_br
     (sd_br
      (sd_lf (sd_aload_n (k := 0) (by decide +kernel : decode prog_9_method_73_code 0 = .ok (.aload_n 0, 1))))
      (sd_lf (sd_ldc2 (by decide +kernel : decode prog_9_method_73_code 1 = .ok (.ldc2_w 223, 3)) (gm 1256 (by decide +kernel) rfl))))
     (sd_br
      (sd_lf (sd_aload_n (k := 0) (by decide +kernel : decode prog_9_method_73_code 4 = .ok (.aload_n 0, 1))))
      (sd_lf (sd_getf (q := (RX7, TX7, 16)) (by decide +kernel : decode prog_9_method_73_code 5 = .ok (.getfield 225, 3)) rfl (by decide +kernel) (gm 927 (by decide +kernel) rfl)))))
    (sd_br
     (sd_br
      (sd_lf (sd_lmul (by decide +kernel : decode prog_9_method_73_code 8 = .ok (.lmul, 1))))
      (sd_lf (sd_lload_n (k := 1) (by decide +kernel : decode prog_9_method_73_code 9 = .ok (.lload_n 1, 1)))))
     (sd_br
      (sd_lf (sd_ladd (by decide +kernel : decode prog_9_method_73_code 10 = .ok (.ladd, 1))))
      (sd_br
       (sd_lf (sd_putl (q := (RX7, TX7, 16)) (by decide +kernel : decode prog_9_method_73_code 11 = .ok (.putfield 225, 3)) rfl (by decide +kernel) (gm 927 (by decide +kernel) rfl) rfl rfl (Or.inl rfl)))
       (sd_lf (sd_vret (by decide +kernel : decode prog_9_method_73_code 14 = .ok (.return_, 1)) rfl))))))
def k_Mo_mixTranslator (l : Launch) (G : Gc) (pc : Nat) : Tr :=
  if pc < 34 then
   if pc < 15 then
    if pc < 8 then
     if pc < 2 then
      if pc < 1 then
       if pc = 0 then tz_const 1 (.int (nI 0)) else dead
      else
       if pc = 1 then tz_istore 2 2 else dead
     else
      if pc < 3 then
       if pc = 2 then tz_iload 3 2 else dead
      else
       if pc < 5 then
        if pc = 3 then tz_const 5 (.int (nI 9)) else dead
       else
        if pc = 5 then tz_icmp 8 25 (fun a b => b ≤ a) else dead
    else
     if pc < 10 then
      if pc < 9 then
       if pc = 8 then tz_aload 9 0 else dead
      else
       if pc = 9 then tz_aload 10 0 else dead
     else
      if pc < 11 then
       if pc = 10 then tz_iload 11 1 else dead
      else
       if pc < 12 then
        if pc = 11 then tz_iload 12 2 else dead
       else
        if pc = 12 then tz_pureV 15 2 7 P_Mo_translatorNow f_Mo_translatorNow else dead
   else
    if pc < 26 then
     if pc < 19 then
      if pc < 16 then
       if pc = 15 then tz_i2l 16 else dead
      else
       if pc = 16 then tz_callV l G 19 M_Mo_mix 1 7 else dead
     else
      if pc < 22 then
       if pc = 19 then tz_iinc 22 2 (nI 1) else dead
      else
       if pc < 25 then
        if pc = 22 then tz_goto 2 else dead
       else
        if pc = 25 then tz_const 26 (.int (nI 0)) else dead
    else
     if pc < 28 then
      if pc < 27 then
       if pc = 26 then tz_istore 27 2 else dead
      else
       if pc = 27 then tz_iload 28 2 else dead
     else
      if pc < 30 then
       if pc = 28 then tz_const 30 (.int (nI 7)) else dead
      else
       if pc < 31 then
        if pc = 30 then tz_aload 31 0 else dead
       else
        if pc = 31 then tz_getf 34 7 1 1 else dead
  else
   if pc < 49 then
    if pc < 42 then
     if pc < 37 then
      if pc < 35 then
       if pc = 34 then tz_iload 35 1 else dead
      else
       if pc = 35 then tz_const 37 (.int (nI 11)) else dead
     else
      if pc < 40 then
       if pc = 37 then tz_pureS 40 2 P_Mo_at f_Mo_at else dead
      else
       if pc < 41 then
        if pc = 40 then tz_iaload 41 else dead
       else
        if pc = 41 then tz_i2 42 (fun a b => a * b) else dead
    else
     if pc < 46 then
      if pc < 45 then
       if pc = 42 then tz_icmp 45 69 (fun a b => b ≤ a) else dead
      else
       if pc = 45 then tz_aload 46 0 else dead
     else
      if pc < 47 then
       if pc = 46 then tz_aload 47 0 else dead
      else
       if pc < 48 then
        if pc = 47 then tz_iload 48 1 else dead
       else
        if pc = 48 then tz_iload 49 2 else dead
   else
    if pc < 56 then
     if pc < 52 then
      if pc < 51 then
       if pc = 49 then tz_const 51 (.int (nI 7)) else dead
      else
       if pc = 51 then tz_i2z 52 (fun a b => a / b) else dead
     else
      if pc < 53 then
       if pc = 52 then tz_iload 53 2 else dead
      else
       if pc < 55 then
        if pc = 53 then tz_const 55 (.int (nI 7)) else dead
       else
        if pc = 55 then tz_i2z 56 (fun a b => a - a / b * b) else dead
    else
     if pc < 63 then
      if pc < 59 then
       if pc = 56 then tz_pureV 59 3 7 P_Mo_mappingNow f_Mo_mappingNow else dead
      else
       if pc < 60 then
        if pc = 59 then tz_i2l 60 else dead
       else
        if pc = 60 then tz_callV l G 63 M_Mo_mix 1 7 else dead
     else
      if pc < 66 then
       if pc = 63 then tz_iinc 66 2 (nI 1) else dead
      else
       if pc < 69 then
        if pc = 66 then tz_goto 27 else dead
       else
        if pc = 69 then tz_vret else dead
set_option maxRecDepth 100000 in
theorem T_Mo_mixTranslator (l : Launch) (G : Gc) : TabOK l G M_Mo_mixTranslator (k_Mo_mixTranslator l G) := by
  intro pc
  unfold k_Mo_mixTranslator
  exact
   (sd_br
    (sd_br
     (sd_br
      (sd_br
       (sd_br
        (sd_lf (sd_iconst (by decide +kernel : decode prog_9_method_74_code 0 = .ok (.iconst 0, 1)) (by decide +kernel)))
        (sd_lf (sd_istore_n (k := 2) (by decide +kernel : decode prog_9_method_74_code 1 = .ok (.istore_n 2, 1)))))
       (sd_br
        (sd_lf (sd_iload_n (k := 2) (by decide +kernel : decode prog_9_method_74_code 2 = .ok (.iload_n 2, 1))))
        (sd_br
         (sd_lf (sd_bipush (by decide +kernel : decode prog_9_method_74_code 3 = .ok (.bipush 9, 2)) (by decide +kernel)))
         (sd_lf (sd_icmp_ge (by decide +kernel : decode prog_9_method_74_code 5 = .ok (.if_icmp .ge 20, 3)) (by decide +kernel))))))
      (sd_br
       (sd_br
        (sd_lf (sd_aload_n (k := 0) (by decide +kernel : decode prog_9_method_74_code 8 = .ok (.aload_n 0, 1))))
        (sd_lf (sd_aload_n (k := 0) (by decide +kernel : decode prog_9_method_74_code 9 = .ok (.aload_n 0, 1)))))
       (sd_br
        (sd_lf (sd_iload_n (k := 1) (by decide +kernel : decode prog_9_method_74_code 10 = .ok (.iload_n 1, 1))))
        (sd_br
         (sd_lf (sd_iload_n (k := 2) (by decide +kernel : decode prog_9_method_74_code 11 = .ok (.iload_n 2, 1))))
         (sd_lf (sd_pureV (sd_callV (q := (RX7, TX7, 16)) (by decide +kernel : decode prog_9_method_74_code 12 = .ok (.invokevirtual 211, 3)) ok_Mo_translatorNow (gm 1215 (by decide +kernel) rfl) (gm 1217 (by decide +kernel) rfl) (gm 66 (by decide +kernel) rfl) rfl rfl (by decide +kernel) rfl rfl) c_Mo_translatorNow))))))
     (sd_br
      (sd_br
       (sd_br
        (sd_lf (sd_i2l (by decide +kernel : decode prog_9_method_74_code 15 = .ok (.i2l, 1))))
        (sd_lf (sd_callV (q := (RX7, TX7, 16)) (by decide +kernel : decode prog_9_method_74_code 16 = .ok (.invokevirtual 229, 3)) ok_Mo_mix (gm 1252 (by decide +kernel) rfl) (gm 1254 (by decide +kernel) rfl) (gm 70 (by decide +kernel) rfl) rfl rfl (by decide +kernel) rfl rfl)))
       (sd_br
        (sd_lf (sd_iinc (by decide +kernel : decode prog_9_method_74_code 19 = .ok (.iinc 2 1, 3)) (by decide +kernel)))
        (sd_br
         (sd_lf (sd_goto (by decide +kernel : decode prog_9_method_74_code 22 = .ok (.goto (-20), 3)) (by decide +kernel)))
         (sd_lf (sd_iconst (by decide +kernel : decode prog_9_method_74_code 25 = .ok (.iconst 0, 1)) (by decide +kernel))))))
      (sd_br
       (sd_br
        (sd_lf (sd_istore_n (k := 2) (by decide +kernel : decode prog_9_method_74_code 26 = .ok (.istore_n 2, 1))))
        (sd_lf (sd_iload_n (k := 2) (by decide +kernel : decode prog_9_method_74_code 27 = .ok (.iload_n 2, 1)))))
       (sd_br
        (sd_lf (sd_bipush (by decide +kernel : decode prog_9_method_74_code 28 = .ok (.bipush 7, 2)) (by decide +kernel)))
        (sd_br
         (sd_lf (sd_aload_n (k := 0) (by decide +kernel : decode prog_9_method_74_code 30 = .ok (.aload_n 0, 1))))
         (sd_lf (sd_getf (q := (RX7, TX7, 16)) (by decide +kernel : decode prog_9_method_74_code 31 = .ok (.getfield 7, 3)) rfl (by decide +kernel) (gm 913 (by decide +kernel) rfl))))))))
    (sd_br
     (sd_br
      (sd_br
       (sd_br
        (sd_lf (sd_iload_n (k := 1) (by decide +kernel : decode prog_9_method_74_code 34 = .ok (.iload_n 1, 1))))
        (sd_lf (sd_bipush (by decide +kernel : decode prog_9_method_74_code 35 = .ok (.bipush 11, 2)) (by decide +kernel))))
       (sd_br
        (sd_lf (sd_pureS (sd_callS (by decide +kernel : decode prog_9_method_74_code 37 = .ok (.invokestatic 44, 3)) ok_Mo_at (gm 993 (by decide +kernel) rfl) (gm 994 (by decide +kernel) rfl) (by decide +kernel) rfl rfl) c_Mo_at))
        (sd_br
         (sd_lf (sd_iaload (by decide +kernel : decode prog_9_method_74_code 40 = .ok (.iaload, 1))))
         (sd_lf (sd_imul (by decide +kernel : decode prog_9_method_74_code 41 = .ok (.imul, 1)))))))
      (sd_br
       (sd_br
        (sd_lf (sd_icmp_ge (by decide +kernel : decode prog_9_method_74_code 42 = .ok (.if_icmp .ge 27, 3)) (by decide +kernel)))
        (sd_lf (sd_aload_n (k := 0) (by decide +kernel : decode prog_9_method_74_code 45 = .ok (.aload_n 0, 1)))))
       (sd_br
        (sd_lf (sd_aload_n (k := 0) (by decide +kernel : decode prog_9_method_74_code 46 = .ok (.aload_n 0, 1))))
        (sd_br
         (sd_lf (sd_iload_n (k := 1) (by decide +kernel : decode prog_9_method_74_code 47 = .ok (.iload_n 1, 1))))
         (sd_lf (sd_iload_n (k := 2) (by decide +kernel : decode prog_9_method_74_code 48 = .ok (.iload_n 2, 1))))))))
     (sd_br
      (sd_br
       (sd_br
        (sd_lf (sd_bipush (by decide +kernel : decode prog_9_method_74_code 49 = .ok (.bipush 7, 2)) (by decide +kernel)))
        (sd_lf (sd_idiv (by decide +kernel : decode prog_9_method_74_code 51 = .ok (.idiv, 1)))))
       (sd_br
        (sd_lf (sd_iload_n (k := 2) (by decide +kernel : decode prog_9_method_74_code 52 = .ok (.iload_n 2, 1))))
        (sd_br
         (sd_lf (sd_bipush (by decide +kernel : decode prog_9_method_74_code 53 = .ok (.bipush 7, 2)) (by decide +kernel)))
         (sd_lf (sd_irem (by decide +kernel : decode prog_9_method_74_code 55 = .ok (.irem, 1)))))))
      (sd_br
       (sd_br
        (sd_lf (sd_pureV (sd_callV (q := (RX7, TX7, 16)) (by decide +kernel : decode prog_9_method_74_code 56 = .ok (.invokevirtual 214, 3)) ok_Mo_mappingNow (gm 1223 (by decide +kernel) rfl) (gm 1225 (by decide +kernel) rfl) (gm 67 (by decide +kernel) rfl) rfl rfl (by decide +kernel) rfl rfl) c_Mo_mappingNow))
        (sd_br
         (sd_lf (sd_i2l (by decide +kernel : decode prog_9_method_74_code 59 = .ok (.i2l, 1))))
         (sd_lf (sd_callV (q := (RX7, TX7, 16)) (by decide +kernel : decode prog_9_method_74_code 60 = .ok (.invokevirtual 229, 3)) ok_Mo_mix (gm 1252 (by decide +kernel) rfl) (gm 1254 (by decide +kernel) rfl) (gm 70 (by decide +kernel) rfl) rfl rfl (by decide +kernel) rfl rfl))))
       (sd_br
        (sd_lf (sd_iinc (by decide +kernel : decode prog_9_method_74_code 63 = .ok (.iinc 2 1, 3)) (by decide +kernel)))
        (sd_br
         (sd_lf (sd_goto (by decide +kernel : decode prog_9_method_74_code 66 = .ok (.goto (-39), 3)) (by decide +kernel)))
         (sd_lf (sd_vret (by decide +kernel : decode prog_9_method_74_code 69 = .ok (.return_, 1)) rfl))))))))
def k_Mo_digest (l : Launch) (G : Gc) (pc : Nat) : Tr :=
  if pc < 60 then
   if pc < 33 then
    if pc < 15 then
     if pc < 6 then
      if pc < 2 then
       if pc < 1 then
        if pc = 0 then tz_aload 1 0 else dead
       else
        if pc = 1 then tz_const 2 (.int (nI 0)) else dead
      else
       if pc < 5 then
        if pc = 2 then tz_puti 5 7 0 else dead
       else
        if pc = 5 then tz_aload 6 0 else dead
     else
      if pc < 12 then
       if pc < 9 then
        if pc = 6 then tz_const 9 (.long (lN 1973)) else dead
       else
        if pc = 9 then tz_putl 12 7 15 else dead
      else
       if pc < 13 then
        if pc = 12 then tz_const 13 (.int (nI 0)) else dead
       else
        if pc < 14 then
         if pc = 13 then tz_istore 14 1 else dead
        else
         if pc = 14 then tz_iload 15 1 else dead
    else
     if pc < 22 then
      if pc < 20 then
       if pc < 17 then
        if pc = 15 then tz_const 17 (.int (nI 12)) else dead
       else
        if pc = 17 then tz_icmp 20 36 (fun a b => b ≤ a) else dead
      else
       if pc < 21 then
        if pc = 20 then tz_aload 21 0 else dead
       else
        if pc = 21 then tz_aload 22 0 else dead
     else
      if pc < 26 then
       if pc < 23 then
        if pc = 22 then tz_iload 23 1 else dead
       else
        if pc = 23 then tz_pureV 26 1 7 P_Mo_counted f_Mo_counted else dead
      else
       if pc < 27 then
        if pc = 26 then tz_i2l 27 else dead
       else
        if pc < 30 then
         if pc = 27 then tz_callV l G 30 M_Mo_mix 1 7 else dead
        else
         if pc = 30 then tz_iinc 33 1 (nI 1) else dead
   else
    if pc < 48 then
     if pc < 39 then
      if pc < 37 then
       if pc < 36 then
        if pc = 33 then tz_goto 14 else dead
       else
        if pc = 36 then tz_const 37 (.int (nI 0)) else dead
      else
       if pc < 38 then
        if pc = 37 then tz_istore 38 1 else dead
       else
        if pc = 38 then tz_iload 39 1 else dead
     else
      if pc < 43 then
       if pc < 40 then
        if pc = 39 then tz_aload 40 0 else dead
       else
        if pc = 40 then tz_getf 43 7 1 1 else dead
      else
       if pc < 44 then
        if pc = 43 then tz_const 44 (.int (nI 1)) else dead
       else
        if pc < 45 then
         if pc = 44 then tz_iaload 45 else dead
        else
         if pc = 45 then tz_icmp 48 92 (fun a b => b ≤ a) else dead
    else
     if pc < 53 then
      if pc < 50 then
       if pc < 49 then
        if pc = 48 then tz_const 49 (.int (nI 0)) else dead
       else
        if pc = 49 then tz_istore 50 2 else dead
      else
       if pc < 51 then
        if pc = 50 then tz_iload 51 2 else dead
       else
        if pc = 51 then tz_const 53 (.int (nI 7)) else dead
     else
      if pc < 57 then
       if pc < 56 then
        if pc = 53 then tz_icmp 56 73 (fun a b => b ≤ a) else dead
       else
        if pc = 56 then tz_aload 57 0 else dead
      else
       if pc < 58 then
        if pc = 57 then tz_aload 58 0 else dead
       else
        if pc < 59 then
         if pc = 58 then tz_iload 59 1 else dead
        else
         if pc = 59 then tz_iload 60 2 else dead
  else
   if pc < 98 then
    if pc < 81 then
     if pc < 70 then
      if pc < 64 then
       if pc < 63 then
        if pc = 60 then tz_pureV 63 2 7 P_Mo_nodeNow f_Mo_nodeNow else dead
       else
        if pc = 63 then tz_i2l 64 else dead
      else
       if pc < 67 then
        if pc = 64 then tz_callV l G 67 M_Mo_mix 1 7 else dead
       else
        if pc = 67 then tz_iinc 70 2 (nI 1) else dead
     else
      if pc < 74 then
       if pc < 73 then
        if pc = 70 then tz_goto 50 else dead
       else
        if pc = 73 then tz_aload 74 0 else dead
      else
       if pc < 75 then
        if pc = 74 then tz_iload 75 1 else dead
       else
        if pc < 78 then
         if pc = 75 then tz_pureV 78 1 7 P_Mo_isTranslator f_Mo_isTranslator else dead
        else
         if pc = 78 then tz_if 81 86 (fun a => a = 0) else dead
    else
     if pc < 89 then
      if pc < 83 then
       if pc < 82 then
        if pc = 81 then tz_aload 82 0 else dead
       else
        if pc = 82 then tz_iload 83 1 else dead
      else
       if pc < 86 then
        if pc = 83 then tz_callV l G 86 M_Mo_mixTranslator 1 7 else dead
       else
        if pc = 86 then tz_iinc 89 1 (nI 1) else dead
     else
      if pc < 93 then
       if pc < 92 then
        if pc = 89 then tz_goto 38 else dead
       else
        if pc = 92 then tz_aload 93 0 else dead
      else
       if pc < 94 then
        if pc = 93 then tz_aload 94 0 else dead
       else
        if pc < 97 then
         if pc = 94 then tz_getf 97 7 5 0 else dead
        else
         if pc = 97 then tz_i2l 98 else dead
   else
    if pc < 113 then
     if pc < 104 then
      if pc < 102 then
       if pc < 101 then
        if pc = 98 then tz_callV l G 101 M_Mo_mix 1 7 else dead
       else
        if pc = 101 then tz_const 102 (.int (nI 0)) else dead
      else
       if pc < 103 then
        if pc = 102 then tz_istore 103 1 else dead
       else
        if pc = 103 then tz_iload 104 1 else dead
     else
      if pc < 108 then
       if pc < 105 then
        if pc = 104 then tz_aload 105 0 else dead
       else
        if pc = 105 then tz_getf 108 7 5 0 else dead
      else
       if pc < 111 then
        if pc = 108 then tz_icmp 111 128 (fun a b => b ≤ a) else dead
       else
        if pc < 112 then
         if pc = 111 then tz_aload 112 0 else dead
        else
         if pc = 112 then tz_aload 113 0 else dead
    else
     if pc < 122 then
      if pc < 117 then
       if pc < 116 then
        if pc = 113 then tz_getf 116 7 6 1 else dead
       else
        if pc = 116 then tz_iload 117 1 else dead
      else
       if pc < 118 then
        if pc = 117 then tz_iaload 118 else dead
       else
        if pc < 119 then
         if pc = 118 then tz_i2l 119 else dead
        else
         if pc = 119 then tz_callV l G 122 M_Mo_mix 1 7 else dead
     else
      if pc < 128 then
       if pc < 125 then
        if pc = 122 then tz_iinc 125 1 (nI 1) else dead
       else
        if pc = 125 then tz_goto 103 else dead
      else
       if pc < 129 then
        if pc = 128 then tz_aload 129 0 else dead
       else
        if pc < 132 then
         if pc = 129 then tz_getf 132 7 15 2 else dead
        else
         if pc = 132 then tz_lret else dead
set_option maxRecDepth 100000 in
theorem T_Mo_digest (l : Launch) (G : Gc) : TabOK l G M_Mo_digest (k_Mo_digest l G) := by
  intro pc
  unfold k_Mo_digest
  exact
   (sd_br
    (sd_br
     (sd_br
      (sd_br
       (sd_br
        (sd_br
         (sd_lf (sd_aload_n (k := 0) (by decide +kernel : decode prog_9_method_75_code 0 = .ok (.aload_n 0, 1))))
         (sd_lf (sd_iconst (by decide +kernel : decode prog_9_method_75_code 1 = .ok (.iconst 0, 1)) (by decide +kernel))))
        (sd_br
         (sd_lf (sd_puti (q := (RX7, TX7, 16)) (by decide +kernel : decode prog_9_method_75_code 2 = .ok (.putfield 32, 3)) rfl (by decide +kernel) (gm 912 (by decide +kernel) rfl) rfl rfl (Or.inl rfl)))
         (sd_lf (sd_aload_n (k := 0) (by decide +kernel : decode prog_9_method_75_code 5 = .ok (.aload_n 0, 1))))))
       (sd_br
        (sd_br
         (sd_lf (sd_ldc2 (by decide +kernel : decode prog_9_method_75_code 6 = .ok (.ldc2_w 233, 3)) (gm 1251 (by decide +kernel) rfl)))
         (sd_lf (sd_putl (q := (RX7, TX7, 16)) (by decide +kernel : decode prog_9_method_75_code 9 = .ok (.putfield 225, 3)) rfl (by decide +kernel) (gm 927 (by decide +kernel) rfl) rfl rfl (Or.inl rfl))))
        (sd_br
         (sd_lf (sd_iconst (by decide +kernel : decode prog_9_method_75_code 12 = .ok (.iconst 0, 1)) (by decide +kernel)))
         (sd_br
          (sd_lf (sd_istore_n (k := 1) (by decide +kernel : decode prog_9_method_75_code 13 = .ok (.istore_n 1, 1))))
          (sd_lf (sd_iload_n (k := 1) (by decide +kernel : decode prog_9_method_75_code 14 = .ok (.iload_n 1, 1))))))))
      (sd_br
       (sd_br
        (sd_br
         (sd_lf (sd_bipush (by decide +kernel : decode prog_9_method_75_code 15 = .ok (.bipush 12, 2)) (by decide +kernel)))
         (sd_lf (sd_icmp_ge (by decide +kernel : decode prog_9_method_75_code 17 = .ok (.if_icmp .ge 19, 3)) (by decide +kernel))))
        (sd_br
         (sd_lf (sd_aload_n (k := 0) (by decide +kernel : decode prog_9_method_75_code 20 = .ok (.aload_n 0, 1))))
         (sd_lf (sd_aload_n (k := 0) (by decide +kernel : decode prog_9_method_75_code 21 = .ok (.aload_n 0, 1))))))
       (sd_br
        (sd_br
         (sd_lf (sd_iload_n (k := 1) (by decide +kernel : decode prog_9_method_75_code 22 = .ok (.iload_n 1, 1))))
         (sd_lf (sd_pureV (sd_callV (q := (RX7, TX7, 16)) (by decide +kernel : decode prog_9_method_75_code 23 = .ok (.invokevirtual 196, 3)) ok_Mo_counted (gm 1179 (by decide +kernel) rfl) (gm 1181 (by decide +kernel) rfl) (gm 59 (by decide +kernel) rfl) rfl rfl (by decide +kernel) rfl rfl) c_Mo_counted)))
        (sd_br
         (sd_lf (sd_i2l (by decide +kernel : decode prog_9_method_75_code 26 = .ok (.i2l, 1))))
         (sd_br
          (sd_lf (sd_callV (q := (RX7, TX7, 16)) (by decide +kernel : decode prog_9_method_75_code 27 = .ok (.invokevirtual 229, 3)) ok_Mo_mix (gm 1252 (by decide +kernel) rfl) (gm 1254 (by decide +kernel) rfl) (gm 70 (by decide +kernel) rfl) rfl rfl (by decide +kernel) rfl rfl))
          (sd_lf (sd_iinc (by decide +kernel : decode prog_9_method_75_code 30 = .ok (.iinc 1 1, 3)) (by decide +kernel))))))))
     (sd_br
      (sd_br
       (sd_br
        (sd_br
         (sd_lf (sd_goto (by decide +kernel : decode prog_9_method_75_code 33 = .ok (.goto (-19), 3)) (by decide +kernel)))
         (sd_lf (sd_iconst (by decide +kernel : decode prog_9_method_75_code 36 = .ok (.iconst 0, 1)) (by decide +kernel))))
        (sd_br
         (sd_lf (sd_istore_n (k := 1) (by decide +kernel : decode prog_9_method_75_code 37 = .ok (.istore_n 1, 1))))
         (sd_lf (sd_iload_n (k := 1) (by decide +kernel : decode prog_9_method_75_code 38 = .ok (.iload_n 1, 1))))))
       (sd_br
        (sd_br
         (sd_lf (sd_aload_n (k := 0) (by decide +kernel : decode prog_9_method_75_code 39 = .ok (.aload_n 0, 1))))
         (sd_lf (sd_getf (q := (RX7, TX7, 16)) (by decide +kernel : decode prog_9_method_75_code 40 = .ok (.getfield 7, 3)) rfl (by decide +kernel) (gm 913 (by decide +kernel) rfl))))
        (sd_br
         (sd_lf (sd_iconst (by decide +kernel : decode prog_9_method_75_code 43 = .ok (.iconst 1, 1)) (by decide +kernel)))
         (sd_br
          (sd_lf (sd_iaload (by decide +kernel : decode prog_9_method_75_code 44 = .ok (.iaload, 1))))
          (sd_lf (sd_icmp_ge (by decide +kernel : decode prog_9_method_75_code 45 = .ok (.if_icmp .ge 47, 3)) (by decide +kernel)))))))
      (sd_br
       (sd_br
        (sd_br
         (sd_lf (sd_iconst (by decide +kernel : decode prog_9_method_75_code 48 = .ok (.iconst 0, 1)) (by decide +kernel)))
         (sd_lf (sd_istore_n (k := 2) (by decide +kernel : decode prog_9_method_75_code 49 = .ok (.istore_n 2, 1)))))
        (sd_br
         (sd_lf (sd_iload_n (k := 2) (by decide +kernel : decode prog_9_method_75_code 50 = .ok (.iload_n 2, 1))))
         (sd_lf (sd_bipush (by decide +kernel : decode prog_9_method_75_code 51 = .ok (.bipush 7, 2)) (by decide +kernel)))))
       (sd_br
        (sd_br
         (sd_lf (sd_icmp_ge (by decide +kernel : decode prog_9_method_75_code 53 = .ok (.if_icmp .ge 20, 3)) (by decide +kernel)))
         (sd_lf (sd_aload_n (k := 0) (by decide +kernel : decode prog_9_method_75_code 56 = .ok (.aload_n 0, 1)))))
        (sd_br
         (sd_lf (sd_aload_n (k := 0) (by decide +kernel : decode prog_9_method_75_code 57 = .ok (.aload_n 0, 1))))
         (sd_br
          (sd_lf (sd_iload_n (k := 1) (by decide +kernel : decode prog_9_method_75_code 58 = .ok (.iload_n 1, 1))))
          (sd_lf (sd_iload_n (k := 2) (by decide +kernel : decode prog_9_method_75_code 59 = .ok (.iload_n 2, 1))))))))))
    (sd_br
     (sd_br
      (sd_br
       (sd_br
        (sd_br
         (sd_lf (sd_pureV (sd_callV (q := (RX7, TX7, 16)) (by decide +kernel : decode prog_9_method_75_code 60 = .ok (.invokevirtual 208, 3)) ok_Mo_nodeNow (gm 1195 (by decide +kernel) rfl) (gm 1197 (by decide +kernel) rfl) (gm 62 (by decide +kernel) rfl) rfl rfl (by decide +kernel) rfl rfl) c_Mo_nodeNow))
         (sd_lf (sd_i2l (by decide +kernel : decode prog_9_method_75_code 63 = .ok (.i2l, 1)))))
        (sd_br
         (sd_lf (sd_callV (q := (RX7, TX7, 16)) (by decide +kernel : decode prog_9_method_75_code 64 = .ok (.invokevirtual 229, 3)) ok_Mo_mix (gm 1252 (by decide +kernel) rfl) (gm 1254 (by decide +kernel) rfl) (gm 70 (by decide +kernel) rfl) rfl rfl (by decide +kernel) rfl rfl))
         (sd_lf (sd_iinc (by decide +kernel : decode prog_9_method_75_code 67 = .ok (.iinc 2 1, 3)) (by decide +kernel)))))
       (sd_br
        (sd_br
         (sd_lf (sd_goto (by decide +kernel : decode prog_9_method_75_code 70 = .ok (.goto (-20), 3)) (by decide +kernel)))
         (sd_lf (sd_aload_n (k := 0) (by decide +kernel : decode prog_9_method_75_code 73 = .ok (.aload_n 0, 1)))))
        (sd_br
         (sd_lf (sd_iload_n (k := 1) (by decide +kernel : decode prog_9_method_75_code 74 = .ok (.iload_n 1, 1))))
         (sd_br
          (sd_lf (sd_pureV (sd_callV (q := (RX7, TX7, 16)) (by decide +kernel : decode prog_9_method_75_code 75 = .ok (.invokevirtual 55, 3)) ok_Mo_isTranslator (gm 982 (by decide +kernel) rfl) (gm 984 (by decide +kernel) rfl) (gm 30 (by decide +kernel) rfl) rfl rfl (by decide +kernel) rfl rfl) c_Mo_isTranslator))
          (sd_lf (sd_if_eq (by decide +kernel : decode prog_9_method_75_code 78 = .ok (.ifCond .eq 8, 3)) (by decide +kernel)))))))
      (sd_br
       (sd_br
        (sd_br
         (sd_lf (sd_aload_n (k := 0) (by decide +kernel : decode prog_9_method_75_code 81 = .ok (.aload_n 0, 1))))
         (sd_lf (sd_iload_n (k := 1) (by decide +kernel : decode prog_9_method_75_code 82 = .ok (.iload_n 1, 1)))))
        (sd_br
         (sd_lf (sd_callV (q := (RX7, TX7, 16)) (by decide +kernel : decode prog_9_method_75_code 83 = .ok (.invokevirtual 235, 3)) ok_Mo_mixTranslator (gm 1257 (by decide +kernel) rfl) (gm 1259 (by decide +kernel) rfl) (gm 71 (by decide +kernel) rfl) rfl rfl (by decide +kernel) rfl rfl))
         (sd_lf (sd_iinc (by decide +kernel : decode prog_9_method_75_code 86 = .ok (.iinc 1 1, 3)) (by decide +kernel)))))
       (sd_br
        (sd_br
         (sd_lf (sd_goto (by decide +kernel : decode prog_9_method_75_code 89 = .ok (.goto (-51), 3)) (by decide +kernel)))
         (sd_lf (sd_aload_n (k := 0) (by decide +kernel : decode prog_9_method_75_code 92 = .ok (.aload_n 0, 1)))))
        (sd_br
         (sd_lf (sd_aload_n (k := 0) (by decide +kernel : decode prog_9_method_75_code 93 = .ok (.aload_n 0, 1))))
         (sd_br
          (sd_lf (sd_getf (q := (RX7, TX7, 16)) (by decide +kernel : decode prog_9_method_75_code 94 = .ok (.getfield 91, 3)) rfl (by decide +kernel) (gm 917 (by decide +kernel) rfl)))
          (sd_lf (sd_i2l (by decide +kernel : decode prog_9_method_75_code 97 = .ok (.i2l, 1)))))))))
     (sd_br
      (sd_br
       (sd_br
        (sd_br
         (sd_lf (sd_callV (q := (RX7, TX7, 16)) (by decide +kernel : decode prog_9_method_75_code 98 = .ok (.invokevirtual 229, 3)) ok_Mo_mix (gm 1252 (by decide +kernel) rfl) (gm 1254 (by decide +kernel) rfl) (gm 70 (by decide +kernel) rfl) rfl rfl (by decide +kernel) rfl rfl))
         (sd_lf (sd_iconst (by decide +kernel : decode prog_9_method_75_code 101 = .ok (.iconst 0, 1)) (by decide +kernel))))
        (sd_br
         (sd_lf (sd_istore_n (k := 1) (by decide +kernel : decode prog_9_method_75_code 102 = .ok (.istore_n 1, 1))))
         (sd_lf (sd_iload_n (k := 1) (by decide +kernel : decode prog_9_method_75_code 103 = .ok (.iload_n 1, 1))))))
       (sd_br
        (sd_br
         (sd_lf (sd_aload_n (k := 0) (by decide +kernel : decode prog_9_method_75_code 104 = .ok (.aload_n 0, 1))))
         (sd_lf (sd_getf (q := (RX7, TX7, 16)) (by decide +kernel : decode prog_9_method_75_code 105 = .ok (.getfield 91, 3)) rfl (by decide +kernel) (gm 917 (by decide +kernel) rfl))))
        (sd_br
         (sd_lf (sd_icmp_ge (by decide +kernel : decode prog_9_method_75_code 108 = .ok (.if_icmp .ge 20, 3)) (by decide +kernel)))
         (sd_br
          (sd_lf (sd_aload_n (k := 0) (by decide +kernel : decode prog_9_method_75_code 111 = .ok (.aload_n 0, 1))))
          (sd_lf (sd_aload_n (k := 0) (by decide +kernel : decode prog_9_method_75_code 112 = .ok (.aload_n 0, 1))))))))
      (sd_br
       (sd_br
        (sd_br
         (sd_lf (sd_getf (q := (RX7, TX7, 16)) (by decide +kernel : decode prog_9_method_75_code 113 = .ok (.getfield 19, 3)) rfl (by decide +kernel) (gm 918 (by decide +kernel) rfl)))
         (sd_lf (sd_iload_n (k := 1) (by decide +kernel : decode prog_9_method_75_code 116 = .ok (.iload_n 1, 1)))))
        (sd_br
         (sd_lf (sd_iaload (by decide +kernel : decode prog_9_method_75_code 117 = .ok (.iaload, 1))))
         (sd_br
          (sd_lf (sd_i2l (by decide +kernel : decode prog_9_method_75_code 118 = .ok (.i2l, 1))))
          (sd_lf (sd_callV (q := (RX7, TX7, 16)) (by decide +kernel : decode prog_9_method_75_code 119 = .ok (.invokevirtual 229, 3)) ok_Mo_mix (gm 1252 (by decide +kernel) rfl) (gm 1254 (by decide +kernel) rfl) (gm 70 (by decide +kernel) rfl) rfl rfl (by decide +kernel) rfl rfl)))))
       (sd_br
        (sd_br
         (sd_lf (sd_iinc (by decide +kernel : decode prog_9_method_75_code 122 = .ok (.iinc 1 1, 3)) (by decide +kernel)))
         (sd_lf (sd_goto (by decide +kernel : decode prog_9_method_75_code 125 = .ok (.goto (-22), 3)) (by decide +kernel))))
        (sd_br
         (sd_lf (sd_aload_n (k := 0) (by decide +kernel : decode prog_9_method_75_code 128 = .ok (.aload_n 0, 1))))
         (sd_br
          (sd_lf (sd_getf (q := (RX7, TX7, 16)) (by decide +kernel : decode prog_9_method_75_code 129 = .ok (.getfield 225, 3)) rfl (by decide +kernel) (gm 927 (by decide +kernel) rfl)))
          (sd_lf (sd_lret (by decide +kernel : decode prog_9_method_75_code 132 = .ok (.lreturn, 1)) rfl)))))))))
def k_Mo_init (l : Launch) (G : Gc) (pc : Nat) : Tr :=
  if pc < 32 then
   if pc < 14 then
    if pc < 5 then
     if pc < 1 then
      if pc = 0 then tz_aload 1 0 else dead
     else
      if pc < 4 then
       if pc = 1 then tz_oinit 4 else dead
      else
       if pc = 4 then tz_aload 5 0 else dead
    else
     if pc < 10 then
      if pc < 8 then
       if pc = 5 then tz_const 8 (.int (nI 2096)) else dead
      else
       if pc = 8 then tz_newa 10 8 else dead
     else
      if pc < 13 then
       if pc = 10 then tz_putr 13 7 1 else dead
      else
       if pc = 13 then tz_aload 14 0 else dead
   else
    if pc < 23 then
     if pc < 19 then
      if pc < 17 then
       if pc = 14 then tz_const 17 (.int (nI 2096)) else dead
      else
       if pc = 17 then tz_newa 19 8 else dead
     else
      if pc < 22 then
       if pc = 19 then tz_putr 22 7 2 else dead
      else
       if pc = 22 then tz_aload 23 0 else dead
    else
     if pc < 28 then
      if pc < 26 then
       if pc = 23 then tz_const 26 (.int (nI 2096)) else dead
      else
       if pc = 26 then tz_newa 28 8 else dead
     else
      if pc < 31 then
       if pc = 28 then tz_putr 31 7 4 else dead
      else
       if pc = 31 then tz_aload 32 0 else dead
  else
   if pc < 47 then
    if pc < 40 then
     if pc < 36 then
      if pc < 34 then
       if pc = 32 then tz_const 34 (.int (nI 40)) else dead
      else
       if pc = 34 then tz_newa 36 8 else dead
     else
      if pc < 39 then
       if pc = 36 then tz_putr 39 7 6 else dead
      else
       if pc = 39 then tz_aload 40 0 else dead
    else
     if pc < 43 then
      if pc < 41 then
       if pc = 40 then tz_const 41 (.int (nI 2)) else dead
      else
       if pc = 41 then tz_newa 43 8 else dead
     else
      if pc < 46 then
       if pc = 43 then tz_putr 46 7 12 else dead
      else
       if pc = 46 then tz_aload 47 0 else dead
   else
    if pc < 54 then
     if pc < 50 then
      if pc < 48 then
       if pc = 47 then tz_const 48 (.int (nI 2)) else dead
      else
       if pc = 48 then tz_newa 50 8 else dead
     else
      if pc < 53 then
       if pc = 50 then tz_putr 53 7 13 else dead
      else
       if pc = 53 then tz_aload 54 0 else dead
    else
     if pc < 57 then
      if pc < 55 then
       if pc = 54 then tz_const 55 (.int (nI 2)) else dead
      else
       if pc = 55 then tz_newa 57 9 else dead
     else
      if pc < 60 then
       if pc = 57 then tz_putr 60 7 14 else dead
      else
       if pc = 60 then tz_vret else dead
set_option maxRecDepth 100000 in
theorem T_Mo_init (l : Launch) (G : Gc) : TabOK l G M_Mo_init (k_Mo_init l G) := by
  intro pc
  unfold k_Mo_init
  exact
   (sd_br
    (sd_br
     (sd_br
      (sd_br
       (sd_lf (sd_aload_n (k := 0) (by decide +kernel : decode prog_9_method_1_code 0 = .ok (.aload_n 0, 1))))
       (sd_br
        (sd_lf (sd_oinit (by decide +kernel : decode prog_9_method_1_code 1 = .ok (.invokespecial 1, 3)) (gm 911 (by decide +kernel) rfl) (gm 94 (by decide +kernel) rfl) ow_obj (by decide +kernel) (by decide +kernel)))
        (sd_lf (sd_aload_n (k := 0) (by decide +kernel : decode prog_9_method_1_code 4 = .ok (.aload_n 0, 1))))))
      (sd_br
       (sd_br
        (sd_lf (sd_sipush (by decide +kernel : decode prog_9_method_1_code 5 = .ok (.sipush 2096, 3)) (by decide +kernel)))
        (sd_lf (sd_newa (ty := .int) (by decide +kernel : decode prog_9_method_1_code 8 = .ok (.newarray .int, 2)) rfl rfl (fun _ _ z => z) rfl (by decide +kernel) (gm 128 (by decide +kernel) rfl))))
       (sd_br
        (sd_lf (sd_putr (q := (RX7, TX7, 16)) (by decide +kernel : decode prog_9_method_1_code 10 = .ok (.putfield 7, 3)) rfl (by decide +kernel) (gm 913 (by decide +kernel) rfl) (Or.inr ⟨_, rfl⟩) rfl (Or.inr ⟨rfl, rfl, rfl⟩)))
        (sd_lf (sd_aload_n (k := 0) (by decide +kernel : decode prog_9_method_1_code 13 = .ok (.aload_n 0, 1)))))))
     (sd_br
      (sd_br
       (sd_br
        (sd_lf (sd_sipush (by decide +kernel : decode prog_9_method_1_code 14 = .ok (.sipush 2096, 3)) (by decide +kernel)))
        (sd_lf (sd_newa (ty := .int) (by decide +kernel : decode prog_9_method_1_code 17 = .ok (.newarray .int, 2)) rfl rfl (fun _ _ z => z) rfl (by decide +kernel) (gm 128 (by decide +kernel) rfl))))
       (sd_br
        (sd_lf (sd_putr (q := (RX7, TX7, 16)) (by decide +kernel : decode prog_9_method_1_code 19 = .ok (.putfield 13, 3)) rfl (by decide +kernel) (gm 914 (by decide +kernel) rfl) (Or.inr ⟨_, rfl⟩) rfl (Or.inr ⟨rfl, rfl, rfl⟩)))
        (sd_lf (sd_aload_n (k := 0) (by decide +kernel : decode prog_9_method_1_code 22 = .ok (.aload_n 0, 1))))))
      (sd_br
       (sd_br
        (sd_lf (sd_sipush (by decide +kernel : decode prog_9_method_1_code 23 = .ok (.sipush 2096, 3)) (by decide +kernel)))
        (sd_lf (sd_newa (ty := .int) (by decide +kernel : decode prog_9_method_1_code 26 = .ok (.newarray .int, 2)) rfl rfl (fun _ _ z => z) rfl (by decide +kernel) (gm 128 (by decide +kernel) rfl))))
       (sd_br
        (sd_lf (sd_putr (q := (RX7, TX7, 16)) (by decide +kernel : decode prog_9_method_1_code 28 = .ok (.putfield 16, 3)) rfl (by decide +kernel) (gm 916 (by decide +kernel) rfl) (Or.inr ⟨_, rfl⟩) rfl (Or.inr ⟨rfl, rfl, rfl⟩)))
        (sd_lf (sd_aload_n (k := 0) (by decide +kernel : decode prog_9_method_1_code 31 = .ok (.aload_n 0, 1))))))))
    (sd_br
     (sd_br
      (sd_br
       (sd_br
        (sd_lf (sd_bipush (by decide +kernel : decode prog_9_method_1_code 32 = .ok (.bipush 40, 2)) (by decide +kernel)))
        (sd_lf (sd_newa (ty := .int) (by decide +kernel : decode prog_9_method_1_code 34 = .ok (.newarray .int, 2)) rfl rfl (fun _ _ z => z) rfl (by decide +kernel) (gm 128 (by decide +kernel) rfl))))
       (sd_br
        (sd_lf (sd_putr (q := (RX7, TX7, 16)) (by decide +kernel : decode prog_9_method_1_code 36 = .ok (.putfield 19, 3)) rfl (by decide +kernel) (gm 918 (by decide +kernel) rfl) (Or.inr ⟨_, rfl⟩) rfl (Or.inr ⟨rfl, rfl, rfl⟩)))
        (sd_lf (sd_aload_n (k := 0) (by decide +kernel : decode prog_9_method_1_code 39 = .ok (.aload_n 0, 1))))))
      (sd_br
       (sd_br
        (sd_lf (sd_iconst (by decide +kernel : decode prog_9_method_1_code 40 = .ok (.iconst 2, 1)) (by decide +kernel)))
        (sd_lf (sd_newa (ty := .int) (by decide +kernel : decode prog_9_method_1_code 41 = .ok (.newarray .int, 2)) rfl rfl (fun _ _ z => z) rfl (by decide +kernel) (gm 128 (by decide +kernel) rfl))))
       (sd_br
        (sd_lf (sd_putr (q := (RX7, TX7, 16)) (by decide +kernel : decode prog_9_method_1_code 43 = .ok (.putfield 22, 3)) rfl (by decide +kernel) (gm 924 (by decide +kernel) rfl) (Or.inr ⟨_, rfl⟩) rfl (Or.inr ⟨rfl, rfl, rfl⟩)))
        (sd_lf (sd_aload_n (k := 0) (by decide +kernel : decode prog_9_method_1_code 46 = .ok (.aload_n 0, 1)))))))
     (sd_br
      (sd_br
       (sd_br
        (sd_lf (sd_iconst (by decide +kernel : decode prog_9_method_1_code 47 = .ok (.iconst 2, 1)) (by decide +kernel)))
        (sd_lf (sd_newa (ty := .int) (by decide +kernel : decode prog_9_method_1_code 48 = .ok (.newarray .int, 2)) rfl rfl (fun _ _ z => z) rfl (by decide +kernel) (gm 128 (by decide +kernel) rfl))))
       (sd_br
        (sd_lf (sd_putr (q := (RX7, TX7, 16)) (by decide +kernel : decode prog_9_method_1_code 50 = .ok (.putfield 25, 3)) rfl (by decide +kernel) (gm 925 (by decide +kernel) rfl) (Or.inr ⟨_, rfl⟩) rfl (Or.inr ⟨rfl, rfl, rfl⟩)))
        (sd_lf (sd_aload_n (k := 0) (by decide +kernel : decode prog_9_method_1_code 53 = .ok (.aload_n 0, 1))))))
      (sd_br
       (sd_br
        (sd_lf (sd_iconst (by decide +kernel : decode prog_9_method_1_code 54 = .ok (.iconst 2, 1)) (by decide +kernel)))
        (sd_lf (sd_newa (ty := .boolean) (by decide +kernel : decode prog_9_method_1_code 55 = .ok (.newarray .boolean, 2)) rfl rfl (fun _ _ z => z) rfl (by decide +kernel) (gm 961 (by decide +kernel) rfl))))
       (sd_br
        (sd_lf (sd_putr (q := (RX7, TX7, 16)) (by decide +kernel : decode prog_9_method_1_code 57 = .ok (.putfield 28, 3)) rfl (by decide +kernel) (gm 926 (by decide +kernel) rfl) (Or.inr ⟨_, rfl⟩) rfl (Or.inr ⟨rfl, rfl, rfl⟩)))
        (sd_lf (sd_vret (by decide +kernel : decode prog_9_method_1_code 60 = .ok (.return_, 1)) rfl)))))))
theorem hL_sL (h : AH) (a k : Nat) (x : Int64) : hL (sL h a k x) a k = x := by simp [hL, sL, u2]
theorem sL_sL (h : AH) (a k : Nat) (x y : Int64) : sL (sL h a k x) a k y = sL h a k y := by
  unfold sL
  refine congrArg (fun q => (h.1, h.2.1, h.2.2.1, h.2.2.2.1, h.2.2.2.2.1, q)) ?_
  funext b j
  by_cases e : b = a ∧ j = k <;> simp [u2, e]
theorem hI_sL (h : AH) (a k : Nat) (x : Int64) : hI (sL h a k x) = hI h := rfl
theorem hR_sL (h : AH) (a k : Nat) (x : Int64) : hR (sL h a k x) = hR h := rfl
theorem tg_sL (h : AH) (a k : Nat) (x : Int64) (b : Nat) : tg (sL h a k x) b = tg h b := rfl
theorem ln_sL (h : AH) (a k : Nat) (x : Int64) (b : Nat) : ln (sL h a k x) b = ln h b := rfl
/-- the first n of f mixed in -/
def fld (f : Nat → Int32) : Nat → Int64 → Int64
  | 0, x => x
  | n + 1, x => lN 31 * fld f n x + (f n).toInt64
/-- the first n nodes mixed in -/
noncomputable def dgN (z : Nat → Int32) : Nat → Int64 → Int64
  | 0, x => x
  | n + 1, x => if z (16 + 16 * n) = nI 1 then fld (fun k => mpZ z n (k / 7) (k % 7)) (7 * own z n) (fld (tpZ z n) 9 (fld (npZ z n) 7 (dgN z n x))) else fld (npZ z n) 7 (dgN z n x)
section
variable {l : Launch} {G : Gc}
theorem c_Mo_mix (a : Nat) (v : Int64) (h : AH) (Q : Po) (h1 : tg h a = 7) (hQ : Q (.inl none) (sL h a 15 (lN 31 * hL h a 15 + v))) : Call l G M_Mo_mix [.ref a, .long v] h Q := by
  refine call_of rfl rfl (Nat.le_of_ble_eq_true rfl) ?_
  (obtain ⟨W9, hW9, hgo9⟩ := wp_ex (T_Mo_mix l G) [] _; refine hgo9 200 _ _ _ _ ?_; simp -implicitDefEqProofs (disch := omega) only [hW9, inl, gate, Xq, tz_const, tz_iload, tz_lload, tz_dload, tz_aload, tz_istore, tz_astore, tz_lstore, tz_dstore, tz_iinc, tz_i1, tz_i2, tz_i2z, tz_l2, tz_l2z, tz_i2l, tz_l2i, tz_lcmp, tz_i2d, tz_d2, tz_dcmp, tz_dup, tz_dup2, tz_pop, tz_if, tz_icmp, tz_null, tz_goto, tz_sw, tz_getf, tz_puti, tz_putz, tz_putr, tz_putl, tz_iaload, tz_baload, tz_laload, tz_aaload, tz_iastore, tz_bastore, tz_lastore, tz_aastore, tz_alen, tz_new, tz_newa, tz_oinit, tz_iret, tz_zret, tz_lret, tz_dret, tz_aret, tz_vret, tz_throw, tz_callS, tz_callV, tz_callI, tz_callR, tz_pureS, tz_pureV, tz_callVH, lg, lset, lkill, lst1, lst2, entL, isRf, is1, vl, va_rf_none, va_rf_some, isRf_rf, is1_rf, i0, i1, bI_eq0, bI_eq1, nm_em, nI_eqP, nI_leP, nI_ltP, nN_e1, nN_e2, nN_l1, nN_l2, nN_l3, nN_l4, nI_add, pk_mul, vp_inN, nI_cl, n01, n10, P_i, P_ii, P_iii, f_Mo_at, f_Mo_map, f_Mo_contact, f_Mo_within, f_Mo_isPort, f_Hp_endpoint, f_Hp_nodeOf, f_Hp_portOf, f_Ma_max, f_Ma_min, f_Hp_isSetting, popN, rok, a1, noX, swc, mL, if_true, if_false, ↓reduceIte, cond_true, cond_false, true_and, and_true, List.length_cons, List.length_nil, List.nil_append, List.cons_append, List.append_nil, Option.toList, Nat.reduceEqDiff, Bool.false_eq_true, reduceCtorEq, Nat.reduceAdd, Nat.reduceLT, Nat.reduceLeDiff, Nat.reduceSub, List.replicate, Nat.zero_add, Nat.lt_add_one, Nat.le_refl, Nat.zero_le, Nat.succ_ne_zero, not_false_eq_true, not_true_eq_false, false_implies, true_implies, forall_const, imp_self, true_or, or_true, eq_self, sI_zw, zw_zw, hI_zw, tg_zw, ln_zw, hR_zw, hL_zw, hN_zw, hM_zw, upd_s, upd_u, upd_ne, Classical.not_not, k_Mo_mix, h1]; try clear hgo9 hW9)
  exact hQ
theorem lp_mt1 {a zr t : Nat} {h : AH} {Q : Po} {x : Int64} (hm : MoS h a zr) (ht : t < 10) (hQ : AWp l G M_Mo_mixTranslator 25 [some (.ref a), some (.int (nI t)), some (.int (nI 9))] [] (sL h a 15 (fld (tpZ (hI h zr) t) 9 x)) Q) : ∀ (d i : Nat), i + d = 9 → AWp l G M_Mo_mixTranslator 2 [some (.ref a), some (.int (nI t)), some (.int (nI i))] [] (sL h a 15 (fld (tpZ (hI h zr) t) i x)) Q := by
  obtain ⟨h1, h2, h3, h4⟩ := id hm
  have hzF : ∀ y, zF (sL h a 15 y) a = hI h zr := fun y => hm.zF
  have hcl2 : (nI t).toNatClampNeg = t := nI_clamp (by omega)
  intro d
  induction d with
  | zero =>
    intro i e
    have ei : i = 9 := by omega
    subst ei
    (obtain ⟨W9, hW9, hgo9⟩ := wp_ex (T_Mo_mixTranslator l G) [2, 25] _; refine hgo9 200 _ _ _ _ ?_; simp -implicitDefEqProofs (disch := omega) only [hW9, inl, gate, Xq, tz_const, tz_iload, tz_lload, tz_dload, tz_aload, tz_istore, tz_astore, tz_lstore, tz_dstore, tz_iinc, tz_i1, tz_i2, tz_i2z, tz_l2, tz_l2z, tz_i2l, tz_l2i, tz_lcmp, tz_i2d, tz_d2, tz_dcmp, tz_dup, tz_dup2, tz_pop, tz_if, tz_icmp, tz_null, tz_goto, tz_sw, tz_getf, tz_puti, tz_putz, tz_putr, tz_putl, tz_iaload, tz_baload, tz_laload, tz_aaload, tz_iastore, tz_bastore, tz_lastore, tz_aastore, tz_alen, tz_new, tz_newa, tz_oinit, tz_iret, tz_zret, tz_lret, tz_dret, tz_aret, tz_vret, tz_throw, tz_callS, tz_callV, tz_callI, tz_callR, tz_pureS, tz_pureV, tz_callVH, lg, lset, lkill, lst1, lst2, entL, isRf, is1, vl, va_rf_none, va_rf_some, isRf_rf, is1_rf, i0, i1, bI_eq0, bI_eq1, nm_em, nI_eqP, nI_leP, nI_ltP, nN_e1, nN_e2, nN_l1, nN_l2, nN_l3, nN_l4, nI_add, pk_mul, vp_inN, nI_cl, n01, n10, P_i, P_ii, P_iii, f_Mo_at, f_Mo_map, f_Mo_contact, f_Mo_within, f_Mo_isPort, f_Hp_endpoint, f_Hp_nodeOf, f_Hp_portOf, f_Ma_max, f_Ma_min, f_Hp_isSetting, popN, rok, a1, noX, swc, mL, if_true, if_false, ↓reduceIte, cond_true, cond_false, true_and, and_true, List.length_cons, List.length_nil, List.nil_append, List.cons_append, List.append_nil, Option.toList, Nat.reduceEqDiff, Bool.false_eq_true, reduceCtorEq, Nat.reduceAdd, Nat.reduceLT, Nat.reduceLeDiff, Nat.reduceSub, List.replicate, Nat.zero_add, Nat.lt_add_one, Nat.le_refl, Nat.zero_le, Nat.succ_ne_zero, not_false_eq_true, not_true_eq_false, false_implies, true_implies, forall_const, imp_self, true_or, or_true, eq_self, sI_zw, zw_zw, hI_zw, tg_zw, ln_zw, hR_zw, hL_zw, hN_zw, hM_zw, upd_s, upd_u, upd_ne, Classical.not_not, k_Mo_mixTranslator, h1]; try clear hgo9 hW9)
    exact hQ
  | succ d ih =>
    intro i e
    have hn : ¬ 9 ≤ i := by omega
    have hP : ∀ y, P_Mo_translatorNow [.ref a, .int (nI t), .int (nI i)] (sL h a 15 y) := fun y => ⟨zr, t, i, hm, rfl, ht, rfl, by omega⟩
    have hcl : (nI i).toNatClampNeg = i := nI_clamp (by omega)
    ((obtain ⟨W9, hW9, hgo9⟩ := wp_ex (T_Mo_mixTranslator l G) [2, 25] _; refine hgo9 200 _ _ _ _ ?_; simp -implicitDefEqProofs (disch := omega) only [hW9, inl, gate, Xq, tz_const, tz_iload, tz_lload, tz_dload, tz_aload, tz_istore, tz_astore, tz_lstore, tz_dstore, tz_iinc, tz_i1, tz_i2, tz_i2z, tz_l2, tz_l2z, tz_i2l, tz_l2i, tz_lcmp, tz_i2d, tz_d2, tz_dcmp, tz_dup, tz_dup2, tz_pop, tz_if, tz_icmp, tz_null, tz_goto, tz_sw, tz_getf, tz_puti, tz_putz, tz_putr, tz_putl, tz_iaload, tz_baload, tz_laload, tz_aaload, tz_iastore, tz_bastore, tz_lastore, tz_aastore, tz_alen, tz_new, tz_newa, tz_oinit, tz_iret, tz_zret, tz_lret, tz_dret, tz_aret, tz_vret, tz_throw, tz_callS, tz_callV, tz_callI, tz_callR, tz_pureS, tz_pureV, tz_callVH, lg, lset, lkill, lst1, lst2, entL, isRf, is1, vl, va_rf_none, va_rf_some, isRf_rf, is1_rf, i0, i1, bI_eq0, bI_eq1, nm_em, nI_eqP, nI_leP, nI_ltP, nN_e1, nN_e2, nN_l1, nN_l2, nN_l3, nN_l4, nI_add, pk_mul, vp_inN, nI_cl, n01, n10, P_i, P_ii, P_iii, f_Mo_at, f_Mo_map, f_Mo_contact, f_Mo_within, f_Mo_isPort, f_Hp_endpoint, f_Hp_nodeOf, f_Hp_portOf, f_Ma_max, f_Ma_min, f_Hp_isSetting, popN, rok, a1, noX, swc, mL, if_true, if_false, ↓reduceIte, cond_true, cond_false, true_and, and_true, List.length_cons, List.length_nil, List.nil_append, List.cons_append, List.append_nil, Option.toList, Nat.reduceEqDiff, Bool.false_eq_true, reduceCtorEq, Nat.reduceAdd, Nat.reduceLT, Nat.reduceLeDiff, Nat.reduceSub, List.replicate, Nat.zero_add, Nat.lt_add_one, Nat.le_refl, Nat.zero_le, Nat.succ_ne_zero, not_false_eq_true, not_true_eq_false, false_implies, true_implies, forall_const, imp_self, true_or, or_true, eq_self, sI_zw, zw_zw, hI_zw, tg_zw, ln_zw, hR_zw, hL_zw, hN_zw, hM_zw, upd_s, upd_u, upd_ne, Classical.not_not, k_Mo_mixTranslator, h1, tg_sL, hP, f_Mo_translatorNow, hzF, hcl, hcl2, hn]; try clear hgo9 hW9); try (obtain ⟨W9, hW9, hgo9⟩ := wp_ex (T_Mo_mixTranslator l G) [2, 25] _; refine hgo9 200 _ _ _ _ ?_; simp -implicitDefEqProofs (disch := omega) only [hW9, inl, gate, Xq, tz_const, tz_iload, tz_lload, tz_dload, tz_aload, tz_istore, tz_astore, tz_lstore, tz_dstore, tz_iinc, tz_i1, tz_i2, tz_i2z, tz_l2, tz_l2z, tz_i2l, tz_l2i, tz_lcmp, tz_i2d, tz_d2, tz_dcmp, tz_dup, tz_dup2, tz_pop, tz_if, tz_icmp, tz_null, tz_goto, tz_sw, tz_getf, tz_puti, tz_putz, tz_putr, tz_putl, tz_iaload, tz_baload, tz_laload, tz_aaload, tz_iastore, tz_bastore, tz_lastore, tz_aastore, tz_alen, tz_new, tz_newa, tz_oinit, tz_iret, tz_zret, tz_lret, tz_dret, tz_aret, tz_vret, tz_throw, tz_callS, tz_callV, tz_callI, tz_callR, tz_pureS, tz_pureV, tz_callVH, lg, lset, lkill, lst1, lst2, entL, isRf, is1, vl, va_rf_none, va_rf_some, isRf_rf, is1_rf, i0, i1, bI_eq0, bI_eq1, nm_em, nI_eqP, nI_leP, nI_ltP, nN_e1, nN_e2, nN_l1, nN_l2, nN_l3, nN_l4, nI_add, pk_mul, vp_inN, nI_cl, n01, n10, P_i, P_ii, P_iii, f_Mo_at, f_Mo_map, f_Mo_contact, f_Mo_within, f_Mo_isPort, f_Hp_endpoint, f_Hp_nodeOf, f_Hp_portOf, f_Ma_max, f_Ma_min, f_Hp_isSetting, popN, rok, a1, noX, swc, mL, if_true, if_false, ↓reduceIte, cond_true, cond_false, true_and, and_true, List.length_cons, List.length_nil, List.nil_append, List.cons_append, List.append_nil, Option.toList, Nat.reduceEqDiff, Bool.false_eq_true, reduceCtorEq, Nat.reduceAdd, Nat.reduceLT, Nat.reduceLeDiff, Nat.reduceSub, List.replicate, Nat.zero_add, Nat.lt_add_one, Nat.le_refl, Nat.zero_le, Nat.succ_ne_zero, not_false_eq_true, not_true_eq_false, false_implies, true_implies, forall_const, imp_self, true_or, or_true, eq_self, sI_zw, zw_zw, hI_zw, tg_zw, ln_zw, hR_zw, hL_zw, hN_zw, hM_zw, upd_s, upd_u, upd_ne, Classical.not_not, k_Mo_mixTranslator, h1, tg_sL, hP, f_Mo_translatorNow, hzF, hcl, hcl2, hn]; try clear hgo9 hW9))
    refine c_Mo_mix a _ _ _ h1 ?_
    simp only [aft]
    rw [hL_sL, sL_sL]
    (obtain ⟨W9, hW9, hgo9⟩ := wp_ex (T_Mo_mixTranslator l G) [2, 25] _; refine hgo9 200 _ _ _ _ ?_; simp -implicitDefEqProofs (disch := omega) only [hW9, inl, gate, Xq, tz_const, tz_iload, tz_lload, tz_dload, tz_aload, tz_istore, tz_astore, tz_lstore, tz_dstore, tz_iinc, tz_i1, tz_i2, tz_i2z, tz_l2, tz_l2z, tz_i2l, tz_l2i, tz_lcmp, tz_i2d, tz_d2, tz_dcmp, tz_dup, tz_dup2, tz_pop, tz_if, tz_icmp, tz_null, tz_goto, tz_sw, tz_getf, tz_puti, tz_putz, tz_putr, tz_putl, tz_iaload, tz_baload, tz_laload, tz_aaload, tz_iastore, tz_bastore, tz_lastore, tz_aastore, tz_alen, tz_new, tz_newa, tz_oinit, tz_iret, tz_zret, tz_lret, tz_dret, tz_aret, tz_vret, tz_throw, tz_callS, tz_callV, tz_callI, tz_callR, tz_pureS, tz_pureV, tz_callVH, lg, lset, lkill, lst1, lst2, entL, isRf, is1, vl, va_rf_none, va_rf_some, isRf_rf, is1_rf, i0, i1, bI_eq0, bI_eq1, nm_em, nI_eqP, nI_leP, nI_ltP, nN_e1, nN_e2, nN_l1, nN_l2, nN_l3, nN_l4, nI_add, pk_mul, vp_inN, nI_cl, n01, n10, P_i, P_ii, P_iii, f_Mo_at, f_Mo_map, f_Mo_contact, f_Mo_within, f_Mo_isPort, f_Hp_endpoint, f_Hp_nodeOf, f_Hp_portOf, f_Ma_max, f_Ma_min, f_Hp_isSetting, popN, rok, a1, noX, swc, mL, if_true, if_false, ↓reduceIte, cond_true, cond_false, true_and, and_true, List.length_cons, List.length_nil, List.nil_append, List.cons_append, List.append_nil, Option.toList, Nat.reduceEqDiff, Bool.false_eq_true, reduceCtorEq, Nat.reduceAdd, Nat.reduceLT, Nat.reduceLeDiff, Nat.reduceSub, List.replicate, Nat.zero_add, Nat.lt_add_one, Nat.le_refl, Nat.zero_le, Nat.succ_ne_zero, not_false_eq_true, not_true_eq_false, false_implies, true_implies, forall_const, imp_self, true_or, or_true, eq_self, sI_zw, zw_zw, hI_zw, tg_zw, ln_zw, hR_zw, hL_zw, hN_zw, hM_zw, upd_s, upd_u, upd_ne, Classical.not_not, k_Mo_mixTranslator, h1]; try clear hgo9 hW9)
    exact ih (i + 1) (by omega)
theorem lp_mt2 {a zr t : Nat} {h : AH} {Q : Po} {x : Int64} (hm : MoS h a zr) (ht : t < 10) (ho : OwnOK (hI h zr) t) (hQ : Q (.inl none) (sL h a 15 (fld (fun k => mpZ (hI h zr) t (k / 7) (k % 7)) (7 * own (hI h zr) t) x))) : ∀ (d i : Nat), i + d = 7 * own (hI h zr) t → AWp l G M_Mo_mixTranslator 27 [some (.ref a), some (.int (nI t)), some (.int (nI i))] [] (sL h a 15 (fld (fun k => mpZ (hI h zr) t (k / 7) (k % 7)) i x)) Q := by
  obtain ⟨h1, h2, h3, h4⟩ := id hm
  obtain ⟨o1, o2⟩ := ho
  have hzF : ∀ y, zF (sL h a 15 y) a = hI h zr := fun y => hm.zF
  have hcl2 : (nI t).toNatClampNeg = t := nI_clamp (by omega)
  have n7 : (nI 7 = nI 0) = False := by decide
  intro d
  induction d with
  | zero =>
    intro i e
    have ei : i = 7 * own (hI h zr) t := by omega
    subst ei
    ((obtain ⟨W9, hW9, hgo9⟩ := wp_ex (T_Mo_mixTranslator l G) [27] _; refine hgo9 200 _ _ _ _ ?_; simp -implicitDefEqProofs (disch := omega) only [hW9, inl, gate, Xq, tz_const, tz_iload, tz_lload, tz_dload, tz_aload, tz_istore, tz_astore, tz_lstore, tz_dstore, tz_iinc, tz_i1, tz_i2, tz_i2z, tz_l2, tz_l2z, tz_i2l, tz_l2i, tz_lcmp, tz_i2d, tz_d2, tz_dcmp, tz_dup, tz_dup2, tz_pop, tz_if, tz_icmp, tz_null, tz_goto, tz_sw, tz_getf, tz_puti, tz_putz, tz_putr, tz_putl, tz_iaload, tz_baload, tz_laload, tz_aaload, tz_iastore, tz_bastore, tz_lastore, tz_aastore, tz_alen, tz_new, tz_newa, tz_oinit, tz_iret, tz_zret, tz_lret, tz_dret, tz_aret, tz_vret, tz_throw, tz_callS, tz_callV, tz_callI, tz_callR, tz_pureS, tz_pureV, tz_callVH, lg, lset, lkill, lst1, lst2, entL, isRf, is1, vl, va_rf_none, va_rf_some, isRf_rf, is1_rf, i0, i1, bI_eq0, bI_eq1, nm_em, nI_eqP, nI_leP, nI_ltP, nN_e1, nN_e2, nN_l1, nN_l2, nN_l3, nN_l4, nI_add, pk_mul, vp_inN, nI_cl, n01, n10, P_i, P_ii, P_iii, f_Mo_at, f_Mo_map, f_Mo_contact, f_Mo_within, f_Mo_isPort, f_Hp_endpoint, f_Hp_nodeOf, f_Hp_portOf, f_Ma_max, f_Ma_min, f_Hp_isSetting, popN, rok, a1, noX, swc, mL, if_true, if_false, ↓reduceIte, cond_true, cond_false, true_and, and_true, List.length_cons, List.length_nil, List.nil_append, List.cons_append, List.append_nil, Option.toList, Nat.reduceEqDiff, Bool.false_eq_true, reduceCtorEq, Nat.reduceAdd, Nat.reduceLT, Nat.reduceLeDiff, Nat.reduceSub, List.replicate, Nat.zero_add, Nat.lt_add_one, Nat.le_refl, Nat.zero_le, Nat.succ_ne_zero, not_false_eq_true, not_true_eq_false, false_implies, true_implies, forall_const, imp_self, true_or, or_true, eq_self, sI_zw, zw_zw, hI_zw, tg_zw, ln_zw, hR_zw, hL_zw, hN_zw, hM_zw, upd_s, upd_u, upd_ne, Classical.not_not, k_Mo_mixTranslator, h1, h2, h3, h4, tg_sL, ln_sL, hI_sL, hR_sL, o1]; try clear hgo9 hW9); try (obtain ⟨W9, hW9, hgo9⟩ := wp_ex (T_Mo_mixTranslator l G) [27] _; refine hgo9 200 _ _ _ _ ?_; simp -implicitDefEqProofs (disch := omega) only [hW9, inl, gate, Xq, tz_const, tz_iload, tz_lload, tz_dload, tz_aload, tz_istore, tz_astore, tz_lstore, tz_dstore, tz_iinc, tz_i1, tz_i2, tz_i2z, tz_l2, tz_l2z, tz_i2l, tz_l2i, tz_lcmp, tz_i2d, tz_d2, tz_dcmp, tz_dup, tz_dup2, tz_pop, tz_if, tz_icmp, tz_null, tz_goto, tz_sw, tz_getf, tz_puti, tz_putz, tz_putr, tz_putl, tz_iaload, tz_baload, tz_laload, tz_aaload, tz_iastore, tz_bastore, tz_lastore, tz_aastore, tz_alen, tz_new, tz_newa, tz_oinit, tz_iret, tz_zret, tz_lret, tz_dret, tz_aret, tz_vret, tz_throw, tz_callS, tz_callV, tz_callI, tz_callR, tz_pureS, tz_pureV, tz_callVH, lg, lset, lkill, lst1, lst2, entL, isRf, is1, vl, va_rf_none, va_rf_some, isRf_rf, is1_rf, i0, i1, bI_eq0, bI_eq1, nm_em, nI_eqP, nI_leP, nI_ltP, nN_e1, nN_e2, nN_l1, nN_l2, nN_l3, nN_l4, nI_add, pk_mul, vp_inN, nI_cl, n01, n10, P_i, P_ii, P_iii, f_Mo_at, f_Mo_map, f_Mo_contact, f_Mo_within, f_Mo_isPort, f_Hp_endpoint, f_Hp_nodeOf, f_Hp_portOf, f_Ma_max, f_Ma_min, f_Hp_isSetting, popN, rok, a1, noX, swc, mL, if_true, if_false, ↓reduceIte, cond_true, cond_false, true_and, and_true, List.length_cons, List.length_nil, List.nil_append, List.cons_append, List.append_nil, Option.toList, Nat.reduceEqDiff, Bool.false_eq_true, reduceCtorEq, Nat.reduceAdd, Nat.reduceLT, Nat.reduceLeDiff, Nat.reduceSub, List.replicate, Nat.zero_add, Nat.lt_add_one, Nat.le_refl, Nat.zero_le, Nat.succ_ne_zero, not_false_eq_true, not_true_eq_false, false_implies, true_implies, forall_const, imp_self, true_or, or_true, eq_self, sI_zw, zw_zw, hI_zw, tg_zw, ln_zw, hR_zw, hL_zw, hN_zw, hM_zw, upd_s, upd_u, upd_ne, Classical.not_not, k_Mo_mixTranslator, h1, h2, h3, h4, tg_sL, ln_sL, hI_sL, hR_sL, o1]; try clear hgo9 hW9))
    exact hQ
  | succ d ih =>
    intro i e
    have hn : ¬ 7 * own (hI h zr) t ≤ i := by omega
    have hP : ∀ y, P_Mo_mappingNow [.ref a, .int (nI t), .int (nI (i / 7)), .int (nI (i % 7))] (sL h a 15 y) := fun y => ⟨zr, t, i / 7, i % 7, hm, rfl, ht, rfl, by omega, rfl, by omega⟩
    have hcl : (nI (i / 7)).toNatClampNeg = i / 7 := nI_clamp (by omega)
    have hcl3 : (nI (i % 7)).toNatClampNeg = i % 7 := nI_clamp (by omega)
    have ed : nI i / nI 7 = nI (i / 7) := pk_div (by omega) (by omega) (by omega)
    have er : nI i - nI (i / 7) * nI 7 = nI (i % 7) := by rw [← ed]; exact pk_rem (by omega) (by omega) (by omega)
    have er2 : nI i - nI (i / 7 * 7) = nI (i % 7) := by rw [← pk_mul]; exact er
    ((obtain ⟨W9, hW9, hgo9⟩ := wp_ex (T_Mo_mixTranslator l G) [27] _; refine hgo9 200 _ _ _ _ ?_; simp -implicitDefEqProofs (disch := omega) only [hW9, inl, gate, Xq, tz_const, tz_iload, tz_lload, tz_dload, tz_aload, tz_istore, tz_astore, tz_lstore, tz_dstore, tz_iinc, tz_i1, tz_i2, tz_i2z, tz_l2, tz_l2z, tz_i2l, tz_l2i, tz_lcmp, tz_i2d, tz_d2, tz_dcmp, tz_dup, tz_dup2, tz_pop, tz_if, tz_icmp, tz_null, tz_goto, tz_sw, tz_getf, tz_puti, tz_putz, tz_putr, tz_putl, tz_iaload, tz_baload, tz_laload, tz_aaload, tz_iastore, tz_bastore, tz_lastore, tz_aastore, tz_alen, tz_new, tz_newa, tz_oinit, tz_iret, tz_zret, tz_lret, tz_dret, tz_aret, tz_vret, tz_throw, tz_callS, tz_callV, tz_callI, tz_callR, tz_pureS, tz_pureV, tz_callVH, lg, lset, lkill, lst1, lst2, entL, isRf, is1, vl, va_rf_none, va_rf_some, isRf_rf, is1_rf, i0, i1, bI_eq0, bI_eq1, nm_em, nI_eqP, nI_leP, nI_ltP, nN_e1, nN_e2, nN_l1, nN_l2, nN_l3, nN_l4, nI_add, pk_mul, vp_inN, nI_cl, n01, n10, P_i, P_ii, P_iii, f_Mo_at, f_Mo_map, f_Mo_contact, f_Mo_within, f_Mo_isPort, f_Hp_endpoint, f_Hp_nodeOf, f_Hp_portOf, f_Ma_max, f_Ma_min, f_Hp_isSetting, popN, rok, a1, noX, swc, mL, if_true, if_false, ↓reduceIte, cond_true, cond_false, true_and, and_true, List.length_cons, List.length_nil, List.nil_append, List.cons_append, List.append_nil, Option.toList, Nat.reduceEqDiff, Bool.false_eq_true, reduceCtorEq, Nat.reduceAdd, Nat.reduceLT, Nat.reduceLeDiff, Nat.reduceSub, List.replicate, Nat.zero_add, Nat.lt_add_one, Nat.le_refl, Nat.zero_le, Nat.succ_ne_zero, not_false_eq_true, not_true_eq_false, false_implies, true_implies, forall_const, imp_self, true_or, or_true, eq_self, sI_zw, zw_zw, hI_zw, tg_zw, ln_zw, hR_zw, hL_zw, hN_zw, hM_zw, upd_s, upd_u, upd_ne, Classical.not_not, k_Mo_mixTranslator, h1, h2, h3, h4, tg_sL, ln_sL, hI_sL, hR_sL, o1, hn, n7, ed, er, er2, hP, f_Mo_mappingNow, hzF, hcl, hcl2, hcl3]; try clear hgo9 hW9); try (obtain ⟨W9, hW9, hgo9⟩ := wp_ex (T_Mo_mixTranslator l G) [27] _; refine hgo9 200 _ _ _ _ ?_; simp -implicitDefEqProofs (disch := omega) only [hW9, inl, gate, Xq, tz_const, tz_iload, tz_lload, tz_dload, tz_aload, tz_istore, tz_astore, tz_lstore, tz_dstore, tz_iinc, tz_i1, tz_i2, tz_i2z, tz_l2, tz_l2z, tz_i2l, tz_l2i, tz_lcmp, tz_i2d, tz_d2, tz_dcmp, tz_dup, tz_dup2, tz_pop, tz_if, tz_icmp, tz_null, tz_goto, tz_sw, tz_getf, tz_puti, tz_putz, tz_putr, tz_putl, tz_iaload, tz_baload, tz_laload, tz_aaload, tz_iastore, tz_bastore, tz_lastore, tz_aastore, tz_alen, tz_new, tz_newa, tz_oinit, tz_iret, tz_zret, tz_lret, tz_dret, tz_aret, tz_vret, tz_throw, tz_callS, tz_callV, tz_callI, tz_callR, tz_pureS, tz_pureV, tz_callVH, lg, lset, lkill, lst1, lst2, entL, isRf, is1, vl, va_rf_none, va_rf_some, isRf_rf, is1_rf, i0, i1, bI_eq0, bI_eq1, nm_em, nI_eqP, nI_leP, nI_ltP, nN_e1, nN_e2, nN_l1, nN_l2, nN_l3, nN_l4, nI_add, pk_mul, vp_inN, nI_cl, n01, n10, P_i, P_ii, P_iii, f_Mo_at, f_Mo_map, f_Mo_contact, f_Mo_within, f_Mo_isPort, f_Hp_endpoint, f_Hp_nodeOf, f_Hp_portOf, f_Ma_max, f_Ma_min, f_Hp_isSetting, popN, rok, a1, noX, swc, mL, if_true, if_false, ↓reduceIte, cond_true, cond_false, true_and, and_true, List.length_cons, List.length_nil, List.nil_append, List.cons_append, List.append_nil, Option.toList, Nat.reduceEqDiff, Bool.false_eq_true, reduceCtorEq, Nat.reduceAdd, Nat.reduceLT, Nat.reduceLeDiff, Nat.reduceSub, List.replicate, Nat.zero_add, Nat.lt_add_one, Nat.le_refl, Nat.zero_le, Nat.succ_ne_zero, not_false_eq_true, not_true_eq_false, false_implies, true_implies, forall_const, imp_self, true_or, or_true, eq_self, sI_zw, zw_zw, hI_zw, tg_zw, ln_zw, hR_zw, hL_zw, hN_zw, hM_zw, upd_s, upd_u, upd_ne, Classical.not_not, k_Mo_mixTranslator, h1, h2, h3, h4, tg_sL, ln_sL, hI_sL, hR_sL, o1, hn, n7, ed, er, er2, hP, f_Mo_mappingNow, hzF, hcl, hcl2, hcl3]; try clear hgo9 hW9))
    refine c_Mo_mix a _ _ _ h1 ?_
    simp only [aft]
    rw [hL_sL, sL_sL]
    (obtain ⟨W9, hW9, hgo9⟩ := wp_ex (T_Mo_mixTranslator l G) [27] _; refine hgo9 200 _ _ _ _ ?_; simp -implicitDefEqProofs (disch := omega) only [hW9, inl, gate, Xq, tz_const, tz_iload, tz_lload, tz_dload, tz_aload, tz_istore, tz_astore, tz_lstore, tz_dstore, tz_iinc, tz_i1, tz_i2, tz_i2z, tz_l2, tz_l2z, tz_i2l, tz_l2i, tz_lcmp, tz_i2d, tz_d2, tz_dcmp, tz_dup, tz_dup2, tz_pop, tz_if, tz_icmp, tz_null, tz_goto, tz_sw, tz_getf, tz_puti, tz_putz, tz_putr, tz_putl, tz_iaload, tz_baload, tz_laload, tz_aaload, tz_iastore, tz_bastore, tz_lastore, tz_aastore, tz_alen, tz_new, tz_newa, tz_oinit, tz_iret, tz_zret, tz_lret, tz_dret, tz_aret, tz_vret, tz_throw, tz_callS, tz_callV, tz_callI, tz_callR, tz_pureS, tz_pureV, tz_callVH, lg, lset, lkill, lst1, lst2, entL, isRf, is1, vl, va_rf_none, va_rf_some, isRf_rf, is1_rf, i0, i1, bI_eq0, bI_eq1, nm_em, nI_eqP, nI_leP, nI_ltP, nN_e1, nN_e2, nN_l1, nN_l2, nN_l3, nN_l4, nI_add, pk_mul, vp_inN, nI_cl, n01, n10, P_i, P_ii, P_iii, f_Mo_at, f_Mo_map, f_Mo_contact, f_Mo_within, f_Mo_isPort, f_Hp_endpoint, f_Hp_nodeOf, f_Hp_portOf, f_Ma_max, f_Ma_min, f_Hp_isSetting, popN, rok, a1, noX, swc, mL, if_true, if_false, ↓reduceIte, cond_true, cond_false, true_and, and_true, List.length_cons, List.length_nil, List.nil_append, List.cons_append, List.append_nil, Option.toList, Nat.reduceEqDiff, Bool.false_eq_true, reduceCtorEq, Nat.reduceAdd, Nat.reduceLT, Nat.reduceLeDiff, Nat.reduceSub, List.replicate, Nat.zero_add, Nat.lt_add_one, Nat.le_refl, Nat.zero_le, Nat.succ_ne_zero, not_false_eq_true, not_true_eq_false, false_implies, true_implies, forall_const, imp_self, true_or, or_true, eq_self, sI_zw, zw_zw, hI_zw, tg_zw, ln_zw, hR_zw, hL_zw, hN_zw, hM_zw, upd_s, upd_u, upd_ne, Classical.not_not, k_Mo_mixTranslator, h1]; try clear hgo9 hW9)
    exact ih (i + 1) (by omega)
theorem c_Mo_mixTranslator (a zr t : Nat) (x : Int64) (h : AH) (Q : Po) (hm : MoS h a zr) (ht : t < 10) (ho : OwnOK (hI h zr) t) (hQ : Q (.inl none) (sL h a 15 (fld (fun k => mpZ (hI h zr) t (k / 7) (k % 7)) (7 * own (hI h zr) t) (fld (tpZ (hI h zr) t) 9 x)))) : Call l G M_Mo_mixTranslator [.ref a, .int (nI t)] (sL h a 15 x) Q := by
  refine call_of rfl rfl (Nat.le_of_ble_eq_true rfl) ?_
  (obtain ⟨W9, hW9, hgo9⟩ := wp_ex (T_Mo_mixTranslator l G) [2, 25] _; refine hgo9 200 _ _ _ _ ?_; simp -implicitDefEqProofs (disch := omega) only [hW9, inl, gate, Xq, tz_const, tz_iload, tz_lload, tz_dload, tz_aload, tz_istore, tz_astore, tz_lstore, tz_dstore, tz_iinc, tz_i1, tz_i2, tz_i2z, tz_l2, tz_l2z, tz_i2l, tz_l2i, tz_lcmp, tz_i2d, tz_d2, tz_dcmp, tz_dup, tz_dup2, tz_pop, tz_if, tz_icmp, tz_null, tz_goto, tz_sw, tz_getf, tz_puti, tz_putz, tz_putr, tz_putl, tz_iaload, tz_baload, tz_laload, tz_aaload, tz_iastore, tz_bastore, tz_lastore, tz_aastore, tz_alen, tz_new, tz_newa, tz_oinit, tz_iret, tz_zret, tz_lret, tz_dret, tz_aret, tz_vret, tz_throw, tz_callS, tz_callV, tz_callI, tz_callR, tz_pureS, tz_pureV, tz_callVH, lg, lset, lkill, lst1, lst2, entL, isRf, is1, vl, va_rf_none, va_rf_some, isRf_rf, is1_rf, i0, i1, bI_eq0, bI_eq1, nm_em, nI_eqP, nI_leP, nI_ltP, nN_e1, nN_e2, nN_l1, nN_l2, nN_l3, nN_l4, nI_add, pk_mul, vp_inN, nI_cl, n01, n10, P_i, P_ii, P_iii, f_Mo_at, f_Mo_map, f_Mo_contact, f_Mo_within, f_Mo_isPort, f_Hp_endpoint, f_Hp_nodeOf, f_Hp_portOf, f_Ma_max, f_Ma_min, f_Hp_isSetting, popN, rok, a1, noX, swc, mL, if_true, if_false, ↓reduceIte, cond_true, cond_false, true_and, and_true, List.length_cons, List.length_nil, List.nil_append, List.cons_append, List.append_nil, Option.toList, Nat.reduceEqDiff, Bool.false_eq_true, reduceCtorEq, Nat.reduceAdd, Nat.reduceLT, Nat.reduceLeDiff, Nat.reduceSub, List.replicate, Nat.zero_add, Nat.lt_add_one, Nat.le_refl, Nat.zero_le, Nat.succ_ne_zero, not_false_eq_true, not_true_eq_false, false_implies, true_implies, forall_const, imp_self, true_or, or_true, eq_self, sI_zw, zw_zw, hI_zw, tg_zw, ln_zw, hR_zw, hL_zw, hN_zw, hM_zw, upd_s, upd_u, upd_ne, Classical.not_not, k_Mo_mixTranslator, hm.1]; try clear hgo9 hW9)
  refine lp_mt1 (x := x) hm ht ?_ 9 0 rfl
  (obtain ⟨W9, hW9, hgo9⟩ := wp_ex (T_Mo_mixTranslator l G) [27] _; refine hgo9 200 _ _ _ _ ?_; simp -implicitDefEqProofs (disch := omega) only [hW9, inl, gate, Xq, tz_const, tz_iload, tz_lload, tz_dload, tz_aload, tz_istore, tz_astore, tz_lstore, tz_dstore, tz_iinc, tz_i1, tz_i2, tz_i2z, tz_l2, tz_l2z, tz_i2l, tz_l2i, tz_lcmp, tz_i2d, tz_d2, tz_dcmp, tz_dup, tz_dup2, tz_pop, tz_if, tz_icmp, tz_null, tz_goto, tz_sw, tz_getf, tz_puti, tz_putz, tz_putr, tz_putl, tz_iaload, tz_baload, tz_laload, tz_aaload, tz_iastore, tz_bastore, tz_lastore, tz_aastore, tz_alen, tz_new, tz_newa, tz_oinit, tz_iret, tz_zret, tz_lret, tz_dret, tz_aret, tz_vret, tz_throw, tz_callS, tz_callV, tz_callI, tz_callR, tz_pureS, tz_pureV, tz_callVH, lg, lset, lkill, lst1, lst2, entL, isRf, is1, vl, va_rf_none, va_rf_some, isRf_rf, is1_rf, i0, i1, bI_eq0, bI_eq1, nm_em, nI_eqP, nI_leP, nI_ltP, nN_e1, nN_e2, nN_l1, nN_l2, nN_l3, nN_l4, nI_add, pk_mul, vp_inN, nI_cl, n01, n10, P_i, P_ii, P_iii, f_Mo_at, f_Mo_map, f_Mo_contact, f_Mo_within, f_Mo_isPort, f_Hp_endpoint, f_Hp_nodeOf, f_Hp_portOf, f_Ma_max, f_Ma_min, f_Hp_isSetting, popN, rok, a1, noX, swc, mL, if_true, if_false, ↓reduceIte, cond_true, cond_false, true_and, and_true, List.length_cons, List.length_nil, List.nil_append, List.cons_append, List.append_nil, Option.toList, Nat.reduceEqDiff, Bool.false_eq_true, reduceCtorEq, Nat.reduceAdd, Nat.reduceLT, Nat.reduceLeDiff, Nat.reduceSub, List.replicate, Nat.zero_add, Nat.lt_add_one, Nat.le_refl, Nat.zero_le, Nat.succ_ne_zero, not_false_eq_true, not_true_eq_false, false_implies, true_implies, forall_const, imp_self, true_or, or_true, eq_self, sI_zw, zw_zw, hI_zw, tg_zw, ln_zw, hR_zw, hL_zw, hN_zw, hM_zw, upd_s, upd_u, upd_ne, Classical.not_not, k_Mo_mixTranslator, hm.1]; try clear hgo9 hW9)
  exact lp_mt2 hm ht ho hQ (7 * own (hI h zr) t) 0 (by omega)
theorem lp_dg1 {a zr : Nat} {v : Option Value} {h : AH} {Q : Po} {x : Int64} (hm : MoS h a zr) (hz : Z10 (hI h zr)) (hQ : AWp l G M_Mo_digest 36 [some (.ref a), some (.int (nI 12)), v] [] (sL h a 15 (fld (ctZ (hI h zr) (hI h a 3)) 12 x)) Q) : ∀ (d i : Nat), i + d = 12 → AWp l G M_Mo_digest 14 [some (.ref a), some (.int (nI i)), v] [] (sL h a 15 (fld (ctZ (hI h zr) (hI h a 3)) i x)) Q := by
  obtain ⟨h1, h2, h3, h4⟩ := id hm
  have hzF : ∀ y, zF (sL h a 15 y) a = hI h zr := fun y => hm.zF
  intro d
  induction d with
  | zero =>
    intro i e
    have ei : i = 12 := by omega
    subst ei
    (obtain ⟨W9, hW9, hgo9⟩ := wp_ex (T_Mo_digest l G) [14, 36] _; refine hgo9 200 _ _ _ _ ?_; simp -implicitDefEqProofs (disch := omega) only [hW9, inl, gate, Xq, tz_const, tz_iload, tz_lload, tz_dload, tz_aload, tz_istore, tz_astore, tz_lstore, tz_dstore, tz_iinc, tz_i1, tz_i2, tz_i2z, tz_l2, tz_l2z, tz_i2l, tz_l2i, tz_lcmp, tz_i2d, tz_d2, tz_dcmp, tz_dup, tz_dup2, tz_pop, tz_if, tz_icmp, tz_null, tz_goto, tz_sw, tz_getf, tz_puti, tz_putz, tz_putr, tz_putl, tz_iaload, tz_baload, tz_laload, tz_aaload, tz_iastore, tz_bastore, tz_lastore, tz_aastore, tz_alen, tz_new, tz_newa, tz_oinit, tz_iret, tz_zret, tz_lret, tz_dret, tz_aret, tz_vret, tz_throw, tz_callS, tz_callV, tz_callI, tz_callR, tz_pureS, tz_pureV, tz_callVH, lg, lset, lkill, lst1, lst2, entL, isRf, is1, vl, va_rf_none, va_rf_some, isRf_rf, is1_rf, i0, i1, bI_eq0, bI_eq1, nm_em, nI_eqP, nI_leP, nI_ltP, nN_e1, nN_e2, nN_l1, nN_l2, nN_l3, nN_l4, nI_add, pk_mul, vp_inN, nI_cl, n01, n10, P_i, P_ii, P_iii, f_Mo_at, f_Mo_map, f_Mo_contact, f_Mo_within, f_Mo_isPort, f_Hp_endpoint, f_Hp_nodeOf, f_Hp_portOf, f_Ma_max, f_Ma_min, f_Hp_isSetting, popN, rok, a1, noX, swc, mL, if_true, if_false, ↓reduceIte, cond_true, cond_false, true_and, and_true, List.length_cons, List.length_nil, List.nil_append, List.cons_append, List.append_nil, Option.toList, Nat.reduceEqDiff, Bool.false_eq_true, reduceCtorEq, Nat.reduceAdd, Nat.reduceLT, Nat.reduceLeDiff, Nat.reduceSub, List.replicate, Nat.zero_add, Nat.lt_add_one, Nat.le_refl, Nat.zero_le, Nat.succ_ne_zero, not_false_eq_true, not_true_eq_false, false_implies, true_implies, forall_const, imp_self, true_or, or_true, eq_self, sI_zw, zw_zw, hI_zw, tg_zw, ln_zw, hR_zw, hL_zw, hN_zw, hM_zw, upd_s, upd_u, upd_ne, Classical.not_not, k_Mo_digest, h1]; try clear hgo9 hW9)
    exact hQ
  | succ d ih =>
    intro i e
    have hn : ¬ 12 ≤ i := by omega
    have hP : ∀ y, P_Mo_counted [.ref a, .int (nI i)] (sL h a 15 y) := fun y => ⟨⟨zr, hm, hz⟩, i, by omega, rfl⟩
    have hcl : (nI i).toNatClampNeg = i := nI_clamp (by omega)
    ((obtain ⟨W9, hW9, hgo9⟩ := wp_ex (T_Mo_digest l G) [14, 36] _; refine hgo9 200 _ _ _ _ ?_; simp -implicitDefEqProofs (disch := omega) only [hW9, inl, gate, Xq, tz_const, tz_iload, tz_lload, tz_dload, tz_aload, tz_istore, tz_astore, tz_lstore, tz_dstore, tz_iinc, tz_i1, tz_i2, tz_i2z, tz_l2, tz_l2z, tz_i2l, tz_l2i, tz_lcmp, tz_i2d, tz_d2, tz_dcmp, tz_dup, tz_dup2, tz_pop, tz_if, tz_icmp, tz_null, tz_goto, tz_sw, tz_getf, tz_puti, tz_putz, tz_putr, tz_putl, tz_iaload, tz_baload, tz_laload, tz_aaload, tz_iastore, tz_bastore, tz_lastore, tz_aastore, tz_alen, tz_new, tz_newa, tz_oinit, tz_iret, tz_zret, tz_lret, tz_dret, tz_aret, tz_vret, tz_throw, tz_callS, tz_callV, tz_callI, tz_callR, tz_pureS, tz_pureV, tz_callVH, lg, lset, lkill, lst1, lst2, entL, isRf, is1, vl, va_rf_none, va_rf_some, isRf_rf, is1_rf, i0, i1, bI_eq0, bI_eq1, nm_em, nI_eqP, nI_leP, nI_ltP, nN_e1, nN_e2, nN_l1, nN_l2, nN_l3, nN_l4, nI_add, pk_mul, vp_inN, nI_cl, n01, n10, P_i, P_ii, P_iii, f_Mo_at, f_Mo_map, f_Mo_contact, f_Mo_within, f_Mo_isPort, f_Hp_endpoint, f_Hp_nodeOf, f_Hp_portOf, f_Ma_max, f_Ma_min, f_Hp_isSetting, popN, rok, a1, noX, swc, mL, if_true, if_false, ↓reduceIte, cond_true, cond_false, true_and, and_true, List.length_cons, List.length_nil, List.nil_append, List.cons_append, List.append_nil, Option.toList, Nat.reduceEqDiff, Bool.false_eq_true, reduceCtorEq, Nat.reduceAdd, Nat.reduceLT, Nat.reduceLeDiff, Nat.reduceSub, List.replicate, Nat.zero_add, Nat.lt_add_one, Nat.le_refl, Nat.zero_le, Nat.succ_ne_zero, not_false_eq_true, not_true_eq_false, false_implies, true_implies, forall_const, imp_self, true_or, or_true, eq_self, sI_zw, zw_zw, hI_zw, tg_zw, ln_zw, hR_zw, hL_zw, hN_zw, hM_zw, upd_s, upd_u, upd_ne, Classical.not_not, k_Mo_digest, h1, tg_sL, hI_sL, hP, f_Mo_counted, hzF, hcl, hn]; try clear hgo9 hW9); try (obtain ⟨W9, hW9, hgo9⟩ := wp_ex (T_Mo_digest l G) [14, 36] _; refine hgo9 200 _ _ _ _ ?_; simp -implicitDefEqProofs (disch := omega) only [hW9, inl, gate, Xq, tz_const, tz_iload, tz_lload, tz_dload, tz_aload, tz_istore, tz_astore, tz_lstore, tz_dstore, tz_iinc, tz_i1, tz_i2, tz_i2z, tz_l2, tz_l2z, tz_i2l, tz_l2i, tz_lcmp, tz_i2d, tz_d2, tz_dcmp, tz_dup, tz_dup2, tz_pop, tz_if, tz_icmp, tz_null, tz_goto, tz_sw, tz_getf, tz_puti, tz_putz, tz_putr, tz_putl, tz_iaload, tz_baload, tz_laload, tz_aaload, tz_iastore, tz_bastore, tz_lastore, tz_aastore, tz_alen, tz_new, tz_newa, tz_oinit, tz_iret, tz_zret, tz_lret, tz_dret, tz_aret, tz_vret, tz_throw, tz_callS, tz_callV, tz_callI, tz_callR, tz_pureS, tz_pureV, tz_callVH, lg, lset, lkill, lst1, lst2, entL, isRf, is1, vl, va_rf_none, va_rf_some, isRf_rf, is1_rf, i0, i1, bI_eq0, bI_eq1, nm_em, nI_eqP, nI_leP, nI_ltP, nN_e1, nN_e2, nN_l1, nN_l2, nN_l3, nN_l4, nI_add, pk_mul, vp_inN, nI_cl, n01, n10, P_i, P_ii, P_iii, f_Mo_at, f_Mo_map, f_Mo_contact, f_Mo_within, f_Mo_isPort, f_Hp_endpoint, f_Hp_nodeOf, f_Hp_portOf, f_Ma_max, f_Ma_min, f_Hp_isSetting, popN, rok, a1, noX, swc, mL, if_true, if_false, ↓reduceIte, cond_true, cond_false, true_and, and_true, List.length_cons, List.length_nil, List.nil_append, List.cons_append, List.append_nil, Option.toList, Nat.reduceEqDiff, Bool.false_eq_true, reduceCtorEq, Nat.reduceAdd, Nat.reduceLT, Nat.reduceLeDiff, Nat.reduceSub, List.replicate, Nat.zero_add, Nat.lt_add_one, Nat.le_refl, Nat.zero_le, Nat.succ_ne_zero, not_false_eq_true, not_true_eq_false, false_implies, true_implies, forall_const, imp_self, true_or, or_true, eq_self, sI_zw, zw_zw, hI_zw, tg_zw, ln_zw, hR_zw, hL_zw, hN_zw, hM_zw, upd_s, upd_u, upd_ne, Classical.not_not, k_Mo_digest, h1, tg_sL, hI_sL, hP, f_Mo_counted, hzF, hcl, hn]; try clear hgo9 hW9))
    refine c_Mo_mix a _ _ _ h1 ?_
    simp only [aft]
    rw [hL_sL, sL_sL]
    (obtain ⟨W9, hW9, hgo9⟩ := wp_ex (T_Mo_digest l G) [14, 36] _; refine hgo9 200 _ _ _ _ ?_; simp -implicitDefEqProofs (disch := omega) only [hW9, inl, gate, Xq, tz_const, tz_iload, tz_lload, tz_dload, tz_aload, tz_istore, tz_astore, tz_lstore, tz_dstore, tz_iinc, tz_i1, tz_i2, tz_i2z, tz_l2, tz_l2z, tz_i2l, tz_l2i, tz_lcmp, tz_i2d, tz_d2, tz_dcmp, tz_dup, tz_dup2, tz_pop, tz_if, tz_icmp, tz_null, tz_goto, tz_sw, tz_getf, tz_puti, tz_putz, tz_putr, tz_putl, tz_iaload, tz_baload, tz_laload, tz_aaload, tz_iastore, tz_bastore, tz_lastore, tz_aastore, tz_alen, tz_new, tz_newa, tz_oinit, tz_iret, tz_zret, tz_lret, tz_dret, tz_aret, tz_vret, tz_throw, tz_callS, tz_callV, tz_callI, tz_callR, tz_pureS, tz_pureV, tz_callVH, lg, lset, lkill, lst1, lst2, entL, isRf, is1, vl, va_rf_none, va_rf_some, isRf_rf, is1_rf, i0, i1, bI_eq0, bI_eq1, nm_em, nI_eqP, nI_leP, nI_ltP, nN_e1, nN_e2, nN_l1, nN_l2, nN_l3, nN_l4, nI_add, pk_mul, vp_inN, nI_cl, n01, n10, P_i, P_ii, P_iii, f_Mo_at, f_Mo_map, f_Mo_contact, f_Mo_within, f_Mo_isPort, f_Hp_endpoint, f_Hp_nodeOf, f_Hp_portOf, f_Ma_max, f_Ma_min, f_Hp_isSetting, popN, rok, a1, noX, swc, mL, if_true, if_false, ↓reduceIte, cond_true, cond_false, true_and, and_true, List.length_cons, List.length_nil, List.nil_append, List.cons_append, List.append_nil, Option.toList, Nat.reduceEqDiff, Bool.false_eq_true, reduceCtorEq, Nat.reduceAdd, Nat.reduceLT, Nat.reduceLeDiff, Nat.reduceSub, List.replicate, Nat.zero_add, Nat.lt_add_one, Nat.le_refl, Nat.zero_le, Nat.succ_ne_zero, not_false_eq_true, not_true_eq_false, false_implies, true_implies, forall_const, imp_self, true_or, or_true, eq_self, sI_zw, zw_zw, hI_zw, tg_zw, ln_zw, hR_zw, hL_zw, hN_zw, hM_zw, upd_s, upd_u, upd_ne, Classical.not_not, k_Mo_digest, h1]; try clear hgo9 hW9)
    exact ih (i + 1) (by omega)
theorem lp_dg2 {a zr n : Nat} {h : AH} {Q : Po} {x : Int64} (hm : MoS h a zr) (hz : Z10 (hI h zr)) (hne : NetOK (hI h zr)) (hn9 : n < mny (hI h zr)) (hQ : AWp l G M_Mo_digest 73 [some (.ref a), some (.int (nI n)), some (.int (nI 7))] [] (sL h a 15 (fld (npZ (hI h zr) n) 7 x)) Q) : ∀ (d i : Nat), i + d = 7 → AWp l G M_Mo_digest 50 [some (.ref a), some (.int (nI n)), some (.int (nI i))] [] (sL h a 15 (fld (npZ (hI h zr) n) i x)) Q := by
  obtain ⟨h1, h2, h3, h4⟩ := id hm
  have hzF : ∀ y, zF (sL h a 15 y) a = hI h zr := fun y => hm.zF
  have z10 := hz.at.2
  have hcl2 : (nI n).toNatClampNeg = n := nI_clamp (by omega)
  intro d
  induction d with
  | zero =>
    intro i e
    have ei : i = 7 := by omega
    subst ei
    (obtain ⟨W9, hW9, hgo9⟩ := wp_ex (T_Mo_digest l G) [50, 73] _; refine hgo9 200 _ _ _ _ ?_; simp -implicitDefEqProofs (disch := omega) only [hW9, inl, gate, Xq, tz_const, tz_iload, tz_lload, tz_dload, tz_aload, tz_istore, tz_astore, tz_lstore, tz_dstore, tz_iinc, tz_i1, tz_i2, tz_i2z, tz_l2, tz_l2z, tz_i2l, tz_l2i, tz_lcmp, tz_i2d, tz_d2, tz_dcmp, tz_dup, tz_dup2, tz_pop, tz_if, tz_icmp, tz_null, tz_goto, tz_sw, tz_getf, tz_puti, tz_putz, tz_putr, tz_putl, tz_iaload, tz_baload, tz_laload, tz_aaload, tz_iastore, tz_bastore, tz_lastore, tz_aastore, tz_alen, tz_new, tz_newa, tz_oinit, tz_iret, tz_zret, tz_lret, tz_dret, tz_aret, tz_vret, tz_throw, tz_callS, tz_callV, tz_callI, tz_callR, tz_pureS, tz_pureV, tz_callVH, lg, lset, lkill, lst1, lst2, entL, isRf, is1, vl, va_rf_none, va_rf_some, isRf_rf, is1_rf, i0, i1, bI_eq0, bI_eq1, nm_em, nI_eqP, nI_leP, nI_ltP, nN_e1, nN_e2, nN_l1, nN_l2, nN_l3, nN_l4, nI_add, pk_mul, vp_inN, nI_cl, n01, n10, P_i, P_ii, P_iii, f_Mo_at, f_Mo_map, f_Mo_contact, f_Mo_within, f_Mo_isPort, f_Hp_endpoint, f_Hp_nodeOf, f_Hp_portOf, f_Ma_max, f_Ma_min, f_Hp_isSetting, popN, rok, a1, noX, swc, mL, if_true, if_false, ↓reduceIte, cond_true, cond_false, true_and, and_true, List.length_cons, List.length_nil, List.nil_append, List.cons_append, List.append_nil, Option.toList, Nat.reduceEqDiff, Bool.false_eq_true, reduceCtorEq, Nat.reduceAdd, Nat.reduceLT, Nat.reduceLeDiff, Nat.reduceSub, List.replicate, Nat.zero_add, Nat.lt_add_one, Nat.le_refl, Nat.zero_le, Nat.succ_ne_zero, not_false_eq_true, not_true_eq_false, false_implies, true_implies, forall_const, imp_self, true_or, or_true, eq_self, sI_zw, zw_zw, hI_zw, tg_zw, ln_zw, hR_zw, hL_zw, hN_zw, hM_zw, upd_s, upd_u, upd_ne, Classical.not_not, k_Mo_digest, h1]; try clear hgo9 hW9)
    exact hQ
  | succ d ih =>
    intro i e
    have hn : ¬ 7 ≤ i := by omega
    have hP : ∀ y, P_Mo_nodeNow [.ref a, .int (nI n), .int (nI i)] (sL h a 15 y) := fun y => ⟨⟨zr, n, hm, hz, hne, rfl, hn9⟩, i, by omega, rfl⟩
    have hcl : (nI i).toNatClampNeg = i := nI_clamp (by omega)
    ((obtain ⟨W9, hW9, hgo9⟩ := wp_ex (T_Mo_digest l G) [50, 73] _; refine hgo9 200 _ _ _ _ ?_; simp -implicitDefEqProofs (disch := omega) only [hW9, inl, gate, Xq, tz_const, tz_iload, tz_lload, tz_dload, tz_aload, tz_istore, tz_astore, tz_lstore, tz_dstore, tz_iinc, tz_i1, tz_i2, tz_i2z, tz_l2, tz_l2z, tz_i2l, tz_l2i, tz_lcmp, tz_i2d, tz_d2, tz_dcmp, tz_dup, tz_dup2, tz_pop, tz_if, tz_icmp, tz_null, tz_goto, tz_sw, tz_getf, tz_puti, tz_putz, tz_putr, tz_putl, tz_iaload, tz_baload, tz_laload, tz_aaload, tz_iastore, tz_bastore, tz_lastore, tz_aastore, tz_alen, tz_new, tz_newa, tz_oinit, tz_iret, tz_zret, tz_lret, tz_dret, tz_aret, tz_vret, tz_throw, tz_callS, tz_callV, tz_callI, tz_callR, tz_pureS, tz_pureV, tz_callVH, lg, lset, lkill, lst1, lst2, entL, isRf, is1, vl, va_rf_none, va_rf_some, isRf_rf, is1_rf, i0, i1, bI_eq0, bI_eq1, nm_em, nI_eqP, nI_leP, nI_ltP, nN_e1, nN_e2, nN_l1, nN_l2, nN_l3, nN_l4, nI_add, pk_mul, vp_inN, nI_cl, n01, n10, P_i, P_ii, P_iii, f_Mo_at, f_Mo_map, f_Mo_contact, f_Mo_within, f_Mo_isPort, f_Hp_endpoint, f_Hp_nodeOf, f_Hp_portOf, f_Ma_max, f_Ma_min, f_Hp_isSetting, popN, rok, a1, noX, swc, mL, if_true, if_false, ↓reduceIte, cond_true, cond_false, true_and, and_true, List.length_cons, List.length_nil, List.nil_append, List.cons_append, List.append_nil, Option.toList, Nat.reduceEqDiff, Bool.false_eq_true, reduceCtorEq, Nat.reduceAdd, Nat.reduceLT, Nat.reduceLeDiff, Nat.reduceSub, List.replicate, Nat.zero_add, Nat.lt_add_one, Nat.le_refl, Nat.zero_le, Nat.succ_ne_zero, not_false_eq_true, not_true_eq_false, false_implies, true_implies, forall_const, imp_self, true_or, or_true, eq_self, sI_zw, zw_zw, hI_zw, tg_zw, ln_zw, hR_zw, hL_zw, hN_zw, hM_zw, upd_s, upd_u, upd_ne, Classical.not_not, k_Mo_digest, h1, tg_sL, hI_sL, hP, f_Mo_nodeNow, hzF, hcl, hcl2, hn]; try clear hgo9 hW9); try (obtain ⟨W9, hW9, hgo9⟩ := wp_ex (T_Mo_digest l G) [50, 73] _; refine hgo9 200 _ _ _ _ ?_; simp -implicitDefEqProofs (disch := omega) only [hW9, inl, gate, Xq, tz_const, tz_iload, tz_lload, tz_dload, tz_aload, tz_istore, tz_astore, tz_lstore, tz_dstore, tz_iinc, tz_i1, tz_i2, tz_i2z, tz_l2, tz_l2z, tz_i2l, tz_l2i, tz_lcmp, tz_i2d, tz_d2, tz_dcmp, tz_dup, tz_dup2, tz_pop, tz_if, tz_icmp, tz_null, tz_goto, tz_sw, tz_getf, tz_puti, tz_putz, tz_putr, tz_putl, tz_iaload, tz_baload, tz_laload, tz_aaload, tz_iastore, tz_bastore, tz_lastore, tz_aastore, tz_alen, tz_new, tz_newa, tz_oinit, tz_iret, tz_zret, tz_lret, tz_dret, tz_aret, tz_vret, tz_throw, tz_callS, tz_callV, tz_callI, tz_callR, tz_pureS, tz_pureV, tz_callVH, lg, lset, lkill, lst1, lst2, entL, isRf, is1, vl, va_rf_none, va_rf_some, isRf_rf, is1_rf, i0, i1, bI_eq0, bI_eq1, nm_em, nI_eqP, nI_leP, nI_ltP, nN_e1, nN_e2, nN_l1, nN_l2, nN_l3, nN_l4, nI_add, pk_mul, vp_inN, nI_cl, n01, n10, P_i, P_ii, P_iii, f_Mo_at, f_Mo_map, f_Mo_contact, f_Mo_within, f_Mo_isPort, f_Hp_endpoint, f_Hp_nodeOf, f_Hp_portOf, f_Ma_max, f_Ma_min, f_Hp_isSetting, popN, rok, a1, noX, swc, mL, if_true, if_false, ↓reduceIte, cond_true, cond_false, true_and, and_true, List.length_cons, List.length_nil, List.nil_append, List.cons_append, List.append_nil, Option.toList, Nat.reduceEqDiff, Bool.false_eq_true, reduceCtorEq, Nat.reduceAdd, Nat.reduceLT, Nat.reduceLeDiff, Nat.reduceSub, List.replicate, Nat.zero_add, Nat.lt_add_one, Nat.le_refl, Nat.zero_le, Nat.succ_ne_zero, not_false_eq_true, not_true_eq_false, false_implies, true_implies, forall_const, imp_self, true_or, or_true, eq_self, sI_zw, zw_zw, hI_zw, tg_zw, ln_zw, hR_zw, hL_zw, hN_zw, hM_zw, upd_s, upd_u, upd_ne, Classical.not_not, k_Mo_digest, h1, tg_sL, hI_sL, hP, f_Mo_nodeNow, hzF, hcl, hcl2, hn]; try clear hgo9 hW9))
    refine c_Mo_mix a _ _ _ h1 ?_
    simp only [aft]
    rw [hL_sL, sL_sL]
    (obtain ⟨W9, hW9, hgo9⟩ := wp_ex (T_Mo_digest l G) [50, 73] _; refine hgo9 200 _ _ _ _ ?_; simp -implicitDefEqProofs (disch := omega) only [hW9, inl, gate, Xq, tz_const, tz_iload, tz_lload, tz_dload, tz_aload, tz_istore, tz_astore, tz_lstore, tz_dstore, tz_iinc, tz_i1, tz_i2, tz_i2z, tz_l2, tz_l2z, tz_i2l, tz_l2i, tz_lcmp, tz_i2d, tz_d2, tz_dcmp, tz_dup, tz_dup2, tz_pop, tz_if, tz_icmp, tz_null, tz_goto, tz_sw, tz_getf, tz_puti, tz_putz, tz_putr, tz_putl, tz_iaload, tz_baload, tz_laload, tz_aaload, tz_iastore, tz_bastore, tz_lastore, tz_aastore, tz_alen, tz_new, tz_newa, tz_oinit, tz_iret, tz_zret, tz_lret, tz_dret, tz_aret, tz_vret, tz_throw, tz_callS, tz_callV, tz_callI, tz_callR, tz_pureS, tz_pureV, tz_callVH, lg, lset, lkill, lst1, lst2, entL, isRf, is1, vl, va_rf_none, va_rf_some, isRf_rf, is1_rf, i0, i1, bI_eq0, bI_eq1, nm_em, nI_eqP, nI_leP, nI_ltP, nN_e1, nN_e2, nN_l1, nN_l2, nN_l3, nN_l4, nI_add, pk_mul, vp_inN, nI_cl, n01, n10, P_i, P_ii, P_iii, f_Mo_at, f_Mo_map, f_Mo_contact, f_Mo_within, f_Mo_isPort, f_Hp_endpoint, f_Hp_nodeOf, f_Hp_portOf, f_Ma_max, f_Ma_min, f_Hp_isSetting, popN, rok, a1, noX, swc, mL, if_true, if_false, ↓reduceIte, cond_true, cond_false, true_and, and_true, List.length_cons, List.length_nil, List.nil_append, List.cons_append, List.append_nil, Option.toList, Nat.reduceEqDiff, Bool.false_eq_true, reduceCtorEq, Nat.reduceAdd, Nat.reduceLT, Nat.reduceLeDiff, Nat.reduceSub, List.replicate, Nat.zero_add, Nat.lt_add_one, Nat.le_refl, Nat.zero_le, Nat.succ_ne_zero, not_false_eq_true, not_true_eq_false, false_implies, true_implies, forall_const, imp_self, true_or, or_true, eq_self, sI_zw, zw_zw, hI_zw, tg_zw, ln_zw, hR_zw, hL_zw, hN_zw, hM_zw, upd_s, upd_u, upd_ne, Classical.not_not, k_Mo_digest, h1]; try clear hgo9 hW9)
    exact ih (i + 1) (by omega)
theorem lp_dg3 {a zr : Nat} {h : AH} {Q : Po} {x : Int64} (hm : MoS h a zr) (hz : Z10 (hI h zr)) (hne : NetOK (hI h zr)) (ho : OwnAll (hI h zr)) (hQ : ∀ v, AWp l G M_Mo_digest 92 [some (.ref a), some (.int (nI (mny (hI h zr)))), v] [] (sL h a 15 (dgN (hI h zr) (mny (hI h zr)) x)) Q) : ∀ (d i : Nat) (v : Option Value), i + d = mny (hI h zr) → AWp l G M_Mo_digest 38 [some (.ref a), some (.int (nI i)), v] [] (sL h a 15 (dgN (hI h zr) i x)) Q := by
  obtain ⟨h1, h2, h3, h4⟩ := id hm
  obtain ⟨z1, z2⟩ := hz.at
  have hzF : ∀ y, zF (sL h a 15 y) a = hI h zr := fun y => hm.zF
  intro d
  induction d with
  | zero =>
    intro i v e
    have ei : i = mny (hI h zr) := by omega
    subst ei
    (obtain ⟨W9, hW9, hgo9⟩ := wp_ex (T_Mo_digest l G) [38, 92] _; refine hgo9 200 _ _ _ _ ?_; simp -implicitDefEqProofs (disch := omega) only [hW9, inl, gate, Xq, tz_const, tz_iload, tz_lload, tz_dload, tz_aload, tz_istore, tz_astore, tz_lstore, tz_dstore, tz_iinc, tz_i1, tz_i2, tz_i2z, tz_l2, tz_l2z, tz_i2l, tz_l2i, tz_lcmp, tz_i2d, tz_d2, tz_dcmp, tz_dup, tz_dup2, tz_pop, tz_if, tz_icmp, tz_null, tz_goto, tz_sw, tz_getf, tz_puti, tz_putz, tz_putr, tz_putl, tz_iaload, tz_baload, tz_laload, tz_aaload, tz_iastore, tz_bastore, tz_lastore, tz_aastore, tz_alen, tz_new, tz_newa, tz_oinit, tz_iret, tz_zret, tz_lret, tz_dret, tz_aret, tz_vret, tz_throw, tz_callS, tz_callV, tz_callI, tz_callR, tz_pureS, tz_pureV, tz_callVH, lg, lset, lkill, lst1, lst2, entL, isRf, is1, vl, va_rf_none, va_rf_some, isRf_rf, is1_rf, i0, i1, bI_eq0, bI_eq1, nm_em, nI_eqP, nI_leP, nI_ltP, nN_e1, nN_e2, nN_l1, nN_l2, nN_l3, nN_l4, nI_add, pk_mul, vp_inN, nI_cl, n01, n10, P_i, P_ii, P_iii, f_Mo_at, f_Mo_map, f_Mo_contact, f_Mo_within, f_Mo_isPort, f_Hp_endpoint, f_Hp_nodeOf, f_Hp_portOf, f_Ma_max, f_Ma_min, f_Hp_isSetting, popN, rok, a1, noX, swc, mL, if_true, if_false, ↓reduceIte, cond_true, cond_false, true_and, and_true, List.length_cons, List.length_nil, List.nil_append, List.cons_append, List.append_nil, Option.toList, Nat.reduceEqDiff, Bool.false_eq_true, reduceCtorEq, Nat.reduceAdd, Nat.reduceLT, Nat.reduceLeDiff, Nat.reduceSub, List.replicate, Nat.zero_add, Nat.lt_add_one, Nat.le_refl, Nat.zero_le, Nat.succ_ne_zero, not_false_eq_true, not_true_eq_false, false_implies, true_implies, forall_const, imp_self, true_or, or_true, eq_self, sI_zw, zw_zw, hI_zw, tg_zw, ln_zw, hR_zw, hL_zw, hN_zw, hM_zw, upd_s, upd_u, upd_ne, Classical.not_not, k_Mo_digest, h1, h2, h3, h4, tg_sL, ln_sL, hI_sL, hR_sL, z1]; try clear hgo9 hW9)
    exact hQ _
  | succ d ih =>
    intro i v e
    have hn : ¬ mny (hI h zr) ≤ i := by omega
    have hP : ∀ y, P_Mo_isTranslator [.ref a, .int (nI i)] (sL h a 15 y) := fun y => ⟨zr, hm, hz⟩
    ((obtain ⟨W9, hW9, hgo9⟩ := wp_ex (T_Mo_digest l G) [38, 92, 50] _; refine hgo9 200 _ _ _ _ ?_; simp -implicitDefEqProofs (disch := omega) only [hW9, inl, gate, Xq, tz_const, tz_iload, tz_lload, tz_dload, tz_aload, tz_istore, tz_astore, tz_lstore, tz_dstore, tz_iinc, tz_i1, tz_i2, tz_i2z, tz_l2, tz_l2z, tz_i2l, tz_l2i, tz_lcmp, tz_i2d, tz_d2, tz_dcmp, tz_dup, tz_dup2, tz_pop, tz_if, tz_icmp, tz_null, tz_goto, tz_sw, tz_getf, tz_puti, tz_putz, tz_putr, tz_putl, tz_iaload, tz_baload, tz_laload, tz_aaload, tz_iastore, tz_bastore, tz_lastore, tz_aastore, tz_alen, tz_new, tz_newa, tz_oinit, tz_iret, tz_zret, tz_lret, tz_dret, tz_aret, tz_vret, tz_throw, tz_callS, tz_callV, tz_callI, tz_callR, tz_pureS, tz_pureV, tz_callVH, lg, lset, lkill, lst1, lst2, entL, isRf, is1, vl, va_rf_none, va_rf_some, isRf_rf, is1_rf, i0, i1, bI_eq0, bI_eq1, nm_em, nI_eqP, nI_leP, nI_ltP, nN_e1, nN_e2, nN_l1, nN_l2, nN_l3, nN_l4, nI_add, pk_mul, vp_inN, nI_cl, n01, n10, P_i, P_ii, P_iii, f_Mo_at, f_Mo_map, f_Mo_contact, f_Mo_within, f_Mo_isPort, f_Hp_endpoint, f_Hp_nodeOf, f_Hp_portOf, f_Ma_max, f_Ma_min, f_Hp_isSetting, popN, rok, a1, noX, swc, mL, if_true, if_false, ↓reduceIte, cond_true, cond_false, true_and, and_true, List.length_cons, List.length_nil, List.nil_append, List.cons_append, List.append_nil, Option.toList, Nat.reduceEqDiff, Bool.false_eq_true, reduceCtorEq, Nat.reduceAdd, Nat.reduceLT, Nat.reduceLeDiff, Nat.reduceSub, List.replicate, Nat.zero_add, Nat.lt_add_one, Nat.le_refl, Nat.zero_le, Nat.succ_ne_zero, not_false_eq_true, not_true_eq_false, false_implies, true_implies, forall_const, imp_self, true_or, or_true, eq_self, sI_zw, zw_zw, hI_zw, tg_zw, ln_zw, hR_zw, hL_zw, hN_zw, hM_zw, upd_s, upd_u, upd_ne, Classical.not_not, k_Mo_digest, h1, h2, h3, h4, tg_sL, ln_sL, hI_sL, hR_sL, z1, hn]; try clear hgo9 hW9); try (obtain ⟨W9, hW9, hgo9⟩ := wp_ex (T_Mo_digest l G) [38, 92, 50] _; refine hgo9 200 _ _ _ _ ?_; simp -implicitDefEqProofs (disch := omega) only [hW9, inl, gate, Xq, tz_const, tz_iload, tz_lload, tz_dload, tz_aload, tz_istore, tz_astore, tz_lstore, tz_dstore, tz_iinc, tz_i1, tz_i2, tz_i2z, tz_l2, tz_l2z, tz_i2l, tz_l2i, tz_lcmp, tz_i2d, tz_d2, tz_dcmp, tz_dup, tz_dup2, tz_pop, tz_if, tz_icmp, tz_null, tz_goto, tz_sw, tz_getf, tz_puti, tz_putz, tz_putr, tz_putl, tz_iaload, tz_baload, tz_laload, tz_aaload, tz_iastore, tz_bastore, tz_lastore, tz_aastore, tz_alen, tz_new, tz_newa, tz_oinit, tz_iret, tz_zret, tz_lret, tz_dret, tz_aret, tz_vret, tz_throw, tz_callS, tz_callV, tz_callI, tz_callR, tz_pureS, tz_pureV, tz_callVH, lg, lset, lkill, lst1, lst2, entL, isRf, is1, vl, va_rf_none, va_rf_some, isRf_rf, is1_rf, i0, i1, bI_eq0, bI_eq1, nm_em, nI_eqP, nI_leP, nI_ltP, nN_e1, nN_e2, nN_l1, nN_l2, nN_l3, nN_l4, nI_add, pk_mul, vp_inN, nI_cl, n01, n10, P_i, P_ii, P_iii, f_Mo_at, f_Mo_map, f_Mo_contact, f_Mo_within, f_Mo_isPort, f_Hp_endpoint, f_Hp_nodeOf, f_Hp_portOf, f_Ma_max, f_Ma_min, f_Hp_isSetting, popN, rok, a1, noX, swc, mL, if_true, if_false, ↓reduceIte, cond_true, cond_false, true_and, and_true, List.length_cons, List.length_nil, List.nil_append, List.cons_append, List.append_nil, Option.toList, Nat.reduceEqDiff, Bool.false_eq_true, reduceCtorEq, Nat.reduceAdd, Nat.reduceLT, Nat.reduceLeDiff, Nat.reduceSub, List.replicate, Nat.zero_add, Nat.lt_add_one, Nat.le_refl, Nat.zero_le, Nat.succ_ne_zero, not_false_eq_true, not_true_eq_false, false_implies, true_implies, forall_const, imp_self, true_or, or_true, eq_self, sI_zw, zw_zw, hI_zw, tg_zw, ln_zw, hR_zw, hL_zw, hN_zw, hM_zw, upd_s, upd_u, upd_ne, Classical.not_not, k_Mo_digest, h1, h2, h3, h4, tg_sL, ln_sL, hI_sL, hR_sL, z1, hn]; try clear hgo9 hW9))
    refine lp_dg2 (x := dgN (hI h zr) i x) hm hz hne (by omega) ?_ 7 0 rfl
    have fin := ih (i + 1) (some (.int (nI 7))) (by omega)
    rw [dgN] at fin
    by_cases c : hI h zr (16 + 16 * i) = nI 1
    · have ct : TrZ (hI h zr) (nI i) := ⟨i, by omega, rfl, c⟩
      rw [if_pos c] at fin
      ((obtain ⟨W9, hW9, hgo9⟩ := wp_ex (T_Mo_digest l G) [38, 92, 50] _; refine hgo9 200 _ _ _ _ ?_; simp -implicitDefEqProofs (disch := omega) only [hW9, inl, gate, Xq, tz_const, tz_iload, tz_lload, tz_dload, tz_aload, tz_istore, tz_astore, tz_lstore, tz_dstore, tz_iinc, tz_i1, tz_i2, tz_i2z, tz_l2, tz_l2z, tz_i2l, tz_l2i, tz_lcmp, tz_i2d, tz_d2, tz_dcmp, tz_dup, tz_dup2, tz_pop, tz_if, tz_icmp, tz_null, tz_goto, tz_sw, tz_getf, tz_puti, tz_putz, tz_putr, tz_putl, tz_iaload, tz_baload, tz_laload, tz_aaload, tz_iastore, tz_bastore, tz_lastore, tz_aastore, tz_alen, tz_new, tz_newa, tz_oinit, tz_iret, tz_zret, tz_lret, tz_dret, tz_aret, tz_vret, tz_throw, tz_callS, tz_callV, tz_callI, tz_callR, tz_pureS, tz_pureV, tz_callVH, lg, lset, lkill, lst1, lst2, entL, isRf, is1, vl, va_rf_none, va_rf_some, isRf_rf, is1_rf, i0, i1, bI_eq0, bI_eq1, nm_em, nI_eqP, nI_leP, nI_ltP, nN_e1, nN_e2, nN_l1, nN_l2, nN_l3, nN_l4, nI_add, pk_mul, vp_inN, nI_cl, n01, n10, P_i, P_ii, P_iii, f_Mo_at, f_Mo_map, f_Mo_contact, f_Mo_within, f_Mo_isPort, f_Hp_endpoint, f_Hp_nodeOf, f_Hp_portOf, f_Ma_max, f_Ma_min, f_Hp_isSetting, popN, rok, a1, noX, swc, mL, if_true, if_false, ↓reduceIte, cond_true, cond_false, true_and, and_true, List.length_cons, List.length_nil, List.nil_append, List.cons_append, List.append_nil, Option.toList, Nat.reduceEqDiff, Bool.false_eq_true, reduceCtorEq, Nat.reduceAdd, Nat.reduceLT, Nat.reduceLeDiff, Nat.reduceSub, List.replicate, Nat.zero_add, Nat.lt_add_one, Nat.le_refl, Nat.zero_le, Nat.succ_ne_zero, not_false_eq_true, not_true_eq_false, false_implies, true_implies, forall_const, imp_self, true_or, or_true, eq_self, sI_zw, zw_zw, hI_zw, tg_zw, ln_zw, hR_zw, hL_zw, hN_zw, hM_zw, upd_s, upd_u, upd_ne, Classical.not_not, k_Mo_digest, h1, tg_sL, hP, f_Mo_isTranslator, hzF, ct]; try clear hgo9 hW9); try (obtain ⟨W9, hW9, hgo9⟩ := wp_ex (T_Mo_digest l G) [38, 92, 50] _; refine hgo9 200 _ _ _ _ ?_; simp -implicitDefEqProofs (disch := omega) only [hW9, inl, gate, Xq, tz_const, tz_iload, tz_lload, tz_dload, tz_aload, tz_istore, tz_astore, tz_lstore, tz_dstore, tz_iinc, tz_i1, tz_i2, tz_i2z, tz_l2, tz_l2z, tz_i2l, tz_l2i, tz_lcmp, tz_i2d, tz_d2, tz_dcmp, tz_dup, tz_dup2, tz_pop, tz_if, tz_icmp, tz_null, tz_goto, tz_sw, tz_getf, tz_puti, tz_putz, tz_putr, tz_putl, tz_iaload, tz_baload, tz_laload, tz_aaload, tz_iastore, tz_bastore, tz_lastore, tz_aastore, tz_alen, tz_new, tz_newa, tz_oinit, tz_iret, tz_zret, tz_lret, tz_dret, tz_aret, tz_vret, tz_throw, tz_callS, tz_callV, tz_callI, tz_callR, tz_pureS, tz_pureV, tz_callVH, lg, lset, lkill, lst1, lst2, entL, isRf, is1, vl, va_rf_none, va_rf_some, isRf_rf, is1_rf, i0, i1, bI_eq0, bI_eq1, nm_em, nI_eqP, nI_leP, nI_ltP, nN_e1, nN_e2, nN_l1, nN_l2, nN_l3, nN_l4, nI_add, pk_mul, vp_inN, nI_cl, n01, n10, P_i, P_ii, P_iii, f_Mo_at, f_Mo_map, f_Mo_contact, f_Mo_within, f_Mo_isPort, f_Hp_endpoint, f_Hp_nodeOf, f_Hp_portOf, f_Ma_max, f_Ma_min, f_Hp_isSetting, popN, rok, a1, noX, swc, mL, if_true, if_false, ↓reduceIte, cond_true, cond_false, true_and, and_true, List.length_cons, List.length_nil, List.nil_append, List.cons_append, List.append_nil, Option.toList, Nat.reduceEqDiff, Bool.false_eq_true, reduceCtorEq, Nat.reduceAdd, Nat.reduceLT, Nat.reduceLeDiff, Nat.reduceSub, List.replicate, Nat.zero_add, Nat.lt_add_one, Nat.le_refl, Nat.zero_le, Nat.succ_ne_zero, not_false_eq_true, not_true_eq_false, false_implies, true_implies, forall_const, imp_self, true_or, or_true, eq_self, sI_zw, zw_zw, hI_zw, tg_zw, ln_zw, hR_zw, hL_zw, hN_zw, hM_zw, upd_s, upd_u, upd_ne, Classical.not_not, k_Mo_digest, h1, tg_sL, hP, f_Mo_isTranslator, hzF, ct]; try clear hgo9 hW9))
      refine c_Mo_mixTranslator a zr i _ h _ hm (by omega) (ho i (by omega)) ?_
      simp only [aft]
      (obtain ⟨W9, hW9, hgo9⟩ := wp_ex (T_Mo_digest l G) [38, 92, 50] _; refine hgo9 200 _ _ _ _ ?_; simp -implicitDefEqProofs (disch := omega) only [hW9, inl, gate, Xq, tz_const, tz_iload, tz_lload, tz_dload, tz_aload, tz_istore, tz_astore, tz_lstore, tz_dstore, tz_iinc, tz_i1, tz_i2, tz_i2z, tz_l2, tz_l2z, tz_i2l, tz_l2i, tz_lcmp, tz_i2d, tz_d2, tz_dcmp, tz_dup, tz_dup2, tz_pop, tz_if, tz_icmp, tz_null, tz_goto, tz_sw, tz_getf, tz_puti, tz_putz, tz_putr, tz_putl, tz_iaload, tz_baload, tz_laload, tz_aaload, tz_iastore, tz_bastore, tz_lastore, tz_aastore, tz_alen, tz_new, tz_newa, tz_oinit, tz_iret, tz_zret, tz_lret, tz_dret, tz_aret, tz_vret, tz_throw, tz_callS, tz_callV, tz_callI, tz_callR, tz_pureS, tz_pureV, tz_callVH, lg, lset, lkill, lst1, lst2, entL, isRf, is1, vl, va_rf_none, va_rf_some, isRf_rf, is1_rf, i0, i1, bI_eq0, bI_eq1, nm_em, nI_eqP, nI_leP, nI_ltP, nN_e1, nN_e2, nN_l1, nN_l2, nN_l3, nN_l4, nI_add, pk_mul, vp_inN, nI_cl, n01, n10, P_i, P_ii, P_iii, f_Mo_at, f_Mo_map, f_Mo_contact, f_Mo_within, f_Mo_isPort, f_Hp_endpoint, f_Hp_nodeOf, f_Hp_portOf, f_Ma_max, f_Ma_min, f_Hp_isSetting, popN, rok, a1, noX, swc, mL, if_true, if_false, ↓reduceIte, cond_true, cond_false, true_and, and_true, List.length_cons, List.length_nil, List.nil_append, List.cons_append, List.append_nil, Option.toList, Nat.reduceEqDiff, Bool.false_eq_true, reduceCtorEq, Nat.reduceAdd, Nat.reduceLT, Nat.reduceLeDiff, Nat.reduceSub, List.replicate, Nat.zero_add, Nat.lt_add_one, Nat.le_refl, Nat.zero_le, Nat.succ_ne_zero, not_false_eq_true, not_true_eq_false, false_implies, true_implies, forall_const, imp_self, true_or, or_true, eq_self, sI_zw, zw_zw, hI_zw, tg_zw, ln_zw, hR_zw, hL_zw, hN_zw, hM_zw, upd_s, upd_u, upd_ne, Classical.not_not, k_Mo_digest, h1]; try clear hgo9 hW9)
      exact fin
    · have ct : ¬ TrZ (hI h zr) (nI i) := by
        rintro ⟨j, j1, j2, j3⟩
        rw [nI_eq (by omega) (by omega)] at j2
        subst j2
        exact c j3
      rw [if_neg c] at fin
      ((obtain ⟨W9, hW9, hgo9⟩ := wp_ex (T_Mo_digest l G) [38, 92, 50] _; refine hgo9 200 _ _ _ _ ?_; simp -implicitDefEqProofs (disch := omega) only [hW9, inl, gate, Xq, tz_const, tz_iload, tz_lload, tz_dload, tz_aload, tz_istore, tz_astore, tz_lstore, tz_dstore, tz_iinc, tz_i1, tz_i2, tz_i2z, tz_l2, tz_l2z, tz_i2l, tz_l2i, tz_lcmp, tz_i2d, tz_d2, tz_dcmp, tz_dup, tz_dup2, tz_pop, tz_if, tz_icmp, tz_null, tz_goto, tz_sw, tz_getf, tz_puti, tz_putz, tz_putr, tz_putl, tz_iaload, tz_baload, tz_laload, tz_aaload, tz_iastore, tz_bastore, tz_lastore, tz_aastore, tz_alen, tz_new, tz_newa, tz_oinit, tz_iret, tz_zret, tz_lret, tz_dret, tz_aret, tz_vret, tz_throw, tz_callS, tz_callV, tz_callI, tz_callR, tz_pureS, tz_pureV, tz_callVH, lg, lset, lkill, lst1, lst2, entL, isRf, is1, vl, va_rf_none, va_rf_some, isRf_rf, is1_rf, i0, i1, bI_eq0, bI_eq1, nm_em, nI_eqP, nI_leP, nI_ltP, nN_e1, nN_e2, nN_l1, nN_l2, nN_l3, nN_l4, nI_add, pk_mul, vp_inN, nI_cl, n01, n10, P_i, P_ii, P_iii, f_Mo_at, f_Mo_map, f_Mo_contact, f_Mo_within, f_Mo_isPort, f_Hp_endpoint, f_Hp_nodeOf, f_Hp_portOf, f_Ma_max, f_Ma_min, f_Hp_isSetting, popN, rok, a1, noX, swc, mL, if_true, if_false, ↓reduceIte, cond_true, cond_false, true_and, and_true, List.length_cons, List.length_nil, List.nil_append, List.cons_append, List.append_nil, Option.toList, Nat.reduceEqDiff, Bool.false_eq_true, reduceCtorEq, Nat.reduceAdd, Nat.reduceLT, Nat.reduceLeDiff, Nat.reduceSub, List.replicate, Nat.zero_add, Nat.lt_add_one, Nat.le_refl, Nat.zero_le, Nat.succ_ne_zero, not_false_eq_true, not_true_eq_false, false_implies, true_implies, forall_const, imp_self, true_or, or_true, eq_self, sI_zw, zw_zw, hI_zw, tg_zw, ln_zw, hR_zw, hL_zw, hN_zw, hM_zw, upd_s, upd_u, upd_ne, Classical.not_not, k_Mo_digest, h1, tg_sL, hP, f_Mo_isTranslator, hzF, ct]; try clear hgo9 hW9); try (obtain ⟨W9, hW9, hgo9⟩ := wp_ex (T_Mo_digest l G) [38, 92, 50] _; refine hgo9 200 _ _ _ _ ?_; simp -implicitDefEqProofs (disch := omega) only [hW9, inl, gate, Xq, tz_const, tz_iload, tz_lload, tz_dload, tz_aload, tz_istore, tz_astore, tz_lstore, tz_dstore, tz_iinc, tz_i1, tz_i2, tz_i2z, tz_l2, tz_l2z, tz_i2l, tz_l2i, tz_lcmp, tz_i2d, tz_d2, tz_dcmp, tz_dup, tz_dup2, tz_pop, tz_if, tz_icmp, tz_null, tz_goto, tz_sw, tz_getf, tz_puti, tz_putz, tz_putr, tz_putl, tz_iaload, tz_baload, tz_laload, tz_aaload, tz_iastore, tz_bastore, tz_lastore, tz_aastore, tz_alen, tz_new, tz_newa, tz_oinit, tz_iret, tz_zret, tz_lret, tz_dret, tz_aret, tz_vret, tz_throw, tz_callS, tz_callV, tz_callI, tz_callR, tz_pureS, tz_pureV, tz_callVH, lg, lset, lkill, lst1, lst2, entL, isRf, is1, vl, va_rf_none, va_rf_some, isRf_rf, is1_rf, i0, i1, bI_eq0, bI_eq1, nm_em, nI_eqP, nI_leP, nI_ltP, nN_e1, nN_e2, nN_l1, nN_l2, nN_l3, nN_l4, nI_add, pk_mul, vp_inN, nI_cl, n01, n10, P_i, P_ii, P_iii, f_Mo_at, f_Mo_map, f_Mo_contact, f_Mo_within, f_Mo_isPort, f_Hp_endpoint, f_Hp_nodeOf, f_Hp_portOf, f_Ma_max, f_Ma_min, f_Hp_isSetting, popN, rok, a1, noX, swc, mL, if_true, if_false, ↓reduceIte, cond_true, cond_false, true_and, and_true, List.length_cons, List.length_nil, List.nil_append, List.cons_append, List.append_nil, Option.toList, Nat.reduceEqDiff, Bool.false_eq_true, reduceCtorEq, Nat.reduceAdd, Nat.reduceLT, Nat.reduceLeDiff, Nat.reduceSub, List.replicate, Nat.zero_add, Nat.lt_add_one, Nat.le_refl, Nat.zero_le, Nat.succ_ne_zero, not_false_eq_true, not_true_eq_false, false_implies, true_implies, forall_const, imp_self, true_or, or_true, eq_self, sI_zw, zw_zw, hI_zw, tg_zw, ln_zw, hR_zw, hL_zw, hN_zw, hM_zw, upd_s, upd_u, upd_ne, Classical.not_not, k_Mo_digest, h1, tg_sL, hP, f_Mo_isTranslator, hzF, ct]; try clear hgo9 hW9))
      exact fin
theorem lp_dg4 {a bf n : Nat} {v : Option Value} {h : AH} {Q : Po} {x : Int64} (ht : MoT h a bf n) (hQ : Q (.inl (some (.long (fld (hI h bf) n x)))) (sL h a 15 (fld (hI h bf) n x))) : ∀ (d i : Nat), i + d = n → AWp l G M_Mo_digest 103 [some (.ref a), some (.int (nI i)), v] [] (sL h a 15 (fld (hI h bf) i x)) Q := by
  obtain ⟨h1, s1, s2, s3', s5, hn⟩ := id ht
  intro d
  induction d with
  | zero =>
    intro i e
    have ei : i = n := by omega
    subst ei
    ((obtain ⟨W9, hW9, hgo9⟩ := wp_ex (T_Mo_digest l G) [103] _; refine hgo9 200 _ _ _ _ ?_; simp -implicitDefEqProofs (disch := omega) only [hW9, inl, gate, Xq, tz_const, tz_iload, tz_lload, tz_dload, tz_aload, tz_istore, tz_astore, tz_lstore, tz_dstore, tz_iinc, tz_i1, tz_i2, tz_i2z, tz_l2, tz_l2z, tz_i2l, tz_l2i, tz_lcmp, tz_i2d, tz_d2, tz_dcmp, tz_dup, tz_dup2, tz_pop, tz_if, tz_icmp, tz_null, tz_goto, tz_sw, tz_getf, tz_puti, tz_putz, tz_putr, tz_putl, tz_iaload, tz_baload, tz_laload, tz_aaload, tz_iastore, tz_bastore, tz_lastore, tz_aastore, tz_alen, tz_new, tz_newa, tz_oinit, tz_iret, tz_zret, tz_lret, tz_dret, tz_aret, tz_vret, tz_throw, tz_callS, tz_callV, tz_callI, tz_callR, tz_pureS, tz_pureV, tz_callVH, lg, lset, lkill, lst1, lst2, entL, isRf, is1, vl, va_rf_none, va_rf_some, isRf_rf, is1_rf, i0, i1, bI_eq0, bI_eq1, nm_em, nI_eqP, nI_leP, nI_ltP, nN_e1, nN_e2, nN_l1, nN_l2, nN_l3, nN_l4, nI_add, pk_mul, vp_inN, nI_cl, n01, n10, P_i, P_ii, P_iii, f_Mo_at, f_Mo_map, f_Mo_contact, f_Mo_within, f_Mo_isPort, f_Hp_endpoint, f_Hp_nodeOf, f_Hp_portOf, f_Ma_max, f_Ma_min, f_Hp_isSetting, popN, rok, a1, noX, swc, mL, if_true, if_false, ↓reduceIte, cond_true, cond_false, true_and, and_true, List.length_cons, List.length_nil, List.nil_append, List.cons_append, List.append_nil, Option.toList, Nat.reduceEqDiff, Bool.false_eq_true, reduceCtorEq, Nat.reduceAdd, Nat.reduceLT, Nat.reduceLeDiff, Nat.reduceSub, List.replicate, Nat.zero_add, Nat.lt_add_one, Nat.le_refl, Nat.zero_le, Nat.succ_ne_zero, not_false_eq_true, not_true_eq_false, false_implies, true_implies, forall_const, imp_self, true_or, or_true, eq_self, sI_zw, zw_zw, hI_zw, tg_zw, ln_zw, hR_zw, hL_zw, hN_zw, hM_zw, upd_s, upd_u, upd_ne, Classical.not_not, k_Mo_digest, h1, tg_sL, ln_sL, hI_sL, hR_sL, hL_sL, s1, s2, s3', s5]; try clear hgo9 hW9); try (obtain ⟨W9, hW9, hgo9⟩ := wp_ex (T_Mo_digest l G) [103] _; refine hgo9 200 _ _ _ _ ?_; simp -implicitDefEqProofs (disch := omega) only [hW9, inl, gate, Xq, tz_const, tz_iload, tz_lload, tz_dload, tz_aload, tz_istore, tz_astore, tz_lstore, tz_dstore, tz_iinc, tz_i1, tz_i2, tz_i2z, tz_l2, tz_l2z, tz_i2l, tz_l2i, tz_lcmp, tz_i2d, tz_d2, tz_dcmp, tz_dup, tz_dup2, tz_pop, tz_if, tz_icmp, tz_null, tz_goto, tz_sw, tz_getf, tz_puti, tz_putz, tz_putr, tz_putl, tz_iaload, tz_baload, tz_laload, tz_aaload, tz_iastore, tz_bastore, tz_lastore, tz_aastore, tz_alen, tz_new, tz_newa, tz_oinit, tz_iret, tz_zret, tz_lret, tz_dret, tz_aret, tz_vret, tz_throw, tz_callS, tz_callV, tz_callI, tz_callR, tz_pureS, tz_pureV, tz_callVH, lg, lset, lkill, lst1, lst2, entL, isRf, is1, vl, va_rf_none, va_rf_some, isRf_rf, is1_rf, i0, i1, bI_eq0, bI_eq1, nm_em, nI_eqP, nI_leP, nI_ltP, nN_e1, nN_e2, nN_l1, nN_l2, nN_l3, nN_l4, nI_add, pk_mul, vp_inN, nI_cl, n01, n10, P_i, P_ii, P_iii, f_Mo_at, f_Mo_map, f_Mo_contact, f_Mo_within, f_Mo_isPort, f_Hp_endpoint, f_Hp_nodeOf, f_Hp_portOf, f_Ma_max, f_Ma_min, f_Hp_isSetting, popN, rok, a1, noX, swc, mL, if_true, if_false, ↓reduceIte, cond_true, cond_false, true_and, and_true, List.length_cons, List.length_nil, List.nil_append, List.cons_append, List.append_nil, Option.toList, Nat.reduceEqDiff, Bool.false_eq_true, reduceCtorEq, Nat.reduceAdd, Nat.reduceLT, Nat.reduceLeDiff, Nat.reduceSub, List.replicate, Nat.zero_add, Nat.lt_add_one, Nat.le_refl, Nat.zero_le, Nat.succ_ne_zero, not_false_eq_true, not_true_eq_false, false_implies, true_implies, forall_const, imp_self, true_or, or_true, eq_self, sI_zw, zw_zw, hI_zw, tg_zw, ln_zw, hR_zw, hL_zw, hN_zw, hM_zw, upd_s, upd_u, upd_ne, Classical.not_not, k_Mo_digest, h1, tg_sL, ln_sL, hI_sL, hR_sL, hL_sL, s1, s2, s3', s5]; try clear hgo9 hW9))
    exact hQ
  | succ d ih =>
    intro i e
    have hni : ¬ n ≤ i := by omega
    ((obtain ⟨W9, hW9, hgo9⟩ := wp_ex (T_Mo_digest l G) [103] _; refine hgo9 200 _ _ _ _ ?_; simp -implicitDefEqProofs (disch := omega) only [hW9, inl, gate, Xq, tz_const, tz_iload, tz_lload, tz_dload, tz_aload, tz_istore, tz_astore, tz_lstore, tz_dstore, tz_iinc, tz_i1, tz_i2, tz_i2z, tz_l2, tz_l2z, tz_i2l, tz_l2i, tz_lcmp, tz_i2d, tz_d2, tz_dcmp, tz_dup, tz_dup2, tz_pop, tz_if, tz_icmp, tz_null, tz_goto, tz_sw, tz_getf, tz_puti, tz_putz, tz_putr, tz_putl, tz_iaload, tz_baload, tz_laload, tz_aaload, tz_iastore, tz_bastore, tz_lastore, tz_aastore, tz_alen, tz_new, tz_newa, tz_oinit, tz_iret, tz_zret, tz_lret, tz_dret, tz_aret, tz_vret, tz_throw, tz_callS, tz_callV, tz_callI, tz_callR, tz_pureS, tz_pureV, tz_callVH, lg, lset, lkill, lst1, lst2, entL, isRf, is1, vl, va_rf_none, va_rf_some, isRf_rf, is1_rf, i0, i1, bI_eq0, bI_eq1, nm_em, nI_eqP, nI_leP, nI_ltP, nN_e1, nN_e2, nN_l1, nN_l2, nN_l3, nN_l4, nI_add, pk_mul, vp_inN, nI_cl, n01, n10, P_i, P_ii, P_iii, f_Mo_at, f_Mo_map, f_Mo_contact, f_Mo_within, f_Mo_isPort, f_Hp_endpoint, f_Hp_nodeOf, f_Hp_portOf, f_Ma_max, f_Ma_min, f_Hp_isSetting, popN, rok, a1, noX, swc, mL, if_true, if_false, ↓reduceIte, cond_true, cond_false, true_and, and_true, List.length_cons, List.length_nil, List.nil_append, List.cons_append, List.append_nil, Option.toList, Nat.reduceEqDiff, Bool.false_eq_true, reduceCtorEq, Nat.reduceAdd, Nat.reduceLT, Nat.reduceLeDiff, Nat.reduceSub, List.replicate, Nat.zero_add, Nat.lt_add_one, Nat.le_refl, Nat.zero_le, Nat.succ_ne_zero, not_false_eq_true, not_true_eq_false, false_implies, true_implies, forall_const, imp_self, true_or, or_true, eq_self, sI_zw, zw_zw, hI_zw, tg_zw, ln_zw, hR_zw, hL_zw, hN_zw, hM_zw, upd_s, upd_u, upd_ne, Classical.not_not, k_Mo_digest, h1, tg_sL, ln_sL, hI_sL, hR_sL, hL_sL, s1, s2, s3', s5, hni]; try clear hgo9 hW9); try (obtain ⟨W9, hW9, hgo9⟩ := wp_ex (T_Mo_digest l G) [103] _; refine hgo9 200 _ _ _ _ ?_; simp -implicitDefEqProofs (disch := omega) only [hW9, inl, gate, Xq, tz_const, tz_iload, tz_lload, tz_dload, tz_aload, tz_istore, tz_astore, tz_lstore, tz_dstore, tz_iinc, tz_i1, tz_i2, tz_i2z, tz_l2, tz_l2z, tz_i2l, tz_l2i, tz_lcmp, tz_i2d, tz_d2, tz_dcmp, tz_dup, tz_dup2, tz_pop, tz_if, tz_icmp, tz_null, tz_goto, tz_sw, tz_getf, tz_puti, tz_putz, tz_putr, tz_putl, tz_iaload, tz_baload, tz_laload, tz_aaload, tz_iastore, tz_bastore, tz_lastore, tz_aastore, tz_alen, tz_new, tz_newa, tz_oinit, tz_iret, tz_zret, tz_lret, tz_dret, tz_aret, tz_vret, tz_throw, tz_callS, tz_callV, tz_callI, tz_callR, tz_pureS, tz_pureV, tz_callVH, lg, lset, lkill, lst1, lst2, entL, isRf, is1, vl, va_rf_none, va_rf_some, isRf_rf, is1_rf, i0, i1, bI_eq0, bI_eq1, nm_em, nI_eqP, nI_leP, nI_ltP, nN_e1, nN_e2, nN_l1, nN_l2, nN_l3, nN_l4, nI_add, pk_mul, vp_inN, nI_cl, n01, n10, P_i, P_ii, P_iii, f_Mo_at, f_Mo_map, f_Mo_contact, f_Mo_within, f_Mo_isPort, f_Hp_endpoint, f_Hp_nodeOf, f_Hp_portOf, f_Ma_max, f_Ma_min, f_Hp_isSetting, popN, rok, a1, noX, swc, mL, if_true, if_false, ↓reduceIte, cond_true, cond_false, true_and, and_true, List.length_cons, List.length_nil, List.nil_append, List.cons_append, List.append_nil, Option.toList, Nat.reduceEqDiff, Bool.false_eq_true, reduceCtorEq, Nat.reduceAdd, Nat.reduceLT, Nat.reduceLeDiff, Nat.reduceSub, List.replicate, Nat.zero_add, Nat.lt_add_one, Nat.le_refl, Nat.zero_le, Nat.succ_ne_zero, not_false_eq_true, not_true_eq_false, false_implies, true_implies, forall_const, imp_self, true_or, or_true, eq_self, sI_zw, zw_zw, hI_zw, tg_zw, ln_zw, hR_zw, hL_zw, hN_zw, hM_zw, upd_s, upd_u, upd_ne, Classical.not_not, k_Mo_digest, h1, tg_sL, ln_sL, hI_sL, hR_sL, hL_sL, s1, s2, s3', s5, hni]; try clear hgo9 hW9))
    refine c_Mo_mix a _ _ _ h1 ?_
    simp only [aft]
    rw [hL_sL, sL_sL]
    (obtain ⟨W9, hW9, hgo9⟩ := wp_ex (T_Mo_digest l G) [103] _; refine hgo9 200 _ _ _ _ ?_; simp -implicitDefEqProofs (disch := omega) only [hW9, inl, gate, Xq, tz_const, tz_iload, tz_lload, tz_dload, tz_aload, tz_istore, tz_astore, tz_lstore, tz_dstore, tz_iinc, tz_i1, tz_i2, tz_i2z, tz_l2, tz_l2z, tz_i2l, tz_l2i, tz_lcmp, tz_i2d, tz_d2, tz_dcmp, tz_dup, tz_dup2, tz_pop, tz_if, tz_icmp, tz_null, tz_goto, tz_sw, tz_getf, tz_puti, tz_putz, tz_putr, tz_putl, tz_iaload, tz_baload, tz_laload, tz_aaload, tz_iastore, tz_bastore, tz_lastore, tz_aastore, tz_alen, tz_new, tz_newa, tz_oinit, tz_iret, tz_zret, tz_lret, tz_dret, tz_aret, tz_vret, tz_throw, tz_callS, tz_callV, tz_callI, tz_callR, tz_pureS, tz_pureV, tz_callVH, lg, lset, lkill, lst1, lst2, entL, isRf, is1, vl, va_rf_none, va_rf_some, isRf_rf, is1_rf, i0, i1, bI_eq0, bI_eq1, nm_em, nI_eqP, nI_leP, nI_ltP, nN_e1, nN_e2, nN_l1, nN_l2, nN_l3, nN_l4, nI_add, pk_mul, vp_inN, nI_cl, n01, n10, P_i, P_ii, P_iii, f_Mo_at, f_Mo_map, f_Mo_contact, f_Mo_within, f_Mo_isPort, f_Hp_endpoint, f_Hp_nodeOf, f_Hp_portOf, f_Ma_max, f_Ma_min, f_Hp_isSetting, popN, rok, a1, noX, swc, mL, if_true, if_false, ↓reduceIte, cond_true, cond_false, true_and, and_true, List.length_cons, List.length_nil, List.nil_append, List.cons_append, List.append_nil, Option.toList, Nat.reduceEqDiff, Bool.false_eq_true, reduceCtorEq, Nat.reduceAdd, Nat.reduceLT, Nat.reduceLeDiff, Nat.reduceSub, List.replicate, Nat.zero_add, Nat.lt_add_one, Nat.le_refl, Nat.zero_le, Nat.succ_ne_zero, not_false_eq_true, not_true_eq_false, false_implies, true_implies, forall_const, imp_self, true_or, or_true, eq_self, sI_zw, zw_zw, hI_zw, tg_zw, ln_zw, hR_zw, hL_zw, hN_zw, hM_zw, upd_s, upd_u, upd_ne, Classical.not_not, k_Mo_digest, h1]; try clear hgo9 hW9)
    exact ih (i + 1) (by omega)
/-- the digest -/
noncomputable def digZ (z t : Nat → Int32) (sv : Int32) (n : Nat) : Int64 := fld t n (lN 31 * dgN z (mny z) (fld (ctZ z sv) 12 (lN 1973)) + (nI n).toInt64)
theorem c_Mo_digest (a zr bf n : Nat) (h : AH) (Q : Po) (hm : MoS h a zr) (ht : MoT h a bf n) (hz : Z10 (hI h zr)) (hne : NetOK (hI h zr)) (ho : OwnAll (hI h zr)) (hQ : ∀ x, Q (.inl (some (.long (digZ (hI h zr) (hI h bf) (hI h a 3) n)))) (sL (zw h a (upd (hI h a) 0 (nI 0))) a 15 x)) : Call l G M_Mo_digest [.ref a] h Q := by
  have rz := rd_ne hm.ne
  obtain ⟨h1, s1, s2, s3', s5, hn⟩ := id ht
  have nb : bf ≠ a := ne_tg (by rw [h1, s2]; decide)
  have rb := rd_ne nb
  have e3 : hI (zw h a (upd (hI h a) 0 (nI 0))) a 3 = hI h a 3 := by rw [hI_zw, upd_ne (by omega)]
  have e5 : hI (zw h a (upd (hI h a) 0 (nI 0))) a 5 = nI n := by rw [hI_zw, upd_ne (by omega)]; exact s5
  refine call_of rfl rfl (Nat.le_of_ble_eq_true rfl) ?_
  (obtain ⟨W9, hW9, hgo9⟩ := wp_ex (T_Mo_digest l G) [14] _; refine hgo9 200 _ _ _ _ ?_; simp -implicitDefEqProofs (disch := omega) only [hW9, inl, gate, Xq, tz_const, tz_iload, tz_lload, tz_dload, tz_aload, tz_istore, tz_astore, tz_lstore, tz_dstore, tz_iinc, tz_i1, tz_i2, tz_i2z, tz_l2, tz_l2z, tz_i2l, tz_l2i, tz_lcmp, tz_i2d, tz_d2, tz_dcmp, tz_dup, tz_dup2, tz_pop, tz_if, tz_icmp, tz_null, tz_goto, tz_sw, tz_getf, tz_puti, tz_putz, tz_putr, tz_putl, tz_iaload, tz_baload, tz_laload, tz_aaload, tz_iastore, tz_bastore, tz_lastore, tz_aastore, tz_alen, tz_new, tz_newa, tz_oinit, tz_iret, tz_zret, tz_lret, tz_dret, tz_aret, tz_vret, tz_throw, tz_callS, tz_callV, tz_callI, tz_callR, tz_pureS, tz_pureV, tz_callVH, lg, lset, lkill, lst1, lst2, entL, isRf, is1, vl, va_rf_none, va_rf_some, isRf_rf, is1_rf, i0, i1, bI_eq0, bI_eq1, nm_em, nI_eqP, nI_leP, nI_ltP, nN_e1, nN_e2, nN_l1, nN_l2, nN_l3, nN_l4, nI_add, pk_mul, vp_inN, nI_cl, n01, n10, P_i, P_ii, P_iii, f_Mo_at, f_Mo_map, f_Mo_contact, f_Mo_within, f_Mo_isPort, f_Hp_endpoint, f_Hp_nodeOf, f_Hp_portOf, f_Ma_max, f_Ma_min, f_Hp_isSetting, popN, rok, a1, noX, swc, mL, if_true, if_false, ↓reduceIte, cond_true, cond_false, true_and, and_true, List.length_cons, List.length_nil, List.nil_append, List.cons_append, List.append_nil, Option.toList, Nat.reduceEqDiff, Bool.false_eq_true, reduceCtorEq, Nat.reduceAdd, Nat.reduceLT, Nat.reduceLeDiff, Nat.reduceSub, List.replicate, Nat.zero_add, Nat.lt_add_one, Nat.le_refl, Nat.zero_le, Nat.succ_ne_zero, not_false_eq_true, not_true_eq_false, false_implies, true_implies, forall_const, imp_self, true_or, or_true, eq_self, sI_zw, zw_zw, hI_zw, tg_zw, ln_zw, hR_zw, hL_zw, hN_zw, hM_zw, upd_s, upd_u, upd_ne, Classical.not_not, k_Mo_digest, h1]; try clear hgo9 hW9)
  refine lp_dg1 (h := zw h a (upd (hI h a) 0 (nI 0))) (x := lN 1973) hm.zw (by rw [rz]; exact hz) ?_ 12 0 rfl
  (obtain ⟨W9, hW9, hgo9⟩ := wp_ex (T_Mo_digest l G) [38] _; refine hgo9 200 _ _ _ _ ?_; simp -implicitDefEqProofs (disch := omega) only [hW9, inl, gate, Xq, tz_const, tz_iload, tz_lload, tz_dload, tz_aload, tz_istore, tz_astore, tz_lstore, tz_dstore, tz_iinc, tz_i1, tz_i2, tz_i2z, tz_l2, tz_l2z, tz_i2l, tz_l2i, tz_lcmp, tz_i2d, tz_d2, tz_dcmp, tz_dup, tz_dup2, tz_pop, tz_if, tz_icmp, tz_null, tz_goto, tz_sw, tz_getf, tz_puti, tz_putz, tz_putr, tz_putl, tz_iaload, tz_baload, tz_laload, tz_aaload, tz_iastore, tz_bastore, tz_lastore, tz_aastore, tz_alen, tz_new, tz_newa, tz_oinit, tz_iret, tz_zret, tz_lret, tz_dret, tz_aret, tz_vret, tz_throw, tz_callS, tz_callV, tz_callI, tz_callR, tz_pureS, tz_pureV, tz_callVH, lg, lset, lkill, lst1, lst2, entL, isRf, is1, vl, va_rf_none, va_rf_some, isRf_rf, is1_rf, i0, i1, bI_eq0, bI_eq1, nm_em, nI_eqP, nI_leP, nI_ltP, nN_e1, nN_e2, nN_l1, nN_l2, nN_l3, nN_l4, nI_add, pk_mul, vp_inN, nI_cl, n01, n10, P_i, P_ii, P_iii, f_Mo_at, f_Mo_map, f_Mo_contact, f_Mo_within, f_Mo_isPort, f_Hp_endpoint, f_Hp_nodeOf, f_Hp_portOf, f_Ma_max, f_Ma_min, f_Hp_isSetting, popN, rok, a1, noX, swc, mL, if_true, if_false, ↓reduceIte, cond_true, cond_false, true_and, and_true, List.length_cons, List.length_nil, List.nil_append, List.cons_append, List.append_nil, Option.toList, Nat.reduceEqDiff, Bool.false_eq_true, reduceCtorEq, Nat.reduceAdd, Nat.reduceLT, Nat.reduceLeDiff, Nat.reduceSub, List.replicate, Nat.zero_add, Nat.lt_add_one, Nat.le_refl, Nat.zero_le, Nat.succ_ne_zero, not_false_eq_true, not_true_eq_false, false_implies, true_implies, forall_const, imp_self, true_or, or_true, eq_self, sI_zw, zw_zw, hI_zw, tg_zw, ln_zw, hR_zw, hL_zw, hN_zw, hM_zw, upd_s, upd_u, upd_ne, Classical.not_not, k_Mo_digest, h1]; try clear hgo9 hW9)
  refine lp_dg3 (h := zw h a (upd (hI h a) 0 (nI 0))) hm.zw (by rw [rz]; exact hz) (by rw [rz]; exact hne) (by rw [rz]; exact ho) (fun v => ?_) (mny (hI h zr)) 0 _ (by rw [rz]; omega)
  (obtain ⟨W9, hW9, hgo9⟩ := wp_ex (T_Mo_digest l G) [103] _; refine hgo9 200 _ _ _ _ ?_; simp -implicitDefEqProofs (disch := omega) only [hW9, inl, gate, Xq, tz_const, tz_iload, tz_lload, tz_dload, tz_aload, tz_istore, tz_astore, tz_lstore, tz_dstore, tz_iinc, tz_i1, tz_i2, tz_i2z, tz_l2, tz_l2z, tz_i2l, tz_l2i, tz_lcmp, tz_i2d, tz_d2, tz_dcmp, tz_dup, tz_dup2, tz_pop, tz_if, tz_icmp, tz_null, tz_goto, tz_sw, tz_getf, tz_puti, tz_putz, tz_putr, tz_putl, tz_iaload, tz_baload, tz_laload, tz_aaload, tz_iastore, tz_bastore, tz_lastore, tz_aastore, tz_alen, tz_new, tz_newa, tz_oinit, tz_iret, tz_zret, tz_lret, tz_dret, tz_aret, tz_vret, tz_throw, tz_callS, tz_callV, tz_callI, tz_callR, tz_pureS, tz_pureV, tz_callVH, lg, lset, lkill, lst1, lst2, entL, isRf, is1, vl, va_rf_none, va_rf_some, isRf_rf, is1_rf, i0, i1, bI_eq0, bI_eq1, nm_em, nI_eqP, nI_leP, nI_ltP, nN_e1, nN_e2, nN_l1, nN_l2, nN_l3, nN_l4, nI_add, pk_mul, vp_inN, nI_cl, n01, n10, P_i, P_ii, P_iii, f_Mo_at, f_Mo_map, f_Mo_contact, f_Mo_within, f_Mo_isPort, f_Hp_endpoint, f_Hp_nodeOf, f_Hp_portOf, f_Ma_max, f_Ma_min, f_Hp_isSetting, popN, rok, a1, noX, swc, mL, if_true, if_false, ↓reduceIte, cond_true, cond_false, true_and, and_true, List.length_cons, List.length_nil, List.nil_append, List.cons_append, List.append_nil, Option.toList, Nat.reduceEqDiff, Bool.false_eq_true, reduceCtorEq, Nat.reduceAdd, Nat.reduceLT, Nat.reduceLeDiff, Nat.reduceSub, List.replicate, Nat.zero_add, Nat.lt_add_one, Nat.le_refl, Nat.zero_le, Nat.succ_ne_zero, not_false_eq_true, not_true_eq_false, false_implies, true_implies, forall_const, imp_self, true_or, or_true, eq_self, sI_zw, zw_zw, hI_zw, tg_zw, ln_zw, hR_zw, hL_zw, hN_zw, hM_zw, upd_s, upd_u, upd_ne, Classical.not_not, k_Mo_digest, h1, tg_sL, hI_sL, e5]; try clear hgo9 hW9)
  refine c_Mo_mix a _ _ _ h1 ?_
  simp only [aft]
  rw [hL_sL, sL_sL]
  (obtain ⟨W9, hW9, hgo9⟩ := wp_ex (T_Mo_digest l G) [103] _; refine hgo9 200 _ _ _ _ ?_; simp -implicitDefEqProofs (disch := omega) only [hW9, inl, gate, Xq, tz_const, tz_iload, tz_lload, tz_dload, tz_aload, tz_istore, tz_astore, tz_lstore, tz_dstore, tz_iinc, tz_i1, tz_i2, tz_i2z, tz_l2, tz_l2z, tz_i2l, tz_l2i, tz_lcmp, tz_i2d, tz_d2, tz_dcmp, tz_dup, tz_dup2, tz_pop, tz_if, tz_icmp, tz_null, tz_goto, tz_sw, tz_getf, tz_puti, tz_putz, tz_putr, tz_putl, tz_iaload, tz_baload, tz_laload, tz_aaload, tz_iastore, tz_bastore, tz_lastore, tz_aastore, tz_alen, tz_new, tz_newa, tz_oinit, tz_iret, tz_zret, tz_lret, tz_dret, tz_aret, tz_vret, tz_throw, tz_callS, tz_callV, tz_callI, tz_callR, tz_pureS, tz_pureV, tz_callVH, lg, lset, lkill, lst1, lst2, entL, isRf, is1, vl, va_rf_none, va_rf_some, isRf_rf, is1_rf, i0, i1, bI_eq0, bI_eq1, nm_em, nI_eqP, nI_leP, nI_ltP, nN_e1, nN_e2, nN_l1, nN_l2, nN_l3, nN_l4, nI_add, pk_mul, vp_inN, nI_cl, n01, n10, P_i, P_ii, P_iii, f_Mo_at, f_Mo_map, f_Mo_contact, f_Mo_within, f_Mo_isPort, f_Hp_endpoint, f_Hp_nodeOf, f_Hp_portOf, f_Ma_max, f_Ma_min, f_Hp_isSetting, popN, rok, a1, noX, swc, mL, if_true, if_false, ↓reduceIte, cond_true, cond_false, true_and, and_true, List.length_cons, List.length_nil, List.nil_append, List.cons_append, List.append_nil, Option.toList, Nat.reduceEqDiff, Bool.false_eq_true, reduceCtorEq, Nat.reduceAdd, Nat.reduceLT, Nat.reduceLeDiff, Nat.reduceSub, List.replicate, Nat.zero_add, Nat.lt_add_one, Nat.le_refl, Nat.zero_le, Nat.succ_ne_zero, not_false_eq_true, not_true_eq_false, false_implies, true_implies, forall_const, imp_self, true_or, or_true, eq_self, sI_zw, zw_zw, hI_zw, tg_zw, ln_zw, hR_zw, hL_zw, hN_zw, hM_zw, upd_s, upd_u, upd_ne, Classical.not_not, k_Mo_digest, h1]; try clear hgo9 hW9)
  refine lp_dg4 (h := zw h a (upd (hI h a) 0 (nI 0))) (bf := bf) (n := n) ⟨h1, s1, s2, s3', e5, hn⟩ ?_ n 0 (by omega)
  rw [rb, rz]
  exact hQ _
end
