/-! THE REFERENCE: what writes -/
theorem rd_ne {a b : Nat} (hne : b ≠ a) : ∀ (h : AH) (f : Nat → Int32), hI (zw h a f) b = hI h b := fun h f => hI_zw_ne f hne
theorem wr_cm {a b : Nat} (hne : a ≠ b) : ∀ (h : AH) (f g : Nat → Int32), zw (zw h a f) b g = zw (zw h b g) a f := fun h f g => zw_comm hne h f g
def k_Mo_fresh (l : Launch) (G : Gc) (pc : Nat) : Tr :=
  if pc < 14 then
   if pc < 6 then
    if pc < 2 then
     if pc < 1 then
      if pc = 0 then tz_const 1 (.int (nI 0)) else dead
     else
      if pc = 1 then tz_istore 2 1 else dead
    else
     if pc < 3 then
      if pc = 2 then tz_iload 3 1 else dead
     else
      if pc = 3 then tz_const 6 (.int (nI 2096)) else dead
   else
    if pc < 10 then
     if pc < 9 then
      if pc = 6 then tz_icmp 9 22 (fun a b => b ≤ a) else dead
     else
      if pc = 9 then tz_aload 10 0 else dead
    else
     if pc < 13 then
      if pc = 10 then tz_getf 13 7 1 1 else dead
     else
      if pc = 13 then tz_iload 14 1 else dead
  else
   if pc < 22 then
    if pc < 16 then
     if pc < 15 then
      if pc = 14 then tz_const 15 (.int (nI 0)) else dead
     else
      if pc = 15 then tz_iastore 16 else dead
    else
     if pc < 19 then
      if pc = 16 then tz_iinc 19 1 (nI 1) else dead
     else
      if pc = 19 then tz_goto 2 else dead
   else
    if pc < 24 then
     if pc < 23 then
      if pc = 22 then tz_aload 23 0 else dead
     else
      if pc = 23 then tz_const 24 (.int (nI 0)) else dead
    else
     if pc < 27 then
      if pc = 24 then tz_putz 27 7 3 else dead
     else
      if pc = 27 then tz_vret else dead
set_option maxRecDepth 100000 in
theorem T_Mo_fresh (l : Launch) (G : Gc) : TabOK l G M_Mo_fresh (k_Mo_fresh l G) := by
  intro pc
  unfold k_Mo_fresh
  exact
   (sd_br
    (sd_br
     (sd_br
      (sd_br
       (sd_lf (sd_iconst (by decide +kernel : decode prog_9_method_11_code 0 = .ok (.iconst 0, 1)) (by decide +kernel)))
       (sd_lf (sd_istore_n (k := 1) (by decide +kernel : decode prog_9_method_11_code 1 = .ok (.istore_n 1, 1)))))
      (sd_br
       (sd_lf (sd_iload_n (k := 1) (by decide +kernel : decode prog_9_method_11_code 2 = .ok (.iload_n 1, 1))))
       (sd_lf (sd_sipush (by decide +kernel : decode prog_9_method_11_code 3 = .ok (.sipush 2096, 3)) (by decide +kernel)))))
     (sd_br
      (sd_br
       (sd_lf (sd_icmp_ge (by decide +kernel : decode prog_9_method_11_code 6 = .ok (.if_icmp .ge 16, 3)) (by decide +kernel)))
       (sd_lf (sd_aload_n (k := 0) (by decide +kernel : decode prog_9_method_11_code 9 = .ok (.aload_n 0, 1)))))
      (sd_br
       (sd_lf (sd_getf (q := (RX7, TX7, 16)) (by decide +kernel : decode prog_9_method_11_code 10 = .ok (.getfield 7, 3)) rfl (by decide +kernel) (gm 913 (by decide +kernel) rfl)))
       (sd_lf (sd_iload_n (k := 1) (by decide +kernel : decode prog_9_method_11_code 13 = .ok (.iload_n 1, 1)))))))
    (sd_br
     (sd_br
      (sd_br
       (sd_lf (sd_iconst (by decide +kernel : decode prog_9_method_11_code 14 = .ok (.iconst 0, 1)) (by decide +kernel)))
       (sd_lf (sd_iastore (by decide +kernel : decode prog_9_method_11_code 15 = .ok (.iastore, 1)))))
      (sd_br
       (sd_lf (sd_iinc (by decide +kernel : decode prog_9_method_11_code 16 = .ok (.iinc 1 1, 3)) (by decide +kernel)))
       (sd_lf (sd_goto (by decide +kernel : decode prog_9_method_11_code 19 = .ok (.goto (-17), 3)) (by decide +kernel)))))
     (sd_br
      (sd_br
       (sd_lf (sd_aload_n (k := 0) (by decide +kernel : decode prog_9_method_11_code 22 = .ok (.aload_n 0, 1))))
       (sd_lf (sd_iconst (by decide +kernel : decode prog_9_method_11_code 23 = .ok (.iconst 0, 1)) (by decide +kernel))))
      (sd_br
       (sd_lf (sd_putz (q := (RX7, TX7, 16)) (by decide +kernel : decode prog_9_method_11_code 24 = .ok (.putfield 48, 3)) rfl (by decide +kernel) (gm 915 (by decide +kernel) rfl) rfl rfl (Or.inl rfl)))
       (sd_lf (sd_vret (by decide +kernel : decode prog_9_method_11_code 27 = .ok (.return_, 1)) rfl))))))
def k_Mo_begin (l : Launch) (G : Gc) (pc : Nat) : Tr :=
  if pc < 10 then
   if pc < 5 then
    if pc < 1 then
     if pc = 0 then tz_aload 1 0 else dead
    else
     if pc < 2 then
      if pc = 1 then tz_const 2 (.int (nI 0)) else dead
     else
      if pc = 2 then tz_puti 5 7 0 else dead
   else
    if pc < 6 then
     if pc = 5 then tz_aload 6 0 else dead
    else
     if pc < 9 then
      if pc = 6 then tz_getf 9 7 1 1 else dead
     else
      if pc = 9 then tz_const 10 (.int (nI 1)) else dead
  else
   if pc < 13 then
    if pc < 11 then
     if pc = 10 then tz_iaload 11 else dead
    else
     if pc < 12 then
      if pc = 11 then tz_istore 12 1 else dead
     else
      if pc = 12 then tz_aload 13 0 else dead
   else
    if pc < 16 then
     if pc = 13 then tz_callV l G 16 M_Mo_fresh 0 7 else dead
    else
     if pc < 17 then
      if pc = 16 then tz_iload 17 1 else dead
     else
      if pc = 17 then tz_iret else dead
set_option maxRecDepth 100000 in
theorem T_Mo_begin (l : Launch) (G : Gc) : TabOK l G M_Mo_begin (k_Mo_begin l G) := by
  intro pc
  unfold k_Mo_begin
  exact
   (sd_br
    (sd_br
     (sd_br
      (sd_lf (sd_aload_n (k := 0) (by decide +kernel : decode prog_9_method_12_code 0 = .ok (.aload_n 0, 1))))
      (sd_br
       (sd_lf (sd_iconst (by decide +kernel : decode prog_9_method_12_code 1 = .ok (.iconst 0, 1)) (by decide +kernel)))
       (sd_lf (sd_puti (q := (RX7, TX7, 16)) (by decide +kernel : decode prog_9_method_12_code 2 = .ok (.putfield 32, 3)) rfl (by decide +kernel) (gm 912 (by decide +kernel) rfl) rfl rfl (Or.inl rfl)))))
     (sd_br
      (sd_lf (sd_aload_n (k := 0) (by decide +kernel : decode prog_9_method_12_code 5 = .ok (.aload_n 0, 1))))
      (sd_br
       (sd_lf (sd_getf (q := (RX7, TX7, 16)) (by decide +kernel : decode prog_9_method_12_code 6 = .ok (.getfield 7, 3)) rfl (by decide +kernel) (gm 913 (by decide +kernel) rfl)))
       (sd_lf (sd_iconst (by decide +kernel : decode prog_9_method_12_code 9 = .ok (.iconst 1, 1)) (by decide +kernel))))))
    (sd_br
     (sd_br
      (sd_lf (sd_iaload (by decide +kernel : decode prog_9_method_12_code 10 = .ok (.iaload, 1))))
      (sd_br
       (sd_lf (sd_istore_n (k := 1) (by decide +kernel : decode prog_9_method_12_code 11 = .ok (.istore_n 1, 1))))
       (sd_lf (sd_aload_n (k := 0) (by decide +kernel : decode prog_9_method_12_code 12 = .ok (.aload_n 0, 1))))))
     (sd_br
      (sd_lf (sd_callV (q := (RX7, TX7, 16)) (by decide +kernel : decode prog_9_method_12_code 13 = .ok (.invokevirtual 52, 3)) ok_Mo_fresh (gm 970 (by decide +kernel) rfl) (gm 972 (by decide +kernel) rfl) (gm 28 (by decide +kernel) rfl) rfl rfl (by decide +kernel) rfl rfl))
      (sd_br
       (sd_lf (sd_iload_n (k := 1) (by decide +kernel : decode prog_9_method_12_code 16 = .ok (.iload_n 1, 1))))
       (sd_lf (sd_iret (by decide +kernel : decode prog_9_method_12_code 17 = .ok (.ireturn, 1)) rfl))))))
def k_Mo_add (l : Launch) (G : Gc) (pc : Nat) : Tr :=
  if pc < 29 then
   if pc < 14 then
    if pc < 7 then
     if pc < 4 then
      if pc < 1 then
       if pc = 0 then tz_aload 1 0 else dead
      else
       if pc = 1 then tz_getf 4 7 1 1 else dead
     else
      if pc < 5 then
       if pc = 4 then tz_const 5 (.int (nI 1)) else dead
      else
       if pc < 6 then
        if pc = 5 then tz_iaload 6 else dead
       else
        if pc = 6 then tz_istore 7 2 else dead
    else
     if pc < 11 then
      if pc < 8 then
       if pc = 7 then tz_aload 8 0 else dead
      else
       if pc = 8 then tz_getf 11 7 1 1 else dead
     else
      if pc < 12 then
       if pc = 11 then tz_const 12 (.int (nI 1)) else dead
      else
       if pc < 13 then
        if pc = 12 then tz_dup2 13 else dead
       else
        if pc = 13 then tz_iaload 14 else dead
   else
    if pc < 21 then
     if pc < 16 then
      if pc < 15 then
       if pc = 14 then tz_const 15 (.int (nI 1)) else dead
      else
       if pc = 15 then tz_i2 16 (fun a b => a + b) else dead
     else
      if pc < 17 then
       if pc = 16 then tz_iastore 17 else dead
      else
       if pc < 18 then
        if pc = 17 then tz_aload 18 0 else dead
       else
        if pc = 18 then tz_getf 21 7 1 1 else dead
    else
     if pc < 26 then
      if pc < 22 then
       if pc = 21 then tz_iload 22 2 else dead
      else
       if pc < 23 then
        if pc = 22 then tz_const 23 (.int (nI 1)) else dead
       else
        if pc = 23 then tz_pureS 26 2 P_Mo_at f_Mo_at else dead
     else
      if pc < 27 then
       if pc = 26 then tz_iload 27 1 else dead
      else
       if pc < 28 then
        if pc = 27 then tz_iastore 28 else dead
       else
        if pc = 28 then tz_aload 29 0 else dead
  else
   if pc < 50 then
    if pc < 39 then
     if pc < 33 then
      if pc < 32 then
       if pc = 29 then tz_getf 32 7 1 1 else dead
      else
       if pc = 32 then tz_iload 33 2 else dead
     else
      if pc < 35 then
       if pc = 33 then tz_const 35 (.int (nI 12)) else dead
      else
       if pc < 38 then
        if pc = 35 then tz_pureS 38 2 P_Mo_at f_Mo_at else dead
       else
        if pc = 38 then tz_const 39 (.int (nN)) else dead
    else
     if pc < 44 then
      if pc < 40 then
       if pc = 39 then tz_iastore 40 else dead
      else
       if pc < 41 then
        if pc = 40 then tz_aload 41 0 else dead
       else
        if pc = 41 then tz_getf 44 7 1 1 else dead
     else
      if pc < 45 then
       if pc = 44 then tz_iload 45 2 else dead
      else
       if pc < 47 then
        if pc = 45 then tz_const 47 (.int (nI 13)) else dead
       else
        if pc = 47 then tz_pureS 50 2 P_Mo_at f_Mo_at else dead
   else
    if pc < 57 then
     if pc < 52 then
      if pc < 51 then
       if pc = 50 then tz_const 51 (.int (nN)) else dead
      else
       if pc = 51 then tz_iastore 52 else dead
     else
      if pc < 53 then
       if pc = 52 then tz_aload 53 0 else dead
      else
       if pc < 56 then
        if pc = 53 then tz_getf 56 7 1 1 else dead
       else
        if pc = 56 then tz_iload 57 2 else dead
    else
     if pc < 63 then
      if pc < 59 then
       if pc = 57 then tz_const 59 (.int (nI 14)) else dead
      else
       if pc < 62 then
        if pc = 59 then tz_pureS 62 2 P_Mo_at f_Mo_at else dead
       else
        if pc = 62 then tz_const 63 (.int (nN)) else dead
     else
      if pc < 64 then
       if pc = 63 then tz_iastore 64 else dead
      else
       if pc < 65 then
        if pc = 64 then tz_iload 65 2 else dead
       else
        if pc = 65 then tz_iret else dead
set_option maxRecDepth 100000 in
theorem T_Mo_add (l : Launch) (G : Gc) : TabOK l G M_Mo_add (k_Mo_add l G) := by
  intro pc
  unfold k_Mo_add
  exact
   (sd_br
    (sd_br
     (sd_br
      (sd_br
       (sd_br
        (sd_lf (sd_aload_n (k := 0) (by decide +kernel : decode prog_9_method_14_code 0 = .ok (.aload_n 0, 1))))
        (sd_lf (sd_getf (q := (RX7, TX7, 16)) (by decide +kernel : decode prog_9_method_14_code 1 = .ok (.getfield 7, 3)) rfl (by decide +kernel) (gm 913 (by decide +kernel) rfl))))
       (sd_br
        (sd_lf (sd_iconst (by decide +kernel : decode prog_9_method_14_code 4 = .ok (.iconst 1, 1)) (by decide +kernel)))
        (sd_br
         (sd_lf (sd_iaload (by decide +kernel : decode prog_9_method_14_code 5 = .ok (.iaload, 1))))
         (sd_lf (sd_istore_n (k := 2) (by decide +kernel : decode prog_9_method_14_code 6 = .ok (.istore_n 2, 1)))))))
      (sd_br
       (sd_br
        (sd_lf (sd_aload_n (k := 0) (by decide +kernel : decode prog_9_method_14_code 7 = .ok (.aload_n 0, 1))))
        (sd_lf (sd_getf (q := (RX7, TX7, 16)) (by decide +kernel : decode prog_9_method_14_code 8 = .ok (.getfield 7, 3)) rfl (by decide +kernel) (gm 913 (by decide +kernel) rfl))))
       (sd_br
        (sd_lf (sd_iconst (by decide +kernel : decode prog_9_method_14_code 11 = .ok (.iconst 1, 1)) (by decide +kernel)))
        (sd_br
         (sd_lf (sd_dup2 (by decide +kernel : decode prog_9_method_14_code 12 = .ok (.dup2, 1))))
         (sd_lf (sd_iaload (by decide +kernel : decode prog_9_method_14_code 13 = .ok (.iaload, 1))))))))
     (sd_br
      (sd_br
       (sd_br
        (sd_lf (sd_iconst (by decide +kernel : decode prog_9_method_14_code 14 = .ok (.iconst 1, 1)) (by decide +kernel)))
        (sd_lf (sd_iadd (by decide +kernel : decode prog_9_method_14_code 15 = .ok (.iadd, 1)))))
       (sd_br
        (sd_lf (sd_iastore (by decide +kernel : decode prog_9_method_14_code 16 = .ok (.iastore, 1))))
        (sd_br
         (sd_lf (sd_aload_n (k := 0) (by decide +kernel : decode prog_9_method_14_code 17 = .ok (.aload_n 0, 1))))
         (sd_lf (sd_getf (q := (RX7, TX7, 16)) (by decide +kernel : decode prog_9_method_14_code 18 = .ok (.getfield 7, 3)) rfl (by decide +kernel) (gm 913 (by decide +kernel) rfl))))))
      (sd_br
       (sd_br
        (sd_lf (sd_iload_n (k := 2) (by decide +kernel : decode prog_9_method_14_code 21 = .ok (.iload_n 2, 1))))
        (sd_br
         (sd_lf (sd_iconst (by decide +kernel : decode prog_9_method_14_code 22 = .ok (.iconst 1, 1)) (by decide +kernel)))
         (sd_lf (sd_pureS (sd_callS (by decide +kernel : decode prog_9_method_14_code 23 = .ok (.invokestatic 44, 3)) ok_Mo_at (gm 993 (by decide +kernel) rfl) (gm 994 (by decide +kernel) rfl) (by decide +kernel) rfl rfl) c_Mo_at))))
       (sd_br
        (sd_lf (sd_iload_n (k := 1) (by decide +kernel : decode prog_9_method_14_code 26 = .ok (.iload_n 1, 1))))
        (sd_br
         (sd_lf (sd_iastore (by decide +kernel : decode prog_9_method_14_code 27 = .ok (.iastore, 1))))
         (sd_lf (sd_aload_n (k := 0) (by decide +kernel : decode prog_9_method_14_code 28 = .ok (.aload_n 0, 1)))))))))
    (sd_br
     (sd_br
      (sd_br
       (sd_br
        (sd_lf (sd_getf (q := (RX7, TX7, 16)) (by decide +kernel : decode prog_9_method_14_code 29 = .ok (.getfield 7, 3)) rfl (by decide +kernel) (gm 913 (by decide +kernel) rfl)))
        (sd_lf (sd_iload_n (k := 2) (by decide +kernel : decode prog_9_method_14_code 32 = .ok (.iload_n 2, 1)))))
       (sd_br
        (sd_lf (sd_bipush (by decide +kernel : decode prog_9_method_14_code 33 = .ok (.bipush 12, 2)) (by decide +kernel)))
        (sd_br
         (sd_lf (sd_pureS (sd_callS (by decide +kernel : decode prog_9_method_14_code 35 = .ok (.invokestatic 44, 3)) ok_Mo_at (gm 993 (by decide +kernel) rfl) (gm 994 (by decide +kernel) rfl) (by decide +kernel) rfl rfl) c_Mo_at))
         (sd_lf (sd_iconst (by decide +kernel : decode prog_9_method_14_code 38 = .ok (.iconst (-1), 1)) (by decide +kernel))))))
      (sd_br
       (sd_br
        (sd_lf (sd_iastore (by decide +kernel : decode prog_9_method_14_code 39 = .ok (.iastore, 1))))
        (sd_br
         (sd_lf (sd_aload_n (k := 0) (by decide +kernel : decode prog_9_method_14_code 40 = .ok (.aload_n 0, 1))))
         (sd_lf (sd_getf (q := (RX7, TX7, 16)) (by decide +kernel : decode prog_9_method_14_code 41 = .ok (.getfield 7, 3)) rfl (by decide +kernel) (gm 913 (by decide +kernel) rfl)))))
       (sd_br
        (sd_lf (sd_iload_n (k := 2) (by decide +kernel : decode prog_9_method_14_code 44 = .ok (.iload_n 2, 1))))
        (sd_br
         (sd_lf (sd_bipush (by decide +kernel : decode prog_9_method_14_code 45 = .ok (.bipush 13, 2)) (by decide +kernel)))
         (sd_lf (sd_pureS (sd_callS (by decide +kernel : decode prog_9_method_14_code 47 = .ok (.invokestatic 44, 3)) ok_Mo_at (gm 993 (by decide +kernel) rfl) (gm 994 (by decide +kernel) rfl) (by decide +kernel) rfl rfl) c_Mo_at))))))
     (sd_br
      (sd_br
       (sd_br
        (sd_lf (sd_iconst (by decide +kernel : decode prog_9_method_14_code 50 = .ok (.iconst (-1), 1)) (by decide +kernel)))
        (sd_lf (sd_iastore (by decide +kernel : decode prog_9_method_14_code 51 = .ok (.iastore, 1)))))
       (sd_br
        (sd_lf (sd_aload_n (k := 0) (by decide +kernel : decode prog_9_method_14_code 52 = .ok (.aload_n 0, 1))))
        (sd_br
         (sd_lf (sd_getf (q := (RX7, TX7, 16)) (by decide +kernel : decode prog_9_method_14_code 53 = .ok (.getfield 7, 3)) rfl (by decide +kernel) (gm 913 (by decide +kernel) rfl)))
         (sd_lf (sd_iload_n (k := 2) (by decide +kernel : decode prog_9_method_14_code 56 = .ok (.iload_n 2, 1)))))))
      (sd_br
       (sd_br
        (sd_lf (sd_bipush (by decide +kernel : decode prog_9_method_14_code 57 = .ok (.bipush 14, 2)) (by decide +kernel)))
        (sd_br
         (sd_lf (sd_pureS (sd_callS (by decide +kernel : decode prog_9_method_14_code 59 = .ok (.invokestatic 44, 3)) ok_Mo_at (gm 993 (by decide +kernel) rfl) (gm 994 (by decide +kernel) rfl) (by decide +kernel) rfl rfl) c_Mo_at))
         (sd_lf (sd_iconst (by decide +kernel : decode prog_9_method_14_code 62 = .ok (.iconst (-1), 1)) (by decide +kernel)))))
       (sd_br
        (sd_lf (sd_iastore (by decide +kernel : decode prog_9_method_14_code 63 = .ok (.iastore, 1))))
        (sd_br
         (sd_lf (sd_iload_n (k := 2) (by decide +kernel : decode prog_9_method_14_code 64 = .ok (.iload_n 2, 1))))
         (sd_lf (sd_iret (by decide +kernel : decode prog_9_method_14_code 65 = .ok (.ireturn, 1)) rfl))))))))
def k_Mo_addTranslatorTo (l : Launch) (G : Gc) (pc : Nat) : Tr :=
  if pc < 56 then
   if pc < 29 then
    if pc < 14 then
     if pc < 7 then
      if pc < 2 then
       if pc < 1 then
        if pc = 0 then tz_aload 1 0 else dead
       else
        if pc = 1 then tz_iload 2 1 else dead
      else
       if pc < 5 then
        if pc = 2 then tz_callV l G 5 M_Mo_add 1 7 else dead
       else
        if pc = 5 then tz_istore 7 5 else dead
     else
      if pc < 11 then
       if pc < 8 then
        if pc = 7 then tz_aload 8 0 else dead
       else
        if pc = 8 then tz_getf 11 7 1 1 else dead
      else
       if pc < 13 then
        if pc = 11 then tz_iload 13 5 else dead
       else
        if pc = 13 then tz_const 14 (.int (nI 0)) else dead
    else
     if pc < 20 then
      if pc < 18 then
       if pc < 17 then
        if pc = 14 then tz_pureS 17 2 P_Mo_at f_Mo_at else dead
       else
        if pc = 17 then tz_const 18 (.int (nI 1)) else dead
      else
       if pc < 19 then
        if pc = 18 then tz_iastore 19 else dead
       else
        if pc = 19 then tz_aload 20 0 else dead
     else
      if pc < 25 then
       if pc < 23 then
        if pc = 20 then tz_getf 23 7 1 1 else dead
       else
        if pc = 23 then tz_iload 25 5 else dead
      else
       if pc < 26 then
        if pc = 25 then tz_const 26 (.int (nI 2)) else dead
       else
        if pc = 26 then tz_pureS 29 2 P_Mo_at f_Mo_at else dead
   else
    if pc < 42 then
     if pc < 35 then
      if pc < 31 then
       if pc < 30 then
        if pc = 29 then tz_iload 30 2 else dead
       else
        if pc = 30 then tz_iastore 31 else dead
      else
       if pc < 32 then
        if pc = 31 then tz_aload 32 0 else dead
       else
        if pc = 32 then tz_getf 35 7 1 1 else dead
     else
      if pc < 38 then
       if pc < 37 then
        if pc = 35 then tz_iload 37 5 else dead
       else
        if pc = 37 then tz_const 38 (.int (nI 3)) else dead
      else
       if pc < 41 then
        if pc = 38 then tz_pureS 41 2 P_Mo_at f_Mo_at else dead
       else
        if pc = 41 then tz_iload 42 3 else dead
    else
     if pc < 49 then
      if pc < 44 then
       if pc < 43 then
        if pc = 42 then tz_iastore 43 else dead
       else
        if pc = 43 then tz_aload 44 0 else dead
      else
       if pc < 47 then
        if pc = 44 then tz_getf 47 7 1 1 else dead
       else
        if pc = 47 then tz_iload 49 5 else dead
     else
      if pc < 53 then
       if pc < 50 then
        if pc = 49 then tz_const 50 (.int (nI 4)) else dead
       else
        if pc = 50 then tz_pureS 53 2 P_Mo_at f_Mo_at else dead
      else
       if pc < 55 then
        if pc = 53 then tz_iload 55 4 else dead
       else
        if pc = 55 then tz_iastore 56 else dead
  else
   if pc < 86 then
    if pc < 69 then
     if pc < 63 then
      if pc < 60 then
       if pc < 57 then
        if pc = 56 then tz_aload 57 0 else dead
       else
        if pc = 57 then tz_getf 60 7 1 1 else dead
      else
       if pc < 62 then
        if pc = 60 then tz_iload 62 5 else dead
       else
        if pc = 62 then tz_const 63 (.int (nI 5)) else dead
     else
      if pc < 67 then
       if pc < 66 then
        if pc = 63 then tz_pureS 66 2 P_Mo_at f_Mo_at else dead
       else
        if pc = 66 then tz_const 67 (.int (nI 1)) else dead
      else
       if pc < 68 then
        if pc = 67 then tz_iastore 68 else dead
       else
        if pc = 68 then tz_aload 69 0 else dead
    else
     if pc < 79 then
      if pc < 74 then
       if pc < 72 then
        if pc = 69 then tz_getf 72 7 1 1 else dead
       else
        if pc = 72 then tz_iload 74 5 else dead
      else
       if pc < 76 then
        if pc = 74 then tz_const 76 (.int (nI 6)) else dead
       else
        if pc = 76 then tz_pureS 79 2 P_Mo_at f_Mo_at else dead
     else
      if pc < 82 then
       if pc < 81 then
        if pc = 79 then tz_const 81 (.int (nI 60)) else dead
       else
        if pc = 81 then tz_iastore 82 else dead
      else
       if pc < 83 then
        if pc = 82 then tz_aload 83 0 else dead
       else
        if pc = 83 then tz_getf 86 7 1 1 else dead
   else
    if pc < 103 then
     if pc < 96 then
      if pc < 90 then
       if pc < 88 then
        if pc = 86 then tz_iload 88 5 else dead
       else
        if pc = 88 then tz_const 90 (.int (nI 9)) else dead
      else
       if pc < 93 then
        if pc = 90 then tz_pureS 93 2 P_Mo_at f_Mo_at else dead
       else
        if pc = 93 then tz_const 96 (.int (nI 1000)) else dead
     else
      if pc < 98 then
       if pc < 97 then
        if pc = 96 then tz_iastore 97 else dead
       else
        if pc = 97 then tz_aload 98 0 else dead
      else
       if pc < 101 then
        if pc = 98 then tz_getf 101 7 1 1 else dead
       else
        if pc = 101 then tz_iload 103 5 else dead
    else
     if pc < 111 then
      if pc < 108 then
       if pc < 105 then
        if pc = 103 then tz_const 105 (.int (nI 10)) else dead
       else
        if pc = 105 then tz_pureS 108 2 P_Mo_at f_Mo_at else dead
      else
       if pc < 110 then
        if pc = 108 then tz_iload 110 5 else dead
       else
        if pc = 110 then tz_const 111 (.int (nI 1)) else dead
     else
      if pc < 113 then
       if pc < 112 then
        if pc = 111 then tz_i2 112 (fun a b => a + b) else dead
       else
        if pc = 112 then tz_iastore 113 else dead
      else
       if pc < 115 then
        if pc = 113 then tz_iload 115 5 else dead
       else
        if pc = 115 then tz_iret else dead
set_option maxRecDepth 100000 in
theorem T_Mo_addTranslatorTo (l : Launch) (G : Gc) : TabOK l G M_Mo_addTranslatorTo (k_Mo_addTranslatorTo l G) := by
  intro pc
  unfold k_Mo_addTranslatorTo
  exact
   (sd_br
    (sd_br
     (sd_br
      (sd_br
       (sd_br
        (sd_br
         (sd_lf (sd_aload_n (k := 0) (by decide +kernel : decode prog_9_method_15_code 0 = .ok (.aload_n 0, 1))))
         (sd_lf (sd_iload_n (k := 1) (by decide +kernel : decode prog_9_method_15_code 1 = .ok (.iload_n 1, 1)))))
        (sd_br
         (sd_lf (sd_callV (q := (RX7, TX7, 16)) (by decide +kernel : decode prog_9_method_15_code 2 = .ok (.invokevirtual 58, 3)) ok_Mo_add (gm 996 (by decide +kernel) rfl) (gm 998 (by decide +kernel) rfl) (gm 32 (by decide +kernel) rfl) rfl rfl (by decide +kernel) rfl rfl))
         (sd_lf (sd_istore (by decide +kernel : decode prog_9_method_15_code 5 = .ok (.istore 5, 2))))))
       (sd_br
        (sd_br
         (sd_lf (sd_aload_n (k := 0) (by decide +kernel : decode prog_9_method_15_code 7 = .ok (.aload_n 0, 1))))
         (sd_lf (sd_getf (q := (RX7, TX7, 16)) (by decide +kernel : decode prog_9_method_15_code 8 = .ok (.getfield 7, 3)) rfl (by decide +kernel) (gm 913 (by decide +kernel) rfl))))
        (sd_br
         (sd_lf (sd_iload (by decide +kernel : decode prog_9_method_15_code 11 = .ok (.iload 5, 2))))
         (sd_lf (sd_iconst (by decide +kernel : decode prog_9_method_15_code 13 = .ok (.iconst 0, 1)) (by decide +kernel))))))
      (sd_br
       (sd_br
        (sd_br
         (sd_lf (sd_pureS (sd_callS (by decide +kernel : decode prog_9_method_15_code 14 = .ok (.invokestatic 44, 3)) ok_Mo_at (gm 993 (by decide +kernel) rfl) (gm 994 (by decide +kernel) rfl) (by decide +kernel) rfl rfl) c_Mo_at))
         (sd_lf (sd_iconst (by decide +kernel : decode prog_9_method_15_code 17 = .ok (.iconst 1, 1)) (by decide +kernel))))
        (sd_br
         (sd_lf (sd_iastore (by decide +kernel : decode prog_9_method_15_code 18 = .ok (.iastore, 1))))
         (sd_lf (sd_aload_n (k := 0) (by decide +kernel : decode prog_9_method_15_code 19 = .ok (.aload_n 0, 1))))))
       (sd_br
        (sd_br
         (sd_lf (sd_getf (q := (RX7, TX7, 16)) (by decide +kernel : decode prog_9_method_15_code 20 = .ok (.getfield 7, 3)) rfl (by decide +kernel) (gm 913 (by decide +kernel) rfl)))
         (sd_lf (sd_iload (by decide +kernel : decode prog_9_method_15_code 23 = .ok (.iload 5, 2)))))
        (sd_br
         (sd_lf (sd_iconst (by decide +kernel : decode prog_9_method_15_code 25 = .ok (.iconst 2, 1)) (by decide +kernel)))
         (sd_lf (sd_pureS (sd_callS (by decide +kernel : decode prog_9_method_15_code 26 = .ok (.invokestatic 44, 3)) ok_Mo_at (gm 993 (by decide +kernel) rfl) (gm 994 (by decide +kernel) rfl) (by decide +kernel) rfl rfl) c_Mo_at))))))
     (sd_br
      (sd_br
       (sd_br
        (sd_br
         (sd_lf (sd_iload_n (k := 2) (by decide +kernel : decode prog_9_method_15_code 29 = .ok (.iload_n 2, 1))))
         (sd_lf (sd_iastore (by decide +kernel : decode prog_9_method_15_code 30 = .ok (.iastore, 1)))))
        (sd_br
         (sd_lf (sd_aload_n (k := 0) (by decide +kernel : decode prog_9_method_15_code 31 = .ok (.aload_n 0, 1))))
         (sd_lf (sd_getf (q := (RX7, TX7, 16)) (by decide +kernel : decode prog_9_method_15_code 32 = .ok (.getfield 7, 3)) rfl (by decide +kernel) (gm 913 (by decide +kernel) rfl)))))
       (sd_br
        (sd_br
         (sd_lf (sd_iload (by decide +kernel : decode prog_9_method_15_code 35 = .ok (.iload 5, 2))))
         (sd_lf (sd_iconst (by decide +kernel : decode prog_9_method_15_code 37 = .ok (.iconst 3, 1)) (by decide +kernel))))
        (sd_br
         (sd_lf (sd_pureS (sd_callS (by decide +kernel : decode prog_9_method_15_code 38 = .ok (.invokestatic 44, 3)) ok_Mo_at (gm 993 (by decide +kernel) rfl) (gm 994 (by decide +kernel) rfl) (by decide +kernel) rfl rfl) c_Mo_at))
         (sd_lf (sd_iload_n (k := 3) (by decide +kernel : decode prog_9_method_15_code 41 = .ok (.iload_n 3, 1)))))))
      (sd_br
       (sd_br
        (sd_br
         (sd_lf (sd_iastore (by decide +kernel : decode prog_9_method_15_code 42 = .ok (.iastore, 1))))
         (sd_lf (sd_aload_n (k := 0) (by decide +kernel : decode prog_9_method_15_code 43 = .ok (.aload_n 0, 1)))))
        (sd_br
         (sd_lf (sd_getf (q := (RX7, TX7, 16)) (by decide +kernel : decode prog_9_method_15_code 44 = .ok (.getfield 7, 3)) rfl (by decide +kernel) (gm 913 (by decide +kernel) rfl)))
         (sd_lf (sd_iload (by decide +kernel : decode prog_9_method_15_code 47 = .ok (.iload 5, 2))))))
       (sd_br
        (sd_br
         (sd_lf (sd_iconst (by decide +kernel : decode prog_9_method_15_code 49 = .ok (.iconst 4, 1)) (by decide +kernel)))
         (sd_lf (sd_pureS (sd_callS (by decide +kernel : decode prog_9_method_15_code 50 = .ok (.invokestatic 44, 3)) ok_Mo_at (gm 993 (by decide +kernel) rfl) (gm 994 (by decide +kernel) rfl) (by decide +kernel) rfl rfl) c_Mo_at)))
        (sd_br
         (sd_lf (sd_iload (by decide +kernel : decode prog_9_method_15_code 53 = .ok (.iload 4, 2))))
         (sd_lf (sd_iastore (by decide +kernel : decode prog_9_method_15_code 55 = .ok (.iastore, 1)))))))))
    (sd_br
     (sd_br
      (sd_br
       (sd_br
        (sd_br
         (sd_lf (sd_aload_n (k := 0) (by decide +kernel : decode prog_9_method_15_code 56 = .ok (.aload_n 0, 1))))
         (sd_lf (sd_getf (q := (RX7, TX7, 16)) (by decide +kernel : decode prog_9_method_15_code 57 = .ok (.getfield 7, 3)) rfl (by decide +kernel) (gm 913 (by decide +kernel) rfl))))
        (sd_br
         (sd_lf (sd_iload (by decide +kernel : decode prog_9_method_15_code 60 = .ok (.iload 5, 2))))
         (sd_lf (sd_iconst (by decide +kernel : decode prog_9_method_15_code 62 = .ok (.iconst 5, 1)) (by decide +kernel)))))
       (sd_br
        (sd_br
         (sd_lf (sd_pureS (sd_callS (by decide +kernel : decode prog_9_method_15_code 63 = .ok (.invokestatic 44, 3)) ok_Mo_at (gm 993 (by decide +kernel) rfl) (gm 994 (by decide +kernel) rfl) (by decide +kernel) rfl rfl) c_Mo_at))
         (sd_lf (sd_iconst (by decide +kernel : decode prog_9_method_15_code 66 = .ok (.iconst 1, 1)) (by decide +kernel))))
        (sd_br
         (sd_lf (sd_iastore (by decide +kernel : decode prog_9_method_15_code 67 = .ok (.iastore, 1))))
         (sd_lf (sd_aload_n (k := 0) (by decide +kernel : decode prog_9_method_15_code 68 = .ok (.aload_n 0, 1)))))))
      (sd_br
       (sd_br
        (sd_br
         (sd_lf (sd_getf (q := (RX7, TX7, 16)) (by decide +kernel : decode prog_9_method_15_code 69 = .ok (.getfield 7, 3)) rfl (by decide +kernel) (gm 913 (by decide +kernel) rfl)))
         (sd_lf (sd_iload (by decide +kernel : decode prog_9_method_15_code 72 = .ok (.iload 5, 2)))))
        (sd_br
         (sd_lf (sd_bipush (by decide +kernel : decode prog_9_method_15_code 74 = .ok (.bipush 6, 2)) (by decide +kernel)))
         (sd_lf (sd_pureS (sd_callS (by decide +kernel : decode prog_9_method_15_code 76 = .ok (.invokestatic 44, 3)) ok_Mo_at (gm 993 (by decide +kernel) rfl) (gm 994 (by decide +kernel) rfl) (by decide +kernel) rfl rfl) c_Mo_at))))
       (sd_br
        (sd_br
         (sd_lf (sd_bipush (by decide +kernel : decode prog_9_method_15_code 79 = .ok (.bipush 60, 2)) (by decide +kernel)))
         (sd_lf (sd_iastore (by decide +kernel : decode prog_9_method_15_code 81 = .ok (.iastore, 1)))))
        (sd_br
         (sd_lf (sd_aload_n (k := 0) (by decide +kernel : decode prog_9_method_15_code 82 = .ok (.aload_n 0, 1))))
         (sd_lf (sd_getf (q := (RX7, TX7, 16)) (by decide +kernel : decode prog_9_method_15_code 83 = .ok (.getfield 7, 3)) rfl (by decide +kernel) (gm 913 (by decide +kernel) rfl)))))))
     (sd_br
      (sd_br
       (sd_br
        (sd_br
         (sd_lf (sd_iload (by decide +kernel : decode prog_9_method_15_code 86 = .ok (.iload 5, 2))))
         (sd_lf (sd_bipush (by decide +kernel : decode prog_9_method_15_code 88 = .ok (.bipush 9, 2)) (by decide +kernel))))
        (sd_br
         (sd_lf (sd_pureS (sd_callS (by decide +kernel : decode prog_9_method_15_code 90 = .ok (.invokestatic 44, 3)) ok_Mo_at (gm 993 (by decide +kernel) rfl) (gm 994 (by decide +kernel) rfl) (by decide +kernel) rfl rfl) c_Mo_at))
         (sd_lf (sd_sipush (by decide +kernel : decode prog_9_method_15_code 93 = .ok (.sipush 1000, 3)) (by decide +kernel)))))
       (sd_br
        (sd_br
         (sd_lf (sd_iastore (by decide +kernel : decode prog_9_method_15_code 96 = .ok (.iastore, 1))))
         (sd_lf (sd_aload_n (k := 0) (by decide +kernel : decode prog_9_method_15_code 97 = .ok (.aload_n 0, 1)))))
        (sd_br
         (sd_lf (sd_getf (q := (RX7, TX7, 16)) (by decide +kernel : decode prog_9_method_15_code 98 = .ok (.getfield 7, 3)) rfl (by decide +kernel) (gm 913 (by decide +kernel) rfl)))
         (sd_lf (sd_iload (by decide +kernel : decode prog_9_method_15_code 101 = .ok (.iload 5, 2)))))))
      (sd_br
       (sd_br
        (sd_br
         (sd_lf (sd_bipush (by decide +kernel : decode prog_9_method_15_code 103 = .ok (.bipush 10, 2)) (by decide +kernel)))
         (sd_lf (sd_pureS (sd_callS (by decide +kernel : decode prog_9_method_15_code 105 = .ok (.invokestatic 44, 3)) ok_Mo_at (gm 993 (by decide +kernel) rfl) (gm 994 (by decide +kernel) rfl) (by decide +kernel) rfl rfl) c_Mo_at)))
        (sd_br
         (sd_lf (sd_iload (by decide +kernel : decode prog_9_method_15_code 108 = .ok (.iload 5, 2))))
         (sd_lf (sd_iconst (by decide +kernel : decode prog_9_method_15_code 110 = .ok (.iconst 1, 1)) (by decide +kernel)))))
       (sd_br
        (sd_br
         (sd_lf (sd_iadd (by decide +kernel : decode prog_9_method_15_code 111 = .ok (.iadd, 1))))
         (sd_lf (sd_iastore (by decide +kernel : decode prog_9_method_15_code 112 = .ok (.iastore, 1)))))
        (sd_br
         (sd_lf (sd_iload (by decide +kernel : decode prog_9_method_15_code 113 = .ok (.iload 5, 2))))
         (sd_lf (sd_iret (by decide +kernel : decode prog_9_method_15_code 115 = .ok (.ireturn, 1)) rfl))))))))
def k_Mo_addHost (l : Launch) (G : Gc) (pc : Nat) : Tr :=
  if pc < 24 then
   if pc < 10 then
    if pc < 3 then
     if pc < 1 then
      if pc = 0 then tz_aload 1 0 else dead
     else
      if pc < 2 then
       if pc = 1 then tz_aload 2 0 else dead
      else
       if pc = 2 then tz_iload 3 1 else dead
    else
     if pc < 6 then
      if pc = 3 then tz_pureV 6 1 7 P_Mo_isNet f_Mo_isNet else dead
     else
      if pc < 9 then
       if pc = 6 then tz_if 9 13 (fun a => ¬ a = 0) else dead
      else
       if pc = 9 then tz_const 10 (.int (nI 1)) else dead
   else
    if pc < 17 then
     if pc < 13 then
      if pc = 10 then tz_goto 29 else dead
     else
      if pc < 14 then
       if pc = 13 then tz_aload 14 0 else dead
      else
       if pc = 14 then tz_getf 17 7 1 1 else dead
    else
     if pc < 19 then
      if pc < 18 then
       if pc = 17 then tz_const 18 (.int (nI 1)) else dead
      else
       if pc = 18 then tz_iaload 19 else dead
     else
      if pc < 21 then
       if pc = 19 then tz_const 21 (.int (nI 10)) else dead
      else
       if pc = 21 then tz_icmp 24 28 (fun a b => ¬ a = b) else dead
  else
   if pc < 36 then
    if pc < 29 then
     if pc < 25 then
      if pc = 24 then tz_const 25 (.int (nI 2)) else dead
     else
      if pc < 28 then
       if pc = 25 then tz_goto 29 else dead
      else
       if pc = 28 then tz_const 29 (.int (nI 0)) else dead
    else
     if pc < 32 then
      if pc = 29 then tz_puti 32 7 0 else dead
     else
      if pc < 33 then
       if pc = 32 then tz_aload 33 0 else dead
      else
       if pc = 33 then tz_getf 36 7 0 0 else dead
   else
    if pc < 43 then
     if pc < 39 then
      if pc = 36 then tz_if 39 43 (fun a => a ≤ 0) else dead
     else
      if pc < 40 then
       if pc = 39 then tz_const 40 (.int (nI 0)) else dead
      else
       if pc = 40 then tz_goto 48 else dead
    else
     if pc < 45 then
      if pc < 44 then
       if pc = 43 then tz_aload 44 0 else dead
      else
       if pc = 44 then tz_iload 45 1 else dead
     else
      if pc < 48 then
       if pc = 45 then tz_callV l G 48 M_Mo_add 1 7 else dead
      else
       if pc = 48 then tz_iret else dead
set_option maxRecDepth 100000 in
theorem T_Mo_addHost (l : Launch) (G : Gc) : TabOK l G M_Mo_addHost (k_Mo_addHost l G) := by
  intro pc
  unfold k_Mo_addHost
  exact
   (sd_br
    (sd_br
     (sd_br
      (sd_br
       (sd_lf (sd_aload_n (k := 0) (by decide +kernel : decode prog_9_method_16_code 0 = .ok (.aload_n 0, 1))))
       (sd_br
        (sd_lf (sd_aload_n (k := 0) (by decide +kernel : decode prog_9_method_16_code 1 = .ok (.aload_n 0, 1))))
        (sd_lf (sd_iload_n (k := 1) (by decide +kernel : decode prog_9_method_16_code 2 = .ok (.iload_n 1, 1))))))
      (sd_br
       (sd_lf (sd_pureV (sd_callV (q := (RX7, TX7, 16)) (by decide +kernel : decode prog_9_method_16_code 3 = .ok (.invokevirtual 62, 3)) ok_Mo_isNet (gm 978 (by decide +kernel) rfl) (gm 980 (by decide +kernel) rfl) (gm 29 (by decide +kernel) rfl) rfl rfl (by decide +kernel) rfl rfl) c_Mo_isNet))
       (sd_br
        (sd_lf (sd_if_ne (by decide +kernel : decode prog_9_method_16_code 6 = .ok (.ifCond .ne 7, 3)) (by decide +kernel)))
        (sd_lf (sd_iconst (by decide +kernel : decode prog_9_method_16_code 9 = .ok (.iconst 1, 1)) (by decide +kernel))))))
     (sd_br
      (sd_br
       (sd_lf (sd_goto (by decide +kernel : decode prog_9_method_16_code 10 = .ok (.goto 19, 3)) (by decide +kernel)))
       (sd_br
        (sd_lf (sd_aload_n (k := 0) (by decide +kernel : decode prog_9_method_16_code 13 = .ok (.aload_n 0, 1))))
        (sd_lf (sd_getf (q := (RX7, TX7, 16)) (by decide +kernel : decode prog_9_method_16_code 14 = .ok (.getfield 7, 3)) rfl (by decide +kernel) (gm 913 (by decide +kernel) rfl)))))
      (sd_br
       (sd_br
        (sd_lf (sd_iconst (by decide +kernel : decode prog_9_method_16_code 17 = .ok (.iconst 1, 1)) (by decide +kernel)))
        (sd_lf (sd_iaload (by decide +kernel : decode prog_9_method_16_code 18 = .ok (.iaload, 1)))))
       (sd_br
        (sd_lf (sd_bipush (by decide +kernel : decode prog_9_method_16_code 19 = .ok (.bipush 10, 2)) (by decide +kernel)))
        (sd_lf (sd_icmp_ne (by decide +kernel : decode prog_9_method_16_code 21 = .ok (.if_icmp .ne 7, 3)) (by decide +kernel)))))))
    (sd_br
     (sd_br
      (sd_br
       (sd_lf (sd_iconst (by decide +kernel : decode prog_9_method_16_code 24 = .ok (.iconst 2, 1)) (by decide +kernel)))
       (sd_br
        (sd_lf (sd_goto (by decide +kernel : decode prog_9_method_16_code 25 = .ok (.goto 4, 3)) (by decide +kernel)))
        (sd_lf (sd_iconst (by decide +kernel : decode prog_9_method_16_code 28 = .ok (.iconst 0, 1)) (by decide +kernel)))))
      (sd_br
       (sd_lf (sd_puti (q := (RX7, TX7, 16)) (by decide +kernel : decode prog_9_method_16_code 29 = .ok (.putfield 32, 3)) rfl (by decide +kernel) (gm 912 (by decide +kernel) rfl) rfl rfl (Or.inl rfl)))
       (sd_br
        (sd_lf (sd_aload_n (k := 0) (by decide +kernel : decode prog_9_method_16_code 32 = .ok (.aload_n 0, 1))))
        (sd_lf (sd_getf (q := (RX7, TX7, 16)) (by decide +kernel : decode prog_9_method_16_code 33 = .ok (.getfield 32, 3)) rfl (by decide +kernel) (gm 912 (by decide +kernel) rfl))))))
     (sd_br
      (sd_br
       (sd_lf (sd_if_le (by decide +kernel : decode prog_9_method_16_code 36 = .ok (.ifCond .le 7, 3)) (by decide +kernel)))
       (sd_br
        (sd_lf (sd_iconst (by decide +kernel : decode prog_9_method_16_code 39 = .ok (.iconst 0, 1)) (by decide +kernel)))
        (sd_lf (sd_goto (by decide +kernel : decode prog_9_method_16_code 40 = .ok (.goto 8, 3)) (by decide +kernel)))))
      (sd_br
       (sd_br
        (sd_lf (sd_aload_n (k := 0) (by decide +kernel : decode prog_9_method_16_code 43 = .ok (.aload_n 0, 1))))
        (sd_lf (sd_iload_n (k := 1) (by decide +kernel : decode prog_9_method_16_code 44 = .ok (.iload_n 1, 1)))))
       (sd_br
        (sd_lf (sd_callV (q := (RX7, TX7, 16)) (by decide +kernel : decode prog_9_method_16_code 45 = .ok (.invokevirtual 58, 3)) ok_Mo_add (gm 996 (by decide +kernel) rfl) (gm 998 (by decide +kernel) rfl) (gm 32 (by decide +kernel) rfl) rfl rfl (by decide +kernel) rfl rfl))
        (sd_lf (sd_iret (by decide +kernel : decode prog_9_method_16_code 48 = .ok (.ireturn, 1)) rfl)))))))
def k_Mo_addTranslator (l : Launch) (G : Gc) (pc : Nat) : Tr :=
  if pc < 48 then
   if pc < 22 then
    if pc < 10 then
     if pc < 3 then
      if pc < 1 then
       if pc = 0 then tz_iload 1 2 else dead
      else
       if pc < 2 then
        if pc = 1 then tz_const 2 (.int (nI 0)) else dead
       else
        if pc = 2 then tz_const 3 (.int (nI 2)) else dead
     else
      if pc < 6 then
       if pc = 3 then tz_pureS 6 3 P_Mo_within f_Mo_within else dead
      else
       if pc < 9 then
        if pc = 6 then tz_if 9 32 (fun a => a = 0) else dead
       else
        if pc = 9 then tz_iload 10 3 else dead
    else
     if pc < 15 then
      if pc < 11 then
       if pc = 10 then tz_const 11 (.int (nI 0)) else dead
      else
       if pc < 12 then
        if pc = 11 then tz_const 12 (.int (nI 2)) else dead
       else
        if pc = 12 then tz_pureS 15 3 P_Mo_within f_Mo_within else dead
     else
      if pc < 20 then
       if pc < 18 then
        if pc = 15 then tz_if 18 32 (fun a => a = 0) else dead
       else
        if pc = 18 then tz_iload 20 4 else dead
      else
       if pc < 21 then
        if pc = 20 then tz_const 21 (.int (nI 0)) else dead
       else
        if pc = 21 then tz_const 22 (.int (nI 2)) else dead
   else
    if pc < 35 then
     if pc < 29 then
      if pc < 25 then
       if pc = 22 then tz_pureS 25 3 P_Mo_within f_Mo_within else dead
      else
       if pc < 28 then
        if pc = 25 then tz_if 28 32 (fun a => a = 0) else dead
       else
        if pc = 28 then tz_const 29 (.int (nI 1)) else dead
     else
      if pc < 32 then
       if pc = 29 then tz_goto 33 else dead
      else
       if pc < 33 then
        if pc = 32 then tz_const 33 (.int (nI 0)) else dead
       else
        if pc = 33 then tz_istore 35 5 else dead
    else
     if pc < 38 then
      if pc < 36 then
       if pc = 35 then tz_aload 36 0 else dead
      else
       if pc < 37 then
        if pc = 36 then tz_aload 37 0 else dead
       else
        if pc = 37 then tz_iload 38 1 else dead
     else
      if pc < 44 then
       if pc < 41 then
        if pc = 38 then tz_pureV 41 1 7 P_Mo_isNet f_Mo_isNet else dead
       else
        if pc = 41 then tz_if 44 48 (fun a => ¬ a = 0) else dead
      else
       if pc < 45 then
        if pc = 44 then tz_const 45 (.int (nI 1)) else dead
       else
        if pc = 45 then tz_goto 73 else dead
  else
   if pc < 73 then
    if pc < 61 then
     if pc < 54 then
      if pc < 50 then
       if pc = 48 then tz_iload 50 5 else dead
      else
       if pc < 53 then
        if pc = 50 then tz_if 53 57 (fun a => ¬ a = 0) else dead
       else
        if pc = 53 then tz_const 54 (.int (nI 2)) else dead
     else
      if pc < 57 then
       if pc = 54 then tz_goto 73 else dead
      else
       if pc < 58 then
        if pc = 57 then tz_aload 58 0 else dead
       else
        if pc = 58 then tz_getf 61 7 1 1 else dead
    else
     if pc < 65 then
      if pc < 62 then
       if pc = 61 then tz_const 62 (.int (nI 1)) else dead
      else
       if pc < 63 then
        if pc = 62 then tz_iaload 63 else dead
       else
        if pc = 63 then tz_const 65 (.int (nI 10)) else dead
     else
      if pc < 69 then
       if pc < 68 then
        if pc = 65 then tz_icmp 68 72 (fun a b => ¬ a = b) else dead
       else
        if pc = 68 then tz_const 69 (.int (nI 3)) else dead
      else
       if pc < 72 then
        if pc = 69 then tz_goto 73 else dead
       else
        if pc = 72 then tz_const 73 (.int (nI 0)) else dead
   else
    if pc < 87 then
     if pc < 80 then
      if pc < 76 then
       if pc = 73 then tz_puti 76 7 0 else dead
      else
       if pc < 77 then
        if pc = 76 then tz_aload 77 0 else dead
       else
        if pc = 77 then tz_getf 80 7 0 0 else dead
     else
      if pc < 83 then
       if pc = 80 then tz_if 83 87 (fun a => a ≤ 0) else dead
      else
       if pc < 84 then
        if pc = 83 then tz_const 84 (.int (nI 0)) else dead
       else
        if pc = 84 then tz_goto 96 else dead
    else
     if pc < 90 then
      if pc < 88 then
       if pc = 87 then tz_aload 88 0 else dead
      else
       if pc < 89 then
        if pc = 88 then tz_iload 89 1 else dead
       else
        if pc = 89 then tz_iload 90 2 else dead
     else
      if pc < 93 then
       if pc < 91 then
        if pc = 90 then tz_iload 91 3 else dead
       else
        if pc = 91 then tz_iload 93 4 else dead
      else
       if pc < 96 then
        if pc = 93 then tz_callV l G 96 M_Mo_addTranslatorTo 4 7 else dead
       else
        if pc = 96 then tz_iret else dead
set_option maxRecDepth 100000 in
theorem T_Mo_addTranslator (l : Launch) (G : Gc) : TabOK l G M_Mo_addTranslator (k_Mo_addTranslator l G) := by
  intro pc
  unfold k_Mo_addTranslator
  exact
   (sd_br
    (sd_br
     (sd_br
      (sd_br
       (sd_br
        (sd_lf (sd_iload_n (k := 2) (by decide +kernel : decode prog_9_method_17_code 0 = .ok (.iload_n 2, 1))))
        (sd_br
         (sd_lf (sd_iconst (by decide +kernel : decode prog_9_method_17_code 1 = .ok (.iconst 0, 1)) (by decide +kernel)))
         (sd_lf (sd_iconst (by decide +kernel : decode prog_9_method_17_code 2 = .ok (.iconst 2, 1)) (by decide +kernel)))))
       (sd_br
        (sd_lf (sd_pureS (sd_callS (by decide +kernel : decode prog_9_method_17_code 3 = .ok (.invokestatic 36, 3)) ok_Mo_within (gm 990 (by decide +kernel) rfl) (gm 991 (by decide +kernel) rfl) (by decide +kernel) rfl rfl) c_Mo_within))
        (sd_br
         (sd_lf (sd_if_eq (by decide +kernel : decode prog_9_method_17_code 6 = .ok (.ifCond .eq 26, 3)) (by decide +kernel)))
         (sd_lf (sd_iload_n (k := 3) (by decide +kernel : decode prog_9_method_17_code 9 = .ok (.iload_n 3, 1)))))))
      (sd_br
       (sd_br
        (sd_lf (sd_iconst (by decide +kernel : decode prog_9_method_17_code 10 = .ok (.iconst 0, 1)) (by decide +kernel)))
        (sd_br
         (sd_lf (sd_iconst (by decide +kernel : decode prog_9_method_17_code 11 = .ok (.iconst 2, 1)) (by decide +kernel)))
         (sd_lf (sd_pureS (sd_callS (by decide +kernel : decode prog_9_method_17_code 12 = .ok (.invokestatic 36, 3)) ok_Mo_within (gm 990 (by decide +kernel) rfl) (gm 991 (by decide +kernel) rfl) (by decide +kernel) rfl rfl) c_Mo_within))))
       (sd_br
        (sd_br
         (sd_lf (sd_if_eq (by decide +kernel : decode prog_9_method_17_code 15 = .ok (.ifCond .eq 17, 3)) (by decide +kernel)))
         (sd_lf (sd_iload (by decide +kernel : decode prog_9_method_17_code 18 = .ok (.iload 4, 2)))))
        (sd_br
         (sd_lf (sd_iconst (by decide +kernel : decode prog_9_method_17_code 20 = .ok (.iconst 0, 1)) (by decide +kernel)))
         (sd_lf (sd_iconst (by decide +kernel : decode prog_9_method_17_code 21 = .ok (.iconst 2, 1)) (by decide +kernel)))))))
     (sd_br
      (sd_br
       (sd_br
        (sd_lf (sd_pureS (sd_callS (by decide +kernel : decode prog_9_method_17_code 22 = .ok (.invokestatic 36, 3)) ok_Mo_within (gm 990 (by decide +kernel) rfl) (gm 991 (by decide +kernel) rfl) (by decide +kernel) rfl rfl) c_Mo_within))
        (sd_br
         (sd_lf (sd_if_eq (by decide +kernel : decode prog_9_method_17_code 25 = .ok (.ifCond .eq 7, 3)) (by decide +kernel)))
         (sd_lf (sd_iconst (by decide +kernel : decode prog_9_method_17_code 28 = .ok (.iconst 1, 1)) (by decide +kernel)))))
       (sd_br
        (sd_lf (sd_goto (by decide +kernel : decode prog_9_method_17_code 29 = .ok (.goto 4, 3)) (by decide +kernel)))
        (sd_br
         (sd_lf (sd_iconst (by decide +kernel : decode prog_9_method_17_code 32 = .ok (.iconst 0, 1)) (by decide +kernel)))
         (sd_lf (sd_istore (by decide +kernel : decode prog_9_method_17_code 33 = .ok (.istore 5, 2)))))))
      (sd_br
       (sd_br
        (sd_lf (sd_aload_n (k := 0) (by decide +kernel : decode prog_9_method_17_code 35 = .ok (.aload_n 0, 1))))
        (sd_br
         (sd_lf (sd_aload_n (k := 0) (by decide +kernel : decode prog_9_method_17_code 36 = .ok (.aload_n 0, 1))))
         (sd_lf (sd_iload_n (k := 1) (by decide +kernel : decode prog_9_method_17_code 37 = .ok (.iload_n 1, 1))))))
       (sd_br
        (sd_br
         (sd_lf (sd_pureV (sd_callV (q := (RX7, TX7, 16)) (by decide +kernel : decode prog_9_method_17_code 38 = .ok (.invokevirtual 62, 3)) ok_Mo_isNet (gm 978 (by decide +kernel) rfl) (gm 980 (by decide +kernel) rfl) (gm 29 (by decide +kernel) rfl) rfl rfl (by decide +kernel) rfl rfl) c_Mo_isNet))
         (sd_lf (sd_if_ne (by decide +kernel : decode prog_9_method_17_code 41 = .ok (.ifCond .ne 7, 3)) (by decide +kernel))))
        (sd_br
         (sd_lf (sd_iconst (by decide +kernel : decode prog_9_method_17_code 44 = .ok (.iconst 1, 1)) (by decide +kernel)))
         (sd_lf (sd_goto (by decide +kernel : decode prog_9_method_17_code 45 = .ok (.goto 28, 3)) (by decide +kernel))))))))
    (sd_br
     (sd_br
      (sd_br
       (sd_br
        (sd_lf (sd_iload (by decide +kernel : decode prog_9_method_17_code 48 = .ok (.iload 5, 2))))
        (sd_br
         (sd_lf (sd_if_ne (by decide +kernel : decode prog_9_method_17_code 50 = .ok (.ifCond .ne 7, 3)) (by decide +kernel)))
         (sd_lf (sd_iconst (by decide +kernel : decode prog_9_method_17_code 53 = .ok (.iconst 2, 1)) (by decide +kernel)))))
       (sd_br
        (sd_lf (sd_goto (by decide +kernel : decode prog_9_method_17_code 54 = .ok (.goto 19, 3)) (by decide +kernel)))
        (sd_br
         (sd_lf (sd_aload_n (k := 0) (by decide +kernel : decode prog_9_method_17_code 57 = .ok (.aload_n 0, 1))))
         (sd_lf (sd_getf (q := (RX7, TX7, 16)) (by decide +kernel : decode prog_9_method_17_code 58 = .ok (.getfield 7, 3)) rfl (by decide +kernel) (gm 913 (by decide +kernel) rfl))))))
      (sd_br
       (sd_br
        (sd_lf (sd_iconst (by decide +kernel : decode prog_9_method_17_code 61 = .ok (.iconst 1, 1)) (by decide +kernel)))
        (sd_br
         (sd_lf (sd_iaload (by decide +kernel : decode prog_9_method_17_code 62 = .ok (.iaload, 1))))
         (sd_lf (sd_bipush (by decide +kernel : decode prog_9_method_17_code 63 = .ok (.bipush 10, 2)) (by decide +kernel)))))
       (sd_br
        (sd_br
         (sd_lf (sd_icmp_ne (by decide +kernel : decode prog_9_method_17_code 65 = .ok (.if_icmp .ne 7, 3)) (by decide +kernel)))
         (sd_lf (sd_iconst (by decide +kernel : decode prog_9_method_17_code 68 = .ok (.iconst 3, 1)) (by decide +kernel))))
        (sd_br
         (sd_lf (sd_goto (by decide +kernel : decode prog_9_method_17_code 69 = .ok (.goto 4, 3)) (by decide +kernel)))
         (sd_lf (sd_iconst (by decide +kernel : decode prog_9_method_17_code 72 = .ok (.iconst 0, 1)) (by decide +kernel)))))))
     (sd_br
      (sd_br
       (sd_br
        (sd_lf (sd_puti (q := (RX7, TX7, 16)) (by decide +kernel : decode prog_9_method_17_code 73 = .ok (.putfield 32, 3)) rfl (by decide +kernel) (gm 912 (by decide +kernel) rfl) rfl rfl (Or.inl rfl)))
        (sd_br
         (sd_lf (sd_aload_n (k := 0) (by decide +kernel : decode prog_9_method_17_code 76 = .ok (.aload_n 0, 1))))
         (sd_lf (sd_getf (q := (RX7, TX7, 16)) (by decide +kernel : decode prog_9_method_17_code 77 = .ok (.getfield 32, 3)) rfl (by decide +kernel) (gm 912 (by decide +kernel) rfl)))))
       (sd_br
        (sd_lf (sd_if_le (by decide +kernel : decode prog_9_method_17_code 80 = .ok (.ifCond .le 7, 3)) (by decide +kernel)))
        (sd_br
         (sd_lf (sd_iconst (by decide +kernel : decode prog_9_method_17_code 83 = .ok (.iconst 0, 1)) (by decide +kernel)))
         (sd_lf (sd_goto (by decide +kernel : decode prog_9_method_17_code 84 = .ok (.goto 12, 3)) (by decide +kernel))))))
      (sd_br
       (sd_br
        (sd_lf (sd_aload_n (k := 0) (by decide +kernel : decode prog_9_method_17_code 87 = .ok (.aload_n 0, 1))))
        (sd_br
         (sd_lf (sd_iload_n (k := 1) (by decide +kernel : decode prog_9_method_17_code 88 = .ok (.iload_n 1, 1))))
         (sd_lf (sd_iload_n (k := 2) (by decide +kernel : decode prog_9_method_17_code 89 = .ok (.iload_n 2, 1))))))
       (sd_br
        (sd_br
         (sd_lf (sd_iload_n (k := 3) (by decide +kernel : decode prog_9_method_17_code 90 = .ok (.iload_n 3, 1))))
         (sd_lf (sd_iload (by decide +kernel : decode prog_9_method_17_code 91 = .ok (.iload 4, 2)))))
        (sd_br
         (sd_lf (sd_callV (q := (RX7, TX7, 16)) (by decide +kernel : decode prog_9_method_17_code 93 = .ok (.invokevirtual 65, 3)) ok_Mo_addTranslatorTo (gm 1004 (by decide +kernel) rfl) (gm 1006 (by decide +kernel) rfl) (gm 33 (by decide +kernel) rfl) rfl rfl (by decide +kernel) rfl rfl))
         (sd_lf (sd_iret (by decide +kernel : decode prog_9_method_17_code 96 = .ok (.ireturn, 1)) rfl))))))))
/-- all numbers nought from i on -/
def zr0 (z : Nat → Int32) (i j : Nat) : Int32 := if i ≤ j ∧ j < 2096 then nI 0 else z j
theorem zr0_end (z : Nat → Int32) : zr0 z 2096 = z := by
  funext j
  unfold zr0
  rw [if_neg (by omega)]
theorem zr0_step (z : Nat → Int32) {i : Nat} (hi : i < 2096) : zr0 (upd z i (nI 0)) (i + 1) = zr0 z i := by
  funext j
  unfold zr0
  by_cases e : j = i
  · subst e
    rw [if_neg (by omega), if_pos ⟨Nat.le_refl _, hi⟩, upd_eq rfl]
  · rw [upd_ne e]
    by_cases c : i ≤ j ∧ j < 2096
    · rw [if_pos c, if_pos (by omega)]
    · rw [if_neg c, if_neg (by omega)]
def addZ (z : Nat → Int32) (net : Int32) : Nat → Int32 := upd (upd (upd (upd (upd z 1 (nI (mny z + 1))) (16 + 16 * mny z + 1) net) (16 + 16 * mny z + 12) nN) (16 + 16 * mny z + 13) nN) (16 + 16 * mny z + 14) nN
/-- the row of node n written at place k -/
def wN (z : Nat → Int32) (n k : Nat) (x : Int32) : Nat → Int32 := upd z (16 + 16 * n + k) x
def addTZ (z : Nat → Int32) (net a b c : Int32) : Nat → Int32 := wN (wN (wN (wN (wN (wN (wN (wN (addZ z net) (mny z) 0 (nI 1)) (mny z) 2 a) (mny z) 3 b) (mny z) 4 c) (mny z) 5 (nI 1)) (mny z) 6 (nI 60)) (mny z) 9 (nI 1000)) (mny z) 10 (nI (mny z + 1))
section
variable {l : Launch} {G : Gc}
theorem lp_fresh {a zr : Nat} {h : AH} {Q : Po} (hm : MoS h a zr) : ∀ (d i : Nat) (g : Nat → Int32), i + d = 2096 → Q (.inl none) (zw (zw h zr (zr0 g i)) a (upd (hI h a) 3 (nI 0))) → AWp l G M_Mo_fresh 2 [some (.ref a), some (.int (nI i))] [] (zw h zr g) Q := by
  have rz := rd_ne hm.ne
  have ra := rd_ne hm.ne'
  obtain ⟨h1, h2, h3, h4⟩ := id hm
  intro d
  induction d with
  | zero =>
    intro i g e hQ
    have ei : i = 2096 := by omega
    subst ei
    rw [zr0_end] at hQ
    ((obtain ⟨W9, hW9, hgo9⟩ := wp_ex (T_Mo_fresh l G) [2] _; refine hgo9 200 _ _ _ _ ?_; simp -implicitDefEqProofs (disch := omega) only [hW9, inl, gate, Xq, tz_const, tz_iload, tz_lload, tz_dload, tz_aload, tz_istore, tz_astore, tz_lstore, tz_dstore, tz_iinc, tz_i1, tz_i2, tz_i2z, tz_l2, tz_l2z, tz_i2l, tz_l2i, tz_lcmp, tz_i2d, tz_d2, tz_dcmp, tz_dup, tz_dup2, tz_pop, tz_if, tz_icmp, tz_null, tz_goto, tz_sw, tz_getf, tz_puti, tz_putz, tz_putr, tz_putl, tz_iaload, tz_baload, tz_laload, tz_aaload, tz_iastore, tz_bastore, tz_lastore, tz_aastore, tz_alen, tz_new, tz_newa, tz_oinit, tz_iret, tz_zret, tz_lret, tz_dret, tz_aret, tz_vret, tz_throw, tz_callS, tz_callV, tz_callI, tz_callR, tz_pureS, tz_pureV, tz_callVH, lg, lset, lkill, lst1, lst2, entL, isRf, is1, vl, va_rf_none, va_rf_some, isRf_rf, is1_rf, i0, i1, bI_eq0, bI_eq1, nm_em, nI_eqP, nI_leP, nI_ltP, nN_e1, nN_e2, nN_l1, nN_l2, nN_l3, nN_l4, nI_add, pk_mul, vp_inN, nI_cl, n01, n10, P_i, P_ii, P_iii, f_Mo_at, f_Mo_map, f_Mo_contact, f_Mo_within, f_Mo_isPort, f_Hp_endpoint, f_Hp_nodeOf, f_Hp_portOf, f_Ma_max, f_Ma_min, f_Hp_isSetting, popN, rok, a1, noX, swc, mL, if_true, if_false, ↓reduceIte, cond_true, cond_false, true_and, and_true, List.length_cons, List.length_nil, List.nil_append, List.cons_append, List.append_nil, Option.toList, Nat.reduceEqDiff, Bool.false_eq_true, reduceCtorEq, Nat.reduceAdd, Nat.reduceLT, Nat.reduceLeDiff, Nat.reduceSub, List.replicate, Nat.zero_add, Nat.lt_add_one, Nat.le_refl, Nat.zero_le, Nat.succ_ne_zero, not_false_eq_true, not_true_eq_false, false_implies, true_implies, forall_const, imp_self, true_or, or_true, eq_self, sI_zw, zw_zw, hI_zw, tg_zw, ln_zw, hR_zw, hL_zw, hN_zw, hM_zw, upd_s, upd_u, upd_ne, Classical.not_not, k_Mo_fresh, h1, h2, h3, h4, ra, rz]; try clear hgo9 hW9); try (obtain ⟨W9, hW9, hgo9⟩ := wp_ex (T_Mo_fresh l G) [2] _; refine hgo9 200 _ _ _ _ ?_; simp -implicitDefEqProofs (disch := omega) only [hW9, inl, gate, Xq, tz_const, tz_iload, tz_lload, tz_dload, tz_aload, tz_istore, tz_astore, tz_lstore, tz_dstore, tz_iinc, tz_i1, tz_i2, tz_i2z, tz_l2, tz_l2z, tz_i2l, tz_l2i, tz_lcmp, tz_i2d, tz_d2, tz_dcmp, tz_dup, tz_dup2, tz_pop, tz_if, tz_icmp, tz_null, tz_goto, tz_sw, tz_getf, tz_puti, tz_putz, tz_putr, tz_putl, tz_iaload, tz_baload, tz_laload, tz_aaload, tz_iastore, tz_bastore, tz_lastore, tz_aastore, tz_alen, tz_new, tz_newa, tz_oinit, tz_iret, tz_zret, tz_lret, tz_dret, tz_aret, tz_vret, tz_throw, tz_callS, tz_callV, tz_callI, tz_callR, tz_pureS, tz_pureV, tz_callVH, lg, lset, lkill, lst1, lst2, entL, isRf, is1, vl, va_rf_none, va_rf_some, isRf_rf, is1_rf, i0, i1, bI_eq0, bI_eq1, nm_em, nI_eqP, nI_leP, nI_ltP, nN_e1, nN_e2, nN_l1, nN_l2, nN_l3, nN_l4, nI_add, pk_mul, vp_inN, nI_cl, n01, n10, P_i, P_ii, P_iii, f_Mo_at, f_Mo_map, f_Mo_contact, f_Mo_within, f_Mo_isPort, f_Hp_endpoint, f_Hp_nodeOf, f_Hp_portOf, f_Ma_max, f_Ma_min, f_Hp_isSetting, popN, rok, a1, noX, swc, mL, if_true, if_false, ↓reduceIte, cond_true, cond_false, true_and, and_true, List.length_cons, List.length_nil, List.nil_append, List.cons_append, List.append_nil, Option.toList, Nat.reduceEqDiff, Bool.false_eq_true, reduceCtorEq, Nat.reduceAdd, Nat.reduceLT, Nat.reduceLeDiff, Nat.reduceSub, List.replicate, Nat.zero_add, Nat.lt_add_one, Nat.le_refl, Nat.zero_le, Nat.succ_ne_zero, not_false_eq_true, not_true_eq_false, false_implies, true_implies, forall_const, imp_self, true_or, or_true, eq_self, sI_zw, zw_zw, hI_zw, tg_zw, ln_zw, hR_zw, hL_zw, hN_zw, hM_zw, upd_s, upd_u, upd_ne, Classical.not_not, k_Mo_fresh, h1, h2, h3, h4, ra, rz]; try clear hgo9 hW9))
    exact hQ
  | succ d ih =>
    intro i g e hQ
    have hn : ¬ 2096 ≤ i := by omega
    ((obtain ⟨W9, hW9, hgo9⟩ := wp_ex (T_Mo_fresh l G) [2] _; refine hgo9 200 _ _ _ _ ?_; simp -implicitDefEqProofs (disch := omega) only [hW9, inl, gate, Xq, tz_const, tz_iload, tz_lload, tz_dload, tz_aload, tz_istore, tz_astore, tz_lstore, tz_dstore, tz_iinc, tz_i1, tz_i2, tz_i2z, tz_l2, tz_l2z, tz_i2l, tz_l2i, tz_lcmp, tz_i2d, tz_d2, tz_dcmp, tz_dup, tz_dup2, tz_pop, tz_if, tz_icmp, tz_null, tz_goto, tz_sw, tz_getf, tz_puti, tz_putz, tz_putr, tz_putl, tz_iaload, tz_baload, tz_laload, tz_aaload, tz_iastore, tz_bastore, tz_lastore, tz_aastore, tz_alen, tz_new, tz_newa, tz_oinit, tz_iret, tz_zret, tz_lret, tz_dret, tz_aret, tz_vret, tz_throw, tz_callS, tz_callV, tz_callI, tz_callR, tz_pureS, tz_pureV, tz_callVH, lg, lset, lkill, lst1, lst2, entL, isRf, is1, vl, va_rf_none, va_rf_some, isRf_rf, is1_rf, i0, i1, bI_eq0, bI_eq1, nm_em, nI_eqP, nI_leP, nI_ltP, nN_e1, nN_e2, nN_l1, nN_l2, nN_l3, nN_l4, nI_add, pk_mul, vp_inN, nI_cl, n01, n10, P_i, P_ii, P_iii, f_Mo_at, f_Mo_map, f_Mo_contact, f_Mo_within, f_Mo_isPort, f_Hp_endpoint, f_Hp_nodeOf, f_Hp_portOf, f_Ma_max, f_Ma_min, f_Hp_isSetting, popN, rok, a1, noX, swc, mL, if_true, if_false, ↓reduceIte, cond_true, cond_false, true_and, and_true, List.length_cons, List.length_nil, List.nil_append, List.cons_append, List.append_nil, Option.toList, Nat.reduceEqDiff, Bool.false_eq_true, reduceCtorEq, Nat.reduceAdd, Nat.reduceLT, Nat.reduceLeDiff, Nat.reduceSub, List.replicate, Nat.zero_add, Nat.lt_add_one, Nat.le_refl, Nat.zero_le, Nat.succ_ne_zero, not_false_eq_true, not_true_eq_false, false_implies, true_implies, forall_const, imp_self, true_or, or_true, eq_self, sI_zw, zw_zw, hI_zw, tg_zw, ln_zw, hR_zw, hL_zw, hN_zw, hM_zw, upd_s, upd_u, upd_ne, Classical.not_not, k_Mo_fresh, h1, h2, h3, h4, ra, rz, hn]; try clear hgo9 hW9); try (obtain ⟨W9, hW9, hgo9⟩ := wp_ex (T_Mo_fresh l G) [2] _; refine hgo9 200 _ _ _ _ ?_; simp -implicitDefEqProofs (disch := omega) only [hW9, inl, gate, Xq, tz_const, tz_iload, tz_lload, tz_dload, tz_aload, tz_istore, tz_astore, tz_lstore, tz_dstore, tz_iinc, tz_i1, tz_i2, tz_i2z, tz_l2, tz_l2z, tz_i2l, tz_l2i, tz_lcmp, tz_i2d, tz_d2, tz_dcmp, tz_dup, tz_dup2, tz_pop, tz_if, tz_icmp, tz_null, tz_goto, tz_sw, tz_getf, tz_puti, tz_putz, tz_putr, tz_putl, tz_iaload, tz_baload, tz_laload, tz_aaload, tz_iastore, tz_bastore, tz_lastore, tz_aastore, tz_alen, tz_new, tz_newa, tz_oinit, tz_iret, tz_zret, tz_lret, tz_dret, tz_aret, tz_vret, tz_throw, tz_callS, tz_callV, tz_callI, tz_callR, tz_pureS, tz_pureV, tz_callVH, lg, lset, lkill, lst1, lst2, entL, isRf, is1, vl, va_rf_none, va_rf_some, isRf_rf, is1_rf, i0, i1, bI_eq0, bI_eq1, nm_em, nI_eqP, nI_leP, nI_ltP, nN_e1, nN_e2, nN_l1, nN_l2, nN_l3, nN_l4, nI_add, pk_mul, vp_inN, nI_cl, n01, n10, P_i, P_ii, P_iii, f_Mo_at, f_Mo_map, f_Mo_contact, f_Mo_within, f_Mo_isPort, f_Hp_endpoint, f_Hp_nodeOf, f_Hp_portOf, f_Ma_max, f_Ma_min, f_Hp_isSetting, popN, rok, a1, noX, swc, mL, if_true, if_false, ↓reduceIte, cond_true, cond_false, true_and, and_true, List.length_cons, List.length_nil, List.nil_append, List.cons_append, List.append_nil, Option.toList, Nat.reduceEqDiff, Bool.false_eq_true, reduceCtorEq, Nat.reduceAdd, Nat.reduceLT, Nat.reduceLeDiff, Nat.reduceSub, List.replicate, Nat.zero_add, Nat.lt_add_one, Nat.le_refl, Nat.zero_le, Nat.succ_ne_zero, not_false_eq_true, not_true_eq_false, false_implies, true_implies, forall_const, imp_self, true_or, or_true, eq_self, sI_zw, zw_zw, hI_zw, tg_zw, ln_zw, hR_zw, hL_zw, hN_zw, hM_zw, upd_s, upd_u, upd_ne, Classical.not_not, k_Mo_fresh, h1, h2, h3, h4, ra, rz, hn]; try clear hgo9 hW9))
    refine ih (i + 1) _ (by omega) ?_
    rw [zr0_step g (by omega)]
    exact hQ
theorem c_Mo_fresh (a zr : Nat) (h : AH) (Q : Po) (hm : MoS h a zr) (hQ : Q (.inl none) (zw (zw h zr (zr0 (hI h zr) 0)) a (upd (hI h a) 3 (nI 0)))) : Call l G M_Mo_fresh [.ref a] h Q := by
  refine call_of rfl rfl (Nat.le_of_ble_eq_true rfl) ?_
  (obtain ⟨W9, hW9, hgo9⟩ := wp_ex (T_Mo_fresh l G) [2] _; refine hgo9 200 _ _ _ _ ?_; simp -implicitDefEqProofs (disch := omega) only [hW9, inl, gate, Xq, tz_const, tz_iload, tz_lload, tz_dload, tz_aload, tz_istore, tz_astore, tz_lstore, tz_dstore, tz_iinc, tz_i1, tz_i2, tz_i2z, tz_l2, tz_l2z, tz_i2l, tz_l2i, tz_lcmp, tz_i2d, tz_d2, tz_dcmp, tz_dup, tz_dup2, tz_pop, tz_if, tz_icmp, tz_null, tz_goto, tz_sw, tz_getf, tz_puti, tz_putz, tz_putr, tz_putl, tz_iaload, tz_baload, tz_laload, tz_aaload, tz_iastore, tz_bastore, tz_lastore, tz_aastore, tz_alen, tz_new, tz_newa, tz_oinit, tz_iret, tz_zret, tz_lret, tz_dret, tz_aret, tz_vret, tz_throw, tz_callS, tz_callV, tz_callI, tz_callR, tz_pureS, tz_pureV, tz_callVH, lg, lset, lkill, lst1, lst2, entL, isRf, is1, vl, va_rf_none, va_rf_some, isRf_rf, is1_rf, i0, i1, bI_eq0, bI_eq1, nm_em, nI_eqP, nI_leP, nI_ltP, nN_e1, nN_e2, nN_l1, nN_l2, nN_l3, nN_l4, nI_add, pk_mul, vp_inN, nI_cl, n01, n10, P_i, P_ii, P_iii, f_Mo_at, f_Mo_map, f_Mo_contact, f_Mo_within, f_Mo_isPort, f_Hp_endpoint, f_Hp_nodeOf, f_Hp_portOf, f_Ma_max, f_Ma_min, f_Hp_isSetting, popN, rok, a1, noX, swc, mL, if_true, if_false, ↓reduceIte, cond_true, cond_false, true_and, and_true, List.length_cons, List.length_nil, List.nil_append, List.cons_append, List.append_nil, Option.toList, Nat.reduceEqDiff, Bool.false_eq_true, reduceCtorEq, Nat.reduceAdd, Nat.reduceLT, Nat.reduceLeDiff, Nat.reduceSub, List.replicate, Nat.zero_add, Nat.lt_add_one, Nat.le_refl, Nat.zero_le, Nat.succ_ne_zero, not_false_eq_true, not_true_eq_false, false_implies, true_implies, forall_const, imp_self, true_or, or_true, eq_self, sI_zw, zw_zw, hI_zw, tg_zw, ln_zw, hR_zw, hL_zw, hN_zw, hM_zw, upd_s, upd_u, upd_ne, Classical.not_not, k_Mo_fresh, hm.1]; try clear hgo9 hW9)
  have := lp_fresh (l := l) (G := G) (Q := Q) hm 2096 0 (hI h zr) rfl hQ
  rwa [zw_self] at this
theorem c_Mo_begin (a zr : Nat) (h : AH) (Q : Po) (hm : MoS h a zr) (hQ : Q (.inl (some (.int (hI h zr 1)))) (zw (zw h zr (zr0 (hI h zr) 0)) a (upd (upd (hI h a) 0 (nI 0)) 3 (nI 0)))) : Call l G M_Mo_begin [.ref a] h Q := by
  have rz := rd_ne hm.ne
  have ra := rd_ne hm.ne'
  have cm := wr_cm hm.ne'
  obtain ⟨h1, h2, h3, h4⟩ := id hm
  refine call_of rfl rfl (Nat.le_of_ble_eq_true rfl) ?_
  (obtain ⟨W9, hW9, hgo9⟩ := wp_ex (T_Mo_begin l G) [] _; refine hgo9 200 _ _ _ _ ?_; simp -implicitDefEqProofs (disch := omega) only [hW9, inl, gate, Xq, tz_const, tz_iload, tz_lload, tz_dload, tz_aload, tz_istore, tz_astore, tz_lstore, tz_dstore, tz_iinc, tz_i1, tz_i2, tz_i2z, tz_l2, tz_l2z, tz_i2l, tz_l2i, tz_lcmp, tz_i2d, tz_d2, tz_dcmp, tz_dup, tz_dup2, tz_pop, tz_if, tz_icmp, tz_null, tz_goto, tz_sw, tz_getf, tz_puti, tz_putz, tz_putr, tz_putl, tz_iaload, tz_baload, tz_laload, tz_aaload, tz_iastore, tz_bastore, tz_lastore, tz_aastore, tz_alen, tz_new, tz_newa, tz_oinit, tz_iret, tz_zret, tz_lret, tz_dret, tz_aret, tz_vret, tz_throw, tz_callS, tz_callV, tz_callI, tz_callR, tz_pureS, tz_pureV, tz_callVH, lg, lset, lkill, lst1, lst2, entL, isRf, is1, vl, va_rf_none, va_rf_some, isRf_rf, is1_rf, i0, i1, bI_eq0, bI_eq1, nm_em, nI_eqP, nI_leP, nI_ltP, nN_e1, nN_e2, nN_l1, nN_l2, nN_l3, nN_l4, nI_add, pk_mul, vp_inN, nI_cl, n01, n10, P_i, P_ii, P_iii, f_Mo_at, f_Mo_map, f_Mo_contact, f_Mo_within, f_Mo_isPort, f_Hp_endpoint, f_Hp_nodeOf, f_Hp_portOf, f_Ma_max, f_Ma_min, f_Hp_isSetting, popN, rok, a1, noX, swc, mL, if_true, if_false, ↓reduceIte, cond_true, cond_false, true_and, and_true, List.length_cons, List.length_nil, List.nil_append, List.cons_append, List.append_nil, Option.toList, Nat.reduceEqDiff, Bool.false_eq_true, reduceCtorEq, Nat.reduceAdd, Nat.reduceLT, Nat.reduceLeDiff, Nat.reduceSub, List.replicate, Nat.zero_add, Nat.lt_add_one, Nat.le_refl, Nat.zero_le, Nat.succ_ne_zero, not_false_eq_true, not_true_eq_false, false_implies, true_implies, forall_const, imp_self, true_or, or_true, eq_self, sI_zw, zw_zw, hI_zw, tg_zw, ln_zw, hR_zw, hL_zw, hN_zw, hM_zw, upd_s, upd_u, upd_ne, Classical.not_not, k_Mo_begin, h1, h2, h3, h4, ra, rz]; try clear hgo9 hW9)
  refine c_Mo_fresh a zr _ _ hm.zw ?_
  simp only [aft]
  (obtain ⟨W9, hW9, hgo9⟩ := wp_ex (T_Mo_begin l G) [] _; refine hgo9 200 _ _ _ _ ?_; simp -implicitDefEqProofs (disch := omega) only [hW9, inl, gate, Xq, tz_const, tz_iload, tz_lload, tz_dload, tz_aload, tz_istore, tz_astore, tz_lstore, tz_dstore, tz_iinc, tz_i1, tz_i2, tz_i2z, tz_l2, tz_l2z, tz_i2l, tz_l2i, tz_lcmp, tz_i2d, tz_d2, tz_dcmp, tz_dup, tz_dup2, tz_pop, tz_if, tz_icmp, tz_null, tz_goto, tz_sw, tz_getf, tz_puti, tz_putz, tz_putr, tz_putl, tz_iaload, tz_baload, tz_laload, tz_aaload, tz_iastore, tz_bastore, tz_lastore, tz_aastore, tz_alen, tz_new, tz_newa, tz_oinit, tz_iret, tz_zret, tz_lret, tz_dret, tz_aret, tz_vret, tz_throw, tz_callS, tz_callV, tz_callI, tz_callR, tz_pureS, tz_pureV, tz_callVH, lg, lset, lkill, lst1, lst2, entL, isRf, is1, vl, va_rf_none, va_rf_some, isRf_rf, is1_rf, i0, i1, bI_eq0, bI_eq1, nm_em, nI_eqP, nI_leP, nI_ltP, nN_e1, nN_e2, nN_l1, nN_l2, nN_l3, nN_l4, nI_add, pk_mul, vp_inN, nI_cl, n01, n10, P_i, P_ii, P_iii, f_Mo_at, f_Mo_map, f_Mo_contact, f_Mo_within, f_Mo_isPort, f_Hp_endpoint, f_Hp_nodeOf, f_Hp_portOf, f_Ma_max, f_Ma_min, f_Hp_isSetting, popN, rok, a1, noX, swc, mL, if_true, if_false, ↓reduceIte, cond_true, cond_false, true_and, and_true, List.length_cons, List.length_nil, List.nil_append, List.cons_append, List.append_nil, Option.toList, Nat.reduceEqDiff, Bool.false_eq_true, reduceCtorEq, Nat.reduceAdd, Nat.reduceLT, Nat.reduceLeDiff, Nat.reduceSub, List.replicate, Nat.zero_add, Nat.lt_add_one, Nat.le_refl, Nat.zero_le, Nat.succ_ne_zero, not_false_eq_true, not_true_eq_false, false_implies, true_implies, forall_const, imp_self, true_or, or_true, eq_self, sI_zw, zw_zw, hI_zw, tg_zw, ln_zw, hR_zw, hL_zw, hN_zw, hM_zw, upd_s, upd_u, upd_ne, Classical.not_not, k_Mo_begin, h1, h2, h3, h4, ra, rz, cm]; try clear hgo9 hW9)
  exact hQ
theorem c_Mo_add (a zr : Nat) (net : Int32) (h : AH) (Q : Po) (hm : MoS h a zr) (hz : Z10 (hI h zr)) (hlt : mny (hI h zr) < 10) (hQ : Q (.inl (some (.int (nI (mny (hI h zr)))))) (zw h zr (addZ (hI h zr) net))) : Call l G M_Mo_add [.ref a, .int net] h Q := by
  obtain ⟨h1, h2, h3, h4⟩ := id hm
  obtain ⟨z1, z2⟩ := hz.at
  refine call_of rfl rfl (Nat.le_of_ble_eq_true rfl) ?_
  (obtain ⟨W9, hW9, hgo9⟩ := wp_ex (T_Mo_add l G) [28] _; refine hgo9 200 _ _ _ _ ?_; simp -implicitDefEqProofs (disch := omega) only [hW9, inl, gate, Xq, tz_const, tz_iload, tz_lload, tz_dload, tz_aload, tz_istore, tz_astore, tz_lstore, tz_dstore, tz_iinc, tz_i1, tz_i2, tz_i2z, tz_l2, tz_l2z, tz_i2l, tz_l2i, tz_lcmp, tz_i2d, tz_d2, tz_dcmp, tz_dup, tz_dup2, tz_pop, tz_if, tz_icmp, tz_null, tz_goto, tz_sw, tz_getf, tz_puti, tz_putz, tz_putr, tz_putl, tz_iaload, tz_baload, tz_laload, tz_aaload, tz_iastore, tz_bastore, tz_lastore, tz_aastore, tz_alen, tz_new, tz_newa, tz_oinit, tz_iret, tz_zret, tz_lret, tz_dret, tz_aret, tz_vret, tz_throw, tz_callS, tz_callV, tz_callI, tz_callR, tz_pureS, tz_pureV, tz_callVH, lg, lset, lkill, lst1, lst2, entL, isRf, is1, vl, va_rf_none, va_rf_some, isRf_rf, is1_rf, i0, i1, bI_eq0, bI_eq1, nm_em, nI_eqP, nI_leP, nI_ltP, nN_e1, nN_e2, nN_l1, nN_l2, nN_l3, nN_l4, nI_add, pk_mul, vp_inN, nI_cl, n01, n10, P_i, P_ii, P_iii, f_Mo_at, f_Mo_map, f_Mo_contact, f_Mo_within, f_Mo_isPort, f_Hp_endpoint, f_Hp_nodeOf, f_Hp_portOf, f_Ma_max, f_Ma_min, f_Hp_isSetting, popN, rok, a1, noX, swc, mL, if_true, if_false, ↓reduceIte, cond_true, cond_false, true_and, and_true, List.length_cons, List.length_nil, List.nil_append, List.cons_append, List.append_nil, Option.toList, Nat.reduceEqDiff, Bool.false_eq_true, reduceCtorEq, Nat.reduceAdd, Nat.reduceLT, Nat.reduceLeDiff, Nat.reduceSub, List.replicate, Nat.zero_add, Nat.lt_add_one, Nat.le_refl, Nat.zero_le, Nat.succ_ne_zero, not_false_eq_true, not_true_eq_false, false_implies, true_implies, forall_const, imp_self, true_or, or_true, eq_self, sI_zw, zw_zw, hI_zw, tg_zw, ln_zw, hR_zw, hL_zw, hN_zw, hM_zw, upd_s, upd_u, upd_ne, Classical.not_not, k_Mo_add, h1, h2, h3, h4, z1]; try clear hgo9 hW9)
  (obtain ⟨W9, hW9, hgo9⟩ := wp_ex (T_Mo_add l G) [52] _; refine hgo9 200 _ _ _ _ ?_; simp -implicitDefEqProofs (disch := omega) only [hW9, inl, gate, Xq, tz_const, tz_iload, tz_lload, tz_dload, tz_aload, tz_istore, tz_astore, tz_lstore, tz_dstore, tz_iinc, tz_i1, tz_i2, tz_i2z, tz_l2, tz_l2z, tz_i2l, tz_l2i, tz_lcmp, tz_i2d, tz_d2, tz_dcmp, tz_dup, tz_dup2, tz_pop, tz_if, tz_icmp, tz_null, tz_goto, tz_sw, tz_getf, tz_puti, tz_putz, tz_putr, tz_putl, tz_iaload, tz_baload, tz_laload, tz_aaload, tz_iastore, tz_bastore, tz_lastore, tz_aastore, tz_alen, tz_new, tz_newa, tz_oinit, tz_iret, tz_zret, tz_lret, tz_dret, tz_aret, tz_vret, tz_throw, tz_callS, tz_callV, tz_callI, tz_callR, tz_pureS, tz_pureV, tz_callVH, lg, lset, lkill, lst1, lst2, entL, isRf, is1, vl, va_rf_none, va_rf_some, isRf_rf, is1_rf, i0, i1, bI_eq0, bI_eq1, nm_em, nI_eqP, nI_leP, nI_ltP, nN_e1, nN_e2, nN_l1, nN_l2, nN_l3, nN_l4, nI_add, pk_mul, vp_inN, nI_cl, n01, n10, P_i, P_ii, P_iii, f_Mo_at, f_Mo_map, f_Mo_contact, f_Mo_within, f_Mo_isPort, f_Hp_endpoint, f_Hp_nodeOf, f_Hp_portOf, f_Ma_max, f_Ma_min, f_Hp_isSetting, popN, rok, a1, noX, swc, mL, if_true, if_false, ↓reduceIte, cond_true, cond_false, true_and, and_true, List.length_cons, List.length_nil, List.nil_append, List.cons_append, List.append_nil, Option.toList, Nat.reduceEqDiff, Bool.false_eq_true, reduceCtorEq, Nat.reduceAdd, Nat.reduceLT, Nat.reduceLeDiff, Nat.reduceSub, List.replicate, Nat.zero_add, Nat.lt_add_one, Nat.le_refl, Nat.zero_le, Nat.succ_ne_zero, not_false_eq_true, not_true_eq_false, false_implies, true_implies, forall_const, imp_self, true_or, or_true, eq_self, sI_zw, zw_zw, hI_zw, tg_zw, ln_zw, hR_zw, hL_zw, hN_zw, hM_zw, upd_s, upd_u, upd_ne, Classical.not_not, k_Mo_add, h1, h2, h3, h4, z1]; try clear hgo9 hW9)
  (obtain ⟨W9, hW9, hgo9⟩ := wp_ex (T_Mo_add l G) [] _; refine hgo9 200 _ _ _ _ ?_; simp -implicitDefEqProofs (disch := omega) only [hW9, inl, gate, Xq, tz_const, tz_iload, tz_lload, tz_dload, tz_aload, tz_istore, tz_astore, tz_lstore, tz_dstore, tz_iinc, tz_i1, tz_i2, tz_i2z, tz_l2, tz_l2z, tz_i2l, tz_l2i, tz_lcmp, tz_i2d, tz_d2, tz_dcmp, tz_dup, tz_dup2, tz_pop, tz_if, tz_icmp, tz_null, tz_goto, tz_sw, tz_getf, tz_puti, tz_putz, tz_putr, tz_putl, tz_iaload, tz_baload, tz_laload, tz_aaload, tz_iastore, tz_bastore, tz_lastore, tz_aastore, tz_alen, tz_new, tz_newa, tz_oinit, tz_iret, tz_zret, tz_lret, tz_dret, tz_aret, tz_vret, tz_throw, tz_callS, tz_callV, tz_callI, tz_callR, tz_pureS, tz_pureV, tz_callVH, lg, lset, lkill, lst1, lst2, entL, isRf, is1, vl, va_rf_none, va_rf_some, isRf_rf, is1_rf, i0, i1, bI_eq0, bI_eq1, nm_em, nI_eqP, nI_leP, nI_ltP, nN_e1, nN_e2, nN_l1, nN_l2, nN_l3, nN_l4, nI_add, pk_mul, vp_inN, nI_cl, n01, n10, P_i, P_ii, P_iii, f_Mo_at, f_Mo_map, f_Mo_contact, f_Mo_within, f_Mo_isPort, f_Hp_endpoint, f_Hp_nodeOf, f_Hp_portOf, f_Ma_max, f_Ma_min, f_Hp_isSetting, popN, rok, a1, noX, swc, mL, if_true, if_false, ↓reduceIte, cond_true, cond_false, true_and, and_true, List.length_cons, List.length_nil, List.nil_append, List.cons_append, List.append_nil, Option.toList, Nat.reduceEqDiff, Bool.false_eq_true, reduceCtorEq, Nat.reduceAdd, Nat.reduceLT, Nat.reduceLeDiff, Nat.reduceSub, List.replicate, Nat.zero_add, Nat.lt_add_one, Nat.le_refl, Nat.zero_le, Nat.succ_ne_zero, not_false_eq_true, not_true_eq_false, false_implies, true_implies, forall_const, imp_self, true_or, or_true, eq_self, sI_zw, zw_zw, hI_zw, tg_zw, ln_zw, hR_zw, hL_zw, hN_zw, hM_zw, upd_s, upd_u, upd_ne, Classical.not_not, k_Mo_add, h1, h2, h3, h4, z1]; try clear hgo9 hW9)
  exact hQ
theorem c_Mo_addTranslatorTo (a zr : Nat) (net x y w : Int32) (h : AH) (Q : Po) (hm : MoS h a zr) (hz : Z10 (hI h zr)) (hlt : mny (hI h zr) < 10) (hQ : Q (.inl (some (.int (nI (mny (hI h zr)))))) (zw h zr (addTZ (hI h zr) net x y w))) : Call l G M_Mo_addTranslatorTo [.ref a, .int net, .int x, .int y, .int w] h Q := by
  obtain ⟨h1, h2, h3, h4⟩ := id hm
  obtain ⟨z1, z2⟩ := hz.at
  refine call_of rfl rfl (Nat.le_of_ble_eq_true rfl) ?_
  (obtain ⟨W9, hW9, hgo9⟩ := wp_ex (T_Mo_addTranslatorTo l G) [] _; refine hgo9 200 _ _ _ _ ?_; simp -implicitDefEqProofs (disch := omega) only [hW9, inl, gate, Xq, tz_const, tz_iload, tz_lload, tz_dload, tz_aload, tz_istore, tz_astore, tz_lstore, tz_dstore, tz_iinc, tz_i1, tz_i2, tz_i2z, tz_l2, tz_l2z, tz_i2l, tz_l2i, tz_lcmp, tz_i2d, tz_d2, tz_dcmp, tz_dup, tz_dup2, tz_pop, tz_if, tz_icmp, tz_null, tz_goto, tz_sw, tz_getf, tz_puti, tz_putz, tz_putr, tz_putl, tz_iaload, tz_baload, tz_laload, tz_aaload, tz_iastore, tz_bastore, tz_lastore, tz_aastore, tz_alen, tz_new, tz_newa, tz_oinit, tz_iret, tz_zret, tz_lret, tz_dret, tz_aret, tz_vret, tz_throw, tz_callS, tz_callV, tz_callI, tz_callR, tz_pureS, tz_pureV, tz_callVH, lg, lset, lkill, lst1, lst2, entL, isRf, is1, vl, va_rf_none, va_rf_some, isRf_rf, is1_rf, i0, i1, bI_eq0, bI_eq1, nm_em, nI_eqP, nI_leP, nI_ltP, nN_e1, nN_e2, nN_l1, nN_l2, nN_l3, nN_l4, nI_add, pk_mul, vp_inN, nI_cl, n01, n10, P_i, P_ii, P_iii, f_Mo_at, f_Mo_map, f_Mo_contact, f_Mo_within, f_Mo_isPort, f_Hp_endpoint, f_Hp_nodeOf, f_Hp_portOf, f_Ma_max, f_Ma_min, f_Hp_isSetting, popN, rok, a1, noX, swc, mL, if_true, if_false, ↓reduceIte, cond_true, cond_false, true_and, and_true, List.length_cons, List.length_nil, List.nil_append, List.cons_append, List.append_nil, Option.toList, Nat.reduceEqDiff, Bool.false_eq_true, reduceCtorEq, Nat.reduceAdd, Nat.reduceLT, Nat.reduceLeDiff, Nat.reduceSub, List.replicate, Nat.zero_add, Nat.lt_add_one, Nat.le_refl, Nat.zero_le, Nat.succ_ne_zero, not_false_eq_true, not_true_eq_false, false_implies, true_implies, forall_const, imp_self, true_or, or_true, eq_self, sI_zw, zw_zw, hI_zw, tg_zw, ln_zw, hR_zw, hL_zw, hN_zw, hM_zw, upd_s, upd_u, upd_ne, Classical.not_not, k_Mo_addTranslatorTo, h1, h2, h3, h4, z1]; try clear hgo9 hW9)
  refine c_Mo_add a zr _ _ _ hm hz hlt ?_
  simp only [aft]
  (obtain ⟨W9, hW9, hgo9⟩ := wp_ex (T_Mo_addTranslatorTo l G) [43] _; refine hgo9 200 _ _ _ _ ?_; simp -implicitDefEqProofs (disch := omega) only [hW9, inl, gate, Xq, tz_const, tz_iload, tz_lload, tz_dload, tz_aload, tz_istore, tz_astore, tz_lstore, tz_dstore, tz_iinc, tz_i1, tz_i2, tz_i2z, tz_l2, tz_l2z, tz_i2l, tz_l2i, tz_lcmp, tz_i2d, tz_d2, tz_dcmp, tz_dup, tz_dup2, tz_pop, tz_if, tz_icmp, tz_null, tz_goto, tz_sw, tz_getf, tz_puti, tz_putz, tz_putr, tz_putl, tz_iaload, tz_baload, tz_laload, tz_aaload, tz_iastore, tz_bastore, tz_lastore, tz_aastore, tz_alen, tz_new, tz_newa, tz_oinit, tz_iret, tz_zret, tz_lret, tz_dret, tz_aret, tz_vret, tz_throw, tz_callS, tz_callV, tz_callI, tz_callR, tz_pureS, tz_pureV, tz_callVH, lg, lset, lkill, lst1, lst2, entL, isRf, is1, vl, va_rf_none, va_rf_some, isRf_rf, is1_rf, i0, i1, bI_eq0, bI_eq1, nm_em, nI_eqP, nI_leP, nI_ltP, nN_e1, nN_e2, nN_l1, nN_l2, nN_l3, nN_l4, nI_add, pk_mul, vp_inN, nI_cl, n01, n10, P_i, P_ii, P_iii, f_Mo_at, f_Mo_map, f_Mo_contact, f_Mo_within, f_Mo_isPort, f_Hp_endpoint, f_Hp_nodeOf, f_Hp_portOf, f_Ma_max, f_Ma_min, f_Hp_isSetting, popN, rok, a1, noX, swc, mL, if_true, if_false, ↓reduceIte, cond_true, cond_false, true_and, and_true, List.length_cons, List.length_nil, List.nil_append, List.cons_append, List.append_nil, Option.toList, Nat.reduceEqDiff, Bool.false_eq_true, reduceCtorEq, Nat.reduceAdd, Nat.reduceLT, Nat.reduceLeDiff, Nat.reduceSub, List.replicate, Nat.zero_add, Nat.lt_add_one, Nat.le_refl, Nat.zero_le, Nat.succ_ne_zero, not_false_eq_true, not_true_eq_false, false_implies, true_implies, forall_const, imp_self, true_or, or_true, eq_self, sI_zw, zw_zw, hI_zw, tg_zw, ln_zw, hR_zw, hL_zw, hN_zw, hM_zw, upd_s, upd_u, upd_ne, Classical.not_not, k_Mo_addTranslatorTo, h1, h2, h3, h4, z1]; try clear hgo9 hW9)
  (obtain ⟨W9, hW9, hgo9⟩ := wp_ex (T_Mo_addTranslatorTo l G) [82] _; refine hgo9 200 _ _ _ _ ?_; simp -implicitDefEqProofs (disch := omega) only [hW9, inl, gate, Xq, tz_const, tz_iload, tz_lload, tz_dload, tz_aload, tz_istore, tz_astore, tz_lstore, tz_dstore, tz_iinc, tz_i1, tz_i2, tz_i2z, tz_l2, tz_l2z, tz_i2l, tz_l2i, tz_lcmp, tz_i2d, tz_d2, tz_dcmp, tz_dup, tz_dup2, tz_pop, tz_if, tz_icmp, tz_null, tz_goto, tz_sw, tz_getf, tz_puti, tz_putz, tz_putr, tz_putl, tz_iaload, tz_baload, tz_laload, tz_aaload, tz_iastore, tz_bastore, tz_lastore, tz_aastore, tz_alen, tz_new, tz_newa, tz_oinit, tz_iret, tz_zret, tz_lret, tz_dret, tz_aret, tz_vret, tz_throw, tz_callS, tz_callV, tz_callI, tz_callR, tz_pureS, tz_pureV, tz_callVH, lg, lset, lkill, lst1, lst2, entL, isRf, is1, vl, va_rf_none, va_rf_some, isRf_rf, is1_rf, i0, i1, bI_eq0, bI_eq1, nm_em, nI_eqP, nI_leP, nI_ltP, nN_e1, nN_e2, nN_l1, nN_l2, nN_l3, nN_l4, nI_add, pk_mul, vp_inN, nI_cl, n01, n10, P_i, P_ii, P_iii, f_Mo_at, f_Mo_map, f_Mo_contact, f_Mo_within, f_Mo_isPort, f_Hp_endpoint, f_Hp_nodeOf, f_Hp_portOf, f_Ma_max, f_Ma_min, f_Hp_isSetting, popN, rok, a1, noX, swc, mL, if_true, if_false, ↓reduceIte, cond_true, cond_false, true_and, and_true, List.length_cons, List.length_nil, List.nil_append, List.cons_append, List.append_nil, Option.toList, Nat.reduceEqDiff, Bool.false_eq_true, reduceCtorEq, Nat.reduceAdd, Nat.reduceLT, Nat.reduceLeDiff, Nat.reduceSub, List.replicate, Nat.zero_add, Nat.lt_add_one, Nat.le_refl, Nat.zero_le, Nat.succ_ne_zero, not_false_eq_true, not_true_eq_false, false_implies, true_implies, forall_const, imp_self, true_or, or_true, eq_self, sI_zw, zw_zw, hI_zw, tg_zw, ln_zw, hR_zw, hL_zw, hN_zw, hM_zw, upd_s, upd_u, upd_ne, Classical.not_not, k_Mo_addTranslatorTo, h1, h2, h3, h4, z1]; try clear hgo9 hW9)
  (obtain ⟨W9, hW9, hgo9⟩ := wp_ex (T_Mo_addTranslatorTo l G) [] _; refine hgo9 200 _ _ _ _ ?_; simp -implicitDefEqProofs (disch := omega) only [hW9, inl, gate, Xq, tz_const, tz_iload, tz_lload, tz_dload, tz_aload, tz_istore, tz_astore, tz_lstore, tz_dstore, tz_iinc, tz_i1, tz_i2, tz_i2z, tz_l2, tz_l2z, tz_i2l, tz_l2i, tz_lcmp, tz_i2d, tz_d2, tz_dcmp, tz_dup, tz_dup2, tz_pop, tz_if, tz_icmp, tz_null, tz_goto, tz_sw, tz_getf, tz_puti, tz_putz, tz_putr, tz_putl, tz_iaload, tz_baload, tz_laload, tz_aaload, tz_iastore, tz_bastore, tz_lastore, tz_aastore, tz_alen, tz_new, tz_newa, tz_oinit, tz_iret, tz_zret, tz_lret, tz_dret, tz_aret, tz_vret, tz_throw, tz_callS, tz_callV, tz_callI, tz_callR, tz_pureS, tz_pureV, tz_callVH, lg, lset, lkill, lst1, lst2, entL, isRf, is1, vl, va_rf_none, va_rf_some, isRf_rf, is1_rf, i0, i1, bI_eq0, bI_eq1, nm_em, nI_eqP, nI_leP, nI_ltP, nN_e1, nN_e2, nN_l1, nN_l2, nN_l3, nN_l4, nI_add, pk_mul, vp_inN, nI_cl, n01, n10, P_i, P_ii, P_iii, f_Mo_at, f_Mo_map, f_Mo_contact, f_Mo_within, f_Mo_isPort, f_Hp_endpoint, f_Hp_nodeOf, f_Hp_portOf, f_Ma_max, f_Ma_min, f_Hp_isSetting, popN, rok, a1, noX, swc, mL, if_true, if_false, ↓reduceIte, cond_true, cond_false, true_and, and_true, List.length_cons, List.length_nil, List.nil_append, List.cons_append, List.append_nil, Option.toList, Nat.reduceEqDiff, Bool.false_eq_true, reduceCtorEq, Nat.reduceAdd, Nat.reduceLT, Nat.reduceLeDiff, Nat.reduceSub, List.replicate, Nat.zero_add, Nat.lt_add_one, Nat.le_refl, Nat.zero_le, Nat.succ_ne_zero, not_false_eq_true, not_true_eq_false, false_implies, true_implies, forall_const, imp_self, true_or, or_true, eq_self, sI_zw, zw_zw, hI_zw, tg_zw, ln_zw, hR_zw, hL_zw, hN_zw, hM_zw, upd_s, upd_u, upd_ne, Classical.not_not, k_Mo_addTranslatorTo, h1, h2, h3, h4, z1]; try clear hgo9 hW9)
  exact hQ
/-- the answer of the reference's addHost: what it says, then its answer -/
theorem c_Mo_addHost (a zr : Nat) (net : Int32) (h : AH) (Q : Po) (hm : MoS h a zr) (hz : Z10 (hI h zr))
    (h1 : ¬ NeZ (hI h zr) net → Q (.inl (some (.int (nI 0)))) (zw h a (upd (hI h a) 0 (nI 1))))
    (h2 : NeZ (hI h zr) net → mny (hI h zr) = 10 → Q (.inl (some (.int (nI 0)))) (zw h a (upd (hI h a) 0 (nI 2))))
    (h3 : NeZ (hI h zr) net → mny (hI h zr) < 10 → Q (.inl (some (.int (nI (mny (hI h zr)))))) (zw (zw h zr (addZ (hI h zr) net)) a (upd (hI h a) 0 (nI 0)))) : Call l G M_Mo_addHost [.ref a, .int net] h Q := by
  have rz := rd_ne hm.ne
  have ra := rd_ne hm.ne'
  have cm := wr_cm hm.ne'
  obtain ⟨g1, g2, g3, g4⟩ := id hm
  obtain ⟨z1, z2⟩ := hz.at
  have hP : P_Mo_isNet [.ref a, .int net] h := ⟨zr, hm, hz⟩
  refine call_of rfl rfl (Nat.le_of_ble_eq_true rfl) ?_
  have hzF := hm.zF
  (obtain ⟨W9, hW9, hgo9⟩ := wp_ex (T_Mo_addHost l G) [29] _; refine hgo9 200 _ _ _ _ ?_; simp -implicitDefEqProofs (disch := omega) only [hW9, inl, gate, Xq, tz_const, tz_iload, tz_lload, tz_dload, tz_aload, tz_istore, tz_astore, tz_lstore, tz_dstore, tz_iinc, tz_i1, tz_i2, tz_i2z, tz_l2, tz_l2z, tz_i2l, tz_l2i, tz_lcmp, tz_i2d, tz_d2, tz_dcmp, tz_dup, tz_dup2, tz_pop, tz_if, tz_icmp, tz_null, tz_goto, tz_sw, tz_getf, tz_puti, tz_putz, tz_putr, tz_putl, tz_iaload, tz_baload, tz_laload, tz_aaload, tz_iastore, tz_bastore, tz_lastore, tz_aastore, tz_alen, tz_new, tz_newa, tz_oinit, tz_iret, tz_zret, tz_lret, tz_dret, tz_aret, tz_vret, tz_throw, tz_callS, tz_callV, tz_callI, tz_callR, tz_pureS, tz_pureV, tz_callVH, lg, lset, lkill, lst1, lst2, entL, isRf, is1, vl, va_rf_none, va_rf_some, isRf_rf, is1_rf, i0, i1, bI_eq0, bI_eq1, nm_em, nI_eqP, nI_leP, nI_ltP, nN_e1, nN_e2, nN_l1, nN_l2, nN_l3, nN_l4, nI_add, pk_mul, vp_inN, nI_cl, n01, n10, P_i, P_ii, P_iii, f_Mo_at, f_Mo_map, f_Mo_contact, f_Mo_within, f_Mo_isPort, f_Hp_endpoint, f_Hp_nodeOf, f_Hp_portOf, f_Ma_max, f_Ma_min, f_Hp_isSetting, popN, rok, a1, noX, swc, mL, if_true, if_false, ↓reduceIte, cond_true, cond_false, true_and, and_true, List.length_cons, List.length_nil, List.nil_append, List.cons_append, List.append_nil, Option.toList, Nat.reduceEqDiff, Bool.false_eq_true, reduceCtorEq, Nat.reduceAdd, Nat.reduceLT, Nat.reduceLeDiff, Nat.reduceSub, List.replicate, Nat.zero_add, Nat.lt_add_one, Nat.le_refl, Nat.zero_le, Nat.succ_ne_zero, not_false_eq_true, not_true_eq_false, false_implies, true_implies, forall_const, imp_self, true_or, or_true, eq_self, sI_zw, zw_zw, hI_zw, tg_zw, ln_zw, hR_zw, hL_zw, hN_zw, hM_zw, upd_s, upd_u, upd_ne, Classical.not_not, k_Mo_addHost, g1, g2, g3, g4, z1, hP, f_Mo_isNet, hzF]; try clear hgo9 hW9)
  refine ⟨fun c => ?_, fun c => ?_⟩
  · ((obtain ⟨W9, hW9, hgo9⟩ := wp_ex (T_Mo_addHost l G) [29] _; refine hgo9 200 _ _ _ _ ?_; simp -implicitDefEqProofs (disch := omega) only [hW9, inl, gate, Xq, tz_const, tz_iload, tz_lload, tz_dload, tz_aload, tz_istore, tz_astore, tz_lstore, tz_dstore, tz_iinc, tz_i1, tz_i2, tz_i2z, tz_l2, tz_l2z, tz_i2l, tz_l2i, tz_lcmp, tz_i2d, tz_d2, tz_dcmp, tz_dup, tz_dup2, tz_pop, tz_if, tz_icmp, tz_null, tz_goto, tz_sw, tz_getf, tz_puti, tz_putz, tz_putr, tz_putl, tz_iaload, tz_baload, tz_laload, tz_aaload, tz_iastore, tz_bastore, tz_lastore, tz_aastore, tz_alen, tz_new, tz_newa, tz_oinit, tz_iret, tz_zret, tz_lret, tz_dret, tz_aret, tz_vret, tz_throw, tz_callS, tz_callV, tz_callI, tz_callR, tz_pureS, tz_pureV, tz_callVH, lg, lset, lkill, lst1, lst2, entL, isRf, is1, vl, va_rf_none, va_rf_some, isRf_rf, is1_rf, i0, i1, bI_eq0, bI_eq1, nm_em, nI_eqP, nI_leP, nI_ltP, nN_e1, nN_e2, nN_l1, nN_l2, nN_l3, nN_l4, nI_add, pk_mul, vp_inN, nI_cl, n01, n10, P_i, P_ii, P_iii, f_Mo_at, f_Mo_map, f_Mo_contact, f_Mo_within, f_Mo_isPort, f_Hp_endpoint, f_Hp_nodeOf, f_Hp_portOf, f_Ma_max, f_Ma_min, f_Hp_isSetting, popN, rok, a1, noX, swc, mL, if_true, if_false, ↓reduceIte, cond_true, cond_false, true_and, and_true, List.length_cons, List.length_nil, List.nil_append, List.cons_append, List.append_nil, Option.toList, Nat.reduceEqDiff, Bool.false_eq_true, reduceCtorEq, Nat.reduceAdd, Nat.reduceLT, Nat.reduceLeDiff, Nat.reduceSub, List.replicate, Nat.zero_add, Nat.lt_add_one, Nat.le_refl, Nat.zero_le, Nat.succ_ne_zero, not_false_eq_true, not_true_eq_false, false_implies, true_implies, forall_const, imp_self, true_or, or_true, eq_self, sI_zw, zw_zw, hI_zw, tg_zw, ln_zw, hR_zw, hL_zw, hN_zw, hM_zw, upd_s, upd_u, upd_ne, Classical.not_not, k_Mo_addHost, g1, g2, g3, g4, z1]; try clear hgo9 hW9); try (obtain ⟨W9, hW9, hgo9⟩ := wp_ex (T_Mo_addHost l G) [29] _; refine hgo9 200 _ _ _ _ ?_; simp -implicitDefEqProofs (disch := omega) only [hW9, inl, gate, Xq, tz_const, tz_iload, tz_lload, tz_dload, tz_aload, tz_istore, tz_astore, tz_lstore, tz_dstore, tz_iinc, tz_i1, tz_i2, tz_i2z, tz_l2, tz_l2z, tz_i2l, tz_l2i, tz_lcmp, tz_i2d, tz_d2, tz_dcmp, tz_dup, tz_dup2, tz_pop, tz_if, tz_icmp, tz_null, tz_goto, tz_sw, tz_getf, tz_puti, tz_putz, tz_putr, tz_putl, tz_iaload, tz_baload, tz_laload, tz_aaload, tz_iastore, tz_bastore, tz_lastore, tz_aastore, tz_alen, tz_new, tz_newa, tz_oinit, tz_iret, tz_zret, tz_lret, tz_dret, tz_aret, tz_vret, tz_throw, tz_callS, tz_callV, tz_callI, tz_callR, tz_pureS, tz_pureV, tz_callVH, lg, lset, lkill, lst1, lst2, entL, isRf, is1, vl, va_rf_none, va_rf_some, isRf_rf, is1_rf, i0, i1, bI_eq0, bI_eq1, nm_em, nI_eqP, nI_leP, nI_ltP, nN_e1, nN_e2, nN_l1, nN_l2, nN_l3, nN_l4, nI_add, pk_mul, vp_inN, nI_cl, n01, n10, P_i, P_ii, P_iii, f_Mo_at, f_Mo_map, f_Mo_contact, f_Mo_within, f_Mo_isPort, f_Hp_endpoint, f_Hp_nodeOf, f_Hp_portOf, f_Ma_max, f_Ma_min, f_Hp_isSetting, popN, rok, a1, noX, swc, mL, if_true, if_false, ↓reduceIte, cond_true, cond_false, true_and, and_true, List.length_cons, List.length_nil, List.nil_append, List.cons_append, List.append_nil, Option.toList, Nat.reduceEqDiff, Bool.false_eq_true, reduceCtorEq, Nat.reduceAdd, Nat.reduceLT, Nat.reduceLeDiff, Nat.reduceSub, List.replicate, Nat.zero_add, Nat.lt_add_one, Nat.le_refl, Nat.zero_le, Nat.succ_ne_zero, not_false_eq_true, not_true_eq_false, false_implies, true_implies, forall_const, imp_self, true_or, or_true, eq_self, sI_zw, zw_zw, hI_zw, tg_zw, ln_zw, hR_zw, hL_zw, hN_zw, hM_zw, upd_s, upd_u, upd_ne, Classical.not_not, k_Mo_addHost, g1, g2, g3, g4, z1]; try clear hgo9 hW9))
    refine ⟨fun d => ?_, fun d => ?_⟩
    · ((obtain ⟨W9, hW9, hgo9⟩ := wp_ex (T_Mo_addHost l G) [] _; refine hgo9 200 _ _ _ _ ?_; simp -implicitDefEqProofs (disch := omega) only [hW9, inl, gate, Xq, tz_const, tz_iload, tz_lload, tz_dload, tz_aload, tz_istore, tz_astore, tz_lstore, tz_dstore, tz_iinc, tz_i1, tz_i2, tz_i2z, tz_l2, tz_l2z, tz_i2l, tz_l2i, tz_lcmp, tz_i2d, tz_d2, tz_dcmp, tz_dup, tz_dup2, tz_pop, tz_if, tz_icmp, tz_null, tz_goto, tz_sw, tz_getf, tz_puti, tz_putz, tz_putr, tz_putl, tz_iaload, tz_baload, tz_laload, tz_aaload, tz_iastore, tz_bastore, tz_lastore, tz_aastore, tz_alen, tz_new, tz_newa, tz_oinit, tz_iret, tz_zret, tz_lret, tz_dret, tz_aret, tz_vret, tz_throw, tz_callS, tz_callV, tz_callI, tz_callR, tz_pureS, tz_pureV, tz_callVH, lg, lset, lkill, lst1, lst2, entL, isRf, is1, vl, va_rf_none, va_rf_some, isRf_rf, is1_rf, i0, i1, bI_eq0, bI_eq1, nm_em, nI_eqP, nI_leP, nI_ltP, nN_e1, nN_e2, nN_l1, nN_l2, nN_l3, nN_l4, nI_add, pk_mul, vp_inN, nI_cl, n01, n10, P_i, P_ii, P_iii, f_Mo_at, f_Mo_map, f_Mo_contact, f_Mo_within, f_Mo_isPort, f_Hp_endpoint, f_Hp_nodeOf, f_Hp_portOf, f_Ma_max, f_Ma_min, f_Hp_isSetting, popN, rok, a1, noX, swc, mL, if_true, if_false, ↓reduceIte, cond_true, cond_false, true_and, and_true, List.length_cons, List.length_nil, List.nil_append, List.cons_append, List.append_nil, Option.toList, Nat.reduceEqDiff, Bool.false_eq_true, reduceCtorEq, Nat.reduceAdd, Nat.reduceLT, Nat.reduceLeDiff, Nat.reduceSub, List.replicate, Nat.zero_add, Nat.lt_add_one, Nat.le_refl, Nat.zero_le, Nat.succ_ne_zero, not_false_eq_true, not_true_eq_false, false_implies, true_implies, forall_const, imp_self, true_or, or_true, eq_self, sI_zw, zw_zw, hI_zw, tg_zw, ln_zw, hR_zw, hL_zw, hN_zw, hM_zw, upd_s, upd_u, upd_ne, Classical.not_not, k_Mo_addHost, g1, g2, g3, g4, z1, rz, ra]; try clear hgo9 hW9); try (obtain ⟨W9, hW9, hgo9⟩ := wp_ex (T_Mo_addHost l G) [] _; refine hgo9 200 _ _ _ _ ?_; simp -implicitDefEqProofs (disch := omega) only [hW9, inl, gate, Xq, tz_const, tz_iload, tz_lload, tz_dload, tz_aload, tz_istore, tz_astore, tz_lstore, tz_dstore, tz_iinc, tz_i1, tz_i2, tz_i2z, tz_l2, tz_l2z, tz_i2l, tz_l2i, tz_lcmp, tz_i2d, tz_d2, tz_dcmp, tz_dup, tz_dup2, tz_pop, tz_if, tz_icmp, tz_null, tz_goto, tz_sw, tz_getf, tz_puti, tz_putz, tz_putr, tz_putl, tz_iaload, tz_baload, tz_laload, tz_aaload, tz_iastore, tz_bastore, tz_lastore, tz_aastore, tz_alen, tz_new, tz_newa, tz_oinit, tz_iret, tz_zret, tz_lret, tz_dret, tz_aret, tz_vret, tz_throw, tz_callS, tz_callV, tz_callI, tz_callR, tz_pureS, tz_pureV, tz_callVH, lg, lset, lkill, lst1, lst2, entL, isRf, is1, vl, va_rf_none, va_rf_some, isRf_rf, is1_rf, i0, i1, bI_eq0, bI_eq1, nm_em, nI_eqP, nI_leP, nI_ltP, nN_e1, nN_e2, nN_l1, nN_l2, nN_l3, nN_l4, nI_add, pk_mul, vp_inN, nI_cl, n01, n10, P_i, P_ii, P_iii, f_Mo_at, f_Mo_map, f_Mo_contact, f_Mo_within, f_Mo_isPort, f_Hp_endpoint, f_Hp_nodeOf, f_Hp_portOf, f_Ma_max, f_Ma_min, f_Hp_isSetting, popN, rok, a1, noX, swc, mL, if_true, if_false, ↓reduceIte, cond_true, cond_false, true_and, and_true, List.length_cons, List.length_nil, List.nil_append, List.cons_append, List.append_nil, Option.toList, Nat.reduceEqDiff, Bool.false_eq_true, reduceCtorEq, Nat.reduceAdd, Nat.reduceLT, Nat.reduceLeDiff, Nat.reduceSub, List.replicate, Nat.zero_add, Nat.lt_add_one, Nat.le_refl, Nat.zero_le, Nat.succ_ne_zero, not_false_eq_true, not_true_eq_false, false_implies, true_implies, forall_const, imp_self, true_or, or_true, eq_self, sI_zw, zw_zw, hI_zw, tg_zw, ln_zw, hR_zw, hL_zw, hN_zw, hM_zw, upd_s, upd_u, upd_ne, Classical.not_not, k_Mo_addHost, g1, g2, g3, g4, z1, rz, ra]; try clear hgo9 hW9); try (obtain ⟨W9, hW9, hgo9⟩ := wp_ex (T_Mo_addHost l G) [] _; refine hgo9 200 _ _ _ _ ?_; simp -implicitDefEqProofs (disch := omega) only [hW9, inl, gate, Xq, tz_const, tz_iload, tz_lload, tz_dload, tz_aload, tz_istore, tz_astore, tz_lstore, tz_dstore, tz_iinc, tz_i1, tz_i2, tz_i2z, tz_l2, tz_l2z, tz_i2l, tz_l2i, tz_lcmp, tz_i2d, tz_d2, tz_dcmp, tz_dup, tz_dup2, tz_pop, tz_if, tz_icmp, tz_null, tz_goto, tz_sw, tz_getf, tz_puti, tz_putz, tz_putr, tz_putl, tz_iaload, tz_baload, tz_laload, tz_aaload, tz_iastore, tz_bastore, tz_lastore, tz_aastore, tz_alen, tz_new, tz_newa, tz_oinit, tz_iret, tz_zret, tz_lret, tz_dret, tz_aret, tz_vret, tz_throw, tz_callS, tz_callV, tz_callI, tz_callR, tz_pureS, tz_pureV, tz_callVH, lg, lset, lkill, lst1, lst2, entL, isRf, is1, vl, va_rf_none, va_rf_some, isRf_rf, is1_rf, i0, i1, bI_eq0, bI_eq1, nm_em, nI_eqP, nI_leP, nI_ltP, nN_e1, nN_e2, nN_l1, nN_l2, nN_l3, nN_l4, nI_add, pk_mul, vp_inN, nI_cl, n01, n10, P_i, P_ii, P_iii, f_Mo_at, f_Mo_map, f_Mo_contact, f_Mo_within, f_Mo_isPort, f_Hp_endpoint, f_Hp_nodeOf, f_Hp_portOf, f_Ma_max, f_Ma_min, f_Hp_isSetting, popN, rok, a1, noX, swc, mL, if_true, if_false, ↓reduceIte, cond_true, cond_false, true_and, and_true, List.length_cons, List.length_nil, List.nil_append, List.cons_append, List.append_nil, Option.toList, Nat.reduceEqDiff, Bool.false_eq_true, reduceCtorEq, Nat.reduceAdd, Nat.reduceLT, Nat.reduceLeDiff, Nat.reduceSub, List.replicate, Nat.zero_add, Nat.lt_add_one, Nat.le_refl, Nat.zero_le, Nat.succ_ne_zero, not_false_eq_true, not_true_eq_false, false_implies, true_implies, forall_const, imp_self, true_or, or_true, eq_self, sI_zw, zw_zw, hI_zw, tg_zw, ln_zw, hR_zw, hL_zw, hN_zw, hM_zw, upd_s, upd_u, upd_ne, Classical.not_not, k_Mo_addHost, g1, g2, g3, g4, z1, rz, ra]; try clear hgo9 hW9))
      refine c_Mo_add a zr _ _ _ hm.zw (by rw [rz]; exact hz) (by rw [rz]; omega) ?_
      simp only [aft]
      (obtain ⟨W9, hW9, hgo9⟩ := wp_ex (T_Mo_addHost l G) [] _; refine hgo9 200 _ _ _ _ ?_; simp -implicitDefEqProofs (disch := omega) only [hW9, inl, gate, Xq, tz_const, tz_iload, tz_lload, tz_dload, tz_aload, tz_istore, tz_astore, tz_lstore, tz_dstore, tz_iinc, tz_i1, tz_i2, tz_i2z, tz_l2, tz_l2z, tz_i2l, tz_l2i, tz_lcmp, tz_i2d, tz_d2, tz_dcmp, tz_dup, tz_dup2, tz_pop, tz_if, tz_icmp, tz_null, tz_goto, tz_sw, tz_getf, tz_puti, tz_putz, tz_putr, tz_putl, tz_iaload, tz_baload, tz_laload, tz_aaload, tz_iastore, tz_bastore, tz_lastore, tz_aastore, tz_alen, tz_new, tz_newa, tz_oinit, tz_iret, tz_zret, tz_lret, tz_dret, tz_aret, tz_vret, tz_throw, tz_callS, tz_callV, tz_callI, tz_callR, tz_pureS, tz_pureV, tz_callVH, lg, lset, lkill, lst1, lst2, entL, isRf, is1, vl, va_rf_none, va_rf_some, isRf_rf, is1_rf, i0, i1, bI_eq0, bI_eq1, nm_em, nI_eqP, nI_leP, nI_ltP, nN_e1, nN_e2, nN_l1, nN_l2, nN_l3, nN_l4, nI_add, pk_mul, vp_inN, nI_cl, n01, n10, P_i, P_ii, P_iii, f_Mo_at, f_Mo_map, f_Mo_contact, f_Mo_within, f_Mo_isPort, f_Hp_endpoint, f_Hp_nodeOf, f_Hp_portOf, f_Ma_max, f_Ma_min, f_Hp_isSetting, popN, rok, a1, noX, swc, mL, if_true, if_false, ↓reduceIte, cond_true, cond_false, true_and, and_true, List.length_cons, List.length_nil, List.nil_append, List.cons_append, List.append_nil, Option.toList, Nat.reduceEqDiff, Bool.false_eq_true, reduceCtorEq, Nat.reduceAdd, Nat.reduceLT, Nat.reduceLeDiff, Nat.reduceSub, List.replicate, Nat.zero_add, Nat.lt_add_one, Nat.le_refl, Nat.zero_le, Nat.succ_ne_zero, not_false_eq_true, not_true_eq_false, false_implies, true_implies, forall_const, imp_self, true_or, or_true, eq_self, sI_zw, zw_zw, hI_zw, tg_zw, ln_zw, hR_zw, hL_zw, hN_zw, hM_zw, upd_s, upd_u, upd_ne, Classical.not_not, k_Mo_addHost, g1, g2, g3, g4, z1, rz, ra, cm]; try clear hgo9 hW9)
      exact h3 c (by omega)
    · ((obtain ⟨W9, hW9, hgo9⟩ := wp_ex (T_Mo_addHost l G) [] _; refine hgo9 200 _ _ _ _ ?_; simp -implicitDefEqProofs (disch := omega) only [hW9, inl, gate, Xq, tz_const, tz_iload, tz_lload, tz_dload, tz_aload, tz_istore, tz_astore, tz_lstore, tz_dstore, tz_iinc, tz_i1, tz_i2, tz_i2z, tz_l2, tz_l2z, tz_i2l, tz_l2i, tz_lcmp, tz_i2d, tz_d2, tz_dcmp, tz_dup, tz_dup2, tz_pop, tz_if, tz_icmp, tz_null, tz_goto, tz_sw, tz_getf, tz_puti, tz_putz, tz_putr, tz_putl, tz_iaload, tz_baload, tz_laload, tz_aaload, tz_iastore, tz_bastore, tz_lastore, tz_aastore, tz_alen, tz_new, tz_newa, tz_oinit, tz_iret, tz_zret, tz_lret, tz_dret, tz_aret, tz_vret, tz_throw, tz_callS, tz_callV, tz_callI, tz_callR, tz_pureS, tz_pureV, tz_callVH, lg, lset, lkill, lst1, lst2, entL, isRf, is1, vl, va_rf_none, va_rf_some, isRf_rf, is1_rf, i0, i1, bI_eq0, bI_eq1, nm_em, nI_eqP, nI_leP, nI_ltP, nN_e1, nN_e2, nN_l1, nN_l2, nN_l3, nN_l4, nI_add, pk_mul, vp_inN, nI_cl, n01, n10, P_i, P_ii, P_iii, f_Mo_at, f_Mo_map, f_Mo_contact, f_Mo_within, f_Mo_isPort, f_Hp_endpoint, f_Hp_nodeOf, f_Hp_portOf, f_Ma_max, f_Ma_min, f_Hp_isSetting, popN, rok, a1, noX, swc, mL, if_true, if_false, ↓reduceIte, cond_true, cond_false, true_and, and_true, List.length_cons, List.length_nil, List.nil_append, List.cons_append, List.append_nil, Option.toList, Nat.reduceEqDiff, Bool.false_eq_true, reduceCtorEq, Nat.reduceAdd, Nat.reduceLT, Nat.reduceLeDiff, Nat.reduceSub, List.replicate, Nat.zero_add, Nat.lt_add_one, Nat.le_refl, Nat.zero_le, Nat.succ_ne_zero, not_false_eq_true, not_true_eq_false, false_implies, true_implies, forall_const, imp_self, true_or, or_true, eq_self, sI_zw, zw_zw, hI_zw, tg_zw, ln_zw, hR_zw, hL_zw, hN_zw, hM_zw, upd_s, upd_u, upd_ne, Classical.not_not, k_Mo_addHost, g1, g2, g3, g4, z1, rz, ra]; try clear hgo9 hW9); try (obtain ⟨W9, hW9, hgo9⟩ := wp_ex (T_Mo_addHost l G) [] _; refine hgo9 200 _ _ _ _ ?_; simp -implicitDefEqProofs (disch := omega) only [hW9, inl, gate, Xq, tz_const, tz_iload, tz_lload, tz_dload, tz_aload, tz_istore, tz_astore, tz_lstore, tz_dstore, tz_iinc, tz_i1, tz_i2, tz_i2z, tz_l2, tz_l2z, tz_i2l, tz_l2i, tz_lcmp, tz_i2d, tz_d2, tz_dcmp, tz_dup, tz_dup2, tz_pop, tz_if, tz_icmp, tz_null, tz_goto, tz_sw, tz_getf, tz_puti, tz_putz, tz_putr, tz_putl, tz_iaload, tz_baload, tz_laload, tz_aaload, tz_iastore, tz_bastore, tz_lastore, tz_aastore, tz_alen, tz_new, tz_newa, tz_oinit, tz_iret, tz_zret, tz_lret, tz_dret, tz_aret, tz_vret, tz_throw, tz_callS, tz_callV, tz_callI, tz_callR, tz_pureS, tz_pureV, tz_callVH, lg, lset, lkill, lst1, lst2, entL, isRf, is1, vl, va_rf_none, va_rf_some, isRf_rf, is1_rf, i0, i1, bI_eq0, bI_eq1, nm_em, nI_eqP, nI_leP, nI_ltP, nN_e1, nN_e2, nN_l1, nN_l2, nN_l3, nN_l4, nI_add, pk_mul, vp_inN, nI_cl, n01, n10, P_i, P_ii, P_iii, f_Mo_at, f_Mo_map, f_Mo_contact, f_Mo_within, f_Mo_isPort, f_Hp_endpoint, f_Hp_nodeOf, f_Hp_portOf, f_Ma_max, f_Ma_min, f_Hp_isSetting, popN, rok, a1, noX, swc, mL, if_true, if_false, ↓reduceIte, cond_true, cond_false, true_and, and_true, List.length_cons, List.length_nil, List.nil_append, List.cons_append, List.append_nil, Option.toList, Nat.reduceEqDiff, Bool.false_eq_true, reduceCtorEq, Nat.reduceAdd, Nat.reduceLT, Nat.reduceLeDiff, Nat.reduceSub, List.replicate, Nat.zero_add, Nat.lt_add_one, Nat.le_refl, Nat.zero_le, Nat.succ_ne_zero, not_false_eq_true, not_true_eq_false, false_implies, true_implies, forall_const, imp_self, true_or, or_true, eq_self, sI_zw, zw_zw, hI_zw, tg_zw, ln_zw, hR_zw, hL_zw, hN_zw, hM_zw, upd_s, upd_u, upd_ne, Classical.not_not, k_Mo_addHost, g1, g2, g3, g4, z1, rz, ra]; try clear hgo9 hW9); try (obtain ⟨W9, hW9, hgo9⟩ := wp_ex (T_Mo_addHost l G) [] _; refine hgo9 200 _ _ _ _ ?_; simp -implicitDefEqProofs (disch := omega) only [hW9, inl, gate, Xq, tz_const, tz_iload, tz_lload, tz_dload, tz_aload, tz_istore, tz_astore, tz_lstore, tz_dstore, tz_iinc, tz_i1, tz_i2, tz_i2z, tz_l2, tz_l2z, tz_i2l, tz_l2i, tz_lcmp, tz_i2d, tz_d2, tz_dcmp, tz_dup, tz_dup2, tz_pop, tz_if, tz_icmp, tz_null, tz_goto, tz_sw, tz_getf, tz_puti, tz_putz, tz_putr, tz_putl, tz_iaload, tz_baload, tz_laload, tz_aaload, tz_iastore, tz_bastore, tz_lastore, tz_aastore, tz_alen, tz_new, tz_newa, tz_oinit, tz_iret, tz_zret, tz_lret, tz_dret, tz_aret, tz_vret, tz_throw, tz_callS, tz_callV, tz_callI, tz_callR, tz_pureS, tz_pureV, tz_callVH, lg, lset, lkill, lst1, lst2, entL, isRf, is1, vl, va_rf_none, va_rf_some, isRf_rf, is1_rf, i0, i1, bI_eq0, bI_eq1, nm_em, nI_eqP, nI_leP, nI_ltP, nN_e1, nN_e2, nN_l1, nN_l2, nN_l3, nN_l4, nI_add, pk_mul, vp_inN, nI_cl, n01, n10, P_i, P_ii, P_iii, f_Mo_at, f_Mo_map, f_Mo_contact, f_Mo_within, f_Mo_isPort, f_Hp_endpoint, f_Hp_nodeOf, f_Hp_portOf, f_Ma_max, f_Ma_min, f_Hp_isSetting, popN, rok, a1, noX, swc, mL, if_true, if_false, ↓reduceIte, cond_true, cond_false, true_and, and_true, List.length_cons, List.length_nil, List.nil_append, List.cons_append, List.append_nil, Option.toList, Nat.reduceEqDiff, Bool.false_eq_true, reduceCtorEq, Nat.reduceAdd, Nat.reduceLT, Nat.reduceLeDiff, Nat.reduceSub, List.replicate, Nat.zero_add, Nat.lt_add_one, Nat.le_refl, Nat.zero_le, Nat.succ_ne_zero, not_false_eq_true, not_true_eq_false, false_implies, true_implies, forall_const, imp_self, true_or, or_true, eq_self, sI_zw, zw_zw, hI_zw, tg_zw, ln_zw, hR_zw, hL_zw, hN_zw, hM_zw, upd_s, upd_u, upd_ne, Classical.not_not, k_Mo_addHost, g1, g2, g3, g4, z1, rz, ra]; try clear hgo9 hW9))
      exact h2 c (by omega)
  · ((obtain ⟨W9, hW9, hgo9⟩ := wp_ex (T_Mo_addHost l G) [] _; refine hgo9 200 _ _ _ _ ?_; simp -implicitDefEqProofs (disch := omega) only [hW9, inl, gate, Xq, tz_const, tz_iload, tz_lload, tz_dload, tz_aload, tz_istore, tz_astore, tz_lstore, tz_dstore, tz_iinc, tz_i1, tz_i2, tz_i2z, tz_l2, tz_l2z, tz_i2l, tz_l2i, tz_lcmp, tz_i2d, tz_d2, tz_dcmp, tz_dup, tz_dup2, tz_pop, tz_if, tz_icmp, tz_null, tz_goto, tz_sw, tz_getf, tz_puti, tz_putz, tz_putr, tz_putl, tz_iaload, tz_baload, tz_laload, tz_aaload, tz_iastore, tz_bastore, tz_lastore, tz_aastore, tz_alen, tz_new, tz_newa, tz_oinit, tz_iret, tz_zret, tz_lret, tz_dret, tz_aret, tz_vret, tz_throw, tz_callS, tz_callV, tz_callI, tz_callR, tz_pureS, tz_pureV, tz_callVH, lg, lset, lkill, lst1, lst2, entL, isRf, is1, vl, va_rf_none, va_rf_some, isRf_rf, is1_rf, i0, i1, bI_eq0, bI_eq1, nm_em, nI_eqP, nI_leP, nI_ltP, nN_e1, nN_e2, nN_l1, nN_l2, nN_l3, nN_l4, nI_add, pk_mul, vp_inN, nI_cl, n01, n10, P_i, P_ii, P_iii, f_Mo_at, f_Mo_map, f_Mo_contact, f_Mo_within, f_Mo_isPort, f_Hp_endpoint, f_Hp_nodeOf, f_Hp_portOf, f_Ma_max, f_Ma_min, f_Hp_isSetting, popN, rok, a1, noX, swc, mL, if_true, if_false, ↓reduceIte, cond_true, cond_false, true_and, and_true, List.length_cons, List.length_nil, List.nil_append, List.cons_append, List.append_nil, Option.toList, Nat.reduceEqDiff, Bool.false_eq_true, reduceCtorEq, Nat.reduceAdd, Nat.reduceLT, Nat.reduceLeDiff, Nat.reduceSub, List.replicate, Nat.zero_add, Nat.lt_add_one, Nat.le_refl, Nat.zero_le, Nat.succ_ne_zero, not_false_eq_true, not_true_eq_false, false_implies, true_implies, forall_const, imp_self, true_or, or_true, eq_self, sI_zw, zw_zw, hI_zw, tg_zw, ln_zw, hR_zw, hL_zw, hN_zw, hM_zw, upd_s, upd_u, upd_ne, Classical.not_not, k_Mo_addHost, g1, g2, g3, g4, z1, rz, ra]; try clear hgo9 hW9); try (obtain ⟨W9, hW9, hgo9⟩ := wp_ex (T_Mo_addHost l G) [] _; refine hgo9 200 _ _ _ _ ?_; simp -implicitDefEqProofs (disch := omega) only [hW9, inl, gate, Xq, tz_const, tz_iload, tz_lload, tz_dload, tz_aload, tz_istore, tz_astore, tz_lstore, tz_dstore, tz_iinc, tz_i1, tz_i2, tz_i2z, tz_l2, tz_l2z, tz_i2l, tz_l2i, tz_lcmp, tz_i2d, tz_d2, tz_dcmp, tz_dup, tz_dup2, tz_pop, tz_if, tz_icmp, tz_null, tz_goto, tz_sw, tz_getf, tz_puti, tz_putz, tz_putr, tz_putl, tz_iaload, tz_baload, tz_laload, tz_aaload, tz_iastore, tz_bastore, tz_lastore, tz_aastore, tz_alen, tz_new, tz_newa, tz_oinit, tz_iret, tz_zret, tz_lret, tz_dret, tz_aret, tz_vret, tz_throw, tz_callS, tz_callV, tz_callI, tz_callR, tz_pureS, tz_pureV, tz_callVH, lg, lset, lkill, lst1, lst2, entL, isRf, is1, vl, va_rf_none, va_rf_some, isRf_rf, is1_rf, i0, i1, bI_eq0, bI_eq1, nm_em, nI_eqP, nI_leP, nI_ltP, nN_e1, nN_e2, nN_l1, nN_l2, nN_l3, nN_l4, nI_add, pk_mul, vp_inN, nI_cl, n01, n10, P_i, P_ii, P_iii, f_Mo_at, f_Mo_map, f_Mo_contact, f_Mo_within, f_Mo_isPort, f_Hp_endpoint, f_Hp_nodeOf, f_Hp_portOf, f_Ma_max, f_Ma_min, f_Hp_isSetting, popN, rok, a1, noX, swc, mL, if_true, if_false, ↓reduceIte, cond_true, cond_false, true_and, and_true, List.length_cons, List.length_nil, List.nil_append, List.cons_append, List.append_nil, Option.toList, Nat.reduceEqDiff, Bool.false_eq_true, reduceCtorEq, Nat.reduceAdd, Nat.reduceLT, Nat.reduceLeDiff, Nat.reduceSub, List.replicate, Nat.zero_add, Nat.lt_add_one, Nat.le_refl, Nat.zero_le, Nat.succ_ne_zero, not_false_eq_true, not_true_eq_false, false_implies, true_implies, forall_const, imp_self, true_or, or_true, eq_self, sI_zw, zw_zw, hI_zw, tg_zw, ln_zw, hR_zw, hL_zw, hN_zw, hM_zw, upd_s, upd_u, upd_ne, Classical.not_not, k_Mo_addHost, g1, g2, g3, g4, z1, rz, ra]; try clear hgo9 hW9); try (obtain ⟨W9, hW9, hgo9⟩ := wp_ex (T_Mo_addHost l G) [] _; refine hgo9 200 _ _ _ _ ?_; simp -implicitDefEqProofs (disch := omega) only [hW9, inl, gate, Xq, tz_const, tz_iload, tz_lload, tz_dload, tz_aload, tz_istore, tz_astore, tz_lstore, tz_dstore, tz_iinc, tz_i1, tz_i2, tz_i2z, tz_l2, tz_l2z, tz_i2l, tz_l2i, tz_lcmp, tz_i2d, tz_d2, tz_dcmp, tz_dup, tz_dup2, tz_pop, tz_if, tz_icmp, tz_null, tz_goto, tz_sw, tz_getf, tz_puti, tz_putz, tz_putr, tz_putl, tz_iaload, tz_baload, tz_laload, tz_aaload, tz_iastore, tz_bastore, tz_lastore, tz_aastore, tz_alen, tz_new, tz_newa, tz_oinit, tz_iret, tz_zret, tz_lret, tz_dret, tz_aret, tz_vret, tz_throw, tz_callS, tz_callV, tz_callI, tz_callR, tz_pureS, tz_pureV, tz_callVH, lg, lset, lkill, lst1, lst2, entL, isRf, is1, vl, va_rf_none, va_rf_some, isRf_rf, is1_rf, i0, i1, bI_eq0, bI_eq1, nm_em, nI_eqP, nI_leP, nI_ltP, nN_e1, nN_e2, nN_l1, nN_l2, nN_l3, nN_l4, nI_add, pk_mul, vp_inN, nI_cl, n01, n10, P_i, P_ii, P_iii, f_Mo_at, f_Mo_map, f_Mo_contact, f_Mo_within, f_Mo_isPort, f_Hp_endpoint, f_Hp_nodeOf, f_Hp_portOf, f_Ma_max, f_Ma_min, f_Hp_isSetting, popN, rok, a1, noX, swc, mL, if_true, if_false, ↓reduceIte, cond_true, cond_false, true_and, and_true, List.length_cons, List.length_nil, List.nil_append, List.cons_append, List.append_nil, Option.toList, Nat.reduceEqDiff, Bool.false_eq_true, reduceCtorEq, Nat.reduceAdd, Nat.reduceLT, Nat.reduceLeDiff, Nat.reduceSub, List.replicate, Nat.zero_add, Nat.lt_add_one, Nat.le_refl, Nat.zero_le, Nat.succ_ne_zero, not_false_eq_true, not_true_eq_false, false_implies, true_implies, forall_const, imp_self, true_or, or_true, eq_self, sI_zw, zw_zw, hI_zw, tg_zw, ln_zw, hR_zw, hL_zw, hN_zw, hM_zw, upd_s, upd_u, upd_ne, Classical.not_not, k_Mo_addHost, g1, g2, g3, g4, z1, rz, ra]; try clear hgo9 hW9))
    exact h1 c
/-- a setting kept within 0 and 2 -/
def set3 (x : Int32) : Prop := nI 0 ≤ x ∧ x ≤ nI 2
theorem c_Mo_addTranslator (a zr : Nat) (net x y w : Int32) (h : AH) (Q : Po) (hm : MoS h a zr) (hz : Z10 (hI h zr))
    (h1 : ¬ NeZ (hI h zr) net → Q (.inl (some (.int (nI 0)))) (zw h a (upd (hI h a) 0 (nI 1))))
    (h2 : NeZ (hI h zr) net → ¬ (set3 x ∧ set3 y ∧ set3 w) → Q (.inl (some (.int (nI 0)))) (zw h a (upd (hI h a) 0 (nI 2))))
    (h3 : NeZ (hI h zr) net → set3 x → set3 y → set3 w → mny (hI h zr) = 10 → Q (.inl (some (.int (nI 0)))) (zw h a (upd (hI h a) 0 (nI 3))))
    (h4 : NeZ (hI h zr) net → set3 x → set3 y → set3 w → mny (hI h zr) < 10 → Q (.inl (some (.int (nI (mny (hI h zr)))))) (zw (zw h zr (addTZ (hI h zr) net x y w)) a (upd (hI h a) 0 (nI 0)))) : Call l G M_Mo_addTranslator [.ref a, .int net, .int x, .int y, .int w] h Q := by
  have rz := rd_ne hm.ne
  have ra := rd_ne hm.ne'
  have cm := wr_cm hm.ne'
  obtain ⟨g1, g2, g3, g4⟩ := id hm
  obtain ⟨z1, z2⟩ := hz.at
  have hzF := hm.zF
  have hP : P_Mo_isNet [.ref a, .int net] h := ⟨zr, hm, hz⟩
  have no : ∀ (v : Option Value), ¬ (set3 x ∧ set3 y ∧ set3 w) → AWp l G M_Mo_addTranslator 32 [some (.ref a), some (.int net), some (.int x), some (.int y), some (.int w), v] [] h Q := by
    intro v c
    (obtain ⟨W9, hW9, hgo9⟩ := wp_ex (T_Mo_addTranslator l G) [] _; refine hgo9 200 _ _ _ _ ?_; simp -implicitDefEqProofs (disch := omega) only [hW9, inl, gate, Xq, tz_const, tz_iload, tz_lload, tz_dload, tz_aload, tz_istore, tz_astore, tz_lstore, tz_dstore, tz_iinc, tz_i1, tz_i2, tz_i2z, tz_l2, tz_l2z, tz_i2l, tz_l2i, tz_lcmp, tz_i2d, tz_d2, tz_dcmp, tz_dup, tz_dup2, tz_pop, tz_if, tz_icmp, tz_null, tz_goto, tz_sw, tz_getf, tz_puti, tz_putz, tz_putr, tz_putl, tz_iaload, tz_baload, tz_laload, tz_aaload, tz_iastore, tz_bastore, tz_lastore, tz_aastore, tz_alen, tz_new, tz_newa, tz_oinit, tz_iret, tz_zret, tz_lret, tz_dret, tz_aret, tz_vret, tz_throw, tz_callS, tz_callV, tz_callI, tz_callR, tz_pureS, tz_pureV, tz_callVH, lg, lset, lkill, lst1, lst2, entL, isRf, is1, vl, va_rf_none, va_rf_some, isRf_rf, is1_rf, i0, i1, bI_eq0, bI_eq1, nm_em, nI_eqP, nI_leP, nI_ltP, nN_e1, nN_e2, nN_l1, nN_l2, nN_l3, nN_l4, nI_add, pk_mul, vp_inN, nI_cl, n01, n10, P_i, P_ii, P_iii, f_Mo_at, f_Mo_map, f_Mo_contact, f_Mo_within, f_Mo_isPort, f_Hp_endpoint, f_Hp_nodeOf, f_Hp_portOf, f_Ma_max, f_Ma_min, f_Hp_isSetting, popN, rok, a1, noX, swc, mL, if_true, if_false, ↓reduceIte, cond_true, cond_false, true_and, and_true, List.length_cons, List.length_nil, List.nil_append, List.cons_append, List.append_nil, Option.toList, Nat.reduceEqDiff, Bool.false_eq_true, reduceCtorEq, Nat.reduceAdd, Nat.reduceLT, Nat.reduceLeDiff, Nat.reduceSub, List.replicate, Nat.zero_add, Nat.lt_add_one, Nat.le_refl, Nat.zero_le, Nat.succ_ne_zero, not_false_eq_true, not_true_eq_false, false_implies, true_implies, forall_const, imp_self, true_or, or_true, eq_self, sI_zw, zw_zw, hI_zw, tg_zw, ln_zw, hR_zw, hL_zw, hN_zw, hM_zw, upd_s, upd_u, upd_ne, Classical.not_not, k_Mo_addTranslator, g1, g2, g3, g4, z1, hP, f_Mo_isNet, hzF]; try clear hgo9 hW9)
    refine ⟨fun d => ?_, fun d => ?_⟩
    · ((obtain ⟨W9, hW9, hgo9⟩ := wp_ex (T_Mo_addTranslator l G) [] _; refine hgo9 200 _ _ _ _ ?_; simp -implicitDefEqProofs (disch := omega) only [hW9, inl, gate, Xq, tz_const, tz_iload, tz_lload, tz_dload, tz_aload, tz_istore, tz_astore, tz_lstore, tz_dstore, tz_iinc, tz_i1, tz_i2, tz_i2z, tz_l2, tz_l2z, tz_i2l, tz_l2i, tz_lcmp, tz_i2d, tz_d2, tz_dcmp, tz_dup, tz_dup2, tz_pop, tz_if, tz_icmp, tz_null, tz_goto, tz_sw, tz_getf, tz_puti, tz_putz, tz_putr, tz_putl, tz_iaload, tz_baload, tz_laload, tz_aaload, tz_iastore, tz_bastore, tz_lastore, tz_aastore, tz_alen, tz_new, tz_newa, tz_oinit, tz_iret, tz_zret, tz_lret, tz_dret, tz_aret, tz_vret, tz_throw, tz_callS, tz_callV, tz_callI, tz_callR, tz_pureS, tz_pureV, tz_callVH, lg, lset, lkill, lst1, lst2, entL, isRf, is1, vl, va_rf_none, va_rf_some, isRf_rf, is1_rf, i0, i1, bI_eq0, bI_eq1, nm_em, nI_eqP, nI_leP, nI_ltP, nN_e1, nN_e2, nN_l1, nN_l2, nN_l3, nN_l4, nI_add, pk_mul, vp_inN, nI_cl, n01, n10, P_i, P_ii, P_iii, f_Mo_at, f_Mo_map, f_Mo_contact, f_Mo_within, f_Mo_isPort, f_Hp_endpoint, f_Hp_nodeOf, f_Hp_portOf, f_Ma_max, f_Ma_min, f_Hp_isSetting, popN, rok, a1, noX, swc, mL, if_true, if_false, ↓reduceIte, cond_true, cond_false, true_and, and_true, List.length_cons, List.length_nil, List.nil_append, List.cons_append, List.append_nil, Option.toList, Nat.reduceEqDiff, Bool.false_eq_true, reduceCtorEq, Nat.reduceAdd, Nat.reduceLT, Nat.reduceLeDiff, Nat.reduceSub, List.replicate, Nat.zero_add, Nat.lt_add_one, Nat.le_refl, Nat.zero_le, Nat.succ_ne_zero, not_false_eq_true, not_true_eq_false, false_implies, true_implies, forall_const, imp_self, true_or, or_true, eq_self, sI_zw, zw_zw, hI_zw, tg_zw, ln_zw, hR_zw, hL_zw, hN_zw, hM_zw, upd_s, upd_u, upd_ne, Classical.not_not, k_Mo_addTranslator, g1, g2, g3, g4, z1, ra, rz]; try clear hgo9 hW9); try (obtain ⟨W9, hW9, hgo9⟩ := wp_ex (T_Mo_addTranslator l G) [] _; refine hgo9 200 _ _ _ _ ?_; simp -implicitDefEqProofs (disch := omega) only [hW9, inl, gate, Xq, tz_const, tz_iload, tz_lload, tz_dload, tz_aload, tz_istore, tz_astore, tz_lstore, tz_dstore, tz_iinc, tz_i1, tz_i2, tz_i2z, tz_l2, tz_l2z, tz_i2l, tz_l2i, tz_lcmp, tz_i2d, tz_d2, tz_dcmp, tz_dup, tz_dup2, tz_pop, tz_if, tz_icmp, tz_null, tz_goto, tz_sw, tz_getf, tz_puti, tz_putz, tz_putr, tz_putl, tz_iaload, tz_baload, tz_laload, tz_aaload, tz_iastore, tz_bastore, tz_lastore, tz_aastore, tz_alen, tz_new, tz_newa, tz_oinit, tz_iret, tz_zret, tz_lret, tz_dret, tz_aret, tz_vret, tz_throw, tz_callS, tz_callV, tz_callI, tz_callR, tz_pureS, tz_pureV, tz_callVH, lg, lset, lkill, lst1, lst2, entL, isRf, is1, vl, va_rf_none, va_rf_some, isRf_rf, is1_rf, i0, i1, bI_eq0, bI_eq1, nm_em, nI_eqP, nI_leP, nI_ltP, nN_e1, nN_e2, nN_l1, nN_l2, nN_l3, nN_l4, nI_add, pk_mul, vp_inN, nI_cl, n01, n10, P_i, P_ii, P_iii, f_Mo_at, f_Mo_map, f_Mo_contact, f_Mo_within, f_Mo_isPort, f_Hp_endpoint, f_Hp_nodeOf, f_Hp_portOf, f_Ma_max, f_Ma_min, f_Hp_isSetting, popN, rok, a1, noX, swc, mL, if_true, if_false, ↓reduceIte, cond_true, cond_false, true_and, and_true, List.length_cons, List.length_nil, List.nil_append, List.cons_append, List.append_nil, Option.toList, Nat.reduceEqDiff, Bool.false_eq_true, reduceCtorEq, Nat.reduceAdd, Nat.reduceLT, Nat.reduceLeDiff, Nat.reduceSub, List.replicate, Nat.zero_add, Nat.lt_add_one, Nat.le_refl, Nat.zero_le, Nat.succ_ne_zero, not_false_eq_true, not_true_eq_false, false_implies, true_implies, forall_const, imp_self, true_or, or_true, eq_self, sI_zw, zw_zw, hI_zw, tg_zw, ln_zw, hR_zw, hL_zw, hN_zw, hM_zw, upd_s, upd_u, upd_ne, Classical.not_not, k_Mo_addTranslator, g1, g2, g3, g4, z1, ra, rz]; try clear hgo9 hW9); try (obtain ⟨W9, hW9, hgo9⟩ := wp_ex (T_Mo_addTranslator l G) [] _; refine hgo9 200 _ _ _ _ ?_; simp -implicitDefEqProofs (disch := omega) only [hW9, inl, gate, Xq, tz_const, tz_iload, tz_lload, tz_dload, tz_aload, tz_istore, tz_astore, tz_lstore, tz_dstore, tz_iinc, tz_i1, tz_i2, tz_i2z, tz_l2, tz_l2z, tz_i2l, tz_l2i, tz_lcmp, tz_i2d, tz_d2, tz_dcmp, tz_dup, tz_dup2, tz_pop, tz_if, tz_icmp, tz_null, tz_goto, tz_sw, tz_getf, tz_puti, tz_putz, tz_putr, tz_putl, tz_iaload, tz_baload, tz_laload, tz_aaload, tz_iastore, tz_bastore, tz_lastore, tz_aastore, tz_alen, tz_new, tz_newa, tz_oinit, tz_iret, tz_zret, tz_lret, tz_dret, tz_aret, tz_vret, tz_throw, tz_callS, tz_callV, tz_callI, tz_callR, tz_pureS, tz_pureV, tz_callVH, lg, lset, lkill, lst1, lst2, entL, isRf, is1, vl, va_rf_none, va_rf_some, isRf_rf, is1_rf, i0, i1, bI_eq0, bI_eq1, nm_em, nI_eqP, nI_leP, nI_ltP, nN_e1, nN_e2, nN_l1, nN_l2, nN_l3, nN_l4, nI_add, pk_mul, vp_inN, nI_cl, n01, n10, P_i, P_ii, P_iii, f_Mo_at, f_Mo_map, f_Mo_contact, f_Mo_within, f_Mo_isPort, f_Hp_endpoint, f_Hp_nodeOf, f_Hp_portOf, f_Ma_max, f_Ma_min, f_Hp_isSetting, popN, rok, a1, noX, swc, mL, if_true, if_false, ↓reduceIte, cond_true, cond_false, true_and, and_true, List.length_cons, List.length_nil, List.nil_append, List.cons_append, List.append_nil, Option.toList, Nat.reduceEqDiff, Bool.false_eq_true, reduceCtorEq, Nat.reduceAdd, Nat.reduceLT, Nat.reduceLeDiff, Nat.reduceSub, List.replicate, Nat.zero_add, Nat.lt_add_one, Nat.le_refl, Nat.zero_le, Nat.succ_ne_zero, not_false_eq_true, not_true_eq_false, false_implies, true_implies, forall_const, imp_self, true_or, or_true, eq_self, sI_zw, zw_zw, hI_zw, tg_zw, ln_zw, hR_zw, hL_zw, hN_zw, hM_zw, upd_s, upd_u, upd_ne, Classical.not_not, k_Mo_addTranslator, g1, g2, g3, g4, z1, ra, rz]; try clear hgo9 hW9))
      exact h2 d c
    · ((obtain ⟨W9, hW9, hgo9⟩ := wp_ex (T_Mo_addTranslator l G) [] _; refine hgo9 200 _ _ _ _ ?_; simp -implicitDefEqProofs (disch := omega) only [hW9, inl, gate, Xq, tz_const, tz_iload, tz_lload, tz_dload, tz_aload, tz_istore, tz_astore, tz_lstore, tz_dstore, tz_iinc, tz_i1, tz_i2, tz_i2z, tz_l2, tz_l2z, tz_i2l, tz_l2i, tz_lcmp, tz_i2d, tz_d2, tz_dcmp, tz_dup, tz_dup2, tz_pop, tz_if, tz_icmp, tz_null, tz_goto, tz_sw, tz_getf, tz_puti, tz_putz, tz_putr, tz_putl, tz_iaload, tz_baload, tz_laload, tz_aaload, tz_iastore, tz_bastore, tz_lastore, tz_aastore, tz_alen, tz_new, tz_newa, tz_oinit, tz_iret, tz_zret, tz_lret, tz_dret, tz_aret, tz_vret, tz_throw, tz_callS, tz_callV, tz_callI, tz_callR, tz_pureS, tz_pureV, tz_callVH, lg, lset, lkill, lst1, lst2, entL, isRf, is1, vl, va_rf_none, va_rf_some, isRf_rf, is1_rf, i0, i1, bI_eq0, bI_eq1, nm_em, nI_eqP, nI_leP, nI_ltP, nN_e1, nN_e2, nN_l1, nN_l2, nN_l3, nN_l4, nI_add, pk_mul, vp_inN, nI_cl, n01, n10, P_i, P_ii, P_iii, f_Mo_at, f_Mo_map, f_Mo_contact, f_Mo_within, f_Mo_isPort, f_Hp_endpoint, f_Hp_nodeOf, f_Hp_portOf, f_Ma_max, f_Ma_min, f_Hp_isSetting, popN, rok, a1, noX, swc, mL, if_true, if_false, ↓reduceIte, cond_true, cond_false, true_and, and_true, List.length_cons, List.length_nil, List.nil_append, List.cons_append, List.append_nil, Option.toList, Nat.reduceEqDiff, Bool.false_eq_true, reduceCtorEq, Nat.reduceAdd, Nat.reduceLT, Nat.reduceLeDiff, Nat.reduceSub, List.replicate, Nat.zero_add, Nat.lt_add_one, Nat.le_refl, Nat.zero_le, Nat.succ_ne_zero, not_false_eq_true, not_true_eq_false, false_implies, true_implies, forall_const, imp_self, true_or, or_true, eq_self, sI_zw, zw_zw, hI_zw, tg_zw, ln_zw, hR_zw, hL_zw, hN_zw, hM_zw, upd_s, upd_u, upd_ne, Classical.not_not, k_Mo_addTranslator, g1, g2, g3, g4, z1, ra, rz]; try clear hgo9 hW9); try (obtain ⟨W9, hW9, hgo9⟩ := wp_ex (T_Mo_addTranslator l G) [] _; refine hgo9 200 _ _ _ _ ?_; simp -implicitDefEqProofs (disch := omega) only [hW9, inl, gate, Xq, tz_const, tz_iload, tz_lload, tz_dload, tz_aload, tz_istore, tz_astore, tz_lstore, tz_dstore, tz_iinc, tz_i1, tz_i2, tz_i2z, tz_l2, tz_l2z, tz_i2l, tz_l2i, tz_lcmp, tz_i2d, tz_d2, tz_dcmp, tz_dup, tz_dup2, tz_pop, tz_if, tz_icmp, tz_null, tz_goto, tz_sw, tz_getf, tz_puti, tz_putz, tz_putr, tz_putl, tz_iaload, tz_baload, tz_laload, tz_aaload, tz_iastore, tz_bastore, tz_lastore, tz_aastore, tz_alen, tz_new, tz_newa, tz_oinit, tz_iret, tz_zret, tz_lret, tz_dret, tz_aret, tz_vret, tz_throw, tz_callS, tz_callV, tz_callI, tz_callR, tz_pureS, tz_pureV, tz_callVH, lg, lset, lkill, lst1, lst2, entL, isRf, is1, vl, va_rf_none, va_rf_some, isRf_rf, is1_rf, i0, i1, bI_eq0, bI_eq1, nm_em, nI_eqP, nI_leP, nI_ltP, nN_e1, nN_e2, nN_l1, nN_l2, nN_l3, nN_l4, nI_add, pk_mul, vp_inN, nI_cl, n01, n10, P_i, P_ii, P_iii, f_Mo_at, f_Mo_map, f_Mo_contact, f_Mo_within, f_Mo_isPort, f_Hp_endpoint, f_Hp_nodeOf, f_Hp_portOf, f_Ma_max, f_Ma_min, f_Hp_isSetting, popN, rok, a1, noX, swc, mL, if_true, if_false, ↓reduceIte, cond_true, cond_false, true_and, and_true, List.length_cons, List.length_nil, List.nil_append, List.cons_append, List.append_nil, Option.toList, Nat.reduceEqDiff, Bool.false_eq_true, reduceCtorEq, Nat.reduceAdd, Nat.reduceLT, Nat.reduceLeDiff, Nat.reduceSub, List.replicate, Nat.zero_add, Nat.lt_add_one, Nat.le_refl, Nat.zero_le, Nat.succ_ne_zero, not_false_eq_true, not_true_eq_false, false_implies, true_implies, forall_const, imp_self, true_or, or_true, eq_self, sI_zw, zw_zw, hI_zw, tg_zw, ln_zw, hR_zw, hL_zw, hN_zw, hM_zw, upd_s, upd_u, upd_ne, Classical.not_not, k_Mo_addTranslator, g1, g2, g3, g4, z1, ra, rz]; try clear hgo9 hW9); try (obtain ⟨W9, hW9, hgo9⟩ := wp_ex (T_Mo_addTranslator l G) [] _; refine hgo9 200 _ _ _ _ ?_; simp -implicitDefEqProofs (disch := omega) only [hW9, inl, gate, Xq, tz_const, tz_iload, tz_lload, tz_dload, tz_aload, tz_istore, tz_astore, tz_lstore, tz_dstore, tz_iinc, tz_i1, tz_i2, tz_i2z, tz_l2, tz_l2z, tz_i2l, tz_l2i, tz_lcmp, tz_i2d, tz_d2, tz_dcmp, tz_dup, tz_dup2, tz_pop, tz_if, tz_icmp, tz_null, tz_goto, tz_sw, tz_getf, tz_puti, tz_putz, tz_putr, tz_putl, tz_iaload, tz_baload, tz_laload, tz_aaload, tz_iastore, tz_bastore, tz_lastore, tz_aastore, tz_alen, tz_new, tz_newa, tz_oinit, tz_iret, tz_zret, tz_lret, tz_dret, tz_aret, tz_vret, tz_throw, tz_callS, tz_callV, tz_callI, tz_callR, tz_pureS, tz_pureV, tz_callVH, lg, lset, lkill, lst1, lst2, entL, isRf, is1, vl, va_rf_none, va_rf_some, isRf_rf, is1_rf, i0, i1, bI_eq0, bI_eq1, nm_em, nI_eqP, nI_leP, nI_ltP, nN_e1, nN_e2, nN_l1, nN_l2, nN_l3, nN_l4, nI_add, pk_mul, vp_inN, nI_cl, n01, n10, P_i, P_ii, P_iii, f_Mo_at, f_Mo_map, f_Mo_contact, f_Mo_within, f_Mo_isPort, f_Hp_endpoint, f_Hp_nodeOf, f_Hp_portOf, f_Ma_max, f_Ma_min, f_Hp_isSetting, popN, rok, a1, noX, swc, mL, if_true, if_false, ↓reduceIte, cond_true, cond_false, true_and, and_true, List.length_cons, List.length_nil, List.nil_append, List.cons_append, List.append_nil, Option.toList, Nat.reduceEqDiff, Bool.false_eq_true, reduceCtorEq, Nat.reduceAdd, Nat.reduceLT, Nat.reduceLeDiff, Nat.reduceSub, List.replicate, Nat.zero_add, Nat.lt_add_one, Nat.le_refl, Nat.zero_le, Nat.succ_ne_zero, not_false_eq_true, not_true_eq_false, false_implies, true_implies, forall_const, imp_self, true_or, or_true, eq_self, sI_zw, zw_zw, hI_zw, tg_zw, ln_zw, hR_zw, hL_zw, hN_zw, hM_zw, upd_s, upd_u, upd_ne, Classical.not_not, k_Mo_addTranslator, g1, g2, g3, g4, z1, ra, rz]; try clear hgo9 hW9))
      exact h1 d
  refine call_of rfl rfl (Nat.le_of_ble_eq_true rfl) ?_
  (obtain ⟨W9, hW9, hgo9⟩ := wp_ex (T_Mo_addTranslator l G) [32] _; refine hgo9 200 _ _ _ _ ?_; simp -implicitDefEqProofs (disch := omega) only [hW9, inl, gate, Xq, tz_const, tz_iload, tz_lload, tz_dload, tz_aload, tz_istore, tz_astore, tz_lstore, tz_dstore, tz_iinc, tz_i1, tz_i2, tz_i2z, tz_l2, tz_l2z, tz_i2l, tz_l2i, tz_lcmp, tz_i2d, tz_d2, tz_dcmp, tz_dup, tz_dup2, tz_pop, tz_if, tz_icmp, tz_null, tz_goto, tz_sw, tz_getf, tz_puti, tz_putz, tz_putr, tz_putl, tz_iaload, tz_baload, tz_laload, tz_aaload, tz_iastore, tz_bastore, tz_lastore, tz_aastore, tz_alen, tz_new, tz_newa, tz_oinit, tz_iret, tz_zret, tz_lret, tz_dret, tz_aret, tz_vret, tz_throw, tz_callS, tz_callV, tz_callI, tz_callR, tz_pureS, tz_pureV, tz_callVH, lg, lset, lkill, lst1, lst2, entL, isRf, is1, vl, va_rf_none, va_rf_some, isRf_rf, is1_rf, i0, i1, bI_eq0, bI_eq1, nm_em, nI_eqP, nI_leP, nI_ltP, nN_e1, nN_e2, nN_l1, nN_l2, nN_l3, nN_l4, nI_add, pk_mul, vp_inN, nI_cl, n01, n10, P_i, P_ii, P_iii, f_Mo_at, f_Mo_map, f_Mo_contact, f_Mo_within, f_Mo_isPort, f_Hp_endpoint, f_Hp_nodeOf, f_Hp_portOf, f_Ma_max, f_Ma_min, f_Hp_isSetting, popN, rok, a1, noX, swc, mL, if_true, if_false, ↓reduceIte, cond_true, cond_false, true_and, and_true, List.length_cons, List.length_nil, List.nil_append, List.cons_append, List.append_nil, Option.toList, Nat.reduceEqDiff, Bool.false_eq_true, reduceCtorEq, Nat.reduceAdd, Nat.reduceLT, Nat.reduceLeDiff, Nat.reduceSub, List.replicate, Nat.zero_add, Nat.lt_add_one, Nat.le_refl, Nat.zero_le, Nat.succ_ne_zero, not_false_eq_true, not_true_eq_false, false_implies, true_implies, forall_const, imp_self, true_or, or_true, eq_self, sI_zw, zw_zw, hI_zw, tg_zw, ln_zw, hR_zw, hL_zw, hN_zw, hM_zw, upd_s, upd_u, upd_ne, Classical.not_not, k_Mo_addTranslator, g1, g2, g3, g4, z1]; try clear hgo9 hW9)
  refine ⟨fun c => ?_, fun c => ?_⟩
  · exact no _ (fun q => c q.1)
  · (obtain ⟨W9, hW9, hgo9⟩ := wp_ex (T_Mo_addTranslator l G) [32] _; refine hgo9 200 _ _ _ _ ?_; simp -implicitDefEqProofs (disch := omega) only [hW9, inl, gate, Xq, tz_const, tz_iload, tz_lload, tz_dload, tz_aload, tz_istore, tz_astore, tz_lstore, tz_dstore, tz_iinc, tz_i1, tz_i2, tz_i2z, tz_l2, tz_l2z, tz_i2l, tz_l2i, tz_lcmp, tz_i2d, tz_d2, tz_dcmp, tz_dup, tz_dup2, tz_pop, tz_if, tz_icmp, tz_null, tz_goto, tz_sw, tz_getf, tz_puti, tz_putz, tz_putr, tz_putl, tz_iaload, tz_baload, tz_laload, tz_aaload, tz_iastore, tz_bastore, tz_lastore, tz_aastore, tz_alen, tz_new, tz_newa, tz_oinit, tz_iret, tz_zret, tz_lret, tz_dret, tz_aret, tz_vret, tz_throw, tz_callS, tz_callV, tz_callI, tz_callR, tz_pureS, tz_pureV, tz_callVH, lg, lset, lkill, lst1, lst2, entL, isRf, is1, vl, va_rf_none, va_rf_some, isRf_rf, is1_rf, i0, i1, bI_eq0, bI_eq1, nm_em, nI_eqP, nI_leP, nI_ltP, nN_e1, nN_e2, nN_l1, nN_l2, nN_l3, nN_l4, nI_add, pk_mul, vp_inN, nI_cl, n01, n10, P_i, P_ii, P_iii, f_Mo_at, f_Mo_map, f_Mo_contact, f_Mo_within, f_Mo_isPort, f_Hp_endpoint, f_Hp_nodeOf, f_Hp_portOf, f_Ma_max, f_Ma_min, f_Hp_isSetting, popN, rok, a1, noX, swc, mL, if_true, if_false, ↓reduceIte, cond_true, cond_false, true_and, and_true, List.length_cons, List.length_nil, List.nil_append, List.cons_append, List.append_nil, Option.toList, Nat.reduceEqDiff, Bool.false_eq_true, reduceCtorEq, Nat.reduceAdd, Nat.reduceLT, Nat.reduceLeDiff, Nat.reduceSub, List.replicate, Nat.zero_add, Nat.lt_add_one, Nat.le_refl, Nat.zero_le, Nat.succ_ne_zero, not_false_eq_true, not_true_eq_false, false_implies, true_implies, forall_const, imp_self, true_or, or_true, eq_self, sI_zw, zw_zw, hI_zw, tg_zw, ln_zw, hR_zw, hL_zw, hN_zw, hM_zw, upd_s, upd_u, upd_ne, Classical.not_not, k_Mo_addTranslator, g1, g2, g3, g4, z1]; try clear hgo9 hW9)
    refine ⟨fun c2 => ?_, fun c2 => ?_⟩
    · exact no _ (fun q => c2 q.2.1)
    · (obtain ⟨W9, hW9, hgo9⟩ := wp_ex (T_Mo_addTranslator l G) [32] _; refine hgo9 200 _ _ _ _ ?_; simp -implicitDefEqProofs (disch := omega) only [hW9, inl, gate, Xq, tz_const, tz_iload, tz_lload, tz_dload, tz_aload, tz_istore, tz_astore, tz_lstore, tz_dstore, tz_iinc, tz_i1, tz_i2, tz_i2z, tz_l2, tz_l2z, tz_i2l, tz_l2i, tz_lcmp, tz_i2d, tz_d2, tz_dcmp, tz_dup, tz_dup2, tz_pop, tz_if, tz_icmp, tz_null, tz_goto, tz_sw, tz_getf, tz_puti, tz_putz, tz_putr, tz_putl, tz_iaload, tz_baload, tz_laload, tz_aaload, tz_iastore, tz_bastore, tz_lastore, tz_aastore, tz_alen, tz_new, tz_newa, tz_oinit, tz_iret, tz_zret, tz_lret, tz_dret, tz_aret, tz_vret, tz_throw, tz_callS, tz_callV, tz_callI, tz_callR, tz_pureS, tz_pureV, tz_callVH, lg, lset, lkill, lst1, lst2, entL, isRf, is1, vl, va_rf_none, va_rf_some, isRf_rf, is1_rf, i0, i1, bI_eq0, bI_eq1, nm_em, nI_eqP, nI_leP, nI_ltP, nN_e1, nN_e2, nN_l1, nN_l2, nN_l3, nN_l4, nI_add, pk_mul, vp_inN, nI_cl, n01, n10, P_i, P_ii, P_iii, f_Mo_at, f_Mo_map, f_Mo_contact, f_Mo_within, f_Mo_isPort, f_Hp_endpoint, f_Hp_nodeOf, f_Hp_portOf, f_Ma_max, f_Ma_min, f_Hp_isSetting, popN, rok, a1, noX, swc, mL, if_true, if_false, ↓reduceIte, cond_true, cond_false, true_and, and_true, List.length_cons, List.length_nil, List.nil_append, List.cons_append, List.append_nil, Option.toList, Nat.reduceEqDiff, Bool.false_eq_true, reduceCtorEq, Nat.reduceAdd, Nat.reduceLT, Nat.reduceLeDiff, Nat.reduceSub, List.replicate, Nat.zero_add, Nat.lt_add_one, Nat.le_refl, Nat.zero_le, Nat.succ_ne_zero, not_false_eq_true, not_true_eq_false, false_implies, true_implies, forall_const, imp_self, true_or, or_true, eq_self, sI_zw, zw_zw, hI_zw, tg_zw, ln_zw, hR_zw, hL_zw, hN_zw, hM_zw, upd_s, upd_u, upd_ne, Classical.not_not, k_Mo_addTranslator, g1, g2, g3, g4, z1]; try clear hgo9 hW9)
      refine ⟨fun c3 => ?_, fun c3 => ?_⟩
      · exact no _ (fun q => c3 q.2.2)
      · (obtain ⟨W9, hW9, hgo9⟩ := wp_ex (T_Mo_addTranslator l G) [32] _; refine hgo9 200 _ _ _ _ ?_; simp -implicitDefEqProofs (disch := omega) only [hW9, inl, gate, Xq, tz_const, tz_iload, tz_lload, tz_dload, tz_aload, tz_istore, tz_astore, tz_lstore, tz_dstore, tz_iinc, tz_i1, tz_i2, tz_i2z, tz_l2, tz_l2z, tz_i2l, tz_l2i, tz_lcmp, tz_i2d, tz_d2, tz_dcmp, tz_dup, tz_dup2, tz_pop, tz_if, tz_icmp, tz_null, tz_goto, tz_sw, tz_getf, tz_puti, tz_putz, tz_putr, tz_putl, tz_iaload, tz_baload, tz_laload, tz_aaload, tz_iastore, tz_bastore, tz_lastore, tz_aastore, tz_alen, tz_new, tz_newa, tz_oinit, tz_iret, tz_zret, tz_lret, tz_dret, tz_aret, tz_vret, tz_throw, tz_callS, tz_callV, tz_callI, tz_callR, tz_pureS, tz_pureV, tz_callVH, lg, lset, lkill, lst1, lst2, entL, isRf, is1, vl, va_rf_none, va_rf_some, isRf_rf, is1_rf, i0, i1, bI_eq0, bI_eq1, nm_em, nI_eqP, nI_leP, nI_ltP, nN_e1, nN_e2, nN_l1, nN_l2, nN_l3, nN_l4, nI_add, pk_mul, vp_inN, nI_cl, n01, n10, P_i, P_ii, P_iii, f_Mo_at, f_Mo_map, f_Mo_contact, f_Mo_within, f_Mo_isPort, f_Hp_endpoint, f_Hp_nodeOf, f_Hp_portOf, f_Ma_max, f_Ma_min, f_Hp_isSetting, popN, rok, a1, noX, swc, mL, if_true, if_false, ↓reduceIte, cond_true, cond_false, true_and, and_true, List.length_cons, List.length_nil, List.nil_append, List.cons_append, List.append_nil, Option.toList, Nat.reduceEqDiff, Bool.false_eq_true, reduceCtorEq, Nat.reduceAdd, Nat.reduceLT, Nat.reduceLeDiff, Nat.reduceSub, List.replicate, Nat.zero_add, Nat.lt_add_one, Nat.le_refl, Nat.zero_le, Nat.succ_ne_zero, not_false_eq_true, not_true_eq_false, false_implies, true_implies, forall_const, imp_self, true_or, or_true, eq_self, sI_zw, zw_zw, hI_zw, tg_zw, ln_zw, hR_zw, hL_zw, hN_zw, hM_zw, upd_s, upd_u, upd_ne, Classical.not_not, k_Mo_addTranslator, g1, g2, g3, g4, z1, hP, f_Mo_isNet, hzF]; try clear hgo9 hW9)
        refine ⟨fun d => ?_, fun d => ?_⟩
        · ((obtain ⟨W9, hW9, hgo9⟩ := wp_ex (T_Mo_addTranslator l G) [] _; refine hgo9 200 _ _ _ _ ?_; simp -implicitDefEqProofs (disch := omega) only [hW9, inl, gate, Xq, tz_const, tz_iload, tz_lload, tz_dload, tz_aload, tz_istore, tz_astore, tz_lstore, tz_dstore, tz_iinc, tz_i1, tz_i2, tz_i2z, tz_l2, tz_l2z, tz_i2l, tz_l2i, tz_lcmp, tz_i2d, tz_d2, tz_dcmp, tz_dup, tz_dup2, tz_pop, tz_if, tz_icmp, tz_null, tz_goto, tz_sw, tz_getf, tz_puti, tz_putz, tz_putr, tz_putl, tz_iaload, tz_baload, tz_laload, tz_aaload, tz_iastore, tz_bastore, tz_lastore, tz_aastore, tz_alen, tz_new, tz_newa, tz_oinit, tz_iret, tz_zret, tz_lret, tz_dret, tz_aret, tz_vret, tz_throw, tz_callS, tz_callV, tz_callI, tz_callR, tz_pureS, tz_pureV, tz_callVH, lg, lset, lkill, lst1, lst2, entL, isRf, is1, vl, va_rf_none, va_rf_some, isRf_rf, is1_rf, i0, i1, bI_eq0, bI_eq1, nm_em, nI_eqP, nI_leP, nI_ltP, nN_e1, nN_e2, nN_l1, nN_l2, nN_l3, nN_l4, nI_add, pk_mul, vp_inN, nI_cl, n01, n10, P_i, P_ii, P_iii, f_Mo_at, f_Mo_map, f_Mo_contact, f_Mo_within, f_Mo_isPort, f_Hp_endpoint, f_Hp_nodeOf, f_Hp_portOf, f_Ma_max, f_Ma_min, f_Hp_isSetting, popN, rok, a1, noX, swc, mL, if_true, if_false, ↓reduceIte, cond_true, cond_false, true_and, and_true, List.length_cons, List.length_nil, List.nil_append, List.cons_append, List.append_nil, Option.toList, Nat.reduceEqDiff, Bool.false_eq_true, reduceCtorEq, Nat.reduceAdd, Nat.reduceLT, Nat.reduceLeDiff, Nat.reduceSub, List.replicate, Nat.zero_add, Nat.lt_add_one, Nat.le_refl, Nat.zero_le, Nat.succ_ne_zero, not_false_eq_true, not_true_eq_false, false_implies, true_implies, forall_const, imp_self, true_or, or_true, eq_self, sI_zw, zw_zw, hI_zw, tg_zw, ln_zw, hR_zw, hL_zw, hN_zw, hM_zw, upd_s, upd_u, upd_ne, Classical.not_not, k_Mo_addTranslator, g1, g2, g3, g4, z1]; try clear hgo9 hW9); try (obtain ⟨W9, hW9, hgo9⟩ := wp_ex (T_Mo_addTranslator l G) [] _; refine hgo9 200 _ _ _ _ ?_; simp -implicitDefEqProofs (disch := omega) only [hW9, inl, gate, Xq, tz_const, tz_iload, tz_lload, tz_dload, tz_aload, tz_istore, tz_astore, tz_lstore, tz_dstore, tz_iinc, tz_i1, tz_i2, tz_i2z, tz_l2, tz_l2z, tz_i2l, tz_l2i, tz_lcmp, tz_i2d, tz_d2, tz_dcmp, tz_dup, tz_dup2, tz_pop, tz_if, tz_icmp, tz_null, tz_goto, tz_sw, tz_getf, tz_puti, tz_putz, tz_putr, tz_putl, tz_iaload, tz_baload, tz_laload, tz_aaload, tz_iastore, tz_bastore, tz_lastore, tz_aastore, tz_alen, tz_new, tz_newa, tz_oinit, tz_iret, tz_zret, tz_lret, tz_dret, tz_aret, tz_vret, tz_throw, tz_callS, tz_callV, tz_callI, tz_callR, tz_pureS, tz_pureV, tz_callVH, lg, lset, lkill, lst1, lst2, entL, isRf, is1, vl, va_rf_none, va_rf_some, isRf_rf, is1_rf, i0, i1, bI_eq0, bI_eq1, nm_em, nI_eqP, nI_leP, nI_ltP, nN_e1, nN_e2, nN_l1, nN_l2, nN_l3, nN_l4, nI_add, pk_mul, vp_inN, nI_cl, n01, n10, P_i, P_ii, P_iii, f_Mo_at, f_Mo_map, f_Mo_contact, f_Mo_within, f_Mo_isPort, f_Hp_endpoint, f_Hp_nodeOf, f_Hp_portOf, f_Ma_max, f_Ma_min, f_Hp_isSetting, popN, rok, a1, noX, swc, mL, if_true, if_false, ↓reduceIte, cond_true, cond_false, true_and, and_true, List.length_cons, List.length_nil, List.nil_append, List.cons_append, List.append_nil, Option.toList, Nat.reduceEqDiff, Bool.false_eq_true, reduceCtorEq, Nat.reduceAdd, Nat.reduceLT, Nat.reduceLeDiff, Nat.reduceSub, List.replicate, Nat.zero_add, Nat.lt_add_one, Nat.le_refl, Nat.zero_le, Nat.succ_ne_zero, not_false_eq_true, not_true_eq_false, false_implies, true_implies, forall_const, imp_self, true_or, or_true, eq_self, sI_zw, zw_zw, hI_zw, tg_zw, ln_zw, hR_zw, hL_zw, hN_zw, hM_zw, upd_s, upd_u, upd_ne, Classical.not_not, k_Mo_addTranslator, g1, g2, g3, g4, z1]; try clear hgo9 hW9))
          refine ⟨fun e => ?_, fun e => ?_⟩
          · ((obtain ⟨W9, hW9, hgo9⟩ := wp_ex (T_Mo_addTranslator l G) [] _; refine hgo9 200 _ _ _ _ ?_; simp -implicitDefEqProofs (disch := omega) only [hW9, inl, gate, Xq, tz_const, tz_iload, tz_lload, tz_dload, tz_aload, tz_istore, tz_astore, tz_lstore, tz_dstore, tz_iinc, tz_i1, tz_i2, tz_i2z, tz_l2, tz_l2z, tz_i2l, tz_l2i, tz_lcmp, tz_i2d, tz_d2, tz_dcmp, tz_dup, tz_dup2, tz_pop, tz_if, tz_icmp, tz_null, tz_goto, tz_sw, tz_getf, tz_puti, tz_putz, tz_putr, tz_putl, tz_iaload, tz_baload, tz_laload, tz_aaload, tz_iastore, tz_bastore, tz_lastore, tz_aastore, tz_alen, tz_new, tz_newa, tz_oinit, tz_iret, tz_zret, tz_lret, tz_dret, tz_aret, tz_vret, tz_throw, tz_callS, tz_callV, tz_callI, tz_callR, tz_pureS, tz_pureV, tz_callVH, lg, lset, lkill, lst1, lst2, entL, isRf, is1, vl, va_rf_none, va_rf_some, isRf_rf, is1_rf, i0, i1, bI_eq0, bI_eq1, nm_em, nI_eqP, nI_leP, nI_ltP, nN_e1, nN_e2, nN_l1, nN_l2, nN_l3, nN_l4, nI_add, pk_mul, vp_inN, nI_cl, n01, n10, P_i, P_ii, P_iii, f_Mo_at, f_Mo_map, f_Mo_contact, f_Mo_within, f_Mo_isPort, f_Hp_endpoint, f_Hp_nodeOf, f_Hp_portOf, f_Ma_max, f_Ma_min, f_Hp_isSetting, popN, rok, a1, noX, swc, mL, if_true, if_false, ↓reduceIte, cond_true, cond_false, true_and, and_true, List.length_cons, List.length_nil, List.nil_append, List.cons_append, List.append_nil, Option.toList, Nat.reduceEqDiff, Bool.false_eq_true, reduceCtorEq, Nat.reduceAdd, Nat.reduceLT, Nat.reduceLeDiff, Nat.reduceSub, List.replicate, Nat.zero_add, Nat.lt_add_one, Nat.le_refl, Nat.zero_le, Nat.succ_ne_zero, not_false_eq_true, not_true_eq_false, false_implies, true_implies, forall_const, imp_self, true_or, or_true, eq_self, sI_zw, zw_zw, hI_zw, tg_zw, ln_zw, hR_zw, hL_zw, hN_zw, hM_zw, upd_s, upd_u, upd_ne, Classical.not_not, k_Mo_addTranslator, g1, g2, g3, g4, z1, rz, ra]; try clear hgo9 hW9); try (obtain ⟨W9, hW9, hgo9⟩ := wp_ex (T_Mo_addTranslator l G) [] _; refine hgo9 200 _ _ _ _ ?_; simp -implicitDefEqProofs (disch := omega) only [hW9, inl, gate, Xq, tz_const, tz_iload, tz_lload, tz_dload, tz_aload, tz_istore, tz_astore, tz_lstore, tz_dstore, tz_iinc, tz_i1, tz_i2, tz_i2z, tz_l2, tz_l2z, tz_i2l, tz_l2i, tz_lcmp, tz_i2d, tz_d2, tz_dcmp, tz_dup, tz_dup2, tz_pop, tz_if, tz_icmp, tz_null, tz_goto, tz_sw, tz_getf, tz_puti, tz_putz, tz_putr, tz_putl, tz_iaload, tz_baload, tz_laload, tz_aaload, tz_iastore, tz_bastore, tz_lastore, tz_aastore, tz_alen, tz_new, tz_newa, tz_oinit, tz_iret, tz_zret, tz_lret, tz_dret, tz_aret, tz_vret, tz_throw, tz_callS, tz_callV, tz_callI, tz_callR, tz_pureS, tz_pureV, tz_callVH, lg, lset, lkill, lst1, lst2, entL, isRf, is1, vl, va_rf_none, va_rf_some, isRf_rf, is1_rf, i0, i1, bI_eq0, bI_eq1, nm_em, nI_eqP, nI_leP, nI_ltP, nN_e1, nN_e2, nN_l1, nN_l2, nN_l3, nN_l4, nI_add, pk_mul, vp_inN, nI_cl, n01, n10, P_i, P_ii, P_iii, f_Mo_at, f_Mo_map, f_Mo_contact, f_Mo_within, f_Mo_isPort, f_Hp_endpoint, f_Hp_nodeOf, f_Hp_portOf, f_Ma_max, f_Ma_min, f_Hp_isSetting, popN, rok, a1, noX, swc, mL, if_true, if_false, ↓reduceIte, cond_true, cond_false, true_and, and_true, List.length_cons, List.length_nil, List.nil_append, List.cons_append, List.append_nil, Option.toList, Nat.reduceEqDiff, Bool.false_eq_true, reduceCtorEq, Nat.reduceAdd, Nat.reduceLT, Nat.reduceLeDiff, Nat.reduceSub, List.replicate, Nat.zero_add, Nat.lt_add_one, Nat.le_refl, Nat.zero_le, Nat.succ_ne_zero, not_false_eq_true, not_true_eq_false, false_implies, true_implies, forall_const, imp_self, true_or, or_true, eq_self, sI_zw, zw_zw, hI_zw, tg_zw, ln_zw, hR_zw, hL_zw, hN_zw, hM_zw, upd_s, upd_u, upd_ne, Classical.not_not, k_Mo_addTranslator, g1, g2, g3, g4, z1, rz, ra]; try clear hgo9 hW9); try (obtain ⟨W9, hW9, hgo9⟩ := wp_ex (T_Mo_addTranslator l G) [] _; refine hgo9 200 _ _ _ _ ?_; simp -implicitDefEqProofs (disch := omega) only [hW9, inl, gate, Xq, tz_const, tz_iload, tz_lload, tz_dload, tz_aload, tz_istore, tz_astore, tz_lstore, tz_dstore, tz_iinc, tz_i1, tz_i2, tz_i2z, tz_l2, tz_l2z, tz_i2l, tz_l2i, tz_lcmp, tz_i2d, tz_d2, tz_dcmp, tz_dup, tz_dup2, tz_pop, tz_if, tz_icmp, tz_null, tz_goto, tz_sw, tz_getf, tz_puti, tz_putz, tz_putr, tz_putl, tz_iaload, tz_baload, tz_laload, tz_aaload, tz_iastore, tz_bastore, tz_lastore, tz_aastore, tz_alen, tz_new, tz_newa, tz_oinit, tz_iret, tz_zret, tz_lret, tz_dret, tz_aret, tz_vret, tz_throw, tz_callS, tz_callV, tz_callI, tz_callR, tz_pureS, tz_pureV, tz_callVH, lg, lset, lkill, lst1, lst2, entL, isRf, is1, vl, va_rf_none, va_rf_some, isRf_rf, is1_rf, i0, i1, bI_eq0, bI_eq1, nm_em, nI_eqP, nI_leP, nI_ltP, nN_e1, nN_e2, nN_l1, nN_l2, nN_l3, nN_l4, nI_add, pk_mul, vp_inN, nI_cl, n01, n10, P_i, P_ii, P_iii, f_Mo_at, f_Mo_map, f_Mo_contact, f_Mo_within, f_Mo_isPort, f_Hp_endpoint, f_Hp_nodeOf, f_Hp_portOf, f_Ma_max, f_Ma_min, f_Hp_isSetting, popN, rok, a1, noX, swc, mL, if_true, if_false, ↓reduceIte, cond_true, cond_false, true_and, and_true, List.length_cons, List.length_nil, List.nil_append, List.cons_append, List.append_nil, Option.toList, Nat.reduceEqDiff, Bool.false_eq_true, reduceCtorEq, Nat.reduceAdd, Nat.reduceLT, Nat.reduceLeDiff, Nat.reduceSub, List.replicate, Nat.zero_add, Nat.lt_add_one, Nat.le_refl, Nat.zero_le, Nat.succ_ne_zero, not_false_eq_true, not_true_eq_false, false_implies, true_implies, forall_const, imp_self, true_or, or_true, eq_self, sI_zw, zw_zw, hI_zw, tg_zw, ln_zw, hR_zw, hL_zw, hN_zw, hM_zw, upd_s, upd_u, upd_ne, Classical.not_not, k_Mo_addTranslator, g1, g2, g3, g4, z1, rz, ra]; try clear hgo9 hW9))
            refine c_Mo_addTranslatorTo a zr _ _ _ _ _ _ hm.zw (by rw [rz]; exact hz) (by rw [rz]; omega) ?_
            simp only [aft]
            (obtain ⟨W9, hW9, hgo9⟩ := wp_ex (T_Mo_addTranslator l G) [] _; refine hgo9 200 _ _ _ _ ?_; simp -implicitDefEqProofs (disch := omega) only [hW9, inl, gate, Xq, tz_const, tz_iload, tz_lload, tz_dload, tz_aload, tz_istore, tz_astore, tz_lstore, tz_dstore, tz_iinc, tz_i1, tz_i2, tz_i2z, tz_l2, tz_l2z, tz_i2l, tz_l2i, tz_lcmp, tz_i2d, tz_d2, tz_dcmp, tz_dup, tz_dup2, tz_pop, tz_if, tz_icmp, tz_null, tz_goto, tz_sw, tz_getf, tz_puti, tz_putz, tz_putr, tz_putl, tz_iaload, tz_baload, tz_laload, tz_aaload, tz_iastore, tz_bastore, tz_lastore, tz_aastore, tz_alen, tz_new, tz_newa, tz_oinit, tz_iret, tz_zret, tz_lret, tz_dret, tz_aret, tz_vret, tz_throw, tz_callS, tz_callV, tz_callI, tz_callR, tz_pureS, tz_pureV, tz_callVH, lg, lset, lkill, lst1, lst2, entL, isRf, is1, vl, va_rf_none, va_rf_some, isRf_rf, is1_rf, i0, i1, bI_eq0, bI_eq1, nm_em, nI_eqP, nI_leP, nI_ltP, nN_e1, nN_e2, nN_l1, nN_l2, nN_l3, nN_l4, nI_add, pk_mul, vp_inN, nI_cl, n01, n10, P_i, P_ii, P_iii, f_Mo_at, f_Mo_map, f_Mo_contact, f_Mo_within, f_Mo_isPort, f_Hp_endpoint, f_Hp_nodeOf, f_Hp_portOf, f_Ma_max, f_Ma_min, f_Hp_isSetting, popN, rok, a1, noX, swc, mL, if_true, if_false, ↓reduceIte, cond_true, cond_false, true_and, and_true, List.length_cons, List.length_nil, List.nil_append, List.cons_append, List.append_nil, Option.toList, Nat.reduceEqDiff, Bool.false_eq_true, reduceCtorEq, Nat.reduceAdd, Nat.reduceLT, Nat.reduceLeDiff, Nat.reduceSub, List.replicate, Nat.zero_add, Nat.lt_add_one, Nat.le_refl, Nat.zero_le, Nat.succ_ne_zero, not_false_eq_true, not_true_eq_false, false_implies, true_implies, forall_const, imp_self, true_or, or_true, eq_self, sI_zw, zw_zw, hI_zw, tg_zw, ln_zw, hR_zw, hL_zw, hN_zw, hM_zw, upd_s, upd_u, upd_ne, Classical.not_not, k_Mo_addTranslator, g1, g2, g3, g4, z1, rz, ra, cm]; try clear hgo9 hW9)
            exact h4 d c c2 c3 (by omega)
          · ((obtain ⟨W9, hW9, hgo9⟩ := wp_ex (T_Mo_addTranslator l G) [] _; refine hgo9 200 _ _ _ _ ?_; simp -implicitDefEqProofs (disch := omega) only [hW9, inl, gate, Xq, tz_const, tz_iload, tz_lload, tz_dload, tz_aload, tz_istore, tz_astore, tz_lstore, tz_dstore, tz_iinc, tz_i1, tz_i2, tz_i2z, tz_l2, tz_l2z, tz_i2l, tz_l2i, tz_lcmp, tz_i2d, tz_d2, tz_dcmp, tz_dup, tz_dup2, tz_pop, tz_if, tz_icmp, tz_null, tz_goto, tz_sw, tz_getf, tz_puti, tz_putz, tz_putr, tz_putl, tz_iaload, tz_baload, tz_laload, tz_aaload, tz_iastore, tz_bastore, tz_lastore, tz_aastore, tz_alen, tz_new, tz_newa, tz_oinit, tz_iret, tz_zret, tz_lret, tz_dret, tz_aret, tz_vret, tz_throw, tz_callS, tz_callV, tz_callI, tz_callR, tz_pureS, tz_pureV, tz_callVH, lg, lset, lkill, lst1, lst2, entL, isRf, is1, vl, va_rf_none, va_rf_some, isRf_rf, is1_rf, i0, i1, bI_eq0, bI_eq1, nm_em, nI_eqP, nI_leP, nI_ltP, nN_e1, nN_e2, nN_l1, nN_l2, nN_l3, nN_l4, nI_add, pk_mul, vp_inN, nI_cl, n01, n10, P_i, P_ii, P_iii, f_Mo_at, f_Mo_map, f_Mo_contact, f_Mo_within, f_Mo_isPort, f_Hp_endpoint, f_Hp_nodeOf, f_Hp_portOf, f_Ma_max, f_Ma_min, f_Hp_isSetting, popN, rok, a1, noX, swc, mL, if_true, if_false, ↓reduceIte, cond_true, cond_false, true_and, and_true, List.length_cons, List.length_nil, List.nil_append, List.cons_append, List.append_nil, Option.toList, Nat.reduceEqDiff, Bool.false_eq_true, reduceCtorEq, Nat.reduceAdd, Nat.reduceLT, Nat.reduceLeDiff, Nat.reduceSub, List.replicate, Nat.zero_add, Nat.lt_add_one, Nat.le_refl, Nat.zero_le, Nat.succ_ne_zero, not_false_eq_true, not_true_eq_false, false_implies, true_implies, forall_const, imp_self, true_or, or_true, eq_self, sI_zw, zw_zw, hI_zw, tg_zw, ln_zw, hR_zw, hL_zw, hN_zw, hM_zw, upd_s, upd_u, upd_ne, Classical.not_not, k_Mo_addTranslator, g1, g2, g3, g4, z1, rz, ra]; try clear hgo9 hW9); try (obtain ⟨W9, hW9, hgo9⟩ := wp_ex (T_Mo_addTranslator l G) [] _; refine hgo9 200 _ _ _ _ ?_; simp -implicitDefEqProofs (disch := omega) only [hW9, inl, gate, Xq, tz_const, tz_iload, tz_lload, tz_dload, tz_aload, tz_istore, tz_astore, tz_lstore, tz_dstore, tz_iinc, tz_i1, tz_i2, tz_i2z, tz_l2, tz_l2z, tz_i2l, tz_l2i, tz_lcmp, tz_i2d, tz_d2, tz_dcmp, tz_dup, tz_dup2, tz_pop, tz_if, tz_icmp, tz_null, tz_goto, tz_sw, tz_getf, tz_puti, tz_putz, tz_putr, tz_putl, tz_iaload, tz_baload, tz_laload, tz_aaload, tz_iastore, tz_bastore, tz_lastore, tz_aastore, tz_alen, tz_new, tz_newa, tz_oinit, tz_iret, tz_zret, tz_lret, tz_dret, tz_aret, tz_vret, tz_throw, tz_callS, tz_callV, tz_callI, tz_callR, tz_pureS, tz_pureV, tz_callVH, lg, lset, lkill, lst1, lst2, entL, isRf, is1, vl, va_rf_none, va_rf_some, isRf_rf, is1_rf, i0, i1, bI_eq0, bI_eq1, nm_em, nI_eqP, nI_leP, nI_ltP, nN_e1, nN_e2, nN_l1, nN_l2, nN_l3, nN_l4, nI_add, pk_mul, vp_inN, nI_cl, n01, n10, P_i, P_ii, P_iii, f_Mo_at, f_Mo_map, f_Mo_contact, f_Mo_within, f_Mo_isPort, f_Hp_endpoint, f_Hp_nodeOf, f_Hp_portOf, f_Ma_max, f_Ma_min, f_Hp_isSetting, popN, rok, a1, noX, swc, mL, if_true, if_false, ↓reduceIte, cond_true, cond_false, true_and, and_true, List.length_cons, List.length_nil, List.nil_append, List.cons_append, List.append_nil, Option.toList, Nat.reduceEqDiff, Bool.false_eq_true, reduceCtorEq, Nat.reduceAdd, Nat.reduceLT, Nat.reduceLeDiff, Nat.reduceSub, List.replicate, Nat.zero_add, Nat.lt_add_one, Nat.le_refl, Nat.zero_le, Nat.succ_ne_zero, not_false_eq_true, not_true_eq_false, false_implies, true_implies, forall_const, imp_self, true_or, or_true, eq_self, sI_zw, zw_zw, hI_zw, tg_zw, ln_zw, hR_zw, hL_zw, hN_zw, hM_zw, upd_s, upd_u, upd_ne, Classical.not_not, k_Mo_addTranslator, g1, g2, g3, g4, z1, rz, ra]; try clear hgo9 hW9); try (obtain ⟨W9, hW9, hgo9⟩ := wp_ex (T_Mo_addTranslator l G) [] _; refine hgo9 200 _ _ _ _ ?_; simp -implicitDefEqProofs (disch := omega) only [hW9, inl, gate, Xq, tz_const, tz_iload, tz_lload, tz_dload, tz_aload, tz_istore, tz_astore, tz_lstore, tz_dstore, tz_iinc, tz_i1, tz_i2, tz_i2z, tz_l2, tz_l2z, tz_i2l, tz_l2i, tz_lcmp, tz_i2d, tz_d2, tz_dcmp, tz_dup, tz_dup2, tz_pop, tz_if, tz_icmp, tz_null, tz_goto, tz_sw, tz_getf, tz_puti, tz_putz, tz_putr, tz_putl, tz_iaload, tz_baload, tz_laload, tz_aaload, tz_iastore, tz_bastore, tz_lastore, tz_aastore, tz_alen, tz_new, tz_newa, tz_oinit, tz_iret, tz_zret, tz_lret, tz_dret, tz_aret, tz_vret, tz_throw, tz_callS, tz_callV, tz_callI, tz_callR, tz_pureS, tz_pureV, tz_callVH, lg, lset, lkill, lst1, lst2, entL, isRf, is1, vl, va_rf_none, va_rf_some, isRf_rf, is1_rf, i0, i1, bI_eq0, bI_eq1, nm_em, nI_eqP, nI_leP, nI_ltP, nN_e1, nN_e2, nN_l1, nN_l2, nN_l3, nN_l4, nI_add, pk_mul, vp_inN, nI_cl, n01, n10, P_i, P_ii, P_iii, f_Mo_at, f_Mo_map, f_Mo_contact, f_Mo_within, f_Mo_isPort, f_Hp_endpoint, f_Hp_nodeOf, f_Hp_portOf, f_Ma_max, f_Ma_min, f_Hp_isSetting, popN, rok, a1, noX, swc, mL, if_true, if_false, ↓reduceIte, cond_true, cond_false, true_and, and_true, List.length_cons, List.length_nil, List.nil_append, List.cons_append, List.append_nil, Option.toList, Nat.reduceEqDiff, Bool.false_eq_true, reduceCtorEq, Nat.reduceAdd, Nat.reduceLT, Nat.reduceLeDiff, Nat.reduceSub, List.replicate, Nat.zero_add, Nat.lt_add_one, Nat.le_refl, Nat.zero_le, Nat.succ_ne_zero, not_false_eq_true, not_true_eq_false, false_implies, true_implies, forall_const, imp_self, true_or, or_true, eq_self, sI_zw, zw_zw, hI_zw, tg_zw, ln_zw, hR_zw, hL_zw, hN_zw, hM_zw, upd_s, upd_u, upd_ne, Classical.not_not, k_Mo_addTranslator, g1, g2, g3, g4, z1, rz, ra]; try clear hgo9 hW9))
            exact h3 d c c2 c3 (by omega)
        · ((obtain ⟨W9, hW9, hgo9⟩ := wp_ex (T_Mo_addTranslator l G) [] _; refine hgo9 200 _ _ _ _ ?_; simp -implicitDefEqProofs (disch := omega) only [hW9, inl, gate, Xq, tz_const, tz_iload, tz_lload, tz_dload, tz_aload, tz_istore, tz_astore, tz_lstore, tz_dstore, tz_iinc, tz_i1, tz_i2, tz_i2z, tz_l2, tz_l2z, tz_i2l, tz_l2i, tz_lcmp, tz_i2d, tz_d2, tz_dcmp, tz_dup, tz_dup2, tz_pop, tz_if, tz_icmp, tz_null, tz_goto, tz_sw, tz_getf, tz_puti, tz_putz, tz_putr, tz_putl, tz_iaload, tz_baload, tz_laload, tz_aaload, tz_iastore, tz_bastore, tz_lastore, tz_aastore, tz_alen, tz_new, tz_newa, tz_oinit, tz_iret, tz_zret, tz_lret, tz_dret, tz_aret, tz_vret, tz_throw, tz_callS, tz_callV, tz_callI, tz_callR, tz_pureS, tz_pureV, tz_callVH, lg, lset, lkill, lst1, lst2, entL, isRf, is1, vl, va_rf_none, va_rf_some, isRf_rf, is1_rf, i0, i1, bI_eq0, bI_eq1, nm_em, nI_eqP, nI_leP, nI_ltP, nN_e1, nN_e2, nN_l1, nN_l2, nN_l3, nN_l4, nI_add, pk_mul, vp_inN, nI_cl, n01, n10, P_i, P_ii, P_iii, f_Mo_at, f_Mo_map, f_Mo_contact, f_Mo_within, f_Mo_isPort, f_Hp_endpoint, f_Hp_nodeOf, f_Hp_portOf, f_Ma_max, f_Ma_min, f_Hp_isSetting, popN, rok, a1, noX, swc, mL, if_true, if_false, ↓reduceIte, cond_true, cond_false, true_and, and_true, List.length_cons, List.length_nil, List.nil_append, List.cons_append, List.append_nil, Option.toList, Nat.reduceEqDiff, Bool.false_eq_true, reduceCtorEq, Nat.reduceAdd, Nat.reduceLT, Nat.reduceLeDiff, Nat.reduceSub, List.replicate, Nat.zero_add, Nat.lt_add_one, Nat.le_refl, Nat.zero_le, Nat.succ_ne_zero, not_false_eq_true, not_true_eq_false, false_implies, true_implies, forall_const, imp_self, true_or, or_true, eq_self, sI_zw, zw_zw, hI_zw, tg_zw, ln_zw, hR_zw, hL_zw, hN_zw, hM_zw, upd_s, upd_u, upd_ne, Classical.not_not, k_Mo_addTranslator, g1, g2, g3, g4, z1, ra, rz]; try clear hgo9 hW9); try (obtain ⟨W9, hW9, hgo9⟩ := wp_ex (T_Mo_addTranslator l G) [] _; refine hgo9 200 _ _ _ _ ?_; simp -implicitDefEqProofs (disch := omega) only [hW9, inl, gate, Xq, tz_const, tz_iload, tz_lload, tz_dload, tz_aload, tz_istore, tz_astore, tz_lstore, tz_dstore, tz_iinc, tz_i1, tz_i2, tz_i2z, tz_l2, tz_l2z, tz_i2l, tz_l2i, tz_lcmp, tz_i2d, tz_d2, tz_dcmp, tz_dup, tz_dup2, tz_pop, tz_if, tz_icmp, tz_null, tz_goto, tz_sw, tz_getf, tz_puti, tz_putz, tz_putr, tz_putl, tz_iaload, tz_baload, tz_laload, tz_aaload, tz_iastore, tz_bastore, tz_lastore, tz_aastore, tz_alen, tz_new, tz_newa, tz_oinit, tz_iret, tz_zret, tz_lret, tz_dret, tz_aret, tz_vret, tz_throw, tz_callS, tz_callV, tz_callI, tz_callR, tz_pureS, tz_pureV, tz_callVH, lg, lset, lkill, lst1, lst2, entL, isRf, is1, vl, va_rf_none, va_rf_some, isRf_rf, is1_rf, i0, i1, bI_eq0, bI_eq1, nm_em, nI_eqP, nI_leP, nI_ltP, nN_e1, nN_e2, nN_l1, nN_l2, nN_l3, nN_l4, nI_add, pk_mul, vp_inN, nI_cl, n01, n10, P_i, P_ii, P_iii, f_Mo_at, f_Mo_map, f_Mo_contact, f_Mo_within, f_Mo_isPort, f_Hp_endpoint, f_Hp_nodeOf, f_Hp_portOf, f_Ma_max, f_Ma_min, f_Hp_isSetting, popN, rok, a1, noX, swc, mL, if_true, if_false, ↓reduceIte, cond_true, cond_false, true_and, and_true, List.length_cons, List.length_nil, List.nil_append, List.cons_append, List.append_nil, Option.toList, Nat.reduceEqDiff, Bool.false_eq_true, reduceCtorEq, Nat.reduceAdd, Nat.reduceLT, Nat.reduceLeDiff, Nat.reduceSub, List.replicate, Nat.zero_add, Nat.lt_add_one, Nat.le_refl, Nat.zero_le, Nat.succ_ne_zero, not_false_eq_true, not_true_eq_false, false_implies, true_implies, forall_const, imp_self, true_or, or_true, eq_self, sI_zw, zw_zw, hI_zw, tg_zw, ln_zw, hR_zw, hL_zw, hN_zw, hM_zw, upd_s, upd_u, upd_ne, Classical.not_not, k_Mo_addTranslator, g1, g2, g3, g4, z1, ra, rz]; try clear hgo9 hW9); try (obtain ⟨W9, hW9, hgo9⟩ := wp_ex (T_Mo_addTranslator l G) [] _; refine hgo9 200 _ _ _ _ ?_; simp -implicitDefEqProofs (disch := omega) only [hW9, inl, gate, Xq, tz_const, tz_iload, tz_lload, tz_dload, tz_aload, tz_istore, tz_astore, tz_lstore, tz_dstore, tz_iinc, tz_i1, tz_i2, tz_i2z, tz_l2, tz_l2z, tz_i2l, tz_l2i, tz_lcmp, tz_i2d, tz_d2, tz_dcmp, tz_dup, tz_dup2, tz_pop, tz_if, tz_icmp, tz_null, tz_goto, tz_sw, tz_getf, tz_puti, tz_putz, tz_putr, tz_putl, tz_iaload, tz_baload, tz_laload, tz_aaload, tz_iastore, tz_bastore, tz_lastore, tz_aastore, tz_alen, tz_new, tz_newa, tz_oinit, tz_iret, tz_zret, tz_lret, tz_dret, tz_aret, tz_vret, tz_throw, tz_callS, tz_callV, tz_callI, tz_callR, tz_pureS, tz_pureV, tz_callVH, lg, lset, lkill, lst1, lst2, entL, isRf, is1, vl, va_rf_none, va_rf_some, isRf_rf, is1_rf, i0, i1, bI_eq0, bI_eq1, nm_em, nI_eqP, nI_leP, nI_ltP, nN_e1, nN_e2, nN_l1, nN_l2, nN_l3, nN_l4, nI_add, pk_mul, vp_inN, nI_cl, n01, n10, P_i, P_ii, P_iii, f_Mo_at, f_Mo_map, f_Mo_contact, f_Mo_within, f_Mo_isPort, f_Hp_endpoint, f_Hp_nodeOf, f_Hp_portOf, f_Ma_max, f_Ma_min, f_Hp_isSetting, popN, rok, a1, noX, swc, mL, if_true, if_false, ↓reduceIte, cond_true, cond_false, true_and, and_true, List.length_cons, List.length_nil, List.nil_append, List.cons_append, List.append_nil, Option.toList, Nat.reduceEqDiff, Bool.false_eq_true, reduceCtorEq, Nat.reduceAdd, Nat.reduceLT, Nat.reduceLeDiff, Nat.reduceSub, List.replicate, Nat.zero_add, Nat.lt_add_one, Nat.le_refl, Nat.zero_le, Nat.succ_ne_zero, not_false_eq_true, not_true_eq_false, false_implies, true_implies, forall_const, imp_self, true_or, or_true, eq_self, sI_zw, zw_zw, hI_zw, tg_zw, ln_zw, hR_zw, hL_zw, hN_zw, hM_zw, upd_s, upd_u, upd_ne, Classical.not_not, k_Mo_addTranslator, g1, g2, g3, g4, z1, ra, rz]; try clear hgo9 hW9))
          exact h1 d
end
