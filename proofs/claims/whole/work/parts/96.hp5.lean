/-! THE CLASS: keepAlive, punch -/
def k_Hp_delivery (l : Launch) (G : Gc) (pc : Nat) : Tr :=
  if pc < 18 then
   if pc < 10 then
    if pc < 4 then
     if pc < 1 then
      if pc = 0 then tz_aload 1 0 else dead
     else
      if pc = 1 then tz_getf 4 6 0 1 else dead
    else
     if pc < 7 then
      if pc = 4 then tz_getf 7 1 4 0 else dead
     else
      if pc = 7 then tz_if 10 14 (fun a => ¬ a = 0) else dead
   else
    if pc < 14 then
     if pc < 11 then
      if pc = 10 then tz_const 11 (.double FP.dconst0) else dead
     else
      if pc = 11 then tz_goto 31 else dead
    else
     if pc < 15 then
      if pc = 14 then tz_aload 15 0 else dead
     else
      if pc = 15 then tz_getf 18 6 0 1 else dead
  else
   if pc < 26 then
    if pc < 22 then
     if pc < 21 then
      if pc = 18 then tz_getf 21 1 5 0 else dead
     else
      if pc = 21 then tz_i2d 22 else dead
    else
     if pc < 23 then
      if pc = 22 then tz_aload 23 0 else dead
     else
      if pc = 23 then tz_getf 26 6 0 1 else dead
   else
    if pc < 30 then
     if pc < 29 then
      if pc = 26 then tz_getf 29 1 4 0 else dead
     else
      if pc = 29 then tz_i2d 30 else dead
    else
     if pc < 31 then
      if pc = 30 then tz_d2 31 FP.ddiv else dead
     else
      if pc = 31 then tz_dret else dead
set_option maxRecDepth 100000 in
theorem T_Hp_delivery (l : Launch) (G : Gc) : TabOK l G M_Hp_delivery (k_Hp_delivery l G) := by
  intro pc
  unfold k_Hp_delivery
  exact
   (sd_br
    (sd_br
     (sd_br
      (sd_br
       (sd_lf (sd_aload_n (k := 0) (by decide +kernel : decode prog_1_method_28_code 0 = .ok (.aload_n 0, 1))))
       (sd_lf (sd_getf (q := (RX6, TX6, 7)) (by decide +kernel : decode prog_1_method_28_code 1 = .ok (.getfield 12, 3)) rfl (by decide +kernel) (gm 154 (by decide +kernel) rfl))))
      (sd_br
       (sd_lf (sd_getf (q := (RX1, TX1, 6)) (by decide +kernel : decode prog_1_method_28_code 4 = .ok (.getfield 262, 3)) rfl (by decide +kernel) (gm 112 (by decide +kernel) rfl)))
       (sd_lf (sd_if_ne (by decide +kernel : decode prog_1_method_28_code 7 = .ok (.ifCond .ne 7, 3)) (by decide +kernel)))))
     (sd_br
      (sd_br
       (sd_lf (sd_dconst0 (by decide +kernel : decode prog_1_method_28_code 10 = .ok (.dconst 0, 1))))
       (sd_lf (sd_goto (by decide +kernel : decode prog_1_method_28_code 11 = .ok (.goto 20, 3)) (by decide +kernel))))
      (sd_br
       (sd_lf (sd_aload_n (k := 0) (by decide +kernel : decode prog_1_method_28_code 14 = .ok (.aload_n 0, 1))))
       (sd_lf (sd_getf (q := (RX6, TX6, 7)) (by decide +kernel : decode prog_1_method_28_code 15 = .ok (.getfield 12, 3)) rfl (by decide +kernel) (gm 154 (by decide +kernel) rfl))))))
    (sd_br
     (sd_br
      (sd_br
       (sd_lf (sd_getf (q := (RX1, TX1, 6)) (by decide +kernel : decode prog_1_method_28_code 18 = .ok (.getfield 265, 3)) rfl (by decide +kernel) (gm 114 (by decide +kernel) rfl)))
       (sd_lf (sd_i2d (by decide +kernel : decode prog_1_method_28_code 21 = .ok (.i2d, 1)))))
      (sd_br
       (sd_lf (sd_aload_n (k := 0) (by decide +kernel : decode prog_1_method_28_code 22 = .ok (.aload_n 0, 1))))
       (sd_lf (sd_getf (q := (RX6, TX6, 7)) (by decide +kernel : decode prog_1_method_28_code 23 = .ok (.getfield 12, 3)) rfl (by decide +kernel) (gm 154 (by decide +kernel) rfl)))))
     (sd_br
      (sd_br
       (sd_lf (sd_getf (q := (RX1, TX1, 6)) (by decide +kernel : decode prog_1_method_28_code 26 = .ok (.getfield 262, 3)) rfl (by decide +kernel) (gm 112 (by decide +kernel) rfl)))
       (sd_lf (sd_i2d (by decide +kernel : decode prog_1_method_28_code 29 = .ok (.i2d, 1)))))
      (sd_br
       (sd_lf (sd_ddiv (by decide +kernel : decode prog_1_method_28_code 30 = .ok (.ddiv, 1))))
       (sd_lf (sd_dret (by decide +kernel : decode prog_1_method_28_code 31 = .ok (.dreturn, 1)) rfl))))))
def k_Pe_init (l : Launch) (G : Gc) (pc : Nat) : Tr :=
  if pc < 16 then
   if pc < 9 then
    if pc < 4 then
     if pc < 1 then
      if pc = 0 then tz_aload 1 0 else dead
     else
      if pc = 1 then tz_oinit 4 else dead
    else
     if pc < 5 then
      if pc = 4 then tz_aload 5 0 else dead
     else
      if pc < 6 then
       if pc = 5 then tz_const 6 (.int (nN)) else dead
      else
       if pc = 6 then tz_puti 9 4 2 else dead
   else
    if pc < 11 then
     if pc < 10 then
      if pc = 9 then tz_aload 10 0 else dead
     else
      if pc = 10 then tz_const 11 (.int (nN)) else dead
    else
     if pc < 14 then
      if pc = 11 then tz_puti 14 4 3 else dead
     else
      if pc < 15 then
       if pc = 14 then tz_aload 15 0 else dead
      else
       if pc = 15 then tz_const 16 (.int (nI 0)) else dead
  else
   if pc < 25 then
    if pc < 20 then
     if pc < 19 then
      if pc = 16 then tz_putz 19 4 4 else dead
     else
      if pc = 19 then tz_aload 20 0 else dead
    else
     if pc < 21 then
      if pc = 20 then tz_iload 21 1 else dead
     else
      if pc < 24 then
       if pc = 21 then tz_puti 24 4 0 else dead
      else
       if pc = 24 then tz_aload 25 0 else dead
   else
    if pc < 29 then
     if pc < 26 then
      if pc = 25 then tz_iload 26 1 else dead
     else
      if pc = 26 then tz_const 29 (.int (nI 500)) else dead
    else
     if pc < 32 then
      if pc = 29 then tz_pureS 32 2 P_Hp_endpoint f_Hp_endpoint else dead
     else
      if pc < 35 then
       if pc = 32 then tz_puti 35 4 1 else dead
      else
       if pc = 35 then tz_vret else dead
set_option maxRecDepth 100000 in
theorem T_Pe_init (l : Launch) (G : Gc) : TabOK l G M_Pe_init (k_Pe_init l G) := by
  intro pc
  unfold k_Pe_init
  exact
   (sd_br
    (sd_br
     (sd_br
      (sd_br
       (sd_lf (sd_aload_n (k := 0) (by decide +kernel : decode prog_6_method_1_code 0 = .ok (.aload_n 0, 1))))
       (sd_lf (sd_oinit (by decide +kernel : decode prog_6_method_1_code 1 = .ok (.invokespecial 3, 3)) (gm 804 (by decide +kernel) rfl) (gm 94 (by decide +kernel) rfl) ow_obj (by decide +kernel) (by decide +kernel))))
      (sd_br
       (sd_lf (sd_aload_n (k := 0) (by decide +kernel : decode prog_6_method_1_code 4 = .ok (.aload_n 0, 1))))
       (sd_br
        (sd_lf (sd_iconst (by decide +kernel : decode prog_6_method_1_code 5 = .ok (.iconst (-1), 1)) (by decide +kernel)))
        (sd_lf (sd_puti (q := (RX4, TX4, 5)) (by decide +kernel : decode prog_6_method_1_code 6 = .ok (.putfield 9, 3)) rfl (by decide +kernel) (gm 810 (by decide +kernel) rfl) rfl rfl (Or.inl rfl))))))
     (sd_br
      (sd_br
       (sd_lf (sd_aload_n (k := 0) (by decide +kernel : decode prog_6_method_1_code 9 = .ok (.aload_n 0, 1))))
       (sd_lf (sd_iconst (by decide +kernel : decode prog_6_method_1_code 10 = .ok (.iconst (-1), 1)) (by decide +kernel))))
      (sd_br
       (sd_lf (sd_puti (q := (RX4, TX4, 5)) (by decide +kernel : decode prog_6_method_1_code 11 = .ok (.putfield 15, 3)) rfl (by decide +kernel) (gm 812 (by decide +kernel) rfl) rfl rfl (Or.inl rfl)))
       (sd_br
        (sd_lf (sd_aload_n (k := 0) (by decide +kernel : decode prog_6_method_1_code 14 = .ok (.aload_n 0, 1))))
        (sd_lf (sd_iconst (by decide +kernel : decode prog_6_method_1_code 15 = .ok (.iconst 0, 1)) (by decide +kernel)))))))
    (sd_br
     (sd_br
      (sd_br
       (sd_lf (sd_putz (q := (RX4, TX4, 5)) (by decide +kernel : decode prog_6_method_1_code 16 = .ok (.putfield 18, 3)) rfl (by decide +kernel) (gm 814 (by decide +kernel) rfl) rfl rfl (Or.inl rfl)))
       (sd_lf (sd_aload_n (k := 0) (by decide +kernel : decode prog_6_method_1_code 19 = .ok (.aload_n 0, 1)))))
      (sd_br
       (sd_lf (sd_iload_n (k := 1) (by decide +kernel : decode prog_6_method_1_code 20 = .ok (.iload_n 1, 1))))
       (sd_br
        (sd_lf (sd_puti (q := (RX4, TX4, 5)) (by decide +kernel : decode prog_6_method_1_code 21 = .ok (.putfield 22, 3)) rfl (by decide +kernel) (gm 806 (by decide +kernel) rfl) rfl rfl (Or.inr ⟨rfl, rfl, rfl⟩)))
        (sd_lf (sd_aload_n (k := 0) (by decide +kernel : decode prog_6_method_1_code 24 = .ok (.aload_n 0, 1)))))))
     (sd_br
      (sd_br
       (sd_lf (sd_iload_n (k := 1) (by decide +kernel : decode prog_6_method_1_code 25 = .ok (.iload_n 1, 1))))
       (sd_lf (sd_sipush (by decide +kernel : decode prog_6_method_1_code 26 = .ok (.sipush 500, 3)) (by decide +kernel))))
      (sd_br
       (sd_lf (sd_pureSN (sd_callSN (host := "HolePuncher") (by decide +kernel : decode prog_6_method_1_code 29 = .ok (.invokestatic 25, 3)) ok_Hp_endpoint (List.mem_of_getElem? (i := 733) (by decide +kernel)) (gm 693 (by decide +kernel) rfl) (by decide +kernel) rfl rfl) c_Hp_endpoint))
       (sd_br
        (sd_lf (sd_puti (q := (RX4, TX4, 5)) (by decide +kernel : decode prog_6_method_1_code 32 = .ok (.putfield 29, 3)) rfl (by decide +kernel) (gm 808 (by decide +kernel) rfl) rfl rfl (Or.inr ⟨rfl, rfl, rfl⟩)))
        (sd_lf (sd_vret (by decide +kernel : decode prog_6_method_1_code 35 = .ok (.return_, 1)) rfl)))))))
def k_Hp_checkPunch (l : Launch) (G : Gc) (pc : Nat) : Tr :=
  if pc < 43 then
   if pc < 16 then
    if pc < 8 then
     if pc < 4 then
      if pc < 1 then
       if pc = 0 then tz_aload 1 0 else dead
      else
       if pc = 1 then tz_getf 4 6 0 1 else dead
     else
      if pc < 5 then
       if pc = 4 then tz_iload 5 1 else dead
      else
       if pc = 5 then tz_pureV 8 1 1 P_Nw_hostAt f_Nw_hostAt else dead
    else
     if pc < 12 then
      if pc < 11 then
       if pc = 8 then tz_null 33 11 else dead
      else
       if pc = 11 then tz_aload 12 0 else dead
     else
      if pc < 15 then
       if pc = 12 then tz_getf 15 6 0 1 else dead
      else
       if pc = 15 then tz_iload 16 2 else dead
   else
    if pc < 26 then
     if pc < 22 then
      if pc < 19 then
       if pc = 16 then tz_pureV 19 1 1 P_Nw_hostAt f_Nw_hostAt else dead
      else
       if pc = 19 then tz_null 33 22 else dead
     else
      if pc < 23 then
       if pc = 22 then tz_aload 23 0 else dead
      else
       if pc = 23 then tz_getf 26 6 0 1 else dead
    else
     if pc < 30 then
      if pc < 27 then
       if pc = 26 then tz_iload 27 3 else dead
      else
       if pc = 27 then tz_pureV 30 1 1 P_Nw_hostAt f_Nw_hostAt else dead
     else
      if pc < 33 then
       if pc = 30 then tz_null 33 43 else dead
      else
       if pc = 33 then tz_throw "java/lang/IndexOutOfBoundsException" else dead
  else
   if pc < 55 then
    if pc < 49 then
     if pc < 45 then
      if pc < 44 then
       if pc = 43 then tz_iload 44 1 else dead
      else
       if pc = 44 then tz_iload 45 2 else dead
     else
      if pc < 48 then
       if pc = 45 then tz_icmp 48 58 (fun a b => a = b) else dead
      else
       if pc = 48 then tz_iload 49 1 else dead
    else
     if pc < 53 then
      if pc < 50 then
       if pc = 49 then tz_iload 50 3 else dead
      else
       if pc = 50 then tz_icmp 53 58 (fun a b => a = b) else dead
     else
      if pc < 54 then
       if pc = 53 then tz_iload 54 2 else dead
      else
       if pc = 54 then tz_iload 55 3 else dead
   else
    if pc < 72 then
     if pc < 68 then
      if pc < 58 then
       if pc = 55 then tz_icmp 58 68 (fun a b => ¬ a = b) else dead
      else
       if pc = 58 then tz_throw "java/lang/IllegalArgumentException" else dead
     else
      if pc < 69 then
       if pc = 68 then tz_aload 69 0 else dead
      else
       if pc = 69 then tz_getf 72 6 0 1 else dead
    else
     if pc < 77 then
      if pc < 75 then
       if pc = 72 then tz_getf 75 1 3 0 else dead
      else
       if pc = 75 then tz_const 77 (.int (nI 99990)) else dead
     else
      if pc < 80 then
       if pc = 77 then tz_icmp 80 90 (fun a b => a ≤ b) else dead
      else
       if pc < 90 then
        if pc = 80 then tz_throw "java/lang/IllegalStateException" else dead
       else
        if pc = 90 then tz_vret else dead
set_option maxRecDepth 100000 in
theorem T_Hp_checkPunch (l : Launch) (G : Gc) : TabOK l G M_Hp_checkPunch (k_Hp_checkPunch l G) := by
  intro pc
  unfold k_Hp_checkPunch
  exact
   (sd_br
    (sd_br
     (sd_br
      (sd_br
       (sd_br
        (sd_lf (sd_aload_n (k := 0) (by decide +kernel : decode prog_1_method_17_code 0 = .ok (.aload_n 0, 1))))
        (sd_lf (sd_getf (q := (RX6, TX6, 7)) (by decide +kernel : decode prog_1_method_17_code 1 = .ok (.getfield 12, 3)) rfl (by decide +kernel) (gm 154 (by decide +kernel) rfl))))
       (sd_br
        (sd_lf (sd_iload_n (k := 1) (by decide +kernel : decode prog_1_method_17_code 4 = .ok (.iload_n 1, 1))))
        (sd_lf (sd_pureV (sd_callV (q := (RX1, TX1, 6)) (by decide +kernel : decode prog_1_method_17_code 5 = .ok (.invokevirtual 150, 3)) ok_Nw_hostAt (gm 685 (by decide +kernel) rfl) (gm 416 (by decide +kernel) rfl) (gm 417 (by decide +kernel) rfl) rfl rfl (by decide +kernel) rfl rfl) c_Nw_hostAt))))
      (sd_br
       (sd_br
        (sd_lf (sd_ifnull (by decide +kernel : decode prog_1_method_17_code 8 = .ok (.ifnull 25, 3)) (by decide +kernel)))
        (sd_lf (sd_aload_n (k := 0) (by decide +kernel : decode prog_1_method_17_code 11 = .ok (.aload_n 0, 1)))))
       (sd_br
        (sd_lf (sd_getf (q := (RX6, TX6, 7)) (by decide +kernel : decode prog_1_method_17_code 12 = .ok (.getfield 12, 3)) rfl (by decide +kernel) (gm 154 (by decide +kernel) rfl)))
        (sd_lf (sd_iload_n (k := 2) (by decide +kernel : decode prog_1_method_17_code 15 = .ok (.iload_n 2, 1)))))))
     (sd_br
      (sd_br
       (sd_br
        (sd_lf (sd_pureV (sd_callV (q := (RX1, TX1, 6)) (by decide +kernel : decode prog_1_method_17_code 16 = .ok (.invokevirtual 150, 3)) ok_Nw_hostAt (gm 685 (by decide +kernel) rfl) (gm 416 (by decide +kernel) rfl) (gm 417 (by decide +kernel) rfl) rfl rfl (by decide +kernel) rfl rfl) c_Nw_hostAt))
        (sd_lf (sd_ifnull (by decide +kernel : decode prog_1_method_17_code 19 = .ok (.ifnull 14, 3)) (by decide +kernel))))
       (sd_br
        (sd_lf (sd_aload_n (k := 0) (by decide +kernel : decode prog_1_method_17_code 22 = .ok (.aload_n 0, 1))))
        (sd_lf (sd_getf (q := (RX6, TX6, 7)) (by decide +kernel : decode prog_1_method_17_code 23 = .ok (.getfield 12, 3)) rfl (by decide +kernel) (gm 154 (by decide +kernel) rfl)))))
      (sd_br
       (sd_br
        (sd_lf (sd_iload_n (k := 3) (by decide +kernel : decode prog_1_method_17_code 26 = .ok (.iload_n 3, 1))))
        (sd_lf (sd_pureV (sd_callV (q := (RX1, TX1, 6)) (by decide +kernel : decode prog_1_method_17_code 27 = .ok (.invokevirtual 150, 3)) ok_Nw_hostAt (gm 685 (by decide +kernel) rfl) (gm 416 (by decide +kernel) rfl) (gm 417 (by decide +kernel) rfl) rfl rfl (by decide +kernel) rfl rfl) c_Nw_hostAt)))
       (sd_br
        (sd_lf (sd_ifnonnull (by decide +kernel : decode prog_1_method_17_code 30 = .ok (.ifnonnull 13, 3)) (by decide +kernel)))
        (sd_lf (sd_throwS (text := "one of the three is not a host") (by decide +kernel) (by decide +kernel) (gm 494 (by decide +kernel) rfl) (gm 80 (by decide +kernel) rfl) (List.mem_of_getElem? (i := 723) (by decide +kernel)) thA_IOE thG_IOE (by decide +kernel : decode prog_1_method_17_code 33 = .ok (.new 83, 3)) (by decide +kernel : decode prog_1_method_17_code 36 = .ok (.dup, 1)) (by decide +kernel : decode prog_1_method_17_code 37 = .ok (.ldc 199, 2)) (by decide +kernel : decode prog_1_method_17_code 39 = .ok (.invokespecial 87, 3)) (by decide +kernel : decode prog_1_method_17_code 42 = .ok (.athrow, 1)) rfl (by decide +kernel) (by decide +kernel)))))))
    (sd_br
     (sd_br
      (sd_br
       (sd_br
        (sd_lf (sd_iload_n (k := 1) (by decide +kernel : decode prog_1_method_17_code 43 = .ok (.iload_n 1, 1))))
        (sd_lf (sd_iload_n (k := 2) (by decide +kernel : decode prog_1_method_17_code 44 = .ok (.iload_n 2, 1)))))
       (sd_br
        (sd_lf (sd_icmp_eq (by decide +kernel : decode prog_1_method_17_code 45 = .ok (.if_icmp .eq 13, 3)) (by decide +kernel)))
        (sd_lf (sd_iload_n (k := 1) (by decide +kernel : decode prog_1_method_17_code 48 = .ok (.iload_n 1, 1))))))
      (sd_br
       (sd_br
        (sd_lf (sd_iload_n (k := 3) (by decide +kernel : decode prog_1_method_17_code 49 = .ok (.iload_n 3, 1))))
        (sd_lf (sd_icmp_eq (by decide +kernel : decode prog_1_method_17_code 50 = .ok (.if_icmp .eq 8, 3)) (by decide +kernel))))
       (sd_br
        (sd_lf (sd_iload_n (k := 2) (by decide +kernel : decode prog_1_method_17_code 53 = .ok (.iload_n 2, 1))))
        (sd_lf (sd_iload_n (k := 3) (by decide +kernel : decode prog_1_method_17_code 54 = .ok (.iload_n 3, 1)))))))
     (sd_br
      (sd_br
       (sd_br
        (sd_lf (sd_icmp_ne (by decide +kernel : decode prog_1_method_17_code 55 = .ok (.if_icmp .ne 13, 3)) (by decide +kernel)))
        (sd_lf (sd_throwS (text := "two of the three are the same") (by decide +kernel) (by decide +kernel) (gm 591 (by decide +kernel) rfl) (gm 83 (by decide +kernel) rfl) (List.mem_of_getElem? (i := 724) (by decide +kernel)) thA_IAE thG_IAE (by decide +kernel : decode prog_1_method_17_code 58 = .ok (.new 70, 3)) (by decide +kernel : decode prog_1_method_17_code 61 = .ok (.dup, 1)) (by decide +kernel : decode prog_1_method_17_code 62 = .ok (.ldc 201, 2)) (by decide +kernel : decode prog_1_method_17_code 64 = .ok (.invokespecial 74, 3)) (by decide +kernel : decode prog_1_method_17_code 67 = .ok (.athrow, 1)) rfl (by decide +kernel) (by decide +kernel))))
       (sd_br
        (sd_lf (sd_aload_n (k := 0) (by decide +kernel : decode prog_1_method_17_code 68 = .ok (.aload_n 0, 1))))
        (sd_lf (sd_getf (q := (RX6, TX6, 7)) (by decide +kernel : decode prog_1_method_17_code 69 = .ok (.getfield 12, 3)) rfl (by decide +kernel) (gm 154 (by decide +kernel) rfl)))))
      (sd_br
       (sd_br
        (sd_lf (sd_getf (q := (RX1, TX1, 6)) (by decide +kernel : decode prog_1_method_17_code 72 = .ok (.getfield 103, 3)) rfl (by decide +kernel) (gm 110 (by decide +kernel) rfl)))
        (sd_lf (sd_ldc (by decide +kernel : decode prog_1_method_17_code 75 = .ok (.ldc 203, 2)) (gm 797 (by decide +kernel) rfl))))
       (sd_br
        (sd_lf (sd_icmp_le (by decide +kernel : decode prog_1_method_17_code 77 = .ok (.if_icmp .le 13, 3)) (by decide +kernel)))
        (sd_br
         (sd_lf (sd_throwS (text := "the tick is greater than 99990") (by decide +kernel) (by decide +kernel) (gm 563 (by decide +kernel) rfl) (gm 81 (by decide +kernel) rfl) (List.mem_of_getElem? (i := 726) (by decide +kernel)) thA_ISE thG_ISE (by decide +kernel : decode prog_1_method_17_code 80 = .ok (.new 55, 3)) (by decide +kernel : decode prog_1_method_17_code 83 = .ok (.dup, 1)) (by decide +kernel : decode prog_1_method_17_code 84 = .ok (.ldc 204, 2)) (by decide +kernel : decode prog_1_method_17_code 86 = .ok (.invokespecial 59, 3)) (by decide +kernel : decode prog_1_method_17_code 89 = .ok (.athrow, 1)) rfl (by decide +kernel) (by decide +kernel)))
         (sd_lf (sd_vret (by decide +kernel : decode prog_1_method_17_code 90 = .ok (.return_, 1)) rfl))))))))
def k_Hp_showItself (l : Launch) (G : Gc) (pc : Nat) : Tr :=
  if pc < 27 then
   if pc < 10 then
    if pc < 5 then
     if pc < 1 then
      if pc = 0 then tz_aload 1 0 else dead
     else
      if pc < 4 then
       if pc = 1 then tz_getf 4 6 0 1 else dead
      else
       if pc = 4 then tz_aload 5 1 else dead
    else
     if pc < 8 then
      if pc = 5 then tz_getf 8 4 1 0 else dead
     else
      if pc < 9 then
       if pc = 8 then tz_iload 9 2 else dead
      else
       if pc = 9 then tz_iload 10 3 else dead
   else
    if pc < 18 then
     if pc < 13 then
      if pc = 10 then tz_pureS 13 2 P_Hp_endpoint f_Hp_endpoint else dead
     else
      if pc < 16 then
       if pc = 13 then tz_callV l G 16 M_Nw_carry 2 1 else dead
      else
       if pc = 16 then tz_istore 18 4 else dead
    else
     if pc < 22 then
      if pc < 19 then
       if pc = 18 then tz_aload 19 0 else dead
      else
       if pc = 19 then tz_getf 22 6 0 1 else dead
     else
      if pc < 24 then
       if pc = 22 then tz_iload 24 4 else dead
      else
       if pc = 24 then tz_pureV 27 1 1 P_Nw_hostAt f_Nw_hostAt else dead
  else
   if pc < 41 then
    if pc < 32 then
     if pc < 29 then
      if pc = 27 then tz_astore 29 5 else dead
     else
      if pc < 31 then
       if pc = 29 then tz_iload 31 4 else dead
      else
       if pc = 31 then tz_iload 32 2 else dead
    else
     if pc < 37 then
      if pc < 35 then
       if pc = 32 then tz_icmp 35 40 (fun a b => ¬ a = b) else dead
      else
       if pc = 35 then tz_aload 37 5 else dead
     else
      if pc < 40 then
       if pc = 37 then tz_null 40 42 else dead
      else
       if pc = 40 then tz_const 41 (.int (nI 0)) else dead
   else
    if pc < 45 then
     if pc < 42 then
      if pc = 41 then tz_zret else dead
     else
      if pc < 43 then
       if pc = 42 then tz_aload 43 1 else dead
      else
       if pc = 43 then tz_aload 45 5 else dead
    else
     if pc < 51 then
      if pc < 48 then
       if pc = 45 then tz_getf 48 3 2 0 else dead
      else
       if pc = 48 then tz_puti 51 4 2 else dead
     else
      if pc < 52 then
       if pc = 51 then tz_const 52 (.int (nI 1)) else dead
      else
       if pc = 52 then tz_zret else dead
set_option maxRecDepth 100000 in
theorem T_Hp_showItself (l : Launch) (G : Gc) : TabOK l G M_Hp_showItself (k_Hp_showItself l G) := by
  intro pc
  unfold k_Hp_showItself
  exact
   (sd_br
    (sd_br
     (sd_br
      (sd_br
       (sd_lf (sd_aload_n (k := 0) (by decide +kernel : decode prog_1_method_18_code 0 = .ok (.aload_n 0, 1))))
       (sd_br
        (sd_lf (sd_getf (q := (RX6, TX6, 7)) (by decide +kernel : decode prog_1_method_18_code 1 = .ok (.getfield 12, 3)) rfl (by decide +kernel) (gm 154 (by decide +kernel) rfl)))
        (sd_lf (sd_aload_n (k := 1) (by decide +kernel : decode prog_1_method_18_code 4 = .ok (.aload_n 1, 1))))))
      (sd_br
       (sd_lf (sd_getf (q := (RX4, TX4, 5)) (by decide +kernel : decode prog_1_method_18_code 5 = .ok (.getfield 206, 3)) rfl (by decide +kernel) (gm 809 (by decide +kernel) rfl)))
       (sd_br
        (sd_lf (sd_iload_n (k := 2) (by decide +kernel : decode prog_1_method_18_code 8 = .ok (.iload_n 2, 1))))
        (sd_lf (sd_iload_n (k := 3) (by decide +kernel : decode prog_1_method_18_code 9 = .ok (.iload_n 3, 1)))))))
     (sd_br
      (sd_br
       (sd_lf (sd_pureS (sd_callS (by decide +kernel : decode prog_1_method_18_code 10 = .ok (.invokestatic 143, 3)) ok_Hp_endpoint (gm 692 (by decide +kernel) rfl) (gm 693 (by decide +kernel) rfl) (by decide +kernel) rfl rfl) c_Hp_endpoint))
       (sd_br
        (sd_lf (sd_callV (q := (RX1, TX1, 6)) (by decide +kernel : decode prog_1_method_18_code 13 = .ok (.invokevirtual 147, 3)) ok_Nw_carry (gm 695 (by decide +kernel) rfl) (gm 696 (by decide +kernel) rfl) (gm 697 (by decide +kernel) rfl) rfl rfl (by decide +kernel) rfl rfl))
        (sd_lf (sd_istore (by decide +kernel : decode prog_1_method_18_code 16 = .ok (.istore 4, 2))))))
      (sd_br
       (sd_br
        (sd_lf (sd_aload_n (k := 0) (by decide +kernel : decode prog_1_method_18_code 18 = .ok (.aload_n 0, 1))))
        (sd_lf (sd_getf (q := (RX6, TX6, 7)) (by decide +kernel : decode prog_1_method_18_code 19 = .ok (.getfield 12, 3)) rfl (by decide +kernel) (gm 154 (by decide +kernel) rfl))))
       (sd_br
        (sd_lf (sd_iload (by decide +kernel : decode prog_1_method_18_code 22 = .ok (.iload 4, 2))))
        (sd_lf (sd_pureV (sd_callV (q := (RX1, TX1, 6)) (by decide +kernel : decode prog_1_method_18_code 24 = .ok (.invokevirtual 150, 3)) ok_Nw_hostAt (gm 685 (by decide +kernel) rfl) (gm 416 (by decide +kernel) rfl) (gm 417 (by decide +kernel) rfl) rfl rfl (by decide +kernel) rfl rfl) c_Nw_hostAt))))))
    (sd_br
     (sd_br
      (sd_br
       (sd_lf (sd_astore (by decide +kernel : decode prog_1_method_18_code 27 = .ok (.astore 5, 2))))
       (sd_br
        (sd_lf (sd_iload (by decide +kernel : decode prog_1_method_18_code 29 = .ok (.iload 4, 2))))
        (sd_lf (sd_iload_n (k := 2) (by decide +kernel : decode prog_1_method_18_code 31 = .ok (.iload_n 2, 1))))))
      (sd_br
       (sd_br
        (sd_lf (sd_icmp_ne (by decide +kernel : decode prog_1_method_18_code 32 = .ok (.if_icmp .ne 8, 3)) (by decide +kernel)))
        (sd_lf (sd_aload (by decide +kernel : decode prog_1_method_18_code 35 = .ok (.aload 5, 2)))))
       (sd_br
        (sd_lf (sd_ifnonnull (by decide +kernel : decode prog_1_method_18_code 37 = .ok (.ifnonnull 5, 3)) (by decide +kernel)))
        (sd_lf (sd_iconst (by decide +kernel : decode prog_1_method_18_code 40 = .ok (.iconst 0, 1)) (by decide +kernel))))))
     (sd_br
      (sd_br
       (sd_lf (sd_zret (by decide +kernel : decode prog_1_method_18_code 41 = .ok (.ireturn, 1)) rfl))
       (sd_br
        (sd_lf (sd_aload_n (k := 1) (by decide +kernel : decode prog_1_method_18_code 42 = .ok (.aload_n 1, 1))))
        (sd_lf (sd_aload (by decide +kernel : decode prog_1_method_18_code 43 = .ok (.aload 5, 2))))))
      (sd_br
       (sd_br
        (sd_lf (sd_getf (q := (RX3, TX3, 5)) (by decide +kernel : decode prog_1_method_18_code 45 = .ok (.getfield 166, 3)) rfl (by decide +kernel) (gm 210 (by decide +kernel) rfl)))
        (sd_lf (sd_puti (q := (RX4, TX4, 5)) (by decide +kernel : decode prog_1_method_18_code 48 = .ok (.putfield 183, 3)) rfl (by decide +kernel) (gm 811 (by decide +kernel) rfl) rfl rfl (Or.inl rfl))))
       (sd_br
        (sd_lf (sd_iconst (by decide +kernel : decode prog_1_method_18_code 51 = .ok (.iconst 1, 1)) (by decide +kernel)))
        (sd_lf (sd_zret (by decide +kernel : decode prog_1_method_18_code 52 = .ok (.ireturn, 1)) rfl)))))))
def k_Hp_predicted (l : Launch) (G : Gc) (pc : Nat) : Tr :=
  if pc < 16 then
   if pc < 9 then
    if pc < 4 then
     if pc < 1 then
      if pc = 0 then tz_iload 1 1 else dead
     else
      if pc = 1 then tz_pureS 4 1 P_Hp_portOf f_Hp_portOf else dead
    else
     if pc < 5 then
      if pc = 4 then tz_iload 5 1 else dead
     else
      if pc < 8 then
       if pc = 5 then tz_pureS 8 1 P_Hp_portOf f_Hp_portOf else dead
      else
       if pc = 8 then tz_iload 9 0 else dead
   else
    if pc < 13 then
     if pc < 12 then
      if pc = 9 then tz_pureS 12 1 P_Hp_portOf f_Hp_portOf else dead
     else
      if pc = 12 then tz_i2 13 (fun a b => a - b) else dead
    else
     if pc < 14 then
      if pc = 13 then tz_i2 14 (fun a b => a + b) else dead
     else
      if pc < 15 then
       if pc = 14 then tz_istore 15 2 else dead
      else
       if pc = 15 then tz_iload 16 1 else dead
  else
   if pc < 27 then
    if pc < 20 then
     if pc < 19 then
      if pc = 16 then tz_pureS 19 1 P_Hp_nodeOf f_Hp_nodeOf else dead
     else
      if pc = 19 then tz_iload 20 2 else dead
    else
     if pc < 23 then
      if pc = 20 then tz_pureS 23 1 P_Hp_isPort f_Hp_isPort else dead
     else
      if pc < 26 then
       if pc = 23 then tz_if 26 30 (fun a => a = 0) else dead
      else
       if pc = 26 then tz_iload 27 2 else dead
   else
    if pc < 31 then
     if pc < 30 then
      if pc = 27 then tz_goto 34 else dead
     else
      if pc = 30 then tz_iload 31 1 else dead
    else
     if pc < 34 then
      if pc = 31 then tz_pureS 34 1 P_Hp_portOf f_Hp_portOf else dead
     else
      if pc < 37 then
       if pc = 34 then tz_pureS 37 2 P_Hp_endpoint f_Hp_endpoint else dead
      else
       if pc = 37 then tz_iret else dead
set_option maxRecDepth 100000 in
theorem T_Hp_predicted (l : Launch) (G : Gc) : TabOK l G M_Hp_predicted (k_Hp_predicted l G) := by
  intro pc
  unfold k_Hp_predicted
  exact
   (sd_br
    (sd_br
     (sd_br
      (sd_br
       (sd_lf (sd_iload_n (k := 1) (by decide +kernel : decode prog_1_method_19_code 0 = .ok (.iload_n 1, 1))))
       (sd_lf (sd_pureS (sd_callS (by decide +kernel : decode prog_1_method_19_code 1 = .ok (.invokestatic 209, 3)) ok_Hp_portOf (gm 834 (by decide +kernel) rfl) (gm 452 (by decide +kernel) rfl) (by decide +kernel) rfl rfl) c_Hp_portOf)))
      (sd_br
       (sd_lf (sd_iload_n (k := 1) (by decide +kernel : decode prog_1_method_19_code 4 = .ok (.iload_n 1, 1))))
       (sd_br
        (sd_lf (sd_pureS (sd_callS (by decide +kernel : decode prog_1_method_19_code 5 = .ok (.invokestatic 209, 3)) ok_Hp_portOf (gm 834 (by decide +kernel) rfl) (gm 452 (by decide +kernel) rfl) (by decide +kernel) rfl rfl) c_Hp_portOf))
        (sd_lf (sd_iload_n (k := 0) (by decide +kernel : decode prog_1_method_19_code 8 = .ok (.iload_n 0, 1)))))))
     (sd_br
      (sd_br
       (sd_lf (sd_pureS (sd_callS (by decide +kernel : decode prog_1_method_19_code 9 = .ok (.invokestatic 209, 3)) ok_Hp_portOf (gm 834 (by decide +kernel) rfl) (gm 452 (by decide +kernel) rfl) (by decide +kernel) rfl rfl) c_Hp_portOf))
       (sd_lf (sd_isub (by decide +kernel : decode prog_1_method_19_code 12 = .ok (.isub, 1)))))
      (sd_br
       (sd_lf (sd_iadd (by decide +kernel : decode prog_1_method_19_code 13 = .ok (.iadd, 1))))
       (sd_br
        (sd_lf (sd_istore_n (k := 2) (by decide +kernel : decode prog_1_method_19_code 14 = .ok (.istore_n 2, 1))))
        (sd_lf (sd_iload_n (k := 1) (by decide +kernel : decode prog_1_method_19_code 15 = .ok (.iload_n 1, 1))))))))
    (sd_br
     (sd_br
      (sd_br
       (sd_lf (sd_pureS (sd_callS (by decide +kernel : decode prog_1_method_19_code 16 = .ok (.invokestatic 212, 3)) ok_Hp_nodeOf (gm 835 (by decide +kernel) rfl) (gm 449 (by decide +kernel) rfl) (by decide +kernel) rfl rfl) c_Hp_nodeOf))
       (sd_lf (sd_iload_n (k := 2) (by decide +kernel : decode prog_1_method_19_code 19 = .ok (.iload_n 2, 1)))))
      (sd_br
       (sd_lf (sd_pureS (sd_callS (by decide +kernel : decode prog_1_method_19_code 20 = .ok (.invokestatic 215, 3)) ok_Hp_isPort (gm 688 (by decide +kernel) rfl) (gm 689 (by decide +kernel) rfl) (by decide +kernel) rfl rfl) c_Hp_isPort))
       (sd_br
        (sd_lf (sd_if_eq (by decide +kernel : decode prog_1_method_19_code 23 = .ok (.ifCond .eq 7, 3)) (by decide +kernel)))
        (sd_lf (sd_iload_n (k := 2) (by decide +kernel : decode prog_1_method_19_code 26 = .ok (.iload_n 2, 1)))))))
     (sd_br
      (sd_br
       (sd_lf (sd_goto (by decide +kernel : decode prog_1_method_19_code 27 = .ok (.goto 7, 3)) (by decide +kernel)))
       (sd_lf (sd_iload_n (k := 1) (by decide +kernel : decode prog_1_method_19_code 30 = .ok (.iload_n 1, 1)))))
      (sd_br
       (sd_lf (sd_pureS (sd_callS (by decide +kernel : decode prog_1_method_19_code 31 = .ok (.invokestatic 209, 3)) ok_Hp_portOf (gm 834 (by decide +kernel) rfl) (gm 452 (by decide +kernel) rfl) (by decide +kernel) rfl rfl) c_Hp_portOf))
       (sd_br
        (sd_lf (sd_pureS (sd_callS (by decide +kernel : decode prog_1_method_19_code 34 = .ok (.invokestatic 143, 3)) ok_Hp_endpoint (gm 692 (by decide +kernel) rfl) (gm 693 (by decide +kernel) rfl) (by decide +kernel) rfl rfl) c_Hp_endpoint))
        (sd_lf (sd_iret (by decide +kernel : decode prog_1_method_19_code 37 = .ok (.ireturn, 1)) rfl)))))))
def k_Hp_knock (l : Launch) (G : Gc) (pc : Nat) : Tr :=
  if pc < 28 then
   if pc < 15 then
    if pc < 5 then
     if pc < 1 then
      if pc = 0 then tz_aload 1 0 else dead
     else
      if pc < 4 then
       if pc = 1 then tz_getf 4 6 0 1 else dead
      else
       if pc = 4 then tz_aload 5 1 else dead
    else
     if pc < 9 then
      if pc < 8 then
       if pc = 5 then tz_getf 8 4 1 0 else dead
      else
       if pc = 8 then tz_aload 9 1 else dead
     else
      if pc < 12 then
       if pc = 9 then tz_getf 12 4 3 0 else dead
      else
       if pc = 12 then tz_callV l G 15 M_Nw_carry 2 1 else dead
   else
    if pc < 21 then
     if pc < 17 then
      if pc < 16 then
       if pc = 15 then tz_istore 16 3 else dead
      else
       if pc = 16 then tz_aload 17 0 else dead
     else
      if pc < 20 then
       if pc = 17 then tz_getf 20 6 0 1 else dead
      else
       if pc = 20 then tz_iload 21 3 else dead
    else
     if pc < 26 then
      if pc < 24 then
       if pc = 21 then tz_pureV 24 1 1 P_Nw_hostAt f_Nw_hostAt else dead
      else
       if pc = 24 then tz_astore 26 4 else dead
     else
      if pc < 27 then
       if pc = 26 then tz_iload 27 3 else dead
      else
       if pc = 27 then tz_aload 28 2 else dead
  else
   if pc < 50 then
    if pc < 39 then
     if pc < 34 then
      if pc < 31 then
       if pc = 28 then tz_getf 31 4 0 0 else dead
      else
       if pc = 31 then tz_icmp 34 64 (fun a b => ¬ a = b) else dead
     else
      if pc < 36 then
       if pc = 34 then tz_aload 36 4 else dead
      else
       if pc = 36 then tz_null 64 39 else dead
    else
     if pc < 44 then
      if pc < 41 then
       if pc = 39 then tz_aload 41 4 else dead
      else
       if pc = 41 then tz_getf 44 3 3 0 else dead
     else
      if pc < 47 then
       if pc = 44 then tz_const 47 (.int (nI 500)) else dead
      else
       if pc = 47 then tz_icmp 50 64 (fun a b => ¬ a = b) else dead
   else
    if pc < 56 then
     if pc < 52 then
      if pc < 51 then
       if pc = 50 then tz_aload 51 2 else dead
      else
       if pc = 51 then tz_const 52 (.int (nI 1)) else dead
     else
      if pc < 55 then
       if pc = 52 then tz_putz 55 4 4 else dead
      else
       if pc = 55 then tz_aload 56 2 else dead
    else
     if pc < 61 then
      if pc < 58 then
       if pc = 56 then tz_aload 58 4 else dead
      else
       if pc = 58 then tz_getf 61 3 2 0 else dead
     else
      if pc < 64 then
       if pc = 61 then tz_puti 64 4 3 else dead
      else
       if pc = 64 then tz_vret else dead
set_option maxRecDepth 100000 in
theorem T_Hp_knock (l : Launch) (G : Gc) : TabOK l G M_Hp_knock (k_Hp_knock l G) := by
  intro pc
  unfold k_Hp_knock
  exact
   (sd_br
    (sd_br
     (sd_br
      (sd_br
       (sd_lf (sd_aload_n (k := 0) (by decide +kernel : decode prog_1_method_20_code 0 = .ok (.aload_n 0, 1))))
       (sd_br
        (sd_lf (sd_getf (q := (RX6, TX6, 7)) (by decide +kernel : decode prog_1_method_20_code 1 = .ok (.getfield 12, 3)) rfl (by decide +kernel) (gm 154 (by decide +kernel) rfl)))
        (sd_lf (sd_aload_n (k := 1) (by decide +kernel : decode prog_1_method_20_code 4 = .ok (.aload_n 1, 1))))))
      (sd_br
       (sd_br
        (sd_lf (sd_getf (q := (RX4, TX4, 5)) (by decide +kernel : decode prog_1_method_20_code 5 = .ok (.getfield 206, 3)) rfl (by decide +kernel) (gm 809 (by decide +kernel) rfl)))
        (sd_lf (sd_aload_n (k := 1) (by decide +kernel : decode prog_1_method_20_code 8 = .ok (.aload_n 1, 1)))))
       (sd_br
        (sd_lf (sd_getf (q := (RX4, TX4, 5)) (by decide +kernel : decode prog_1_method_20_code 9 = .ok (.getfield 186, 3)) rfl (by decide +kernel) (gm 813 (by decide +kernel) rfl)))
        (sd_lf (sd_callV (q := (RX1, TX1, 6)) (by decide +kernel : decode prog_1_method_20_code 12 = .ok (.invokevirtual 147, 3)) ok_Nw_carry (gm 695 (by decide +kernel) rfl) (gm 696 (by decide +kernel) rfl) (gm 697 (by decide +kernel) rfl) rfl rfl (by decide +kernel) rfl rfl)))))
     (sd_br
      (sd_br
       (sd_br
        (sd_lf (sd_istore_n (k := 3) (by decide +kernel : decode prog_1_method_20_code 15 = .ok (.istore_n 3, 1))))
        (sd_lf (sd_aload_n (k := 0) (by decide +kernel : decode prog_1_method_20_code 16 = .ok (.aload_n 0, 1)))))
       (sd_br
        (sd_lf (sd_getf (q := (RX6, TX6, 7)) (by decide +kernel : decode prog_1_method_20_code 17 = .ok (.getfield 12, 3)) rfl (by decide +kernel) (gm 154 (by decide +kernel) rfl)))
        (sd_lf (sd_iload_n (k := 3) (by decide +kernel : decode prog_1_method_20_code 20 = .ok (.iload_n 3, 1))))))
      (sd_br
       (sd_br
        (sd_lf (sd_pureV (sd_callV (q := (RX1, TX1, 6)) (by decide +kernel : decode prog_1_method_20_code 21 = .ok (.invokevirtual 150, 3)) ok_Nw_hostAt (gm 685 (by decide +kernel) rfl) (gm 416 (by decide +kernel) rfl) (gm 417 (by decide +kernel) rfl) rfl rfl (by decide +kernel) rfl rfl) c_Nw_hostAt))
        (sd_lf (sd_astore (by decide +kernel : decode prog_1_method_20_code 24 = .ok (.astore 4, 2)))))
       (sd_br
        (sd_lf (sd_iload_n (k := 3) (by decide +kernel : decode prog_1_method_20_code 26 = .ok (.iload_n 3, 1))))
        (sd_lf (sd_aload_n (k := 2) (by decide +kernel : decode prog_1_method_20_code 27 = .ok (.aload_n 2, 1))))))))
    (sd_br
     (sd_br
      (sd_br
       (sd_br
        (sd_lf (sd_getf (q := (RX4, TX4, 5)) (by decide +kernel : decode prog_1_method_20_code 28 = .ok (.getfield 219, 3)) rfl (by decide +kernel) (gm 807 (by decide +kernel) rfl)))
        (sd_lf (sd_icmp_ne (by decide +kernel : decode prog_1_method_20_code 31 = .ok (.if_icmp .ne 33, 3)) (by decide +kernel))))
       (sd_br
        (sd_lf (sd_aload (by decide +kernel : decode prog_1_method_20_code 34 = .ok (.aload 4, 2))))
        (sd_lf (sd_ifnull (by decide +kernel : decode prog_1_method_20_code 36 = .ok (.ifnull 28, 3)) (by decide +kernel)))))
      (sd_br
       (sd_br
        (sd_lf (sd_aload (by decide +kernel : decode prog_1_method_20_code 39 = .ok (.aload 4, 2))))
        (sd_lf (sd_getf (q := (RX3, TX3, 5)) (by decide +kernel : decode prog_1_method_20_code 41 = .ok (.getfield 163, 3)) rfl (by decide +kernel) (gm 213 (by decide +kernel) rfl))))
       (sd_br
        (sd_lf (sd_sipush (by decide +kernel : decode prog_1_method_20_code 44 = .ok (.sipush 500, 3)) (by decide +kernel)))
        (sd_lf (sd_icmp_ne (by decide +kernel : decode prog_1_method_20_code 47 = .ok (.if_icmp .ne 17, 3)) (by decide +kernel))))))
     (sd_br
      (sd_br
       (sd_br
        (sd_lf (sd_aload_n (k := 2) (by decide +kernel : decode prog_1_method_20_code 50 = .ok (.aload_n 2, 1))))
        (sd_lf (sd_iconst (by decide +kernel : decode prog_1_method_20_code 51 = .ok (.iconst 1, 1)) (by decide +kernel))))
       (sd_br
        (sd_lf (sd_putz (q := (RX4, TX4, 5)) (by decide +kernel : decode prog_1_method_20_code 52 = .ok (.putfield 196, 3)) rfl (by decide +kernel) (gm 815 (by decide +kernel) rfl) rfl rfl (Or.inl rfl)))
        (sd_lf (sd_aload_n (k := 2) (by decide +kernel : decode prog_1_method_20_code 55 = .ok (.aload_n 2, 1))))))
      (sd_br
       (sd_br
        (sd_lf (sd_aload (by decide +kernel : decode prog_1_method_20_code 56 = .ok (.aload 4, 2))))
        (sd_lf (sd_getf (q := (RX3, TX3, 5)) (by decide +kernel : decode prog_1_method_20_code 58 = .ok (.getfield 166, 3)) rfl (by decide +kernel) (gm 210 (by decide +kernel) rfl))))
       (sd_br
        (sd_lf (sd_puti (q := (RX4, TX4, 5)) (by decide +kernel : decode prog_1_method_20_code 61 = .ok (.putfield 186, 3)) rfl (by decide +kernel) (gm 813 (by decide +kernel) rfl) rfl rfl (Or.inl rfl)))
        (sd_lf (sd_vret (by decide +kernel : decode prog_1_method_20_code 64 = .ok (.return_, 1)) rfl)))))))
def k_Hp_punch (l : Launch) (G : Gc) (pc : Nat) : Tr :=
  if pc < 91 then
   if pc < 42 then
    if pc < 21 then
     if pc < 10 then
      if pc < 3 then
       if pc < 1 then
        if pc = 0 then tz_aload 1 0 else dead
       else
        if pc < 2 then
         if pc = 1 then tz_iload 2 1 else dead
        else
         if pc = 2 then tz_iload 3 2 else dead
      else
       if pc < 4 then
        if pc = 3 then tz_iload 4 3 else dead
       else
        if pc < 7 then
         if pc = 4 then tz_callV l G 7 M_Hp_checkPunch 3 6 else dead
        else
         if pc = 7 then tz_new 10 4 5 else dead
     else
      if pc < 15 then
       if pc < 11 then
        if pc = 10 then tz_dup 11 else dead
       else
        if pc < 12 then
         if pc = 11 then tz_iload 12 1 else dead
        else
         if pc = 12 then tz_callI l G 15 M_Pe_init 1 4 else dead
      else
       if pc < 17 then
        if pc = 15 then tz_astore 17 5 else dead
       else
        if pc < 20 then
         if pc = 17 then tz_new 20 4 5 else dead
        else
         if pc = 20 then tz_dup 21 else dead
    else
     if pc < 31 then
      if pc < 27 then
       if pc < 22 then
        if pc = 21 then tz_iload 22 2 else dead
       else
        if pc < 25 then
         if pc = 22 then tz_callI l G 25 M_Pe_init 1 4 else dead
        else
         if pc = 25 then tz_astore 27 6 else dead
      else
       if pc < 28 then
        if pc = 27 then tz_aload 28 0 else dead
       else
        if pc < 30 then
         if pc = 28 then tz_aload 30 5 else dead
        else
         if pc = 30 then tz_iload 31 3 else dead
     else
      if pc < 38 then
       if pc < 32 then
        if pc = 31 then tz_const 32 (.int (nI 1)) else dead
       else
        if pc < 35 then
         if pc = 32 then tz_callV l G 35 M_Hp_showItself 3 6 else dead
        else
         if pc = 35 then tz_if 38 49 (fun a => a = 0) else dead
      else
       if pc < 39 then
        if pc = 38 then tz_aload 39 0 else dead
       else
        if pc < 41 then
         if pc = 39 then tz_aload 41 6 else dead
        else
         if pc = 41 then tz_iload 42 3 else dead
   else
    if pc < 68 then
     if pc < 53 then
      if pc < 49 then
       if pc < 43 then
        if pc = 42 then tz_const 43 (.int (nI 1)) else dead
       else
        if pc < 46 then
         if pc = 43 then tz_callV l G 46 M_Hp_showItself 3 6 else dead
        else
         if pc = 46 then tz_if 49 51 (fun a => ¬ a = 0) else dead
      else
       if pc < 50 then
        if pc = 49 then tz_const 50 (.int (nI 0)) else dead
       else
        if pc < 51 then
         if pc = 50 then tz_iret else dead
        else
         if pc = 51 then tz_aload 53 6 else dead
     else
      if pc < 61 then
       if pc < 55 then
        if pc = 53 then tz_aload 55 5 else dead
       else
        if pc < 58 then
         if pc = 55 then tz_getf 58 4 2 0 else dead
        else
         if pc = 58 then tz_puti 61 4 3 else dead
      else
       if pc < 63 then
        if pc = 61 then tz_aload 63 5 else dead
       else
        if pc < 65 then
         if pc = 63 then tz_aload 65 6 else dead
        else
         if pc = 65 then tz_getf 68 4 2 0 else dead
    else
     if pc < 80 then
      if pc < 76 then
       if pc < 71 then
        if pc = 68 then tz_puti 71 4 3 else dead
       else
        if pc < 73 then
         if pc = 71 then tz_iload 73 4 else dead
        else
         if pc = 73 then tz_if 76 136 (fun a => a = 0) else dead
      else
       if pc < 77 then
        if pc = 76 then tz_aload 77 0 else dead
       else
        if pc < 79 then
         if pc = 77 then tz_aload 79 5 else dead
        else
         if pc = 79 then tz_iload 80 3 else dead
     else
      if pc < 87 then
       if pc < 81 then
        if pc = 80 then tz_const 81 (.int (nI 2)) else dead
       else
        if pc < 84 then
         if pc = 81 then tz_callV l G 84 M_Hp_showItself 3 6 else dead
        else
         if pc = 84 then tz_if 87 98 (fun a => a = 0) else dead
      else
       if pc < 88 then
        if pc = 87 then tz_aload 88 0 else dead
       else
        if pc < 90 then
         if pc = 88 then tz_aload 90 6 else dead
        else
         if pc = 90 then tz_iload 91 3 else dead
  else
   if pc < 145 then
    if pc < 118 then
     if pc < 102 then
      if pc < 98 then
       if pc < 92 then
        if pc = 91 then tz_const 92 (.int (nI 2)) else dead
       else
        if pc < 95 then
         if pc = 92 then tz_callV l G 95 M_Hp_showItself 3 6 else dead
        else
         if pc = 95 then tz_if 98 100 (fun a => ¬ a = 0) else dead
      else
       if pc < 99 then
        if pc = 98 then tz_const 99 (.int (nI 0)) else dead
       else
        if pc < 100 then
         if pc = 99 then tz_iret else dead
        else
         if pc = 100 then tz_aload 102 6 else dead
     else
      if pc < 109 then
       if pc < 104 then
        if pc = 102 then tz_aload 104 6 else dead
       else
        if pc < 107 then
         if pc = 104 then tz_getf 107 4 3 0 else dead
        else
         if pc = 107 then tz_aload 109 5 else dead
      else
       if pc < 112 then
        if pc = 109 then tz_getf 112 4 2 0 else dead
       else
        if pc < 115 then
         if pc = 112 then tz_callS l G 115 M_Hp_predicted 2 else dead
        else
         if pc = 115 then tz_puti 118 4 3 else dead
    else
     if pc < 133 then
      if pc < 125 then
       if pc < 120 then
        if pc = 118 then tz_aload 120 5 else dead
       else
        if pc < 122 then
         if pc = 120 then tz_aload 122 5 else dead
        else
         if pc = 122 then tz_getf 125 4 3 0 else dead
      else
       if pc < 127 then
        if pc = 125 then tz_aload 127 6 else dead
       else
        if pc < 130 then
         if pc = 127 then tz_getf 130 4 2 0 else dead
        else
         if pc = 130 then tz_callS l G 133 M_Hp_predicted 2 else dead
     else
      if pc < 139 then
       if pc < 136 then
        if pc = 133 then tz_puti 136 4 3 else dead
       else
        if pc < 137 then
         if pc = 136 then tz_const 137 (.int (nI 1)) else dead
        else
         if pc = 137 then tz_istore 139 7 else dead
      else
       if pc < 141 then
        if pc = 139 then tz_iload 141 7 else dead
       else
        if pc < 142 then
         if pc = 141 then tz_const 142 (.int (nI 5)) else dead
        else
         if pc = 142 then tz_icmp 145 195 (fun a b => b < a) else dead
   else
    if pc < 169 then
     if pc < 156 then
      if pc < 150 then
       if pc < 146 then
        if pc = 145 then tz_aload 146 0 else dead
       else
        if pc < 148 then
         if pc = 146 then tz_aload 148 5 else dead
        else
         if pc = 148 then tz_aload 150 6 else dead
      else
       if pc < 153 then
        if pc = 150 then tz_callV l G 153 M_Hp_knock 2 6 else dead
       else
        if pc < 154 then
         if pc = 153 then tz_aload 154 0 else dead
        else
         if pc = 154 then tz_aload 156 6 else dead
     else
      if pc < 162 then
       if pc < 158 then
        if pc = 156 then tz_aload 158 5 else dead
       else
        if pc < 161 then
         if pc = 158 then tz_callV l G 161 M_Hp_knock 2 6 else dead
        else
         if pc = 161 then tz_aload 162 0 else dead
      else
       if pc < 165 then
        if pc = 162 then tz_getf 165 6 0 1 else dead
       else
        if pc < 166 then
         if pc = 165 then tz_const 166 (.int (nI 1)) else dead
        else
         if pc = 166 then tz_callV l G 169 M_Nw_advance 1 1 else dead
    else
     if pc < 183 then
      if pc < 175 then
       if pc < 170 then
        if pc = 169 then tz_pop 170 else dead
       else
        if pc < 172 then
         if pc = 170 then tz_aload 172 5 else dead
        else
         if pc = 172 then tz_getf 175 4 4 0 else dead
      else
       if pc < 178 then
        if pc = 175 then tz_if 178 189 (fun a => a = 0) else dead
       else
        if pc < 180 then
         if pc = 178 then tz_aload 180 6 else dead
        else
         if pc = 180 then tz_getf 183 4 4 0 else dead
     else
      if pc < 189 then
       if pc < 186 then
        if pc = 183 then tz_if 186 189 (fun a => a = 0) else dead
       else
        if pc < 188 then
         if pc = 186 then tz_iload 188 7 else dead
        else
         if pc = 188 then tz_iret else dead
      else
       if pc < 195 then
        if pc < 192 then
         if pc = 189 then tz_iinc 192 7 (nI 1) else dead
        else
         if pc = 192 then tz_goto 139 else dead
       else
        if pc < 196 then
         if pc = 195 then tz_const 196 (.int (nN)) else dead
        else
         if pc = 196 then tz_iret else dead
set_option maxRecDepth 100000 in
theorem T_Hp_punch (l : Launch) (G : Gc) : TabOK l G M_Hp_punch (k_Hp_punch l G) := by
  intro pc
  unfold k_Hp_punch
  exact
   (sd_br
    (sd_br
     (sd_br
      (sd_br
       (sd_br
        (sd_br
         (sd_lf (sd_aload_n (k := 0) (by decide +kernel : decode prog_1_method_16_code 0 = .ok (.aload_n 0, 1))))
         (sd_br
          (sd_lf (sd_iload_n (k := 1) (by decide +kernel : decode prog_1_method_16_code 1 = .ok (.iload_n 1, 1))))
          (sd_lf (sd_iload_n (k := 2) (by decide +kernel : decode prog_1_method_16_code 2 = .ok (.iload_n 2, 1))))))
        (sd_br
         (sd_lf (sd_iload_n (k := 3) (by decide +kernel : decode prog_1_method_16_code 3 = .ok (.iload_n 3, 1))))
         (sd_br
          (sd_lf (sd_callV (q := (RX6, TX6, 7)) (by decide +kernel : decode prog_1_method_16_code 4 = .ok (.invokevirtual 171, 3)) ok_Hp_checkPunch (gm 791 (by decide +kernel) rfl) (gm 793 (by decide +kernel) rfl) (gm 25 (by decide +kernel) rfl) rfl rfl (by decide +kernel) rfl rfl))
          (sd_lf (sd_new (q := (RX4, TX4, 5)) (by decide +kernel : decode prog_1_method_16_code 7 = .ok (.new 175, 3)) rfl (gm 799 (by decide +kernel) rfl))))))
       (sd_br
        (sd_br
         (sd_lf (sd_dup (by decide +kernel : decode prog_1_method_16_code 10 = .ok (.dup, 1))))
         (sd_br
          (sd_lf (sd_iload_n (k := 1) (by decide +kernel : decode prog_1_method_16_code 11 = .ok (.iload_n 1, 1))))
          (sd_lf (sd_callI (by decide +kernel : decode prog_1_method_16_code 12 = .ok (.invokespecial 177, 3)) ok_Pe_init (gm 801 (by decide +kernel) rfl) (gm 802 (by decide +kernel) rfl) rfl rfl (by decide +kernel) rfl rfl))))
        (sd_br
         (sd_lf (sd_astore (by decide +kernel : decode prog_1_method_16_code 15 = .ok (.astore 5, 2))))
         (sd_br
          (sd_lf (sd_new (q := (RX4, TX4, 5)) (by decide +kernel : decode prog_1_method_16_code 17 = .ok (.new 175, 3)) rfl (gm 799 (by decide +kernel) rfl)))
          (sd_lf (sd_dup (by decide +kernel : decode prog_1_method_16_code 20 = .ok (.dup, 1))))))))
      (sd_br
       (sd_br
        (sd_br
         (sd_lf (sd_iload_n (k := 2) (by decide +kernel : decode prog_1_method_16_code 21 = .ok (.iload_n 2, 1))))
         (sd_br
          (sd_lf (sd_callI (by decide +kernel : decode prog_1_method_16_code 22 = .ok (.invokespecial 177, 3)) ok_Pe_init (gm 801 (by decide +kernel) rfl) (gm 802 (by decide +kernel) rfl) rfl rfl (by decide +kernel) rfl rfl))
          (sd_lf (sd_astore (by decide +kernel : decode prog_1_method_16_code 25 = .ok (.astore 6, 2))))))
        (sd_br
         (sd_lf (sd_aload_n (k := 0) (by decide +kernel : decode prog_1_method_16_code 27 = .ok (.aload_n 0, 1))))
         (sd_br
          (sd_lf (sd_aload (by decide +kernel : decode prog_1_method_16_code 28 = .ok (.aload 5, 2))))
          (sd_lf (sd_iload_n (k := 3) (by decide +kernel : decode prog_1_method_16_code 30 = .ok (.iload_n 3, 1)))))))
       (sd_br
        (sd_br
         (sd_lf (sd_iconst (by decide +kernel : decode prog_1_method_16_code 31 = .ok (.iconst 1, 1)) (by decide +kernel)))
         (sd_br
          (sd_lf (sd_callV (q := (RX6, TX6, 7)) (by decide +kernel : decode prog_1_method_16_code 32 = .ok (.invokevirtual 179, 3)) ok_Hp_showItself (gm 827 (by decide +kernel) rfl) (gm 829 (by decide +kernel) rfl) (gm 26 (by decide +kernel) rfl) rfl rfl (by decide +kernel) rfl rfl))
          (sd_lf (sd_if_eq (by decide +kernel : decode prog_1_method_16_code 35 = .ok (.ifCond .eq 14, 3)) (by decide +kernel)))))
        (sd_br
         (sd_lf (sd_aload_n (k := 0) (by decide +kernel : decode prog_1_method_16_code 38 = .ok (.aload_n 0, 1))))
         (sd_br
          (sd_lf (sd_aload (by decide +kernel : decode prog_1_method_16_code 39 = .ok (.aload 6, 2))))
          (sd_lf (sd_iload_n (k := 3) (by decide +kernel : decode prog_1_method_16_code 41 = .ok (.iload_n 3, 1)))))))))
     (sd_br
      (sd_br
       (sd_br
        (sd_br
         (sd_lf (sd_iconst (by decide +kernel : decode prog_1_method_16_code 42 = .ok (.iconst 1, 1)) (by decide +kernel)))
         (sd_br
          (sd_lf (sd_callV (q := (RX6, TX6, 7)) (by decide +kernel : decode prog_1_method_16_code 43 = .ok (.invokevirtual 179, 3)) ok_Hp_showItself (gm 827 (by decide +kernel) rfl) (gm 829 (by decide +kernel) rfl) (gm 26 (by decide +kernel) rfl) rfl rfl (by decide +kernel) rfl rfl))
          (sd_lf (sd_if_ne (by decide +kernel : decode prog_1_method_16_code 46 = .ok (.ifCond .ne 5, 3)) (by decide +kernel)))))
        (sd_br
         (sd_lf (sd_iconst (by decide +kernel : decode prog_1_method_16_code 49 = .ok (.iconst 0, 1)) (by decide +kernel)))
         (sd_br
          (sd_lf (sd_iret (by decide +kernel : decode prog_1_method_16_code 50 = .ok (.ireturn, 1)) rfl))
          (sd_lf (sd_aload (by decide +kernel : decode prog_1_method_16_code 51 = .ok (.aload 6, 2)))))))
       (sd_br
        (sd_br
         (sd_lf (sd_aload (by decide +kernel : decode prog_1_method_16_code 53 = .ok (.aload 5, 2))))
         (sd_br
          (sd_lf (sd_getf (q := (RX4, TX4, 5)) (by decide +kernel : decode prog_1_method_16_code 55 = .ok (.getfield 183, 3)) rfl (by decide +kernel) (gm 811 (by decide +kernel) rfl)))
          (sd_lf (sd_puti (q := (RX4, TX4, 5)) (by decide +kernel : decode prog_1_method_16_code 58 = .ok (.putfield 186, 3)) rfl (by decide +kernel) (gm 813 (by decide +kernel) rfl) rfl rfl (Or.inl rfl)))))
        (sd_br
         (sd_lf (sd_aload (by decide +kernel : decode prog_1_method_16_code 61 = .ok (.aload 5, 2))))
         (sd_br
          (sd_lf (sd_aload (by decide +kernel : decode prog_1_method_16_code 63 = .ok (.aload 6, 2))))
          (sd_lf (sd_getf (q := (RX4, TX4, 5)) (by decide +kernel : decode prog_1_method_16_code 65 = .ok (.getfield 183, 3)) rfl (by decide +kernel) (gm 811 (by decide +kernel) rfl)))))))
      (sd_br
       (sd_br
        (sd_br
         (sd_lf (sd_puti (q := (RX4, TX4, 5)) (by decide +kernel : decode prog_1_method_16_code 68 = .ok (.putfield 186, 3)) rfl (by decide +kernel) (gm 813 (by decide +kernel) rfl) rfl rfl (Or.inl rfl)))
         (sd_br
          (sd_lf (sd_iload (by decide +kernel : decode prog_1_method_16_code 71 = .ok (.iload 4, 2))))
          (sd_lf (sd_if_eq (by decide +kernel : decode prog_1_method_16_code 73 = .ok (.ifCond .eq 63, 3)) (by decide +kernel)))))
        (sd_br
         (sd_lf (sd_aload_n (k := 0) (by decide +kernel : decode prog_1_method_16_code 76 = .ok (.aload_n 0, 1))))
         (sd_br
          (sd_lf (sd_aload (by decide +kernel : decode prog_1_method_16_code 77 = .ok (.aload 5, 2))))
          (sd_lf (sd_iload_n (k := 3) (by decide +kernel : decode prog_1_method_16_code 79 = .ok (.iload_n 3, 1)))))))
       (sd_br
        (sd_br
         (sd_lf (sd_iconst (by decide +kernel : decode prog_1_method_16_code 80 = .ok (.iconst 2, 1)) (by decide +kernel)))
         (sd_br
          (sd_lf (sd_callV (q := (RX6, TX6, 7)) (by decide +kernel : decode prog_1_method_16_code 81 = .ok (.invokevirtual 179, 3)) ok_Hp_showItself (gm 827 (by decide +kernel) rfl) (gm 829 (by decide +kernel) rfl) (gm 26 (by decide +kernel) rfl) rfl rfl (by decide +kernel) rfl rfl))
          (sd_lf (sd_if_eq (by decide +kernel : decode prog_1_method_16_code 84 = .ok (.ifCond .eq 14, 3)) (by decide +kernel)))))
        (sd_br
         (sd_lf (sd_aload_n (k := 0) (by decide +kernel : decode prog_1_method_16_code 87 = .ok (.aload_n 0, 1))))
         (sd_br
          (sd_lf (sd_aload (by decide +kernel : decode prog_1_method_16_code 88 = .ok (.aload 6, 2))))
          (sd_lf (sd_iload_n (k := 3) (by decide +kernel : decode prog_1_method_16_code 90 = .ok (.iload_n 3, 1))))))))))
    (sd_br
     (sd_br
      (sd_br
       (sd_br
        (sd_br
         (sd_lf (sd_iconst (by decide +kernel : decode prog_1_method_16_code 91 = .ok (.iconst 2, 1)) (by decide +kernel)))
         (sd_br
          (sd_lf (sd_callV (q := (RX6, TX6, 7)) (by decide +kernel : decode prog_1_method_16_code 92 = .ok (.invokevirtual 179, 3)) ok_Hp_showItself (gm 827 (by decide +kernel) rfl) (gm 829 (by decide +kernel) rfl) (gm 26 (by decide +kernel) rfl) rfl rfl (by decide +kernel) rfl rfl))
          (sd_lf (sd_if_ne (by decide +kernel : decode prog_1_method_16_code 95 = .ok (.ifCond .ne 5, 3)) (by decide +kernel)))))
        (sd_br
         (sd_lf (sd_iconst (by decide +kernel : decode prog_1_method_16_code 98 = .ok (.iconst 0, 1)) (by decide +kernel)))
         (sd_br
          (sd_lf (sd_iret (by decide +kernel : decode prog_1_method_16_code 99 = .ok (.ireturn, 1)) rfl))
          (sd_lf (sd_aload (by decide +kernel : decode prog_1_method_16_code 100 = .ok (.aload 6, 2)))))))
       (sd_br
        (sd_br
         (sd_lf (sd_aload (by decide +kernel : decode prog_1_method_16_code 102 = .ok (.aload 6, 2))))
         (sd_br
          (sd_lf (sd_getf (q := (RX4, TX4, 5)) (by decide +kernel : decode prog_1_method_16_code 104 = .ok (.getfield 186, 3)) rfl (by decide +kernel) (gm 813 (by decide +kernel) rfl)))
          (sd_lf (sd_aload (by decide +kernel : decode prog_1_method_16_code 107 = .ok (.aload 5, 2))))))
        (sd_br
         (sd_lf (sd_getf (q := (RX4, TX4, 5)) (by decide +kernel : decode prog_1_method_16_code 109 = .ok (.getfield 183, 3)) rfl (by decide +kernel) (gm 811 (by decide +kernel) rfl)))
         (sd_br
          (sd_lf (sd_callS (by decide +kernel : decode prog_1_method_16_code 112 = .ok (.invokestatic 189, 3)) ok_Hp_predicted (gm 831 (by decide +kernel) rfl) (gm 832 (by decide +kernel) rfl) (by decide +kernel) rfl rfl))
          (sd_lf (sd_puti (q := (RX4, TX4, 5)) (by decide +kernel : decode prog_1_method_16_code 115 = .ok (.putfield 186, 3)) rfl (by decide +kernel) (gm 813 (by decide +kernel) rfl) rfl rfl (Or.inl rfl)))))))
      (sd_br
       (sd_br
        (sd_br
         (sd_lf (sd_aload (by decide +kernel : decode prog_1_method_16_code 118 = .ok (.aload 5, 2))))
         (sd_br
          (sd_lf (sd_aload (by decide +kernel : decode prog_1_method_16_code 120 = .ok (.aload 5, 2))))
          (sd_lf (sd_getf (q := (RX4, TX4, 5)) (by decide +kernel : decode prog_1_method_16_code 122 = .ok (.getfield 186, 3)) rfl (by decide +kernel) (gm 813 (by decide +kernel) rfl)))))
        (sd_br
         (sd_lf (sd_aload (by decide +kernel : decode prog_1_method_16_code 125 = .ok (.aload 6, 2))))
         (sd_br
          (sd_lf (sd_getf (q := (RX4, TX4, 5)) (by decide +kernel : decode prog_1_method_16_code 127 = .ok (.getfield 183, 3)) rfl (by decide +kernel) (gm 811 (by decide +kernel) rfl)))
          (sd_lf (sd_callS (by decide +kernel : decode prog_1_method_16_code 130 = .ok (.invokestatic 189, 3)) ok_Hp_predicted (gm 831 (by decide +kernel) rfl) (gm 832 (by decide +kernel) rfl) (by decide +kernel) rfl rfl)))))
       (sd_br
        (sd_br
         (sd_lf (sd_puti (q := (RX4, TX4, 5)) (by decide +kernel : decode prog_1_method_16_code 133 = .ok (.putfield 186, 3)) rfl (by decide +kernel) (gm 813 (by decide +kernel) rfl) rfl rfl (Or.inl rfl)))
         (sd_br
          (sd_lf (sd_iconst (by decide +kernel : decode prog_1_method_16_code 136 = .ok (.iconst 1, 1)) (by decide +kernel)))
          (sd_lf (sd_istore (by decide +kernel : decode prog_1_method_16_code 137 = .ok (.istore 7, 2))))))
        (sd_br
         (sd_lf (sd_iload (by decide +kernel : decode prog_1_method_16_code 139 = .ok (.iload 7, 2))))
         (sd_br
          (sd_lf (sd_iconst (by decide +kernel : decode prog_1_method_16_code 141 = .ok (.iconst 5, 1)) (by decide +kernel)))
          (sd_lf (sd_icmp_gt (by decide +kernel : decode prog_1_method_16_code 142 = .ok (.if_icmp .gt 53, 3)) (by decide +kernel))))))))
     (sd_br
      (sd_br
       (sd_br
        (sd_br
         (sd_lf (sd_aload_n (k := 0) (by decide +kernel : decode prog_1_method_16_code 145 = .ok (.aload_n 0, 1))))
         (sd_br
          (sd_lf (sd_aload (by decide +kernel : decode prog_1_method_16_code 146 = .ok (.aload 5, 2))))
          (sd_lf (sd_aload (by decide +kernel : decode prog_1_method_16_code 148 = .ok (.aload 6, 2))))))
        (sd_br
         (sd_lf (sd_callV (q := (RX6, TX6, 7)) (by decide +kernel : decode prog_1_method_16_code 150 = .ok (.invokevirtual 192, 3)) ok_Hp_knock (gm 836 (by decide +kernel) rfl) (gm 838 (by decide +kernel) rfl) (gm 27 (by decide +kernel) rfl) rfl rfl (by decide +kernel) rfl rfl))
         (sd_br
          (sd_lf (sd_aload_n (k := 0) (by decide +kernel : decode prog_1_method_16_code 153 = .ok (.aload_n 0, 1))))
          (sd_lf (sd_aload (by decide +kernel : decode prog_1_method_16_code 154 = .ok (.aload 6, 2)))))))
       (sd_br
        (sd_br
         (sd_lf (sd_aload (by decide +kernel : decode prog_1_method_16_code 156 = .ok (.aload 5, 2))))
         (sd_br
          (sd_lf (sd_callV (q := (RX6, TX6, 7)) (by decide +kernel : decode prog_1_method_16_code 158 = .ok (.invokevirtual 192, 3)) ok_Hp_knock (gm 836 (by decide +kernel) rfl) (gm 838 (by decide +kernel) rfl) (gm 27 (by decide +kernel) rfl) rfl rfl (by decide +kernel) rfl rfl))
          (sd_lf (sd_aload_n (k := 0) (by decide +kernel : decode prog_1_method_16_code 161 = .ok (.aload_n 0, 1))))))
        (sd_br
         (sd_lf (sd_getf (q := (RX6, TX6, 7)) (by decide +kernel : decode prog_1_method_16_code 162 = .ok (.getfield 12, 3)) rfl (by decide +kernel) (gm 154 (by decide +kernel) rfl)))
         (sd_br
          (sd_lf (sd_iconst (by decide +kernel : decode prog_1_method_16_code 165 = .ok (.iconst 1, 1)) (by decide +kernel)))
          (sd_lf (sd_callV (q := (RX1, TX1, 6)) (by decide +kernel : decode prog_1_method_16_code 166 = .ok (.invokevirtual 114, 3)) ok_Nw_advance (gm 640 (by decide +kernel) rfl) (gm 641 (by decide +kernel) rfl) (gm 642 (by decide +kernel) rfl) rfl rfl (by decide +kernel) rfl rfl))))))
      (sd_br
       (sd_br
        (sd_br
         (sd_lf (sd_pop (by decide +kernel : decode prog_1_method_16_code 169 = .ok (.pop, 1))))
         (sd_br
          (sd_lf (sd_aload (by decide +kernel : decode prog_1_method_16_code 170 = .ok (.aload 5, 2))))
          (sd_lf (sd_getf (q := (RX4, TX4, 5)) (by decide +kernel : decode prog_1_method_16_code 172 = .ok (.getfield 196, 3)) rfl (by decide +kernel) (gm 815 (by decide +kernel) rfl)))))
        (sd_br
         (sd_lf (sd_if_eq (by decide +kernel : decode prog_1_method_16_code 175 = .ok (.ifCond .eq 14, 3)) (by decide +kernel)))
         (sd_br
          (sd_lf (sd_aload (by decide +kernel : decode prog_1_method_16_code 178 = .ok (.aload 6, 2))))
          (sd_lf (sd_getf (q := (RX4, TX4, 5)) (by decide +kernel : decode prog_1_method_16_code 180 = .ok (.getfield 196, 3)) rfl (by decide +kernel) (gm 815 (by decide +kernel) rfl))))))
       (sd_br
        (sd_br
         (sd_lf (sd_if_eq (by decide +kernel : decode prog_1_method_16_code 183 = .ok (.ifCond .eq 6, 3)) (by decide +kernel)))
         (sd_br
          (sd_lf (sd_iload (by decide +kernel : decode prog_1_method_16_code 186 = .ok (.iload 7, 2))))
          (sd_lf (sd_iret (by decide +kernel : decode prog_1_method_16_code 188 = .ok (.ireturn, 1)) rfl))))
        (sd_br
         (sd_br
          (sd_lf (sd_iinc (by decide +kernel : decode prog_1_method_16_code 189 = .ok (.iinc 7 1, 3)) (by decide +kernel)))
          (sd_lf (sd_goto (by decide +kernel : decode prog_1_method_16_code 192 = .ok (.goto (-53), 3)) (by decide +kernel))))
         (sd_br
          (sd_lf (sd_iconst (by decide +kernel : decode prog_1_method_16_code 195 = .ok (.iconst (-1), 1)) (by decide +kernel)))
          (sd_lf (sd_iret (by decide +kernel : decode prog_1_method_16_code 196 = .ok (.ireturn, 1)) rfl)))))))))
section
variable {l : Launch} {G : Gc}
theorem c_Hp_keepAlive (A : Nat → Nat) (a p b q v m w : Int32) (z zs t : Nat → Int32) (n : Nat) (h : AH) (Q : Po) (k : HpR h A z zs t n) (iv : Inv z) (is : hI h (A 0) 6 = nI 1 → Inv zs) (hw : wpZ z a p b q = w) (q1 : w = nI 1 → Q (.inr IOE) (nx h)) (q2 : w = nI 2 → Q (.inr IAE) (nx h))
    (q3 : w = nI 0 → ¬ ((nI 1 ≤ v ∧ v ≤ nI 1000) ∧ (nI 1 ≤ m ∧ m ≤ nI 20)) → Q (.inr IAE) (nx h))
    (q4 : w = nI 0 → (nI 1 ≤ v ∧ v ≤ nI 1000) → (nI 1 ≤ m ∧ m ≤ nI 20) → ¬ z 0 + v * m ≤ nI 100000 → Q (.inr ISE) (nx h))
    (q5 : w = nI 0 → (nI 1 ≤ v ∧ v ≤ nI 1000) → (nI 1 ≤ m ∧ m ≤ nI 20) → z 0 + v * m ≤ nI 100000 → ∃ a' b' m' c' z', a = nI a' ∧ b = nI b' ∧ m = nI m' ∧ m' ≤ 20 ∧ KaR a' p b' q v m' z (nI 0) c' z' ∧ ∀ h', HpR h' A z' zs t n → Inv z' → hI h' (A 0) 6 = hI h (A 0) 6 → FrX 400 h h' → Q (.inl (some (.int c'))) h') : Call l G M_Hp_keepAlive [.ref (A 0), .int a, .int p, .int b, .int q, .int v, .int m] h Q := by
  have x6 := k.1.1.1
  have x0 := k.1.2.1.1
  have w1 := k.2.1.1.1.1
  have w3 := k.2.1.2.1.2.1
  have hwf := k.1.2.2.2.2.2.2.2
  refine call_of rfl rfl (Nat.le_of_ble_eq_true rfl) ?_
  (obtain ⟨W9, hW9, hgo9⟩ := wp_ex (T_Hp_keepAlive l G) [] _; refine hgo9 200 _ _ _ _ ?_; simp -implicitDefEqProofs (disch := omega) only [hW9, inl, gate, Xq, tz_const, tz_iload, tz_lload, tz_dload, tz_aload, tz_istore, tz_astore, tz_lstore, tz_dstore, tz_iinc, tz_i1, tz_i2, tz_i2z, tz_l2, tz_l2z, tz_i2l, tz_l2i, tz_lcmp, tz_i2d, tz_d2, tz_dcmp, tz_dup, tz_dup2, tz_pop, tz_if, tz_icmp, tz_null, tz_goto, tz_sw, tz_getf, tz_puti, tz_putz, tz_putr, tz_putl, tz_iaload, tz_baload, tz_laload, tz_aaload, tz_iastore, tz_bastore, tz_lastore, tz_aastore, tz_alen, tz_new, tz_newa, tz_oinit, tz_iret, tz_zret, tz_lret, tz_dret, tz_aret, tz_vret, tz_throw, tz_callS, tz_callV, tz_callI, tz_callR, tz_pureS, tz_pureV, tz_callVH, lg, lset, lkill, lst1, lst2, entL, isRf, is1, vl, va_rf_none, va_rf_some, isRf_rf, is1_rf, i0, i1, bI_eq0, bI_eq1, nm_em, nI_eqP, nI_leP, nI_ltP, nN_e1, nN_e2, nN_l1, nN_l2, nN_l3, nN_l4, nI_add, pk_mul, vp_inN, nI_cl, n01, n10, P_i, P_ii, P_iii, f_Mo_at, f_Mo_map, f_Mo_contact, f_Mo_within, f_Mo_isPort, f_Hp_endpoint, f_Hp_nodeOf, f_Hp_portOf, f_Ma_max, f_Ma_min, f_Hp_isSetting, popN, rok, a1, noX, swc, mL, if_true, if_false, ↓reduceIte, cond_true, cond_false, true_and, and_true, List.length_cons, List.length_nil, List.nil_append, List.cons_append, List.append_nil, Option.toList, Nat.reduceEqDiff, Bool.false_eq_true, reduceCtorEq, Nat.reduceAdd, Nat.reduceLT, Nat.reduceLeDiff, Nat.reduceSub, List.replicate, Nat.zero_add, Nat.lt_add_one, Nat.le_refl, Nat.zero_le, Nat.succ_ne_zero, not_false_eq_true, not_true_eq_false, false_implies, true_implies, forall_const, imp_self, true_or, or_true, eq_self, sI_zw, zw_zw, hI_zw, tg_zw, ln_zw, hR_zw, hL_zw, hN_zw, hM_zw, upd_s, upd_u, upd_ne, Classical.not_not, k_Hp_keepAlive, x6]; try clear hgo9 hW9)
  refine c_Hp_checkPacket A a p b q w z zs t n h _ k iv hw (fun c => ?_) (fun c => ?_) (fun c => ?_)
  · simp only [aft]
    exact q1 c
  · simp only [aft]
    exact q2 c
  · simp only [aft]
    have bad : ¬ ((nI 1 ≤ v ∧ v ≤ nI 1000) ∧ (nI 1 ≤ m ∧ m ≤ nI 20)) → AWp l G M_Hp_keepAlive 32 [some (.ref (A 0)), some (.int a), some (.int p), some (.int b), some (.int q), some (.int v), some (.int m), none, none] [] h Q := by
      intro c9
      (obtain ⟨W9, hW9, hgo9⟩ := wp_ex (T_Hp_keepAlive l G) [] _; refine hgo9 200 _ _ _ _ ?_; simp -implicitDefEqProofs (disch := omega) only [hW9, inl, gate, Xq, tz_const, tz_iload, tz_lload, tz_dload, tz_aload, tz_istore, tz_astore, tz_lstore, tz_dstore, tz_iinc, tz_i1, tz_i2, tz_i2z, tz_l2, tz_l2z, tz_i2l, tz_l2i, tz_lcmp, tz_i2d, tz_d2, tz_dcmp, tz_dup, tz_dup2, tz_pop, tz_if, tz_icmp, tz_null, tz_goto, tz_sw, tz_getf, tz_puti, tz_putz, tz_putr, tz_putl, tz_iaload, tz_baload, tz_laload, tz_aaload, tz_iastore, tz_bastore, tz_lastore, tz_aastore, tz_alen, tz_new, tz_newa, tz_oinit, tz_iret, tz_zret, tz_lret, tz_dret, tz_aret, tz_vret, tz_throw, tz_callS, tz_callV, tz_callI, tz_callR, tz_pureS, tz_pureV, tz_callVH, lg, lset, lkill, lst1, lst2, entL, isRf, is1, vl, va_rf_none, va_rf_some, isRf_rf, is1_rf, i0, i1, bI_eq0, bI_eq1, nm_em, nI_eqP, nI_leP, nI_ltP, nN_e1, nN_e2, nN_l1, nN_l2, nN_l3, nN_l4, nI_add, pk_mul, vp_inN, nI_cl, n01, n10, P_i, P_ii, P_iii, f_Mo_at, f_Mo_map, f_Mo_contact, f_Mo_within, f_Mo_isPort, f_Hp_endpoint, f_Hp_nodeOf, f_Hp_portOf, f_Ma_max, f_Ma_min, f_Hp_isSetting, popN, rok, a1, noX, swc, mL, if_true, if_false, ↓reduceIte, cond_true, cond_false, true_and, and_true, List.length_cons, List.length_nil, List.nil_append, List.cons_append, List.append_nil, Option.toList, Nat.reduceEqDiff, Bool.false_eq_true, reduceCtorEq, Nat.reduceAdd, Nat.reduceLT, Nat.reduceLeDiff, Nat.reduceSub, List.replicate, Nat.zero_add, Nat.lt_add_one, Nat.le_refl, Nat.zero_le, Nat.succ_ne_zero, not_false_eq_true, not_true_eq_false, false_implies, true_implies, forall_const, imp_self, true_or, or_true, eq_self, sI_zw, zw_zw, hI_zw, tg_zw, ln_zw, hR_zw, hL_zw, hN_zw, hM_zw, upd_s, upd_u, upd_ne, Classical.not_not, k_Hp_keepAlive, x6]; try clear hgo9 hW9)
      exact q3 c c9
    (obtain ⟨W9, hW9, hgo9⟩ := wp_ex (T_Hp_keepAlive l G) [32] _; refine hgo9 200 _ _ _ _ ?_; simp -implicitDefEqProofs (disch := omega) only [hW9, inl, gate, Xq, tz_const, tz_iload, tz_lload, tz_dload, tz_aload, tz_istore, tz_astore, tz_lstore, tz_dstore, tz_iinc, tz_i1, tz_i2, tz_i2z, tz_l2, tz_l2z, tz_i2l, tz_l2i, tz_lcmp, tz_i2d, tz_d2, tz_dcmp, tz_dup, tz_dup2, tz_pop, tz_if, tz_icmp, tz_null, tz_goto, tz_sw, tz_getf, tz_puti, tz_putz, tz_putr, tz_putl, tz_iaload, tz_baload, tz_laload, tz_aaload, tz_iastore, tz_bastore, tz_lastore, tz_aastore, tz_alen, tz_new, tz_newa, tz_oinit, tz_iret, tz_zret, tz_lret, tz_dret, tz_aret, tz_vret, tz_throw, tz_callS, tz_callV, tz_callI, tz_callR, tz_pureS, tz_pureV, tz_callVH, lg, lset, lkill, lst1, lst2, entL, isRf, is1, vl, va_rf_none, va_rf_some, isRf_rf, is1_rf, i0, i1, bI_eq0, bI_eq1, nm_em, nI_eqP, nI_leP, nI_ltP, nN_e1, nN_e2, nN_l1, nN_l2, nN_l3, nN_l4, nI_add, pk_mul, vp_inN, nI_cl, n01, n10, P_i, P_ii, P_iii, f_Mo_at, f_Mo_map, f_Mo_contact, f_Mo_within, f_Mo_isPort, f_Hp_endpoint, f_Hp_nodeOf, f_Hp_portOf, f_Ma_max, f_Ma_min, f_Hp_isSetting, popN, rok, a1, noX, swc, mL, if_true, if_false, ↓reduceIte, cond_true, cond_false, true_and, and_true, List.length_cons, List.length_nil, List.nil_append, List.cons_append, List.append_nil, Option.toList, Nat.reduceEqDiff, Bool.false_eq_true, reduceCtorEq, Nat.reduceAdd, Nat.reduceLT, Nat.reduceLeDiff, Nat.reduceSub, List.replicate, Nat.zero_add, Nat.lt_add_one, Nat.le_refl, Nat.zero_le, Nat.succ_ne_zero, not_false_eq_true, not_true_eq_false, false_implies, true_implies, forall_const, imp_self, true_or, or_true, eq_self, sI_zw, zw_zw, hI_zw, tg_zw, ln_zw, hR_zw, hL_zw, hN_zw, hM_zw, upd_s, upd_u, upd_ne, Classical.not_not, k_Hp_keepAlive, x6, f_Hp_isWithin]; try clear hgo9 hW9)
    refine ⟨fun c1 => ?_, fun c1 => ?_⟩
    · exact bad (fun q => c1 q.1)
    · (obtain ⟨W9, hW9, hgo9⟩ := wp_ex (T_Hp_keepAlive l G) [32] _; refine hgo9 200 _ _ _ _ ?_; simp -implicitDefEqProofs (disch := omega) only [hW9, inl, gate, Xq, tz_const, tz_iload, tz_lload, tz_dload, tz_aload, tz_istore, tz_astore, tz_lstore, tz_dstore, tz_iinc, tz_i1, tz_i2, tz_i2z, tz_l2, tz_l2z, tz_i2l, tz_l2i, tz_lcmp, tz_i2d, tz_d2, tz_dcmp, tz_dup, tz_dup2, tz_pop, tz_if, tz_icmp, tz_null, tz_goto, tz_sw, tz_getf, tz_puti, tz_putz, tz_putr, tz_putl, tz_iaload, tz_baload, tz_laload, tz_aaload, tz_iastore, tz_bastore, tz_lastore, tz_aastore, tz_alen, tz_new, tz_newa, tz_oinit, tz_iret, tz_zret, tz_lret, tz_dret, tz_aret, tz_vret, tz_throw, tz_callS, tz_callV, tz_callI, tz_callR, tz_pureS, tz_pureV, tz_callVH, lg, lset, lkill, lst1, lst2, entL, isRf, is1, vl, va_rf_none, va_rf_some, isRf_rf, is1_rf, i0, i1, bI_eq0, bI_eq1, nm_em, nI_eqP, nI_leP, nI_ltP, nN_e1, nN_e2, nN_l1, nN_l2, nN_l3, nN_l4, nI_add, pk_mul, vp_inN, nI_cl, n01, n10, P_i, P_ii, P_iii, f_Mo_at, f_Mo_map, f_Mo_contact, f_Mo_within, f_Mo_isPort, f_Hp_endpoint, f_Hp_nodeOf, f_Hp_portOf, f_Ma_max, f_Ma_min, f_Hp_isSetting, popN, rok, a1, noX, swc, mL, if_true, if_false, ↓reduceIte, cond_true, cond_false, true_and, and_true, List.length_cons, List.length_nil, List.nil_append, List.cons_append, List.append_nil, Option.toList, Nat.reduceEqDiff, Bool.false_eq_true, reduceCtorEq, Nat.reduceAdd, Nat.reduceLT, Nat.reduceLeDiff, Nat.reduceSub, List.replicate, Nat.zero_add, Nat.lt_add_one, Nat.le_refl, Nat.zero_le, Nat.succ_ne_zero, not_false_eq_true, not_true_eq_false, false_implies, true_implies, forall_const, imp_self, true_or, or_true, eq_self, sI_zw, zw_zw, hI_zw, tg_zw, ln_zw, hR_zw, hL_zw, hN_zw, hM_zw, upd_s, upd_u, upd_ne, Classical.not_not, k_Hp_keepAlive, x6, f_Hp_isWithin]; try clear hgo9 hW9)
      refine ⟨fun c2 => ?_, fun c2 => ?_⟩
      · (obtain ⟨W9, hW9, hgo9⟩ := wp_ex (T_Hp_keepAlive l G) [32] _; refine hgo9 200 _ _ _ _ ?_; simp -implicitDefEqProofs (disch := omega) only [hW9, inl, gate, Xq, tz_const, tz_iload, tz_lload, tz_dload, tz_aload, tz_istore, tz_astore, tz_lstore, tz_dstore, tz_iinc, tz_i1, tz_i2, tz_i2z, tz_l2, tz_l2z, tz_i2l, tz_l2i, tz_lcmp, tz_i2d, tz_d2, tz_dcmp, tz_dup, tz_dup2, tz_pop, tz_if, tz_icmp, tz_null, tz_goto, tz_sw, tz_getf, tz_puti, tz_putz, tz_putr, tz_putl, tz_iaload, tz_baload, tz_laload, tz_aaload, tz_iastore, tz_bastore, tz_lastore, tz_aastore, tz_alen, tz_new, tz_newa, tz_oinit, tz_iret, tz_zret, tz_lret, tz_dret, tz_aret, tz_vret, tz_throw, tz_callS, tz_callV, tz_callI, tz_callR, tz_pureS, tz_pureV, tz_callVH, lg, lset, lkill, lst1, lst2, entL, isRf, is1, vl, va_rf_none, va_rf_some, isRf_rf, is1_rf, i0, i1, bI_eq0, bI_eq1, nm_em, nI_eqP, nI_leP, nI_ltP, nN_e1, nN_e2, nN_l1, nN_l2, nN_l3, nN_l4, nI_add, pk_mul, vp_inN, nI_cl, n01, n10, P_i, P_ii, P_iii, f_Mo_at, f_Mo_map, f_Mo_contact, f_Mo_within, f_Mo_isPort, f_Hp_endpoint, f_Hp_nodeOf, f_Hp_portOf, f_Ma_max, f_Ma_min, f_Hp_isSetting, popN, rok, a1, noX, swc, mL, if_true, if_false, ↓reduceIte, cond_true, cond_false, true_and, and_true, List.length_cons, List.length_nil, List.nil_append, List.cons_append, List.append_nil, Option.toList, Nat.reduceEqDiff, Bool.false_eq_true, reduceCtorEq, Nat.reduceAdd, Nat.reduceLT, Nat.reduceLeDiff, Nat.reduceSub, List.replicate, Nat.zero_add, Nat.lt_add_one, Nat.le_refl, Nat.zero_le, Nat.succ_ne_zero, not_false_eq_true, not_true_eq_false, false_implies, true_implies, forall_const, imp_self, true_or, or_true, eq_self, sI_zw, zw_zw, hI_zw, tg_zw, ln_zw, hR_zw, hL_zw, hN_zw, hM_zw, upd_s, upd_u, upd_ne, Classical.not_not, k_Hp_keepAlive, x6, x0, w1, w3]; try clear hgo9 hW9)
        refine ⟨fun c3 => ?_, fun c3 => ?_⟩
        · obtain ⟨a', b', m', c', z', rfl, rfl, rfl, m20, hr, hQ⟩ := q5 c c1 c2 c3
          obtain ⟨T, -, T2, eT⟩ := iv.1.2.1
          obtain ⟨i, i1, i2, rfl⟩ := n_in1 (a := 1) (b := 1000) (by omega) c1.1 c1.2 (by omega)
          have le : T + m' * i ≤ 100000 := by
            have b2 : i * m' ≤ 1000 * 20 := Nat.mul_le_mul i2 m20
            rw [eT, pk_mul, nI_add, nI_leP (by omega) (by omega)] at c3
            rw [Nat.mul_comm]
            exact c3
          (obtain ⟨W9, hW9, hgo9⟩ := wp_ex (T_Hp_keepAlive l G) [76] _; refine hgo9 200 _ _ _ _ ?_; simp -implicitDefEqProofs (disch := omega) only [hW9, inl, gate, Xq, tz_const, tz_iload, tz_lload, tz_dload, tz_aload, tz_istore, tz_astore, tz_lstore, tz_dstore, tz_iinc, tz_i1, tz_i2, tz_i2z, tz_l2, tz_l2z, tz_i2l, tz_l2i, tz_lcmp, tz_i2d, tz_d2, tz_dcmp, tz_dup, tz_dup2, tz_pop, tz_if, tz_icmp, tz_null, tz_goto, tz_sw, tz_getf, tz_puti, tz_putz, tz_putr, tz_putl, tz_iaload, tz_baload, tz_laload, tz_aaload, tz_iastore, tz_bastore, tz_lastore, tz_aastore, tz_alen, tz_new, tz_newa, tz_oinit, tz_iret, tz_zret, tz_lret, tz_dret, tz_aret, tz_vret, tz_throw, tz_callS, tz_callV, tz_callI, tz_callR, tz_pureS, tz_pureV, tz_callVH, lg, lset, lkill, lst1, lst2, entL, isRf, is1, vl, va_rf_none, va_rf_some, isRf_rf, is1_rf, i0, i1, bI_eq0, bI_eq1, nm_em, nI_eqP, nI_leP, nI_ltP, nN_e1, nN_e2, nN_l1, nN_l2, nN_l3, nN_l4, nI_add, pk_mul, vp_inN, nI_cl, n01, n10, P_i, P_ii, P_iii, f_Mo_at, f_Mo_map, f_Mo_contact, f_Mo_within, f_Mo_isPort, f_Hp_endpoint, f_Hp_nodeOf, f_Hp_portOf, f_Ma_max, f_Ma_min, f_Hp_isSetting, popN, rok, a1, noX, swc, mL, if_true, if_false, ↓reduceIte, cond_true, cond_false, true_and, and_true, List.length_cons, List.length_nil, List.nil_append, List.cons_append, List.append_nil, Option.toList, Nat.reduceEqDiff, Bool.false_eq_true, reduceCtorEq, Nat.reduceAdd, Nat.reduceLT, Nat.reduceLeDiff, Nat.reduceSub, List.replicate, Nat.zero_add, Nat.lt_add_one, Nat.le_refl, Nat.zero_le, Nat.succ_ne_zero, not_false_eq_true, not_true_eq_false, false_implies, true_implies, forall_const, imp_self, true_or, or_true, eq_self, sI_zw, zw_zw, hI_zw, tg_zw, ln_zw, hR_zw, hL_zw, hN_zw, hM_zw, upd_s, upd_u, upd_ne, Classical.not_not, k_Hp_keepAlive, x6]; try clear hgo9 hW9)
          exact lp_hka m20 hQ m' 0 z h _ T (by omega) k iv is rfl (FrX.rf hwf) eT le hr (fun y r y1 hs => snd_0 hs)
        · (obtain ⟨W9, hW9, hgo9⟩ := wp_ex (T_Hp_keepAlive l G) [] _; refine hgo9 200 _ _ _ _ ?_; simp -implicitDefEqProofs (disch := omega) only [hW9, inl, gate, Xq, tz_const, tz_iload, tz_lload, tz_dload, tz_aload, tz_istore, tz_astore, tz_lstore, tz_dstore, tz_iinc, tz_i1, tz_i2, tz_i2z, tz_l2, tz_l2z, tz_i2l, tz_l2i, tz_lcmp, tz_i2d, tz_d2, tz_dcmp, tz_dup, tz_dup2, tz_pop, tz_if, tz_icmp, tz_null, tz_goto, tz_sw, tz_getf, tz_puti, tz_putz, tz_putr, tz_putl, tz_iaload, tz_baload, tz_laload, tz_aaload, tz_iastore, tz_bastore, tz_lastore, tz_aastore, tz_alen, tz_new, tz_newa, tz_oinit, tz_iret, tz_zret, tz_lret, tz_dret, tz_aret, tz_vret, tz_throw, tz_callS, tz_callV, tz_callI, tz_callR, tz_pureS, tz_pureV, tz_callVH, lg, lset, lkill, lst1, lst2, entL, isRf, is1, vl, va_rf_none, va_rf_some, isRf_rf, is1_rf, i0, i1, bI_eq0, bI_eq1, nm_em, nI_eqP, nI_leP, nI_ltP, nN_e1, nN_e2, nN_l1, nN_l2, nN_l3, nN_l4, nI_add, pk_mul, vp_inN, nI_cl, n01, n10, P_i, P_ii, P_iii, f_Mo_at, f_Mo_map, f_Mo_contact, f_Mo_within, f_Mo_isPort, f_Hp_endpoint, f_Hp_nodeOf, f_Hp_portOf, f_Ma_max, f_Ma_min, f_Hp_isSetting, popN, rok, a1, noX, swc, mL, if_true, if_false, ↓reduceIte, cond_true, cond_false, true_and, and_true, List.length_cons, List.length_nil, List.nil_append, List.cons_append, List.append_nil, Option.toList, Nat.reduceEqDiff, Bool.false_eq_true, reduceCtorEq, Nat.reduceAdd, Nat.reduceLT, Nat.reduceLeDiff, Nat.reduceSub, List.replicate, Nat.zero_add, Nat.lt_add_one, Nat.le_refl, Nat.zero_le, Nat.succ_ne_zero, not_false_eq_true, not_true_eq_false, false_implies, true_implies, forall_const, imp_self, true_or, or_true, eq_self, sI_zw, zw_zw, hI_zw, tg_zw, ln_zw, hR_zw, hL_zw, hN_zw, hM_zw, upd_s, upd_u, upd_ne, Classical.not_not, k_Hp_keepAlive, x6]; try clear hgo9 hW9)
          exact q4 c c1 c2 c3
      · exact bad (fun q => c2 q.2)
theorem c_Pe_init (a n : Nat) (h : AH) (Q : Po) (h4 : tg h a = 4) (hQ : Q (.inl none) (zw h a (upd (upd (upd (upd (upd (hI h a) 2 nN) 3 nN) 4 (nI 0)) 0 (nI n)) 1 (nI (n * 10000 + 500))))) : Call l G M_Pe_init [.ref a, .int (nI n)] h Q := by
  refine call_of rfl rfl (Nat.le_of_ble_eq_true rfl) ?_
  (obtain ⟨W9, hW9, hgo9⟩ := wp_ex (T_Pe_init l G) [] _; refine hgo9 200 _ _ _ _ ?_; simp -implicitDefEqProofs (disch := omega) only [hW9, inl, gate, Xq, tz_const, tz_iload, tz_lload, tz_dload, tz_aload, tz_istore, tz_astore, tz_lstore, tz_dstore, tz_iinc, tz_i1, tz_i2, tz_i2z, tz_l2, tz_l2z, tz_i2l, tz_l2i, tz_lcmp, tz_i2d, tz_d2, tz_dcmp, tz_dup, tz_dup2, tz_pop, tz_if, tz_icmp, tz_null, tz_goto, tz_sw, tz_getf, tz_puti, tz_putz, tz_putr, tz_putl, tz_iaload, tz_baload, tz_laload, tz_aaload, tz_iastore, tz_bastore, tz_lastore, tz_aastore, tz_alen, tz_new, tz_newa, tz_oinit, tz_iret, tz_zret, tz_lret, tz_dret, tz_aret, tz_vret, tz_throw, tz_callS, tz_callV, tz_callI, tz_callR, tz_pureS, tz_pureV, tz_callVH, lg, lset, lkill, lst1, lst2, entL, isRf, is1, vl, va_rf_none, va_rf_some, isRf_rf, is1_rf, i0, i1, bI_eq0, bI_eq1, nm_em, nI_eqP, nI_leP, nI_ltP, nN_e1, nN_e2, nN_l1, nN_l2, nN_l3, nN_l4, nI_add, pk_mul, vp_inN, nI_cl, n01, n10, P_i, P_ii, P_iii, f_Mo_at, f_Mo_map, f_Mo_contact, f_Mo_within, f_Mo_isPort, f_Hp_endpoint, f_Hp_nodeOf, f_Hp_portOf, f_Ma_max, f_Ma_min, f_Hp_isSetting, popN, rok, a1, noX, swc, mL, if_true, if_false, ↓reduceIte, cond_true, cond_false, true_and, and_true, List.length_cons, List.length_nil, List.nil_append, List.cons_append, List.append_nil, Option.toList, Nat.reduceEqDiff, Bool.false_eq_true, reduceCtorEq, Nat.reduceAdd, Nat.reduceLT, Nat.reduceLeDiff, Nat.reduceSub, List.replicate, Nat.zero_add, Nat.lt_add_one, Nat.le_refl, Nat.zero_le, Nat.succ_ne_zero, not_false_eq_true, not_true_eq_false, false_implies, true_implies, forall_const, imp_self, true_or, or_true, eq_self, sI_zw, zw_zw, hI_zw, tg_zw, ln_zw, hR_zw, hL_zw, hN_zw, hM_zw, upd_s, upd_u, upd_ne, Classical.not_not, k_Pe_init, h4]; try clear hgo9 hW9)
  exact hQ
end
