def k_Hp_reply (l : Launch) (G : Gc) (pc : Nat) : Tr :=
  if pc < 30 then
   if pc < 9 then
    if pc < 4 then
     if pc < 1 then
      if pc = 0 then tz_aload 1 0 else dead
     else
      if pc = 1 then tz_getf 4 6 0 1 else dead
    else
     if pc < 5 then
      if pc = 4 then tz_iload 5 1 else dead
     else
      if pc < 8 then
       if pc = 5 then tz_pureV 8 1 1 P_Nw_hostAt f_Nw_hostAt else dead
      else
       if pc = 8 then tz_astore 9 2 else dead
   else
    if pc < 23 then
     if pc < 10 then
      if pc = 9 then tz_aload 10 2 else dead
     else
      if pc < 13 then
       if pc = 10 then tz_null 13 23 else dead
      else
       if pc = 13 then tz_throw "java/lang/IndexOutOfBoundsException" else dead
    else
     if pc < 24 then
      if pc = 23 then tz_aload 24 2 else dead
     else
      if pc < 27 then
       if pc = 24 then tz_pureV 27 0 3 P_No_hasDelivery f_No_hasDelivery else dead
      else
       if pc = 27 then tz_if 30 40 (fun a => ¬ a = 0) else dead
  else
   if pc < 46 then
    if pc < 41 then
     if pc < 40 then
      if pc = 30 then tz_throw "java/lang/IllegalStateException" else dead
     else
      if pc = 40 then tz_aload 41 0 else dead
    else
     if pc < 44 then
      if pc = 41 then tz_getf 44 6 0 1 else dead
     else
      if pc < 45 then
       if pc = 44 then tz_iload 45 1 else dead
      else
       if pc = 45 then tz_aload 46 2 else dead
   else
    if pc < 53 then
     if pc < 49 then
      if pc = 46 then tz_getf 49 3 3 0 else dead
     else
      if pc < 52 then
       if pc = 49 then tz_pureS 52 2 P_Hp_endpoint f_Hp_endpoint else dead
      else
       if pc = 52 then tz_aload 53 2 else dead
    else
     if pc < 56 then
      if pc = 53 then tz_getf 56 3 2 0 else dead
     else
      if pc < 59 then
       if pc = 56 then tz_callV l G 59 M_Nw_carry 2 1 else dead
      else
       if pc = 59 then tz_iret else dead
set_option maxRecDepth 100000 in
theorem T_Hp_reply (l : Launch) (G : Gc) : TabOK l G M_Hp_reply (k_Hp_reply l G) := by
  intro pc
  unfold k_Hp_reply
  exact
   (sd_br
    (sd_br
     (sd_br
      (sd_br
       (sd_lf (sd_aload_n (k := 0) (by decide +kernel : decode prog_1_method_14_code 0 = .ok (.aload_n 0, 1))))
       (sd_lf (sd_getf (q := (RX6, TX6, 7)) (by decide +kernel : decode prog_1_method_14_code 1 = .ok (.getfield 12, 3)) rfl (by decide +kernel) (gm 154 (by decide +kernel) rfl))))
      (sd_br
       (sd_lf (sd_iload_n (k := 1) (by decide +kernel : decode prog_1_method_14_code 4 = .ok (.iload_n 1, 1))))
       (sd_br
        (sd_lf (sd_pureV (sd_callV (q := (RX1, TX1, 6)) (by decide +kernel : decode prog_1_method_14_code 5 = .ok (.invokevirtual 150, 3)) ok_Nw_hostAt (gm 685 (by decide +kernel) rfl) (gm 416 (by decide +kernel) rfl) (gm 417 (by decide +kernel) rfl) rfl rfl (by decide +kernel) rfl rfl) c_Nw_hostAt))
        (sd_lf (sd_astore_n (k := 2) (by decide +kernel : decode prog_1_method_14_code 8 = .ok (.astore_n 2, 1)))))))
     (sd_br
      (sd_br
       (sd_lf (sd_aload_n (k := 2) (by decide +kernel : decode prog_1_method_14_code 9 = .ok (.aload_n 2, 1))))
       (sd_br
        (sd_lf (sd_ifnonnull (by decide +kernel : decode prog_1_method_14_code 10 = .ok (.ifnonnull 13, 3)) (by decide +kernel)))
        (sd_lf (sd_throwS (text := "no such host") (by decide +kernel) (by decide +kernel) (gm 494 (by decide +kernel) rfl) (gm 80 (by decide +kernel) rfl) (List.mem_of_getElem? (i := 701) (by decide +kernel)) thA_IOE thG_IOE (by decide +kernel : decode prog_1_method_14_code 13 = .ok (.new 83, 3)) (by decide +kernel : decode prog_1_method_14_code 16 = .ok (.dup, 1)) (by decide +kernel : decode prog_1_method_14_code 17 = .ok (.ldc 154, 2)) (by decide +kernel : decode prog_1_method_14_code 19 = .ok (.invokespecial 87, 3)) (by decide +kernel : decode prog_1_method_14_code 22 = .ok (.athrow, 1)) rfl (by decide +kernel) (by decide +kernel)))))
      (sd_br
       (sd_lf (sd_aload_n (k := 2) (by decide +kernel : decode prog_1_method_14_code 23 = .ok (.aload_n 2, 1))))
       (sd_br
        (sd_lf (sd_pureV (sd_callV (q := (RX3, TX3, 5)) (by decide +kernel : decode prog_1_method_14_code 24 = .ok (.invokevirtual 156, 3)) ok_No_hasDelivery (gm 774 (by decide +kernel) rfl) (gm 445 (by decide +kernel) rfl) (gm 446 (by decide +kernel) rfl) rfl rfl (by decide +kernel) rfl rfl) c_No_hasDelivery))
        (sd_lf (sd_if_ne (by decide +kernel : decode prog_1_method_14_code 27 = .ok (.ifCond .ne 13, 3)) (by decide +kernel)))))))
    (sd_br
     (sd_br
      (sd_br
       (sd_lf (sd_throwS (text := "the host has no delivery") (by decide +kernel) (by decide +kernel) (gm 563 (by decide +kernel) rfl) (gm 81 (by decide +kernel) rfl) (List.mem_of_getElem? (i := 703) (by decide +kernel)) thA_ISE thG_ISE (by decide +kernel : decode prog_1_method_14_code 30 = .ok (.new 55, 3)) (by decide +kernel : decode prog_1_method_14_code 33 = .ok (.dup, 1)) (by decide +kernel : decode prog_1_method_14_code 34 = .ok (.ldc 161, 2)) (by decide +kernel : decode prog_1_method_14_code 36 = .ok (.invokespecial 59, 3)) (by decide +kernel : decode prog_1_method_14_code 39 = .ok (.athrow, 1)) rfl (by decide +kernel) (by decide +kernel)))
       (sd_lf (sd_aload_n (k := 0) (by decide +kernel : decode prog_1_method_14_code 40 = .ok (.aload_n 0, 1)))))
      (sd_br
       (sd_lf (sd_getf (q := (RX6, TX6, 7)) (by decide +kernel : decode prog_1_method_14_code 41 = .ok (.getfield 12, 3)) rfl (by decide +kernel) (gm 154 (by decide +kernel) rfl)))
       (sd_br
        (sd_lf (sd_iload_n (k := 1) (by decide +kernel : decode prog_1_method_14_code 44 = .ok (.iload_n 1, 1))))
        (sd_lf (sd_aload_n (k := 2) (by decide +kernel : decode prog_1_method_14_code 45 = .ok (.aload_n 2, 1)))))))
     (sd_br
      (sd_br
       (sd_lf (sd_getf (q := (RX3, TX3, 5)) (by decide +kernel : decode prog_1_method_14_code 46 = .ok (.getfield 163, 3)) rfl (by decide +kernel) (gm 213 (by decide +kernel) rfl)))
       (sd_br
        (sd_lf (sd_pureS (sd_callS (by decide +kernel : decode prog_1_method_14_code 49 = .ok (.invokestatic 143, 3)) ok_Hp_endpoint (gm 692 (by decide +kernel) rfl) (gm 693 (by decide +kernel) rfl) (by decide +kernel) rfl rfl) c_Hp_endpoint))
        (sd_lf (sd_aload_n (k := 2) (by decide +kernel : decode prog_1_method_14_code 52 = .ok (.aload_n 2, 1))))))
      (sd_br
       (sd_lf (sd_getf (q := (RX3, TX3, 5)) (by decide +kernel : decode prog_1_method_14_code 53 = .ok (.getfield 166, 3)) rfl (by decide +kernel) (gm 210 (by decide +kernel) rfl)))
       (sd_br
        (sd_lf (sd_callV (q := (RX1, TX1, 6)) (by decide +kernel : decode prog_1_method_14_code 56 = .ok (.invokevirtual 147, 3)) ok_Nw_carry (gm 695 (by decide +kernel) rfl) (gm 696 (by decide +kernel) rfl) (gm 697 (by decide +kernel) rfl) rfl rfl (by decide +kernel) rfl rfl))
        (sd_lf (sd_iret (by decide +kernel : decode prog_1_method_14_code 59 = .ok (.ireturn, 1)) rfl)))))))
def k_Hp_keepAlive (l : Launch) (G : Gc) (pc : Nat) : Tr :=
  if pc < 70 then
   if pc < 24 then
    if pc < 9 then
     if pc < 3 then
      if pc < 1 then
       if pc = 0 then tz_aload 1 0 else dead
      else
       if pc < 2 then
        if pc = 1 then tz_iload 2 1 else dead
       else
        if pc = 2 then tz_iload 3 2 else dead
     else
      if pc < 4 then
       if pc = 3 then tz_iload 4 3 else dead
      else
       if pc < 6 then
        if pc = 4 then tz_iload 6 4 else dead
       else
        if pc = 6 then tz_callV l G 9 M_Hp_checkPacket 4 6 else dead
    else
     if pc < 15 then
      if pc < 11 then
       if pc = 9 then tz_iload 11 5 else dead
      else
       if pc < 12 then
        if pc = 11 then tz_const 12 (.int (nI 1)) else dead
       else
        if pc = 12 then tz_const 15 (.int (nI 1000)) else dead
     else
      if pc < 21 then
       if pc < 18 then
        if pc = 15 then tz_pureS 18 3 P_Hp_isWithin f_Hp_isWithin else dead
       else
        if pc = 18 then tz_if 21 32 (fun a => a = 0) else dead
      else
       if pc < 23 then
        if pc = 21 then tz_iload 23 6 else dead
       else
        if pc = 23 then tz_const 24 (.int (nI 1)) else dead
   else
    if pc < 49 then
     if pc < 32 then
      if pc < 26 then
       if pc = 24 then tz_const 26 (.int (nI 20)) else dead
      else
       if pc < 29 then
        if pc = 26 then tz_pureS 29 3 P_Hp_isWithin f_Hp_isWithin else dead
       else
        if pc = 29 then tz_if 32 42 (fun a => ¬ a = 0) else dead
     else
      if pc < 43 then
       if pc < 42 then
        if pc = 32 then tz_throw "java/lang/IllegalArgumentException" else dead
       else
        if pc = 42 then tz_aload 43 0 else dead
      else
       if pc < 46 then
        if pc = 43 then tz_getf 46 6 0 1 else dead
       else
        if pc = 46 then tz_getf 49 1 3 0 else dead
    else
     if pc < 54 then
      if pc < 51 then
       if pc = 49 then tz_iload 51 5 else dead
      else
       if pc < 53 then
        if pc = 51 then tz_iload 53 6 else dead
       else
        if pc = 53 then tz_i2 54 (fun a b => a * b) else dead
     else
      if pc < 57 then
       if pc < 55 then
        if pc = 54 then tz_i2 55 (fun a b => a + b) else dead
       else
        if pc = 55 then tz_const 57 (.int (nI 100000)) else dead
      else
       if pc < 60 then
        if pc = 57 then tz_icmp 60 70 (fun a b => a ≤ b) else dead
       else
        if pc = 60 then tz_throw "java/lang/IllegalStateException" else dead
  else
   if pc < 93 then
    if pc < 80 then
     if pc < 74 then
      if pc < 71 then
       if pc = 70 then tz_const 71 (.int (nI 0)) else dead
      else
       if pc < 73 then
        if pc = 71 then tz_istore 73 7 else dead
       else
        if pc = 73 then tz_const 74 (.int (nI 0)) else dead
     else
      if pc < 76 then
       if pc = 74 then tz_istore 76 8 else dead
      else
       if pc < 78 then
        if pc = 76 then tz_iload 78 8 else dead
       else
        if pc = 78 then tz_iload 80 6 else dead
    else
     if pc < 87 then
      if pc < 83 then
       if pc = 80 then tz_icmp 83 123 (fun a b => b ≤ a) else dead
      else
       if pc < 84 then
        if pc = 83 then tz_aload 84 0 else dead
       else
        if pc = 84 then tz_getf 87 6 0 1 else dead
     else
      if pc < 89 then
       if pc < 88 then
        if pc = 87 then tz_iload 88 1 else dead
       else
        if pc = 88 then tz_iload 89 2 else dead
      else
       if pc < 92 then
        if pc = 89 then tz_pureS 92 2 P_Hp_endpoint f_Hp_endpoint else dead
       else
        if pc = 92 then tz_iload 93 3 else dead
   else
    if pc < 111 then
     if pc < 101 then
      if pc < 95 then
       if pc = 93 then tz_iload 95 4 else dead
      else
       if pc < 98 then
        if pc = 95 then tz_pureS 98 2 P_Hp_endpoint f_Hp_endpoint else dead
       else
        if pc = 98 then tz_callV l G 101 M_Nw_carry 2 1 else dead
     else
      if pc < 107 then
       if pc < 104 then
        if pc = 101 then tz_if 104 107 (fun a => a < 0) else dead
       else
        if pc = 104 then tz_iinc 107 7 (nI 1) else dead
      else
       if pc < 108 then
        if pc = 107 then tz_aload 108 0 else dead
       else
        if pc = 108 then tz_getf 111 6 0 1 else dead
    else
     if pc < 117 then
      if pc < 113 then
       if pc = 111 then tz_iload 113 5 else dead
      else
       if pc < 116 then
        if pc = 113 then tz_callV l G 116 M_Nw_advance 1 1 else dead
       else
        if pc = 116 then tz_pop 117 else dead
     else
      if pc < 123 then
       if pc < 120 then
        if pc = 117 then tz_iinc 120 8 (nI 1) else dead
       else
        if pc = 120 then tz_goto 76 else dead
      else
       if pc < 125 then
        if pc = 123 then tz_iload 125 7 else dead
       else
        if pc = 125 then tz_iret else dead
set_option maxRecDepth 100000 in
theorem T_Hp_keepAlive (l : Launch) (G : Gc) : TabOK l G M_Hp_keepAlive (k_Hp_keepAlive l G) := by
  intro pc
  unfold k_Hp_keepAlive
  exact
   (sd_br
    (sd_br
     (sd_br
      (sd_br
       (sd_br
        (sd_lf (sd_aload_n (k := 0) (by decide +kernel : decode prog_1_method_15_code 0 = .ok (.aload_n 0, 1))))
        (sd_br
         (sd_lf (sd_iload_n (k := 1) (by decide +kernel : decode prog_1_method_15_code 1 = .ok (.iload_n 1, 1))))
         (sd_lf (sd_iload_n (k := 2) (by decide +kernel : decode prog_1_method_15_code 2 = .ok (.iload_n 2, 1))))))
       (sd_br
        (sd_lf (sd_iload_n (k := 3) (by decide +kernel : decode prog_1_method_15_code 3 = .ok (.iload_n 3, 1))))
        (sd_br
         (sd_lf (sd_iload (by decide +kernel : decode prog_1_method_15_code 4 = .ok (.iload 4, 2))))
         (sd_lf (sd_callV (q := (RX6, TX6, 7)) (by decide +kernel : decode prog_1_method_15_code 6 = .ok (.invokevirtual 139, 3)) ok_Hp_checkPacket (gm 681 (by decide +kernel) rfl) (gm 683 (by decide +kernel) rfl) (gm 16 (by decide +kernel) rfl) rfl rfl (by decide +kernel) rfl rfl)))))
      (sd_br
       (sd_br
        (sd_lf (sd_iload (by decide +kernel : decode prog_1_method_15_code 9 = .ok (.iload 5, 2))))
        (sd_br
         (sd_lf (sd_iconst (by decide +kernel : decode prog_1_method_15_code 11 = .ok (.iconst 1, 1)) (by decide +kernel)))
         (sd_lf (sd_sipush (by decide +kernel : decode prog_1_method_15_code 12 = .ok (.sipush 1000, 3)) (by decide +kernel)))))
       (sd_br
        (sd_br
         (sd_lf (sd_pureS (sd_callS (by decide +kernel : decode prog_1_method_15_code 15 = .ok (.invokestatic 66, 3)) ok_Hp_isWithin (gm 588 (by decide +kernel) rfl) (gm 589 (by decide +kernel) rfl) (by decide +kernel) rfl rfl) c_Hp_isWithin))
         (sd_lf (sd_if_eq (by decide +kernel : decode prog_1_method_15_code 18 = .ok (.ifCond .eq 14, 3)) (by decide +kernel))))
        (sd_br
         (sd_lf (sd_iload (by decide +kernel : decode prog_1_method_15_code 21 = .ok (.iload 6, 2))))
         (sd_lf (sd_iconst (by decide +kernel : decode prog_1_method_15_code 23 = .ok (.iconst 1, 1)) (by decide +kernel)))))))
     (sd_br
      (sd_br
       (sd_br
        (sd_lf (sd_bipush (by decide +kernel : decode prog_1_method_15_code 24 = .ok (.bipush 20, 2)) (by decide +kernel)))
        (sd_br
         (sd_lf (sd_pureS (sd_callS (by decide +kernel : decode prog_1_method_15_code 26 = .ok (.invokestatic 66, 3)) ok_Hp_isWithin (gm 588 (by decide +kernel) rfl) (gm 589 (by decide +kernel) rfl) (by decide +kernel) rfl rfl) c_Hp_isWithin))
         (sd_lf (sd_if_ne (by decide +kernel : decode prog_1_method_15_code 29 = .ok (.ifCond .ne 13, 3)) (by decide +kernel)))))
       (sd_br
        (sd_br
         (sd_lf (sd_throwS (text := "interval is not 1 to 1000, or many not 1 to 20") (by decide +kernel) (by decide +kernel) (gm 591 (by decide +kernel) rfl) (gm 83 (by decide +kernel) rfl) (List.mem_of_getElem? (i := 711) (by decide +kernel)) thA_IAE thG_IAE (by decide +kernel : decode prog_1_method_15_code 32 = .ok (.new 70, 3)) (by decide +kernel : decode prog_1_method_15_code 35 = .ok (.dup, 1)) (by decide +kernel : decode prog_1_method_15_code 36 = .ok (.ldc 169, 2)) (by decide +kernel : decode prog_1_method_15_code 38 = .ok (.invokespecial 74, 3)) (by decide +kernel : decode prog_1_method_15_code 41 = .ok (.athrow, 1)) rfl (by decide +kernel) (by decide +kernel)))
         (sd_lf (sd_aload_n (k := 0) (by decide +kernel : decode prog_1_method_15_code 42 = .ok (.aload_n 0, 1)))))
        (sd_br
         (sd_lf (sd_getf (q := (RX6, TX6, 7)) (by decide +kernel : decode prog_1_method_15_code 43 = .ok (.getfield 12, 3)) rfl (by decide +kernel) (gm 154 (by decide +kernel) rfl)))
         (sd_lf (sd_getf (q := (RX1, TX1, 6)) (by decide +kernel : decode prog_1_method_15_code 46 = .ok (.getfield 103, 3)) rfl (by decide +kernel) (gm 110 (by decide +kernel) rfl))))))
      (sd_br
       (sd_br
        (sd_lf (sd_iload (by decide +kernel : decode prog_1_method_15_code 49 = .ok (.iload 5, 2))))
        (sd_br
         (sd_lf (sd_iload (by decide +kernel : decode prog_1_method_15_code 51 = .ok (.iload 6, 2))))
         (sd_lf (sd_imul (by decide +kernel : decode prog_1_method_15_code 53 = .ok (.imul, 1))))))
       (sd_br
        (sd_br
         (sd_lf (sd_iadd (by decide +kernel : decode prog_1_method_15_code 54 = .ok (.iadd, 1))))
         (sd_lf (sd_ldc (by decide +kernel : decode prog_1_method_15_code 55 = .ok (.ldc 111, 2)) (gm 638 (by decide +kernel) rfl))))
        (sd_br
         (sd_lf (sd_icmp_le (by decide +kernel : decode prog_1_method_15_code 57 = .ok (.if_icmp .le 13, 3)) (by decide +kernel)))
         (sd_lf (sd_throwS (text := "the tick would be greater than 100000") (by decide +kernel) (by decide +kernel) (gm 563 (by decide +kernel) rfl) (gm 81 (by decide +kernel) rfl) (List.mem_of_getElem? (i := 567) (by decide +kernel)) thA_ISE thG_ISE (by decide +kernel : decode prog_1_method_15_code 60 = .ok (.new 55, 3)) (by decide +kernel : decode prog_1_method_15_code 63 = .ok (.dup, 1)) (by decide +kernel : decode prog_1_method_15_code 64 = .ok (.ldc 112, 2)) (by decide +kernel : decode prog_1_method_15_code 66 = .ok (.invokespecial 59, 3)) (by decide +kernel : decode prog_1_method_15_code 69 = .ok (.athrow, 1)) rfl (by decide +kernel) (by decide +kernel))))))))
    (sd_br
     (sd_br
      (sd_br
       (sd_br
        (sd_lf (sd_iconst (by decide +kernel : decode prog_1_method_15_code 70 = .ok (.iconst 0, 1)) (by decide +kernel)))
        (sd_br
         (sd_lf (sd_istore (by decide +kernel : decode prog_1_method_15_code 71 = .ok (.istore 7, 2))))
         (sd_lf (sd_iconst (by decide +kernel : decode prog_1_method_15_code 73 = .ok (.iconst 0, 1)) (by decide +kernel)))))
       (sd_br
        (sd_lf (sd_istore (by decide +kernel : decode prog_1_method_15_code 74 = .ok (.istore 8, 2))))
        (sd_br
         (sd_lf (sd_iload (by decide +kernel : decode prog_1_method_15_code 76 = .ok (.iload 8, 2))))
         (sd_lf (sd_iload (by decide +kernel : decode prog_1_method_15_code 78 = .ok (.iload 6, 2)))))))
      (sd_br
       (sd_br
        (sd_lf (sd_icmp_ge (by decide +kernel : decode prog_1_method_15_code 80 = .ok (.if_icmp .ge 43, 3)) (by decide +kernel)))
        (sd_br
         (sd_lf (sd_aload_n (k := 0) (by decide +kernel : decode prog_1_method_15_code 83 = .ok (.aload_n 0, 1))))
         (sd_lf (sd_getf (q := (RX6, TX6, 7)) (by decide +kernel : decode prog_1_method_15_code 84 = .ok (.getfield 12, 3)) rfl (by decide +kernel) (gm 154 (by decide +kernel) rfl)))))
       (sd_br
        (sd_br
         (sd_lf (sd_iload_n (k := 1) (by decide +kernel : decode prog_1_method_15_code 87 = .ok (.iload_n 1, 1))))
         (sd_lf (sd_iload_n (k := 2) (by decide +kernel : decode prog_1_method_15_code 88 = .ok (.iload_n 2, 1)))))
        (sd_br
         (sd_lf (sd_pureS (sd_callS (by decide +kernel : decode prog_1_method_15_code 89 = .ok (.invokestatic 143, 3)) ok_Hp_endpoint (gm 692 (by decide +kernel) rfl) (gm 693 (by decide +kernel) rfl) (by decide +kernel) rfl rfl) c_Hp_endpoint))
         (sd_lf (sd_iload_n (k := 3) (by decide +kernel : decode prog_1_method_15_code 92 = .ok (.iload_n 3, 1))))))))
     (sd_br
      (sd_br
       (sd_br
        (sd_lf (sd_iload (by decide +kernel : decode prog_1_method_15_code 93 = .ok (.iload 4, 2))))
        (sd_br
         (sd_lf (sd_pureS (sd_callS (by decide +kernel : decode prog_1_method_15_code 95 = .ok (.invokestatic 143, 3)) ok_Hp_endpoint (gm 692 (by decide +kernel) rfl) (gm 693 (by decide +kernel) rfl) (by decide +kernel) rfl rfl) c_Hp_endpoint))
         (sd_lf (sd_callV (q := (RX1, TX1, 6)) (by decide +kernel : decode prog_1_method_15_code 98 = .ok (.invokevirtual 147, 3)) ok_Nw_carry (gm 695 (by decide +kernel) rfl) (gm 696 (by decide +kernel) rfl) (gm 697 (by decide +kernel) rfl) rfl rfl (by decide +kernel) rfl rfl))))
       (sd_br
        (sd_br
         (sd_lf (sd_if_lt (by decide +kernel : decode prog_1_method_15_code 101 = .ok (.ifCond .lt 6, 3)) (by decide +kernel)))
         (sd_lf (sd_iinc (by decide +kernel : decode prog_1_method_15_code 104 = .ok (.iinc 7 1, 3)) (by decide +kernel))))
        (sd_br
         (sd_lf (sd_aload_n (k := 0) (by decide +kernel : decode prog_1_method_15_code 107 = .ok (.aload_n 0, 1))))
         (sd_lf (sd_getf (q := (RX6, TX6, 7)) (by decide +kernel : decode prog_1_method_15_code 108 = .ok (.getfield 12, 3)) rfl (by decide +kernel) (gm 154 (by decide +kernel) rfl))))))
      (sd_br
       (sd_br
        (sd_lf (sd_iload (by decide +kernel : decode prog_1_method_15_code 111 = .ok (.iload 5, 2))))
        (sd_br
         (sd_lf (sd_callV (q := (RX1, TX1, 6)) (by decide +kernel : decode prog_1_method_15_code 113 = .ok (.invokevirtual 114, 3)) ok_Nw_advance (gm 640 (by decide +kernel) rfl) (gm 641 (by decide +kernel) rfl) (gm 642 (by decide +kernel) rfl) rfl rfl (by decide +kernel) rfl rfl))
         (sd_lf (sd_pop (by decide +kernel : decode prog_1_method_15_code 116 = .ok (.pop, 1))))))
       (sd_br
        (sd_br
         (sd_lf (sd_iinc (by decide +kernel : decode prog_1_method_15_code 117 = .ok (.iinc 8 1, 3)) (by decide +kernel)))
         (sd_lf (sd_goto (by decide +kernel : decode prog_1_method_15_code 120 = .ok (.goto (-44), 3)) (by decide +kernel))))
        (sd_br
         (sd_lf (sd_iload (by decide +kernel : decode prog_1_method_15_code 123 = .ok (.iload 7, 2))))
         (sd_lf (sd_iret (by decide +kernel : decode prog_1_method_15_code 125 = .ok (.ireturn, 1)) rfl))))))))
def k_Hp_ifSent (l : Launch) (G : Gc) (pc : Nat) : Tr :=
  if pc < 17 then
   if pc < 6 then
    if pc < 2 then
     if pc < 1 then
      if pc = 0 then tz_aload 1 0 else dead
     else
      if pc = 1 then tz_iload 2 1 else dead
    else
     if pc < 3 then
      if pc = 2 then tz_iload 3 2 else dead
     else
      if pc < 4 then
       if pc = 3 then tz_iload 4 3 else dead
      else
       if pc = 4 then tz_iload 6 4 else dead
   else
    if pc < 10 then
     if pc < 9 then
      if pc = 6 then tz_callV l G 9 M_Hp_checkPacket 4 6 else dead
     else
      if pc = 9 then tz_aload 10 0 else dead
    else
     if pc < 13 then
      if pc = 10 then tz_getf 13 6 2 1 else dead
     else
      if pc < 14 then
       if pc = 13 then tz_aload 14 0 else dead
      else
       if pc = 14 then tz_getf 17 6 0 1 else dead
  else
   if pc < 26 then
    if pc < 21 then
     if pc < 20 then
      if pc = 17 then tz_callV l G 20 M_Nw_copyFrom 1 1 else dead
     else
      if pc = 20 then tz_aload 21 0 else dead
    else
     if pc < 24 then
      if pc = 21 then tz_getf 24 6 2 1 else dead
     else
      if pc < 25 then
       if pc = 24 then tz_iload 25 1 else dead
      else
       if pc = 25 then tz_iload 26 2 else dead
   else
    if pc < 32 then
     if pc < 29 then
      if pc = 26 then tz_pureS 29 2 P_Hp_endpoint f_Hp_endpoint else dead
     else
      if pc < 30 then
       if pc = 29 then tz_iload 30 3 else dead
      else
       if pc = 30 then tz_iload 32 4 else dead
    else
     if pc < 35 then
      if pc = 32 then tz_pureS 35 2 P_Hp_endpoint f_Hp_endpoint else dead
     else
      if pc < 38 then
       if pc = 35 then tz_callV l G 38 M_Nw_carry 2 1 else dead
      else
       if pc = 38 then tz_iret else dead
set_option maxRecDepth 100000 in
theorem T_Hp_ifSent (l : Launch) (G : Gc) : TabOK l G M_Hp_ifSent (k_Hp_ifSent l G) := by
  intro pc
  unfold k_Hp_ifSent
  exact
   (sd_br
    (sd_br
     (sd_br
      (sd_br
       (sd_lf (sd_aload_n (k := 0) (by decide +kernel : decode prog_1_method_21_code 0 = .ok (.aload_n 0, 1))))
       (sd_lf (sd_iload_n (k := 1) (by decide +kernel : decode prog_1_method_21_code 1 = .ok (.iload_n 1, 1)))))
      (sd_br
       (sd_lf (sd_iload_n (k := 2) (by decide +kernel : decode prog_1_method_21_code 2 = .ok (.iload_n 2, 1))))
       (sd_br
        (sd_lf (sd_iload_n (k := 3) (by decide +kernel : decode prog_1_method_21_code 3 = .ok (.iload_n 3, 1))))
        (sd_lf (sd_iload (by decide +kernel : decode prog_1_method_21_code 4 = .ok (.iload 4, 2)))))))
     (sd_br
      (sd_br
       (sd_lf (sd_callV (q := (RX6, TX6, 7)) (by decide +kernel : decode prog_1_method_21_code 6 = .ok (.invokevirtual 139, 3)) ok_Hp_checkPacket (gm 681 (by decide +kernel) rfl) (gm 683 (by decide +kernel) rfl) (gm 16 (by decide +kernel) rfl) rfl rfl (by decide +kernel) rfl rfl))
       (sd_lf (sd_aload_n (k := 0) (by decide +kernel : decode prog_1_method_21_code 9 = .ok (.aload_n 0, 1)))))
      (sd_br
       (sd_lf (sd_getf (q := (RX6, TX6, 7)) (by decide +kernel : decode prog_1_method_21_code 10 = .ok (.getfield 19, 3)) rfl (by decide +kernel) (gm 156 (by decide +kernel) rfl)))
       (sd_br
        (sd_lf (sd_aload_n (k := 0) (by decide +kernel : decode prog_1_method_21_code 13 = .ok (.aload_n 0, 1))))
        (sd_lf (sd_getf (q := (RX6, TX6, 7)) (by decide +kernel : decode prog_1_method_21_code 14 = .ok (.getfield 12, 3)) rfl (by decide +kernel) (gm 154 (by decide +kernel) rfl)))))))
    (sd_br
     (sd_br
      (sd_br
       (sd_lf (sd_callV (q := (RX1, TX1, 6)) (by decide +kernel : decode prog_1_method_21_code 17 = .ok (.invokevirtual 117, 3)) ok_Nw_copyFrom (gm 188 (by decide +kernel) rfl) (gm 189 (by decide +kernel) rfl) (gm 190 (by decide +kernel) rfl) rfl rfl (by decide +kernel) rfl rfl))
       (sd_lf (sd_aload_n (k := 0) (by decide +kernel : decode prog_1_method_21_code 20 = .ok (.aload_n 0, 1)))))
      (sd_br
       (sd_lf (sd_getf (q := (RX6, TX6, 7)) (by decide +kernel : decode prog_1_method_21_code 21 = .ok (.getfield 19, 3)) rfl (by decide +kernel) (gm 156 (by decide +kernel) rfl)))
       (sd_br
        (sd_lf (sd_iload_n (k := 1) (by decide +kernel : decode prog_1_method_21_code 24 = .ok (.iload_n 1, 1))))
        (sd_lf (sd_iload_n (k := 2) (by decide +kernel : decode prog_1_method_21_code 25 = .ok (.iload_n 2, 1)))))))
     (sd_br
      (sd_br
       (sd_lf (sd_pureS (sd_callS (by decide +kernel : decode prog_1_method_21_code 26 = .ok (.invokestatic 143, 3)) ok_Hp_endpoint (gm 692 (by decide +kernel) rfl) (gm 693 (by decide +kernel) rfl) (by decide +kernel) rfl rfl) c_Hp_endpoint))
       (sd_br
        (sd_lf (sd_iload_n (k := 3) (by decide +kernel : decode prog_1_method_21_code 29 = .ok (.iload_n 3, 1))))
        (sd_lf (sd_iload (by decide +kernel : decode prog_1_method_21_code 30 = .ok (.iload 4, 2))))))
      (sd_br
       (sd_lf (sd_pureS (sd_callS (by decide +kernel : decode prog_1_method_21_code 32 = .ok (.invokestatic 143, 3)) ok_Hp_endpoint (gm 692 (by decide +kernel) rfl) (gm 693 (by decide +kernel) rfl) (by decide +kernel) rfl rfl) c_Hp_endpoint))
       (sd_br
        (sd_lf (sd_callV (q := (RX1, TX1, 6)) (by decide +kernel : decode prog_1_method_21_code 35 = .ok (.invokevirtual 147, 3)) ok_Nw_carry (gm 695 (by decide +kernel) rfl) (gm 696 (by decide +kernel) rfl) (gm 697 (by decide +kernel) rfl) rfl rfl (by decide +kernel) rfl rfl))
        (sd_lf (sd_iret (by decide +kernel : decode prog_1_method_21_code 38 = .ok (.ireturn, 1)) rfl)))))))
def k_Hp_setNumber (l : Launch) (G : Gc) (pc : Nat) : Tr :=
  if pc < 45 then
   if pc < 15 then
    if pc < 5 then
     if pc < 1 then
      if pc = 0 then tz_aload 1 0 else dead
     else
      if pc < 4 then
       if pc = 1 then tz_getf 4 6 0 1 else dead
      else
       if pc = 4 then tz_iload 5 1 else dead
    else
     if pc < 10 then
      if pc < 8 then
       if pc = 5 then tz_pureV 8 1 1 P_Nw_translatorAt f_Nw_translatorAt else dead
      else
       if pc = 8 then tz_astore 10 4 else dead
     else
      if pc < 12 then
       if pc = 10 then tz_aload 12 4 else dead
      else
       if pc = 12 then tz_null 15 25 else dead
   else
    if pc < 27 then
     if pc < 25 then
      if pc = 15 then tz_throw "java/lang/IndexOutOfBoundsException" else dead
     else
      if pc < 26 then
       if pc = 25 then tz_iload 26 2 else dead
      else
       if pc = 26 then tz_iload 27 3 else dead
    else
     if pc < 33 then
      if pc < 30 then
       if pc = 27 then tz_pureS 30 2 P_Hp_isSetting f_Hp_isSetting else dead
      else
       if pc = 30 then tz_if 33 43 (fun a => ¬ a = 0) else dead
     else
      if pc < 43 then
       if pc = 33 then tz_throw "java/lang/IllegalArgumentException" else dead
      else
       if pc = 43 then tz_aload 45 4 else dead
  else
   if pc < 58 then
    if pc < 51 then
     if pc < 46 then
      if pc = 45 then tz_iload 46 2 else dead
     else
      if pc < 49 then
       if pc = 46 then tz_pureV 49 1 5 P_Tl_setting f_Tl_setting else dead
      else
       if pc = 49 then tz_istore 51 5 else dead
    else
     if pc < 54 then
      if pc < 53 then
       if pc = 51 then tz_aload 53 4 else dead
      else
       if pc = 53 then tz_iload 54 2 else dead
     else
      if pc < 55 then
       if pc = 54 then tz_iload 55 3 else dead
      else
       if pc = 55 then tz_callV l G 58 M_Tl_change 2 5 else dead
   else
    if pc < 67 then
     if pc < 61 then
      if pc < 60 then
       if pc = 58 then tz_aload 60 4 else dead
      else
       if pc = 60 then tz_aload 61 0 else dead
     else
      if pc < 64 then
       if pc = 61 then tz_getf 64 6 0 1 else dead
      else
       if pc = 64 then tz_getf 67 1 3 0 else dead
    else
     if pc < 71 then
      if pc < 70 then
       if pc = 67 then tz_callV l G 70 M_Tl_dropDead 1 5 else dead
      else
       if pc = 70 then tz_pop 71 else dead
     else
      if pc < 73 then
       if pc = 71 then tz_iload 73 5 else dead
      else
       if pc = 73 then tz_iret else dead
set_option maxRecDepth 100000 in
theorem T_Hp_setNumber (l : Launch) (G : Gc) : TabOK l G M_Hp_setNumber (k_Hp_setNumber l G) := by
  intro pc
  unfold k_Hp_setNumber
  exact
   (sd_br
    (sd_br
     (sd_br
      (sd_br
       (sd_lf (sd_aload_n (k := 0) (by decide +kernel : decode prog_1_method_5_code 0 = .ok (.aload_n 0, 1))))
       (sd_br
        (sd_lf (sd_getf (q := (RX6, TX6, 7)) (by decide +kernel : decode prog_1_method_5_code 1 = .ok (.getfield 12, 3)) rfl (by decide +kernel) (gm 154 (by decide +kernel) rfl)))
        (sd_lf (sd_iload_n (k := 1) (by decide +kernel : decode prog_1_method_5_code 4 = .ok (.iload_n 1, 1))))))
      (sd_br
       (sd_br
        (sd_lf (sd_pureV (sd_callV (q := (RX1, TX1, 6)) (by decide +kernel : decode prog_1_method_5_code 5 = .ok (.invokevirtual 79, 3)) ok_Nw_translatorAt (gm 454 (by decide +kernel) rfl) (gm 429 (by decide +kernel) rfl) (gm 430 (by decide +kernel) rfl) rfl rfl (by decide +kernel) rfl rfl) c_Nw_translatorAt))
        (sd_lf (sd_astore (by decide +kernel : decode prog_1_method_5_code 8 = .ok (.astore 4, 2)))))
       (sd_br
        (sd_lf (sd_aload (by decide +kernel : decode prog_1_method_5_code 10 = .ok (.aload 4, 2))))
        (sd_lf (sd_ifnonnull (by decide +kernel : decode prog_1_method_5_code 12 = .ok (.ifnonnull 13, 3)) (by decide +kernel))))))
     (sd_br
      (sd_br
       (sd_lf (sd_throwS (text := "no such translator") (by decide +kernel) (by decide +kernel) (gm 494 (by decide +kernel) rfl) (gm 80 (by decide +kernel) rfl) (List.mem_of_getElem? (i := 543) (by decide +kernel)) thA_IOE thG_IOE (by decide +kernel : decode prog_1_method_5_code 15 = .ok (.new 83, 3)) (by decide +kernel : decode prog_1_method_5_code 18 = .ok (.dup, 1)) (by decide +kernel : decode prog_1_method_5_code 19 = .ok (.ldc 85, 2)) (by decide +kernel : decode prog_1_method_5_code 21 = .ok (.invokespecial 87, 3)) (by decide +kernel : decode prog_1_method_5_code 24 = .ok (.athrow, 1)) rfl (by decide +kernel) (by decide +kernel)))
       (sd_br
        (sd_lf (sd_iload_n (k := 2) (by decide +kernel : decode prog_1_method_5_code 25 = .ok (.iload_n 2, 1))))
        (sd_lf (sd_iload_n (k := 3) (by decide +kernel : decode prog_1_method_5_code 26 = .ok (.iload_n 3, 1))))))
      (sd_br
       (sd_br
        (sd_lf (sd_pureS (sd_callS (by decide +kernel : decode prog_1_method_5_code 27 = .ok (.invokestatic 88, 3)) ok_Hp_isSetting (gm 616 (by decide +kernel) rfl) (gm 617 (by decide +kernel) rfl) (by decide +kernel) rfl rfl) c_Hp_isSetting))
        (sd_lf (sd_if_ne (by decide +kernel : decode prog_1_method_5_code 30 = .ok (.ifCond .ne 13, 3)) (by decide +kernel))))
       (sd_br
        (sd_lf (sd_throwS (text := "no such number, or its value is out of range") (by decide +kernel) (by decide +kernel) (gm 591 (by decide +kernel) rfl) (gm 83 (by decide +kernel) rfl) (List.mem_of_getElem? (i := 547) (by decide +kernel)) thA_IAE thG_IAE (by decide +kernel : decode prog_1_method_5_code 33 = .ok (.new 70, 3)) (by decide +kernel : decode prog_1_method_5_code 36 = .ok (.dup, 1)) (by decide +kernel : decode prog_1_method_5_code 37 = .ok (.ldc 92, 2)) (by decide +kernel : decode prog_1_method_5_code 39 = .ok (.invokespecial 74, 3)) (by decide +kernel : decode prog_1_method_5_code 42 = .ok (.athrow, 1)) rfl (by decide +kernel) (by decide +kernel)))
        (sd_lf (sd_aload (by decide +kernel : decode prog_1_method_5_code 43 = .ok (.aload 4, 2))))))))
    (sd_br
     (sd_br
      (sd_br
       (sd_lf (sd_iload_n (k := 2) (by decide +kernel : decode prog_1_method_5_code 45 = .ok (.iload_n 2, 1))))
       (sd_br
        (sd_lf (sd_pureV (sd_callV (q := (RX5, TX5, 11)) (by decide +kernel : decode prog_1_method_5_code 46 = .ok (.invokevirtual 94, 3)) ok_Tl_setting (gm 620 (by decide +kernel) rfl) (gm 464 (by decide +kernel) rfl) (gm 465 (by decide +kernel) rfl) rfl rfl (by decide +kernel) rfl rfl) c_Tl_setting))
        (sd_lf (sd_istore (by decide +kernel : decode prog_1_method_5_code 49 = .ok (.istore 5, 2))))))
      (sd_br
       (sd_br
        (sd_lf (sd_aload (by decide +kernel : decode prog_1_method_5_code 51 = .ok (.aload 4, 2))))
        (sd_lf (sd_iload_n (k := 2) (by decide +kernel : decode prog_1_method_5_code 53 = .ok (.iload_n 2, 1)))))
       (sd_br
        (sd_lf (sd_iload_n (k := 3) (by decide +kernel : decode prog_1_method_5_code 54 = .ok (.iload_n 3, 1))))
        (sd_lf (sd_callV (q := (RX5, TX5, 11)) (by decide +kernel : decode prog_1_method_5_code 55 = .ok (.invokevirtual 99, 3)) ok_Tl_change (gm 621 (by decide +kernel) rfl) (gm 622 (by decide +kernel) rfl) (gm 623 (by decide +kernel) rfl) rfl rfl (by decide +kernel) rfl rfl)))))
     (sd_br
      (sd_br
       (sd_br
        (sd_lf (sd_aload (by decide +kernel : decode prog_1_method_5_code 58 = .ok (.aload 4, 2))))
        (sd_lf (sd_aload_n (k := 0) (by decide +kernel : decode prog_1_method_5_code 60 = .ok (.aload_n 0, 1)))))
       (sd_br
        (sd_lf (sd_getf (q := (RX6, TX6, 7)) (by decide +kernel : decode prog_1_method_5_code 61 = .ok (.getfield 12, 3)) rfl (by decide +kernel) (gm 154 (by decide +kernel) rfl)))
        (sd_lf (sd_getf (q := (RX1, TX1, 6)) (by decide +kernel : decode prog_1_method_5_code 64 = .ok (.getfield 103, 3)) rfl (by decide +kernel) (gm 110 (by decide +kernel) rfl)))))
      (sd_br
       (sd_br
        (sd_lf (sd_callV (q := (RX5, TX5, 11)) (by decide +kernel : decode prog_1_method_5_code 67 = .ok (.invokevirtual 106, 3)) ok_Tl_dropDead (gm 625 (by decide +kernel) rfl) (gm 626 (by decide +kernel) rfl) (gm 627 (by decide +kernel) rfl) rfl rfl (by decide +kernel) rfl rfl))
        (sd_lf (sd_pop (by decide +kernel : decode prog_1_method_5_code 70 = .ok (.pop, 1)))))
       (sd_br
        (sd_lf (sd_iload (by decide +kernel : decode prog_1_method_5_code 71 = .ok (.iload 5, 2))))
        (sd_lf (sd_iret (by decide +kernel : decode prog_1_method_5_code 73 = .ok (.ireturn, 1)) rfl)))))))
theorem enc_w (a : Nat) (p : Int32) : nI (a * 10000) + p = enc (nI a) p := by unfold enc; rw [pk_mul]
section
variable {l : Launch} {G : Gc}
theorem c_Hp_pass (A : Nat → Nat) (n : Int32) (z zs t : Nat → Int32) (bn : Nat) (h : AH) (Q : Po) (k : HpR h A z zs t bn) (iv : Inv z) (is : hI h (A 0) 6 = nI 1 → Inv zs)
    (q1 : ¬ (nI 1 ≤ n ∧ n ≤ nI 1000) → Q (.inr IAE) (nx h)) (q2 : (nI 1 ≤ n ∧ n ≤ nI 1000) → ¬ z 0 + n ≤ nI 100000 → Q (.inr ISE) (nx h))
    (q3 : (nI 1 ≤ n ∧ n ≤ nI 1000) → z 0 + n ≤ nI 100000 → ∀ h', HpR h' A (ddZ (upd z 0 (z 0 + n))).1 zs t bn → Inv (ddZ (upd z 0 (z 0 + n))).1 → hI h' (A 0) 6 = hI h (A 0) 6 → FrX 0 h h' → Q (.inl (some (.int (nI (ddZ (upd z 0 (z 0 + n))).2)))) h') : Call l G M_Hp_pass [.ref (A 0), .int n] h Q := by
  have x6 := k.1.1.1
  have x0 := k.1.2.1.1
  have w1 := k.2.1.1.1.1
  have w3 := k.2.1.2.1.2.1
  have hw := k.1.2.2.2.2.2.2.2
  refine call_of rfl rfl (Nat.le_of_ble_eq_true rfl) ?_
  (obtain ⟨W9, hW9, hgo9⟩ := wp_ex (T_Hp_pass l G) [] _; refine hgo9 200 _ _ _ _ ?_; simp -implicitDefEqProofs (disch := omega) only [hW9, inl, gate, Xq, tz_const, tz_iload, tz_lload, tz_dload, tz_aload, tz_istore, tz_astore, tz_lstore, tz_dstore, tz_iinc, tz_i1, tz_i2, tz_i2z, tz_l2, tz_l2z, tz_i2l, tz_l2i, tz_lcmp, tz_i2d, tz_d2, tz_dcmp, tz_dup, tz_dup2, tz_pop, tz_if, tz_icmp, tz_null, tz_goto, tz_sw, tz_getf, tz_puti, tz_putz, tz_putr, tz_putl, tz_iaload, tz_baload, tz_laload, tz_aaload, tz_iastore, tz_bastore, tz_lastore, tz_aastore, tz_alen, tz_new, tz_newa, tz_oinit, tz_iret, tz_zret, tz_lret, tz_dret, tz_aret, tz_vret, tz_throw, tz_callS, tz_callV, tz_callI, tz_callR, tz_pureS, tz_pureV, tz_callVH, lg, lset, lkill, lst1, lst2, entL, isRf, is1, vl, va_rf_none, va_rf_some, isRf_rf, is1_rf, i0, i1, bI_eq0, bI_eq1, nm_em, nI_eqP, nI_leP, nI_ltP, nN_e1, nN_e2, nN_l1, nN_l2, nN_l3, nN_l4, nI_add, pk_mul, vp_inN, nI_cl, n01, n10, P_i, P_ii, P_iii, f_Mo_at, f_Mo_map, f_Mo_contact, f_Mo_within, f_Mo_isPort, f_Hp_endpoint, f_Hp_nodeOf, f_Hp_portOf, f_Ma_max, f_Ma_min, f_Hp_isSetting, popN, rok, a1, noX, swc, mL, if_true, if_false, ↓reduceIte, cond_true, cond_false, true_and, and_true, List.length_cons, List.length_nil, List.nil_append, List.cons_append, List.append_nil, Option.toList, Nat.reduceEqDiff, Bool.false_eq_true, reduceCtorEq, Nat.reduceAdd, Nat.reduceLT, Nat.reduceLeDiff, Nat.reduceSub, List.replicate, Nat.zero_add, Nat.lt_add_one, Nat.le_refl, Nat.zero_le, Nat.succ_ne_zero, not_false_eq_true, not_true_eq_false, false_implies, true_implies, forall_const, imp_self, true_or, or_true, eq_self, sI_zw, zw_zw, hI_zw, tg_zw, ln_zw, hR_zw, hL_zw, hN_zw, hM_zw, upd_s, upd_u, upd_ne, Classical.not_not, k_Hp_pass, x6, f_Hp_isWithin]; try clear hgo9 hW9)
  refine ⟨fun c => ?_, fun c => ?_⟩
  · (obtain ⟨W9, hW9, hgo9⟩ := wp_ex (T_Hp_pass l G) [] _; refine hgo9 200 _ _ _ _ ?_; simp -implicitDefEqProofs (disch := omega) only [hW9, inl, gate, Xq, tz_const, tz_iload, tz_lload, tz_dload, tz_aload, tz_istore, tz_astore, tz_lstore, tz_dstore, tz_iinc, tz_i1, tz_i2, tz_i2z, tz_l2, tz_l2z, tz_i2l, tz_l2i, tz_lcmp, tz_i2d, tz_d2, tz_dcmp, tz_dup, tz_dup2, tz_pop, tz_if, tz_icmp, tz_null, tz_goto, tz_sw, tz_getf, tz_puti, tz_putz, tz_putr, tz_putl, tz_iaload, tz_baload, tz_laload, tz_aaload, tz_iastore, tz_bastore, tz_lastore, tz_aastore, tz_alen, tz_new, tz_newa, tz_oinit, tz_iret, tz_zret, tz_lret, tz_dret, tz_aret, tz_vret, tz_throw, tz_callS, tz_callV, tz_callI, tz_callR, tz_pureS, tz_pureV, tz_callVH, lg, lset, lkill, lst1, lst2, entL, isRf, is1, vl, va_rf_none, va_rf_some, isRf_rf, is1_rf, i0, i1, bI_eq0, bI_eq1, nm_em, nI_eqP, nI_leP, nI_ltP, nN_e1, nN_e2, nN_l1, nN_l2, nN_l3, nN_l4, nI_add, pk_mul, vp_inN, nI_cl, n01, n10, P_i, P_ii, P_iii, f_Mo_at, f_Mo_map, f_Mo_contact, f_Mo_within, f_Mo_isPort, f_Hp_endpoint, f_Hp_nodeOf, f_Hp_portOf, f_Ma_max, f_Ma_min, f_Hp_isSetting, popN, rok, a1, noX, swc, mL, if_true, if_false, ↓reduceIte, cond_true, cond_false, true_and, and_true, List.length_cons, List.length_nil, List.nil_append, List.cons_append, List.append_nil, Option.toList, Nat.reduceEqDiff, Bool.false_eq_true, reduceCtorEq, Nat.reduceAdd, Nat.reduceLT, Nat.reduceLeDiff, Nat.reduceSub, List.replicate, Nat.zero_add, Nat.lt_add_one, Nat.le_refl, Nat.zero_le, Nat.succ_ne_zero, not_false_eq_true, not_true_eq_false, false_implies, true_implies, forall_const, imp_self, true_or, or_true, eq_self, sI_zw, zw_zw, hI_zw, tg_zw, ln_zw, hR_zw, hL_zw, hN_zw, hM_zw, upd_s, upd_u, upd_ne, Classical.not_not, k_Hp_pass, x6, x0, w1, w3]; try clear hgo9 hW9)
    refine ⟨fun d => ?_, fun d => ?_⟩
    · obtain ⟨T, -, T2, T3⟩ := iv.1.2.1
      obtain ⟨nn, nn1, rfl⟩ : ∃ j, j < 1001 ∧ n = nI j := by
        refine wi_nat (by omega) ⟨?_, c.2⟩
        have := c.1
        simp only [Int32.le_iff_toInt_le] at this ⊢
        have e1 : (nI 1).toInt = 1 := rfl
        have e0 : (nI 0).toInt = 0 := rfl
        omega
      have hT : T + nn ≤ 100000 := by
        rw [T3, nI_add, nI_leP (by omega) (by omega)] at d
        exact d
      have I := ddZ_inv (iv.1.tick (n := nn) T T3 hT).1
      have ee : z 0 + nI nn = nI (T + nn) := by rw [T3, nI_add]
      (obtain ⟨W9, hW9, hgo9⟩ := wp_ex (T_Hp_pass l G) [] _; refine hgo9 200 _ _ _ _ ?_; simp -implicitDefEqProofs (disch := omega) only [hW9, inl, gate, Xq, tz_const, tz_iload, tz_lload, tz_dload, tz_aload, tz_istore, tz_astore, tz_lstore, tz_dstore, tz_iinc, tz_i1, tz_i2, tz_i2z, tz_l2, tz_l2z, tz_i2l, tz_l2i, tz_lcmp, tz_i2d, tz_d2, tz_dcmp, tz_dup, tz_dup2, tz_pop, tz_if, tz_icmp, tz_null, tz_goto, tz_sw, tz_getf, tz_puti, tz_putz, tz_putr, tz_putl, tz_iaload, tz_baload, tz_laload, tz_aaload, tz_iastore, tz_bastore, tz_lastore, tz_aastore, tz_alen, tz_new, tz_newa, tz_oinit, tz_iret, tz_zret, tz_lret, tz_dret, tz_aret, tz_vret, tz_throw, tz_callS, tz_callV, tz_callI, tz_callR, tz_pureS, tz_pureV, tz_callVH, lg, lset, lkill, lst1, lst2, entL, isRf, is1, vl, va_rf_none, va_rf_some, isRf_rf, is1_rf, i0, i1, bI_eq0, bI_eq1, nm_em, nI_eqP, nI_leP, nI_ltP, nN_e1, nN_e2, nN_l1, nN_l2, nN_l3, nN_l4, nI_add, pk_mul, vp_inN, nI_cl, n01, n10, P_i, P_ii, P_iii, f_Mo_at, f_Mo_map, f_Mo_contact, f_Mo_within, f_Mo_isPort, f_Hp_endpoint, f_Hp_nodeOf, f_Hp_portOf, f_Ma_max, f_Ma_min, f_Hp_isSetting, popN, rok, a1, noX, swc, mL, if_true, if_false, ↓reduceIte, cond_true, cond_false, true_and, and_true, List.length_cons, List.length_nil, List.nil_append, List.cons_append, List.append_nil, Option.toList, Nat.reduceEqDiff, Bool.false_eq_true, reduceCtorEq, Nat.reduceAdd, Nat.reduceLT, Nat.reduceLeDiff, Nat.reduceSub, List.replicate, Nat.zero_add, Nat.lt_add_one, Nat.le_refl, Nat.zero_le, Nat.succ_ne_zero, not_false_eq_true, not_true_eq_false, false_implies, true_implies, forall_const, imp_self, true_or, or_true, eq_self, sI_zw, zw_zw, hI_zw, tg_zw, ln_zw, hR_zw, hL_zw, hN_zw, hM_zw, upd_s, upd_u, upd_ne, Classical.not_not, k_Hp_pass, x6, x0, w1]; try clear hgo9 hW9)
      refine c_Nw_advance (A 1) nn T z h _ hw iv.1 k.2.1 T3 hT (fun h1 k1 f1 => ?_)
      simp only [aft]
      have a' := (k.1.own f1 (k.1.2.2.2.2.2.2.1 1 (by omega) (by omega) (by omega)))
      have x61 := a'.1.1.1
      (obtain ⟨W9, hW9, hgo9⟩ := wp_ex (T_Hp_pass l G) [] _; refine hgo9 200 _ _ _ _ ?_; simp -implicitDefEqProofs (disch := omega) only [hW9, inl, gate, Xq, tz_const, tz_iload, tz_lload, tz_dload, tz_aload, tz_istore, tz_astore, tz_lstore, tz_dstore, tz_iinc, tz_i1, tz_i2, tz_i2z, tz_l2, tz_l2z, tz_i2l, tz_l2i, tz_lcmp, tz_i2d, tz_d2, tz_dcmp, tz_dup, tz_dup2, tz_pop, tz_if, tz_icmp, tz_null, tz_goto, tz_sw, tz_getf, tz_puti, tz_putz, tz_putr, tz_putl, tz_iaload, tz_baload, tz_laload, tz_aaload, tz_iastore, tz_bastore, tz_lastore, tz_aastore, tz_alen, tz_new, tz_newa, tz_oinit, tz_iret, tz_zret, tz_lret, tz_dret, tz_aret, tz_vret, tz_throw, tz_callS, tz_callV, tz_callI, tz_callR, tz_pureS, tz_pureV, tz_callVH, lg, lset, lkill, lst1, lst2, entL, isRf, is1, vl, va_rf_none, va_rf_some, isRf_rf, is1_rf, i0, i1, bI_eq0, bI_eq1, nm_em, nI_eqP, nI_leP, nI_ltP, nN_e1, nN_e2, nN_l1, nN_l2, nN_l3, nN_l4, nI_add, pk_mul, vp_inN, nI_cl, n01, n10, P_i, P_ii, P_iii, f_Mo_at, f_Mo_map, f_Mo_contact, f_Mo_within, f_Mo_isPort, f_Hp_endpoint, f_Hp_nodeOf, f_Hp_portOf, f_Ma_max, f_Ma_min, f_Hp_isSetting, popN, rok, a1, noX, swc, mL, if_true, if_false, ↓reduceIte, cond_true, cond_false, true_and, and_true, List.length_cons, List.length_nil, List.nil_append, List.cons_append, List.append_nil, Option.toList, Nat.reduceEqDiff, Bool.false_eq_true, reduceCtorEq, Nat.reduceAdd, Nat.reduceLT, Nat.reduceLeDiff, Nat.reduceSub, List.replicate, Nat.zero_add, Nat.lt_add_one, Nat.le_refl, Nat.zero_le, Nat.succ_ne_zero, not_false_eq_true, not_true_eq_false, false_implies, true_implies, forall_const, imp_self, true_or, or_true, eq_self, sI_zw, zw_zw, hI_zw, tg_zw, ln_zw, hR_zw, hL_zw, hN_zw, hM_zw, upd_s, upd_u, upd_ne, Classical.not_not, k_Hp_pass, x61]; try clear hgo9 hW9)
      refine q3 c d h1 (k.net is f1 k1) ?_ (by rw [a'.2.1]) f1.X
      rw [ee]
      exact I.1
    · (obtain ⟨W9, hW9, hgo9⟩ := wp_ex (T_Hp_pass l G) [] _; refine hgo9 200 _ _ _ _ ?_; simp -implicitDefEqProofs (disch := omega) only [hW9, inl, gate, Xq, tz_const, tz_iload, tz_lload, tz_dload, tz_aload, tz_istore, tz_astore, tz_lstore, tz_dstore, tz_iinc, tz_i1, tz_i2, tz_i2z, tz_l2, tz_l2z, tz_i2l, tz_l2i, tz_lcmp, tz_i2d, tz_d2, tz_dcmp, tz_dup, tz_dup2, tz_pop, tz_if, tz_icmp, tz_null, tz_goto, tz_sw, tz_getf, tz_puti, tz_putz, tz_putr, tz_putl, tz_iaload, tz_baload, tz_laload, tz_aaload, tz_iastore, tz_bastore, tz_lastore, tz_aastore, tz_alen, tz_new, tz_newa, tz_oinit, tz_iret, tz_zret, tz_lret, tz_dret, tz_aret, tz_vret, tz_throw, tz_callS, tz_callV, tz_callI, tz_callR, tz_pureS, tz_pureV, tz_callVH, lg, lset, lkill, lst1, lst2, entL, isRf, is1, vl, va_rf_none, va_rf_some, isRf_rf, is1_rf, i0, i1, bI_eq0, bI_eq1, nm_em, nI_eqP, nI_leP, nI_ltP, nN_e1, nN_e2, nN_l1, nN_l2, nN_l3, nN_l4, nI_add, pk_mul, vp_inN, nI_cl, n01, n10, P_i, P_ii, P_iii, f_Mo_at, f_Mo_map, f_Mo_contact, f_Mo_within, f_Mo_isPort, f_Hp_endpoint, f_Hp_nodeOf, f_Hp_portOf, f_Ma_max, f_Ma_min, f_Hp_isSetting, popN, rok, a1, noX, swc, mL, if_true, if_false, ↓reduceIte, cond_true, cond_false, true_and, and_true, List.length_cons, List.length_nil, List.nil_append, List.cons_append, List.append_nil, Option.toList, Nat.reduceEqDiff, Bool.false_eq_true, reduceCtorEq, Nat.reduceAdd, Nat.reduceLT, Nat.reduceLeDiff, Nat.reduceSub, List.replicate, Nat.zero_add, Nat.lt_add_one, Nat.le_refl, Nat.zero_le, Nat.succ_ne_zero, not_false_eq_true, not_true_eq_false, false_implies, true_implies, forall_const, imp_self, true_or, or_true, eq_self, sI_zw, zw_zw, hI_zw, tg_zw, ln_zw, hR_zw, hL_zw, hN_zw, hM_zw, upd_s, upd_u, upd_ne, Classical.not_not, k_Hp_pass, x6]; try clear hgo9 hW9)
      exact q2 c d
  · (obtain ⟨W9, hW9, hgo9⟩ := wp_ex (T_Hp_pass l G) [] _; refine hgo9 200 _ _ _ _ ?_; simp -implicitDefEqProofs (disch := omega) only [hW9, inl, gate, Xq, tz_const, tz_iload, tz_lload, tz_dload, tz_aload, tz_istore, tz_astore, tz_lstore, tz_dstore, tz_iinc, tz_i1, tz_i2, tz_i2z, tz_l2, tz_l2z, tz_i2l, tz_l2i, tz_lcmp, tz_i2d, tz_d2, tz_dcmp, tz_dup, tz_dup2, tz_pop, tz_if, tz_icmp, tz_null, tz_goto, tz_sw, tz_getf, tz_puti, tz_putz, tz_putr, tz_putl, tz_iaload, tz_baload, tz_laload, tz_aaload, tz_iastore, tz_bastore, tz_lastore, tz_aastore, tz_alen, tz_new, tz_newa, tz_oinit, tz_iret, tz_zret, tz_lret, tz_dret, tz_aret, tz_vret, tz_throw, tz_callS, tz_callV, tz_callI, tz_callR, tz_pureS, tz_pureV, tz_callVH, lg, lset, lkill, lst1, lst2, entL, isRf, is1, vl, va_rf_none, va_rf_some, isRf_rf, is1_rf, i0, i1, bI_eq0, bI_eq1, nm_em, nI_eqP, nI_leP, nI_ltP, nN_e1, nN_e2, nN_l1, nN_l2, nN_l3, nN_l4, nI_add, pk_mul, vp_inN, nI_cl, n01, n10, P_i, P_ii, P_iii, f_Mo_at, f_Mo_map, f_Mo_contact, f_Mo_within, f_Mo_isPort, f_Hp_endpoint, f_Hp_nodeOf, f_Hp_portOf, f_Ma_max, f_Ma_min, f_Hp_isSetting, popN, rok, a1, noX, swc, mL, if_true, if_false, ↓reduceIte, cond_true, cond_false, true_and, and_true, List.length_cons, List.length_nil, List.nil_append, List.cons_append, List.append_nil, Option.toList, Nat.reduceEqDiff, Bool.false_eq_true, reduceCtorEq, Nat.reduceAdd, Nat.reduceLT, Nat.reduceLeDiff, Nat.reduceSub, List.replicate, Nat.zero_add, Nat.lt_add_one, Nat.le_refl, Nat.zero_le, Nat.succ_ne_zero, not_false_eq_true, not_true_eq_false, false_implies, true_implies, forall_const, imp_self, true_or, or_true, eq_self, sI_zw, zw_zw, hI_zw, tg_zw, ln_zw, hR_zw, hL_zw, hN_zw, hM_zw, upd_s, upd_u, upd_ne, Classical.not_not, k_Hp_pass, x6]; try clear hgo9 hW9)
    exact q1 c
theorem c_Hp_save (A : Nat → Nat) (z zs t : Nat → Int32) (n : Nat) (h : AH) (Q : Po) (k : HpR h A z zs t n) (iv : Inv z) (hQ : ∀ h', HpR h' A z z t n → hI h' (A 0) 6 = nI 1 → FrX 190 h h' → Q (.inl (some (.int (z 0)))) h') : Call l G M_Hp_save [.ref (A 0)] h Q := by
  have x6 := k.1.1.1
  have x0 := k.1.2.1.1
  have x1 := k.1.2.1.2.1
  have g := k.1.2.2.2.2.2.1
  have w1 := k.2.1.1.1.1
  have s1 := k.2.2.1.1.1
  have hw := k.1.2.2.2.2.2.2.2
  refine call_of rfl rfl (Nat.le_of_ble_eq_true rfl) ?_
  (obtain ⟨W9, hW9, hgo9⟩ := wp_ex (T_Hp_save l G) [] _; refine hgo9 200 _ _ _ _ ?_; simp -implicitDefEqProofs (disch := omega) only [hW9, inl, gate, Xq, tz_const, tz_iload, tz_lload, tz_dload, tz_aload, tz_istore, tz_astore, tz_lstore, tz_dstore, tz_iinc, tz_i1, tz_i2, tz_i2z, tz_l2, tz_l2z, tz_i2l, tz_l2i, tz_lcmp, tz_i2d, tz_d2, tz_dcmp, tz_dup, tz_dup2, tz_pop, tz_if, tz_icmp, tz_null, tz_goto, tz_sw, tz_getf, tz_puti, tz_putz, tz_putr, tz_putl, tz_iaload, tz_baload, tz_laload, tz_aaload, tz_iastore, tz_bastore, tz_lastore, tz_aastore, tz_alen, tz_new, tz_newa, tz_oinit, tz_iret, tz_zret, tz_lret, tz_dret, tz_aret, tz_vret, tz_throw, tz_callS, tz_callV, tz_callI, tz_callR, tz_pureS, tz_pureV, tz_callVH, lg, lset, lkill, lst1, lst2, entL, isRf, is1, vl, va_rf_none, va_rf_some, isRf_rf, is1_rf, i0, i1, bI_eq0, bI_eq1, nm_em, nI_eqP, nI_leP, nI_ltP, nN_e1, nN_e2, nN_l1, nN_l2, nN_l3, nN_l4, nI_add, pk_mul, vp_inN, nI_cl, n01, n10, P_i, P_ii, P_iii, f_Mo_at, f_Mo_map, f_Mo_contact, f_Mo_within, f_Mo_isPort, f_Hp_endpoint, f_Hp_nodeOf, f_Hp_portOf, f_Ma_max, f_Ma_min, f_Hp_isSetting, popN, rok, a1, noX, swc, mL, if_true, if_false, ↓reduceIte, cond_true, cond_false, true_and, and_true, List.length_cons, List.length_nil, List.nil_append, List.cons_append, List.append_nil, Option.toList, Nat.reduceEqDiff, Bool.false_eq_true, reduceCtorEq, Nat.reduceAdd, Nat.reduceLT, Nat.reduceLeDiff, Nat.reduceSub, List.replicate, Nat.zero_add, Nat.lt_add_one, Nat.le_refl, Nat.zero_le, Nat.succ_ne_zero, not_false_eq_true, not_true_eq_false, false_implies, true_implies, forall_const, imp_self, true_or, or_true, eq_self, sI_zw, zw_zw, hI_zw, tg_zw, ln_zw, hR_zw, hL_zw, hN_zw, hM_zw, upd_s, upd_u, upd_ne, Classical.not_not, k_Hp_save, x6, x0, x1, s1]; try clear hgo9 hW9)
  refine c_Nw_copyFrom (A 2) (A 1) z h _ hw (g 1 2 (by omega) (by omega) (by omega) (by omega) (by omega) (by omega) (by omega)) iv.1 k.2.2.1 k.2.1 (fun h1 k1 k1' f1 => ?_)
  simp only [aft]
  obtain ⟨a', e0, e7, -, -⟩ := k.1.own f1 (k.1.2.2.2.2.2.2.1 2 (by omega) (by omega) (by omega))
  have x61 := a'.1.1
  have x01 := a'.2.1.1
  have w11 := k1'.1.1.1
  have nx : A 1 ≠ A 0 := ne_tg (by rw [w11, x61]; decide)
  have w31 : hI (zw h1 (A 0) (upd (hI h1 (A 0)) 6 (nI 1))) (A 1) 3 = z 0 := by rw [hI_zw_ne _ nx]; exact k1'.2.1.2.1
  (obtain ⟨W9, hW9, hgo9⟩ := wp_ex (T_Hp_save l G) [] _; refine hgo9 200 _ _ _ _ ?_; simp -implicitDefEqProofs (disch := omega) only [hW9, inl, gate, Xq, tz_const, tz_iload, tz_lload, tz_dload, tz_aload, tz_istore, tz_astore, tz_lstore, tz_dstore, tz_iinc, tz_i1, tz_i2, tz_i2z, tz_l2, tz_l2z, tz_i2l, tz_l2i, tz_lcmp, tz_i2d, tz_d2, tz_dcmp, tz_dup, tz_dup2, tz_pop, tz_if, tz_icmp, tz_null, tz_goto, tz_sw, tz_getf, tz_puti, tz_putz, tz_putr, tz_putl, tz_iaload, tz_baload, tz_laload, tz_aaload, tz_iastore, tz_bastore, tz_lastore, tz_aastore, tz_alen, tz_new, tz_newa, tz_oinit, tz_iret, tz_zret, tz_lret, tz_dret, tz_aret, tz_vret, tz_throw, tz_callS, tz_callV, tz_callI, tz_callR, tz_pureS, tz_pureV, tz_callVH, lg, lset, lkill, lst1, lst2, entL, isRf, is1, vl, va_rf_none, va_rf_some, isRf_rf, is1_rf, i0, i1, bI_eq0, bI_eq1, nm_em, nI_eqP, nI_leP, nI_ltP, nN_e1, nN_e2, nN_l1, nN_l2, nN_l3, nN_l4, nI_add, pk_mul, vp_inN, nI_cl, n01, n10, P_i, P_ii, P_iii, f_Mo_at, f_Mo_map, f_Mo_contact, f_Mo_within, f_Mo_isPort, f_Hp_endpoint, f_Hp_nodeOf, f_Hp_portOf, f_Ma_max, f_Ma_min, f_Hp_isSetting, popN, rok, a1, noX, swc, mL, if_true, if_false, ↓reduceIte, cond_true, cond_false, true_and, and_true, List.length_cons, List.length_nil, List.nil_append, List.cons_append, List.append_nil, Option.toList, Nat.reduceEqDiff, Bool.false_eq_true, reduceCtorEq, Nat.reduceAdd, Nat.reduceLT, Nat.reduceLeDiff, Nat.reduceSub, List.replicate, Nat.zero_add, Nat.lt_add_one, Nat.le_refl, Nat.zero_le, Nat.succ_ne_zero, not_false_eq_true, not_true_eq_false, false_implies, true_implies, forall_const, imp_self, true_or, or_true, eq_self, sI_zw, zw_zw, hI_zw, tg_zw, ln_zw, hR_zw, hL_zw, hN_zw, hM_zw, upd_s, upd_u, upd_ne, Classical.not_not, k_Hp_save, x61, x01, w11, w31]; try clear hgo9 hW9)
  have hw1 := f1.2.2.2.2
  have fz : Fr 0 0 h1 (zw h1 (A 0) (upd (hI h1 (A 0)) 6 (nI 1))) := Fr.zw hw1 (rt_gh a'.1.2)
  have g0 := a'.2.2.2.2.2.2.1
  refine hQ _ ⟨a', k1'.frame hw1 iv.1 fz (g0 1 (by omega) (by omega) (by omega)), k1.1.congr rfl rfl, fun _ => k1.frame hw1 iv.1 fz (g0 2 (by omega) (by omega) (by omega)), Or.inr (by rw [hI_zw, upd_s]), (k.2.2.2.2.2.1.frame hw f1 (g 3 2 (by omega) (by omega) (by omega) (by omega) (by omega) (by omega) (by omega))).congr rfl rfl, (k.2.2.2.2.2.2.1.frame hw f1 (g 5 2 (by omega) (by omega) (by omega) (by omega) (by omega) (by omega) (by omega))).congr rfl rfl, ?_, k.2.2.2.2.2.2.2.2.1, fun q hq => ?_⟩ (by rw [hI_zw, upd_s]) (f1.X.tr fz.X)
  · rw [hI_zw, upd_ne (by omega), e0]; exact k.2.2.2.2.2.2.2.1
  · rw [hI_zw_ne _ (HpR.ne07 a').symm, e7]; exact k.2.2.2.2.2.2.2.2.2 q hq
theorem c_Hp_restore (A : Nat → Nat) (z zs t : Nat → Int32) (n : Nat) (h : AH) (Q : Po) (k : HpR h A z zs t n) (is : hI h (A 0) 6 = nI 1 → Inv zs) (q1 : hI h (A 0) 6 = nI 0 → Q (.inr ISE) (nx h)) (q2 : ¬ hI h (A 0) 6 = nI 0 → ∀ h', HpR h' A zs zs t n → hI h' (A 0) 6 = hI h (A 0) 6 → FrX 190 h h' → Q (.inl (some (.int (zs 0)))) h') : Call l G M_Hp_restore [.ref (A 0)] h Q := by
  have x6 := k.1.1.1
  have x0 := k.1.2.1.1
  have x1 := k.1.2.1.2.1
  have g := k.1.2.2.2.2.2.1
  have w1 := k.2.1.1.1.1
  have hw := k.1.2.2.2.2.2.2.2
  refine call_of rfl rfl (Nat.le_of_ble_eq_true rfl) ?_
  by_cases c : hI h (A 0) 6 = nI 0
  · ((obtain ⟨W9, hW9, hgo9⟩ := wp_ex (T_Hp_restore l G) [] _; refine hgo9 200 _ _ _ _ ?_; simp -implicitDefEqProofs (disch := omega) only [hW9, inl, gate, Xq, tz_const, tz_iload, tz_lload, tz_dload, tz_aload, tz_istore, tz_astore, tz_lstore, tz_dstore, tz_iinc, tz_i1, tz_i2, tz_i2z, tz_l2, tz_l2z, tz_i2l, tz_l2i, tz_lcmp, tz_i2d, tz_d2, tz_dcmp, tz_dup, tz_dup2, tz_pop, tz_if, tz_icmp, tz_null, tz_goto, tz_sw, tz_getf, tz_puti, tz_putz, tz_putr, tz_putl, tz_iaload, tz_baload, tz_laload, tz_aaload, tz_iastore, tz_bastore, tz_lastore, tz_aastore, tz_alen, tz_new, tz_newa, tz_oinit, tz_iret, tz_zret, tz_lret, tz_dret, tz_aret, tz_vret, tz_throw, tz_callS, tz_callV, tz_callI, tz_callR, tz_pureS, tz_pureV, tz_callVH, lg, lset, lkill, lst1, lst2, entL, isRf, is1, vl, va_rf_none, va_rf_some, isRf_rf, is1_rf, i0, i1, bI_eq0, bI_eq1, nm_em, nI_eqP, nI_leP, nI_ltP, nN_e1, nN_e2, nN_l1, nN_l2, nN_l3, nN_l4, nI_add, pk_mul, vp_inN, nI_cl, n01, n10, P_i, P_ii, P_iii, f_Mo_at, f_Mo_map, f_Mo_contact, f_Mo_within, f_Mo_isPort, f_Hp_endpoint, f_Hp_nodeOf, f_Hp_portOf, f_Ma_max, f_Ma_min, f_Hp_isSetting, popN, rok, a1, noX, swc, mL, if_true, if_false, ↓reduceIte, cond_true, cond_false, true_and, and_true, List.length_cons, List.length_nil, List.nil_append, List.cons_append, List.append_nil, Option.toList, Nat.reduceEqDiff, Bool.false_eq_true, reduceCtorEq, Nat.reduceAdd, Nat.reduceLT, Nat.reduceLeDiff, Nat.reduceSub, List.replicate, Nat.zero_add, Nat.lt_add_one, Nat.le_refl, Nat.zero_le, Nat.succ_ne_zero, not_false_eq_true, not_true_eq_false, false_implies, true_implies, forall_const, imp_self, true_or, or_true, eq_self, sI_zw, zw_zw, hI_zw, tg_zw, ln_zw, hR_zw, hL_zw, hN_zw, hM_zw, upd_s, upd_u, upd_ne, Classical.not_not, k_Hp_restore, x6, c]; try clear hgo9 hW9); try (obtain ⟨W9, hW9, hgo9⟩ := wp_ex (T_Hp_restore l G) [] _; refine hgo9 200 _ _ _ _ ?_; simp -implicitDefEqProofs (disch := omega) only [hW9, inl, gate, Xq, tz_const, tz_iload, tz_lload, tz_dload, tz_aload, tz_istore, tz_astore, tz_lstore, tz_dstore, tz_iinc, tz_i1, tz_i2, tz_i2z, tz_l2, tz_l2z, tz_i2l, tz_l2i, tz_lcmp, tz_i2d, tz_d2, tz_dcmp, tz_dup, tz_dup2, tz_pop, tz_if, tz_icmp, tz_null, tz_goto, tz_sw, tz_getf, tz_puti, tz_putz, tz_putr, tz_putl, tz_iaload, tz_baload, tz_laload, tz_aaload, tz_iastore, tz_bastore, tz_lastore, tz_aastore, tz_alen, tz_new, tz_newa, tz_oinit, tz_iret, tz_zret, tz_lret, tz_dret, tz_aret, tz_vret, tz_throw, tz_callS, tz_callV, tz_callI, tz_callR, tz_pureS, tz_pureV, tz_callVH, lg, lset, lkill, lst1, lst2, entL, isRf, is1, vl, va_rf_none, va_rf_some, isRf_rf, is1_rf, i0, i1, bI_eq0, bI_eq1, nm_em, nI_eqP, nI_leP, nI_ltP, nN_e1, nN_e2, nN_l1, nN_l2, nN_l3, nN_l4, nI_add, pk_mul, vp_inN, nI_cl, n01, n10, P_i, P_ii, P_iii, f_Mo_at, f_Mo_map, f_Mo_contact, f_Mo_within, f_Mo_isPort, f_Hp_endpoint, f_Hp_nodeOf, f_Hp_portOf, f_Ma_max, f_Ma_min, f_Hp_isSetting, popN, rok, a1, noX, swc, mL, if_true, if_false, ↓reduceIte, cond_true, cond_false, true_and, and_true, List.length_cons, List.length_nil, List.nil_append, List.cons_append, List.append_nil, Option.toList, Nat.reduceEqDiff, Bool.false_eq_true, reduceCtorEq, Nat.reduceAdd, Nat.reduceLT, Nat.reduceLeDiff, Nat.reduceSub, List.replicate, Nat.zero_add, Nat.lt_add_one, Nat.le_refl, Nat.zero_le, Nat.succ_ne_zero, not_false_eq_true, not_true_eq_false, false_implies, true_implies, forall_const, imp_self, true_or, or_true, eq_self, sI_zw, zw_zw, hI_zw, tg_zw, ln_zw, hR_zw, hL_zw, hN_zw, hM_zw, upd_s, upd_u, upd_ne, Classical.not_not, k_Hp_restore, x6, c]; try clear hgo9 hW9))
    exact q1 c
  · have c1 : hI h (A 0) 6 = nI 1 := by
      rcases k.2.2.2.2.1 with q | q
      · exact absurd q c
      · exact q
    ((obtain ⟨W9, hW9, hgo9⟩ := wp_ex (T_Hp_restore l G) [] _; refine hgo9 200 _ _ _ _ ?_; simp -implicitDefEqProofs (disch := omega) only [hW9, inl, gate, Xq, tz_const, tz_iload, tz_lload, tz_dload, tz_aload, tz_istore, tz_astore, tz_lstore, tz_dstore, tz_iinc, tz_i1, tz_i2, tz_i2z, tz_l2, tz_l2z, tz_i2l, tz_l2i, tz_lcmp, tz_i2d, tz_d2, tz_dcmp, tz_dup, tz_dup2, tz_pop, tz_if, tz_icmp, tz_null, tz_goto, tz_sw, tz_getf, tz_puti, tz_putz, tz_putr, tz_putl, tz_iaload, tz_baload, tz_laload, tz_aaload, tz_iastore, tz_bastore, tz_lastore, tz_aastore, tz_alen, tz_new, tz_newa, tz_oinit, tz_iret, tz_zret, tz_lret, tz_dret, tz_aret, tz_vret, tz_throw, tz_callS, tz_callV, tz_callI, tz_callR, tz_pureS, tz_pureV, tz_callVH, lg, lset, lkill, lst1, lst2, entL, isRf, is1, vl, va_rf_none, va_rf_some, isRf_rf, is1_rf, i0, i1, bI_eq0, bI_eq1, nm_em, nI_eqP, nI_leP, nI_ltP, nN_e1, nN_e2, nN_l1, nN_l2, nN_l3, nN_l4, nI_add, pk_mul, vp_inN, nI_cl, n01, n10, P_i, P_ii, P_iii, f_Mo_at, f_Mo_map, f_Mo_contact, f_Mo_within, f_Mo_isPort, f_Hp_endpoint, f_Hp_nodeOf, f_Hp_portOf, f_Ma_max, f_Ma_min, f_Hp_isSetting, popN, rok, a1, noX, swc, mL, if_true, if_false, ↓reduceIte, cond_true, cond_false, true_and, and_true, List.length_cons, List.length_nil, List.nil_append, List.cons_append, List.append_nil, Option.toList, Nat.reduceEqDiff, Bool.false_eq_true, reduceCtorEq, Nat.reduceAdd, Nat.reduceLT, Nat.reduceLeDiff, Nat.reduceSub, List.replicate, Nat.zero_add, Nat.lt_add_one, Nat.le_refl, Nat.zero_le, Nat.succ_ne_zero, not_false_eq_true, not_true_eq_false, false_implies, true_implies, forall_const, imp_self, true_or, or_true, eq_self, sI_zw, zw_zw, hI_zw, tg_zw, ln_zw, hR_zw, hL_zw, hN_zw, hM_zw, upd_s, upd_u, upd_ne, Classical.not_not, k_Hp_restore, x6, x0, x1, w1, c]; try clear hgo9 hW9); try (obtain ⟨W9, hW9, hgo9⟩ := wp_ex (T_Hp_restore l G) [] _; refine hgo9 200 _ _ _ _ ?_; simp -implicitDefEqProofs (disch := omega) only [hW9, inl, gate, Xq, tz_const, tz_iload, tz_lload, tz_dload, tz_aload, tz_istore, tz_astore, tz_lstore, tz_dstore, tz_iinc, tz_i1, tz_i2, tz_i2z, tz_l2, tz_l2z, tz_i2l, tz_l2i, tz_lcmp, tz_i2d, tz_d2, tz_dcmp, tz_dup, tz_dup2, tz_pop, tz_if, tz_icmp, tz_null, tz_goto, tz_sw, tz_getf, tz_puti, tz_putz, tz_putr, tz_putl, tz_iaload, tz_baload, tz_laload, tz_aaload, tz_iastore, tz_bastore, tz_lastore, tz_aastore, tz_alen, tz_new, tz_newa, tz_oinit, tz_iret, tz_zret, tz_lret, tz_dret, tz_aret, tz_vret, tz_throw, tz_callS, tz_callV, tz_callI, tz_callR, tz_pureS, tz_pureV, tz_callVH, lg, lset, lkill, lst1, lst2, entL, isRf, is1, vl, va_rf_none, va_rf_some, isRf_rf, is1_rf, i0, i1, bI_eq0, bI_eq1, nm_em, nI_eqP, nI_leP, nI_ltP, nN_e1, nN_e2, nN_l1, nN_l2, nN_l3, nN_l4, nI_add, pk_mul, vp_inN, nI_cl, n01, n10, P_i, P_ii, P_iii, f_Mo_at, f_Mo_map, f_Mo_contact, f_Mo_within, f_Mo_isPort, f_Hp_endpoint, f_Hp_nodeOf, f_Hp_portOf, f_Ma_max, f_Ma_min, f_Hp_isSetting, popN, rok, a1, noX, swc, mL, if_true, if_false, ↓reduceIte, cond_true, cond_false, true_and, and_true, List.length_cons, List.length_nil, List.nil_append, List.cons_append, List.append_nil, Option.toList, Nat.reduceEqDiff, Bool.false_eq_true, reduceCtorEq, Nat.reduceAdd, Nat.reduceLT, Nat.reduceLeDiff, Nat.reduceSub, List.replicate, Nat.zero_add, Nat.lt_add_one, Nat.le_refl, Nat.zero_le, Nat.succ_ne_zero, not_false_eq_true, not_true_eq_false, false_implies, true_implies, forall_const, imp_self, true_or, or_true, eq_self, sI_zw, zw_zw, hI_zw, tg_zw, ln_zw, hR_zw, hL_zw, hN_zw, hM_zw, upd_s, upd_u, upd_ne, Classical.not_not, k_Hp_restore, x6, x0, x1, w1, c]; try clear hgo9 hW9))
    refine c_Nw_copyFrom (A 1) (A 2) zs h _ hw (g 2 1 (by omega) (by omega) (by omega) (by omega) (by omega) (by omega) (by omega)) (is c1).1 k.2.1.1 (k.2.2.2.1 c1) (fun h1 k1 k1' f1 => ?_)
    simp only [aft]
    have a' := k.1.own f1 (k.1.2.2.2.2.2.2.1 1 (by omega) (by omega) (by omega))
    have x61 := a'.1.1.1
    have x01 := a'.1.2.1.1
    have w11 := k1.1.1.1
    have w31 := k1.2.1.2.1
    (obtain ⟨W9, hW9, hgo9⟩ := wp_ex (T_Hp_restore l G) [] _; refine hgo9 200 _ _ _ _ ?_; simp -implicitDefEqProofs (disch := omega) only [hW9, inl, gate, Xq, tz_const, tz_iload, tz_lload, tz_dload, tz_aload, tz_istore, tz_astore, tz_lstore, tz_dstore, tz_iinc, tz_i1, tz_i2, tz_i2z, tz_l2, tz_l2z, tz_i2l, tz_l2i, tz_lcmp, tz_i2d, tz_d2, tz_dcmp, tz_dup, tz_dup2, tz_pop, tz_if, tz_icmp, tz_null, tz_goto, tz_sw, tz_getf, tz_puti, tz_putz, tz_putr, tz_putl, tz_iaload, tz_baload, tz_laload, tz_aaload, tz_iastore, tz_bastore, tz_lastore, tz_aastore, tz_alen, tz_new, tz_newa, tz_oinit, tz_iret, tz_zret, tz_lret, tz_dret, tz_aret, tz_vret, tz_throw, tz_callS, tz_callV, tz_callI, tz_callR, tz_pureS, tz_pureV, tz_callVH, lg, lset, lkill, lst1, lst2, entL, isRf, is1, vl, va_rf_none, va_rf_some, isRf_rf, is1_rf, i0, i1, bI_eq0, bI_eq1, nm_em, nI_eqP, nI_leP, nI_ltP, nN_e1, nN_e2, nN_l1, nN_l2, nN_l3, nN_l4, nI_add, pk_mul, vp_inN, nI_cl, n01, n10, P_i, P_ii, P_iii, f_Mo_at, f_Mo_map, f_Mo_contact, f_Mo_within, f_Mo_isPort, f_Hp_endpoint, f_Hp_nodeOf, f_Hp_portOf, f_Ma_max, f_Ma_min, f_Hp_isSetting, popN, rok, a1, noX, swc, mL, if_true, if_false, ↓reduceIte, cond_true, cond_false, true_and, and_true, List.length_cons, List.length_nil, List.nil_append, List.cons_append, List.append_nil, Option.toList, Nat.reduceEqDiff, Bool.false_eq_true, reduceCtorEq, Nat.reduceAdd, Nat.reduceLT, Nat.reduceLeDiff, Nat.reduceSub, List.replicate, Nat.zero_add, Nat.lt_add_one, Nat.le_refl, Nat.zero_le, Nat.succ_ne_zero, not_false_eq_true, not_true_eq_false, false_implies, true_implies, forall_const, imp_self, true_or, or_true, eq_self, sI_zw, zw_zw, hI_zw, tg_zw, ln_zw, hR_zw, hL_zw, hN_zw, hM_zw, upd_s, upd_u, upd_ne, Classical.not_not, k_Hp_restore, x61, x01, w11, w31]; try clear hgo9 hW9)
    exact q2 c h1 (k.net is f1 k1) (by rw [a'.2.1]) f1.X
theorem c_Hp_clearBuffer (A : Nat → Nat) (z zs t : Nat → Int32) (n : Nat) (h : AH) (Q : Po) (k : HpR h A z zs t n) (iv : Inv z) (is : hI h (A 0) 6 = nI 1 → Inv zs) (hQ : ∀ h', HpR h' A z zs t 0 → hI h' (A 0) 6 = hI h (A 0) 6 → FrX 0 h h' → Q (.inl (some (.int (nI n)))) h') : Call l G M_Hp_clearBuffer [.ref (A 0)] h Q := by
  have x6 := k.1.1.1
  have x5 := k.2.2.2.2.2.2.2.1
  have e6 : hI (zw h (A 0) (upd (hI h (A 0)) 5 (nI 0))) (A 0) 6 = hI h (A 0) 6 := by rw [hI_zw, upd_ne (by omega)]
  refine call_of rfl rfl (Nat.le_of_ble_eq_true rfl) ?_
  (obtain ⟨W9, hW9, hgo9⟩ := wp_ex (T_Hp_clearBuffer l G) [] _; refine hgo9 200 _ _ _ _ ?_; simp -implicitDefEqProofs (disch := omega) only [hW9, inl, gate, Xq, tz_const, tz_iload, tz_lload, tz_dload, tz_aload, tz_istore, tz_astore, tz_lstore, tz_dstore, tz_iinc, tz_i1, tz_i2, tz_i2z, tz_l2, tz_l2z, tz_i2l, tz_l2i, tz_lcmp, tz_i2d, tz_d2, tz_dcmp, tz_dup, tz_dup2, tz_pop, tz_if, tz_icmp, tz_null, tz_goto, tz_sw, tz_getf, tz_puti, tz_putz, tz_putr, tz_putl, tz_iaload, tz_baload, tz_laload, tz_aaload, tz_iastore, tz_bastore, tz_lastore, tz_aastore, tz_alen, tz_new, tz_newa, tz_oinit, tz_iret, tz_zret, tz_lret, tz_dret, tz_aret, tz_vret, tz_throw, tz_callS, tz_callV, tz_callI, tz_callR, tz_pureS, tz_pureV, tz_callVH, lg, lset, lkill, lst1, lst2, entL, isRf, is1, vl, va_rf_none, va_rf_some, isRf_rf, is1_rf, i0, i1, bI_eq0, bI_eq1, nm_em, nI_eqP, nI_leP, nI_ltP, nN_e1, nN_e2, nN_l1, nN_l2, nN_l3, nN_l4, nI_add, pk_mul, vp_inN, nI_cl, n01, n10, P_i, P_ii, P_iii, f_Mo_at, f_Mo_map, f_Mo_contact, f_Mo_within, f_Mo_isPort, f_Hp_endpoint, f_Hp_nodeOf, f_Hp_portOf, f_Ma_max, f_Ma_min, f_Hp_isSetting, popN, rok, a1, noX, swc, mL, if_true, if_false, ↓reduceIte, cond_true, cond_false, true_and, and_true, List.length_cons, List.length_nil, List.nil_append, List.cons_append, List.append_nil, Option.toList, Nat.reduceEqDiff, Bool.false_eq_true, reduceCtorEq, Nat.reduceAdd, Nat.reduceLT, Nat.reduceLeDiff, Nat.reduceSub, List.replicate, Nat.zero_add, Nat.lt_add_one, Nat.le_refl, Nat.zero_le, Nat.succ_ne_zero, not_false_eq_true, not_true_eq_false, false_implies, true_implies, forall_const, imp_self, true_or, or_true, eq_self, sI_zw, zw_zw, hI_zw, tg_zw, ln_zw, hR_zw, hL_zw, hN_zw, hM_zw, upd_s, upd_u, upd_ne, Classical.not_not, k_Hp_clearBuffer, x6, x5]; try clear hgo9 hW9)
  have kk := k.own0 (b := A 0) (f := upd (hI h (A 0)) 5 (nI 0)) (n' := 0) (t' := t) (zs' := zs) iv (Or.inl rfl) (fun q => by rw [e6] at q; exact ⟨k.2.2.2.1 q, is q⟩) (by rw [e6]; exact k.2.2.2.2.1) (by rw [hI_zw, upd_s]) (by omega) (fun q hq => by omega)
  exact hQ _ kk.1 e6 kk.2
theorem c_Hp_append (A : Nat → Nat) (x : Int32) (z zs t : Nat → Int32) (n : Nat) (h : AH) (Q : Po) (k : HpR h A z zs t n) (iv : Inv z) (is : hI h (A 0) 6 = nI 1 → Inv zs)
    (q1 : ¬ (nI 33 ≤ x ∧ x ≤ nI 126) → Q (.inr IAE) (nx h)) (q2 : (nI 33 ≤ x ∧ x ≤ nI 126) → n = 40 → Q (.inr ISE) (nx h))
    (q3 : (nI 33 ≤ x ∧ x ≤ nI 126) → n < 40 → ∀ h', HpR h' A z zs (upd t n x) (n + 1) → hI h' (A 0) 6 = hI h (A 0) 6 → FrX 0 h h' → Q (.inl (some (.int (nI (n + 1))))) h') : Call l G M_Hp_append [.ref (A 0), .int x] h Q := by
  have x6 := k.1.1.1
  have x5 := k.2.2.2.2.2.2.2.1
  have n40 := k.2.2.2.2.2.2.2.2.1
  have x7 := k.1.2.1.2.2.2.2
  obtain ⟨b1, b2, b3⟩ := k.1.2.2.1
  have nb := HpR.ne07 k.1
  have rb := rd_ne nb
  have cm := wr_cm nb
  have n0 : ¬ nI n < nI 0 := by rw [nI_ltP (by omega) (by omega)]; omega
  refine call_of rfl rfl (Nat.le_of_ble_eq_true rfl) ?_
  (obtain ⟨W9, hW9, hgo9⟩ := wp_ex (T_Hp_append l G) [] _; refine hgo9 200 _ _ _ _ ?_; simp -implicitDefEqProofs (disch := omega) only [hW9, inl, gate, Xq, tz_const, tz_iload, tz_lload, tz_dload, tz_aload, tz_istore, tz_astore, tz_lstore, tz_dstore, tz_iinc, tz_i1, tz_i2, tz_i2z, tz_l2, tz_l2z, tz_i2l, tz_l2i, tz_lcmp, tz_i2d, tz_d2, tz_dcmp, tz_dup, tz_dup2, tz_pop, tz_if, tz_icmp, tz_null, tz_goto, tz_sw, tz_getf, tz_puti, tz_putz, tz_putr, tz_putl, tz_iaload, tz_baload, tz_laload, tz_aaload, tz_iastore, tz_bastore, tz_lastore, tz_aastore, tz_alen, tz_new, tz_newa, tz_oinit, tz_iret, tz_zret, tz_lret, tz_dret, tz_aret, tz_vret, tz_throw, tz_callS, tz_callV, tz_callI, tz_callR, tz_pureS, tz_pureV, tz_callVH, lg, lset, lkill, lst1, lst2, entL, isRf, is1, vl, va_rf_none, va_rf_some, isRf_rf, is1_rf, i0, i1, bI_eq0, bI_eq1, nm_em, nI_eqP, nI_leP, nI_ltP, nN_e1, nN_e2, nN_l1, nN_l2, nN_l3, nN_l4, nI_add, pk_mul, vp_inN, nI_cl, n01, n10, P_i, P_ii, P_iii, f_Mo_at, f_Mo_map, f_Mo_contact, f_Mo_within, f_Mo_isPort, f_Hp_endpoint, f_Hp_nodeOf, f_Hp_portOf, f_Ma_max, f_Ma_min, f_Hp_isSetting, popN, rok, a1, noX, swc, mL, if_true, if_false, ↓reduceIte, cond_true, cond_false, true_and, and_true, List.length_cons, List.length_nil, List.nil_append, List.cons_append, List.append_nil, Option.toList, Nat.reduceEqDiff, Bool.false_eq_true, reduceCtorEq, Nat.reduceAdd, Nat.reduceLT, Nat.reduceLeDiff, Nat.reduceSub, List.replicate, Nat.zero_add, Nat.lt_add_one, Nat.le_refl, Nat.zero_le, Nat.succ_ne_zero, not_false_eq_true, not_true_eq_false, false_implies, true_implies, forall_const, imp_self, true_or, or_true, eq_self, sI_zw, zw_zw, hI_zw, tg_zw, ln_zw, hR_zw, hL_zw, hN_zw, hM_zw, upd_s, upd_u, upd_ne, Classical.not_not, k_Hp_append, x6, f_Hp_isWithin]; try clear hgo9 hW9)
  refine ⟨fun c => ?_, fun c => ?_⟩
  · by_cases d : n < 40
    · ((obtain ⟨W9, hW9, hgo9⟩ := wp_ex (T_Hp_append l G) [] _; refine hgo9 200 _ _ _ _ ?_; simp -implicitDefEqProofs (disch := omega) only [hW9, inl, gate, Xq, tz_const, tz_iload, tz_lload, tz_dload, tz_aload, tz_istore, tz_astore, tz_lstore, tz_dstore, tz_iinc, tz_i1, tz_i2, tz_i2z, tz_l2, tz_l2z, tz_i2l, tz_l2i, tz_lcmp, tz_i2d, tz_d2, tz_dcmp, tz_dup, tz_dup2, tz_pop, tz_if, tz_icmp, tz_null, tz_goto, tz_sw, tz_getf, tz_puti, tz_putz, tz_putr, tz_putl, tz_iaload, tz_baload, tz_laload, tz_aaload, tz_iastore, tz_bastore, tz_lastore, tz_aastore, tz_alen, tz_new, tz_newa, tz_oinit, tz_iret, tz_zret, tz_lret, tz_dret, tz_aret, tz_vret, tz_throw, tz_callS, tz_callV, tz_callI, tz_callR, tz_pureS, tz_pureV, tz_callVH, lg, lset, lkill, lst1, lst2, entL, isRf, is1, vl, va_rf_none, va_rf_some, isRf_rf, is1_rf, i0, i1, bI_eq0, bI_eq1, nm_em, nI_eqP, nI_leP, nI_ltP, nN_e1, nN_e2, nN_l1, nN_l2, nN_l3, nN_l4, nI_add, pk_mul, vp_inN, nI_cl, n01, n10, P_i, P_ii, P_iii, f_Mo_at, f_Mo_map, f_Mo_contact, f_Mo_within, f_Mo_isPort, f_Hp_endpoint, f_Hp_nodeOf, f_Hp_portOf, f_Ma_max, f_Ma_min, f_Hp_isSetting, popN, rok, a1, noX, swc, mL, if_true, if_false, ↓reduceIte, cond_true, cond_false, true_and, and_true, List.length_cons, List.length_nil, List.nil_append, List.cons_append, List.append_nil, Option.toList, Nat.reduceEqDiff, Bool.false_eq_true, reduceCtorEq, Nat.reduceAdd, Nat.reduceLT, Nat.reduceLeDiff, Nat.reduceSub, List.replicate, Nat.zero_add, Nat.lt_add_one, Nat.le_refl, Nat.zero_le, Nat.succ_ne_zero, not_false_eq_true, not_true_eq_false, false_implies, true_implies, forall_const, imp_self, true_or, or_true, eq_self, sI_zw, zw_zw, hI_zw, tg_zw, ln_zw, hR_zw, hL_zw, hN_zw, hM_zw, upd_s, upd_u, upd_ne, Classical.not_not, k_Hp_append, x6, x5, x7, b1, b2, n0, d, rb]; try clear hgo9 hW9); try (obtain ⟨W9, hW9, hgo9⟩ := wp_ex (T_Hp_append l G) [] _; refine hgo9 200 _ _ _ _ ?_; simp -implicitDefEqProofs (disch := omega) only [hW9, inl, gate, Xq, tz_const, tz_iload, tz_lload, tz_dload, tz_aload, tz_istore, tz_astore, tz_lstore, tz_dstore, tz_iinc, tz_i1, tz_i2, tz_i2z, tz_l2, tz_l2z, tz_i2l, tz_l2i, tz_lcmp, tz_i2d, tz_d2, tz_dcmp, tz_dup, tz_dup2, tz_pop, tz_if, tz_icmp, tz_null, tz_goto, tz_sw, tz_getf, tz_puti, tz_putz, tz_putr, tz_putl, tz_iaload, tz_baload, tz_laload, tz_aaload, tz_iastore, tz_bastore, tz_lastore, tz_aastore, tz_alen, tz_new, tz_newa, tz_oinit, tz_iret, tz_zret, tz_lret, tz_dret, tz_aret, tz_vret, tz_throw, tz_callS, tz_callV, tz_callI, tz_callR, tz_pureS, tz_pureV, tz_callVH, lg, lset, lkill, lst1, lst2, entL, isRf, is1, vl, va_rf_none, va_rf_some, isRf_rf, is1_rf, i0, i1, bI_eq0, bI_eq1, nm_em, nI_eqP, nI_leP, nI_ltP, nN_e1, nN_e2, nN_l1, nN_l2, nN_l3, nN_l4, nI_add, pk_mul, vp_inN, nI_cl, n01, n10, P_i, P_ii, P_iii, f_Mo_at, f_Mo_map, f_Mo_contact, f_Mo_within, f_Mo_isPort, f_Hp_endpoint, f_Hp_nodeOf, f_Hp_portOf, f_Ma_max, f_Ma_min, f_Hp_isSetting, popN, rok, a1, noX, swc, mL, if_true, if_false, ↓reduceIte, cond_true, cond_false, true_and, and_true, List.length_cons, List.length_nil, List.nil_append, List.cons_append, List.append_nil, Option.toList, Nat.reduceEqDiff, Bool.false_eq_true, reduceCtorEq, Nat.reduceAdd, Nat.reduceLT, Nat.reduceLeDiff, Nat.reduceSub, List.replicate, Nat.zero_add, Nat.lt_add_one, Nat.le_refl, Nat.zero_le, Nat.succ_ne_zero, not_false_eq_true, not_true_eq_false, false_implies, true_implies, forall_const, imp_self, true_or, or_true, eq_self, sI_zw, zw_zw, hI_zw, tg_zw, ln_zw, hR_zw, hL_zw, hN_zw, hM_zw, upd_s, upd_u, upd_ne, Classical.not_not, k_Hp_append, x6, x5, x7, b1, b2, n0, d, rb]; try clear hgo9 hW9); try (obtain ⟨W9, hW9, hgo9⟩ := wp_ex (T_Hp_append l G) [] _; refine hgo9 200 _ _ _ _ ?_; simp -implicitDefEqProofs (disch := omega) only [hW9, inl, gate, Xq, tz_const, tz_iload, tz_lload, tz_dload, tz_aload, tz_istore, tz_astore, tz_lstore, tz_dstore, tz_iinc, tz_i1, tz_i2, tz_i2z, tz_l2, tz_l2z, tz_i2l, tz_l2i, tz_lcmp, tz_i2d, tz_d2, tz_dcmp, tz_dup, tz_dup2, tz_pop, tz_if, tz_icmp, tz_null, tz_goto, tz_sw, tz_getf, tz_puti, tz_putz, tz_putr, tz_putl, tz_iaload, tz_baload, tz_laload, tz_aaload, tz_iastore, tz_bastore, tz_lastore, tz_aastore, tz_alen, tz_new, tz_newa, tz_oinit, tz_iret, tz_zret, tz_lret, tz_dret, tz_aret, tz_vret, tz_throw, tz_callS, tz_callV, tz_callI, tz_callR, tz_pureS, tz_pureV, tz_callVH, lg, lset, lkill, lst1, lst2, entL, isRf, is1, vl, va_rf_none, va_rf_some, isRf_rf, is1_rf, i0, i1, bI_eq0, bI_eq1, nm_em, nI_eqP, nI_leP, nI_ltP, nN_e1, nN_e2, nN_l1, nN_l2, nN_l3, nN_l4, nI_add, pk_mul, vp_inN, nI_cl, n01, n10, P_i, P_ii, P_iii, f_Mo_at, f_Mo_map, f_Mo_contact, f_Mo_within, f_Mo_isPort, f_Hp_endpoint, f_Hp_nodeOf, f_Hp_portOf, f_Ma_max, f_Ma_min, f_Hp_isSetting, popN, rok, a1, noX, swc, mL, if_true, if_false, ↓reduceIte, cond_true, cond_false, true_and, and_true, List.length_cons, List.length_nil, List.nil_append, List.cons_append, List.append_nil, Option.toList, Nat.reduceEqDiff, Bool.false_eq_true, reduceCtorEq, Nat.reduceAdd, Nat.reduceLT, Nat.reduceLeDiff, Nat.reduceSub, List.replicate, Nat.zero_add, Nat.lt_add_one, Nat.le_refl, Nat.zero_le, Nat.succ_ne_zero, not_false_eq_true, not_true_eq_false, false_implies, true_implies, forall_const, imp_self, true_or, or_true, eq_self, sI_zw, zw_zw, hI_zw, tg_zw, ln_zw, hR_zw, hL_zw, hN_zw, hM_zw, upd_s, upd_u, upd_ne, Classical.not_not, k_Hp_append, x6, x5, x7, b1, b2, n0, d, rb]; try clear hgo9 hW9))
      have hw := k.1.2.2.2.2.2.2.2
      have kk := k.own0 (b := A 7) (f := upd (hI h (A 7)) n x) (n' := n) (t' := t) (zs' := zs) iv (Or.inr rfl) (fun q => by rw [hI_zw_ne _ nb] at q; exact ⟨k.2.2.2.1 q, is q⟩) (by rw [hI_zw_ne _ nb]; exact k.2.2.2.2.1) (by rw [hI_zw_ne _ nb]; exact x5) n40 (fun q hq => by rw [hI_zw, upd_ne (by omega)]; exact k.2.2.2.2.2.2.2.2.2 q hq)
      have e6 : hI (zw (zw h (A 7) (upd (hI h (A 7)) n x)) (A 0) (upd (hI h (A 0)) 5 (nI (n + 1)))) (A 0) 6 = hI h (A 0) 6 := by rw [hI_zw, upd_ne (by omega)]
      have kk2 := kk.1.own0 (b := A 0) (f := upd (hI h (A 0)) 5 (nI (n + 1))) (n' := n + 1) (t' := upd t n x) (zs' := zs) iv (Or.inl rfl) (fun q => by
        rw [e6] at q
        exact ⟨kk.1.2.2.2.1 (by rw [hI_zw_ne _ nb]; exact q), is q⟩) (by rw [e6]; exact k.2.2.2.2.1) (by rw [hI_zw, upd_s]) (by omega) (fun q hq => by
        rw [hI_zw_ne _ nb.symm, hI_zw]
        by_cases w : q = n
        · subst w; rw [upd_s, upd_s]
        · rw [upd_ne w, upd_ne w]; exact k.2.2.2.2.2.2.2.2.2 q (by omega))
      exact q3 c d _ kk2.1 e6 (kk.2.tr kk2.2)
    · ((obtain ⟨W9, hW9, hgo9⟩ := wp_ex (T_Hp_append l G) [] _; refine hgo9 200 _ _ _ _ ?_; simp -implicitDefEqProofs (disch := omega) only [hW9, inl, gate, Xq, tz_const, tz_iload, tz_lload, tz_dload, tz_aload, tz_istore, tz_astore, tz_lstore, tz_dstore, tz_iinc, tz_i1, tz_i2, tz_i2z, tz_l2, tz_l2z, tz_i2l, tz_l2i, tz_lcmp, tz_i2d, tz_d2, tz_dcmp, tz_dup, tz_dup2, tz_pop, tz_if, tz_icmp, tz_null, tz_goto, tz_sw, tz_getf, tz_puti, tz_putz, tz_putr, tz_putl, tz_iaload, tz_baload, tz_laload, tz_aaload, tz_iastore, tz_bastore, tz_lastore, tz_aastore, tz_alen, tz_new, tz_newa, tz_oinit, tz_iret, tz_zret, tz_lret, tz_dret, tz_aret, tz_vret, tz_throw, tz_callS, tz_callV, tz_callI, tz_callR, tz_pureS, tz_pureV, tz_callVH, lg, lset, lkill, lst1, lst2, entL, isRf, is1, vl, va_rf_none, va_rf_some, isRf_rf, is1_rf, i0, i1, bI_eq0, bI_eq1, nm_em, nI_eqP, nI_leP, nI_ltP, nN_e1, nN_e2, nN_l1, nN_l2, nN_l3, nN_l4, nI_add, pk_mul, vp_inN, nI_cl, n01, n10, P_i, P_ii, P_iii, f_Mo_at, f_Mo_map, f_Mo_contact, f_Mo_within, f_Mo_isPort, f_Hp_endpoint, f_Hp_nodeOf, f_Hp_portOf, f_Ma_max, f_Ma_min, f_Hp_isSetting, popN, rok, a1, noX, swc, mL, if_true, if_false, ↓reduceIte, cond_true, cond_false, true_and, and_true, List.length_cons, List.length_nil, List.nil_append, List.cons_append, List.append_nil, Option.toList, Nat.reduceEqDiff, Bool.false_eq_true, reduceCtorEq, Nat.reduceAdd, Nat.reduceLT, Nat.reduceLeDiff, Nat.reduceSub, List.replicate, Nat.zero_add, Nat.lt_add_one, Nat.le_refl, Nat.zero_le, Nat.succ_ne_zero, not_false_eq_true, not_true_eq_false, false_implies, true_implies, forall_const, imp_self, true_or, or_true, eq_self, sI_zw, zw_zw, hI_zw, tg_zw, ln_zw, hR_zw, hL_zw, hN_zw, hM_zw, upd_s, upd_u, upd_ne, Classical.not_not, k_Hp_append, x6, x5, x7, b1, b2, n0, d]; try clear hgo9 hW9); try (obtain ⟨W9, hW9, hgo9⟩ := wp_ex (T_Hp_append l G) [] _; refine hgo9 200 _ _ _ _ ?_; simp -implicitDefEqProofs (disch := omega) only [hW9, inl, gate, Xq, tz_const, tz_iload, tz_lload, tz_dload, tz_aload, tz_istore, tz_astore, tz_lstore, tz_dstore, tz_iinc, tz_i1, tz_i2, tz_i2z, tz_l2, tz_l2z, tz_i2l, tz_l2i, tz_lcmp, tz_i2d, tz_d2, tz_dcmp, tz_dup, tz_dup2, tz_pop, tz_if, tz_icmp, tz_null, tz_goto, tz_sw, tz_getf, tz_puti, tz_putz, tz_putr, tz_putl, tz_iaload, tz_baload, tz_laload, tz_aaload, tz_iastore, tz_bastore, tz_lastore, tz_aastore, tz_alen, tz_new, tz_newa, tz_oinit, tz_iret, tz_zret, tz_lret, tz_dret, tz_aret, tz_vret, tz_throw, tz_callS, tz_callV, tz_callI, tz_callR, tz_pureS, tz_pureV, tz_callVH, lg, lset, lkill, lst1, lst2, entL, isRf, is1, vl, va_rf_none, va_rf_some, isRf_rf, is1_rf, i0, i1, bI_eq0, bI_eq1, nm_em, nI_eqP, nI_leP, nI_ltP, nN_e1, nN_e2, nN_l1, nN_l2, nN_l3, nN_l4, nI_add, pk_mul, vp_inN, nI_cl, n01, n10, P_i, P_ii, P_iii, f_Mo_at, f_Mo_map, f_Mo_contact, f_Mo_within, f_Mo_isPort, f_Hp_endpoint, f_Hp_nodeOf, f_Hp_portOf, f_Ma_max, f_Ma_min, f_Hp_isSetting, popN, rok, a1, noX, swc, mL, if_true, if_false, ↓reduceIte, cond_true, cond_false, true_and, and_true, List.length_cons, List.length_nil, List.nil_append, List.cons_append, List.append_nil, Option.toList, Nat.reduceEqDiff, Bool.false_eq_true, reduceCtorEq, Nat.reduceAdd, Nat.reduceLT, Nat.reduceLeDiff, Nat.reduceSub, List.replicate, Nat.zero_add, Nat.lt_add_one, Nat.le_refl, Nat.zero_le, Nat.succ_ne_zero, not_false_eq_true, not_true_eq_false, false_implies, true_implies, forall_const, imp_self, true_or, or_true, eq_self, sI_zw, zw_zw, hI_zw, tg_zw, ln_zw, hR_zw, hL_zw, hN_zw, hM_zw, upd_s, upd_u, upd_ne, Classical.not_not, k_Hp_append, x6, x5, x7, b1, b2, n0, d]; try clear hgo9 hW9); try (obtain ⟨W9, hW9, hgo9⟩ := wp_ex (T_Hp_append l G) [] _; refine hgo9 200 _ _ _ _ ?_; simp -implicitDefEqProofs (disch := omega) only [hW9, inl, gate, Xq, tz_const, tz_iload, tz_lload, tz_dload, tz_aload, tz_istore, tz_astore, tz_lstore, tz_dstore, tz_iinc, tz_i1, tz_i2, tz_i2z, tz_l2, tz_l2z, tz_i2l, tz_l2i, tz_lcmp, tz_i2d, tz_d2, tz_dcmp, tz_dup, tz_dup2, tz_pop, tz_if, tz_icmp, tz_null, tz_goto, tz_sw, tz_getf, tz_puti, tz_putz, tz_putr, tz_putl, tz_iaload, tz_baload, tz_laload, tz_aaload, tz_iastore, tz_bastore, tz_lastore, tz_aastore, tz_alen, tz_new, tz_newa, tz_oinit, tz_iret, tz_zret, tz_lret, tz_dret, tz_aret, tz_vret, tz_throw, tz_callS, tz_callV, tz_callI, tz_callR, tz_pureS, tz_pureV, tz_callVH, lg, lset, lkill, lst1, lst2, entL, isRf, is1, vl, va_rf_none, va_rf_some, isRf_rf, is1_rf, i0, i1, bI_eq0, bI_eq1, nm_em, nI_eqP, nI_leP, nI_ltP, nN_e1, nN_e2, nN_l1, nN_l2, nN_l3, nN_l4, nI_add, pk_mul, vp_inN, nI_cl, n01, n10, P_i, P_ii, P_iii, f_Mo_at, f_Mo_map, f_Mo_contact, f_Mo_within, f_Mo_isPort, f_Hp_endpoint, f_Hp_nodeOf, f_Hp_portOf, f_Ma_max, f_Ma_min, f_Hp_isSetting, popN, rok, a1, noX, swc, mL, if_true, if_false, ↓reduceIte, cond_true, cond_false, true_and, and_true, List.length_cons, List.length_nil, List.nil_append, List.cons_append, List.append_nil, Option.toList, Nat.reduceEqDiff, Bool.false_eq_true, reduceCtorEq, Nat.reduceAdd, Nat.reduceLT, Nat.reduceLeDiff, Nat.reduceSub, List.replicate, Nat.zero_add, Nat.lt_add_one, Nat.le_refl, Nat.zero_le, Nat.succ_ne_zero, not_false_eq_true, not_true_eq_false, false_implies, true_implies, forall_const, imp_self, true_or, or_true, eq_self, sI_zw, zw_zw, hI_zw, tg_zw, ln_zw, hR_zw, hL_zw, hN_zw, hM_zw, upd_s, upd_u, upd_ne, Classical.not_not, k_Hp_append, x6, x5, x7, b1, b2, n0, d]; try clear hgo9 hW9))
      exact q2 c (by omega)
  · (obtain ⟨W9, hW9, hgo9⟩ := wp_ex (T_Hp_append l G) [] _; refine hgo9 200 _ _ _ _ ?_; simp -implicitDefEqProofs (disch := omega) only [hW9, inl, gate, Xq, tz_const, tz_iload, tz_lload, tz_dload, tz_aload, tz_istore, tz_astore, tz_lstore, tz_dstore, tz_iinc, tz_i1, tz_i2, tz_i2z, tz_l2, tz_l2z, tz_i2l, tz_l2i, tz_lcmp, tz_i2d, tz_d2, tz_dcmp, tz_dup, tz_dup2, tz_pop, tz_if, tz_icmp, tz_null, tz_goto, tz_sw, tz_getf, tz_puti, tz_putz, tz_putr, tz_putl, tz_iaload, tz_baload, tz_laload, tz_aaload, tz_iastore, tz_bastore, tz_lastore, tz_aastore, tz_alen, tz_new, tz_newa, tz_oinit, tz_iret, tz_zret, tz_lret, tz_dret, tz_aret, tz_vret, tz_throw, tz_callS, tz_callV, tz_callI, tz_callR, tz_pureS, tz_pureV, tz_callVH, lg, lset, lkill, lst1, lst2, entL, isRf, is1, vl, va_rf_none, va_rf_some, isRf_rf, is1_rf, i0, i1, bI_eq0, bI_eq1, nm_em, nI_eqP, nI_leP, nI_ltP, nN_e1, nN_e2, nN_l1, nN_l2, nN_l3, nN_l4, nI_add, pk_mul, vp_inN, nI_cl, n01, n10, P_i, P_ii, P_iii, f_Mo_at, f_Mo_map, f_Mo_contact, f_Mo_within, f_Mo_isPort, f_Hp_endpoint, f_Hp_nodeOf, f_Hp_portOf, f_Ma_max, f_Ma_min, f_Hp_isSetting, popN, rok, a1, noX, swc, mL, if_true, if_false, ↓reduceIte, cond_true, cond_false, true_and, and_true, List.length_cons, List.length_nil, List.nil_append, List.cons_append, List.append_nil, Option.toList, Nat.reduceEqDiff, Bool.false_eq_true, reduceCtorEq, Nat.reduceAdd, Nat.reduceLT, Nat.reduceLeDiff, Nat.reduceSub, List.replicate, Nat.zero_add, Nat.lt_add_one, Nat.le_refl, Nat.zero_le, Nat.succ_ne_zero, not_false_eq_true, not_true_eq_false, false_implies, true_implies, forall_const, imp_self, true_or, or_true, eq_self, sI_zw, zw_zw, hI_zw, tg_zw, ln_zw, hR_zw, hL_zw, hN_zw, hM_zw, upd_s, upd_u, upd_ne, Classical.not_not, k_Hp_append, x6]; try clear hgo9 hW9)
    exact q1 c
theorem c_Hp_checkPacket (A : Nat → Nat) (a p b q w : Int32) (z zs t : Nat → Int32) (n : Nat) (h : AH) (Q : Po) (k : HpR h A z zs t n) (iv : Inv z) (hw : wpZ z a p b q = w) (q1 : w = nI 1 → Q (.inr IOE) (nx h)) (q2 : w = nI 2 → Q (.inr IAE) (nx h)) (q3 : w = nI 0 → Q (.inl none) h) : Call l G M_Hp_checkPacket [.ref (A 0), .int a, .int p, .int b, .int q] h Q := by
  have x6 := k.1.1.1
  have x0 := k.1.2.1.1
  have w1 := k.2.1.1.1.1
  have hPh : P_Nw_hostAt [.ref (A 1), .int a] h := k.2.1.1.NdK a
  have hPn : P_Nw_nodeAt [.ref (A 1), .int b] h := k.2.1.1.1
  unfold wpZ at hw
  refine call_of rfl rfl (Nat.le_of_ble_eq_true rfl) ?_
  by_cases c1 : HoZ z a
  · obtain ⟨d, e⟩ := (hoF_iff k.2.1 iv.1 a).1 c1
    by_cases c2 : NdZ z b
    · obtain ⟨d', e'⟩ := (ndF_iff k.2.1 iv.1 b).1 c2
      rw [if_pos ⟨c1, c2⟩] at hw
      (obtain ⟨W9, hW9, hgo9⟩ := wp_ex (T_Hp_checkPacket l G) [] _; refine hgo9 200 _ _ _ _ ?_; simp -implicitDefEqProofs (disch := omega) only [hW9, inl, gate, Xq, tz_const, tz_iload, tz_lload, tz_dload, tz_aload, tz_istore, tz_astore, tz_lstore, tz_dstore, tz_iinc, tz_i1, tz_i2, tz_i2z, tz_l2, tz_l2z, tz_i2l, tz_l2i, tz_lcmp, tz_i2d, tz_d2, tz_dcmp, tz_dup, tz_dup2, tz_pop, tz_if, tz_icmp, tz_null, tz_goto, tz_sw, tz_getf, tz_puti, tz_putz, tz_putr, tz_putl, tz_iaload, tz_baload, tz_laload, tz_aaload, tz_iastore, tz_bastore, tz_lastore, tz_aastore, tz_alen, tz_new, tz_newa, tz_oinit, tz_iret, tz_zret, tz_lret, tz_dret, tz_aret, tz_vret, tz_throw, tz_callS, tz_callV, tz_callI, tz_callR, tz_pureS, tz_pureV, tz_callVH, lg, lset, lkill, lst1, lst2, entL, isRf, is1, vl, va_rf_none, va_rf_some, isRf_rf, is1_rf, i0, i1, bI_eq0, bI_eq1, nm_em, nI_eqP, nI_leP, nI_ltP, nN_e1, nN_e2, nN_l1, nN_l2, nN_l3, nN_l4, nI_add, pk_mul, vp_inN, nI_cl, n01, n10, P_i, P_ii, P_iii, f_Mo_at, f_Mo_map, f_Mo_contact, f_Mo_within, f_Mo_isPort, f_Hp_endpoint, f_Hp_nodeOf, f_Hp_portOf, f_Ma_max, f_Ma_min, f_Hp_isSetting, popN, rok, a1, noX, swc, mL, if_true, if_false, ↓reduceIte, cond_true, cond_false, true_and, and_true, List.length_cons, List.length_nil, List.nil_append, List.cons_append, List.append_nil, Option.toList, Nat.reduceEqDiff, Bool.false_eq_true, reduceCtorEq, Nat.reduceAdd, Nat.reduceLT, Nat.reduceLeDiff, Nat.reduceSub, List.replicate, Nat.zero_add, Nat.lt_add_one, Nat.le_refl, Nat.zero_le, Nat.succ_ne_zero, not_false_eq_true, not_true_eq_false, false_implies, true_implies, forall_const, imp_self, true_or, or_true, eq_self, sI_zw, zw_zw, hI_zw, tg_zw, ln_zw, hR_zw, hL_zw, hN_zw, hM_zw, upd_s, upd_u, upd_ne, Classical.not_not, k_Hp_checkPacket, x6, x0, w1, hPh, hPn, f_Nw_hostAt, f_Nw_nodeAt, e, e', f_Hp_isPort]; try clear hgo9 hW9)
      refine ⟨fun c3 => ?_, fun c3 => ?_⟩
      · rw [if_neg (fun q => c3 q.1)] at hw
        (obtain ⟨W9, hW9, hgo9⟩ := wp_ex (T_Hp_checkPacket l G) [] _; refine hgo9 200 _ _ _ _ ?_; simp -implicitDefEqProofs (disch := omega) only [hW9, inl, gate, Xq, tz_const, tz_iload, tz_lload, tz_dload, tz_aload, tz_istore, tz_astore, tz_lstore, tz_dstore, tz_iinc, tz_i1, tz_i2, tz_i2z, tz_l2, tz_l2z, tz_i2l, tz_l2i, tz_lcmp, tz_i2d, tz_d2, tz_dcmp, tz_dup, tz_dup2, tz_pop, tz_if, tz_icmp, tz_null, tz_goto, tz_sw, tz_getf, tz_puti, tz_putz, tz_putr, tz_putl, tz_iaload, tz_baload, tz_laload, tz_aaload, tz_iastore, tz_bastore, tz_lastore, tz_aastore, tz_alen, tz_new, tz_newa, tz_oinit, tz_iret, tz_zret, tz_lret, tz_dret, tz_aret, tz_vret, tz_throw, tz_callS, tz_callV, tz_callI, tz_callR, tz_pureS, tz_pureV, tz_callVH, lg, lset, lkill, lst1, lst2, entL, isRf, is1, vl, va_rf_none, va_rf_some, isRf_rf, is1_rf, i0, i1, bI_eq0, bI_eq1, nm_em, nI_eqP, nI_leP, nI_ltP, nN_e1, nN_e2, nN_l1, nN_l2, nN_l3, nN_l4, nI_add, pk_mul, vp_inN, nI_cl, n01, n10, P_i, P_ii, P_iii, f_Mo_at, f_Mo_map, f_Mo_contact, f_Mo_within, f_Mo_isPort, f_Hp_endpoint, f_Hp_nodeOf, f_Hp_portOf, f_Ma_max, f_Ma_min, f_Hp_isSetting, popN, rok, a1, noX, swc, mL, if_true, if_false, ↓reduceIte, cond_true, cond_false, true_and, and_true, List.length_cons, List.length_nil, List.nil_append, List.cons_append, List.append_nil, Option.toList, Nat.reduceEqDiff, Bool.false_eq_true, reduceCtorEq, Nat.reduceAdd, Nat.reduceLT, Nat.reduceLeDiff, Nat.reduceSub, List.replicate, Nat.zero_add, Nat.lt_add_one, Nat.le_refl, Nat.zero_le, Nat.succ_ne_zero, not_false_eq_true, not_true_eq_false, false_implies, true_implies, forall_const, imp_self, true_or, or_true, eq_self, sI_zw, zw_zw, hI_zw, tg_zw, ln_zw, hR_zw, hL_zw, hN_zw, hM_zw, upd_s, upd_u, upd_ne, Classical.not_not, k_Hp_checkPacket, x6]; try clear hgo9 hW9)
        exact q2 hw.symm
      · (obtain ⟨W9, hW9, hgo9⟩ := wp_ex (T_Hp_checkPacket l G) [] _; refine hgo9 200 _ _ _ _ ?_; simp -implicitDefEqProofs (disch := omega) only [hW9, inl, gate, Xq, tz_const, tz_iload, tz_lload, tz_dload, tz_aload, tz_istore, tz_astore, tz_lstore, tz_dstore, tz_iinc, tz_i1, tz_i2, tz_i2z, tz_l2, tz_l2z, tz_i2l, tz_l2i, tz_lcmp, tz_i2d, tz_d2, tz_dcmp, tz_dup, tz_dup2, tz_pop, tz_if, tz_icmp, tz_null, tz_goto, tz_sw, tz_getf, tz_puti, tz_putz, tz_putr, tz_putl, tz_iaload, tz_baload, tz_laload, tz_aaload, tz_iastore, tz_bastore, tz_lastore, tz_aastore, tz_alen, tz_new, tz_newa, tz_oinit, tz_iret, tz_zret, tz_lret, tz_dret, tz_aret, tz_vret, tz_throw, tz_callS, tz_callV, tz_callI, tz_callR, tz_pureS, tz_pureV, tz_callVH, lg, lset, lkill, lst1, lst2, entL, isRf, is1, vl, va_rf_none, va_rf_some, isRf_rf, is1_rf, i0, i1, bI_eq0, bI_eq1, nm_em, nI_eqP, nI_leP, nI_ltP, nN_e1, nN_e2, nN_l1, nN_l2, nN_l3, nN_l4, nI_add, pk_mul, vp_inN, nI_cl, n01, n10, P_i, P_ii, P_iii, f_Mo_at, f_Mo_map, f_Mo_contact, f_Mo_within, f_Mo_isPort, f_Hp_endpoint, f_Hp_nodeOf, f_Hp_portOf, f_Ma_max, f_Ma_min, f_Hp_isSetting, popN, rok, a1, noX, swc, mL, if_true, if_false, ↓reduceIte, cond_true, cond_false, true_and, and_true, List.length_cons, List.length_nil, List.nil_append, List.cons_append, List.append_nil, Option.toList, Nat.reduceEqDiff, Bool.false_eq_true, reduceCtorEq, Nat.reduceAdd, Nat.reduceLT, Nat.reduceLeDiff, Nat.reduceSub, List.replicate, Nat.zero_add, Nat.lt_add_one, Nat.le_refl, Nat.zero_le, Nat.succ_ne_zero, not_false_eq_true, not_true_eq_false, false_implies, true_implies, forall_const, imp_self, true_or, or_true, eq_self, sI_zw, zw_zw, hI_zw, tg_zw, ln_zw, hR_zw, hL_zw, hN_zw, hM_zw, upd_s, upd_u, upd_ne, Classical.not_not, k_Hp_checkPacket, x6, f_Hp_isPort]; try clear hgo9 hW9)
        refine ⟨fun c4 => ?_, fun c4 => ?_⟩
        · rw [if_pos ⟨c3, c4⟩] at hw
          (obtain ⟨W9, hW9, hgo9⟩ := wp_ex (T_Hp_checkPacket l G) [] _; refine hgo9 200 _ _ _ _ ?_; simp -implicitDefEqProofs (disch := omega) only [hW9, inl, gate, Xq, tz_const, tz_iload, tz_lload, tz_dload, tz_aload, tz_istore, tz_astore, tz_lstore, tz_dstore, tz_iinc, tz_i1, tz_i2, tz_i2z, tz_l2, tz_l2z, tz_i2l, tz_l2i, tz_lcmp, tz_i2d, tz_d2, tz_dcmp, tz_dup, tz_dup2, tz_pop, tz_if, tz_icmp, tz_null, tz_goto, tz_sw, tz_getf, tz_puti, tz_putz, tz_putr, tz_putl, tz_iaload, tz_baload, tz_laload, tz_aaload, tz_iastore, tz_bastore, tz_lastore, tz_aastore, tz_alen, tz_new, tz_newa, tz_oinit, tz_iret, tz_zret, tz_lret, tz_dret, tz_aret, tz_vret, tz_throw, tz_callS, tz_callV, tz_callI, tz_callR, tz_pureS, tz_pureV, tz_callVH, lg, lset, lkill, lst1, lst2, entL, isRf, is1, vl, va_rf_none, va_rf_some, isRf_rf, is1_rf, i0, i1, bI_eq0, bI_eq1, nm_em, nI_eqP, nI_leP, nI_ltP, nN_e1, nN_e2, nN_l1, nN_l2, nN_l3, nN_l4, nI_add, pk_mul, vp_inN, nI_cl, n01, n10, P_i, P_ii, P_iii, f_Mo_at, f_Mo_map, f_Mo_contact, f_Mo_within, f_Mo_isPort, f_Hp_endpoint, f_Hp_nodeOf, f_Hp_portOf, f_Ma_max, f_Ma_min, f_Hp_isSetting, popN, rok, a1, noX, swc, mL, if_true, if_false, ↓reduceIte, cond_true, cond_false, true_and, and_true, List.length_cons, List.length_nil, List.nil_append, List.cons_append, List.append_nil, Option.toList, Nat.reduceEqDiff, Bool.false_eq_true, reduceCtorEq, Nat.reduceAdd, Nat.reduceLT, Nat.reduceLeDiff, Nat.reduceSub, List.replicate, Nat.zero_add, Nat.lt_add_one, Nat.le_refl, Nat.zero_le, Nat.succ_ne_zero, not_false_eq_true, not_true_eq_false, false_implies, true_implies, forall_const, imp_self, true_or, or_true, eq_self, sI_zw, zw_zw, hI_zw, tg_zw, ln_zw, hR_zw, hL_zw, hN_zw, hM_zw, upd_s, upd_u, upd_ne, Classical.not_not, k_Hp_checkPacket, x6]; try clear hgo9 hW9)
          exact q3 hw.symm
        · rw [if_neg (fun q => c4 q.2)] at hw
          (obtain ⟨W9, hW9, hgo9⟩ := wp_ex (T_Hp_checkPacket l G) [] _; refine hgo9 200 _ _ _ _ ?_; simp -implicitDefEqProofs (disch := omega) only [hW9, inl, gate, Xq, tz_const, tz_iload, tz_lload, tz_dload, tz_aload, tz_istore, tz_astore, tz_lstore, tz_dstore, tz_iinc, tz_i1, tz_i2, tz_i2z, tz_l2, tz_l2z, tz_i2l, tz_l2i, tz_lcmp, tz_i2d, tz_d2, tz_dcmp, tz_dup, tz_dup2, tz_pop, tz_if, tz_icmp, tz_null, tz_goto, tz_sw, tz_getf, tz_puti, tz_putz, tz_putr, tz_putl, tz_iaload, tz_baload, tz_laload, tz_aaload, tz_iastore, tz_bastore, tz_lastore, tz_aastore, tz_alen, tz_new, tz_newa, tz_oinit, tz_iret, tz_zret, tz_lret, tz_dret, tz_aret, tz_vret, tz_throw, tz_callS, tz_callV, tz_callI, tz_callR, tz_pureS, tz_pureV, tz_callVH, lg, lset, lkill, lst1, lst2, entL, isRf, is1, vl, va_rf_none, va_rf_some, isRf_rf, is1_rf, i0, i1, bI_eq0, bI_eq1, nm_em, nI_eqP, nI_leP, nI_ltP, nN_e1, nN_e2, nN_l1, nN_l2, nN_l3, nN_l4, nI_add, pk_mul, vp_inN, nI_cl, n01, n10, P_i, P_ii, P_iii, f_Mo_at, f_Mo_map, f_Mo_contact, f_Mo_within, f_Mo_isPort, f_Hp_endpoint, f_Hp_nodeOf, f_Hp_portOf, f_Ma_max, f_Ma_min, f_Hp_isSetting, popN, rok, a1, noX, swc, mL, if_true, if_false, ↓reduceIte, cond_true, cond_false, true_and, and_true, List.length_cons, List.length_nil, List.nil_append, List.cons_append, List.append_nil, Option.toList, Nat.reduceEqDiff, Bool.false_eq_true, reduceCtorEq, Nat.reduceAdd, Nat.reduceLT, Nat.reduceLeDiff, Nat.reduceSub, List.replicate, Nat.zero_add, Nat.lt_add_one, Nat.le_refl, Nat.zero_le, Nat.succ_ne_zero, not_false_eq_true, not_true_eq_false, false_implies, true_implies, forall_const, imp_self, true_or, or_true, eq_self, sI_zw, zw_zw, hI_zw, tg_zw, ln_zw, hR_zw, hL_zw, hN_zw, hM_zw, upd_s, upd_u, upd_ne, Classical.not_not, k_Hp_checkPacket, x6]; try clear hgo9 hW9)
          exact q2 hw.symm
    · have e' := (ndF_iff k.2.1 iv.1 b).2 c2
      rw [if_neg (fun q => c2 q.2)] at hw
      (obtain ⟨W9, hW9, hgo9⟩ := wp_ex (T_Hp_checkPacket l G) [] _; refine hgo9 200 _ _ _ _ ?_; simp -implicitDefEqProofs (disch := omega) only [hW9, inl, gate, Xq, tz_const, tz_iload, tz_lload, tz_dload, tz_aload, tz_istore, tz_astore, tz_lstore, tz_dstore, tz_iinc, tz_i1, tz_i2, tz_i2z, tz_l2, tz_l2z, tz_i2l, tz_l2i, tz_lcmp, tz_i2d, tz_d2, tz_dcmp, tz_dup, tz_dup2, tz_pop, tz_if, tz_icmp, tz_null, tz_goto, tz_sw, tz_getf, tz_puti, tz_putz, tz_putr, tz_putl, tz_iaload, tz_baload, tz_laload, tz_aaload, tz_iastore, tz_bastore, tz_lastore, tz_aastore, tz_alen, tz_new, tz_newa, tz_oinit, tz_iret, tz_zret, tz_lret, tz_dret, tz_aret, tz_vret, tz_throw, tz_callS, tz_callV, tz_callI, tz_callR, tz_pureS, tz_pureV, tz_callVH, lg, lset, lkill, lst1, lst2, entL, isRf, is1, vl, va_rf_none, va_rf_some, isRf_rf, is1_rf, i0, i1, bI_eq0, bI_eq1, nm_em, nI_eqP, nI_leP, nI_ltP, nN_e1, nN_e2, nN_l1, nN_l2, nN_l3, nN_l4, nI_add, pk_mul, vp_inN, nI_cl, n01, n10, P_i, P_ii, P_iii, f_Mo_at, f_Mo_map, f_Mo_contact, f_Mo_within, f_Mo_isPort, f_Hp_endpoint, f_Hp_nodeOf, f_Hp_portOf, f_Ma_max, f_Ma_min, f_Hp_isSetting, popN, rok, a1, noX, swc, mL, if_true, if_false, ↓reduceIte, cond_true, cond_false, true_and, and_true, List.length_cons, List.length_nil, List.nil_append, List.cons_append, List.append_nil, Option.toList, Nat.reduceEqDiff, Bool.false_eq_true, reduceCtorEq, Nat.reduceAdd, Nat.reduceLT, Nat.reduceLeDiff, Nat.reduceSub, List.replicate, Nat.zero_add, Nat.lt_add_one, Nat.le_refl, Nat.zero_le, Nat.succ_ne_zero, not_false_eq_true, not_true_eq_false, false_implies, true_implies, forall_const, imp_self, true_or, or_true, eq_self, sI_zw, zw_zw, hI_zw, tg_zw, ln_zw, hR_zw, hL_zw, hN_zw, hM_zw, upd_s, upd_u, upd_ne, Classical.not_not, k_Hp_checkPacket, x6, x0, w1, hPh, hPn, f_Nw_hostAt, f_Nw_nodeAt, e, e']; try clear hgo9 hW9)
      exact q1 hw.symm
  · have e := (hoF_iff k.2.1 iv.1 a).2 c1
    rw [if_neg (fun q => c1 q.1)] at hw
    (obtain ⟨W9, hW9, hgo9⟩ := wp_ex (T_Hp_checkPacket l G) [] _; refine hgo9 200 _ _ _ _ ?_; simp -implicitDefEqProofs (disch := omega) only [hW9, inl, gate, Xq, tz_const, tz_iload, tz_lload, tz_dload, tz_aload, tz_istore, tz_astore, tz_lstore, tz_dstore, tz_iinc, tz_i1, tz_i2, tz_i2z, tz_l2, tz_l2z, tz_i2l, tz_l2i, tz_lcmp, tz_i2d, tz_d2, tz_dcmp, tz_dup, tz_dup2, tz_pop, tz_if, tz_icmp, tz_null, tz_goto, tz_sw, tz_getf, tz_puti, tz_putz, tz_putr, tz_putl, tz_iaload, tz_baload, tz_laload, tz_aaload, tz_iastore, tz_bastore, tz_lastore, tz_aastore, tz_alen, tz_new, tz_newa, tz_oinit, tz_iret, tz_zret, tz_lret, tz_dret, tz_aret, tz_vret, tz_throw, tz_callS, tz_callV, tz_callI, tz_callR, tz_pureS, tz_pureV, tz_callVH, lg, lset, lkill, lst1, lst2, entL, isRf, is1, vl, va_rf_none, va_rf_some, isRf_rf, is1_rf, i0, i1, bI_eq0, bI_eq1, nm_em, nI_eqP, nI_leP, nI_ltP, nN_e1, nN_e2, nN_l1, nN_l2, nN_l3, nN_l4, nI_add, pk_mul, vp_inN, nI_cl, n01, n10, P_i, P_ii, P_iii, f_Mo_at, f_Mo_map, f_Mo_contact, f_Mo_within, f_Mo_isPort, f_Hp_endpoint, f_Hp_nodeOf, f_Hp_portOf, f_Ma_max, f_Ma_min, f_Hp_isSetting, popN, rok, a1, noX, swc, mL, if_true, if_false, ↓reduceIte, cond_true, cond_false, true_and, and_true, List.length_cons, List.length_nil, List.nil_append, List.cons_append, List.append_nil, Option.toList, Nat.reduceEqDiff, Bool.false_eq_true, reduceCtorEq, Nat.reduceAdd, Nat.reduceLT, Nat.reduceLeDiff, Nat.reduceSub, List.replicate, Nat.zero_add, Nat.lt_add_one, Nat.le_refl, Nat.zero_le, Nat.succ_ne_zero, not_false_eq_true, not_true_eq_false, false_implies, true_implies, forall_const, imp_self, true_or, or_true, eq_self, sI_zw, zw_zw, hI_zw, tg_zw, ln_zw, hR_zw, hL_zw, hN_zw, hM_zw, upd_s, upd_u, upd_ne, Classical.not_not, k_Hp_checkPacket, x6, x0, w1, hPh, f_Nw_hostAt, e]; try clear hgo9 hW9)
    exact q1 hw.symm
theorem c_Hp_send (A : Nat → Nat) (a p b q w : Int32) (z zs t : Nat → Int32) (n : Nat) (h : AH) (Q : Po) (k : HpR h A z zs t n) (iv : Inv z) (is : hI h (A 0) 6 = nI 1 → Inv zs) (hw : wpZ z a p b q = w) (q1 : w = nI 1 → Q (.inr IOE) (nx h)) (q2 : w = nI 2 → Q (.inr IAE) (nx h))
    (q3 : w = nI 0 → ∃ a' b' r z', a = nI a' ∧ b = nI b' ∧ SndR z a' p b' q r z' ∧ ∀ h', HpR h' A z' zs t n → hI h' (A 0) 6 = hI h (A 0) 6 → FrX 20 h h' → Q (.inl (some (.int r))) h') : Call l G M_Hp_send [.ref (A 0), .int a, .int p, .int b, .int q] h Q := by
  have x6 := k.1.1.1
  have x0 := k.1.2.1.1
  have w1 := k.2.1.1.1.1
  refine call_of rfl rfl (Nat.le_of_ble_eq_true rfl) ?_
  (obtain ⟨W9, hW9, hgo9⟩ := wp_ex (T_Hp_send l G) [] _; refine hgo9 200 _ _ _ _ ?_; simp -implicitDefEqProofs (disch := omega) only [hW9, inl, gate, Xq, tz_const, tz_iload, tz_lload, tz_dload, tz_aload, tz_istore, tz_astore, tz_lstore, tz_dstore, tz_iinc, tz_i1, tz_i2, tz_i2z, tz_l2, tz_l2z, tz_i2l, tz_l2i, tz_lcmp, tz_i2d, tz_d2, tz_dcmp, tz_dup, tz_dup2, tz_pop, tz_if, tz_icmp, tz_null, tz_goto, tz_sw, tz_getf, tz_puti, tz_putz, tz_putr, tz_putl, tz_iaload, tz_baload, tz_laload, tz_aaload, tz_iastore, tz_bastore, tz_lastore, tz_aastore, tz_alen, tz_new, tz_newa, tz_oinit, tz_iret, tz_zret, tz_lret, tz_dret, tz_aret, tz_vret, tz_throw, tz_callS, tz_callV, tz_callI, tz_callR, tz_pureS, tz_pureV, tz_callVH, lg, lset, lkill, lst1, lst2, entL, isRf, is1, vl, va_rf_none, va_rf_some, isRf_rf, is1_rf, i0, i1, bI_eq0, bI_eq1, nm_em, nI_eqP, nI_leP, nI_ltP, nN_e1, nN_e2, nN_l1, nN_l2, nN_l3, nN_l4, nI_add, pk_mul, vp_inN, nI_cl, n01, n10, P_i, P_ii, P_iii, f_Mo_at, f_Mo_map, f_Mo_contact, f_Mo_within, f_Mo_isPort, f_Hp_endpoint, f_Hp_nodeOf, f_Hp_portOf, f_Ma_max, f_Ma_min, f_Hp_isSetting, popN, rok, a1, noX, swc, mL, if_true, if_false, ↓reduceIte, cond_true, cond_false, true_and, and_true, List.length_cons, List.length_nil, List.nil_append, List.cons_append, List.append_nil, Option.toList, Nat.reduceEqDiff, Bool.false_eq_true, reduceCtorEq, Nat.reduceAdd, Nat.reduceLT, Nat.reduceLeDiff, Nat.reduceSub, List.replicate, Nat.zero_add, Nat.lt_add_one, Nat.le_refl, Nat.zero_le, Nat.succ_ne_zero, not_false_eq_true, not_true_eq_false, false_implies, true_implies, forall_const, imp_self, true_or, or_true, eq_self, sI_zw, zw_zw, hI_zw, tg_zw, ln_zw, hR_zw, hL_zw, hN_zw, hM_zw, upd_s, upd_u, upd_ne, Classical.not_not, k_Hp_send, x6]; try clear hgo9 hW9)
  refine c_Hp_checkPacket A a p b q w z zs t n h _ k iv hw (fun c => ?_) (fun c => ?_) (fun c => ?_)
  · simp only [aft]
    exact q1 c
  · simp only [aft]
    exact q2 c
  · simp only [aft]
    obtain ⟨a', b', r, z', rfl, rfl, hs, hQ⟩ := q3 c
    (obtain ⟨W9, hW9, hgo9⟩ := wp_ex (T_Hp_send l G) [] _; refine hgo9 200 _ _ _ _ ?_; simp -implicitDefEqProofs (disch := omega) only [hW9, inl, gate, Xq, tz_const, tz_iload, tz_lload, tz_dload, tz_aload, tz_istore, tz_astore, tz_lstore, tz_dstore, tz_iinc, tz_i1, tz_i2, tz_i2z, tz_l2, tz_l2z, tz_i2l, tz_l2i, tz_lcmp, tz_i2d, tz_d2, tz_dcmp, tz_dup, tz_dup2, tz_pop, tz_if, tz_icmp, tz_null, tz_goto, tz_sw, tz_getf, tz_puti, tz_putz, tz_putr, tz_putl, tz_iaload, tz_baload, tz_laload, tz_aaload, tz_iastore, tz_bastore, tz_lastore, tz_aastore, tz_alen, tz_new, tz_newa, tz_oinit, tz_iret, tz_zret, tz_lret, tz_dret, tz_aret, tz_vret, tz_throw, tz_callS, tz_callV, tz_callI, tz_callR, tz_pureS, tz_pureV, tz_callVH, lg, lset, lkill, lst1, lst2, entL, isRf, is1, vl, va_rf_none, va_rf_some, isRf_rf, is1_rf, i0, i1, bI_eq0, bI_eq1, nm_em, nI_eqP, nI_leP, nI_ltP, nN_e1, nN_e2, nN_l1, nN_l2, nN_l3, nN_l4, nI_add, pk_mul, vp_inN, nI_cl, n01, n10, P_i, P_ii, P_iii, f_Mo_at, f_Mo_map, f_Mo_contact, f_Mo_within, f_Mo_isPort, f_Hp_endpoint, f_Hp_nodeOf, f_Hp_portOf, f_Ma_max, f_Ma_min, f_Hp_isSetting, popN, rok, a1, noX, swc, mL, if_true, if_false, ↓reduceIte, cond_true, cond_false, true_and, and_true, List.length_cons, List.length_nil, List.nil_append, List.cons_append, List.append_nil, Option.toList, Nat.reduceEqDiff, Bool.false_eq_true, reduceCtorEq, Nat.reduceAdd, Nat.reduceLT, Nat.reduceLeDiff, Nat.reduceSub, List.replicate, Nat.zero_add, Nat.lt_add_one, Nat.le_refl, Nat.zero_le, Nat.succ_ne_zero, not_false_eq_true, not_true_eq_false, false_implies, true_implies, forall_const, imp_self, true_or, or_true, eq_self, sI_zw, zw_zw, hI_zw, tg_zw, ln_zw, hR_zw, hL_zw, hN_zw, hM_zw, upd_s, upd_u, upd_ne, Classical.not_not, k_Hp_send, x6, x0, w1, enc_w]; try clear hgo9 hW9)
    refine c_Nw_carry (A 1) a' b' p q r z z' h _ k.1.2.2.2.2.2.2.2 k.2.1 hs (fun h1 k1 f1 => ?_)
    simp only [aft]
    have a9 := k.1.own f1 (k.1.2.2.2.2.2.2.1 1 (by omega) (by omega) (by omega))
    have x61 := a9.1.1.1
    (obtain ⟨W9, hW9, hgo9⟩ := wp_ex (T_Hp_send l G) [] _; refine hgo9 200 _ _ _ _ ?_; simp -implicitDefEqProofs (disch := omega) only [hW9, inl, gate, Xq, tz_const, tz_iload, tz_lload, tz_dload, tz_aload, tz_istore, tz_astore, tz_lstore, tz_dstore, tz_iinc, tz_i1, tz_i2, tz_i2z, tz_l2, tz_l2z, tz_i2l, tz_l2i, tz_lcmp, tz_i2d, tz_d2, tz_dcmp, tz_dup, tz_dup2, tz_pop, tz_if, tz_icmp, tz_null, tz_goto, tz_sw, tz_getf, tz_puti, tz_putz, tz_putr, tz_putl, tz_iaload, tz_baload, tz_laload, tz_aaload, tz_iastore, tz_bastore, tz_lastore, tz_aastore, tz_alen, tz_new, tz_newa, tz_oinit, tz_iret, tz_zret, tz_lret, tz_dret, tz_aret, tz_vret, tz_throw, tz_callS, tz_callV, tz_callI, tz_callR, tz_pureS, tz_pureV, tz_callVH, lg, lset, lkill, lst1, lst2, entL, isRf, is1, vl, va_rf_none, va_rf_some, isRf_rf, is1_rf, i0, i1, bI_eq0, bI_eq1, nm_em, nI_eqP, nI_leP, nI_ltP, nN_e1, nN_e2, nN_l1, nN_l2, nN_l3, nN_l4, nI_add, pk_mul, vp_inN, nI_cl, n01, n10, P_i, P_ii, P_iii, f_Mo_at, f_Mo_map, f_Mo_contact, f_Mo_within, f_Mo_isPort, f_Hp_endpoint, f_Hp_nodeOf, f_Hp_portOf, f_Ma_max, f_Ma_min, f_Hp_isSetting, popN, rok, a1, noX, swc, mL, if_true, if_false, ↓reduceIte, cond_true, cond_false, true_and, and_true, List.length_cons, List.length_nil, List.nil_append, List.cons_append, List.append_nil, Option.toList, Nat.reduceEqDiff, Bool.false_eq_true, reduceCtorEq, Nat.reduceAdd, Nat.reduceLT, Nat.reduceLeDiff, Nat.reduceSub, List.replicate, Nat.zero_add, Nat.lt_add_one, Nat.le_refl, Nat.zero_le, Nat.succ_ne_zero, not_false_eq_true, not_true_eq_false, false_implies, true_implies, forall_const, imp_self, true_or, or_true, eq_self, sI_zw, zw_zw, hI_zw, tg_zw, ln_zw, hR_zw, hL_zw, hN_zw, hM_zw, upd_s, upd_u, upd_ne, Classical.not_not, k_Hp_send, x61]; try clear hgo9 hW9)
    exact hQ h1 (k.net is f1 k1) (by rw [a9.2.1]) f1.X
end
