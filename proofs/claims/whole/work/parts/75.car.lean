/-! THE CLASS: a packet comes in; a packet is carried -/
def k_Nw_comeIn (l : Launch) (G : Gc) (pc : Nat) : Tr :=
  if pc < 66 then
   if pc < 30 then
    if pc < 13 then
     if pc < 5 then
      if pc < 2 then
       if pc < 1 then
        if pc = 0 then tz_iload 1 2 else dead
       else
        if pc = 1 then tz_istore 2 3 else dead
      else
       if pc < 3 then
        if pc = 2 then tz_const 3 (.int (nI 0)) else dead
       else
        if pc = 3 then tz_istore 5 4 else dead
     else
      if pc < 9 then
       if pc < 7 then
        if pc = 5 then tz_iload 7 4 else dead
       else
        if pc = 7 then tz_const 9 (.int (nI 10)) else dead
      else
       if pc < 12 then
        if pc = 9 then tz_icmp 12 136 (fun a b => b ≤ a) else dead
       else
        if pc = 12 then tz_aload 13 0 else dead
    else
     if pc < 22 then
      if pc < 17 then
       if pc < 14 then
        if pc = 13 then tz_iload 14 3 else dead
       else
        if pc = 14 then tz_pureS 17 1 P_Hp_nodeOf f_Hp_nodeOf else dead
      else
       if pc < 20 then
        if pc = 17 then tz_pureV 20 1 1 P_Nw_hostAt f_Nw_hostAt else dead
       else
        if pc = 20 then tz_astore 22 5 else dead
     else
      if pc < 27 then
       if pc < 24 then
        if pc = 22 then tz_aload 24 5 else dead
       else
        if pc = 24 then tz_null 47 27 else dead
      else
       if pc < 29 then
        if pc = 27 then tz_aload 29 5 else dead
       else
        if pc = 29 then tz_iload 30 1 else dead
   else
    if pc < 47 then
     if pc < 39 then
      if pc < 35 then
       if pc < 33 then
        if pc = 30 then tz_puti 33 3 2 else dead
       else
        if pc = 33 then tz_aload 35 5 else dead
      else
       if pc < 36 then
        if pc = 35 then tz_iload 36 3 else dead
       else
        if pc = 36 then tz_pureS 39 1 P_Hp_portOf f_Hp_portOf else dead
     else
      if pc < 43 then
       if pc < 42 then
        if pc = 39 then tz_puti 42 3 3 else dead
       else
        if pc = 42 then tz_iload 43 3 else dead
      else
       if pc < 46 then
        if pc = 43 then tz_pureS 46 1 P_Hp_nodeOf f_Hp_nodeOf else dead
       else
        if pc = 46 then tz_iret else dead
    else
     if pc < 55 then
      if pc < 49 then
       if pc < 48 then
        if pc = 47 then tz_aload 48 0 else dead
       else
        if pc = 48 then tz_iload 49 3 else dead
      else
       if pc < 52 then
        if pc = 49 then tz_pureS 52 1 P_Hp_nodeOf f_Hp_nodeOf else dead
       else
        if pc = 52 then tz_pureV 55 1 1 P_Nw_translatorAt f_Nw_translatorAt else dead
     else
      if pc < 59 then
       if pc < 57 then
        if pc = 55 then tz_astore 57 6 else dead
       else
        if pc = 57 then tz_aload 59 6 else dead
      else
       if pc < 62 then
        if pc = 59 then tz_null 62 66 else dead
       else
        if pc < 63 then
         if pc = 62 then tz_const 63 .null else dead
        else
         if pc = 63 then tz_goto 75 else dead
  else
   if pc < 101 then
    if pc < 84 then
     if pc < 75 then
      if pc < 69 then
       if pc < 68 then
        if pc = 66 then tz_aload 68 6 else dead
       else
        if pc = 68 then tz_iload 69 3 else dead
      else
       if pc < 72 then
        if pc = 69 then tz_pureS 72 1 P_Hp_portOf f_Hp_portOf else dead
       else
        if pc = 72 then tz_callV l G 75 M_Tl_mappingIn 1 5 else dead
     else
      if pc < 79 then
       if pc < 77 then
        if pc = 75 then tz_astore 77 7 else dead
       else
        if pc = 77 then tz_aload 79 6 else dead
      else
       if pc < 82 then
        if pc = 79 then tz_null 87 82 else dead
       else
        if pc = 82 then tz_aload 84 7 else dead
    else
     if pc < 92 then
      if pc < 89 then
       if pc < 87 then
        if pc = 84 then tz_null 87 90 else dead
       else
        if pc = 87 then tz_const 89 (.int ((-2))) else dead
      else
       if pc < 90 then
        if pc = 89 then tz_iret else dead
       else
        if pc = 90 then tz_aload 92 7 else dead
     else
      if pc < 95 then
       if pc < 93 then
        if pc = 92 then tz_iload 93 1 else dead
       else
        if pc = 93 then tz_aload 95 6 else dead
      else
       if pc < 98 then
        if pc = 95 then tz_getf 98 5 1 0 else dead
       else
        if pc = 98 then tz_callV l G 101 M_Mp_admits 2 0 else dead
   else
    if pc < 118 then
     if pc < 109 then
      if pc < 106 then
       if pc < 104 then
        if pc = 101 then tz_if 104 107 (fun a => ¬ a = 0) else dead
       else
        if pc = 104 then tz_const 106 (.int ((-3))) else dead
      else
       if pc < 107 then
        if pc = 106 then tz_iret else dead
       else
        if pc = 107 then tz_aload 109 6 else dead
     else
      if pc < 115 then
       if pc < 112 then
        if pc = 109 then tz_getf 112 5 6 0 else dead
       else
        if pc = 112 then tz_if 115 124 (fun a => a = 0) else dead
      else
       if pc < 117 then
        if pc = 115 then tz_aload 117 7 else dead
       else
        if pc = 117 then tz_aload 118 0 else dead
    else
     if pc < 129 then
      if pc < 124 then
       if pc < 121 then
        if pc = 118 then tz_getf 121 1 3 0 else dead
       else
        if pc = 121 then tz_puti 124 0 3 else dead
      else
       if pc < 126 then
        if pc = 124 then tz_aload 126 7 else dead
       else
        if pc = 126 then tz_getf 129 0 0 0 else dead
     else
      if pc < 133 then
       if pc < 130 then
        if pc = 129 then tz_istore 130 3 else dead
       else
        if pc = 130 then tz_iinc 133 4 (nI 1) else dead
      else
       if pc < 136 then
        if pc = 133 then tz_goto 5 else dead
       else
        if pc < 138 then
         if pc = 136 then tz_const 138 (.int ((-2))) else dead
        else
         if pc = 138 then tz_iret else dead
set_option maxRecDepth 100000 in
theorem T_Nw_comeIn (l : Launch) (G : Gc) : TabOK l G M_Nw_comeIn (k_Nw_comeIn l G) := by
  intro pc
  unfold k_Nw_comeIn
  exact
   (sd_br
    (sd_br
     (sd_br
      (sd_br
       (sd_br
        (sd_br
         (sd_lf (sd_iload_n (k := 2) (by decide +kernel : decode prog_3_method_15_code 0 = .ok (.iload_n 2, 1))))
         (sd_lf (sd_istore_n (k := 3) (by decide +kernel : decode prog_3_method_15_code 1 = .ok (.istore_n 3, 1)))))
        (sd_br
         (sd_lf (sd_iconst (by decide +kernel : decode prog_3_method_15_code 2 = .ok (.iconst 0, 1)) (by decide +kernel)))
         (sd_lf (sd_istore (by decide +kernel : decode prog_3_method_15_code 3 = .ok (.istore 4, 2))))))
       (sd_br
        (sd_br
         (sd_lf (sd_iload (by decide +kernel : decode prog_3_method_15_code 5 = .ok (.iload 4, 2))))
         (sd_lf (sd_bipush (by decide +kernel : decode prog_3_method_15_code 7 = .ok (.bipush 10, 2)) (by decide +kernel))))
        (sd_br
         (sd_lf (sd_icmp_ge (by decide +kernel : decode prog_3_method_15_code 9 = .ok (.if_icmp .ge 127, 3)) (by decide +kernel)))
         (sd_lf (sd_aload_n (k := 0) (by decide +kernel : decode prog_3_method_15_code 12 = .ok (.aload_n 0, 1)))))))
      (sd_br
       (sd_br
        (sd_br
         (sd_lf (sd_iload_n (k := 3) (by decide +kernel : decode prog_3_method_15_code 13 = .ok (.iload_n 3, 1))))
         (sd_lf (sd_pureSN (sd_callSN (host := "HolePuncher") (by decide +kernel : decode prog_3_method_15_code 14 = .ok (.invokestatic 86, 3)) ok_Hp_nodeOf (List.mem_of_getElem? (i := 376) (by decide +kernel)) (gm 449 (by decide +kernel) rfl) (by decide +kernel) rfl rfl) c_Hp_nodeOf)))
        (sd_br
         (sd_lf (sd_pureV (sd_callV (q := (RX1, TX1, 6)) (by decide +kernel : decode prog_3_method_15_code 17 = .ok (.invokevirtual 116, 3)) ok_Nw_hostAt (gm 415 (by decide +kernel) rfl) (gm 416 (by decide +kernel) rfl) (gm 417 (by decide +kernel) rfl) rfl rfl (by decide +kernel) rfl rfl) c_Nw_hostAt))
         (sd_lf (sd_astore (by decide +kernel : decode prog_3_method_15_code 20 = .ok (.astore 5, 2))))))
       (sd_br
        (sd_br
         (sd_lf (sd_aload (by decide +kernel : decode prog_3_method_15_code 22 = .ok (.aload 5, 2))))
         (sd_lf (sd_ifnull (by decide +kernel : decode prog_3_method_15_code 24 = .ok (.ifnull 23, 3)) (by decide +kernel))))
        (sd_br
         (sd_lf (sd_aload (by decide +kernel : decode prog_3_method_15_code 27 = .ok (.aload 5, 2))))
         (sd_lf (sd_iload_n (k := 1) (by decide +kernel : decode prog_3_method_15_code 29 = .ok (.iload_n 1, 1))))))))
     (sd_br
      (sd_br
       (sd_br
        (sd_br
         (sd_lf (sd_puti (q := (RX3, TX3, 5)) (by decide +kernel : decode prog_3_method_15_code 30 = .ok (.putfield 119, 3)) rfl (by decide +kernel) (gm 211 (by decide +kernel) rfl) rfl rfl (Or.inl rfl)))
         (sd_lf (sd_aload (by decide +kernel : decode prog_3_method_15_code 33 = .ok (.aload 5, 2)))))
        (sd_br
         (sd_lf (sd_iload_n (k := 3) (by decide +kernel : decode prog_3_method_15_code 35 = .ok (.iload_n 3, 1))))
         (sd_lf (sd_pureSN (sd_callSN (host := "HolePuncher") (by decide +kernel : decode prog_3_method_15_code 36 = .ok (.invokestatic 122, 3)) ok_Hp_portOf (List.mem_of_getElem? (i := 379) (by decide +kernel)) (gm 452 (by decide +kernel) rfl) (by decide +kernel) rfl rfl) c_Hp_portOf))))
       (sd_br
        (sd_br
         (sd_lf (sd_puti (q := (RX3, TX3, 5)) (by decide +kernel : decode prog_3_method_15_code 39 = .ok (.putfield 125, 3)) rfl (by decide +kernel) (gm 214 (by decide +kernel) rfl) rfl rfl (Or.inl rfl)))
         (sd_lf (sd_iload_n (k := 3) (by decide +kernel : decode prog_3_method_15_code 42 = .ok (.iload_n 3, 1)))))
        (sd_br
         (sd_lf (sd_pureSN (sd_callSN (host := "HolePuncher") (by decide +kernel : decode prog_3_method_15_code 43 = .ok (.invokestatic 86, 3)) ok_Hp_nodeOf (List.mem_of_getElem? (i := 376) (by decide +kernel)) (gm 449 (by decide +kernel) rfl) (by decide +kernel) rfl rfl) c_Hp_nodeOf))
         (sd_lf (sd_iret (by decide +kernel : decode prog_3_method_15_code 46 = .ok (.ireturn, 1)) rfl)))))
      (sd_br
       (sd_br
        (sd_br
         (sd_lf (sd_aload_n (k := 0) (by decide +kernel : decode prog_3_method_15_code 47 = .ok (.aload_n 0, 1))))
         (sd_lf (sd_iload_n (k := 3) (by decide +kernel : decode prog_3_method_15_code 48 = .ok (.iload_n 3, 1)))))
        (sd_br
         (sd_lf (sd_pureSN (sd_callSN (host := "HolePuncher") (by decide +kernel : decode prog_3_method_15_code 49 = .ok (.invokestatic 86, 3)) ok_Hp_nodeOf (List.mem_of_getElem? (i := 376) (by decide +kernel)) (gm 449 (by decide +kernel) rfl) (by decide +kernel) rfl rfl) c_Hp_nodeOf))
         (sd_lf (sd_pureV (sd_callV (q := (RX1, TX1, 6)) (by decide +kernel : decode prog_3_method_15_code 52 = .ok (.invokevirtual 72, 3)) ok_Nw_translatorAt (gm 428 (by decide +kernel) rfl) (gm 429 (by decide +kernel) rfl) (gm 430 (by decide +kernel) rfl) rfl rfl (by decide +kernel) rfl rfl) c_Nw_translatorAt))))
       (sd_br
        (sd_br
         (sd_lf (sd_astore (by decide +kernel : decode prog_3_method_15_code 55 = .ok (.astore 6, 2))))
         (sd_lf (sd_aload (by decide +kernel : decode prog_3_method_15_code 57 = .ok (.aload 6, 2)))))
        (sd_br
         (sd_lf (sd_ifnonnull (by decide +kernel : decode prog_3_method_15_code 59 = .ok (.ifnonnull 7, 3)) (by decide +kernel)))
         (sd_br
          (sd_lf (sd_null (by decide +kernel : decode prog_3_method_15_code 62 = .ok (.aconst_null, 1))))
          (sd_lf (sd_goto (by decide +kernel : decode prog_3_method_15_code 63 = .ok (.goto 12, 3)) (by decide +kernel)))))))))
    (sd_br
     (sd_br
      (sd_br
       (sd_br
        (sd_br
         (sd_lf (sd_aload (by decide +kernel : decode prog_3_method_15_code 66 = .ok (.aload 6, 2))))
         (sd_lf (sd_iload_n (k := 3) (by decide +kernel : decode prog_3_method_15_code 68 = .ok (.iload_n 3, 1)))))
        (sd_br
         (sd_lf (sd_pureSN (sd_callSN (host := "HolePuncher") (by decide +kernel : decode prog_3_method_15_code 69 = .ok (.invokestatic 122, 3)) ok_Hp_portOf (List.mem_of_getElem? (i := 379) (by decide +kernel)) (gm 452 (by decide +kernel) rfl) (by decide +kernel) rfl rfl) c_Hp_portOf))
         (sd_lf (sd_callV (q := (RX5, TX5, 11)) (by decide +kernel : decode prog_3_method_15_code 72 = .ok (.invokevirtual 128, 3)) ok_Tl_mappingIn (gm 757 (by decide +kernel) rfl) (gm 723 (by decide +kernel) rfl) (gm 724 (by decide +kernel) rfl) rfl rfl (by decide +kernel) rfl rfl))))
       (sd_br
        (sd_br
         (sd_lf (sd_astore (by decide +kernel : decode prog_3_method_15_code 75 = .ok (.astore 7, 2))))
         (sd_lf (sd_aload (by decide +kernel : decode prog_3_method_15_code 77 = .ok (.aload 6, 2)))))
        (sd_br
         (sd_lf (sd_ifnull (by decide +kernel : decode prog_3_method_15_code 79 = .ok (.ifnull 8, 3)) (by decide +kernel)))
         (sd_lf (sd_aload (by decide +kernel : decode prog_3_method_15_code 82 = .ok (.aload 7, 2)))))))
      (sd_br
       (sd_br
        (sd_br
         (sd_lf (sd_ifnonnull (by decide +kernel : decode prog_3_method_15_code 84 = .ok (.ifnonnull 6, 3)) (by decide +kernel)))
         (sd_lf (sd_bipush (by decide +kernel : decode prog_3_method_15_code 87 = .ok (.bipush (-2), 2)) (by decide +kernel))))
        (sd_br
         (sd_lf (sd_iret (by decide +kernel : decode prog_3_method_15_code 89 = .ok (.ireturn, 1)) rfl))
         (sd_lf (sd_aload (by decide +kernel : decode prog_3_method_15_code 90 = .ok (.aload 7, 2))))))
       (sd_br
        (sd_br
         (sd_lf (sd_iload_n (k := 1) (by decide +kernel : decode prog_3_method_15_code 92 = .ok (.iload_n 1, 1))))
         (sd_lf (sd_aload (by decide +kernel : decode prog_3_method_15_code 93 = .ok (.aload 6, 2)))))
        (sd_br
         (sd_lf (sd_getf (q := (RX5, TX5, 11)) (by decide +kernel : decode prog_3_method_15_code 95 = .ok (.getfield 132, 3)) rfl (by decide +kernel) (gm 250 (by decide +kernel) rfl)))
         (sd_lf (sd_callV (q := (RX0, TX0, 6)) (by decide +kernel : decode prog_3_method_15_code 98 = .ok (.invokevirtual 135, 3)) ok_Mp_admits (gm 758 (by decide +kernel) rfl) (gm 759 (by decide +kernel) rfl) (gm 760 (by decide +kernel) rfl) rfl rfl (by decide +kernel) rfl rfl))))))
     (sd_br
      (sd_br
       (sd_br
        (sd_br
         (sd_lf (sd_if_ne (by decide +kernel : decode prog_3_method_15_code 101 = .ok (.ifCond .ne 6, 3)) (by decide +kernel)))
         (sd_lf (sd_bipush (by decide +kernel : decode prog_3_method_15_code 104 = .ok (.bipush (-3), 2)) (by decide +kernel))))
        (sd_br
         (sd_lf (sd_iret (by decide +kernel : decode prog_3_method_15_code 106 = .ok (.ireturn, 1)) rfl))
         (sd_lf (sd_aload (by decide +kernel : decode prog_3_method_15_code 107 = .ok (.aload 6, 2))))))
       (sd_br
        (sd_br
         (sd_lf (sd_getf (q := (RX5, TX5, 11)) (by decide +kernel : decode prog_3_method_15_code 109 = .ok (.getfield 139, 3)) rfl (by decide +kernel) (gm 257 (by decide +kernel) rfl)))
         (sd_lf (sd_if_eq (by decide +kernel : decode prog_3_method_15_code 112 = .ok (.ifCond .eq 12, 3)) (by decide +kernel))))
        (sd_br
         (sd_lf (sd_aload (by decide +kernel : decode prog_3_method_15_code 115 = .ok (.aload 7, 2))))
         (sd_lf (sd_aload_n (k := 0) (by decide +kernel : decode prog_3_method_15_code 117 = .ok (.aload_n 0, 1)))))))
      (sd_br
       (sd_br
        (sd_br
         (sd_lf (sd_getf (q := (RX1, TX1, 6)) (by decide +kernel : decode prog_3_method_15_code 118 = .ok (.getfield 25, 3)) rfl (by decide +kernel) (gm 109 (by decide +kernel) rfl)))
         (sd_lf (sd_puti (q := (RX0, TX0, 6)) (by decide +kernel : decode prog_3_method_15_code 121 = .ok (.putfield 99, 3)) rfl (by decide +kernel) (gm 314 (by decide +kernel) rfl) rfl rfl (Or.inl rfl))))
        (sd_br
         (sd_lf (sd_aload (by decide +kernel : decode prog_3_method_15_code 124 = .ok (.aload 7, 2))))
         (sd_lf (sd_getf (q := (RX0, TX0, 6)) (by decide +kernel : decode prog_3_method_15_code 126 = .ok (.getfield 142, 3)) rfl (by decide +kernel) (gm 306 (by decide +kernel) rfl)))))
       (sd_br
        (sd_br
         (sd_lf (sd_istore_n (k := 3) (by decide +kernel : decode prog_3_method_15_code 129 = .ok (.istore_n 3, 1))))
         (sd_lf (sd_iinc (by decide +kernel : decode prog_3_method_15_code 130 = .ok (.iinc 4 1, 3)) (by decide +kernel))))
        (sd_br
         (sd_lf (sd_goto (by decide +kernel : decode prog_3_method_15_code 133 = .ok (.goto (-128), 3)) (by decide +kernel)))
         (sd_br
          (sd_lf (sd_bipush (by decide +kernel : decode prog_3_method_15_code 136 = .ok (.bipush (-2), 2)) (by decide +kernel)))
          (sd_lf (sd_iret (by decide +kernel : decode prog_3_method_15_code 138 = .ok (.ireturn, 1)) rfl)))))))))
def k_Nw_carry (l : Launch) (G : Gc) (pc : Nat) : Tr :=
  if pc < 38 then
   if pc < 17 then
    if pc < 7 then
     if pc < 2 then
      if pc < 1 then
       if pc = 0 then tz_aload 1 0 else dead
      else
       if pc = 1 then tz_iload 2 1 else dead
     else
      if pc < 3 then
       if pc = 2 then tz_iload 3 2 else dead
      else
       if pc < 6 then
        if pc = 3 then tz_callV l G 6 M_Nw_goOut 2 1 else dead
       else
        if pc = 6 then tz_istore 7 3 else dead
    else
     if pc < 12 then
      if pc < 8 then
       if pc = 7 then tz_iload 8 3 else dead
      else
       if pc < 11 then
        if pc = 8 then tz_if 11 15 (fun a => 0 ≤ a) else dead
       else
        if pc = 11 then tz_iload 12 3 else dead
     else
      if pc < 15 then
       if pc = 12 then tz_goto 21 else dead
      else
       if pc < 16 then
        if pc = 15 then tz_aload 16 0 else dead
       else
        if pc = 16 then tz_iload 17 3 else dead
   else
    if pc < 28 then
     if pc < 23 then
      if pc < 18 then
       if pc = 17 then tz_iload 18 2 else dead
      else
       if pc < 21 then
        if pc = 18 then tz_callV l G 21 M_Nw_comeIn 2 1 else dead
       else
        if pc = 21 then tz_istore 23 4 else dead
     else
      if pc < 25 then
       if pc = 23 then tz_iload 25 4 else dead
      else
       if pc < 26 then
        if pc = 25 then tz_i1 26 (fun a => -a) else dead
       else
        if pc = 26 then tz_istore 28 5 else dead
    else
     if pc < 33 then
      if pc < 29 then
       if pc = 28 then tz_aload 29 0 else dead
      else
       if pc < 30 then
        if pc = 29 then tz_dup 30 else dead
       else
        if pc = 30 then tz_getf 33 1 4 0 else dead
     else
      if pc < 34 then
       if pc = 33 then tz_const 34 (.int (nI 1)) else dead
      else
       if pc < 35 then
        if pc = 34 then tz_i2 35 (fun a b => a + b) else dead
       else
        if pc = 35 then tz_puti 38 1 4 else dead
  else
   if pc < 62 then
    if pc < 49 then
     if pc < 44 then
      if pc < 40 then
       if pc = 38 then tz_iload 40 4 else dead
      else
       if pc < 43 then
        if pc = 40 then tz_if 43 56 (fun a => a < 0) else dead
       else
        if pc = 43 then tz_aload 44 0 else dead
     else
      if pc < 45 then
       if pc = 44 then tz_dup 45 else dead
      else
       if pc < 48 then
        if pc = 45 then tz_getf 48 1 5 0 else dead
       else
        if pc = 48 then tz_const 49 (.int (nI 1)) else dead
    else
     if pc < 56 then
      if pc < 50 then
       if pc = 49 then tz_i2 50 (fun a b => a + b) else dead
      else
       if pc < 53 then
        if pc = 50 then tz_puti 53 1 5 else dead
       else
        if pc = 53 then tz_goto 77 else dead
     else
      if pc < 58 then
       if pc = 56 then tz_iload 58 5 else dead
      else
       if pc < 59 then
        if pc = 58 then tz_aload 59 0 else dead
       else
        if pc = 59 then tz_getf 62 1 1 1 else dead
   else
    if pc < 73 then
     if pc < 67 then
      if pc < 63 then
       if pc = 62 then tz_alen 63 else dead
      else
       if pc < 66 then
        if pc = 63 then tz_icmp 66 77 (fun a b => b ≤ a) else dead
       else
        if pc = 66 then tz_aload 67 0 else dead
     else
      if pc < 70 then
       if pc = 67 then tz_getf 70 1 1 1 else dead
      else
       if pc < 72 then
        if pc = 70 then tz_iload 72 5 else dead
       else
        if pc = 72 then tz_dup2 73 else dead
    else
     if pc < 76 then
      if pc < 74 then
       if pc = 73 then tz_iaload 74 else dead
      else
       if pc < 75 then
        if pc = 74 then tz_const 75 (.int (nI 1)) else dead
       else
        if pc = 75 then tz_i2 76 (fun a b => a + b) else dead
     else
      if pc < 77 then
       if pc = 76 then tz_iastore 77 else dead
      else
       if pc < 79 then
        if pc = 77 then tz_iload 79 4 else dead
       else
        if pc = 79 then tz_iret else dead
set_option maxRecDepth 100000 in
theorem T_Nw_carry (l : Launch) (G : Gc) : TabOK l G M_Nw_carry (k_Nw_carry l G) := by
  intro pc
  unfold k_Nw_carry
  exact
   (sd_br
    (sd_br
     (sd_br
      (sd_br
       (sd_br
        (sd_lf (sd_aload_n (k := 0) (by decide +kernel : decode prog_3_method_13_code 0 = .ok (.aload_n 0, 1))))
        (sd_lf (sd_iload_n (k := 1) (by decide +kernel : decode prog_3_method_13_code 1 = .ok (.iload_n 1, 1)))))
       (sd_br
        (sd_lf (sd_iload_n (k := 2) (by decide +kernel : decode prog_3_method_13_code 2 = .ok (.iload_n 2, 1))))
        (sd_br
         (sd_lf (sd_callV (q := (RX1, TX1, 6)) (by decide +kernel : decode prog_3_method_13_code 3 = .ok (.invokevirtual 79, 3)) ok_Nw_goOut (gm 699 (by decide +kernel) rfl) (gm 701 (by decide +kernel) rfl) (gm 17 (by decide +kernel) rfl) rfl rfl (by decide +kernel) rfl rfl))
         (sd_lf (sd_istore_n (k := 3) (by decide +kernel : decode prog_3_method_13_code 6 = .ok (.istore_n 3, 1)))))))
      (sd_br
       (sd_br
        (sd_lf (sd_iload_n (k := 3) (by decide +kernel : decode prog_3_method_13_code 7 = .ok (.iload_n 3, 1))))
        (sd_br
         (sd_lf (sd_if_ge (by decide +kernel : decode prog_3_method_13_code 8 = .ok (.ifCond .ge 7, 3)) (by decide +kernel)))
         (sd_lf (sd_iload_n (k := 3) (by decide +kernel : decode prog_3_method_13_code 11 = .ok (.iload_n 3, 1))))))
       (sd_br
        (sd_lf (sd_goto (by decide +kernel : decode prog_3_method_13_code 12 = .ok (.goto 9, 3)) (by decide +kernel)))
        (sd_br
         (sd_lf (sd_aload_n (k := 0) (by decide +kernel : decode prog_3_method_13_code 15 = .ok (.aload_n 0, 1))))
         (sd_lf (sd_iload_n (k := 3) (by decide +kernel : decode prog_3_method_13_code 16 = .ok (.iload_n 3, 1))))))))
     (sd_br
      (sd_br
       (sd_br
        (sd_lf (sd_iload_n (k := 2) (by decide +kernel : decode prog_3_method_13_code 17 = .ok (.iload_n 2, 1))))
        (sd_br
         (sd_lf (sd_callV (q := (RX1, TX1, 6)) (by decide +kernel : decode prog_3_method_13_code 18 = .ok (.invokevirtual 83, 3)) ok_Nw_comeIn (gm 753 (by decide +kernel) rfl) (gm 755 (by decide +kernel) rfl) (gm 23 (by decide +kernel) rfl) rfl rfl (by decide +kernel) rfl rfl))
         (sd_lf (sd_istore (by decide +kernel : decode prog_3_method_13_code 21 = .ok (.istore 4, 2))))))
       (sd_br
        (sd_lf (sd_iload (by decide +kernel : decode prog_3_method_13_code 23 = .ok (.iload 4, 2))))
        (sd_br
         (sd_lf (sd_ineg (by decide +kernel : decode prog_3_method_13_code 25 = .ok (.ineg, 1))))
         (sd_lf (sd_istore (by decide +kernel : decode prog_3_method_13_code 26 = .ok (.istore 5, 2)))))))
      (sd_br
       (sd_br
        (sd_lf (sd_aload_n (k := 0) (by decide +kernel : decode prog_3_method_13_code 28 = .ok (.aload_n 0, 1))))
        (sd_br
         (sd_lf (sd_dup (by decide +kernel : decode prog_3_method_13_code 29 = .ok (.dup, 1))))
         (sd_lf (sd_getf (q := (RX1, TX1, 6)) (by decide +kernel : decode prog_3_method_13_code 30 = .ok (.getfield 28, 3)) rfl (by decide +kernel) (gm 111 (by decide +kernel) rfl)))))
       (sd_br
        (sd_lf (sd_iconst (by decide +kernel : decode prog_3_method_13_code 33 = .ok (.iconst 1, 1)) (by decide +kernel)))
        (sd_br
         (sd_lf (sd_iadd (by decide +kernel : decode prog_3_method_13_code 34 = .ok (.iadd, 1))))
         (sd_lf (sd_puti (q := (RX1, TX1, 6)) (by decide +kernel : decode prog_3_method_13_code 35 = .ok (.putfield 28, 3)) rfl (by decide +kernel) (gm 111 (by decide +kernel) rfl) rfl rfl (Or.inl rfl))))))))
    (sd_br
     (sd_br
      (sd_br
       (sd_br
        (sd_lf (sd_iload (by decide +kernel : decode prog_3_method_13_code 38 = .ok (.iload 4, 2))))
        (sd_br
         (sd_lf (sd_if_lt (by decide +kernel : decode prog_3_method_13_code 40 = .ok (.ifCond .lt 16, 3)) (by decide +kernel)))
         (sd_lf (sd_aload_n (k := 0) (by decide +kernel : decode prog_3_method_13_code 43 = .ok (.aload_n 0, 1))))))
       (sd_br
        (sd_lf (sd_dup (by decide +kernel : decode prog_3_method_13_code 44 = .ok (.dup, 1))))
        (sd_br
         (sd_lf (sd_getf (q := (RX1, TX1, 6)) (by decide +kernel : decode prog_3_method_13_code 45 = .ok (.getfield 31, 3)) rfl (by decide +kernel) (gm 113 (by decide +kernel) rfl)))
         (sd_lf (sd_iconst (by decide +kernel : decode prog_3_method_13_code 48 = .ok (.iconst 1, 1)) (by decide +kernel))))))
      (sd_br
       (sd_br
        (sd_lf (sd_iadd (by decide +kernel : decode prog_3_method_13_code 49 = .ok (.iadd, 1))))
        (sd_br
         (sd_lf (sd_puti (q := (RX1, TX1, 6)) (by decide +kernel : decode prog_3_method_13_code 50 = .ok (.putfield 31, 3)) rfl (by decide +kernel) (gm 113 (by decide +kernel) rfl) rfl rfl (Or.inl rfl)))
         (sd_lf (sd_goto (by decide +kernel : decode prog_3_method_13_code 53 = .ok (.goto 24, 3)) (by decide +kernel)))))
       (sd_br
        (sd_lf (sd_iload (by decide +kernel : decode prog_3_method_13_code 56 = .ok (.iload 5, 2))))
        (sd_br
         (sd_lf (sd_aload_n (k := 0) (by decide +kernel : decode prog_3_method_13_code 58 = .ok (.aload_n 0, 1))))
         (sd_lf (sd_getf (q := (RX1, TX1, 6)) (by decide +kernel : decode prog_3_method_13_code 59 = .ok (.getfield 17, 3)) rfl (by decide +kernel) (gm 105 (by decide +kernel) rfl)))))))
     (sd_br
      (sd_br
       (sd_br
        (sd_lf (sd_alen (by decide +kernel : decode prog_3_method_13_code 62 = .ok (.arraylength, 1))))
        (sd_br
         (sd_lf (sd_icmp_ge (by decide +kernel : decode prog_3_method_13_code 63 = .ok (.if_icmp .ge 14, 3)) (by decide +kernel)))
         (sd_lf (sd_aload_n (k := 0) (by decide +kernel : decode prog_3_method_13_code 66 = .ok (.aload_n 0, 1))))))
       (sd_br
        (sd_lf (sd_getf (q := (RX1, TX1, 6)) (by decide +kernel : decode prog_3_method_13_code 67 = .ok (.getfield 17, 3)) rfl (by decide +kernel) (gm 105 (by decide +kernel) rfl)))
        (sd_br
         (sd_lf (sd_iload (by decide +kernel : decode prog_3_method_13_code 70 = .ok (.iload 5, 2))))
         (sd_lf (sd_dup2 (by decide +kernel : decode prog_3_method_13_code 72 = .ok (.dup2, 1)))))))
      (sd_br
       (sd_br
        (sd_lf (sd_iaload (by decide +kernel : decode prog_3_method_13_code 73 = .ok (.iaload, 1))))
        (sd_br
         (sd_lf (sd_iconst (by decide +kernel : decode prog_3_method_13_code 74 = .ok (.iconst 1, 1)) (by decide +kernel)))
         (sd_lf (sd_iadd (by decide +kernel : decode prog_3_method_13_code 75 = .ok (.iadd, 1))))))
       (sd_br
        (sd_lf (sd_iastore (by decide +kernel : decode prog_3_method_13_code 76 = .ok (.iastore, 1))))
        (sd_br
         (sd_lf (sd_iload (by decide +kernel : decode prog_3_method_13_code 77 = .ok (.iload 4, 2))))
         (sd_lf (sd_iret (by decide +kernel : decode prog_3_method_13_code 79 = .ok (.ireturn, 1)) rfl))))))))
/-- the class's filter is the reference's -/
theorem adm_iff {h : AH} {m t i sa sp c : Nat} {z : Nat → Int32} {r : Int32} (v : MpV h m z t i) (con : ConI z t i) (ec : knw z t i = c) (er : r = z (16 + 16 * t + 3)) (hr : in1 r 0 2) (hm : mny z ≤ 10) (hs : sa < 100) (hp : sp < 10000) : adm h m c (nI (sa * 10000 + sp)) r ↔ pfZ z t i (nI sa) (nI sp) c := by
  obtain ⟨k, -, k2, ek⟩ := hr
  have cs : k = 0 ∨ k = 1 ∨ k = 2 := by omega
  have cv := v.2
  have ce := con.2.1
  rw [ec] at cv ce
  have nd : ∀ q, q < c → ∃ b d, b < 100 ∧ d < 10000 ∧ z (816 + 2 * (8 * (8 * t + i) + q)) = nI b ∧ z (816 + 2 * (8 * (8 * t + i) + q) + 1) = nI d ∧ hI h (cC h m) q = nI (b * 10000 + d) := by
    intro q hq
    obtain ⟨⟨b, b1, b2⟩, ⟨d, d1, d2, d3⟩⟩ := ce q hq
    exact ⟨b, d, by omega, by omega, b2, d3, by rw [cv q hq, b2, d3, enc_N]⟩
  unfold adm pfZ
  rw [← er, ek]
  rcases cs with rfl | rfl | rfl
  · exact ⟨fun _ => Or.inl rfl, fun _ => Or.inl rfl⟩
  · have n0 : ¬ nI 1 = nI 0 := by decide
    rw [enc_node hs hp]
    constructor
    · rintro (q | ⟨-, -, q, q1, q2⟩ | ⟨-, q, -⟩)
      · exact absurd q n0
      · obtain ⟨b, d, b1, d1, e1, e2, e3⟩ := nd q q1
        rw [e3, enc_node b1 d1] at q2
        exact Or.inr ⟨q, q1, by rw [e1]; exact q2, Or.inl rfl⟩
      · exact absurd rfl q
    · rintro (q | ⟨q, q1, q2, -⟩)
      · exact absurd q n0
      · obtain ⟨b, d, b1, d1, e1, e2, e3⟩ := nd q q1
        exact Or.inr (Or.inl ⟨n0, rfl, q, q1, by rw [e3, enc_node b1 d1, ← e1]; exact q2⟩)
  · have n0 : ¬ nI 2 = nI 0 := by decide
    have n1 : ¬ nI 2 = nI 1 := by decide
    constructor
    · rintro (q | ⟨-, q, -⟩ | ⟨-, -, q, q1, q2⟩)
      · exact absurd q n0
      · exact absurd q n1
      · obtain ⟨b, d, b1, d1, e1, e2, e3⟩ := nd q q1
        rw [e3] at q2
        obtain ⟨w1, w2⟩ := enc_inj b1 d1 hs hp q2
        exact Or.inr ⟨q, q1, by rw [e1, w1], Or.inr (by rw [e2, w2])⟩
    · rintro (q | ⟨q, q1, q2, q3⟩)
      · exact absurd q n0
      · rcases q3 with q3 | q3
        · exact absurd q3 n1
        · obtain ⟨b, d, b1, d1, e1, e2, e3⟩ := nd q q1
          rw [e1, nI_eq (by omega) (by omega)] at q2
          rw [e2, nI_eq (by omega) (by omega)] at q3
          exact Or.inr (Or.inr ⟨n0, n1, q, q1, by rw [e3, q2, q3]⟩)
section
variable {l : Launch} {G : Gc}
theorem lp_in {wn sa sp : Nat} {x2 r : Int32} {z' : Nat → Int32} {h0 : AH} {Q : Po} (hsp : 1 ≤ sp ∧ sp ≤ 9999) (hQ : ∀ h', NwR h' wn z' → Inv z' → Fr wn 0 h0 h' → ((∃ k, k < 10 ∧ r = nI k) ∨ r = (-2) ∨ r = (-3)) → Q (.inl (some (.int r))) h') :
    ∀ (f st : Nat) (z : Nat → Int32) (h : AH) (n q : Nat) (v5 v6 v7 : Option Value), WF h → Inv z → NwR h wn z → Fr wn 0 h0 h → sa < mny z → n < mny z → st ≤ n → (1 ≤ q ∧ q ≤ 9999) → CinR (nI sa) (nI sp) f z (nI n) (nI q) r z' →
      AWp l G M_Nw_comeIn 5 [some (.ref wn), some (.int (nI (sa * 10000 + sp))), some (.int x2), some (.int (nI (n * 10000 + q))), some (.int (nI st)), v5, v6, v7] [] h Q := by
  intro f
  induction f with
  | zero => exact fun st z h n q v5 v6 v7 _ _ _ _ _ _ _ _ hr => hr.elim
  | succ f ih =>
    intro st z h n q v5 v6 v7 hw inv k fr hsa hn hst hq hr
    have m10 := inv.1.1.at.2
    have h1 := k.1.1.1
    have nst : ¬ 10 ≤ st := by omega
    have hPt : ∀ x, P_Nw_translatorAt [.ref wn, .int x] h := fun x => k.1.NdK x
    have hPh : ∀ x, P_Nw_hostAt [.ref wn, .int x] h := fun x => k.1.NdK x
    have en := enc_node (a := n) (p := q) (by omega) (by omega)
    have ep := enc_port (a := n) (p := q) (by omega) (by omega)
    rw [en, pk_mul] at ep
    rcases hr with ⟨c, kk, e1, k10, er, ez⟩ | ⟨t, et, ht, tk, ho, hr⟩
    · rw [nI_eq (by omega) (by omega)] at e1
      subst e1
      have hk : z (16 + 16 * n) = nI 0 := by
        rcases (inv.1.2.2.2 n hn).1.1 with w | w
        · exact w
        · exact absurd ⟨n, hn, rfl, w⟩ c
      obtain ⟨d, e1, e2, -, d1, sd, nv⟩ := k.ho m10 hn hk
      have d0 := sd.1
      have rd : rt h d = some wn := rt_gh sd.2.1
      obtain ⟨I, mI⟩ := inv.del hn hk hsa hsp hq
      ((obtain ⟨W9, hW9, hgo9⟩ := wp_ex (T_Nw_comeIn l G) [5] _; refine hgo9 200 _ _ _ _ ?_; simp -implicitDefEqProofs (disch := omega) only [hW9, inl, gate, Xq, tz_const, tz_iload, tz_lload, tz_dload, tz_aload, tz_istore, tz_astore, tz_lstore, tz_dstore, tz_iinc, tz_i1, tz_i2, tz_i2z, tz_l2, tz_l2z, tz_i2l, tz_l2i, tz_lcmp, tz_i2d, tz_d2, tz_dcmp, tz_dup, tz_dup2, tz_pop, tz_if, tz_icmp, tz_null, tz_goto, tz_sw, tz_getf, tz_puti, tz_putz, tz_putr, tz_putl, tz_iaload, tz_baload, tz_laload, tz_aaload, tz_iastore, tz_bastore, tz_lastore, tz_aastore, tz_alen, tz_new, tz_newa, tz_oinit, tz_iret, tz_zret, tz_lret, tz_dret, tz_aret, tz_vret, tz_throw, tz_callS, tz_callV, tz_callI, tz_callR, tz_pureS, tz_pureV, tz_callVH, lg, lset, lkill, lst1, lst2, entL, isRf, is1, vl, va_rf_none, va_rf_some, isRf_rf, is1_rf, i0, i1, bI_eq0, bI_eq1, nm_em, nI_eqP, nI_leP, nI_ltP, nN_e1, nN_e2, nN_l1, nN_l2, nN_l3, nN_l4, nI_add, pk_mul, vp_inN, nI_cl, n01, n10, P_i, P_ii, P_iii, f_Mo_at, f_Mo_map, f_Mo_contact, f_Mo_within, f_Mo_isPort, f_Hp_endpoint, f_Hp_nodeOf, f_Hp_portOf, f_Ma_max, f_Ma_min, f_Hp_isSetting, popN, rok, a1, noX, swc, mL, if_true, if_false, ↓reduceIte, cond_true, cond_false, true_and, and_true, List.length_cons, List.length_nil, List.nil_append, List.cons_append, List.append_nil, Option.toList, Nat.reduceEqDiff, Bool.false_eq_true, reduceCtorEq, Nat.reduceAdd, Nat.reduceLT, Nat.reduceLeDiff, Nat.reduceSub, List.replicate, Nat.zero_add, Nat.lt_add_one, Nat.le_refl, Nat.zero_le, Nat.succ_ne_zero, not_false_eq_true, not_true_eq_false, false_implies, true_implies, forall_const, imp_self, true_or, or_true, eq_self, sI_zw, zw_zw, hI_zw, tg_zw, ln_zw, hR_zw, hL_zw, hN_zw, hM_zw, upd_s, upd_u, upd_ne, Classical.not_not, k_Nw_comeIn, h1, nst, en, ep, hPh, f_Nw_hostAt, e2, d0]; try clear hgo9 hW9); try (obtain ⟨W9, hW9, hgo9⟩ := wp_ex (T_Nw_comeIn l G) [5] _; refine hgo9 200 _ _ _ _ ?_; simp -implicitDefEqProofs (disch := omega) only [hW9, inl, gate, Xq, tz_const, tz_iload, tz_lload, tz_dload, tz_aload, tz_istore, tz_astore, tz_lstore, tz_dstore, tz_iinc, tz_i1, tz_i2, tz_i2z, tz_l2, tz_l2z, tz_i2l, tz_l2i, tz_lcmp, tz_i2d, tz_d2, tz_dcmp, tz_dup, tz_dup2, tz_pop, tz_if, tz_icmp, tz_null, tz_goto, tz_sw, tz_getf, tz_puti, tz_putz, tz_putr, tz_putl, tz_iaload, tz_baload, tz_laload, tz_aaload, tz_iastore, tz_bastore, tz_lastore, tz_aastore, tz_alen, tz_new, tz_newa, tz_oinit, tz_iret, tz_zret, tz_lret, tz_dret, tz_aret, tz_vret, tz_throw, tz_callS, tz_callV, tz_callI, tz_callR, tz_pureS, tz_pureV, tz_callVH, lg, lset, lkill, lst1, lst2, entL, isRf, is1, vl, va_rf_none, va_rf_some, isRf_rf, is1_rf, i0, i1, bI_eq0, bI_eq1, nm_em, nI_eqP, nI_leP, nI_ltP, nN_e1, nN_e2, nN_l1, nN_l2, nN_l3, nN_l4, nI_add, pk_mul, vp_inN, nI_cl, n01, n10, P_i, P_ii, P_iii, f_Mo_at, f_Mo_map, f_Mo_contact, f_Mo_within, f_Mo_isPort, f_Hp_endpoint, f_Hp_nodeOf, f_Hp_portOf, f_Ma_max, f_Ma_min, f_Hp_isSetting, popN, rok, a1, noX, swc, mL, if_true, if_false, ↓reduceIte, cond_true, cond_false, true_and, and_true, List.length_cons, List.length_nil, List.nil_append, List.cons_append, List.append_nil, Option.toList, Nat.reduceEqDiff, Bool.false_eq_true, reduceCtorEq, Nat.reduceAdd, Nat.reduceLT, Nat.reduceLeDiff, Nat.reduceSub, List.replicate, Nat.zero_add, Nat.lt_add_one, Nat.le_refl, Nat.zero_le, Nat.succ_ne_zero, not_false_eq_true, not_true_eq_false, false_implies, true_implies, forall_const, imp_self, true_or, or_true, eq_self, sI_zw, zw_zw, hI_zw, tg_zw, ln_zw, hR_zw, hL_zw, hN_zw, hM_zw, upd_s, upd_u, upd_ne, Classical.not_not, k_Nw_comeIn, h1, nst, en, ep, hPh, f_Nw_hostAt, e2, d0]; try clear hgo9 hW9); try (obtain ⟨W9, hW9, hgo9⟩ := wp_ex (T_Nw_comeIn l G) [5] _; refine hgo9 200 _ _ _ _ ?_; simp -implicitDefEqProofs (disch := omega) only [hW9, inl, gate, Xq, tz_const, tz_iload, tz_lload, tz_dload, tz_aload, tz_istore, tz_astore, tz_lstore, tz_dstore, tz_iinc, tz_i1, tz_i2, tz_i2z, tz_l2, tz_l2z, tz_i2l, tz_l2i, tz_lcmp, tz_i2d, tz_d2, tz_dcmp, tz_dup, tz_dup2, tz_pop, tz_if, tz_icmp, tz_null, tz_goto, tz_sw, tz_getf, tz_puti, tz_putz, tz_putr, tz_putl, tz_iaload, tz_baload, tz_laload, tz_aaload, tz_iastore, tz_bastore, tz_lastore, tz_aastore, tz_alen, tz_new, tz_newa, tz_oinit, tz_iret, tz_zret, tz_lret, tz_dret, tz_aret, tz_vret, tz_throw, tz_callS, tz_callV, tz_callI, tz_callR, tz_pureS, tz_pureV, tz_callVH, lg, lset, lkill, lst1, lst2, entL, isRf, is1, vl, va_rf_none, va_rf_some, isRf_rf, is1_rf, i0, i1, bI_eq0, bI_eq1, nm_em, nI_eqP, nI_leP, nI_ltP, nN_e1, nN_e2, nN_l1, nN_l2, nN_l3, nN_l4, nI_add, pk_mul, vp_inN, nI_cl, n01, n10, P_i, P_ii, P_iii, f_Mo_at, f_Mo_map, f_Mo_contact, f_Mo_within, f_Mo_isPort, f_Hp_endpoint, f_Hp_nodeOf, f_Hp_portOf, f_Ma_max, f_Ma_min, f_Hp_isSetting, popN, rok, a1, noX, swc, mL, if_true, if_false, ↓reduceIte, cond_true, cond_false, true_and, and_true, List.length_cons, List.length_nil, List.nil_append, List.cons_append, List.append_nil, Option.toList, Nat.reduceEqDiff, Bool.false_eq_true, reduceCtorEq, Nat.reduceAdd, Nat.reduceLT, Nat.reduceLeDiff, Nat.reduceSub, List.replicate, Nat.zero_add, Nat.lt_add_one, Nat.le_refl, Nat.zero_le, Nat.succ_ne_zero, not_false_eq_true, not_true_eq_false, false_implies, true_implies, forall_const, imp_self, true_or, or_true, eq_self, sI_zw, zw_zw, hI_zw, tg_zw, ln_zw, hR_zw, hL_zw, hN_zw, hM_zw, upd_s, upd_u, upd_ne, Classical.not_not, k_Nw_comeIn, h1, nst, en, ep, hPh, f_Nw_hostAt, e2, d0]; try clear hgo9 hW9))
      subst er
      have fz : Fr wn 0 h (zw h d (upd (upd (hI h d) 2 (nI (sa * 10000 + sp))) 3 (nI q))) := Fr.zw hw rd
      refine hQ _ (NwR.setD hw inv.1 k hn d1 (fun j j1 j2 j3 => ?_) ⟨fun w => ?_, fun w => ?_, ?_, ?_, ?_⟩) (by rw [ez]; exact I) (fr.tr fz) (Or.inl ⟨n, by omega, rfl⟩)
      · rw [ez]; unfold delZ; rw [upd_ne j3, upd_ne j2, upd_ne j1]
      · rw [hI_zw, upd_ne (by omega), upd_ne (by omega)]; exact nv.1 hk
      · exfalso
        rw [ez] at w
        unfold delZ at w
        rw [upd_ne (by omega), upd_ne (by omega), upd_ne (by omega), hk] at w
        exact absurd w (by decide)
      · rw [hI_zw, upd_ne (by omega), upd_ne (by omega), ez]
        unfold delZ
        rw [upd_ne (by omega), upd_ne (by omega), upd_ne (by omega)]
        exact nv.2.2.1
      · rw [hI_zw, upd_ne (by omega), upd_s, ez]
        unfold delZ encD
        rw [upd_ne (by omega), upd_ne (by omega), upd_s, if_neg (by rw [nN_e2 (by omega)]; exact id), upd_ne (by omega), upd_s, enc_N]
      · rw [hI_zw, upd_s, ez]
        unfold delZ
        rw [upd_s]
    · rw [nI_eq (by omega) (by omega)] at et
      subst et
      obtain ⟨dd, tt, e1, e2, -, d1, d2, d3, sh, tl⟩ := k.tr m10 hn tk
      have tra := (inv.1.2.2.2 n hn).2.2.2 tk
      have g1 := sh.1.1
      have o8 := tra.1.2
      have slk := tl.SlK sh o8
      ((obtain ⟨W9, hW9, hgo9⟩ := wp_ex (T_Nw_comeIn l G) [5] _; refine hgo9 200 _ _ _ _ ?_; simp -implicitDefEqProofs (disch := omega) only [hW9, inl, gate, Xq, tz_const, tz_iload, tz_lload, tz_dload, tz_aload, tz_istore, tz_astore, tz_lstore, tz_dstore, tz_iinc, tz_i1, tz_i2, tz_i2z, tz_l2, tz_l2z, tz_i2l, tz_l2i, tz_lcmp, tz_i2d, tz_d2, tz_dcmp, tz_dup, tz_dup2, tz_pop, tz_if, tz_icmp, tz_null, tz_goto, tz_sw, tz_getf, tz_puti, tz_putz, tz_putr, tz_putl, tz_iaload, tz_baload, tz_laload, tz_aaload, tz_iastore, tz_bastore, tz_lastore, tz_aastore, tz_alen, tz_new, tz_newa, tz_oinit, tz_iret, tz_zret, tz_lret, tz_dret, tz_aret, tz_vret, tz_throw, tz_callS, tz_callV, tz_callI, tz_callR, tz_pureS, tz_pureV, tz_callVH, lg, lset, lkill, lst1, lst2, entL, isRf, is1, vl, va_rf_none, va_rf_some, isRf_rf, is1_rf, i0, i1, bI_eq0, bI_eq1, nm_em, nI_eqP, nI_leP, nI_ltP, nN_e1, nN_e2, nN_l1, nN_l2, nN_l3, nN_l4, nI_add, pk_mul, vp_inN, nI_cl, n01, n10, P_i, P_ii, P_iii, f_Mo_at, f_Mo_map, f_Mo_contact, f_Mo_within, f_Mo_isPort, f_Hp_endpoint, f_Hp_nodeOf, f_Hp_portOf, f_Ma_max, f_Ma_min, f_Hp_isSetting, popN, rok, a1, noX, swc, mL, if_true, if_false, ↓reduceIte, cond_true, cond_false, true_and, and_true, List.length_cons, List.length_nil, List.nil_append, List.cons_append, List.append_nil, Option.toList, Nat.reduceEqDiff, Bool.false_eq_true, reduceCtorEq, Nat.reduceAdd, Nat.reduceLT, Nat.reduceLeDiff, Nat.reduceSub, List.replicate, Nat.zero_add, Nat.lt_add_one, Nat.le_refl, Nat.zero_le, Nat.succ_ne_zero, not_false_eq_true, not_true_eq_false, false_implies, true_implies, forall_const, imp_self, true_or, or_true, eq_self, sI_zw, zw_zw, hI_zw, tg_zw, ln_zw, hR_zw, hL_zw, hN_zw, hM_zw, upd_s, upd_u, upd_ne, Classical.not_not, k_Nw_comeIn, h1, nst, en, ep, hPh, f_Nw_hostAt, e2, hPt, f_Nw_translatorAt, e1, g1]; try clear hgo9 hW9); try (obtain ⟨W9, hW9, hgo9⟩ := wp_ex (T_Nw_comeIn l G) [5] _; refine hgo9 200 _ _ _ _ ?_; simp -implicitDefEqProofs (disch := omega) only [hW9, inl, gate, Xq, tz_const, tz_iload, tz_lload, tz_dload, tz_aload, tz_istore, tz_astore, tz_lstore, tz_dstore, tz_iinc, tz_i1, tz_i2, tz_i2z, tz_l2, tz_l2z, tz_i2l, tz_l2i, tz_lcmp, tz_i2d, tz_d2, tz_dcmp, tz_dup, tz_dup2, tz_pop, tz_if, tz_icmp, tz_null, tz_goto, tz_sw, tz_getf, tz_puti, tz_putz, tz_putr, tz_putl, tz_iaload, tz_baload, tz_laload, tz_aaload, tz_iastore, tz_bastore, tz_lastore, tz_aastore, tz_alen, tz_new, tz_newa, tz_oinit, tz_iret, tz_zret, tz_lret, tz_dret, tz_aret, tz_vret, tz_throw, tz_callS, tz_callV, tz_callI, tz_callR, tz_pureS, tz_pureV, tz_callVH, lg, lset, lkill, lst1, lst2, entL, isRf, is1, vl, va_rf_none, va_rf_some, isRf_rf, is1_rf, i0, i1, bI_eq0, bI_eq1, nm_em, nI_eqP, nI_leP, nI_ltP, nN_e1, nN_e2, nN_l1, nN_l2, nN_l3, nN_l4, nI_add, pk_mul, vp_inN, nI_cl, n01, n10, P_i, P_ii, P_iii, f_Mo_at, f_Mo_map, f_Mo_contact, f_Mo_within, f_Mo_isPort, f_Hp_endpoint, f_Hp_nodeOf, f_Hp_portOf, f_Ma_max, f_Ma_min, f_Hp_isSetting, popN, rok, a1, noX, swc, mL, if_true, if_false, ↓reduceIte, cond_true, cond_false, true_and, and_true, List.length_cons, List.length_nil, List.nil_append, List.cons_append, List.append_nil, Option.toList, Nat.reduceEqDiff, Bool.false_eq_true, reduceCtorEq, Nat.reduceAdd, Nat.reduceLT, Nat.reduceLeDiff, Nat.reduceSub, List.replicate, Nat.zero_add, Nat.lt_add_one, Nat.le_refl, Nat.zero_le, Nat.succ_ne_zero, not_false_eq_true, not_true_eq_false, false_implies, true_implies, forall_const, imp_self, true_or, or_true, eq_self, sI_zw, zw_zw, hI_zw, tg_zw, ln_zw, hR_zw, hL_zw, hN_zw, hM_zw, upd_s, upd_u, upd_ne, Classical.not_not, k_Nw_comeIn, h1, nst, en, ep, hPh, f_Nw_hostAt, e2, hPt, f_Nw_translatorAt, e1, g1]; try clear hgo9 hW9); try (obtain ⟨W9, hW9, hgo9⟩ := wp_ex (T_Nw_comeIn l G) [5] _; refine hgo9 200 _ _ _ _ ?_; simp -implicitDefEqProofs (disch := omega) only [hW9, inl, gate, Xq, tz_const, tz_iload, tz_lload, tz_dload, tz_aload, tz_istore, tz_astore, tz_lstore, tz_dstore, tz_iinc, tz_i1, tz_i2, tz_i2z, tz_l2, tz_l2z, tz_i2l, tz_l2i, tz_lcmp, tz_i2d, tz_d2, tz_dcmp, tz_dup, tz_dup2, tz_pop, tz_if, tz_icmp, tz_null, tz_goto, tz_sw, tz_getf, tz_puti, tz_putz, tz_putr, tz_putl, tz_iaload, tz_baload, tz_laload, tz_aaload, tz_iastore, tz_bastore, tz_lastore, tz_aastore, tz_alen, tz_new, tz_newa, tz_oinit, tz_iret, tz_zret, tz_lret, tz_dret, tz_aret, tz_vret, tz_throw, tz_callS, tz_callV, tz_callI, tz_callR, tz_pureS, tz_pureV, tz_callVH, lg, lset, lkill, lst1, lst2, entL, isRf, is1, vl, va_rf_none, va_rf_some, isRf_rf, is1_rf, i0, i1, bI_eq0, bI_eq1, nm_em, nI_eqP, nI_leP, nI_ltP, nN_e1, nN_e2, nN_l1, nN_l2, nN_l3, nN_l4, nI_add, pk_mul, vp_inN, nI_cl, n01, n10, P_i, P_ii, P_iii, f_Mo_at, f_Mo_map, f_Mo_contact, f_Mo_within, f_Mo_isPort, f_Hp_endpoint, f_Hp_nodeOf, f_Hp_portOf, f_Ma_max, f_Ma_min, f_Hp_isSetting, popN, rok, a1, noX, swc, mL, if_true, if_false, ↓reduceIte, cond_true, cond_false, true_and, and_true, List.length_cons, List.length_nil, List.nil_append, List.cons_append, List.append_nil, Option.toList, Nat.reduceEqDiff, Bool.false_eq_true, reduceCtorEq, Nat.reduceAdd, Nat.reduceLT, Nat.reduceLeDiff, Nat.reduceSub, List.replicate, Nat.zero_add, Nat.lt_add_one, Nat.le_refl, Nat.zero_le, Nat.succ_ne_zero, not_false_eq_true, not_true_eq_false, false_implies, true_implies, forall_const, imp_self, true_or, or_true, eq_self, sI_zw, zw_zw, hI_zw, tg_zw, ln_zw, hR_zw, hL_zw, hN_zw, hM_zw, upd_s, upd_u, upd_ne, Classical.not_not, k_Nw_comeIn, h1, nst, en, ep, hPh, f_Nw_hostAt, e2, hPt, f_Nw_translatorAt, e1, g1]; try clear hgo9 hW9))
      refine c_Tl_mappingIn tt (own z n) (nI q) h _ slk (fun no => ?_) (fun j hj ej fi => ?_)
      · simp only [aft]
        ((obtain ⟨W9, hW9, hgo9⟩ := wp_ex (T_Nw_comeIn l G) [5] _; refine hgo9 200 _ _ _ _ ?_; simp -implicitDefEqProofs (disch := omega) only [hW9, inl, gate, Xq, tz_const, tz_iload, tz_lload, tz_dload, tz_aload, tz_istore, tz_astore, tz_lstore, tz_dstore, tz_iinc, tz_i1, tz_i2, tz_i2z, tz_l2, tz_l2z, tz_i2l, tz_l2i, tz_lcmp, tz_i2d, tz_d2, tz_dcmp, tz_dup, tz_dup2, tz_pop, tz_if, tz_icmp, tz_null, tz_goto, tz_sw, tz_getf, tz_puti, tz_putz, tz_putr, tz_putl, tz_iaload, tz_baload, tz_laload, tz_aaload, tz_iastore, tz_bastore, tz_lastore, tz_aastore, tz_alen, tz_new, tz_newa, tz_oinit, tz_iret, tz_zret, tz_lret, tz_dret, tz_aret, tz_vret, tz_throw, tz_callS, tz_callV, tz_callI, tz_callR, tz_pureS, tz_pureV, tz_callVH, lg, lset, lkill, lst1, lst2, entL, isRf, is1, vl, va_rf_none, va_rf_some, isRf_rf, is1_rf, i0, i1, bI_eq0, bI_eq1, nm_em, nI_eqP, nI_leP, nI_ltP, nN_e1, nN_e2, nN_l1, nN_l2, nN_l3, nN_l4, nI_add, pk_mul, vp_inN, nI_cl, n01, n10, P_i, P_ii, P_iii, f_Mo_at, f_Mo_map, f_Mo_contact, f_Mo_within, f_Mo_isPort, f_Hp_endpoint, f_Hp_nodeOf, f_Hp_portOf, f_Ma_max, f_Ma_min, f_Hp_isSetting, popN, rok, a1, noX, swc, mL, if_true, if_false, ↓reduceIte, cond_true, cond_false, true_and, and_true, List.length_cons, List.length_nil, List.nil_append, List.cons_append, List.append_nil, Option.toList, Nat.reduceEqDiff, Bool.false_eq_true, reduceCtorEq, Nat.reduceAdd, Nat.reduceLT, Nat.reduceLeDiff, Nat.reduceSub, List.replicate, Nat.zero_add, Nat.lt_add_one, Nat.le_refl, Nat.zero_le, Nat.succ_ne_zero, not_false_eq_true, not_true_eq_false, false_implies, true_implies, forall_const, imp_self, true_or, or_true, eq_self, sI_zw, zw_zw, hI_zw, tg_zw, ln_zw, hR_zw, hL_zw, hN_zw, hM_zw, upd_s, upd_u, upd_ne, Classical.not_not, k_Nw_comeIn, h1, g1]; try clear hgo9 hW9); try (obtain ⟨W9, hW9, hgo9⟩ := wp_ex (T_Nw_comeIn l G) [5] _; refine hgo9 200 _ _ _ _ ?_; simp -implicitDefEqProofs (disch := omega) only [hW9, inl, gate, Xq, tz_const, tz_iload, tz_lload, tz_dload, tz_aload, tz_istore, tz_astore, tz_lstore, tz_dstore, tz_iinc, tz_i1, tz_i2, tz_i2z, tz_l2, tz_l2z, tz_i2l, tz_l2i, tz_lcmp, tz_i2d, tz_d2, tz_dcmp, tz_dup, tz_dup2, tz_pop, tz_if, tz_icmp, tz_null, tz_goto, tz_sw, tz_getf, tz_puti, tz_putz, tz_putr, tz_putl, tz_iaload, tz_baload, tz_laload, tz_aaload, tz_iastore, tz_bastore, tz_lastore, tz_aastore, tz_alen, tz_new, tz_newa, tz_oinit, tz_iret, tz_zret, tz_lret, tz_dret, tz_aret, tz_vret, tz_throw, tz_callS, tz_callV, tz_callI, tz_callR, tz_pureS, tz_pureV, tz_callVH, lg, lset, lkill, lst1, lst2, entL, isRf, is1, vl, va_rf_none, va_rf_some, isRf_rf, is1_rf, i0, i1, bI_eq0, bI_eq1, nm_em, nI_eqP, nI_leP, nI_ltP, nN_e1, nN_e2, nN_l1, nN_l2, nN_l3, nN_l4, nI_add, pk_mul, vp_inN, nI_cl, n01, n10, P_i, P_ii, P_iii, f_Mo_at, f_Mo_map, f_Mo_contact, f_Mo_within, f_Mo_isPort, f_Hp_endpoint, f_Hp_nodeOf, f_Hp_portOf, f_Ma_max, f_Ma_min, f_Hp_isSetting, popN, rok, a1, noX, swc, mL, if_true, if_false, ↓reduceIte, cond_true, cond_false, true_and, and_true, List.length_cons, List.length_nil, List.nil_append, List.cons_append, List.append_nil, Option.toList, Nat.reduceEqDiff, Bool.false_eq_true, reduceCtorEq, Nat.reduceAdd, Nat.reduceLT, Nat.reduceLeDiff, Nat.reduceSub, List.replicate, Nat.zero_add, Nat.lt_add_one, Nat.le_refl, Nat.zero_le, Nat.succ_ne_zero, not_false_eq_true, not_true_eq_false, false_implies, true_implies, forall_const, imp_self, true_or, or_true, eq_self, sI_zw, zw_zw, hI_zw, tg_zw, ln_zw, hR_zw, hL_zw, hN_zw, hM_zw, upd_s, upd_u, upd_ne, Classical.not_not, k_Nw_comeIn, h1, g1]; try clear hgo9 hW9))
        rcases hr with ⟨-, er, ez⟩ | ⟨i, hi, oi, -⟩
        · subst er ez
          exact hQ h k inv fr (Or.inr (Or.inl rfl))
        · exact absurd (((tl.slot hi).2.1.2.1).trans oi) (no i hi)
      · simp only [aft]
        have ej' : z (176 + 8 * (8 * n + j) + 2) = nI q := ((tl.slot hj).2.1.2.1).symm.trans ej
        have vj := (tl.slot hj).2
        have sj := (tl.slot hj).1
        have sm := sh.2.2.2.1 j _ (by omega) sj
        rcases hr with ⟨noP, -⟩ | ⟨i, hi, oi, fi', kn, hr⟩
        · exact absurd ⟨j, hj, ej'⟩ noP
        · have ij : i = j := by
            rcases Nat.lt_trichotomy i j with w | w | w
            · exact absurd (((tl.slot hi).2.1.2.1).trans oi) (fi i w)
            · exact w
            · exact absurd ej' (fi' j w)
          subst ij
          have con := (tra.2.2.1 i hi).2.2.2.2.2
          have hct : CtK h (mpO h tt i) (knw z n i) := ⟨sm.1, sm.2.2.1, sm.2.2.2.1, sm.2.2.2.2.1, by rw [vj.1.2.2.2.2]; exact kn.1, kn.2⟩
          have fil := tl.1.1.2.1
          have iff := adm_iff (sa := sa) (sp := sp) vj con rfl fil (by rw [fil]; exact tra.2.1.2.1) m10 (by omega) (by omega)
          have m0 := sm.1
          obtain ⟨⟨nn, nn1, nn2, nn3⟩, ⟨qq, qq1, qq2, qq3⟩, -⟩ := tra.2.2.1 i hi
          have nn2' : z (176 + 8 * (8 * n + i) + 0) = nI nn := nn2
          have qq3' : z (176 + 8 * (8 * n + i) + 1) = nI qq := qq3
          have inn : hI h (mpO h tt i) 0 = nI (nn * 10000 + qq) := by rw [vj.1.1, nn2, qq3, enc_N]
          have nlt := (net_tr inv.1 nn1 nn3 (by omega)).1
          ((obtain ⟨W9, hW9, hgo9⟩ := wp_ex (T_Nw_comeIn l G) [5] _; refine hgo9 200 _ _ _ _ ?_; simp -implicitDefEqProofs (disch := omega) only [hW9, inl, gate, Xq, tz_const, tz_iload, tz_lload, tz_dload, tz_aload, tz_istore, tz_astore, tz_lstore, tz_dstore, tz_iinc, tz_i1, tz_i2, tz_i2z, tz_l2, tz_l2z, tz_i2l, tz_l2i, tz_lcmp, tz_i2d, tz_d2, tz_dcmp, tz_dup, tz_dup2, tz_pop, tz_if, tz_icmp, tz_null, tz_goto, tz_sw, tz_getf, tz_puti, tz_putz, tz_putr, tz_putl, tz_iaload, tz_baload, tz_laload, tz_aaload, tz_iastore, tz_bastore, tz_lastore, tz_aastore, tz_alen, tz_new, tz_newa, tz_oinit, tz_iret, tz_zret, tz_lret, tz_dret, tz_aret, tz_vret, tz_throw, tz_callS, tz_callV, tz_callI, tz_callR, tz_pureS, tz_pureV, tz_callVH, lg, lset, lkill, lst1, lst2, entL, isRf, is1, vl, va_rf_none, va_rf_some, isRf_rf, is1_rf, i0, i1, bI_eq0, bI_eq1, nm_em, nI_eqP, nI_leP, nI_ltP, nN_e1, nN_e2, nN_l1, nN_l2, nN_l3, nN_l4, nI_add, pk_mul, vp_inN, nI_cl, n01, n10, P_i, P_ii, P_iii, f_Mo_at, f_Mo_map, f_Mo_contact, f_Mo_within, f_Mo_isPort, f_Hp_endpoint, f_Hp_nodeOf, f_Hp_portOf, f_Ma_max, f_Ma_min, f_Hp_isSetting, popN, rok, a1, noX, swc, mL, if_true, if_false, ↓reduceIte, cond_true, cond_false, true_and, and_true, List.length_cons, List.length_nil, List.nil_append, List.cons_append, List.append_nil, Option.toList, Nat.reduceEqDiff, Bool.false_eq_true, reduceCtorEq, Nat.reduceAdd, Nat.reduceLT, Nat.reduceLeDiff, Nat.reduceSub, List.replicate, Nat.zero_add, Nat.lt_add_one, Nat.le_refl, Nat.zero_le, Nat.succ_ne_zero, not_false_eq_true, not_true_eq_false, false_implies, true_implies, forall_const, imp_self, true_or, or_true, eq_self, sI_zw, zw_zw, hI_zw, tg_zw, ln_zw, hR_zw, hL_zw, hN_zw, hM_zw, upd_s, upd_u, upd_ne, Classical.not_not, k_Nw_comeIn, h1, g1, m0]; try clear hgo9 hW9); try (obtain ⟨W9, hW9, hgo9⟩ := wp_ex (T_Nw_comeIn l G) [5] _; refine hgo9 200 _ _ _ _ ?_; simp -implicitDefEqProofs (disch := omega) only [hW9, inl, gate, Xq, tz_const, tz_iload, tz_lload, tz_dload, tz_aload, tz_istore, tz_astore, tz_lstore, tz_dstore, tz_iinc, tz_i1, tz_i2, tz_i2z, tz_l2, tz_l2z, tz_i2l, tz_l2i, tz_lcmp, tz_i2d, tz_d2, tz_dcmp, tz_dup, tz_dup2, tz_pop, tz_if, tz_icmp, tz_null, tz_goto, tz_sw, tz_getf, tz_puti, tz_putz, tz_putr, tz_putl, tz_iaload, tz_baload, tz_laload, tz_aaload, tz_iastore, tz_bastore, tz_lastore, tz_aastore, tz_alen, tz_new, tz_newa, tz_oinit, tz_iret, tz_zret, tz_lret, tz_dret, tz_aret, tz_vret, tz_throw, tz_callS, tz_callV, tz_callI, tz_callR, tz_pureS, tz_pureV, tz_callVH, lg, lset, lkill, lst1, lst2, entL, isRf, is1, vl, va_rf_none, va_rf_some, isRf_rf, is1_rf, i0, i1, bI_eq0, bI_eq1, nm_em, nI_eqP, nI_leP, nI_ltP, nN_e1, nN_e2, nN_l1, nN_l2, nN_l3, nN_l4, nI_add, pk_mul, vp_inN, nI_cl, n01, n10, P_i, P_ii, P_iii, f_Mo_at, f_Mo_map, f_Mo_contact, f_Mo_within, f_Mo_isPort, f_Hp_endpoint, f_Hp_nodeOf, f_Hp_portOf, f_Ma_max, f_Ma_min, f_Hp_isSetting, popN, rok, a1, noX, swc, mL, if_true, if_false, ↓reduceIte, cond_true, cond_false, true_and, and_true, List.length_cons, List.length_nil, List.nil_append, List.cons_append, List.append_nil, Option.toList, Nat.reduceEqDiff, Bool.false_eq_true, reduceCtorEq, Nat.reduceAdd, Nat.reduceLT, Nat.reduceLeDiff, Nat.reduceSub, List.replicate, Nat.zero_add, Nat.lt_add_one, Nat.le_refl, Nat.zero_le, Nat.succ_ne_zero, not_false_eq_true, not_true_eq_false, false_implies, true_implies, forall_const, imp_self, true_or, or_true, eq_self, sI_zw, zw_zw, hI_zw, tg_zw, ln_zw, hR_zw, hL_zw, hN_zw, hM_zw, upd_s, upd_u, upd_ne, Classical.not_not, k_Nw_comeIn, h1, g1, m0]; try clear hgo9 hW9))
          refine c_Mp_admits (mpO h tt i) (knw z n i) _ _ h _ hct (fun y => ?_) (fun y => ?_)
          · simp only [aft]
            have pf := iff.mp y
            rcases hr with ⟨npf, -⟩ | ⟨-, hr⟩
            · exact absurd pf npf
            · have rf := tl.1.1.2.2.2.2.2.2.1
              obtain ⟨rk, -, rk2, rk3⟩ := tra.2.1.2.2.2.2.2.2.1
              by_cases c : z (16 + 16 * n + 8) = nI 1
              · rw [if_pos c, nn2', qq3'] at hr
                have nr : ¬ hI h tt 6 = nI 0 := by rw [rf, c]; decide
                have w3 := k.2.1.2.1
                have rm : rt h (mpO h tt i) = some wn := rt_gh sm.2.1
                have fz : Fr wn 0 h (zw h (mpO h tt i) (upd (hI h (mpO h tt i)) 3 (z 0))) := Fr.zw hw rm
                have lz : Lt wn n h (zw h (mpO h tt i) (upd (hI h (mpO h tt i)) 3 (z 0))) := fun b' hb' hc => ⟨rfl, hI_zw_ne _ (fun e => hc (by rw [e]; exact ⟨6, [], sm.2.1, by omega⟩)), rfl, rfl⟩
                obtain ⟨I, mI⟩ := inv.ref hn tk hi
                have inn' : hI (zw h (mpO h tt i) (upd (hI h (mpO h tt i)) 3 (z 0))) (mpO h tt i) 0 = nI (nn * 10000 + qq) := by rw [hI_zw, upd_ne (by omega)]; exact inn
                ((obtain ⟨W9, hW9, hgo9⟩ := wp_ex (T_Nw_comeIn l G) [5] _; refine hgo9 200 _ _ _ _ ?_; simp -implicitDefEqProofs (disch := omega) only [hW9, inl, gate, Xq, tz_const, tz_iload, tz_lload, tz_dload, tz_aload, tz_istore, tz_astore, tz_lstore, tz_dstore, tz_iinc, tz_i1, tz_i2, tz_i2z, tz_l2, tz_l2z, tz_i2l, tz_l2i, tz_lcmp, tz_i2d, tz_d2, tz_dcmp, tz_dup, tz_dup2, tz_pop, tz_if, tz_icmp, tz_null, tz_goto, tz_sw, tz_getf, tz_puti, tz_putz, tz_putr, tz_putl, tz_iaload, tz_baload, tz_laload, tz_aaload, tz_iastore, tz_bastore, tz_lastore, tz_aastore, tz_alen, tz_new, tz_newa, tz_oinit, tz_iret, tz_zret, tz_lret, tz_dret, tz_aret, tz_vret, tz_throw, tz_callS, tz_callV, tz_callI, tz_callR, tz_pureS, tz_pureV, tz_callVH, lg, lset, lkill, lst1, lst2, entL, isRf, is1, vl, va_rf_none, va_rf_some, isRf_rf, is1_rf, i0, i1, bI_eq0, bI_eq1, nm_em, nI_eqP, nI_leP, nI_ltP, nN_e1, nN_e2, nN_l1, nN_l2, nN_l3, nN_l4, nI_add, pk_mul, vp_inN, nI_cl, n01, n10, P_i, P_ii, P_iii, f_Mo_at, f_Mo_map, f_Mo_contact, f_Mo_within, f_Mo_isPort, f_Hp_endpoint, f_Hp_nodeOf, f_Hp_portOf, f_Ma_max, f_Ma_min, f_Hp_isSetting, popN, rok, a1, noX, swc, mL, if_true, if_false, ↓reduceIte, cond_true, cond_false, true_and, and_true, List.length_cons, List.length_nil, List.nil_append, List.cons_append, List.append_nil, Option.toList, Nat.reduceEqDiff, Bool.false_eq_true, reduceCtorEq, Nat.reduceAdd, Nat.reduceLT, Nat.reduceLeDiff, Nat.reduceSub, List.replicate, Nat.zero_add, Nat.lt_add_one, Nat.le_refl, Nat.zero_le, Nat.succ_ne_zero, not_false_eq_true, not_true_eq_false, false_implies, true_implies, forall_const, imp_self, true_or, or_true, eq_self, sI_zw, zw_zw, hI_zw, tg_zw, ln_zw, hR_zw, hL_zw, hN_zw, hM_zw, upd_s, upd_u, upd_ne, Classical.not_not, k_Nw_comeIn, h1, g1, m0, nr, w3, inn]; try clear hgo9 hW9); try (obtain ⟨W9, hW9, hgo9⟩ := wp_ex (T_Nw_comeIn l G) [5] _; refine hgo9 200 _ _ _ _ ?_; simp -implicitDefEqProofs (disch := omega) only [hW9, inl, gate, Xq, tz_const, tz_iload, tz_lload, tz_dload, tz_aload, tz_istore, tz_astore, tz_lstore, tz_dstore, tz_iinc, tz_i1, tz_i2, tz_i2z, tz_l2, tz_l2z, tz_i2l, tz_l2i, tz_lcmp, tz_i2d, tz_d2, tz_dcmp, tz_dup, tz_dup2, tz_pop, tz_if, tz_icmp, tz_null, tz_goto, tz_sw, tz_getf, tz_puti, tz_putz, tz_putr, tz_putl, tz_iaload, tz_baload, tz_laload, tz_aaload, tz_iastore, tz_bastore, tz_lastore, tz_aastore, tz_alen, tz_new, tz_newa, tz_oinit, tz_iret, tz_zret, tz_lret, tz_dret, tz_aret, tz_vret, tz_throw, tz_callS, tz_callV, tz_callI, tz_callR, tz_pureS, tz_pureV, tz_callVH, lg, lset, lkill, lst1, lst2, entL, isRf, is1, vl, va_rf_none, va_rf_some, isRf_rf, is1_rf, i0, i1, bI_eq0, bI_eq1, nm_em, nI_eqP, nI_leP, nI_ltP, nN_e1, nN_e2, nN_l1, nN_l2, nN_l3, nN_l4, nI_add, pk_mul, vp_inN, nI_cl, n01, n10, P_i, P_ii, P_iii, f_Mo_at, f_Mo_map, f_Mo_contact, f_Mo_within, f_Mo_isPort, f_Hp_endpoint, f_Hp_nodeOf, f_Hp_portOf, f_Ma_max, f_Ma_min, f_Hp_isSetting, popN, rok, a1, noX, swc, mL, if_true, if_false, ↓reduceIte, cond_true, cond_false, true_and, and_true, List.length_cons, List.length_nil, List.nil_append, List.cons_append, List.append_nil, Option.toList, Nat.reduceEqDiff, Bool.false_eq_true, reduceCtorEq, Nat.reduceAdd, Nat.reduceLT, Nat.reduceLeDiff, Nat.reduceSub, List.replicate, Nat.zero_add, Nat.lt_add_one, Nat.le_refl, Nat.zero_le, Nat.succ_ne_zero, not_false_eq_true, not_true_eq_false, false_implies, true_implies, forall_const, imp_self, true_or, or_true, eq_self, sI_zw, zw_zw, hI_zw, tg_zw, ln_zw, hR_zw, hL_zw, hN_zw, hM_zw, upd_s, upd_u, upd_ne, Classical.not_not, k_Nw_comeIn, h1, g1, m0, nr, w3, inn]; try clear hgo9 hW9); try (obtain ⟨W9, hW9, hgo9⟩ := wp_ex (T_Nw_comeIn l G) [5] _; refine hgo9 200 _ _ _ _ ?_; simp -implicitDefEqProofs (disch := omega) only [hW9, inl, gate, Xq, tz_const, tz_iload, tz_lload, tz_dload, tz_aload, tz_istore, tz_astore, tz_lstore, tz_dstore, tz_iinc, tz_i1, tz_i2, tz_i2z, tz_l2, tz_l2z, tz_i2l, tz_l2i, tz_lcmp, tz_i2d, tz_d2, tz_dcmp, tz_dup, tz_dup2, tz_pop, tz_if, tz_icmp, tz_null, tz_goto, tz_sw, tz_getf, tz_puti, tz_putz, tz_putr, tz_putl, tz_iaload, tz_baload, tz_laload, tz_aaload, tz_iastore, tz_bastore, tz_lastore, tz_aastore, tz_alen, tz_new, tz_newa, tz_oinit, tz_iret, tz_zret, tz_lret, tz_dret, tz_aret, tz_vret, tz_throw, tz_callS, tz_callV, tz_callI, tz_callR, tz_pureS, tz_pureV, tz_callVH, lg, lset, lkill, lst1, lst2, entL, isRf, is1, vl, va_rf_none, va_rf_some, isRf_rf, is1_rf, i0, i1, bI_eq0, bI_eq1, nm_em, nI_eqP, nI_leP, nI_ltP, nN_e1, nN_e2, nN_l1, nN_l2, nN_l3, nN_l4, nI_add, pk_mul, vp_inN, nI_cl, n01, n10, P_i, P_ii, P_iii, f_Mo_at, f_Mo_map, f_Mo_contact, f_Mo_within, f_Mo_isPort, f_Hp_endpoint, f_Hp_nodeOf, f_Hp_portOf, f_Ma_max, f_Ma_min, f_Hp_isSetting, popN, rok, a1, noX, swc, mL, if_true, if_false, ↓reduceIte, cond_true, cond_false, true_and, and_true, List.length_cons, List.length_nil, List.nil_append, List.cons_append, List.append_nil, Option.toList, Nat.reduceEqDiff, Bool.false_eq_true, reduceCtorEq, Nat.reduceAdd, Nat.reduceLT, Nat.reduceLeDiff, Nat.reduceSub, List.replicate, Nat.zero_add, Nat.lt_add_one, Nat.le_refl, Nat.zero_le, Nat.succ_ne_zero, not_false_eq_true, not_true_eq_false, false_implies, true_implies, forall_const, imp_self, true_or, or_true, eq_self, sI_zw, zw_zw, hI_zw, tg_zw, ln_zw, hR_zw, hL_zw, hN_zw, hM_zw, upd_s, upd_u, upd_ne, Classical.not_not, k_Nw_comeIn, h1, g1, m0, nr, w3, inn]; try clear hgo9 hW9))
                refine ih (st + 1) _ _ nn qq _ _ _ fz.2.2.2.2 I ?_ (fr.tr fz) (by rw [mI]; exact hsa) (by rw [mI]; exact nn1) (by omega) ⟨qq1, qq2⟩ hr
                have nt : tt ≠ mpO h tt i := ne_tg (by rw [g1, m0]; decide)
                have eo : own (upd z (176 + 8 * (8 * n + i) + 5) (z 0)) n = own z n := own_eq (upd_ne (by omega))
                refine NwR.setT hw inv.1 k hn d1 d2 lz (sh.congr rfl rfl) ⟨⟨⟨?_, ?_, ?_, ?_, ?_, ?_, ?_, ?_⟩, ?_, ?_⟩, fun j hj2 => ?_⟩ tk (fun j hj2 => upd_ne (by unfold tPl mA cA at hj2; omega))
                · rw [hI_zw_ne _ nt, upd_ne (by omega)]; exact tl.1.1.1
                · rw [hI_zw_ne _ nt, upd_ne (by omega)]; exact tl.1.1.2.1
                · rw [hI_zw_ne _ nt, upd_ne (by omega)]; exact tl.1.1.2.2.1
                · rw [hI_zw_ne _ nt, upd_ne (by omega)]; exact tl.1.1.2.2.2.1
                · rw [hI_zw_ne _ nt, upd_ne (by omega)]; exact tl.1.1.2.2.2.2.1
                · rw [hI_zw_ne _ nt, upd_ne (by omega)]; exact tl.1.1.2.2.2.2.2.1
                · rw [hI_zw_ne _ nt, upd_ne (by omega)]; exact tl.1.1.2.2.2.2.2.2.1
                · rw [hI_zw_ne _ nt, upd_ne (by omega)]; exact tl.1.1.2.2.2.2.2.2.2
                · rw [upd_ne (by omega)]; exact tl.1.2.1
                · rw [hI_zw_ne _ nt, eo]; exact tl.1.2.2
                · rw [eo] at hj2
                  obtain ⟨m', m1, m2⟩ := tl.2 j hj2
                  refine ⟨m', m1, ?_⟩
                  have sm' := sh.2.2.2.1 j m' (by omega) m1
                  by_cases w : j = i
                  · subst w
                    rw [sj] at m1
                    cases m1
                    obtain ⟨⟨v0, v1, v2, v3, v5⟩, v6⟩ := vj
                    refine ⟨⟨?_, ?_, ?_, ?_, ?_⟩, fun k9 hk9 => ?_⟩
                    · rw [hI_zw, upd_ne (by omega), upd_ne (by unfold mA; omega), upd_ne (by unfold mA; omega)]; exact v0
                    · rw [hI_zw, upd_ne (by omega), upd_ne (by unfold mA; omega)]; exact v1
                    · rw [hI_zw, upd_ne (by omega), upd_ne (by unfold mA; omega), upd_ne (by unfold mA; omega)]; exact v2
                    · rw [hI_zw, upd_s, show mA n j + 5 = 176 + 8 * (8 * n + j) + 5 from rfl, upd_s]
                    · rw [hI_zw, upd_ne (by omega), upd_ne (by unfold mA; omega)]; exact v5
                    · have nC : cC h (mpO h tt j) ≠ mpO h tt j := ne_tg (by rw [sm.1, sm.2.2.2.1]; decide)
                      have ekn : knw (upd z (176 + 8 * (8 * n + j) + 5) (z 0)) n j = knw z n j := by unfold knw; rw [upd_ne (by omega)]
                      rw [ekn] at hk9
                      show hI (zw h (mpO h tt j) _) (cC h (mpO h tt j)) k9 = _
                      rw [hI_zw_ne _ nC, upd_ne (by unfold cA; omega), upd_ne (by unfold cA; omega)]
                      exact v6 k9 hk9
                  · have n1 : m' ≠ mpO h tt i := fun e => w (sh.2.2.2.2 j i _ (by omega) (by omega) (by rw [← e]; exact m1) sj)
                    have n2 : cC h m' ≠ mpO h tt i := ne_tg (by rw [sm'.2.2.2.1, sm.1]; decide)
                    exact m2.keep ⟨rfl, hI_zw_ne _ n1, rfl, rfl⟩ ⟨rfl, hI_zw_ne _ n2, rfl, rfl⟩ (fun w9 hw9 => upd_ne (by unfold mA; omega)) (fun e he => upd_ne (by unfold cA; omega)) ((inv_kn inv.1 hn tk).2 j hj2)
              · rw [if_neg c, nn2', qq3', upd_self] at hr
                have nr : hI h tt 6 = nI 0 := by
                  have : rk = 0 ∨ rk = 1 := by omega
                  rcases this with w | w
                  · rw [rf, rk3, w]
                  · rw [w] at rk3; exact absurd rk3 c
                ((obtain ⟨W9, hW9, hgo9⟩ := wp_ex (T_Nw_comeIn l G) [5] _; refine hgo9 200 _ _ _ _ ?_; simp -implicitDefEqProofs (disch := omega) only [hW9, inl, gate, Xq, tz_const, tz_iload, tz_lload, tz_dload, tz_aload, tz_istore, tz_astore, tz_lstore, tz_dstore, tz_iinc, tz_i1, tz_i2, tz_i2z, tz_l2, tz_l2z, tz_i2l, tz_l2i, tz_lcmp, tz_i2d, tz_d2, tz_dcmp, tz_dup, tz_dup2, tz_pop, tz_if, tz_icmp, tz_null, tz_goto, tz_sw, tz_getf, tz_puti, tz_putz, tz_putr, tz_putl, tz_iaload, tz_baload, tz_laload, tz_aaload, tz_iastore, tz_bastore, tz_lastore, tz_aastore, tz_alen, tz_new, tz_newa, tz_oinit, tz_iret, tz_zret, tz_lret, tz_dret, tz_aret, tz_vret, tz_throw, tz_callS, tz_callV, tz_callI, tz_callR, tz_pureS, tz_pureV, tz_callVH, lg, lset, lkill, lst1, lst2, entL, isRf, is1, vl, va_rf_none, va_rf_some, isRf_rf, is1_rf, i0, i1, bI_eq0, bI_eq1, nm_em, nI_eqP, nI_leP, nI_ltP, nN_e1, nN_e2, nN_l1, nN_l2, nN_l3, nN_l4, nI_add, pk_mul, vp_inN, nI_cl, n01, n10, P_i, P_ii, P_iii, f_Mo_at, f_Mo_map, f_Mo_contact, f_Mo_within, f_Mo_isPort, f_Hp_endpoint, f_Hp_nodeOf, f_Hp_portOf, f_Ma_max, f_Ma_min, f_Hp_isSetting, popN, rok, a1, noX, swc, mL, if_true, if_false, ↓reduceIte, cond_true, cond_false, true_and, and_true, List.length_cons, List.length_nil, List.nil_append, List.cons_append, List.append_nil, Option.toList, Nat.reduceEqDiff, Bool.false_eq_true, reduceCtorEq, Nat.reduceAdd, Nat.reduceLT, Nat.reduceLeDiff, Nat.reduceSub, List.replicate, Nat.zero_add, Nat.lt_add_one, Nat.le_refl, Nat.zero_le, Nat.succ_ne_zero, not_false_eq_true, not_true_eq_false, false_implies, true_implies, forall_const, imp_self, true_or, or_true, eq_self, sI_zw, zw_zw, hI_zw, tg_zw, ln_zw, hR_zw, hL_zw, hN_zw, hM_zw, upd_s, upd_u, upd_ne, Classical.not_not, k_Nw_comeIn, h1, g1, m0, nr, inn]; try clear hgo9 hW9); try (obtain ⟨W9, hW9, hgo9⟩ := wp_ex (T_Nw_comeIn l G) [5] _; refine hgo9 200 _ _ _ _ ?_; simp -implicitDefEqProofs (disch := omega) only [hW9, inl, gate, Xq, tz_const, tz_iload, tz_lload, tz_dload, tz_aload, tz_istore, tz_astore, tz_lstore, tz_dstore, tz_iinc, tz_i1, tz_i2, tz_i2z, tz_l2, tz_l2z, tz_i2l, tz_l2i, tz_lcmp, tz_i2d, tz_d2, tz_dcmp, tz_dup, tz_dup2, tz_pop, tz_if, tz_icmp, tz_null, tz_goto, tz_sw, tz_getf, tz_puti, tz_putz, tz_putr, tz_putl, tz_iaload, tz_baload, tz_laload, tz_aaload, tz_iastore, tz_bastore, tz_lastore, tz_aastore, tz_alen, tz_new, tz_newa, tz_oinit, tz_iret, tz_zret, tz_lret, tz_dret, tz_aret, tz_vret, tz_throw, tz_callS, tz_callV, tz_callI, tz_callR, tz_pureS, tz_pureV, tz_callVH, lg, lset, lkill, lst1, lst2, entL, isRf, is1, vl, va_rf_none, va_rf_some, isRf_rf, is1_rf, i0, i1, bI_eq0, bI_eq1, nm_em, nI_eqP, nI_leP, nI_ltP, nN_e1, nN_e2, nN_l1, nN_l2, nN_l3, nN_l4, nI_add, pk_mul, vp_inN, nI_cl, n01, n10, P_i, P_ii, P_iii, f_Mo_at, f_Mo_map, f_Mo_contact, f_Mo_within, f_Mo_isPort, f_Hp_endpoint, f_Hp_nodeOf, f_Hp_portOf, f_Ma_max, f_Ma_min, f_Hp_isSetting, popN, rok, a1, noX, swc, mL, if_true, if_false, ↓reduceIte, cond_true, cond_false, true_and, and_true, List.length_cons, List.length_nil, List.nil_append, List.cons_append, List.append_nil, Option.toList, Nat.reduceEqDiff, Bool.false_eq_true, reduceCtorEq, Nat.reduceAdd, Nat.reduceLT, Nat.reduceLeDiff, Nat.reduceSub, List.replicate, Nat.zero_add, Nat.lt_add_one, Nat.le_refl, Nat.zero_le, Nat.succ_ne_zero, not_false_eq_true, not_true_eq_false, false_implies, true_implies, forall_const, imp_self, true_or, or_true, eq_self, sI_zw, zw_zw, hI_zw, tg_zw, ln_zw, hR_zw, hL_zw, hN_zw, hM_zw, upd_s, upd_u, upd_ne, Classical.not_not, k_Nw_comeIn, h1, g1, m0, nr, inn]; try clear hgo9 hW9); try (obtain ⟨W9, hW9, hgo9⟩ := wp_ex (T_Nw_comeIn l G) [5] _; refine hgo9 200 _ _ _ _ ?_; simp -implicitDefEqProofs (disch := omega) only [hW9, inl, gate, Xq, tz_const, tz_iload, tz_lload, tz_dload, tz_aload, tz_istore, tz_astore, tz_lstore, tz_dstore, tz_iinc, tz_i1, tz_i2, tz_i2z, tz_l2, tz_l2z, tz_i2l, tz_l2i, tz_lcmp, tz_i2d, tz_d2, tz_dcmp, tz_dup, tz_dup2, tz_pop, tz_if, tz_icmp, tz_null, tz_goto, tz_sw, tz_getf, tz_puti, tz_putz, tz_putr, tz_putl, tz_iaload, tz_baload, tz_laload, tz_aaload, tz_iastore, tz_bastore, tz_lastore, tz_aastore, tz_alen, tz_new, tz_newa, tz_oinit, tz_iret, tz_zret, tz_lret, tz_dret, tz_aret, tz_vret, tz_throw, tz_callS, tz_callV, tz_callI, tz_callR, tz_pureS, tz_pureV, tz_callVH, lg, lset, lkill, lst1, lst2, entL, isRf, is1, vl, va_rf_none, va_rf_some, isRf_rf, is1_rf, i0, i1, bI_eq0, bI_eq1, nm_em, nI_eqP, nI_leP, nI_ltP, nN_e1, nN_e2, nN_l1, nN_l2, nN_l3, nN_l4, nI_add, pk_mul, vp_inN, nI_cl, n01, n10, P_i, P_ii, P_iii, f_Mo_at, f_Mo_map, f_Mo_contact, f_Mo_within, f_Mo_isPort, f_Hp_endpoint, f_Hp_nodeOf, f_Hp_portOf, f_Ma_max, f_Ma_min, f_Hp_isSetting, popN, rok, a1, noX, swc, mL, if_true, if_false, ↓reduceIte, cond_true, cond_false, true_and, and_true, List.length_cons, List.length_nil, List.nil_append, List.cons_append, List.append_nil, Option.toList, Nat.reduceEqDiff, Bool.false_eq_true, reduceCtorEq, Nat.reduceAdd, Nat.reduceLT, Nat.reduceLeDiff, Nat.reduceSub, List.replicate, Nat.zero_add, Nat.lt_add_one, Nat.le_refl, Nat.zero_le, Nat.succ_ne_zero, not_false_eq_true, not_true_eq_false, false_implies, true_implies, forall_const, imp_self, true_or, or_true, eq_self, sI_zw, zw_zw, hI_zw, tg_zw, ln_zw, hR_zw, hL_zw, hN_zw, hM_zw, upd_s, upd_u, upd_ne, Classical.not_not, k_Nw_comeIn, h1, g1, m0, nr, inn]; try clear hgo9 hW9))
                exact ih (st + 1) z h nn qq _ _ _ hw inv k fr hsa nn1 (by omega) ⟨qq1, qq2⟩ hr
          · simp only [aft]
            rcases hr with ⟨-, er, ez⟩ | ⟨pf, -⟩
            · subst er ez
              ((obtain ⟨W9, hW9, hgo9⟩ := wp_ex (T_Nw_comeIn l G) [5] _; refine hgo9 200 _ _ _ _ ?_; simp -implicitDefEqProofs (disch := omega) only [hW9, inl, gate, Xq, tz_const, tz_iload, tz_lload, tz_dload, tz_aload, tz_istore, tz_astore, tz_lstore, tz_dstore, tz_iinc, tz_i1, tz_i2, tz_i2z, tz_l2, tz_l2z, tz_i2l, tz_l2i, tz_lcmp, tz_i2d, tz_d2, tz_dcmp, tz_dup, tz_dup2, tz_pop, tz_if, tz_icmp, tz_null, tz_goto, tz_sw, tz_getf, tz_puti, tz_putz, tz_putr, tz_putl, tz_iaload, tz_baload, tz_laload, tz_aaload, tz_iastore, tz_bastore, tz_lastore, tz_aastore, tz_alen, tz_new, tz_newa, tz_oinit, tz_iret, tz_zret, tz_lret, tz_dret, tz_aret, tz_vret, tz_throw, tz_callS, tz_callV, tz_callI, tz_callR, tz_pureS, tz_pureV, tz_callVH, lg, lset, lkill, lst1, lst2, entL, isRf, is1, vl, va_rf_none, va_rf_some, isRf_rf, is1_rf, i0, i1, bI_eq0, bI_eq1, nm_em, nI_eqP, nI_leP, nI_ltP, nN_e1, nN_e2, nN_l1, nN_l2, nN_l3, nN_l4, nI_add, pk_mul, vp_inN, nI_cl, n01, n10, P_i, P_ii, P_iii, f_Mo_at, f_Mo_map, f_Mo_contact, f_Mo_within, f_Mo_isPort, f_Hp_endpoint, f_Hp_nodeOf, f_Hp_portOf, f_Ma_max, f_Ma_min, f_Hp_isSetting, popN, rok, a1, noX, swc, mL, if_true, if_false, ↓reduceIte, cond_true, cond_false, true_and, and_true, List.length_cons, List.length_nil, List.nil_append, List.cons_append, List.append_nil, Option.toList, Nat.reduceEqDiff, Bool.false_eq_true, reduceCtorEq, Nat.reduceAdd, Nat.reduceLT, Nat.reduceLeDiff, Nat.reduceSub, List.replicate, Nat.zero_add, Nat.lt_add_one, Nat.le_refl, Nat.zero_le, Nat.succ_ne_zero, not_false_eq_true, not_true_eq_false, false_implies, true_implies, forall_const, imp_self, true_or, or_true, eq_self, sI_zw, zw_zw, hI_zw, tg_zw, ln_zw, hR_zw, hL_zw, hN_zw, hM_zw, upd_s, upd_u, upd_ne, Classical.not_not, k_Nw_comeIn, h1, g1, m0]; try clear hgo9 hW9); try (obtain ⟨W9, hW9, hgo9⟩ := wp_ex (T_Nw_comeIn l G) [5] _; refine hgo9 200 _ _ _ _ ?_; simp -implicitDefEqProofs (disch := omega) only [hW9, inl, gate, Xq, tz_const, tz_iload, tz_lload, tz_dload, tz_aload, tz_istore, tz_astore, tz_lstore, tz_dstore, tz_iinc, tz_i1, tz_i2, tz_i2z, tz_l2, tz_l2z, tz_i2l, tz_l2i, tz_lcmp, tz_i2d, tz_d2, tz_dcmp, tz_dup, tz_dup2, tz_pop, tz_if, tz_icmp, tz_null, tz_goto, tz_sw, tz_getf, tz_puti, tz_putz, tz_putr, tz_putl, tz_iaload, tz_baload, tz_laload, tz_aaload, tz_iastore, tz_bastore, tz_lastore, tz_aastore, tz_alen, tz_new, tz_newa, tz_oinit, tz_iret, tz_zret, tz_lret, tz_dret, tz_aret, tz_vret, tz_throw, tz_callS, tz_callV, tz_callI, tz_callR, tz_pureS, tz_pureV, tz_callVH, lg, lset, lkill, lst1, lst2, entL, isRf, is1, vl, va_rf_none, va_rf_some, isRf_rf, is1_rf, i0, i1, bI_eq0, bI_eq1, nm_em, nI_eqP, nI_leP, nI_ltP, nN_e1, nN_e2, nN_l1, nN_l2, nN_l3, nN_l4, nI_add, pk_mul, vp_inN, nI_cl, n01, n10, P_i, P_ii, P_iii, f_Mo_at, f_Mo_map, f_Mo_contact, f_Mo_within, f_Mo_isPort, f_Hp_endpoint, f_Hp_nodeOf, f_Hp_portOf, f_Ma_max, f_Ma_min, f_Hp_isSetting, popN, rok, a1, noX, swc, mL, if_true, if_false, ↓reduceIte, cond_true, cond_false, true_and, and_true, List.length_cons, List.length_nil, List.nil_append, List.cons_append, List.append_nil, Option.toList, Nat.reduceEqDiff, Bool.false_eq_true, reduceCtorEq, Nat.reduceAdd, Nat.reduceLT, Nat.reduceLeDiff, Nat.reduceSub, List.replicate, Nat.zero_add, Nat.lt_add_one, Nat.le_refl, Nat.zero_le, Nat.succ_ne_zero, not_false_eq_true, not_true_eq_false, false_implies, true_implies, forall_const, imp_self, true_or, or_true, eq_self, sI_zw, zw_zw, hI_zw, tg_zw, ln_zw, hR_zw, hL_zw, hN_zw, hM_zw, upd_s, upd_u, upd_ne, Classical.not_not, k_Nw_comeIn, h1, g1, m0]; try clear hgo9 hW9))
              exact hQ h k inv fr (Or.inr (Or.inr rfl))
            · exact absurd (iff.mpr pf) y
theorem c_Nw_comeIn (wn sa sp b d f : Nat) (r : Int32) (z z' : Nat → Int32) (h : AH) (Q : Po) (hw : WF h) (inv : Inv z) (k : NwR h wn z) (hsa : sa < mny z) (hsp : 1 ≤ sp ∧ sp ≤ 9999) (hb : b < mny z) (hd : 1 ≤ d ∧ d ≤ 9999) (hr : CinR (nI sa) (nI sp) f z (nI b) (nI d) r z')
    (hQ : ∀ h', NwR h' wn z' → Inv z' → Fr wn 0 h h' → ((∃ k, k < 10 ∧ r = nI k) ∨ r = (-2) ∨ r = (-3)) → Q (.inl (some (.int r))) h') : Call l G M_Nw_comeIn [.ref wn, .int (nI (sa * 10000 + sp)), .int (nI (b * 10000 + d))] h Q := by
  refine call_of rfl rfl (Nat.le_of_ble_eq_true rfl) ?_
  (obtain ⟨W9, hW9, hgo9⟩ := wp_ex (T_Nw_comeIn l G) [5] _; refine hgo9 200 _ _ _ _ ?_; simp -implicitDefEqProofs (disch := omega) only [hW9, inl, gate, Xq, tz_const, tz_iload, tz_lload, tz_dload, tz_aload, tz_istore, tz_astore, tz_lstore, tz_dstore, tz_iinc, tz_i1, tz_i2, tz_i2z, tz_l2, tz_l2z, tz_i2l, tz_l2i, tz_lcmp, tz_i2d, tz_d2, tz_dcmp, tz_dup, tz_dup2, tz_pop, tz_if, tz_icmp, tz_null, tz_goto, tz_sw, tz_getf, tz_puti, tz_putz, tz_putr, tz_putl, tz_iaload, tz_baload, tz_laload, tz_aaload, tz_iastore, tz_bastore, tz_lastore, tz_aastore, tz_alen, tz_new, tz_newa, tz_oinit, tz_iret, tz_zret, tz_lret, tz_dret, tz_aret, tz_vret, tz_throw, tz_callS, tz_callV, tz_callI, tz_callR, tz_pureS, tz_pureV, tz_callVH, lg, lset, lkill, lst1, lst2, entL, isRf, is1, vl, va_rf_none, va_rf_some, isRf_rf, is1_rf, i0, i1, bI_eq0, bI_eq1, nm_em, nI_eqP, nI_leP, nI_ltP, nN_e1, nN_e2, nN_l1, nN_l2, nN_l3, nN_l4, nI_add, pk_mul, vp_inN, nI_cl, n01, n10, P_i, P_ii, P_iii, f_Mo_at, f_Mo_map, f_Mo_contact, f_Mo_within, f_Mo_isPort, f_Hp_endpoint, f_Hp_nodeOf, f_Hp_portOf, f_Ma_max, f_Ma_min, f_Hp_isSetting, popN, rok, a1, noX, swc, mL, if_true, if_false, ↓reduceIte, cond_true, cond_false, true_and, and_true, List.length_cons, List.length_nil, List.nil_append, List.cons_append, List.append_nil, Option.toList, Nat.reduceEqDiff, Bool.false_eq_true, reduceCtorEq, Nat.reduceAdd, Nat.reduceLT, Nat.reduceLeDiff, Nat.reduceSub, List.replicate, Nat.zero_add, Nat.lt_add_one, Nat.le_refl, Nat.zero_le, Nat.succ_ne_zero, not_false_eq_true, not_true_eq_false, false_implies, true_implies, forall_const, imp_self, true_or, or_true, eq_self, sI_zw, zw_zw, hI_zw, tg_zw, ln_zw, hR_zw, hL_zw, hN_zw, hM_zw, upd_s, upd_u, upd_ne, Classical.not_not, k_Nw_comeIn, k.1.1.1]; try clear hgo9 hW9)
  exact lp_in hsp hQ f 0 z h b d _ _ _ hw inv k (Fr.rf hw) hsa hb (by omega) hd hr
end
