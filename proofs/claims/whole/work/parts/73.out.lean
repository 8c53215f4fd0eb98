/-! THE CLASS: a packet goes out -/
def k_Nw_goOut (l : Launch) (G : Gc) (pc : Nat) : Tr :=
  if pc < 87 then
   if pc < 40 then
    if pc < 20 then
     if pc < 7 then
      if pc < 4 then
       if pc < 1 then
        if pc = 0 then tz_iload 1 2 else dead
       else
        if pc = 1 then tz_pureS 4 1 P_Hp_nodeOf f_Hp_nodeOf else dead
      else
       if pc < 5 then
        if pc = 4 then tz_istore 5 3 else dead
       else
        if pc < 6 then
         if pc = 5 then tz_aload 6 0 else dead
        else
         if pc = 6 then tz_iload 7 3 else dead
     else
      if pc < 13 then
       if pc < 10 then
        if pc = 7 then tz_pureV 10 1 1 P_Nw_netOf f_Nw_netOf else dead
       else
        if pc < 12 then
         if pc = 10 then tz_istore 12 4 else dead
        else
         if pc = 12 then tz_aload 13 0 else dead
      else
       if pc < 14 then
        if pc = 13 then tz_iload 14 1 else dead
       else
        if pc < 17 then
         if pc = 14 then tz_pureS 17 1 P_Hp_nodeOf f_Hp_nodeOf else dead
        else
         if pc = 17 then tz_pureV 20 1 1 P_Nw_netOf f_Nw_netOf else dead
    else
     if pc < 28 then
      if pc < 23 then
       if pc < 22 then
        if pc = 20 then tz_istore 22 5 else dead
       else
        if pc = 22 then tz_iload 23 1 else dead
      else
       if pc < 25 then
        if pc = 23 then tz_istore 25 6 else dead
       else
        if pc < 26 then
         if pc = 25 then tz_const 26 (.int (nN)) else dead
        else
         if pc = 26 then tz_istore 28 7 else dead
     else
      if pc < 33 then
       if pc < 29 then
        if pc = 28 then tz_const 29 (.int (nI 0)) else dead
       else
        if pc < 31 then
         if pc = 29 then tz_istore 31 8 else dead
        else
         if pc = 31 then tz_iload 33 8 else dead
      else
       if pc < 35 then
        if pc = 33 then tz_const 35 (.int (nI 10)) else dead
       else
        if pc < 38 then
         if pc = 35 then tz_icmp 38 138 (fun a b => b ≤ a) else dead
        else
         if pc = 38 then tz_iload 40 5 else dead
   else
    if pc < 62 then
     if pc < 51 then
      if pc < 45 then
       if pc < 42 then
        if pc = 40 then tz_iload 42 4 else dead
       else
        if pc = 42 then tz_icmp 45 138 (fun a b => a = b) else dead
      else
       if pc < 46 then
        if pc = 45 then tz_aload 46 0 else dead
       else
        if pc < 48 then
         if pc = 46 then tz_iload 48 5 else dead
        else
         if pc = 48 then tz_pureV 51 1 1 P_Nw_translatorAt f_Nw_translatorAt else dead
     else
      if pc < 58 then
       if pc < 53 then
        if pc = 51 then tz_astore 53 9 else dead
       else
        if pc < 55 then
         if pc = 53 then tz_aload 55 9 else dead
        else
         if pc = 55 then tz_null 58 60 else dead
      else
       if pc < 59 then
        if pc = 58 then tz_const 59 (.int (nN)) else dead
       else
        if pc < 60 then
         if pc = 59 then tz_iret else dead
        else
         if pc = 60 then tz_aload 62 9 else dead
    else
     if pc < 75 then
      if pc < 68 then
       if pc < 64 then
        if pc = 62 then tz_iload 64 6 else dead
       else
        if pc < 65 then
         if pc = 64 then tz_iload 65 2 else dead
        else
         if pc = 65 then tz_callV l G 68 M_Tl_mappingOut 2 5 else dead
      else
       if pc < 70 then
        if pc = 68 then tz_astore 70 10 else dead
       else
        if pc < 72 then
         if pc = 70 then tz_aload 72 10 else dead
        else
         if pc = 72 then tz_null 75 85 else dead
     else
      if pc < 80 then
       if pc < 77 then
        if pc = 75 then tz_aload 77 9 else dead
       else
        if pc < 79 then
         if pc = 77 then tz_iload 79 6 else dead
        else
         if pc = 79 then tz_iload 80 2 else dead
      else
       if pc < 83 then
        if pc = 80 then tz_callV l G 83 M_Tl_newMapping 2 5 else dead
       else
        if pc < 85 then
         if pc = 83 then tz_astore 85 10 else dead
        else
         if pc = 85 then tz_aload 87 10 else dead
  else
   if pc < 135 then
    if pc < 110 then
     if pc < 96 then
      if pc < 92 then
       if pc < 90 then
        if pc = 87 then tz_null 90 93 else dead
       else
        if pc = 90 then tz_const 92 (.int ((-5))) else dead
      else
       if pc < 93 then
        if pc = 92 then tz_iret else dead
       else
        if pc < 95 then
         if pc = 93 then tz_aload 95 10 else dead
        else
         if pc = 95 then tz_aload 96 0 else dead
     else
      if pc < 104 then
       if pc < 99 then
        if pc = 96 then tz_getf 99 1 3 0 else dead
       else
        if pc < 102 then
         if pc = 99 then tz_puti 102 0 3 else dead
        else
         if pc = 102 then tz_aload 104 10 else dead
      else
       if pc < 105 then
        if pc = 104 then tz_iload 105 2 else dead
       else
        if pc < 108 then
         if pc = 105 then tz_callV l G 108 M_Mp_addContact 1 0 else dead
        else
         if pc = 108 then tz_iload 110 5 else dead
    else
     if pc < 122 then
      if pc < 115 then
       if pc < 112 then
        if pc = 110 then tz_aload 112 10 else dead
       else
        if pc = 112 then tz_getf 115 0 1 0 else dead
      else
       if pc < 118 then
        if pc = 115 then tz_pureS 118 2 P_Hp_endpoint f_Hp_endpoint else dead
       else
        if pc < 120 then
         if pc = 118 then tz_istore 120 6 else dead
        else
         if pc = 120 then tz_iload 122 5 else dead
     else
      if pc < 127 then
       if pc < 124 then
        if pc = 122 then tz_istore 124 7 else dead
       else
        if pc < 125 then
         if pc = 124 then tz_aload 125 0 else dead
        else
         if pc = 125 then tz_iload 127 5 else dead
      else
       if pc < 130 then
        if pc = 127 then tz_pureV 130 1 1 P_Nw_netOf f_Nw_netOf else dead
       else
        if pc < 132 then
         if pc = 130 then tz_istore 132 5 else dead
        else
         if pc = 132 then tz_iinc 135 8 (nI 1) else dead
   else
    if pc < 158 then
     if pc < 145 then
      if pc < 139 then
       if pc < 138 then
        if pc = 135 then tz_goto 31 else dead
       else
        if pc = 138 then tz_aload 139 0 else dead
      else
       if pc < 140 then
        if pc = 139 then tz_iload 140 3 else dead
       else
        if pc < 143 then
         if pc = 140 then tz_pureV 143 1 1 P_Nw_translatorAt f_Nw_translatorAt else dead
        else
         if pc = 143 then tz_astore 145 8 else dead
     else
      if pc < 152 then
       if pc < 147 then
        if pc = 145 then tz_aload 147 8 else dead
       else
        if pc < 150 then
         if pc = 147 then tz_null 168 150 else dead
        else
         if pc = 150 then tz_iload 152 7 else dead
      else
       if pc < 153 then
        if pc = 152 then tz_iload 153 3 else dead
       else
        if pc < 156 then
         if pc = 153 then tz_icmp 156 168 (fun a b => ¬ a = b) else dead
        else
         if pc = 156 then tz_aload 158 8 else dead
    else
     if pc < 171 then
      if pc < 165 then
       if pc < 161 then
        if pc = 158 then tz_getf 161 5 5 0 else dead
       else
        if pc < 164 then
         if pc = 161 then tz_if 164 168 (fun a => ¬ a = 0) else dead
        else
         if pc = 164 then tz_const 165 (.int (nI 1)) else dead
      else
       if pc < 168 then
        if pc = 165 then tz_goto 169 else dead
       else
        if pc < 169 then
         if pc = 168 then tz_const 169 (.int (nI 0)) else dead
        else
         if pc = 169 then tz_istore 171 9 else dead
     else
      if pc < 178 then
       if pc < 173 then
        if pc = 171 then tz_iload 173 9 else dead
       else
        if pc < 176 then
         if pc = 173 then tz_if 176 181 (fun a => a = 0) else dead
        else
         if pc = 176 then tz_const 178 (.int ((-4))) else dead
      else
       if pc < 181 then
        if pc = 178 then tz_goto 183 else dead
       else
        if pc < 183 then
         if pc = 181 then tz_iload 183 6 else dead
        else
         if pc = 183 then tz_iret else dead
set_option maxRecDepth 100000 in
theorem T_Nw_goOut (l : Launch) (G : Gc) : TabOK l G M_Nw_goOut (k_Nw_goOut l G) := by
  intro pc
  unfold k_Nw_goOut
  exact
   (sd_br
    (sd_br
     (sd_br
      (sd_br
       (sd_br
        (sd_br
         (sd_lf (sd_iload_n (k := 2) (by decide +kernel : decode prog_3_method_14_code 0 = .ok (.iload_n 2, 1))))
         (sd_lf (sd_pureSN (sd_callSN (host := "HolePuncher") (by decide +kernel : decode prog_3_method_14_code 1 = .ok (.invokestatic 86, 3)) ok_Hp_nodeOf (List.mem_of_getElem? (i := 376) (by decide +kernel)) (gm 449 (by decide +kernel) rfl) (by decide +kernel) rfl rfl) c_Hp_nodeOf)))
        (sd_br
         (sd_lf (sd_istore_n (k := 3) (by decide +kernel : decode prog_3_method_14_code 4 = .ok (.istore_n 3, 1))))
         (sd_br
          (sd_lf (sd_aload_n (k := 0) (by decide +kernel : decode prog_3_method_14_code 5 = .ok (.aload_n 0, 1))))
          (sd_lf (sd_iload_n (k := 3) (by decide +kernel : decode prog_3_method_14_code 6 = .ok (.iload_n 3, 1)))))))
       (sd_br
        (sd_br
         (sd_lf (sd_pureV (sd_callV (q := (RX1, TX1, 6)) (by decide +kernel : decode prog_3_method_14_code 7 = .ok (.invokevirtual 89, 3)) ok_Nw_netOf (gm 423 (by decide +kernel) rfl) (gm 373 (by decide +kernel) rfl) (gm 374 (by decide +kernel) rfl) rfl rfl (by decide +kernel) rfl rfl) c_Nw_netOf))
         (sd_br
          (sd_lf (sd_istore (by decide +kernel : decode prog_3_method_14_code 10 = .ok (.istore 4, 2))))
          (sd_lf (sd_aload_n (k := 0) (by decide +kernel : decode prog_3_method_14_code 12 = .ok (.aload_n 0, 1))))))
        (sd_br
         (sd_lf (sd_iload_n (k := 1) (by decide +kernel : decode prog_3_method_14_code 13 = .ok (.iload_n 1, 1))))
         (sd_br
          (sd_lf (sd_pureSN (sd_callSN (host := "HolePuncher") (by decide +kernel : decode prog_3_method_14_code 14 = .ok (.invokestatic 86, 3)) ok_Hp_nodeOf (List.mem_of_getElem? (i := 376) (by decide +kernel)) (gm 449 (by decide +kernel) rfl) (by decide +kernel) rfl rfl) c_Hp_nodeOf))
          (sd_lf (sd_pureV (sd_callV (q := (RX1, TX1, 6)) (by decide +kernel : decode prog_3_method_14_code 17 = .ok (.invokevirtual 89, 3)) ok_Nw_netOf (gm 423 (by decide +kernel) rfl) (gm 373 (by decide +kernel) rfl) (gm 374 (by decide +kernel) rfl) rfl rfl (by decide +kernel) rfl rfl) c_Nw_netOf))))))
      (sd_br
       (sd_br
        (sd_br
         (sd_lf (sd_istore (by decide +kernel : decode prog_3_method_14_code 20 = .ok (.istore 5, 2))))
         (sd_lf (sd_iload_n (k := 1) (by decide +kernel : decode prog_3_method_14_code 22 = .ok (.iload_n 1, 1)))))
        (sd_br
         (sd_lf (sd_istore (by decide +kernel : decode prog_3_method_14_code 23 = .ok (.istore 6, 2))))
         (sd_br
          (sd_lf (sd_iconst (by decide +kernel : decode prog_3_method_14_code 25 = .ok (.iconst (-1), 1)) (by decide +kernel)))
          (sd_lf (sd_istore (by decide +kernel : decode prog_3_method_14_code 26 = .ok (.istore 7, 2)))))))
       (sd_br
        (sd_br
         (sd_lf (sd_iconst (by decide +kernel : decode prog_3_method_14_code 28 = .ok (.iconst 0, 1)) (by decide +kernel)))
         (sd_br
          (sd_lf (sd_istore (by decide +kernel : decode prog_3_method_14_code 29 = .ok (.istore 8, 2))))
          (sd_lf (sd_iload (by decide +kernel : decode prog_3_method_14_code 31 = .ok (.iload 8, 2))))))
        (sd_br
         (sd_lf (sd_bipush (by decide +kernel : decode prog_3_method_14_code 33 = .ok (.bipush 10, 2)) (by decide +kernel)))
         (sd_br
          (sd_lf (sd_icmp_ge (by decide +kernel : decode prog_3_method_14_code 35 = .ok (.if_icmp .ge 103, 3)) (by decide +kernel)))
          (sd_lf (sd_iload (by decide +kernel : decode prog_3_method_14_code 38 = .ok (.iload 5, 2)))))))))
     (sd_br
      (sd_br
       (sd_br
        (sd_br
         (sd_lf (sd_iload (by decide +kernel : decode prog_3_method_14_code 40 = .ok (.iload 4, 2))))
         (sd_lf (sd_icmp_eq (by decide +kernel : decode prog_3_method_14_code 42 = .ok (.if_icmp .eq 96, 3)) (by decide +kernel))))
        (sd_br
         (sd_lf (sd_aload_n (k := 0) (by decide +kernel : decode prog_3_method_14_code 45 = .ok (.aload_n 0, 1))))
         (sd_br
          (sd_lf (sd_iload (by decide +kernel : decode prog_3_method_14_code 46 = .ok (.iload 5, 2))))
          (sd_lf (sd_pureV (sd_callV (q := (RX1, TX1, 6)) (by decide +kernel : decode prog_3_method_14_code 48 = .ok (.invokevirtual 72, 3)) ok_Nw_translatorAt (gm 428 (by decide +kernel) rfl) (gm 429 (by decide +kernel) rfl) (gm 430 (by decide +kernel) rfl) rfl rfl (by decide +kernel) rfl rfl) c_Nw_translatorAt)))))
       (sd_br
        (sd_br
         (sd_lf (sd_astore (by decide +kernel : decode prog_3_method_14_code 51 = .ok (.astore 9, 2))))
         (sd_br
          (sd_lf (sd_aload (by decide +kernel : decode prog_3_method_14_code 53 = .ok (.aload 9, 2))))
          (sd_lf (sd_ifnonnull (by decide +kernel : decode prog_3_method_14_code 55 = .ok (.ifnonnull 5, 3)) (by decide +kernel)))))
        (sd_br
         (sd_lf (sd_iconst (by decide +kernel : decode prog_3_method_14_code 58 = .ok (.iconst (-1), 1)) (by decide +kernel)))
         (sd_br
          (sd_lf (sd_iret (by decide +kernel : decode prog_3_method_14_code 59 = .ok (.ireturn, 1)) rfl))
          (sd_lf (sd_aload (by decide +kernel : decode prog_3_method_14_code 60 = .ok (.aload 9, 2))))))))
      (sd_br
       (sd_br
        (sd_br
         (sd_lf (sd_iload (by decide +kernel : decode prog_3_method_14_code 62 = .ok (.iload 6, 2))))
         (sd_br
          (sd_lf (sd_iload_n (k := 2) (by decide +kernel : decode prog_3_method_14_code 64 = .ok (.iload_n 2, 1))))
          (sd_lf (sd_callV (q := (RX5, TX5, 11)) (by decide +kernel : decode prog_3_method_14_code 65 = .ok (.invokevirtual 92, 3)) ok_Tl_mappingOut (gm 703 (by decide +kernel) rfl) (gm 704 (by decide +kernel) rfl) (gm 705 (by decide +kernel) rfl) rfl rfl (by decide +kernel) rfl rfl))))
        (sd_br
         (sd_lf (sd_astore (by decide +kernel : decode prog_3_method_14_code 68 = .ok (.astore 10, 2))))
         (sd_br
          (sd_lf (sd_aload (by decide +kernel : decode prog_3_method_14_code 70 = .ok (.aload 10, 2))))
          (sd_lf (sd_ifnonnull (by decide +kernel : decode prog_3_method_14_code 72 = .ok (.ifnonnull 13, 3)) (by decide +kernel))))))
       (sd_br
        (sd_br
         (sd_lf (sd_aload (by decide +kernel : decode prog_3_method_14_code 75 = .ok (.aload 9, 2))))
         (sd_br
          (sd_lf (sd_iload (by decide +kernel : decode prog_3_method_14_code 77 = .ok (.iload 6, 2))))
          (sd_lf (sd_iload_n (k := 2) (by decide +kernel : decode prog_3_method_14_code 79 = .ok (.iload_n 2, 1))))))
        (sd_br
         (sd_lf (sd_callV (q := (RX5, TX5, 11)) (by decide +kernel : decode prog_3_method_14_code 80 = .ok (.invokevirtual 96, 3)) ok_Tl_newMapping (gm 713 (by decide +kernel) rfl) (gm 714 (by decide +kernel) rfl) (gm 715 (by decide +kernel) rfl) rfl rfl (by decide +kernel) rfl rfl))
         (sd_br
          (sd_lf (sd_astore (by decide +kernel : decode prog_3_method_14_code 83 = .ok (.astore 10, 2))))
          (sd_lf (sd_aload (by decide +kernel : decode prog_3_method_14_code 85 = .ok (.aload 10, 2))))))))))
    (sd_br
     (sd_br
      (sd_br
       (sd_br
        (sd_br
         (sd_lf (sd_ifnonnull (by decide +kernel : decode prog_3_method_14_code 87 = .ok (.ifnonnull 6, 3)) (by decide +kernel)))
         (sd_lf (sd_bipush (by decide +kernel : decode prog_3_method_14_code 90 = .ok (.bipush (-5), 2)) (by decide +kernel))))
        (sd_br
         (sd_lf (sd_iret (by decide +kernel : decode prog_3_method_14_code 92 = .ok (.ireturn, 1)) rfl))
         (sd_br
          (sd_lf (sd_aload (by decide +kernel : decode prog_3_method_14_code 93 = .ok (.aload 10, 2))))
          (sd_lf (sd_aload_n (k := 0) (by decide +kernel : decode prog_3_method_14_code 95 = .ok (.aload_n 0, 1)))))))
       (sd_br
        (sd_br
         (sd_lf (sd_getf (q := (RX1, TX1, 6)) (by decide +kernel : decode prog_3_method_14_code 96 = .ok (.getfield 25, 3)) rfl (by decide +kernel) (gm 109 (by decide +kernel) rfl)))
         (sd_br
          (sd_lf (sd_puti (q := (RX0, TX0, 6)) (by decide +kernel : decode prog_3_method_14_code 99 = .ok (.putfield 99, 3)) rfl (by decide +kernel) (gm 314 (by decide +kernel) rfl) rfl rfl (Or.inl rfl)))
          (sd_lf (sd_aload (by decide +kernel : decode prog_3_method_14_code 102 = .ok (.aload 10, 2))))))
        (sd_br
         (sd_lf (sd_iload_n (k := 2) (by decide +kernel : decode prog_3_method_14_code 104 = .ok (.iload_n 2, 1))))
         (sd_br
          (sd_lf (sd_callV (q := (RX0, TX0, 6)) (by decide +kernel : decode prog_3_method_14_code 105 = .ok (.invokevirtual 104, 3)) ok_Mp_addContact (gm 741 (by decide +kernel) rfl) (gm 742 (by decide +kernel) rfl) (gm 743 (by decide +kernel) rfl) rfl rfl (by decide +kernel) rfl rfl))
          (sd_lf (sd_iload (by decide +kernel : decode prog_3_method_14_code 108 = .ok (.iload 5, 2))))))))
      (sd_br
       (sd_br
        (sd_br
         (sd_lf (sd_aload (by decide +kernel : decode prog_3_method_14_code 110 = .ok (.aload 10, 2))))
         (sd_lf (sd_getf (q := (RX0, TX0, 6)) (by decide +kernel : decode prog_3_method_14_code 112 = .ok (.getfield 107, 3)) rfl (by decide +kernel) (gm 309 (by decide +kernel) rfl))))
        (sd_br
         (sd_lf (sd_pureSN (sd_callSN (host := "HolePuncher") (by decide +kernel : decode prog_3_method_14_code 115 = .ok (.invokestatic 110, 3)) ok_Hp_endpoint (List.mem_of_getElem? (i := 680) (by decide +kernel)) (gm 693 (by decide +kernel) rfl) (by decide +kernel) rfl rfl) c_Hp_endpoint))
         (sd_br
          (sd_lf (sd_istore (by decide +kernel : decode prog_3_method_14_code 118 = .ok (.istore 6, 2))))
          (sd_lf (sd_iload (by decide +kernel : decode prog_3_method_14_code 120 = .ok (.iload 5, 2)))))))
       (sd_br
        (sd_br
         (sd_lf (sd_istore (by decide +kernel : decode prog_3_method_14_code 122 = .ok (.istore 7, 2))))
         (sd_br
          (sd_lf (sd_aload_n (k := 0) (by decide +kernel : decode prog_3_method_14_code 124 = .ok (.aload_n 0, 1))))
          (sd_lf (sd_iload (by decide +kernel : decode prog_3_method_14_code 125 = .ok (.iload 5, 2))))))
        (sd_br
         (sd_lf (sd_pureV (sd_callV (q := (RX1, TX1, 6)) (by decide +kernel : decode prog_3_method_14_code 127 = .ok (.invokevirtual 89, 3)) ok_Nw_netOf (gm 423 (by decide +kernel) rfl) (gm 373 (by decide +kernel) rfl) (gm 374 (by decide +kernel) rfl) rfl rfl (by decide +kernel) rfl rfl) c_Nw_netOf))
         (sd_br
          (sd_lf (sd_istore (by decide +kernel : decode prog_3_method_14_code 130 = .ok (.istore 5, 2))))
          (sd_lf (sd_iinc (by decide +kernel : decode prog_3_method_14_code 132 = .ok (.iinc 8 1, 3)) (by decide +kernel))))))))
     (sd_br
      (sd_br
       (sd_br
        (sd_br
         (sd_lf (sd_goto (by decide +kernel : decode prog_3_method_14_code 135 = .ok (.goto (-104), 3)) (by decide +kernel)))
         (sd_lf (sd_aload_n (k := 0) (by decide +kernel : decode prog_3_method_14_code 138 = .ok (.aload_n 0, 1)))))
        (sd_br
         (sd_lf (sd_iload_n (k := 3) (by decide +kernel : decode prog_3_method_14_code 139 = .ok (.iload_n 3, 1))))
         (sd_br
          (sd_lf (sd_pureV (sd_callV (q := (RX1, TX1, 6)) (by decide +kernel : decode prog_3_method_14_code 140 = .ok (.invokevirtual 72, 3)) ok_Nw_translatorAt (gm 428 (by decide +kernel) rfl) (gm 429 (by decide +kernel) rfl) (gm 430 (by decide +kernel) rfl) rfl rfl (by decide +kernel) rfl rfl) c_Nw_translatorAt))
          (sd_lf (sd_astore (by decide +kernel : decode prog_3_method_14_code 143 = .ok (.astore 8, 2)))))))
       (sd_br
        (sd_br
         (sd_lf (sd_aload (by decide +kernel : decode prog_3_method_14_code 145 = .ok (.aload 8, 2))))
         (sd_br
          (sd_lf (sd_ifnull (by decide +kernel : decode prog_3_method_14_code 147 = .ok (.ifnull 21, 3)) (by decide +kernel)))
          (sd_lf (sd_iload (by decide +kernel : decode prog_3_method_14_code 150 = .ok (.iload 7, 2))))))
        (sd_br
         (sd_lf (sd_iload_n (k := 3) (by decide +kernel : decode prog_3_method_14_code 152 = .ok (.iload_n 3, 1))))
         (sd_br
          (sd_lf (sd_icmp_ne (by decide +kernel : decode prog_3_method_14_code 153 = .ok (.if_icmp .ne 15, 3)) (by decide +kernel)))
          (sd_lf (sd_aload (by decide +kernel : decode prog_3_method_14_code 156 = .ok (.aload 8, 2))))))))
      (sd_br
       (sd_br
        (sd_br
         (sd_lf (sd_getf (q := (RX5, TX5, 11)) (by decide +kernel : decode prog_3_method_14_code 158 = .ok (.getfield 113, 3)) rfl (by decide +kernel) (gm 255 (by decide +kernel) rfl)))
         (sd_br
          (sd_lf (sd_if_ne (by decide +kernel : decode prog_3_method_14_code 161 = .ok (.ifCond .ne 7, 3)) (by decide +kernel)))
          (sd_lf (sd_iconst (by decide +kernel : decode prog_3_method_14_code 164 = .ok (.iconst 1, 1)) (by decide +kernel)))))
        (sd_br
         (sd_lf (sd_goto (by decide +kernel : decode prog_3_method_14_code 165 = .ok (.goto 4, 3)) (by decide +kernel)))
         (sd_br
          (sd_lf (sd_iconst (by decide +kernel : decode prog_3_method_14_code 168 = .ok (.iconst 0, 1)) (by decide +kernel)))
          (sd_lf (sd_istore (by decide +kernel : decode prog_3_method_14_code 169 = .ok (.istore 9, 2)))))))
       (sd_br
        (sd_br
         (sd_lf (sd_iload (by decide +kernel : decode prog_3_method_14_code 171 = .ok (.iload 9, 2))))
         (sd_br
          (sd_lf (sd_if_eq (by decide +kernel : decode prog_3_method_14_code 173 = .ok (.ifCond .eq 8, 3)) (by decide +kernel)))
          (sd_lf (sd_bipush (by decide +kernel : decode prog_3_method_14_code 176 = .ok (.bipush (-4), 2)) (by decide +kernel)))))
        (sd_br
         (sd_lf (sd_goto (by decide +kernel : decode prog_3_method_14_code 178 = .ok (.goto 5, 3)) (by decide +kernel)))
         (sd_br
          (sd_lf (sd_iload (by decide +kernel : decode prog_3_method_14_code 181 = .ok (.iload 6, 2))))
          (sd_lf (sd_iret (by decide +kernel : decode prog_3_method_14_code 183 = .ok (.ireturn, 1)) rfl)))))))))
theorem net_tr {z : Nat → Int32} (inv : Inv0 z) {a t : Nat} (ha : a < mny z) (e : z (16 + 16 * a + 1) = nI t) (ht : t < 100) : t < a ∧ t < mny z ∧ z (16 + 16 * t) = nI 1 := by
  rcases (inv.2.2.2 a ha).1.2 with q | ⟨j, j1, j2, j3⟩
  · rw [e, nN_e2 (by omega)] at q
    exact q.elim
  · have := inv.1.at.2
    rw [e, nI_eq (by omega) (by omega)] at j2
    subst j2
    exact ⟨j1, by omega, j3⟩
section
variable {l : Launch} {G : Gc}
theorem lp_go {wn b d : Nat} {x1 r s' q' : Int32} {z' : Nat → Int32} {h0 : AH} {Q : Po} (hd : 1 ≤ d ∧ d ≤ 9999)
    (q1 : ∀ h', NwR h' wn z' → Inv z' → Fr wn 20 h0 h' → (r = nN ∨ r = (-5) ∨ r = (-4)) → Q (.inl (some (.int r))) h')
    (q2 : ∀ h' y sa sp k, NwR h' wn y → Inv y → Fr wn 20 h0 h' → b < mny y → sa < mny y → (1 ≤ sp ∧ sp ≤ 9999) → CinR (nI sa) (nI sp) k y (nI b) (nI d) r z' → Q (.inl (some (.int (nI (sa * 10000 + sp))))) h') :
    ∀ (f st : Nat) (z : Nat → Int32) (h : AH) (gn net last : Int32) (sa sp : Nat) (v9 v10 : Option Value), WF h → Inv z → NwR h wn z → Fr wn (2 * st) h0 h → st ≤ 9 → (b < mny z ∧ gn = z (16 + 16 * b + 1)) → (sa < mny z ∧ z (16 + 16 * sa + 1) = net ∧ 1 ≤ sp ∧ sp ≤ 9999) → (net = nN ∨ ∃ t, net = nI t ∧ t + st ≤ 8) → (last = nN ∨ ∃ t, t < mny z ∧ last = nI t ∧ z (16 + 16 * t) = nI 1) → TrvR b (nI d) f z net last (nI sa) (nI sp) r z' s' q' →
      AWp l G M_Nw_goOut 31 [some (.ref wn), some (.int x1), some (.int (nI (b * 10000 + d))), some (.int (nI b)), some (.int gn), some (.int net), some (.int (nI (sa * 10000 + sp))), some (.int last), some (.int (nI st)), v9, v10] [] h Q := by
  intro f
  induction f with
  | zero => exact fun st z h gn net last sa sp v9 v10 _ _ _ _ _ _ _ _ _ hr => hr.elim
  | succ f ih =>
    intro st z h gn net last sa sp v9 v10 hw inv k fr st9 ⟨hb, egn⟩ ⟨hsa, esa, hsp⟩ hnet hlast hr
    have m10 := inv.1.1.at.2
    have h1 := k.1.1.1
    have nst : ¬ 10 ≤ st := by omega
    have hPt : ∀ x, P_Nw_translatorAt [.ref wn, .int x] h := fun x => k.1.NdK x
    subst egn
    rcases hr with ⟨c, -, -, hr⟩ | ⟨c, en, er, ez, -, -⟩ | ⟨c, t, en, ht, ho, hr⟩
    · -- in the goal's net
      have fin : AWp l G M_Nw_goOut 138 [some (.ref wn), some (.int x1), some (.int (nI (b * 10000 + d))), some (.int (nI b)), some (.int (z (16 + 16 * b + 1))), some (.int net), some (.int (nI (sa * 10000 + sp))), some (.int last), some (.int (nI st)), v9, v10] [] h Q := by
        rcases (inv.1.2.2.2 b hb).1.1 with hk | hk
        · obtain ⟨dd, e1, -⟩ := k.ho m10 hb hk
          have nl : ¬ nI b = last := by
            rintro q
            rcases hlast with q9 | ⟨t, t1, t2, t3⟩
            · rw [q9, nN_e2 (by omega)] at q; exact q
            · rw [t2, nI_eq (by omega) (by omega)] at q
              subst q
              rw [hk] at t3
              exact absurd t3 (by decide)
          rcases hr with ⟨q, -⟩ | ⟨-, kk, hr⟩
          · exact absurd q nl
          · ((obtain ⟨W9, hW9, hgo9⟩ := wp_ex (T_Nw_goOut l G) [31] _; refine hgo9 200 _ _ _ _ ?_; simp -implicitDefEqProofs (disch := omega) only [hW9, inl, gate, Xq, tz_const, tz_iload, tz_lload, tz_dload, tz_aload, tz_istore, tz_astore, tz_lstore, tz_dstore, tz_iinc, tz_i1, tz_i2, tz_i2z, tz_l2, tz_l2z, tz_i2l, tz_l2i, tz_lcmp, tz_i2d, tz_d2, tz_dcmp, tz_dup, tz_dup2, tz_pop, tz_if, tz_icmp, tz_null, tz_goto, tz_sw, tz_getf, tz_puti, tz_putz, tz_putr, tz_putl, tz_iaload, tz_baload, tz_laload, tz_aaload, tz_iastore, tz_bastore, tz_lastore, tz_aastore, tz_alen, tz_new, tz_newa, tz_oinit, tz_iret, tz_zret, tz_lret, tz_dret, tz_aret, tz_vret, tz_throw, tz_callS, tz_callV, tz_callI, tz_callR, tz_pureS, tz_pureV, tz_callVH, lg, lset, lkill, lst1, lst2, entL, isRf, is1, vl, va_rf_none, va_rf_some, isRf_rf, is1_rf, i0, i1, bI_eq0, bI_eq1, nm_em, nI_eqP, nI_leP, nI_ltP, nN_e1, nN_e2, nN_l1, nN_l2, nN_l3, nN_l4, nI_add, pk_mul, vp_inN, nI_cl, n01, n10, P_i, P_ii, P_iii, f_Mo_at, f_Mo_map, f_Mo_contact, f_Mo_within, f_Mo_isPort, f_Hp_endpoint, f_Hp_nodeOf, f_Hp_portOf, f_Ma_max, f_Ma_min, f_Hp_isSetting, popN, rok, a1, noX, swc, mL, if_true, if_false, ↓reduceIte, cond_true, cond_false, true_and, and_true, List.length_cons, List.length_nil, List.nil_append, List.cons_append, List.append_nil, Option.toList, Nat.reduceEqDiff, Bool.false_eq_true, reduceCtorEq, Nat.reduceAdd, Nat.reduceLT, Nat.reduceLeDiff, Nat.reduceSub, List.replicate, Nat.zero_add, Nat.lt_add_one, Nat.le_refl, Nat.zero_le, Nat.succ_ne_zero, not_false_eq_true, not_true_eq_false, false_implies, true_implies, forall_const, imp_self, true_or, or_true, eq_self, sI_zw, zw_zw, hI_zw, tg_zw, ln_zw, hR_zw, hL_zw, hN_zw, hM_zw, upd_s, upd_u, upd_ne, Classical.not_not, k_Nw_goOut, h1, hPt, f_Nw_translatorAt, e1]; try clear hgo9 hW9); try (obtain ⟨W9, hW9, hgo9⟩ := wp_ex (T_Nw_goOut l G) [31] _; refine hgo9 200 _ _ _ _ ?_; simp -implicitDefEqProofs (disch := omega) only [hW9, inl, gate, Xq, tz_const, tz_iload, tz_lload, tz_dload, tz_aload, tz_istore, tz_astore, tz_lstore, tz_dstore, tz_iinc, tz_i1, tz_i2, tz_i2z, tz_l2, tz_l2z, tz_i2l, tz_l2i, tz_lcmp, tz_i2d, tz_d2, tz_dcmp, tz_dup, tz_dup2, tz_pop, tz_if, tz_icmp, tz_null, tz_goto, tz_sw, tz_getf, tz_puti, tz_putz, tz_putr, tz_putl, tz_iaload, tz_baload, tz_laload, tz_aaload, tz_iastore, tz_bastore, tz_lastore, tz_aastore, tz_alen, tz_new, tz_newa, tz_oinit, tz_iret, tz_zret, tz_lret, tz_dret, tz_aret, tz_vret, tz_throw, tz_callS, tz_callV, tz_callI, tz_callR, tz_pureS, tz_pureV, tz_callVH, lg, lset, lkill, lst1, lst2, entL, isRf, is1, vl, va_rf_none, va_rf_some, isRf_rf, is1_rf, i0, i1, bI_eq0, bI_eq1, nm_em, nI_eqP, nI_leP, nI_ltP, nN_e1, nN_e2, nN_l1, nN_l2, nN_l3, nN_l4, nI_add, pk_mul, vp_inN, nI_cl, n01, n10, P_i, P_ii, P_iii, f_Mo_at, f_Mo_map, f_Mo_contact, f_Mo_within, f_Mo_isPort, f_Hp_endpoint, f_Hp_nodeOf, f_Hp_portOf, f_Ma_max, f_Ma_min, f_Hp_isSetting, popN, rok, a1, noX, swc, mL, if_true, if_false, ↓reduceIte, cond_true, cond_false, true_and, and_true, List.length_cons, List.length_nil, List.nil_append, List.cons_append, List.append_nil, Option.toList, Nat.reduceEqDiff, Bool.false_eq_true, reduceCtorEq, Nat.reduceAdd, Nat.reduceLT, Nat.reduceLeDiff, Nat.reduceSub, List.replicate, Nat.zero_add, Nat.lt_add_one, Nat.le_refl, Nat.zero_le, Nat.succ_ne_zero, not_false_eq_true, not_true_eq_false, false_implies, true_implies, forall_const, imp_self, true_or, or_true, eq_self, sI_zw, zw_zw, hI_zw, tg_zw, ln_zw, hR_zw, hL_zw, hN_zw, hM_zw, upd_s, upd_u, upd_ne, Classical.not_not, k_Nw_goOut, h1, hPt, f_Nw_translatorAt, e1]; try clear hgo9 hW9); try (obtain ⟨W9, hW9, hgo9⟩ := wp_ex (T_Nw_goOut l G) [31] _; refine hgo9 200 _ _ _ _ ?_; simp -implicitDefEqProofs (disch := omega) only [hW9, inl, gate, Xq, tz_const, tz_iload, tz_lload, tz_dload, tz_aload, tz_istore, tz_astore, tz_lstore, tz_dstore, tz_iinc, tz_i1, tz_i2, tz_i2z, tz_l2, tz_l2z, tz_i2l, tz_l2i, tz_lcmp, tz_i2d, tz_d2, tz_dcmp, tz_dup, tz_dup2, tz_pop, tz_if, tz_icmp, tz_null, tz_goto, tz_sw, tz_getf, tz_puti, tz_putz, tz_putr, tz_putl, tz_iaload, tz_baload, tz_laload, tz_aaload, tz_iastore, tz_bastore, tz_lastore, tz_aastore, tz_alen, tz_new, tz_newa, tz_oinit, tz_iret, tz_zret, tz_lret, tz_dret, tz_aret, tz_vret, tz_throw, tz_callS, tz_callV, tz_callI, tz_callR, tz_pureS, tz_pureV, tz_callVH, lg, lset, lkill, lst1, lst2, entL, isRf, is1, vl, va_rf_none, va_rf_some, isRf_rf, is1_rf, i0, i1, bI_eq0, bI_eq1, nm_em, nI_eqP, nI_leP, nI_ltP, nN_e1, nN_e2, nN_l1, nN_l2, nN_l3, nN_l4, nI_add, pk_mul, vp_inN, nI_cl, n01, n10, P_i, P_ii, P_iii, f_Mo_at, f_Mo_map, f_Mo_contact, f_Mo_within, f_Mo_isPort, f_Hp_endpoint, f_Hp_nodeOf, f_Hp_portOf, f_Ma_max, f_Ma_min, f_Hp_isSetting, popN, rok, a1, noX, swc, mL, if_true, if_false, ↓reduceIte, cond_true, cond_false, true_and, and_true, List.length_cons, List.length_nil, List.nil_append, List.cons_append, List.append_nil, Option.toList, Nat.reduceEqDiff, Bool.false_eq_true, reduceCtorEq, Nat.reduceAdd, Nat.reduceLT, Nat.reduceLeDiff, Nat.reduceSub, List.replicate, Nat.zero_add, Nat.lt_add_one, Nat.le_refl, Nat.zero_le, Nat.succ_ne_zero, not_false_eq_true, not_true_eq_false, false_implies, true_implies, forall_const, imp_self, true_or, or_true, eq_self, sI_zw, zw_zw, hI_zw, tg_zw, ln_zw, hR_zw, hL_zw, hN_zw, hM_zw, upd_s, upd_u, upd_ne, Classical.not_not, k_Nw_goOut, h1, hPt, f_Nw_translatorAt, e1]; try clear hgo9 hW9); try (obtain ⟨W9, hW9, hgo9⟩ := wp_ex (T_Nw_goOut l G) [31] _; refine hgo9 200 _ _ _ _ ?_; simp -implicitDefEqProofs (disch := omega) only [hW9, inl, gate, Xq, tz_const, tz_iload, tz_lload, tz_dload, tz_aload, tz_istore, tz_astore, tz_lstore, tz_dstore, tz_iinc, tz_i1, tz_i2, tz_i2z, tz_l2, tz_l2z, tz_i2l, tz_l2i, tz_lcmp, tz_i2d, tz_d2, tz_dcmp, tz_dup, tz_dup2, tz_pop, tz_if, tz_icmp, tz_null, tz_goto, tz_sw, tz_getf, tz_puti, tz_putz, tz_putr, tz_putl, tz_iaload, tz_baload, tz_laload, tz_aaload, tz_iastore, tz_bastore, tz_lastore, tz_aastore, tz_alen, tz_new, tz_newa, tz_oinit, tz_iret, tz_zret, tz_lret, tz_dret, tz_aret, tz_vret, tz_throw, tz_callS, tz_callV, tz_callI, tz_callR, tz_pureS, tz_pureV, tz_callVH, lg, lset, lkill, lst1, lst2, entL, isRf, is1, vl, va_rf_none, va_rf_some, isRf_rf, is1_rf, i0, i1, bI_eq0, bI_eq1, nm_em, nI_eqP, nI_leP, nI_ltP, nN_e1, nN_e2, nN_l1, nN_l2, nN_l3, nN_l4, nI_add, pk_mul, vp_inN, nI_cl, n01, n10, P_i, P_ii, P_iii, f_Mo_at, f_Mo_map, f_Mo_contact, f_Mo_within, f_Mo_isPort, f_Hp_endpoint, f_Hp_nodeOf, f_Hp_portOf, f_Ma_max, f_Ma_min, f_Hp_isSetting, popN, rok, a1, noX, swc, mL, if_true, if_false, ↓reduceIte, cond_true, cond_false, true_and, and_true, List.length_cons, List.length_nil, List.nil_append, List.cons_append, List.append_nil, Option.toList, Nat.reduceEqDiff, Bool.false_eq_true, reduceCtorEq, Nat.reduceAdd, Nat.reduceLT, Nat.reduceLeDiff, Nat.reduceSub, List.replicate, Nat.zero_add, Nat.lt_add_one, Nat.le_refl, Nat.zero_le, Nat.succ_ne_zero, not_false_eq_true, not_true_eq_false, false_implies, true_implies, forall_const, imp_self, true_or, or_true, eq_self, sI_zw, zw_zw, hI_zw, tg_zw, ln_zw, hR_zw, hL_zw, hN_zw, hM_zw, upd_s, upd_u, upd_ne, Classical.not_not, k_Nw_goOut, h1, hPt, f_Nw_translatorAt, e1]; try clear hgo9 hW9))
            exact q2 h z sa sp kk k inv (fr.mono (by omega)) hb hsa hsp hr
        · obtain ⟨dd, gt, e1, -, -, d1, d2, d3, sh, tl⟩ := k.tr m10 hb hk
          have g1 := sh.1.1
          have h5 := tl.1.1.2.2.2.2.2.1
          rcases hr with ⟨q, -, q0, er, ez⟩ | ⟨q, kk, hr⟩
          · subst q er ez
            rw [q0] at h5
            ((obtain ⟨W9, hW9, hgo9⟩ := wp_ex (T_Nw_goOut l G) [31] _; refine hgo9 200 _ _ _ _ ?_; simp -implicitDefEqProofs (disch := omega) only [hW9, inl, gate, Xq, tz_const, tz_iload, tz_lload, tz_dload, tz_aload, tz_istore, tz_astore, tz_lstore, tz_dstore, tz_iinc, tz_i1, tz_i2, tz_i2z, tz_l2, tz_l2z, tz_i2l, tz_l2i, tz_lcmp, tz_i2d, tz_d2, tz_dcmp, tz_dup, tz_dup2, tz_pop, tz_if, tz_icmp, tz_null, tz_goto, tz_sw, tz_getf, tz_puti, tz_putz, tz_putr, tz_putl, tz_iaload, tz_baload, tz_laload, tz_aaload, tz_iastore, tz_bastore, tz_lastore, tz_aastore, tz_alen, tz_new, tz_newa, tz_oinit, tz_iret, tz_zret, tz_lret, tz_dret, tz_aret, tz_vret, tz_throw, tz_callS, tz_callV, tz_callI, tz_callR, tz_pureS, tz_pureV, tz_callVH, lg, lset, lkill, lst1, lst2, entL, isRf, is1, vl, va_rf_none, va_rf_some, isRf_rf, is1_rf, i0, i1, bI_eq0, bI_eq1, nm_em, nI_eqP, nI_leP, nI_ltP, nN_e1, nN_e2, nN_l1, nN_l2, nN_l3, nN_l4, nI_add, pk_mul, vp_inN, nI_cl, n01, n10, P_i, P_ii, P_iii, f_Mo_at, f_Mo_map, f_Mo_contact, f_Mo_within, f_Mo_isPort, f_Hp_endpoint, f_Hp_nodeOf, f_Hp_portOf, f_Ma_max, f_Ma_min, f_Hp_isSetting, popN, rok, a1, noX, swc, mL, if_true, if_false, ↓reduceIte, cond_true, cond_false, true_and, and_true, List.length_cons, List.length_nil, List.nil_append, List.cons_append, List.append_nil, Option.toList, Nat.reduceEqDiff, Bool.false_eq_true, reduceCtorEq, Nat.reduceAdd, Nat.reduceLT, Nat.reduceLeDiff, Nat.reduceSub, List.replicate, Nat.zero_add, Nat.lt_add_one, Nat.le_refl, Nat.zero_le, Nat.succ_ne_zero, not_false_eq_true, not_true_eq_false, false_implies, true_implies, forall_const, imp_self, true_or, or_true, eq_self, sI_zw, zw_zw, hI_zw, tg_zw, ln_zw, hR_zw, hL_zw, hN_zw, hM_zw, upd_s, upd_u, upd_ne, Classical.not_not, k_Nw_goOut, h1, hPt, f_Nw_translatorAt, e1, g1, h5]; try clear hgo9 hW9); try (obtain ⟨W9, hW9, hgo9⟩ := wp_ex (T_Nw_goOut l G) [31] _; refine hgo9 200 _ _ _ _ ?_; simp -implicitDefEqProofs (disch := omega) only [hW9, inl, gate, Xq, tz_const, tz_iload, tz_lload, tz_dload, tz_aload, tz_istore, tz_astore, tz_lstore, tz_dstore, tz_iinc, tz_i1, tz_i2, tz_i2z, tz_l2, tz_l2z, tz_i2l, tz_l2i, tz_lcmp, tz_i2d, tz_d2, tz_dcmp, tz_dup, tz_dup2, tz_pop, tz_if, tz_icmp, tz_null, tz_goto, tz_sw, tz_getf, tz_puti, tz_putz, tz_putr, tz_putl, tz_iaload, tz_baload, tz_laload, tz_aaload, tz_iastore, tz_bastore, tz_lastore, tz_aastore, tz_alen, tz_new, tz_newa, tz_oinit, tz_iret, tz_zret, tz_lret, tz_dret, tz_aret, tz_vret, tz_throw, tz_callS, tz_callV, tz_callI, tz_callR, tz_pureS, tz_pureV, tz_callVH, lg, lset, lkill, lst1, lst2, entL, isRf, is1, vl, va_rf_none, va_rf_some, isRf_rf, is1_rf, i0, i1, bI_eq0, bI_eq1, nm_em, nI_eqP, nI_leP, nI_ltP, nN_e1, nN_e2, nN_l1, nN_l2, nN_l3, nN_l4, nI_add, pk_mul, vp_inN, nI_cl, n01, n10, P_i, P_ii, P_iii, f_Mo_at, f_Mo_map, f_Mo_contact, f_Mo_within, f_Mo_isPort, f_Hp_endpoint, f_Hp_nodeOf, f_Hp_portOf, f_Ma_max, f_Ma_min, f_Hp_isSetting, popN, rok, a1, noX, swc, mL, if_true, if_false, ↓reduceIte, cond_true, cond_false, true_and, and_true, List.length_cons, List.length_nil, List.nil_append, List.cons_append, List.append_nil, Option.toList, Nat.reduceEqDiff, Bool.false_eq_true, reduceCtorEq, Nat.reduceAdd, Nat.reduceLT, Nat.reduceLeDiff, Nat.reduceSub, List.replicate, Nat.zero_add, Nat.lt_add_one, Nat.le_refl, Nat.zero_le, Nat.succ_ne_zero, not_false_eq_true, not_true_eq_false, false_implies, true_implies, forall_const, imp_self, true_or, or_true, eq_self, sI_zw, zw_zw, hI_zw, tg_zw, ln_zw, hR_zw, hL_zw, hN_zw, hM_zw, upd_s, upd_u, upd_ne, Classical.not_not, k_Nw_goOut, h1, hPt, f_Nw_translatorAt, e1, g1, h5]; try clear hgo9 hW9); try (obtain ⟨W9, hW9, hgo9⟩ := wp_ex (T_Nw_goOut l G) [31] _; refine hgo9 200 _ _ _ _ ?_; simp -implicitDefEqProofs (disch := omega) only [hW9, inl, gate, Xq, tz_const, tz_iload, tz_lload, tz_dload, tz_aload, tz_istore, tz_astore, tz_lstore, tz_dstore, tz_iinc, tz_i1, tz_i2, tz_i2z, tz_l2, tz_l2z, tz_i2l, tz_l2i, tz_lcmp, tz_i2d, tz_d2, tz_dcmp, tz_dup, tz_dup2, tz_pop, tz_if, tz_icmp, tz_null, tz_goto, tz_sw, tz_getf, tz_puti, tz_putz, tz_putr, tz_putl, tz_iaload, tz_baload, tz_laload, tz_aaload, tz_iastore, tz_bastore, tz_lastore, tz_aastore, tz_alen, tz_new, tz_newa, tz_oinit, tz_iret, tz_zret, tz_lret, tz_dret, tz_aret, tz_vret, tz_throw, tz_callS, tz_callV, tz_callI, tz_callR, tz_pureS, tz_pureV, tz_callVH, lg, lset, lkill, lst1, lst2, entL, isRf, is1, vl, va_rf_none, va_rf_some, isRf_rf, is1_rf, i0, i1, bI_eq0, bI_eq1, nm_em, nI_eqP, nI_leP, nI_ltP, nN_e1, nN_e2, nN_l1, nN_l2, nN_l3, nN_l4, nI_add, pk_mul, vp_inN, nI_cl, n01, n10, P_i, P_ii, P_iii, f_Mo_at, f_Mo_map, f_Mo_contact, f_Mo_within, f_Mo_isPort, f_Hp_endpoint, f_Hp_nodeOf, f_Hp_portOf, f_Ma_max, f_Ma_min, f_Hp_isSetting, popN, rok, a1, noX, swc, mL, if_true, if_false, ↓reduceIte, cond_true, cond_false, true_and, and_true, List.length_cons, List.length_nil, List.nil_append, List.cons_append, List.append_nil, Option.toList, Nat.reduceEqDiff, Bool.false_eq_true, reduceCtorEq, Nat.reduceAdd, Nat.reduceLT, Nat.reduceLeDiff, Nat.reduceSub, List.replicate, Nat.zero_add, Nat.lt_add_one, Nat.le_refl, Nat.zero_le, Nat.succ_ne_zero, not_false_eq_true, not_true_eq_false, false_implies, true_implies, forall_const, imp_self, true_or, or_true, eq_self, sI_zw, zw_zw, hI_zw, tg_zw, ln_zw, hR_zw, hL_zw, hN_zw, hM_zw, upd_s, upd_u, upd_ne, Classical.not_not, k_Nw_goOut, h1, hPt, f_Nw_translatorAt, e1, g1, h5]; try clear hgo9 hW9); try (obtain ⟨W9, hW9, hgo9⟩ := wp_ex (T_Nw_goOut l G) [31] _; refine hgo9 200 _ _ _ _ ?_; simp -implicitDefEqProofs (disch := omega) only [hW9, inl, gate, Xq, tz_const, tz_iload, tz_lload, tz_dload, tz_aload, tz_istore, tz_astore, tz_lstore, tz_dstore, tz_iinc, tz_i1, tz_i2, tz_i2z, tz_l2, tz_l2z, tz_i2l, tz_l2i, tz_lcmp, tz_i2d, tz_d2, tz_dcmp, tz_dup, tz_dup2, tz_pop, tz_if, tz_icmp, tz_null, tz_goto, tz_sw, tz_getf, tz_puti, tz_putz, tz_putr, tz_putl, tz_iaload, tz_baload, tz_laload, tz_aaload, tz_iastore, tz_bastore, tz_lastore, tz_aastore, tz_alen, tz_new, tz_newa, tz_oinit, tz_iret, tz_zret, tz_lret, tz_dret, tz_aret, tz_vret, tz_throw, tz_callS, tz_callV, tz_callI, tz_callR, tz_pureS, tz_pureV, tz_callVH, lg, lset, lkill, lst1, lst2, entL, isRf, is1, vl, va_rf_none, va_rf_some, isRf_rf, is1_rf, i0, i1, bI_eq0, bI_eq1, nm_em, nI_eqP, nI_leP, nI_ltP, nN_e1, nN_e2, nN_l1, nN_l2, nN_l3, nN_l4, nI_add, pk_mul, vp_inN, nI_cl, n01, n10, P_i, P_ii, P_iii, f_Mo_at, f_Mo_map, f_Mo_contact, f_Mo_within, f_Mo_isPort, f_Hp_endpoint, f_Hp_nodeOf, f_Hp_portOf, f_Ma_max, f_Ma_min, f_Hp_isSetting, popN, rok, a1, noX, swc, mL, if_true, if_false, ↓reduceIte, cond_true, cond_false, true_and, and_true, List.length_cons, List.length_nil, List.nil_append, List.cons_append, List.append_nil, Option.toList, Nat.reduceEqDiff, Bool.false_eq_true, reduceCtorEq, Nat.reduceAdd, Nat.reduceLT, Nat.reduceLeDiff, Nat.reduceSub, List.replicate, Nat.zero_add, Nat.lt_add_one, Nat.le_refl, Nat.zero_le, Nat.succ_ne_zero, not_false_eq_true, not_true_eq_false, false_implies, true_implies, forall_const, imp_self, true_or, or_true, eq_self, sI_zw, zw_zw, hI_zw, tg_zw, ln_zw, hR_zw, hL_zw, hN_zw, hM_zw, upd_s, upd_u, upd_ne, Classical.not_not, k_Nw_goOut, h1, hPt, f_Nw_translatorAt, e1, g1, h5]; try clear hgo9 hW9); try (obtain ⟨W9, hW9, hgo9⟩ := wp_ex (T_Nw_goOut l G) [31] _; refine hgo9 200 _ _ _ _ ?_; simp -implicitDefEqProofs (disch := omega) only [hW9, inl, gate, Xq, tz_const, tz_iload, tz_lload, tz_dload, tz_aload, tz_istore, tz_astore, tz_lstore, tz_dstore, tz_iinc, tz_i1, tz_i2, tz_i2z, tz_l2, tz_l2z, tz_i2l, tz_l2i, tz_lcmp, tz_i2d, tz_d2, tz_dcmp, tz_dup, tz_dup2, tz_pop, tz_if, tz_icmp, tz_null, tz_goto, tz_sw, tz_getf, tz_puti, tz_putz, tz_putr, tz_putl, tz_iaload, tz_baload, tz_laload, tz_aaload, tz_iastore, tz_bastore, tz_lastore, tz_aastore, tz_alen, tz_new, tz_newa, tz_oinit, tz_iret, tz_zret, tz_lret, tz_dret, tz_aret, tz_vret, tz_throw, tz_callS, tz_callV, tz_callI, tz_callR, tz_pureS, tz_pureV, tz_callVH, lg, lset, lkill, lst1, lst2, entL, isRf, is1, vl, va_rf_none, va_rf_some, isRf_rf, is1_rf, i0, i1, bI_eq0, bI_eq1, nm_em, nI_eqP, nI_leP, nI_ltP, nN_e1, nN_e2, nN_l1, nN_l2, nN_l3, nN_l4, nI_add, pk_mul, vp_inN, nI_cl, n01, n10, P_i, P_ii, P_iii, f_Mo_at, f_Mo_map, f_Mo_contact, f_Mo_within, f_Mo_isPort, f_Hp_endpoint, f_Hp_nodeOf, f_Hp_portOf, f_Ma_max, f_Ma_min, f_Hp_isSetting, popN, rok, a1, noX, swc, mL, if_true, if_false, ↓reduceIte, cond_true, cond_false, true_and, and_true, List.length_cons, List.length_nil, List.nil_append, List.cons_append, List.append_nil, Option.toList, Nat.reduceEqDiff, Bool.false_eq_true, reduceCtorEq, Nat.reduceAdd, Nat.reduceLT, Nat.reduceLeDiff, Nat.reduceSub, List.replicate, Nat.zero_add, Nat.lt_add_one, Nat.le_refl, Nat.zero_le, Nat.succ_ne_zero, not_false_eq_true, not_true_eq_false, false_implies, true_implies, forall_const, imp_self, true_or, or_true, eq_self, sI_zw, zw_zw, hI_zw, tg_zw, ln_zw, hR_zw, hL_zw, hN_zw, hM_zw, upd_s, upd_u, upd_ne, Classical.not_not, k_Nw_goOut, h1, hPt, f_Nw_translatorAt, e1, g1, h5]; try clear hgo9 hW9))
            exact q1 h k inv (fr.mono (by omega)) (Or.inr (Or.inr rfl))
          · by_cases c2 : last = nI b
            · have q0 : ¬ z (16 + 16 * b + 7) = nI 0 := by
                rcases q with q | q
                · exact absurd c2.symm q
                · exact q
              rw [← h5] at q0
              subst c2
              ((obtain ⟨W9, hW9, hgo9⟩ := wp_ex (T_Nw_goOut l G) [31] _; refine hgo9 200 _ _ _ _ ?_; simp -implicitDefEqProofs (disch := omega) only [hW9, inl, gate, Xq, tz_const, tz_iload, tz_lload, tz_dload, tz_aload, tz_istore, tz_astore, tz_lstore, tz_dstore, tz_iinc, tz_i1, tz_i2, tz_i2z, tz_l2, tz_l2z, tz_i2l, tz_l2i, tz_lcmp, tz_i2d, tz_d2, tz_dcmp, tz_dup, tz_dup2, tz_pop, tz_if, tz_icmp, tz_null, tz_goto, tz_sw, tz_getf, tz_puti, tz_putz, tz_putr, tz_putl, tz_iaload, tz_baload, tz_laload, tz_aaload, tz_iastore, tz_bastore, tz_lastore, tz_aastore, tz_alen, tz_new, tz_newa, tz_oinit, tz_iret, tz_zret, tz_lret, tz_dret, tz_aret, tz_vret, tz_throw, tz_callS, tz_callV, tz_callI, tz_callR, tz_pureS, tz_pureV, tz_callVH, lg, lset, lkill, lst1, lst2, entL, isRf, is1, vl, va_rf_none, va_rf_some, isRf_rf, is1_rf, i0, i1, bI_eq0, bI_eq1, nm_em, nI_eqP, nI_leP, nI_ltP, nN_e1, nN_e2, nN_l1, nN_l2, nN_l3, nN_l4, nI_add, pk_mul, vp_inN, nI_cl, n01, n10, P_i, P_ii, P_iii, f_Mo_at, f_Mo_map, f_Mo_contact, f_Mo_within, f_Mo_isPort, f_Hp_endpoint, f_Hp_nodeOf, f_Hp_portOf, f_Ma_max, f_Ma_min, f_Hp_isSetting, popN, rok, a1, noX, swc, mL, if_true, if_false, ↓reduceIte, cond_true, cond_false, true_and, and_true, List.length_cons, List.length_nil, List.nil_append, List.cons_append, List.append_nil, Option.toList, Nat.reduceEqDiff, Bool.false_eq_true, reduceCtorEq, Nat.reduceAdd, Nat.reduceLT, Nat.reduceLeDiff, Nat.reduceSub, List.replicate, Nat.zero_add, Nat.lt_add_one, Nat.le_refl, Nat.zero_le, Nat.succ_ne_zero, not_false_eq_true, not_true_eq_false, false_implies, true_implies, forall_const, imp_self, true_or, or_true, eq_self, sI_zw, zw_zw, hI_zw, tg_zw, ln_zw, hR_zw, hL_zw, hN_zw, hM_zw, upd_s, upd_u, upd_ne, Classical.not_not, k_Nw_goOut, h1, hPt, f_Nw_translatorAt, e1, g1, q0]; try clear hgo9 hW9); try (obtain ⟨W9, hW9, hgo9⟩ := wp_ex (T_Nw_goOut l G) [31] _; refine hgo9 200 _ _ _ _ ?_; simp -implicitDefEqProofs (disch := omega) only [hW9, inl, gate, Xq, tz_const, tz_iload, tz_lload, tz_dload, tz_aload, tz_istore, tz_astore, tz_lstore, tz_dstore, tz_iinc, tz_i1, tz_i2, tz_i2z, tz_l2, tz_l2z, tz_i2l, tz_l2i, tz_lcmp, tz_i2d, tz_d2, tz_dcmp, tz_dup, tz_dup2, tz_pop, tz_if, tz_icmp, tz_null, tz_goto, tz_sw, tz_getf, tz_puti, tz_putz, tz_putr, tz_putl, tz_iaload, tz_baload, tz_laload, tz_aaload, tz_iastore, tz_bastore, tz_lastore, tz_aastore, tz_alen, tz_new, tz_newa, tz_oinit, tz_iret, tz_zret, tz_lret, tz_dret, tz_aret, tz_vret, tz_throw, tz_callS, tz_callV, tz_callI, tz_callR, tz_pureS, tz_pureV, tz_callVH, lg, lset, lkill, lst1, lst2, entL, isRf, is1, vl, va_rf_none, va_rf_some, isRf_rf, is1_rf, i0, i1, bI_eq0, bI_eq1, nm_em, nI_eqP, nI_leP, nI_ltP, nN_e1, nN_e2, nN_l1, nN_l2, nN_l3, nN_l4, nI_add, pk_mul, vp_inN, nI_cl, n01, n10, P_i, P_ii, P_iii, f_Mo_at, f_Mo_map, f_Mo_contact, f_Mo_within, f_Mo_isPort, f_Hp_endpoint, f_Hp_nodeOf, f_Hp_portOf, f_Ma_max, f_Ma_min, f_Hp_isSetting, popN, rok, a1, noX, swc, mL, if_true, if_false, ↓reduceIte, cond_true, cond_false, true_and, and_true, List.length_cons, List.length_nil, List.nil_append, List.cons_append, List.append_nil, Option.toList, Nat.reduceEqDiff, Bool.false_eq_true, reduceCtorEq, Nat.reduceAdd, Nat.reduceLT, Nat.reduceLeDiff, Nat.reduceSub, List.replicate, Nat.zero_add, Nat.lt_add_one, Nat.le_refl, Nat.zero_le, Nat.succ_ne_zero, not_false_eq_true, not_true_eq_false, false_implies, true_implies, forall_const, imp_self, true_or, or_true, eq_self, sI_zw, zw_zw, hI_zw, tg_zw, ln_zw, hR_zw, hL_zw, hN_zw, hM_zw, upd_s, upd_u, upd_ne, Classical.not_not, k_Nw_goOut, h1, hPt, f_Nw_translatorAt, e1, g1, q0]; try clear hgo9 hW9); try (obtain ⟨W9, hW9, hgo9⟩ := wp_ex (T_Nw_goOut l G) [31] _; refine hgo9 200 _ _ _ _ ?_; simp -implicitDefEqProofs (disch := omega) only [hW9, inl, gate, Xq, tz_const, tz_iload, tz_lload, tz_dload, tz_aload, tz_istore, tz_astore, tz_lstore, tz_dstore, tz_iinc, tz_i1, tz_i2, tz_i2z, tz_l2, tz_l2z, tz_i2l, tz_l2i, tz_lcmp, tz_i2d, tz_d2, tz_dcmp, tz_dup, tz_dup2, tz_pop, tz_if, tz_icmp, tz_null, tz_goto, tz_sw, tz_getf, tz_puti, tz_putz, tz_putr, tz_putl, tz_iaload, tz_baload, tz_laload, tz_aaload, tz_iastore, tz_bastore, tz_lastore, tz_aastore, tz_alen, tz_new, tz_newa, tz_oinit, tz_iret, tz_zret, tz_lret, tz_dret, tz_aret, tz_vret, tz_throw, tz_callS, tz_callV, tz_callI, tz_callR, tz_pureS, tz_pureV, tz_callVH, lg, lset, lkill, lst1, lst2, entL, isRf, is1, vl, va_rf_none, va_rf_some, isRf_rf, is1_rf, i0, i1, bI_eq0, bI_eq1, nm_em, nI_eqP, nI_leP, nI_ltP, nN_e1, nN_e2, nN_l1, nN_l2, nN_l3, nN_l4, nI_add, pk_mul, vp_inN, nI_cl, n01, n10, P_i, P_ii, P_iii, f_Mo_at, f_Mo_map, f_Mo_contact, f_Mo_within, f_Mo_isPort, f_Hp_endpoint, f_Hp_nodeOf, f_Hp_portOf, f_Ma_max, f_Ma_min, f_Hp_isSetting, popN, rok, a1, noX, swc, mL, if_true, if_false, ↓reduceIte, cond_true, cond_false, true_and, and_true, List.length_cons, List.length_nil, List.nil_append, List.cons_append, List.append_nil, Option.toList, Nat.reduceEqDiff, Bool.false_eq_true, reduceCtorEq, Nat.reduceAdd, Nat.reduceLT, Nat.reduceLeDiff, Nat.reduceSub, List.replicate, Nat.zero_add, Nat.lt_add_one, Nat.le_refl, Nat.zero_le, Nat.succ_ne_zero, not_false_eq_true, not_true_eq_false, false_implies, true_implies, forall_const, imp_self, true_or, or_true, eq_self, sI_zw, zw_zw, hI_zw, tg_zw, ln_zw, hR_zw, hL_zw, hN_zw, hM_zw, upd_s, upd_u, upd_ne, Classical.not_not, k_Nw_goOut, h1, hPt, f_Nw_translatorAt, e1, g1, q0]; try clear hgo9 hW9); try (obtain ⟨W9, hW9, hgo9⟩ := wp_ex (T_Nw_goOut l G) [31] _; refine hgo9 200 _ _ _ _ ?_; simp -implicitDefEqProofs (disch := omega) only [hW9, inl, gate, Xq, tz_const, tz_iload, tz_lload, tz_dload, tz_aload, tz_istore, tz_astore, tz_lstore, tz_dstore, tz_iinc, tz_i1, tz_i2, tz_i2z, tz_l2, tz_l2z, tz_i2l, tz_l2i, tz_lcmp, tz_i2d, tz_d2, tz_dcmp, tz_dup, tz_dup2, tz_pop, tz_if, tz_icmp, tz_null, tz_goto, tz_sw, tz_getf, tz_puti, tz_putz, tz_putr, tz_putl, tz_iaload, tz_baload, tz_laload, tz_aaload, tz_iastore, tz_bastore, tz_lastore, tz_aastore, tz_alen, tz_new, tz_newa, tz_oinit, tz_iret, tz_zret, tz_lret, tz_dret, tz_aret, tz_vret, tz_throw, tz_callS, tz_callV, tz_callI, tz_callR, tz_pureS, tz_pureV, tz_callVH, lg, lset, lkill, lst1, lst2, entL, isRf, is1, vl, va_rf_none, va_rf_some, isRf_rf, is1_rf, i0, i1, bI_eq0, bI_eq1, nm_em, nI_eqP, nI_leP, nI_ltP, nN_e1, nN_e2, nN_l1, nN_l2, nN_l3, nN_l4, nI_add, pk_mul, vp_inN, nI_cl, n01, n10, P_i, P_ii, P_iii, f_Mo_at, f_Mo_map, f_Mo_contact, f_Mo_within, f_Mo_isPort, f_Hp_endpoint, f_Hp_nodeOf, f_Hp_portOf, f_Ma_max, f_Ma_min, f_Hp_isSetting, popN, rok, a1, noX, swc, mL, if_true, if_false, ↓reduceIte, cond_true, cond_false, true_and, and_true, List.length_cons, List.length_nil, List.nil_append, List.cons_append, List.append_nil, Option.toList, Nat.reduceEqDiff, Bool.false_eq_true, reduceCtorEq, Nat.reduceAdd, Nat.reduceLT, Nat.reduceLeDiff, Nat.reduceSub, List.replicate, Nat.zero_add, Nat.lt_add_one, Nat.le_refl, Nat.zero_le, Nat.succ_ne_zero, not_false_eq_true, not_true_eq_false, false_implies, true_implies, forall_const, imp_self, true_or, or_true, eq_self, sI_zw, zw_zw, hI_zw, tg_zw, ln_zw, hR_zw, hL_zw, hN_zw, hM_zw, upd_s, upd_u, upd_ne, Classical.not_not, k_Nw_goOut, h1, hPt, f_Nw_translatorAt, e1, g1, q0]; try clear hgo9 hW9); try (obtain ⟨W9, hW9, hgo9⟩ := wp_ex (T_Nw_goOut l G) [31] _; refine hgo9 200 _ _ _ _ ?_; simp -implicitDefEqProofs (disch := omega) only [hW9, inl, gate, Xq, tz_const, tz_iload, tz_lload, tz_dload, tz_aload, tz_istore, tz_astore, tz_lstore, tz_dstore, tz_iinc, tz_i1, tz_i2, tz_i2z, tz_l2, tz_l2z, tz_i2l, tz_l2i, tz_lcmp, tz_i2d, tz_d2, tz_dcmp, tz_dup, tz_dup2, tz_pop, tz_if, tz_icmp, tz_null, tz_goto, tz_sw, tz_getf, tz_puti, tz_putz, tz_putr, tz_putl, tz_iaload, tz_baload, tz_laload, tz_aaload, tz_iastore, tz_bastore, tz_lastore, tz_aastore, tz_alen, tz_new, tz_newa, tz_oinit, tz_iret, tz_zret, tz_lret, tz_dret, tz_aret, tz_vret, tz_throw, tz_callS, tz_callV, tz_callI, tz_callR, tz_pureS, tz_pureV, tz_callVH, lg, lset, lkill, lst1, lst2, entL, isRf, is1, vl, va_rf_none, va_rf_some, isRf_rf, is1_rf, i0, i1, bI_eq0, bI_eq1, nm_em, nI_eqP, nI_leP, nI_ltP, nN_e1, nN_e2, nN_l1, nN_l2, nN_l3, nN_l4, nI_add, pk_mul, vp_inN, nI_cl, n01, n10, P_i, P_ii, P_iii, f_Mo_at, f_Mo_map, f_Mo_contact, f_Mo_within, f_Mo_isPort, f_Hp_endpoint, f_Hp_nodeOf, f_Hp_portOf, f_Ma_max, f_Ma_min, f_Hp_isSetting, popN, rok, a1, noX, swc, mL, if_true, if_false, ↓reduceIte, cond_true, cond_false, true_and, and_true, List.length_cons, List.length_nil, List.nil_append, List.cons_append, List.append_nil, Option.toList, Nat.reduceEqDiff, Bool.false_eq_true, reduceCtorEq, Nat.reduceAdd, Nat.reduceLT, Nat.reduceLeDiff, Nat.reduceSub, List.replicate, Nat.zero_add, Nat.lt_add_one, Nat.le_refl, Nat.zero_le, Nat.succ_ne_zero, not_false_eq_true, not_true_eq_false, false_implies, true_implies, forall_const, imp_self, true_or, or_true, eq_self, sI_zw, zw_zw, hI_zw, tg_zw, ln_zw, hR_zw, hL_zw, hN_zw, hM_zw, upd_s, upd_u, upd_ne, Classical.not_not, k_Nw_goOut, h1, hPt, f_Nw_translatorAt, e1, g1, q0]; try clear hgo9 hW9))
              exact q2 h z sa sp kk k inv (fr.mono (by omega)) hb hsa hsp hr
            · ((obtain ⟨W9, hW9, hgo9⟩ := wp_ex (T_Nw_goOut l G) [31] _; refine hgo9 200 _ _ _ _ ?_; simp -implicitDefEqProofs (disch := omega) only [hW9, inl, gate, Xq, tz_const, tz_iload, tz_lload, tz_dload, tz_aload, tz_istore, tz_astore, tz_lstore, tz_dstore, tz_iinc, tz_i1, tz_i2, tz_i2z, tz_l2, tz_l2z, tz_i2l, tz_l2i, tz_lcmp, tz_i2d, tz_d2, tz_dcmp, tz_dup, tz_dup2, tz_pop, tz_if, tz_icmp, tz_null, tz_goto, tz_sw, tz_getf, tz_puti, tz_putz, tz_putr, tz_putl, tz_iaload, tz_baload, tz_laload, tz_aaload, tz_iastore, tz_bastore, tz_lastore, tz_aastore, tz_alen, tz_new, tz_newa, tz_oinit, tz_iret, tz_zret, tz_lret, tz_dret, tz_aret, tz_vret, tz_throw, tz_callS, tz_callV, tz_callI, tz_callR, tz_pureS, tz_pureV, tz_callVH, lg, lset, lkill, lst1, lst2, entL, isRf, is1, vl, va_rf_none, va_rf_some, isRf_rf, is1_rf, i0, i1, bI_eq0, bI_eq1, nm_em, nI_eqP, nI_leP, nI_ltP, nN_e1, nN_e2, nN_l1, nN_l2, nN_l3, nN_l4, nI_add, pk_mul, vp_inN, nI_cl, n01, n10, P_i, P_ii, P_iii, f_Mo_at, f_Mo_map, f_Mo_contact, f_Mo_within, f_Mo_isPort, f_Hp_endpoint, f_Hp_nodeOf, f_Hp_portOf, f_Ma_max, f_Ma_min, f_Hp_isSetting, popN, rok, a1, noX, swc, mL, if_true, if_false, ↓reduceIte, cond_true, cond_false, true_and, and_true, List.length_cons, List.length_nil, List.nil_append, List.cons_append, List.append_nil, Option.toList, Nat.reduceEqDiff, Bool.false_eq_true, reduceCtorEq, Nat.reduceAdd, Nat.reduceLT, Nat.reduceLeDiff, Nat.reduceSub, List.replicate, Nat.zero_add, Nat.lt_add_one, Nat.le_refl, Nat.zero_le, Nat.succ_ne_zero, not_false_eq_true, not_true_eq_false, false_implies, true_implies, forall_const, imp_self, true_or, or_true, eq_self, sI_zw, zw_zw, hI_zw, tg_zw, ln_zw, hR_zw, hL_zw, hN_zw, hM_zw, upd_s, upd_u, upd_ne, Classical.not_not, k_Nw_goOut, h1, hPt, f_Nw_translatorAt, e1, g1, c2]; try clear hgo9 hW9); try (obtain ⟨W9, hW9, hgo9⟩ := wp_ex (T_Nw_goOut l G) [31] _; refine hgo9 200 _ _ _ _ ?_; simp -implicitDefEqProofs (disch := omega) only [hW9, inl, gate, Xq, tz_const, tz_iload, tz_lload, tz_dload, tz_aload, tz_istore, tz_astore, tz_lstore, tz_dstore, tz_iinc, tz_i1, tz_i2, tz_i2z, tz_l2, tz_l2z, tz_i2l, tz_l2i, tz_lcmp, tz_i2d, tz_d2, tz_dcmp, tz_dup, tz_dup2, tz_pop, tz_if, tz_icmp, tz_null, tz_goto, tz_sw, tz_getf, tz_puti, tz_putz, tz_putr, tz_putl, tz_iaload, tz_baload, tz_laload, tz_aaload, tz_iastore, tz_bastore, tz_lastore, tz_aastore, tz_alen, tz_new, tz_newa, tz_oinit, tz_iret, tz_zret, tz_lret, tz_dret, tz_aret, tz_vret, tz_throw, tz_callS, tz_callV, tz_callI, tz_callR, tz_pureS, tz_pureV, tz_callVH, lg, lset, lkill, lst1, lst2, entL, isRf, is1, vl, va_rf_none, va_rf_some, isRf_rf, is1_rf, i0, i1, bI_eq0, bI_eq1, nm_em, nI_eqP, nI_leP, nI_ltP, nN_e1, nN_e2, nN_l1, nN_l2, nN_l3, nN_l4, nI_add, pk_mul, vp_inN, nI_cl, n01, n10, P_i, P_ii, P_iii, f_Mo_at, f_Mo_map, f_Mo_contact, f_Mo_within, f_Mo_isPort, f_Hp_endpoint, f_Hp_nodeOf, f_Hp_portOf, f_Ma_max, f_Ma_min, f_Hp_isSetting, popN, rok, a1, noX, swc, mL, if_true, if_false, ↓reduceIte, cond_true, cond_false, true_and, and_true, List.length_cons, List.length_nil, List.nil_append, List.cons_append, List.append_nil, Option.toList, Nat.reduceEqDiff, Bool.false_eq_true, reduceCtorEq, Nat.reduceAdd, Nat.reduceLT, Nat.reduceLeDiff, Nat.reduceSub, List.replicate, Nat.zero_add, Nat.lt_add_one, Nat.le_refl, Nat.zero_le, Nat.succ_ne_zero, not_false_eq_true, not_true_eq_false, false_implies, true_implies, forall_const, imp_self, true_or, or_true, eq_self, sI_zw, zw_zw, hI_zw, tg_zw, ln_zw, hR_zw, hL_zw, hN_zw, hM_zw, upd_s, upd_u, upd_ne, Classical.not_not, k_Nw_goOut, h1, hPt, f_Nw_translatorAt, e1, g1, c2]; try clear hgo9 hW9); try (obtain ⟨W9, hW9, hgo9⟩ := wp_ex (T_Nw_goOut l G) [31] _; refine hgo9 200 _ _ _ _ ?_; simp -implicitDefEqProofs (disch := omega) only [hW9, inl, gate, Xq, tz_const, tz_iload, tz_lload, tz_dload, tz_aload, tz_istore, tz_astore, tz_lstore, tz_dstore, tz_iinc, tz_i1, tz_i2, tz_i2z, tz_l2, tz_l2z, tz_i2l, tz_l2i, tz_lcmp, tz_i2d, tz_d2, tz_dcmp, tz_dup, tz_dup2, tz_pop, tz_if, tz_icmp, tz_null, tz_goto, tz_sw, tz_getf, tz_puti, tz_putz, tz_putr, tz_putl, tz_iaload, tz_baload, tz_laload, tz_aaload, tz_iastore, tz_bastore, tz_lastore, tz_aastore, tz_alen, tz_new, tz_newa, tz_oinit, tz_iret, tz_zret, tz_lret, tz_dret, tz_aret, tz_vret, tz_throw, tz_callS, tz_callV, tz_callI, tz_callR, tz_pureS, tz_pureV, tz_callVH, lg, lset, lkill, lst1, lst2, entL, isRf, is1, vl, va_rf_none, va_rf_some, isRf_rf, is1_rf, i0, i1, bI_eq0, bI_eq1, nm_em, nI_eqP, nI_leP, nI_ltP, nN_e1, nN_e2, nN_l1, nN_l2, nN_l3, nN_l4, nI_add, pk_mul, vp_inN, nI_cl, n01, n10, P_i, P_ii, P_iii, f_Mo_at, f_Mo_map, f_Mo_contact, f_Mo_within, f_Mo_isPort, f_Hp_endpoint, f_Hp_nodeOf, f_Hp_portOf, f_Ma_max, f_Ma_min, f_Hp_isSetting, popN, rok, a1, noX, swc, mL, if_true, if_false, ↓reduceIte, cond_true, cond_false, true_and, and_true, List.length_cons, List.length_nil, List.nil_append, List.cons_append, List.append_nil, Option.toList, Nat.reduceEqDiff, Bool.false_eq_true, reduceCtorEq, Nat.reduceAdd, Nat.reduceLT, Nat.reduceLeDiff, Nat.reduceSub, List.replicate, Nat.zero_add, Nat.lt_add_one, Nat.le_refl, Nat.zero_le, Nat.succ_ne_zero, not_false_eq_true, not_true_eq_false, false_implies, true_implies, forall_const, imp_self, true_or, or_true, eq_self, sI_zw, zw_zw, hI_zw, tg_zw, ln_zw, hR_zw, hL_zw, hN_zw, hM_zw, upd_s, upd_u, upd_ne, Classical.not_not, k_Nw_goOut, h1, hPt, f_Nw_translatorAt, e1, g1, c2]; try clear hgo9 hW9); try (obtain ⟨W9, hW9, hgo9⟩ := wp_ex (T_Nw_goOut l G) [31] _; refine hgo9 200 _ _ _ _ ?_; simp -implicitDefEqProofs (disch := omega) only [hW9, inl, gate, Xq, tz_const, tz_iload, tz_lload, tz_dload, tz_aload, tz_istore, tz_astore, tz_lstore, tz_dstore, tz_iinc, tz_i1, tz_i2, tz_i2z, tz_l2, tz_l2z, tz_i2l, tz_l2i, tz_lcmp, tz_i2d, tz_d2, tz_dcmp, tz_dup, tz_dup2, tz_pop, tz_if, tz_icmp, tz_null, tz_goto, tz_sw, tz_getf, tz_puti, tz_putz, tz_putr, tz_putl, tz_iaload, tz_baload, tz_laload, tz_aaload, tz_iastore, tz_bastore, tz_lastore, tz_aastore, tz_alen, tz_new, tz_newa, tz_oinit, tz_iret, tz_zret, tz_lret, tz_dret, tz_aret, tz_vret, tz_throw, tz_callS, tz_callV, tz_callI, tz_callR, tz_pureS, tz_pureV, tz_callVH, lg, lset, lkill, lst1, lst2, entL, isRf, is1, vl, va_rf_none, va_rf_some, isRf_rf, is1_rf, i0, i1, bI_eq0, bI_eq1, nm_em, nI_eqP, nI_leP, nI_ltP, nN_e1, nN_e2, nN_l1, nN_l2, nN_l3, nN_l4, nI_add, pk_mul, vp_inN, nI_cl, n01, n10, P_i, P_ii, P_iii, f_Mo_at, f_Mo_map, f_Mo_contact, f_Mo_within, f_Mo_isPort, f_Hp_endpoint, f_Hp_nodeOf, f_Hp_portOf, f_Ma_max, f_Ma_min, f_Hp_isSetting, popN, rok, a1, noX, swc, mL, if_true, if_false, ↓reduceIte, cond_true, cond_false, true_and, and_true, List.length_cons, List.length_nil, List.nil_append, List.cons_append, List.append_nil, Option.toList, Nat.reduceEqDiff, Bool.false_eq_true, reduceCtorEq, Nat.reduceAdd, Nat.reduceLT, Nat.reduceLeDiff, Nat.reduceSub, List.replicate, Nat.zero_add, Nat.lt_add_one, Nat.le_refl, Nat.zero_le, Nat.succ_ne_zero, not_false_eq_true, not_true_eq_false, false_implies, true_implies, forall_const, imp_self, true_or, or_true, eq_self, sI_zw, zw_zw, hI_zw, tg_zw, ln_zw, hR_zw, hL_zw, hN_zw, hM_zw, upd_s, upd_u, upd_ne, Classical.not_not, k_Nw_goOut, h1, hPt, f_Nw_translatorAt, e1, g1, c2]; try clear hgo9 hW9); try (obtain ⟨W9, hW9, hgo9⟩ := wp_ex (T_Nw_goOut l G) [31] _; refine hgo9 200 _ _ _ _ ?_; simp -implicitDefEqProofs (disch := omega) only [hW9, inl, gate, Xq, tz_const, tz_iload, tz_lload, tz_dload, tz_aload, tz_istore, tz_astore, tz_lstore, tz_dstore, tz_iinc, tz_i1, tz_i2, tz_i2z, tz_l2, tz_l2z, tz_i2l, tz_l2i, tz_lcmp, tz_i2d, tz_d2, tz_dcmp, tz_dup, tz_dup2, tz_pop, tz_if, tz_icmp, tz_null, tz_goto, tz_sw, tz_getf, tz_puti, tz_putz, tz_putr, tz_putl, tz_iaload, tz_baload, tz_laload, tz_aaload, tz_iastore, tz_bastore, tz_lastore, tz_aastore, tz_alen, tz_new, tz_newa, tz_oinit, tz_iret, tz_zret, tz_lret, tz_dret, tz_aret, tz_vret, tz_throw, tz_callS, tz_callV, tz_callI, tz_callR, tz_pureS, tz_pureV, tz_callVH, lg, lset, lkill, lst1, lst2, entL, isRf, is1, vl, va_rf_none, va_rf_some, isRf_rf, is1_rf, i0, i1, bI_eq0, bI_eq1, nm_em, nI_eqP, nI_leP, nI_ltP, nN_e1, nN_e2, nN_l1, nN_l2, nN_l3, nN_l4, nI_add, pk_mul, vp_inN, nI_cl, n01, n10, P_i, P_ii, P_iii, f_Mo_at, f_Mo_map, f_Mo_contact, f_Mo_within, f_Mo_isPort, f_Hp_endpoint, f_Hp_nodeOf, f_Hp_portOf, f_Ma_max, f_Ma_min, f_Hp_isSetting, popN, rok, a1, noX, swc, mL, if_true, if_false, ↓reduceIte, cond_true, cond_false, true_and, and_true, List.length_cons, List.length_nil, List.nil_append, List.cons_append, List.append_nil, Option.toList, Nat.reduceEqDiff, Bool.false_eq_true, reduceCtorEq, Nat.reduceAdd, Nat.reduceLT, Nat.reduceLeDiff, Nat.reduceSub, List.replicate, Nat.zero_add, Nat.lt_add_one, Nat.le_refl, Nat.zero_le, Nat.succ_ne_zero, not_false_eq_true, not_true_eq_false, false_implies, true_implies, forall_const, imp_self, true_or, or_true, eq_self, sI_zw, zw_zw, hI_zw, tg_zw, ln_zw, hR_zw, hL_zw, hN_zw, hM_zw, upd_s, upd_u, upd_ne, Classical.not_not, k_Nw_goOut, h1, hPt, f_Nw_translatorAt, e1, g1, c2]; try clear hgo9 hW9))
              exact q2 h z sa sp kk k inv (fr.mono (by omega)) hb hsa hsp hr
      subst c
      ((obtain ⟨W9, hW9, hgo9⟩ := wp_ex (T_Nw_goOut l G) [31, 138] _; refine hgo9 200 _ _ _ _ ?_; simp -implicitDefEqProofs (disch := omega) only [hW9, inl, gate, Xq, tz_const, tz_iload, tz_lload, tz_dload, tz_aload, tz_istore, tz_astore, tz_lstore, tz_dstore, tz_iinc, tz_i1, tz_i2, tz_i2z, tz_l2, tz_l2z, tz_i2l, tz_l2i, tz_lcmp, tz_i2d, tz_d2, tz_dcmp, tz_dup, tz_dup2, tz_pop, tz_if, tz_icmp, tz_null, tz_goto, tz_sw, tz_getf, tz_puti, tz_putz, tz_putr, tz_putl, tz_iaload, tz_baload, tz_laload, tz_aaload, tz_iastore, tz_bastore, tz_lastore, tz_aastore, tz_alen, tz_new, tz_newa, tz_oinit, tz_iret, tz_zret, tz_lret, tz_dret, tz_aret, tz_vret, tz_throw, tz_callS, tz_callV, tz_callI, tz_callR, tz_pureS, tz_pureV, tz_callVH, lg, lset, lkill, lst1, lst2, entL, isRf, is1, vl, va_rf_none, va_rf_some, isRf_rf, is1_rf, i0, i1, bI_eq0, bI_eq1, nm_em, nI_eqP, nI_leP, nI_ltP, nN_e1, nN_e2, nN_l1, nN_l2, nN_l3, nN_l4, nI_add, pk_mul, vp_inN, nI_cl, n01, n10, P_i, P_ii, P_iii, f_Mo_at, f_Mo_map, f_Mo_contact, f_Mo_within, f_Mo_isPort, f_Hp_endpoint, f_Hp_nodeOf, f_Hp_portOf, f_Ma_max, f_Ma_min, f_Hp_isSetting, popN, rok, a1, noX, swc, mL, if_true, if_false, ↓reduceIte, cond_true, cond_false, true_and, and_true, List.length_cons, List.length_nil, List.nil_append, List.cons_append, List.append_nil, Option.toList, Nat.reduceEqDiff, Bool.false_eq_true, reduceCtorEq, Nat.reduceAdd, Nat.reduceLT, Nat.reduceLeDiff, Nat.reduceSub, List.replicate, Nat.zero_add, Nat.lt_add_one, Nat.le_refl, Nat.zero_le, Nat.succ_ne_zero, not_false_eq_true, not_true_eq_false, false_implies, true_implies, forall_const, imp_self, true_or, or_true, eq_self, sI_zw, zw_zw, hI_zw, tg_zw, ln_zw, hR_zw, hL_zw, hN_zw, hM_zw, upd_s, upd_u, upd_ne, Classical.not_not, k_Nw_goOut, h1, nst]; try clear hgo9 hW9); try (obtain ⟨W9, hW9, hgo9⟩ := wp_ex (T_Nw_goOut l G) [31, 138] _; refine hgo9 200 _ _ _ _ ?_; simp -implicitDefEqProofs (disch := omega) only [hW9, inl, gate, Xq, tz_const, tz_iload, tz_lload, tz_dload, tz_aload, tz_istore, tz_astore, tz_lstore, tz_dstore, tz_iinc, tz_i1, tz_i2, tz_i2z, tz_l2, tz_l2z, tz_i2l, tz_l2i, tz_lcmp, tz_i2d, tz_d2, tz_dcmp, tz_dup, tz_dup2, tz_pop, tz_if, tz_icmp, tz_null, tz_goto, tz_sw, tz_getf, tz_puti, tz_putz, tz_putr, tz_putl, tz_iaload, tz_baload, tz_laload, tz_aaload, tz_iastore, tz_bastore, tz_lastore, tz_aastore, tz_alen, tz_new, tz_newa, tz_oinit, tz_iret, tz_zret, tz_lret, tz_dret, tz_aret, tz_vret, tz_throw, tz_callS, tz_callV, tz_callI, tz_callR, tz_pureS, tz_pureV, tz_callVH, lg, lset, lkill, lst1, lst2, entL, isRf, is1, vl, va_rf_none, va_rf_some, isRf_rf, is1_rf, i0, i1, bI_eq0, bI_eq1, nm_em, nI_eqP, nI_leP, nI_ltP, nN_e1, nN_e2, nN_l1, nN_l2, nN_l3, nN_l4, nI_add, pk_mul, vp_inN, nI_cl, n01, n10, P_i, P_ii, P_iii, f_Mo_at, f_Mo_map, f_Mo_contact, f_Mo_within, f_Mo_isPort, f_Hp_endpoint, f_Hp_nodeOf, f_Hp_portOf, f_Ma_max, f_Ma_min, f_Hp_isSetting, popN, rok, a1, noX, swc, mL, if_true, if_false, ↓reduceIte, cond_true, cond_false, true_and, and_true, List.length_cons, List.length_nil, List.nil_append, List.cons_append, List.append_nil, Option.toList, Nat.reduceEqDiff, Bool.false_eq_true, reduceCtorEq, Nat.reduceAdd, Nat.reduceLT, Nat.reduceLeDiff, Nat.reduceSub, List.replicate, Nat.zero_add, Nat.lt_add_one, Nat.le_refl, Nat.zero_le, Nat.succ_ne_zero, not_false_eq_true, not_true_eq_false, false_implies, true_implies, forall_const, imp_self, true_or, or_true, eq_self, sI_zw, zw_zw, hI_zw, tg_zw, ln_zw, hR_zw, hL_zw, hN_zw, hM_zw, upd_s, upd_u, upd_ne, Classical.not_not, k_Nw_goOut, h1, nst]; try clear hgo9 hW9))
      exact fin
    · -- no way out
      have c' : ¬ net = z (16 + 16 * b + 1) := fun q => c q.symm
      have e1 := (k.nN m10).1
      rw [en] at c' ⊢
      subst ez er
      ((obtain ⟨W9, hW9, hgo9⟩ := wp_ex (T_Nw_goOut l G) [31, 138] _; refine hgo9 200 _ _ _ _ ?_; simp -implicitDefEqProofs (disch := omega) only [hW9, inl, gate, Xq, tz_const, tz_iload, tz_lload, tz_dload, tz_aload, tz_istore, tz_astore, tz_lstore, tz_dstore, tz_iinc, tz_i1, tz_i2, tz_i2z, tz_l2, tz_l2z, tz_i2l, tz_l2i, tz_lcmp, tz_i2d, tz_d2, tz_dcmp, tz_dup, tz_dup2, tz_pop, tz_if, tz_icmp, tz_null, tz_goto, tz_sw, tz_getf, tz_puti, tz_putz, tz_putr, tz_putl, tz_iaload, tz_baload, tz_laload, tz_aaload, tz_iastore, tz_bastore, tz_lastore, tz_aastore, tz_alen, tz_new, tz_newa, tz_oinit, tz_iret, tz_zret, tz_lret, tz_dret, tz_aret, tz_vret, tz_throw, tz_callS, tz_callV, tz_callI, tz_callR, tz_pureS, tz_pureV, tz_callVH, lg, lset, lkill, lst1, lst2, entL, isRf, is1, vl, va_rf_none, va_rf_some, isRf_rf, is1_rf, i0, i1, bI_eq0, bI_eq1, nm_em, nI_eqP, nI_leP, nI_ltP, nN_e1, nN_e2, nN_l1, nN_l2, nN_l3, nN_l4, nI_add, pk_mul, vp_inN, nI_cl, n01, n10, P_i, P_ii, P_iii, f_Mo_at, f_Mo_map, f_Mo_contact, f_Mo_within, f_Mo_isPort, f_Hp_endpoint, f_Hp_nodeOf, f_Hp_portOf, f_Ma_max, f_Ma_min, f_Hp_isSetting, popN, rok, a1, noX, swc, mL, if_true, if_false, ↓reduceIte, cond_true, cond_false, true_and, and_true, List.length_cons, List.length_nil, List.nil_append, List.cons_append, List.append_nil, Option.toList, Nat.reduceEqDiff, Bool.false_eq_true, reduceCtorEq, Nat.reduceAdd, Nat.reduceLT, Nat.reduceLeDiff, Nat.reduceSub, List.replicate, Nat.zero_add, Nat.lt_add_one, Nat.le_refl, Nat.zero_le, Nat.succ_ne_zero, not_false_eq_true, not_true_eq_false, false_implies, true_implies, forall_const, imp_self, true_or, or_true, eq_self, sI_zw, zw_zw, hI_zw, tg_zw, ln_zw, hR_zw, hL_zw, hN_zw, hM_zw, upd_s, upd_u, upd_ne, Classical.not_not, k_Nw_goOut, h1, nst, c', hPt, f_Nw_translatorAt, e1]; try clear hgo9 hW9); try (obtain ⟨W9, hW9, hgo9⟩ := wp_ex (T_Nw_goOut l G) [31, 138] _; refine hgo9 200 _ _ _ _ ?_; simp -implicitDefEqProofs (disch := omega) only [hW9, inl, gate, Xq, tz_const, tz_iload, tz_lload, tz_dload, tz_aload, tz_istore, tz_astore, tz_lstore, tz_dstore, tz_iinc, tz_i1, tz_i2, tz_i2z, tz_l2, tz_l2z, tz_i2l, tz_l2i, tz_lcmp, tz_i2d, tz_d2, tz_dcmp, tz_dup, tz_dup2, tz_pop, tz_if, tz_icmp, tz_null, tz_goto, tz_sw, tz_getf, tz_puti, tz_putz, tz_putr, tz_putl, tz_iaload, tz_baload, tz_laload, tz_aaload, tz_iastore, tz_bastore, tz_lastore, tz_aastore, tz_alen, tz_new, tz_newa, tz_oinit, tz_iret, tz_zret, tz_lret, tz_dret, tz_aret, tz_vret, tz_throw, tz_callS, tz_callV, tz_callI, tz_callR, tz_pureS, tz_pureV, tz_callVH, lg, lset, lkill, lst1, lst2, entL, isRf, is1, vl, va_rf_none, va_rf_some, isRf_rf, is1_rf, i0, i1, bI_eq0, bI_eq1, nm_em, nI_eqP, nI_leP, nI_ltP, nN_e1, nN_e2, nN_l1, nN_l2, nN_l3, nN_l4, nI_add, pk_mul, vp_inN, nI_cl, n01, n10, P_i, P_ii, P_iii, f_Mo_at, f_Mo_map, f_Mo_contact, f_Mo_within, f_Mo_isPort, f_Hp_endpoint, f_Hp_nodeOf, f_Hp_portOf, f_Ma_max, f_Ma_min, f_Hp_isSetting, popN, rok, a1, noX, swc, mL, if_true, if_false, ↓reduceIte, cond_true, cond_false, true_and, and_true, List.length_cons, List.length_nil, List.nil_append, List.cons_append, List.append_nil, Option.toList, Nat.reduceEqDiff, Bool.false_eq_true, reduceCtorEq, Nat.reduceAdd, Nat.reduceLT, Nat.reduceLeDiff, Nat.reduceSub, List.replicate, Nat.zero_add, Nat.lt_add_one, Nat.le_refl, Nat.zero_le, Nat.succ_ne_zero, not_false_eq_true, not_true_eq_false, false_implies, true_implies, forall_const, imp_self, true_or, or_true, eq_self, sI_zw, zw_zw, hI_zw, tg_zw, ln_zw, hR_zw, hL_zw, hN_zw, hM_zw, upd_s, upd_u, upd_ne, Classical.not_not, k_Nw_goOut, h1, nst, c', hPt, f_Nw_translatorAt, e1]; try clear hgo9 hW9); try (obtain ⟨W9, hW9, hgo9⟩ := wp_ex (T_Nw_goOut l G) [31, 138] _; refine hgo9 200 _ _ _ _ ?_; simp -implicitDefEqProofs (disch := omega) only [hW9, inl, gate, Xq, tz_const, tz_iload, tz_lload, tz_dload, tz_aload, tz_istore, tz_astore, tz_lstore, tz_dstore, tz_iinc, tz_i1, tz_i2, tz_i2z, tz_l2, tz_l2z, tz_i2l, tz_l2i, tz_lcmp, tz_i2d, tz_d2, tz_dcmp, tz_dup, tz_dup2, tz_pop, tz_if, tz_icmp, tz_null, tz_goto, tz_sw, tz_getf, tz_puti, tz_putz, tz_putr, tz_putl, tz_iaload, tz_baload, tz_laload, tz_aaload, tz_iastore, tz_bastore, tz_lastore, tz_aastore, tz_alen, tz_new, tz_newa, tz_oinit, tz_iret, tz_zret, tz_lret, tz_dret, tz_aret, tz_vret, tz_throw, tz_callS, tz_callV, tz_callI, tz_callR, tz_pureS, tz_pureV, tz_callVH, lg, lset, lkill, lst1, lst2, entL, isRf, is1, vl, va_rf_none, va_rf_some, isRf_rf, is1_rf, i0, i1, bI_eq0, bI_eq1, nm_em, nI_eqP, nI_leP, nI_ltP, nN_e1, nN_e2, nN_l1, nN_l2, nN_l3, nN_l4, nI_add, pk_mul, vp_inN, nI_cl, n01, n10, P_i, P_ii, P_iii, f_Mo_at, f_Mo_map, f_Mo_contact, f_Mo_within, f_Mo_isPort, f_Hp_endpoint, f_Hp_nodeOf, f_Hp_portOf, f_Ma_max, f_Ma_min, f_Hp_isSetting, popN, rok, a1, noX, swc, mL, if_true, if_false, ↓reduceIte, cond_true, cond_false, true_and, and_true, List.length_cons, List.length_nil, List.nil_append, List.cons_append, List.append_nil, Option.toList, Nat.reduceEqDiff, Bool.false_eq_true, reduceCtorEq, Nat.reduceAdd, Nat.reduceLT, Nat.reduceLeDiff, Nat.reduceSub, List.replicate, Nat.zero_add, Nat.lt_add_one, Nat.le_refl, Nat.zero_le, Nat.succ_ne_zero, not_false_eq_true, not_true_eq_false, false_implies, true_implies, forall_const, imp_self, true_or, or_true, eq_self, sI_zw, zw_zw, hI_zw, tg_zw, ln_zw, hR_zw, hL_zw, hN_zw, hM_zw, upd_s, upd_u, upd_ne, Classical.not_not, k_Nw_goOut, h1, nst, c', hPt, f_Nw_translatorAt, e1]; try clear hgo9 hW9); try (obtain ⟨W9, hW9, hgo9⟩ := wp_ex (T_Nw_goOut l G) [31, 138] _; refine hgo9 200 _ _ _ _ ?_; simp -implicitDefEqProofs (disch := omega) only [hW9, inl, gate, Xq, tz_const, tz_iload, tz_lload, tz_dload, tz_aload, tz_istore, tz_astore, tz_lstore, tz_dstore, tz_iinc, tz_i1, tz_i2, tz_i2z, tz_l2, tz_l2z, tz_i2l, tz_l2i, tz_lcmp, tz_i2d, tz_d2, tz_dcmp, tz_dup, tz_dup2, tz_pop, tz_if, tz_icmp, tz_null, tz_goto, tz_sw, tz_getf, tz_puti, tz_putz, tz_putr, tz_putl, tz_iaload, tz_baload, tz_laload, tz_aaload, tz_iastore, tz_bastore, tz_lastore, tz_aastore, tz_alen, tz_new, tz_newa, tz_oinit, tz_iret, tz_zret, tz_lret, tz_dret, tz_aret, tz_vret, tz_throw, tz_callS, tz_callV, tz_callI, tz_callR, tz_pureS, tz_pureV, tz_callVH, lg, lset, lkill, lst1, lst2, entL, isRf, is1, vl, va_rf_none, va_rf_some, isRf_rf, is1_rf, i0, i1, bI_eq0, bI_eq1, nm_em, nI_eqP, nI_leP, nI_ltP, nN_e1, nN_e2, nN_l1, nN_l2, nN_l3, nN_l4, nI_add, pk_mul, vp_inN, nI_cl, n01, n10, P_i, P_ii, P_iii, f_Mo_at, f_Mo_map, f_Mo_contact, f_Mo_within, f_Mo_isPort, f_Hp_endpoint, f_Hp_nodeOf, f_Hp_portOf, f_Ma_max, f_Ma_min, f_Hp_isSetting, popN, rok, a1, noX, swc, mL, if_true, if_false, ↓reduceIte, cond_true, cond_false, true_and, and_true, List.length_cons, List.length_nil, List.nil_append, List.cons_append, List.append_nil, Option.toList, Nat.reduceEqDiff, Bool.false_eq_true, reduceCtorEq, Nat.reduceAdd, Nat.reduceLT, Nat.reduceLeDiff, Nat.reduceSub, List.replicate, Nat.zero_add, Nat.lt_add_one, Nat.le_refl, Nat.zero_le, Nat.succ_ne_zero, not_false_eq_true, not_true_eq_false, false_implies, true_implies, forall_const, imp_self, true_or, or_true, eq_self, sI_zw, zw_zw, hI_zw, tg_zw, ln_zw, hR_zw, hL_zw, hN_zw, hM_zw, upd_s, upd_u, upd_ne, Classical.not_not, k_Nw_goOut, h1, nst, c', hPt, f_Nw_translatorAt, e1]; try clear hgo9 hW9))
      exact q1 h k inv (fr.mono (by omega)) (Or.inl rfl)
    · have c' : ¬ net = z (16 + 16 * b + 1) := fun q => c q.symm
      have t8 : t + st ≤ 8 := by
        rcases hnet with q | ⟨t', q, q2⟩
        · rw [en, nN_e2 (by omega)] at q; exact q.elim
        · rw [en, nI_eq (by omega) (by omega)] at q
          omega
      rw [en] at c' esa ⊢
      obtain ⟨ta, -, tk⟩ := net_tr inv.1 hsa esa (by omega)
      have gi : GoI z t sa sp b d := ⟨⟨inv, ht, tk⟩, ⟨hsa, esa, hsp⟩, ⟨hb, hd⟩⟩
      have tra := gi.tra
      obtain ⟨dd, tt, e1, -, en1, d1, d2, d3, sh, tl⟩ := k.tr m10 ht tk
      have g1 := sh.1.1
      have o8 := tra.1.2
      have kn := (inv_kn inv.1 ht tk).2
      have slk := tl.SlK sh o8
      have ek := key_ok (r := z (16 + 16 * t + 2)) (b := b) (d := d) tra.2.1.1 (by omega) hd.1 hd.2
      rw [← tl.1.1.1] at ek
      have iff : ∀ j, j < own z t → (mIn h tt (nI (sa * 10000 + sp)) (encK (if hI h tt 0 = nI 0 then nN else nI b) (if nI 2 ≤ hI h tt 0 then nI d else nN)) j ↔ mtZ z t (nI sa) (nI sp) (nI b) (nI d) j) := by
        intro j hj
        rw [tl.1.1.1]
        exact mIn_iff (tl.slot hj).2 (tra.2.2.1 j hj) tra.2.1.1 m10 (by omega) (by omega) (by omega) hd.1 (by omega)
      have next : ∀ (i m c c1 : Nat) (z1 : Nat → Int32) (h2 : AH), c1 ≤ 2 → Fr wn c1 h h2 → Lt wn t h h2 → ShT h2 wn t tt → TlE h2 tt z1 t (own z1 t) i m → Go1 z z1 t i → z1 (176 + 8 * (8 * t + i) + 6) = nI c → c ≤ 8 → TrvR b (nI d) f (meeZ (upd z1 (176 + 8 * (8 * t + i) + 5) (z1 0)) t i c (nI b) (nI d)) (meeZ (upd z1 (176 + 8 * (8 * t + i) + 5) (z1 0)) t i c (nI b) (nI d) (16 + 16 * t + 1)) (nI t) (nI t) (meeZ (upd z1 (176 + 8 * (8 * t + i) + 5) (z1 0)) t i c (nI b) (nI d) (176 + 8 * (8 * t + i) + 2)) r z' s' q' →
          AWp l G M_Nw_goOut 93 [some (.ref wn), some (.int x1), some (.int (nI (b * 10000 + d))), some (.int (nI b)), some (.int (z (16 + 16 * b + 1))), some (.int (nI t)), some (.int (nI (sa * 10000 + sp))), some (.int last), some (.int (nI st)), some (.ref tt), some (.ref m)] [] h2 Q := by
        intro i m c c1 z1 h2 hc1 fr2 lt2 sh2 te g9 ec c8 hr
        have i8 : i < 8 := by
          have := g9.2.1.1.2
          have := g9.2.1.2.1
          omega
        have sm := sh2.2.2.2.1 i m i8 te.2.2.1
        have m0 := sm.1
        have sw := lt2 wn (hw.lt (by rw [h1]; decide)) (by rintro ⟨k9, r9, e9, -⟩; rw [k.1.2.1] at e9; cases e9)
        have w1 : tg h2 wn = 1 := sw.tg.trans h1
        have w3 : hI h2 wn 3 = z 0 := by rw [sw.2.1]; exact k.2.1.2.1
        (obtain ⟨W9, hW9, hgo9⟩ := wp_ex (T_Nw_goOut l G) [31] _; refine hgo9 200 _ _ _ _ ?_; simp -implicitDefEqProofs (disch := omega) only [hW9, inl, gate, Xq, tz_const, tz_iload, tz_lload, tz_dload, tz_aload, tz_istore, tz_astore, tz_lstore, tz_dstore, tz_iinc, tz_i1, tz_i2, tz_i2z, tz_l2, tz_l2z, tz_i2l, tz_l2i, tz_lcmp, tz_i2d, tz_d2, tz_dcmp, tz_dup, tz_dup2, tz_pop, tz_if, tz_icmp, tz_null, tz_goto, tz_sw, tz_getf, tz_puti, tz_putz, tz_putr, tz_putl, tz_iaload, tz_baload, tz_laload, tz_aaload, tz_iastore, tz_bastore, tz_lastore, tz_aastore, tz_alen, tz_new, tz_newa, tz_oinit, tz_iret, tz_zret, tz_lret, tz_dret, tz_aret, tz_vret, tz_throw, tz_callS, tz_callV, tz_callI, tz_callR, tz_pureS, tz_pureV, tz_callVH, lg, lset, lkill, lst1, lst2, entL, isRf, is1, vl, va_rf_none, va_rf_some, isRf_rf, is1_rf, i0, i1, bI_eq0, bI_eq1, nm_em, nI_eqP, nI_leP, nI_ltP, nN_e1, nN_e2, nN_l1, nN_l2, nN_l3, nN_l4, nI_add, pk_mul, vp_inN, nI_cl, n01, n10, P_i, P_ii, P_iii, f_Mo_at, f_Mo_map, f_Mo_contact, f_Mo_within, f_Mo_isPort, f_Hp_endpoint, f_Hp_nodeOf, f_Hp_portOf, f_Ma_max, f_Ma_min, f_Hp_isSetting, popN, rok, a1, noX, swc, mL, if_true, if_false, ↓reduceIte, cond_true, cond_false, true_and, and_true, List.length_cons, List.length_nil, List.nil_append, List.cons_append, List.append_nil, Option.toList, Nat.reduceEqDiff, Bool.false_eq_true, reduceCtorEq, Nat.reduceAdd, Nat.reduceLT, Nat.reduceLeDiff, Nat.reduceSub, List.replicate, Nat.zero_add, Nat.lt_add_one, Nat.le_refl, Nat.zero_le, Nat.succ_ne_zero, not_false_eq_true, not_true_eq_false, false_implies, true_implies, forall_const, imp_self, true_or, or_true, eq_self, sI_zw, zw_zw, hI_zw, tg_zw, ln_zw, hR_zw, hL_zw, hN_zw, hM_zw, upd_s, upd_u, upd_ne, Classical.not_not, k_Nw_goOut, w1, w3, m0]; try clear hgo9 hW9)
        refine go_use wn t tt dd i m c b d sa sp c1 z z1 h h2 _ hw k gi d1 d2 fr2 lt2 sh2 te g9 ec c8 (fun h3 k3 fr3 o3 m3 => ?_)
        simp only [aft]
        obtain ⟨⟨I, mI⟩, pl, eo, rows, -, -⟩ := g9.inv gi ec c8
        generalize meeZ (upd z1 (176 + 8 * (8 * t + i) + 5) (z1 0)) t i c (nI b) (nI d) = y at *
        have w13 : tg h3 wn = 1 := k3.1.1.1
        have hPn : ∀ x, P_Nw_netOf [.ref wn, .int x] h3 := fun x => k3.1.NdK x
        have ne3 := k3.ne (by omega) (i := t) (by omega)
        have tkY : y (16 + 16 * t) = nI 1 := (pl _ (by unfold tPl mA cA; omega)).trans tk
        have miY := ((I.1.2.2.2 t (by omega)).2.2.2 tkY).2.2.1 i (by rw [eo]; exact g9.2.1.2.1)
        obtain ⟨o, op1, op2, op3⟩ := miY.2.2.1
        rw [op3] at o3
        have e5 : nI t * nI 10000 + nI o = nI (t * 10000 + o) := enc_N t o
        have e5' : nI (t * 10000) + nI o = nI (t * 10000 + o) := nI_add _ _
        have netb : y (16 + 16 * b + 1) = z (16 + 16 * b + 1) := pl _ (by unfold tPl mA cA; omega)
        (obtain ⟨W9, hW9, hgo9⟩ := wp_ex (T_Nw_goOut l G) [31] _; refine hgo9 200 _ _ _ _ ?_; simp -implicitDefEqProofs (disch := omega) only [hW9, inl, gate, Xq, tz_const, tz_iload, tz_lload, tz_dload, tz_aload, tz_istore, tz_astore, tz_lstore, tz_dstore, tz_iinc, tz_i1, tz_i2, tz_i2z, tz_l2, tz_l2z, tz_i2l, tz_l2i, tz_lcmp, tz_i2d, tz_d2, tz_dcmp, tz_dup, tz_dup2, tz_pop, tz_if, tz_icmp, tz_null, tz_goto, tz_sw, tz_getf, tz_puti, tz_putz, tz_putr, tz_putl, tz_iaload, tz_baload, tz_laload, tz_aaload, tz_iastore, tz_bastore, tz_lastore, tz_aastore, tz_alen, tz_new, tz_newa, tz_oinit, tz_iret, tz_zret, tz_lret, tz_dret, tz_aret, tz_vret, tz_throw, tz_callS, tz_callV, tz_callI, tz_callR, tz_pureS, tz_pureV, tz_callVH, lg, lset, lkill, lst1, lst2, entL, isRf, is1, vl, va_rf_none, va_rf_some, isRf_rf, is1_rf, i0, i1, bI_eq0, bI_eq1, nm_em, nI_eqP, nI_leP, nI_ltP, nN_e1, nN_e2, nN_l1, nN_l2, nN_l3, nN_l4, nI_add, pk_mul, vp_inN, nI_cl, n01, n10, P_i, P_ii, P_iii, f_Mo_at, f_Mo_map, f_Mo_contact, f_Mo_within, f_Mo_isPort, f_Hp_endpoint, f_Hp_nodeOf, f_Hp_portOf, f_Ma_max, f_Ma_min, f_Hp_isSetting, popN, rok, a1, noX, swc, mL, if_true, if_false, ↓reduceIte, cond_true, cond_false, true_and, and_true, List.length_cons, List.length_nil, List.nil_append, List.cons_append, List.append_nil, Option.toList, Nat.reduceEqDiff, Bool.false_eq_true, reduceCtorEq, Nat.reduceAdd, Nat.reduceLT, Nat.reduceLeDiff, Nat.reduceSub, List.replicate, Nat.zero_add, Nat.lt_add_one, Nat.le_refl, Nat.zero_le, Nat.succ_ne_zero, not_false_eq_true, not_true_eq_false, false_implies, true_implies, forall_const, imp_self, true_or, or_true, eq_self, sI_zw, zw_zw, hI_zw, tg_zw, ln_zw, hR_zw, hL_zw, hN_zw, hM_zw, upd_s, upd_u, upd_ne, Classical.not_not, k_Nw_goOut, w13, m3, o3, hPn, f_Nw_netOf, ne3, e5, e5']; try clear hgo9 hW9)
        rw [← netb]
        have hop : y (176 + 8 * (8 * t + i) + 2) = nI o := op3
        rw [hop] at hr
        refine ih (st + 1) y h3 _ _ _ t o _ _ fr3.2.2.2.2 I k3 ((fr.tr fr3).mono (by omega)) (by omega) ⟨by omega, rfl⟩ ⟨by omega, rfl, op1, op2⟩ ?_ (Or.inr ⟨t, by omega, rfl, tkY⟩) hr
        rcases (I.1.2.2.2 t (by omega)).1.2 with q | ⟨j, j1, j2, -⟩
        · exact Or.inl q
        · exact Or.inr ⟨j, j2, by omega⟩
      ((obtain ⟨W9, hW9, hgo9⟩ := wp_ex (T_Nw_goOut l G) [31, 138] _; refine hgo9 200 _ _ _ _ ?_; simp -implicitDefEqProofs (disch := omega) only [hW9, inl, gate, Xq, tz_const, tz_iload, tz_lload, tz_dload, tz_aload, tz_istore, tz_astore, tz_lstore, tz_dstore, tz_iinc, tz_i1, tz_i2, tz_i2z, tz_l2, tz_l2z, tz_i2l, tz_l2i, tz_lcmp, tz_i2d, tz_d2, tz_dcmp, tz_dup, tz_dup2, tz_pop, tz_if, tz_icmp, tz_null, tz_goto, tz_sw, tz_getf, tz_puti, tz_putz, tz_putr, tz_putl, tz_iaload, tz_baload, tz_laload, tz_aaload, tz_iastore, tz_bastore, tz_lastore, tz_aastore, tz_alen, tz_new, tz_newa, tz_oinit, tz_iret, tz_zret, tz_lret, tz_dret, tz_aret, tz_vret, tz_throw, tz_callS, tz_callV, tz_callI, tz_callR, tz_pureS, tz_pureV, tz_callVH, lg, lset, lkill, lst1, lst2, entL, isRf, is1, vl, va_rf_none, va_rf_some, isRf_rf, is1_rf, i0, i1, bI_eq0, bI_eq1, nm_em, nI_eqP, nI_leP, nI_ltP, nN_e1, nN_e2, nN_l1, nN_l2, nN_l3, nN_l4, nI_add, pk_mul, vp_inN, nI_cl, n01, n10, P_i, P_ii, P_iii, f_Mo_at, f_Mo_map, f_Mo_contact, f_Mo_within, f_Mo_isPort, f_Hp_endpoint, f_Hp_nodeOf, f_Hp_portOf, f_Ma_max, f_Ma_min, f_Hp_isSetting, popN, rok, a1, noX, swc, mL, if_true, if_false, ↓reduceIte, cond_true, cond_false, true_and, and_true, List.length_cons, List.length_nil, List.nil_append, List.cons_append, List.append_nil, Option.toList, Nat.reduceEqDiff, Bool.false_eq_true, reduceCtorEq, Nat.reduceAdd, Nat.reduceLT, Nat.reduceLeDiff, Nat.reduceSub, List.replicate, Nat.zero_add, Nat.lt_add_one, Nat.le_refl, Nat.zero_le, Nat.succ_ne_zero, not_false_eq_true, not_true_eq_false, false_implies, true_implies, forall_const, imp_self, true_or, or_true, eq_self, sI_zw, zw_zw, hI_zw, tg_zw, ln_zw, hR_zw, hL_zw, hN_zw, hM_zw, upd_s, upd_u, upd_ne, Classical.not_not, k_Nw_goOut, h1, nst, c', hPt, f_Nw_translatorAt, e1, g1]; try clear hgo9 hW9); try (obtain ⟨W9, hW9, hgo9⟩ := wp_ex (T_Nw_goOut l G) [31, 138] _; refine hgo9 200 _ _ _ _ ?_; simp -implicitDefEqProofs (disch := omega) only [hW9, inl, gate, Xq, tz_const, tz_iload, tz_lload, tz_dload, tz_aload, tz_istore, tz_astore, tz_lstore, tz_dstore, tz_iinc, tz_i1, tz_i2, tz_i2z, tz_l2, tz_l2z, tz_i2l, tz_l2i, tz_lcmp, tz_i2d, tz_d2, tz_dcmp, tz_dup, tz_dup2, tz_pop, tz_if, tz_icmp, tz_null, tz_goto, tz_sw, tz_getf, tz_puti, tz_putz, tz_putr, tz_putl, tz_iaload, tz_baload, tz_laload, tz_aaload, tz_iastore, tz_bastore, tz_lastore, tz_aastore, tz_alen, tz_new, tz_newa, tz_oinit, tz_iret, tz_zret, tz_lret, tz_dret, tz_aret, tz_vret, tz_throw, tz_callS, tz_callV, tz_callI, tz_callR, tz_pureS, tz_pureV, tz_callVH, lg, lset, lkill, lst1, lst2, entL, isRf, is1, vl, va_rf_none, va_rf_some, isRf_rf, is1_rf, i0, i1, bI_eq0, bI_eq1, nm_em, nI_eqP, nI_leP, nI_ltP, nN_e1, nN_e2, nN_l1, nN_l2, nN_l3, nN_l4, nI_add, pk_mul, vp_inN, nI_cl, n01, n10, P_i, P_ii, P_iii, f_Mo_at, f_Mo_map, f_Mo_contact, f_Mo_within, f_Mo_isPort, f_Hp_endpoint, f_Hp_nodeOf, f_Hp_portOf, f_Ma_max, f_Ma_min, f_Hp_isSetting, popN, rok, a1, noX, swc, mL, if_true, if_false, ↓reduceIte, cond_true, cond_false, true_and, and_true, List.length_cons, List.length_nil, List.nil_append, List.cons_append, List.append_nil, Option.toList, Nat.reduceEqDiff, Bool.false_eq_true, reduceCtorEq, Nat.reduceAdd, Nat.reduceLT, Nat.reduceLeDiff, Nat.reduceSub, List.replicate, Nat.zero_add, Nat.lt_add_one, Nat.le_refl, Nat.zero_le, Nat.succ_ne_zero, not_false_eq_true, not_true_eq_false, false_implies, true_implies, forall_const, imp_self, true_or, or_true, eq_self, sI_zw, zw_zw, hI_zw, tg_zw, ln_zw, hR_zw, hL_zw, hN_zw, hM_zw, upd_s, upd_u, upd_ne, Classical.not_not, k_Nw_goOut, h1, nst, c', hPt, f_Nw_translatorAt, e1, g1]; try clear hgo9 hW9); try (obtain ⟨W9, hW9, hgo9⟩ := wp_ex (T_Nw_goOut l G) [31, 138] _; refine hgo9 200 _ _ _ _ ?_; simp -implicitDefEqProofs (disch := omega) only [hW9, inl, gate, Xq, tz_const, tz_iload, tz_lload, tz_dload, tz_aload, tz_istore, tz_astore, tz_lstore, tz_dstore, tz_iinc, tz_i1, tz_i2, tz_i2z, tz_l2, tz_l2z, tz_i2l, tz_l2i, tz_lcmp, tz_i2d, tz_d2, tz_dcmp, tz_dup, tz_dup2, tz_pop, tz_if, tz_icmp, tz_null, tz_goto, tz_sw, tz_getf, tz_puti, tz_putz, tz_putr, tz_putl, tz_iaload, tz_baload, tz_laload, tz_aaload, tz_iastore, tz_bastore, tz_lastore, tz_aastore, tz_alen, tz_new, tz_newa, tz_oinit, tz_iret, tz_zret, tz_lret, tz_dret, tz_aret, tz_vret, tz_throw, tz_callS, tz_callV, tz_callI, tz_callR, tz_pureS, tz_pureV, tz_callVH, lg, lset, lkill, lst1, lst2, entL, isRf, is1, vl, va_rf_none, va_rf_some, isRf_rf, is1_rf, i0, i1, bI_eq0, bI_eq1, nm_em, nI_eqP, nI_leP, nI_ltP, nN_e1, nN_e2, nN_l1, nN_l2, nN_l3, nN_l4, nI_add, pk_mul, vp_inN, nI_cl, n01, n10, P_i, P_ii, P_iii, f_Mo_at, f_Mo_map, f_Mo_contact, f_Mo_within, f_Mo_isPort, f_Hp_endpoint, f_Hp_nodeOf, f_Hp_portOf, f_Ma_max, f_Ma_min, f_Hp_isSetting, popN, rok, a1, noX, swc, mL, if_true, if_false, ↓reduceIte, cond_true, cond_false, true_and, and_true, List.length_cons, List.length_nil, List.nil_append, List.cons_append, List.append_nil, Option.toList, Nat.reduceEqDiff, Bool.false_eq_true, reduceCtorEq, Nat.reduceAdd, Nat.reduceLT, Nat.reduceLeDiff, Nat.reduceSub, List.replicate, Nat.zero_add, Nat.lt_add_one, Nat.le_refl, Nat.zero_le, Nat.succ_ne_zero, not_false_eq_true, not_true_eq_false, false_implies, true_implies, forall_const, imp_self, true_or, or_true, eq_self, sI_zw, zw_zw, hI_zw, tg_zw, ln_zw, hR_zw, hL_zw, hN_zw, hM_zw, upd_s, upd_u, upd_ne, Classical.not_not, k_Nw_goOut, h1, nst, c', hPt, f_Nw_translatorAt, e1, g1]; try clear hgo9 hW9))
      refine c_Tl_mappingOut tt (own z t) _ _ _ h _ slk ek (fun no => ?_) (fun j hj mj => ?_)
      · simp only [aft]
        have nomt : ∀ j, j < own z t → ¬ mtZ z t (nI sa) (nI sp) (nI b) (nI d) j := fun j hj q => no j hj ((iff j hj).mpr q)
        (obtain ⟨W9, hW9, hgo9⟩ := wp_ex (T_Nw_goOut l G) [31, 93] _; refine hgo9 200 _ _ _ _ ?_; simp -implicitDefEqProofs (disch := omega) only [hW9, inl, gate, Xq, tz_const, tz_iload, tz_lload, tz_dload, tz_aload, tz_istore, tz_astore, tz_lstore, tz_dstore, tz_iinc, tz_i1, tz_i2, tz_i2z, tz_l2, tz_l2z, tz_i2l, tz_l2i, tz_lcmp, tz_i2d, tz_d2, tz_dcmp, tz_dup, tz_dup2, tz_pop, tz_if, tz_icmp, tz_null, tz_goto, tz_sw, tz_getf, tz_puti, tz_putz, tz_putr, tz_putl, tz_iaload, tz_baload, tz_laload, tz_aaload, tz_iastore, tz_bastore, tz_lastore, tz_aastore, tz_alen, tz_new, tz_newa, tz_oinit, tz_iret, tz_zret, tz_lret, tz_dret, tz_aret, tz_vret, tz_throw, tz_callS, tz_callV, tz_callI, tz_callR, tz_pureS, tz_pureV, tz_callVH, lg, lset, lkill, lst1, lst2, entL, isRf, is1, vl, va_rf_none, va_rf_some, isRf_rf, is1_rf, i0, i1, bI_eq0, bI_eq1, nm_em, nI_eqP, nI_leP, nI_ltP, nN_e1, nN_e2, nN_l1, nN_l2, nN_l3, nN_l4, nI_add, pk_mul, vp_inN, nI_cl, n01, n10, P_i, P_ii, P_iii, f_Mo_at, f_Mo_map, f_Mo_contact, f_Mo_within, f_Mo_isPort, f_Hp_endpoint, f_Hp_nodeOf, f_Hp_portOf, f_Ma_max, f_Ma_min, f_Hp_isSetting, popN, rok, a1, noX, swc, mL, if_true, if_false, ↓reduceIte, cond_true, cond_false, true_and, and_true, List.length_cons, List.length_nil, List.nil_append, List.cons_append, List.append_nil, Option.toList, Nat.reduceEqDiff, Bool.false_eq_true, reduceCtorEq, Nat.reduceAdd, Nat.reduceLT, Nat.reduceLeDiff, Nat.reduceSub, List.replicate, Nat.zero_add, Nat.lt_add_one, Nat.le_refl, Nat.zero_le, Nat.succ_ne_zero, not_false_eq_true, not_true_eq_false, false_implies, true_implies, forall_const, imp_self, true_or, or_true, eq_self, sI_zw, zw_zw, hI_zw, tg_zw, ln_zw, hR_zw, hL_zw, hN_zw, hM_zw, upd_s, upd_u, upd_ne, Classical.not_not, k_Nw_goOut, h1, g1]; try clear hgo9 hW9)
        rcases hr with ⟨hf, er, -, -⟩ | ⟨i, y, hg, -, hr⟩
        · obtain ⟨⟨I, mI⟩, pl⟩ := GoF.inv gi hf
          refine c_Tl_newMapping wn t tt sa sp b d nN z z' h _ hw sh tl tra.1 (by omega) tra.2.1 kn (by omega) hsp (by omega) hd hf.2 (fun _ h2 tl2 sh2 fr2 lt2 => ?_) (fun q _ => ?_)
          · simp only [aft]
            have eo : own z' t = own z t := by
              rcases hf.2 with ⟨-, -, e9⟩ | ⟨-, r9, y9, f9, q⟩
              · rw [e9]
              · rcases q with ⟨-, -, e9⟩ | ⟨-, q, -⟩
                · rw [e9]; exact own_eq (f9.low (by omega) (by omega))
                · rw [nN_e1 (by omega)] at q; exact q.elim
            have w1 : tg h2 wn = 1 := (lt2 wn (hw.lt (by rw [h1]; decide)) (by rintro ⟨k9, r9, e9, -⟩; rw [k.1.2.1] at e9; cases e9)).tg.trans h1
            (obtain ⟨W9, hW9, hgo9⟩ := wp_ex (T_Nw_goOut l G) [31, 93] _; refine hgo9 200 _ _ _ _ ?_; simp -implicitDefEqProofs (disch := omega) only [hW9, inl, gate, Xq, tz_const, tz_iload, tz_lload, tz_dload, tz_aload, tz_istore, tz_astore, tz_lstore, tz_dstore, tz_iinc, tz_i1, tz_i2, tz_i2z, tz_l2, tz_l2z, tz_i2l, tz_l2i, tz_lcmp, tz_i2d, tz_d2, tz_dcmp, tz_dup, tz_dup2, tz_pop, tz_if, tz_icmp, tz_null, tz_goto, tz_sw, tz_getf, tz_puti, tz_putz, tz_putr, tz_putl, tz_iaload, tz_baload, tz_laload, tz_aaload, tz_iastore, tz_bastore, tz_lastore, tz_aastore, tz_alen, tz_new, tz_newa, tz_oinit, tz_iret, tz_zret, tz_lret, tz_dret, tz_aret, tz_vret, tz_throw, tz_callS, tz_callV, tz_callI, tz_callR, tz_pureS, tz_pureV, tz_callVH, lg, lset, lkill, lst1, lst2, entL, isRf, is1, vl, va_rf_none, va_rf_some, isRf_rf, is1_rf, i0, i1, bI_eq0, bI_eq1, nm_em, nI_eqP, nI_leP, nI_ltP, nN_e1, nN_e2, nN_l1, nN_l2, nN_l3, nN_l4, nI_add, pk_mul, vp_inN, nI_cl, n01, n10, P_i, P_ii, P_iii, f_Mo_at, f_Mo_map, f_Mo_contact, f_Mo_within, f_Mo_isPort, f_Hp_endpoint, f_Hp_nodeOf, f_Hp_portOf, f_Ma_max, f_Ma_min, f_Hp_isSetting, popN, rok, a1, noX, swc, mL, if_true, if_false, ↓reduceIte, cond_true, cond_false, true_and, and_true, List.length_cons, List.length_nil, List.nil_append, List.cons_append, List.append_nil, Option.toList, Nat.reduceEqDiff, Bool.false_eq_true, reduceCtorEq, Nat.reduceAdd, Nat.reduceLT, Nat.reduceLeDiff, Nat.reduceSub, List.replicate, Nat.zero_add, Nat.lt_add_one, Nat.le_refl, Nat.zero_le, Nat.succ_ne_zero, not_false_eq_true, not_true_eq_false, false_implies, true_implies, forall_const, imp_self, true_or, or_true, eq_self, sI_zw, zw_zw, hI_zw, tg_zw, ln_zw, hR_zw, hL_zw, hN_zw, hM_zw, upd_s, upd_u, upd_ne, Classical.not_not, k_Nw_goOut, w1]; try clear hgo9 hW9)
            subst er
            refine q1 h2 (NwR.setT hw inv.1 k ht d1 d2 lt2 sh2 (by rw [eo]; exact tl2) tk pl) I ((fr.tr fr2).mono (by omega)) (Or.inr (Or.inl rfl))
          · rw [nN_e1 (by omega)] at q; exact q.elim
        · obtain ⟨z1, c9, g9, ec, c8, ey, src⟩ := hg.to gi
          subst ey
          rcases src with ⟨e, hi, -⟩ | ⟨e, hi, o8', mk⟩
          · rcases mfZ_range (z := z) (t := t) (a := nI sa) (p := nI sp) (b := nI b) (q := nI d) (own z t) with e' | ⟨i', w1, w2, w3⟩
            · rw [e', nN_e1 (by omega)] at e; exact e.elim
            · exact absurd w3 (nomt i' w1)
          · refine c_Tl_newMapping wn t tt sa sp b d (nI i) z z1 h _ hw sh tl tra.1 (by omega) tra.2.1 kn (by omega) hsp (by omega) hd mk (fun q => ?_) (fun _ _ h2 m te sh2 fr2 lt2 => ?_)
            · rw [nN_e2 (by omega)] at q; exact q.elim
            · simp only [aft]
              have w1 : tg h2 wn = 1 := (lt2 wn (hw.lt (by rw [h1]; decide)) (by rintro ⟨k9, r9, e9, -⟩; rw [k.1.2.1] at e9; cases e9)).tg.trans h1
              have eo1 : own z1 t = own z t + 1 := by
                rcases mk with ⟨q, -⟩ | ⟨-, r9, y9, f9, q⟩
                · omega
                · rcases q with ⟨-, q, -⟩ | ⟨-, -, e9⟩
                  · rw [nN_e2 (by omega)] at q; exact q.elim
                  · rw [e9]
                    unfold own makZ
                    rw [upd_ne (by omega), upd_ne (by omega), upd_ne (by omega), upd_ne (by omega), upd_ne (by omega), upd_ne (by omega), upd_s, nI_clamp]
                    have : (z (16 + 16 * t + 11)).toNatClampNeg = own z t := rfl
                    omega
              (obtain ⟨W9, hW9, hgo9⟩ := wp_ex (T_Nw_goOut l G) [31, 93] _; refine hgo9 200 _ _ _ _ ?_; simp -implicitDefEqProofs (disch := omega) only [hW9, inl, gate, Xq, tz_const, tz_iload, tz_lload, tz_dload, tz_aload, tz_istore, tz_astore, tz_lstore, tz_dstore, tz_iinc, tz_i1, tz_i2, tz_i2z, tz_l2, tz_l2z, tz_i2l, tz_l2i, tz_lcmp, tz_i2d, tz_d2, tz_dcmp, tz_dup, tz_dup2, tz_pop, tz_if, tz_icmp, tz_null, tz_goto, tz_sw, tz_getf, tz_puti, tz_putz, tz_putr, tz_putl, tz_iaload, tz_baload, tz_laload, tz_aaload, tz_iastore, tz_bastore, tz_lastore, tz_aastore, tz_alen, tz_new, tz_newa, tz_oinit, tz_iret, tz_zret, tz_lret, tz_dret, tz_aret, tz_vret, tz_throw, tz_callS, tz_callV, tz_callI, tz_callR, tz_pureS, tz_pureV, tz_callVH, lg, lset, lkill, lst1, lst2, entL, isRf, is1, vl, va_rf_none, va_rf_some, isRf_rf, is1_rf, i0, i1, bI_eq0, bI_eq1, nm_em, nI_eqP, nI_leP, nI_ltP, nN_e1, nN_e2, nN_l1, nN_l2, nN_l3, nN_l4, nI_add, pk_mul, vp_inN, nI_cl, n01, n10, P_i, P_ii, P_iii, f_Mo_at, f_Mo_map, f_Mo_contact, f_Mo_within, f_Mo_isPort, f_Hp_endpoint, f_Hp_nodeOf, f_Hp_portOf, f_Ma_max, f_Ma_min, f_Hp_isSetting, popN, rok, a1, noX, swc, mL, if_true, if_false, ↓reduceIte, cond_true, cond_false, true_and, and_true, List.length_cons, List.length_nil, List.nil_append, List.cons_append, List.append_nil, Option.toList, Nat.reduceEqDiff, Bool.false_eq_true, reduceCtorEq, Nat.reduceAdd, Nat.reduceLT, Nat.reduceLeDiff, Nat.reduceSub, List.replicate, Nat.zero_add, Nat.lt_add_one, Nat.le_refl, Nat.zero_le, Nat.succ_ne_zero, not_false_eq_true, not_true_eq_false, false_implies, true_implies, forall_const, imp_self, true_or, or_true, eq_self, sI_zw, zw_zw, hI_zw, tg_zw, ln_zw, hR_zw, hL_zw, hN_zw, hM_zw, upd_s, upd_u, upd_ne, Classical.not_not, k_Nw_goOut, w1]; try clear hgo9 hW9)
              refine next i m c9 2 z1 h2 (by omega) fr2 lt2 sh2 ?_ g9 ec c8 hr
              rw [eo1, hi]
              exact te
      · simp only [aft]
        have mt := (iff j hj).mp mj
        have mj0 := (slk.2.2.2 j hj).2
        (obtain ⟨W9, hW9, hgo9⟩ := wp_ex (T_Nw_goOut l G) [31, 93] _; refine hgo9 200 _ _ _ _ ?_; simp -implicitDefEqProofs (disch := omega) only [hW9, inl, gate, Xq, tz_const, tz_iload, tz_lload, tz_dload, tz_aload, tz_istore, tz_astore, tz_lstore, tz_dstore, tz_iinc, tz_i1, tz_i2, tz_i2z, tz_l2, tz_l2z, tz_i2l, tz_l2i, tz_lcmp, tz_i2d, tz_d2, tz_dcmp, tz_dup, tz_dup2, tz_pop, tz_if, tz_icmp, tz_null, tz_goto, tz_sw, tz_getf, tz_puti, tz_putz, tz_putr, tz_putl, tz_iaload, tz_baload, tz_laload, tz_aaload, tz_iastore, tz_bastore, tz_lastore, tz_aastore, tz_alen, tz_new, tz_newa, tz_oinit, tz_iret, tz_zret, tz_lret, tz_dret, tz_aret, tz_vret, tz_throw, tz_callS, tz_callV, tz_callI, tz_callR, tz_pureS, tz_pureV, tz_callVH, lg, lset, lkill, lst1, lst2, entL, isRf, is1, vl, va_rf_none, va_rf_some, isRf_rf, is1_rf, i0, i1, bI_eq0, bI_eq1, nm_em, nI_eqP, nI_leP, nI_ltP, nN_e1, nN_e2, nN_l1, nN_l2, nN_l3, nN_l4, nI_add, pk_mul, vp_inN, nI_cl, n01, n10, P_i, P_ii, P_iii, f_Mo_at, f_Mo_map, f_Mo_contact, f_Mo_within, f_Mo_isPort, f_Hp_endpoint, f_Hp_nodeOf, f_Hp_portOf, f_Ma_max, f_Ma_min, f_Hp_isSetting, popN, rok, a1, noX, swc, mL, if_true, if_false, ↓reduceIte, cond_true, cond_false, true_and, and_true, List.length_cons, List.length_nil, List.nil_append, List.cons_append, List.append_nil, Option.toList, Nat.reduceEqDiff, Bool.false_eq_true, reduceCtorEq, Nat.reduceAdd, Nat.reduceLT, Nat.reduceLeDiff, Nat.reduceSub, List.replicate, Nat.zero_add, Nat.lt_add_one, Nat.le_refl, Nat.zero_le, Nat.succ_ne_zero, not_false_eq_true, not_true_eq_false, false_implies, true_implies, forall_const, imp_self, true_or, or_true, eq_self, sI_zw, zw_zw, hI_zw, tg_zw, ln_zw, hR_zw, hL_zw, hN_zw, hM_zw, upd_s, upd_u, upd_ne, Classical.not_not, k_Nw_goOut, h1, g1, mj0]; try clear hgo9 hW9)
        rcases hr with ⟨hf, -⟩ | ⟨i, y, hg, -, hr⟩
        · exact absurd mt (mf_no o8 hf.1 j hj)
        · obtain ⟨z1, c9, g9, ec, c8, ey, src⟩ := hg.to gi
          subst ey
          rcases src with ⟨e, hi, ez1⟩ | ⟨e, -⟩
          · rcases mfZ_range (z := z) (t := t) (a := nI sa) (p := nI sp) (b := nI b) (q := nI d) (own z t) with e' | ⟨i', w1, w2, w3⟩
            · rw [e', nN_e1 (by omega)] at e; exact e.elim
            · rw [w2, nI_eq (by omega) (by omega)] at e
              subst e
              have := mt_uniq tra hj w1 mt w3
              subst this
              subst ez1
              refine next j _ c9 0 z1 h (by omega) (Fr.rf hw) Lt.rf sh ⟨tl.1, fun j' hj' _ => tl.2 j' hj', (tl.slot hj).1, (tl.slot hj).2.to0⟩ g9 ec c8 hr
          · exact absurd mt (mf_no o8 e j hj)
theorem c_Nw_goOut (wn a p b d f : Nat) (r s' q' : Int32) (z z' : Nat → Int32) (h : AH) (Q : Po) (hw : WF h) (inv : Inv z) (k : NwR h wn z) (ha : a < mny z) (hp : 1 ≤ p ∧ p ≤ 9999) (hb : b < mny z) (hd : 1 ≤ d ∧ d ≤ 9999) (hr : TrvR b (nI d) f z (z (16 + 16 * a + 1)) nN (nI a) (nI p) r z' s' q')
    (q1 : ∀ h', NwR h' wn z' → Inv z' → Fr wn 20 h h' → (r = nN ∨ r = (-5) ∨ r = (-4)) → Q (.inl (some (.int r))) h')
    (q2 : ∀ h' y sa sp k, NwR h' wn y → Inv y → Fr wn 20 h h' → b < mny y → sa < mny y → (1 ≤ sp ∧ sp ≤ 9999) → CinR (nI sa) (nI sp) k y (nI b) (nI d) r z' → Q (.inl (some (.int (nI (sa * 10000 + sp))))) h') : Call l G M_Nw_goOut [.ref wn, .int (nI (a * 10000 + p)), .int (nI (b * 10000 + d))] h Q := by
  have m10 := inv.1.1.at.2
  have h1 := k.1.1.1
  have hPn : ∀ x, P_Nw_netOf [.ref wn, .int x] h := fun x => k.1.NdK x
  have na := k.ne m10 ha
  have nb := k.ne m10 hb
  have ea := enc_node (a := a) (p := p) (by omega) (by omega)
  have eb := enc_node (a := b) (p := d) (by omega) (by omega)
  refine call_of rfl rfl (Nat.le_of_ble_eq_true rfl) ?_
  (obtain ⟨W9, hW9, hgo9⟩ := wp_ex (T_Nw_goOut l G) [31] _; refine hgo9 200 _ _ _ _ ?_; simp -implicitDefEqProofs (disch := omega) only [hW9, inl, gate, Xq, tz_const, tz_iload, tz_lload, tz_dload, tz_aload, tz_istore, tz_astore, tz_lstore, tz_dstore, tz_iinc, tz_i1, tz_i2, tz_i2z, tz_l2, tz_l2z, tz_i2l, tz_l2i, tz_lcmp, tz_i2d, tz_d2, tz_dcmp, tz_dup, tz_dup2, tz_pop, tz_if, tz_icmp, tz_null, tz_goto, tz_sw, tz_getf, tz_puti, tz_putz, tz_putr, tz_putl, tz_iaload, tz_baload, tz_laload, tz_aaload, tz_iastore, tz_bastore, tz_lastore, tz_aastore, tz_alen, tz_new, tz_newa, tz_oinit, tz_iret, tz_zret, tz_lret, tz_dret, tz_aret, tz_vret, tz_throw, tz_callS, tz_callV, tz_callI, tz_callR, tz_pureS, tz_pureV, tz_callVH, lg, lset, lkill, lst1, lst2, entL, isRf, is1, vl, va_rf_none, va_rf_some, isRf_rf, is1_rf, i0, i1, bI_eq0, bI_eq1, nm_em, nI_eqP, nI_leP, nI_ltP, nN_e1, nN_e2, nN_l1, nN_l2, nN_l3, nN_l4, nI_add, pk_mul, vp_inN, nI_cl, n01, n10, P_i, P_ii, P_iii, f_Mo_at, f_Mo_map, f_Mo_contact, f_Mo_within, f_Mo_isPort, f_Hp_endpoint, f_Hp_nodeOf, f_Hp_portOf, f_Ma_max, f_Ma_min, f_Hp_isSetting, popN, rok, a1, noX, swc, mL, if_true, if_false, ↓reduceIte, cond_true, cond_false, true_and, and_true, List.length_cons, List.length_nil, List.nil_append, List.cons_append, List.append_nil, Option.toList, Nat.reduceEqDiff, Bool.false_eq_true, reduceCtorEq, Nat.reduceAdd, Nat.reduceLT, Nat.reduceLeDiff, Nat.reduceSub, List.replicate, Nat.zero_add, Nat.lt_add_one, Nat.le_refl, Nat.zero_le, Nat.succ_ne_zero, not_false_eq_true, not_true_eq_false, false_implies, true_implies, forall_const, imp_self, true_or, or_true, eq_self, sI_zw, zw_zw, hI_zw, tg_zw, ln_zw, hR_zw, hL_zw, hN_zw, hM_zw, upd_s, upd_u, upd_ne, Classical.not_not, k_Nw_goOut, h1, hPn, f_Nw_netOf, ea, eb, na, nb]; try clear hgo9 hW9)
  refine lp_go hd q1 q2 f 0 z h _ _ _ a p _ _ hw inv k (Fr.rf hw) (by omega) ⟨hb, rfl⟩ ⟨ha, rfl, hp⟩ ?_ (Or.inl rfl) hr
  rcases (inv.1.2.2.2 a ha).1.2 with q | ⟨j, j1, j2, -⟩
  · exact Or.inl q
  · exact Or.inr ⟨j, j2, by omega⟩
end
