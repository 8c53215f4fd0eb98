def k_Nw_total (l : Launch) (G : Gc) (pc : Nat) : Tr :=
  if pc < 96 then
   if pc < 76 then
    if pc < 66 then
     if pc < 61 then
      if pc < 1 then
       if pc = 0 then tz_iload 1 1 else dead
      else
       if pc < 60 then
        if pc = 1 then tz_sw [(nI 0, 60), (nI 1, 65), (nI 2, 71), (nI 3, 76), (nI 4, 81), (nI 5, 86), (nI 6, 91), (nI 7, 98), (nI 8, 105), (nI 9, 112), (nI 10, 119)] 126 else dead
       else
        if pc = 60 then tz_aload 61 0 else dead
     else
      if pc < 64 then
       if pc = 61 then tz_getf 64 1 2 0 else dead
      else
       if pc < 65 then
        if pc = 64 then tz_iret else dead
       else
        if pc = 65 then tz_aload 66 0 else dead
    else
     if pc < 71 then
      if pc < 67 then
       if pc = 66 then tz_const 67 (.int (nN)) else dead
      else
       if pc < 70 then
        if pc = 67 then tz_callV l G 70 M_Nw_hostsBehind 1 1 else dead
       else
        if pc = 70 then tz_iret else dead
     else
      if pc < 72 then
       if pc = 71 then tz_aload 72 0 else dead
      else
       if pc < 75 then
        if pc = 72 then tz_getf 75 1 3 0 else dead
       else
        if pc = 75 then tz_iret else dead
   else
    if pc < 86 then
     if pc < 81 then
      if pc < 77 then
       if pc = 76 then tz_aload 77 0 else dead
      else
       if pc < 80 then
        if pc = 77 then tz_callV l G 80 M_Nw_mappingTotal 0 1 else dead
       else
        if pc = 80 then tz_iret else dead
     else
      if pc < 82 then
       if pc = 81 then tz_aload 82 0 else dead
      else
       if pc < 85 then
        if pc = 82 then tz_getf 85 1 4 0 else dead
       else
        if pc = 85 then tz_iret else dead
    else
     if pc < 91 then
      if pc < 87 then
       if pc = 86 then tz_aload 87 0 else dead
      else
       if pc < 90 then
        if pc = 87 then tz_getf 90 1 5 0 else dead
       else
        if pc = 90 then tz_iret else dead
     else
      if pc < 92 then
       if pc = 91 then tz_aload 92 0 else dead
      else
       if pc < 95 then
        if pc = 92 then tz_getf 95 1 1 1 else dead
       else
        if pc = 95 then tz_const 96 (.int (nI 1)) else dead
  else
   if pc < 112 then
    if pc < 104 then
     if pc < 99 then
      if pc < 97 then
       if pc = 96 then tz_iaload 97 else dead
      else
       if pc < 98 then
        if pc = 97 then tz_iret else dead
       else
        if pc = 98 then tz_aload 99 0 else dead
     else
      if pc < 102 then
       if pc = 99 then tz_getf 102 1 1 1 else dead
      else
       if pc < 103 then
        if pc = 102 then tz_const 103 (.int (nI 2)) else dead
       else
        if pc = 103 then tz_iaload 104 else dead
    else
     if pc < 109 then
      if pc < 105 then
       if pc = 104 then tz_iret else dead
      else
       if pc < 106 then
        if pc = 105 then tz_aload 106 0 else dead
       else
        if pc = 106 then tz_getf 109 1 1 1 else dead
     else
      if pc < 110 then
       if pc = 109 then tz_const 110 (.int (nI 3)) else dead
      else
       if pc < 111 then
        if pc = 110 then tz_iaload 111 else dead
       else
        if pc = 111 then tz_iret else dead
   else
    if pc < 120 then
     if pc < 117 then
      if pc < 113 then
       if pc = 112 then tz_aload 113 0 else dead
      else
       if pc < 116 then
        if pc = 113 then tz_getf 116 1 1 1 else dead
       else
        if pc = 116 then tz_const 117 (.int (nI 4)) else dead
     else
      if pc < 118 then
       if pc = 117 then tz_iaload 118 else dead
      else
       if pc < 119 then
        if pc = 118 then tz_iret else dead
       else
        if pc = 119 then tz_aload 120 0 else dead
    else
     if pc < 125 then
      if pc < 123 then
       if pc = 120 then tz_getf 123 1 1 1 else dead
      else
       if pc < 124 then
        if pc = 123 then tz_const 124 (.int (nI 5)) else dead
       else
        if pc = 124 then tz_iaload 125 else dead
     else
      if pc < 126 then
       if pc = 125 then tz_iret else dead
      else
       if pc < 127 then
        if pc = 126 then tz_const 127 (.int (nN)) else dead
       else
        if pc = 127 then tz_iret else dead
set_option maxRecDepth 100000 in
theorem T_Nw_total (l : Launch) (G : Gc) : TabOK l G M_Nw_total (k_Nw_total l G) := by
  intro pc
  unfold k_Nw_total
  exact
   (sd_br
    (sd_br
     (sd_br
      (sd_br
       (sd_br
        (sd_lf (sd_iload_n (k := 1) (by decide +kernel : decode prog_3_method_18_code 0 = .ok (.iload_n 1, 1))))
        (sd_br
         (sd_lf (sd_tsw (by decide +kernel : decode prog_3_method_18_code 1 = .ok (.tableswitch 125 0 10 #[59, 64, 70, 75, 80, 85, 90, 97, 104, 111, 118], 59)) (by decide +kernel) (by decide +kernel) (by decide +kernel)))
         (sd_lf (sd_aload_n (k := 0) (by decide +kernel : decode prog_3_method_18_code 60 = .ok (.aload_n 0, 1))))))
       (sd_br
        (sd_lf (sd_getf (q := (RX1, TX1, 6)) (by decide +kernel : decode prog_3_method_18_code 61 = .ok (.getfield 21, 3)) rfl (by decide +kernel) (gm 106 (by decide +kernel) rfl)))
        (sd_br
         (sd_lf (sd_iret (by decide +kernel : decode prog_3_method_18_code 64 = .ok (.ireturn, 1)) rfl))
         (sd_lf (sd_aload_n (k := 0) (by decide +kernel : decode prog_3_method_18_code 65 = .ok (.aload_n 0, 1)))))))
      (sd_br
       (sd_br
        (sd_lf (sd_iconst (by decide +kernel : decode prog_3_method_18_code 66 = .ok (.iconst (-1), 1)) (by decide +kernel)))
        (sd_br
         (sd_lf (sd_callV (q := (RX1, TX1, 6)) (by decide +kernel : decode prog_3_method_18_code 67 = .ok (.invokevirtual 154, 3)) ok_Nw_hostsBehind (gm 411 (by decide +kernel) rfl) (gm 413 (by decide +kernel) rfl) (gm 8 (by decide +kernel) rfl) rfl rfl (by decide +kernel) rfl rfl))
         (sd_lf (sd_iret (by decide +kernel : decode prog_3_method_18_code 70 = .ok (.ireturn, 1)) rfl))))
       (sd_br
        (sd_lf (sd_aload_n (k := 0) (by decide +kernel : decode prog_3_method_18_code 71 = .ok (.aload_n 0, 1))))
        (sd_br
         (sd_lf (sd_getf (q := (RX1, TX1, 6)) (by decide +kernel : decode prog_3_method_18_code 72 = .ok (.getfield 25, 3)) rfl (by decide +kernel) (gm 109 (by decide +kernel) rfl)))
         (sd_lf (sd_iret (by decide +kernel : decode prog_3_method_18_code 75 = .ok (.ireturn, 1)) rfl))))))
     (sd_br
      (sd_br
       (sd_br
        (sd_lf (sd_aload_n (k := 0) (by decide +kernel : decode prog_3_method_18_code 76 = .ok (.aload_n 0, 1))))
        (sd_br
         (sd_lf (sd_callV (q := (RX1, TX1, 6)) (by decide +kernel : decode prog_3_method_18_code 77 = .ok (.invokevirtual 157, 3)) ok_Nw_mappingTotal (gm 424 (by decide +kernel) rfl) (gm 426 (by decide +kernel) rfl) (gm 10 (by decide +kernel) rfl) rfl rfl (by decide +kernel) rfl rfl))
         (sd_lf (sd_iret (by decide +kernel : decode prog_3_method_18_code 80 = .ok (.ireturn, 1)) rfl))))
       (sd_br
        (sd_lf (sd_aload_n (k := 0) (by decide +kernel : decode prog_3_method_18_code 81 = .ok (.aload_n 0, 1))))
        (sd_br
         (sd_lf (sd_getf (q := (RX1, TX1, 6)) (by decide +kernel : decode prog_3_method_18_code 82 = .ok (.getfield 28, 3)) rfl (by decide +kernel) (gm 111 (by decide +kernel) rfl)))
         (sd_lf (sd_iret (by decide +kernel : decode prog_3_method_18_code 85 = .ok (.ireturn, 1)) rfl)))))
      (sd_br
       (sd_br
        (sd_lf (sd_aload_n (k := 0) (by decide +kernel : decode prog_3_method_18_code 86 = .ok (.aload_n 0, 1))))
        (sd_br
         (sd_lf (sd_getf (q := (RX1, TX1, 6)) (by decide +kernel : decode prog_3_method_18_code 87 = .ok (.getfield 31, 3)) rfl (by decide +kernel) (gm 113 (by decide +kernel) rfl)))
         (sd_lf (sd_iret (by decide +kernel : decode prog_3_method_18_code 90 = .ok (.ireturn, 1)) rfl))))
       (sd_br
        (sd_lf (sd_aload_n (k := 0) (by decide +kernel : decode prog_3_method_18_code 91 = .ok (.aload_n 0, 1))))
        (sd_br
         (sd_lf (sd_getf (q := (RX1, TX1, 6)) (by decide +kernel : decode prog_3_method_18_code 92 = .ok (.getfield 17, 3)) rfl (by decide +kernel) (gm 105 (by decide +kernel) rfl)))
         (sd_lf (sd_iconst (by decide +kernel : decode prog_3_method_18_code 95 = .ok (.iconst 1, 1)) (by decide +kernel))))))))
    (sd_br
     (sd_br
      (sd_br
       (sd_br
        (sd_lf (sd_iaload (by decide +kernel : decode prog_3_method_18_code 96 = .ok (.iaload, 1))))
        (sd_br
         (sd_lf (sd_iret (by decide +kernel : decode prog_3_method_18_code 97 = .ok (.ireturn, 1)) rfl))
         (sd_lf (sd_aload_n (k := 0) (by decide +kernel : decode prog_3_method_18_code 98 = .ok (.aload_n 0, 1))))))
       (sd_br
        (sd_lf (sd_getf (q := (RX1, TX1, 6)) (by decide +kernel : decode prog_3_method_18_code 99 = .ok (.getfield 17, 3)) rfl (by decide +kernel) (gm 105 (by decide +kernel) rfl)))
        (sd_br
         (sd_lf (sd_iconst (by decide +kernel : decode prog_3_method_18_code 102 = .ok (.iconst 2, 1)) (by decide +kernel)))
         (sd_lf (sd_iaload (by decide +kernel : decode prog_3_method_18_code 103 = .ok (.iaload, 1)))))))
      (sd_br
       (sd_br
        (sd_lf (sd_iret (by decide +kernel : decode prog_3_method_18_code 104 = .ok (.ireturn, 1)) rfl))
        (sd_br
         (sd_lf (sd_aload_n (k := 0) (by decide +kernel : decode prog_3_method_18_code 105 = .ok (.aload_n 0, 1))))
         (sd_lf (sd_getf (q := (RX1, TX1, 6)) (by decide +kernel : decode prog_3_method_18_code 106 = .ok (.getfield 17, 3)) rfl (by decide +kernel) (gm 105 (by decide +kernel) rfl)))))
       (sd_br
        (sd_lf (sd_iconst (by decide +kernel : decode prog_3_method_18_code 109 = .ok (.iconst 3, 1)) (by decide +kernel)))
        (sd_br
         (sd_lf (sd_iaload (by decide +kernel : decode prog_3_method_18_code 110 = .ok (.iaload, 1))))
         (sd_lf (sd_iret (by decide +kernel : decode prog_3_method_18_code 111 = .ok (.ireturn, 1)) rfl))))))
     (sd_br
      (sd_br
       (sd_br
        (sd_lf (sd_aload_n (k := 0) (by decide +kernel : decode prog_3_method_18_code 112 = .ok (.aload_n 0, 1))))
        (sd_br
         (sd_lf (sd_getf (q := (RX1, TX1, 6)) (by decide +kernel : decode prog_3_method_18_code 113 = .ok (.getfield 17, 3)) rfl (by decide +kernel) (gm 105 (by decide +kernel) rfl)))
         (sd_lf (sd_iconst (by decide +kernel : decode prog_3_method_18_code 116 = .ok (.iconst 4, 1)) (by decide +kernel)))))
       (sd_br
        (sd_lf (sd_iaload (by decide +kernel : decode prog_3_method_18_code 117 = .ok (.iaload, 1))))
        (sd_br
         (sd_lf (sd_iret (by decide +kernel : decode prog_3_method_18_code 118 = .ok (.ireturn, 1)) rfl))
         (sd_lf (sd_aload_n (k := 0) (by decide +kernel : decode prog_3_method_18_code 119 = .ok (.aload_n 0, 1)))))))
      (sd_br
       (sd_br
        (sd_lf (sd_getf (q := (RX1, TX1, 6)) (by decide +kernel : decode prog_3_method_18_code 120 = .ok (.getfield 17, 3)) rfl (by decide +kernel) (gm 105 (by decide +kernel) rfl)))
        (sd_br
         (sd_lf (sd_iconst (by decide +kernel : decode prog_3_method_18_code 123 = .ok (.iconst 5, 1)) (by decide +kernel)))
         (sd_lf (sd_iaload (by decide +kernel : decode prog_3_method_18_code 124 = .ok (.iaload, 1))))))
       (sd_br
        (sd_lf (sd_iret (by decide +kernel : decode prog_3_method_18_code 125 = .ok (.ireturn, 1)) rfl))
        (sd_br
         (sd_lf (sd_iconst (by decide +kernel : decode prog_3_method_18_code 126 = .ok (.iconst (-1), 1)) (by decide +kernel)))
         (sd_lf (sd_iret (by decide +kernel : decode prog_3_method_18_code 127 = .ok (.ireturn, 1)) rfl))))))))
def k_Nw_nodeProperty (l : Launch) (G : Gc) (pc : Nat) : Tr :=
  if pc < 92 then
   if pc < 67 then
    if pc < 11 then
     if pc < 5 then
      if pc < 1 then
       if pc = 0 then tz_aload 1 0 else dead
      else
       if pc < 2 then
        if pc = 1 then tz_iload 2 1 else dead
       else
        if pc = 2 then tz_pureV 5 1 1 P_Nw_nodeAt f_Nw_nodeAt else dead
     else
      if pc < 7 then
       if pc < 6 then
        if pc = 5 then tz_astore 6 3 else dead
       else
        if pc = 6 then tz_aload 7 3 else dead
      else
       if pc < 10 then
        if pc = 7 then tz_null 10 12 else dead
       else
        if pc = 10 then tz_const 11 (.int (nN)) else dead
    else
     if pc < 57 then
      if pc < 13 then
       if pc < 12 then
        if pc = 11 then tz_iret else dead
       else
        if pc = 12 then tz_iload 13 2 else dead
      else
       if pc < 56 then
        if pc = 13 then tz_sw [(nI 0, 56), (nI 1, 69), (nI 2, 74), (nI 3, 80), (nI 4, 97), (nI 5, 116), (nI 6, 135)] 151 else dead
       else
        if pc = 56 then tz_aload 57 3 else dead
     else
      if pc < 63 then
       if pc < 60 then
        if pc = 57 then tz_getf 60 3 0 0 else dead
       else
        if pc = 60 then tz_if 63 67 (fun a => a = 0) else dead
      else
       if pc < 64 then
        if pc = 63 then tz_const 64 (.int (nI 0)) else dead
       else
        if pc = 64 then tz_goto 68 else dead
   else
    if pc < 76 then
     if pc < 70 then
      if pc < 68 then
       if pc = 67 then tz_const 68 (.int (nI 1)) else dead
      else
       if pc < 69 then
        if pc = 68 then tz_iret else dead
       else
        if pc = 69 then tz_aload 70 3 else dead
     else
      if pc < 74 then
       if pc < 73 then
        if pc = 70 then tz_getf 73 3 1 0 else dead
       else
        if pc = 73 then tz_iret else dead
      else
       if pc < 75 then
        if pc = 74 then tz_aload 75 0 else dead
       else
        if pc = 75 then tz_iload 76 1 else dead
    else
     if pc < 84 then
      if pc < 80 then
       if pc < 79 then
        if pc = 76 then tz_callV l G 79 M_Nw_depthOf 1 1 else dead
       else
        if pc = 79 then tz_iret else dead
      else
       if pc < 81 then
        if pc = 80 then tz_aload 81 3 else dead
       else
        if pc = 81 then tz_getf 84 3 0 0 else dead
     else
      if pc < 88 then
       if pc < 87 then
        if pc = 84 then tz_if 87 91 (fun a => a = 0) else dead
       else
        if pc = 87 then tz_const 88 (.int (nI 0)) else dead
      else
       if pc < 91 then
        if pc = 88 then tz_goto 96 else dead
       else
        if pc = 91 then tz_aload 92 0 else dead
  else
   if pc < 123 then
    if pc < 105 then
     if pc < 97 then
      if pc < 93 then
       if pc = 92 then tz_iload 93 1 else dead
      else
       if pc < 96 then
        if pc = 93 then tz_callV l G 96 M_Nw_hostsBehind 1 1 else dead
       else
        if pc = 96 then tz_iret else dead
     else
      if pc < 101 then
       if pc < 98 then
        if pc = 97 then tz_aload 98 3 else dead
       else
        if pc = 98 then tz_pureV 101 0 3 P_No_hasDelivery f_No_hasDelivery else dead
      else
       if pc < 104 then
        if pc = 101 then tz_if 104 114 (fun a => a = 0) else dead
       else
        if pc = 104 then tz_aload 105 3 else dead
    else
     if pc < 115 then
      if pc < 111 then
       if pc < 108 then
        if pc = 105 then tz_getf 108 3 2 0 else dead
       else
        if pc = 108 then tz_pureS 111 1 P_Hp_nodeOf f_Hp_nodeOf else dead
      else
       if pc < 114 then
        if pc = 111 then tz_goto 115 else dead
       else
        if pc = 114 then tz_const 115 (.int (nN)) else dead
     else
      if pc < 117 then
       if pc < 116 then
        if pc = 115 then tz_iret else dead
       else
        if pc = 116 then tz_aload 117 3 else dead
      else
       if pc < 120 then
        if pc = 117 then tz_pureV 120 0 3 P_No_hasDelivery f_No_hasDelivery else dead
       else
        if pc = 120 then tz_if 123 133 (fun a => a = 0) else dead
   else
    if pc < 139 then
     if pc < 133 then
      if pc < 127 then
       if pc < 124 then
        if pc = 123 then tz_aload 124 3 else dead
       else
        if pc = 124 then tz_getf 127 3 2 0 else dead
      else
       if pc < 130 then
        if pc = 127 then tz_pureS 130 1 P_Hp_portOf f_Hp_portOf else dead
       else
        if pc = 130 then tz_goto 134 else dead
     else
      if pc < 135 then
       if pc < 134 then
        if pc = 133 then tz_const 134 (.int (nN)) else dead
       else
        if pc = 134 then tz_iret else dead
      else
       if pc < 136 then
        if pc = 135 then tz_aload 136 3 else dead
       else
        if pc = 136 then tz_pureV 139 0 3 P_No_hasDelivery f_No_hasDelivery else dead
    else
     if pc < 149 then
      if pc < 143 then
       if pc < 142 then
        if pc = 139 then tz_if 142 149 (fun a => a = 0) else dead
       else
        if pc = 142 then tz_aload 143 3 else dead
      else
       if pc < 146 then
        if pc = 143 then tz_getf 146 3 3 0 else dead
       else
        if pc = 146 then tz_goto 150 else dead
     else
      if pc < 151 then
       if pc < 150 then
        if pc = 149 then tz_const 150 (.int (nN)) else dead
       else
        if pc = 150 then tz_iret else dead
      else
       if pc < 152 then
        if pc = 151 then tz_const 152 (.int (nN)) else dead
       else
        if pc = 152 then tz_iret else dead
set_option maxRecDepth 100000 in
theorem T_Nw_nodeProperty (l : Launch) (G : Gc) : TabOK l G M_Nw_nodeProperty (k_Nw_nodeProperty l G) := by
  intro pc
  unfold k_Nw_nodeProperty
  exact
   (sd_br
    (sd_br
     (sd_br
      (sd_br
       (sd_br
        (sd_lf (sd_aload_n (k := 0) (by decide +kernel : decode prog_3_method_20_code 0 = .ok (.aload_n 0, 1))))
        (sd_br
         (sd_lf (sd_iload_n (k := 1) (by decide +kernel : decode prog_3_method_20_code 1 = .ok (.iload_n 1, 1))))
         (sd_lf (sd_pureV (sd_callV (q := (RX1, TX1, 6)) (by decide +kernel : decode prog_3_method_20_code 2 = .ok (.invokevirtual 34, 3)) ok_Nw_nodeAt (gm 192 (by decide +kernel) rfl) (gm 193 (by decide +kernel) rfl) (gm 194 (by decide +kernel) rfl) rfl rfl (by decide +kernel) rfl rfl) c_Nw_nodeAt))))
       (sd_br
        (sd_br
         (sd_lf (sd_astore_n (k := 3) (by decide +kernel : decode prog_3_method_20_code 5 = .ok (.astore_n 3, 1))))
         (sd_lf (sd_aload_n (k := 3) (by decide +kernel : decode prog_3_method_20_code 6 = .ok (.aload_n 3, 1)))))
        (sd_br
         (sd_lf (sd_ifnonnull (by decide +kernel : decode prog_3_method_20_code 7 = .ok (.ifnonnull 5, 3)) (by decide +kernel)))
         (sd_lf (sd_iconst (by decide +kernel : decode prog_3_method_20_code 10 = .ok (.iconst (-1), 1)) (by decide +kernel))))))
      (sd_br
       (sd_br
        (sd_br
         (sd_lf (sd_iret (by decide +kernel : decode prog_3_method_20_code 11 = .ok (.ireturn, 1)) rfl))
         (sd_lf (sd_iload_n (k := 2) (by decide +kernel : decode prog_3_method_20_code 12 = .ok (.iload_n 2, 1)))))
        (sd_br
         (sd_lf (sd_tsw (by decide +kernel : decode prog_3_method_20_code 13 = .ok (.tableswitch 138 0 6 #[43, 56, 61, 67, 84, 103, 122], 43)) (by decide +kernel) (by decide +kernel) (by decide +kernel)))
         (sd_lf (sd_aload_n (k := 3) (by decide +kernel : decode prog_3_method_20_code 56 = .ok (.aload_n 3, 1))))))
       (sd_br
        (sd_br
         (sd_lf (sd_getf (q := (RX3, TX3, 5)) (by decide +kernel : decode prog_3_method_20_code 57 = .ok (.getfield 46, 3)) rfl (by decide +kernel) (gm 206 (by decide +kernel) rfl)))
         (sd_lf (sd_if_eq (by decide +kernel : decode prog_3_method_20_code 60 = .ok (.ifCond .eq 7, 3)) (by decide +kernel))))
        (sd_br
         (sd_lf (sd_iconst (by decide +kernel : decode prog_3_method_20_code 63 = .ok (.iconst 0, 1)) (by decide +kernel)))
         (sd_lf (sd_goto (by decide +kernel : decode prog_3_method_20_code 64 = .ok (.goto 4, 3)) (by decide +kernel)))))))
     (sd_br
      (sd_br
       (sd_br
        (sd_lf (sd_iconst (by decide +kernel : decode prog_3_method_20_code 67 = .ok (.iconst 1, 1)) (by decide +kernel)))
        (sd_br
         (sd_lf (sd_iret (by decide +kernel : decode prog_3_method_20_code 68 = .ok (.ireturn, 1)) rfl))
         (sd_lf (sd_aload_n (k := 3) (by decide +kernel : decode prog_3_method_20_code 69 = .ok (.aload_n 3, 1))))))
       (sd_br
        (sd_br
         (sd_lf (sd_getf (q := (RX3, TX3, 5)) (by decide +kernel : decode prog_3_method_20_code 70 = .ok (.getfield 54, 3)) rfl (by decide +kernel) (gm 208 (by decide +kernel) rfl)))
         (sd_lf (sd_iret (by decide +kernel : decode prog_3_method_20_code 73 = .ok (.ireturn, 1)) rfl)))
        (sd_br
         (sd_lf (sd_aload_n (k := 0) (by decide +kernel : decode prog_3_method_20_code 74 = .ok (.aload_n 0, 1))))
         (sd_lf (sd_iload_n (k := 1) (by decide +kernel : decode prog_3_method_20_code 75 = .ok (.iload_n 1, 1)))))))
      (sd_br
       (sd_br
        (sd_br
         (sd_lf (sd_callV (q := (RX1, TX1, 6)) (by decide +kernel : decode prog_3_method_20_code 76 = .ok (.invokevirtual 164, 3)) ok_Nw_depthOf (gm 440 (by decide +kernel) rfl) (gm 442 (by decide +kernel) rfl) (gm 12 (by decide +kernel) rfl) rfl rfl (by decide +kernel) rfl rfl))
         (sd_lf (sd_iret (by decide +kernel : decode prog_3_method_20_code 79 = .ok (.ireturn, 1)) rfl)))
        (sd_br
         (sd_lf (sd_aload_n (k := 3) (by decide +kernel : decode prog_3_method_20_code 80 = .ok (.aload_n 3, 1))))
         (sd_lf (sd_getf (q := (RX3, TX3, 5)) (by decide +kernel : decode prog_3_method_20_code 81 = .ok (.getfield 46, 3)) rfl (by decide +kernel) (gm 206 (by decide +kernel) rfl)))))
       (sd_br
        (sd_br
         (sd_lf (sd_if_eq (by decide +kernel : decode prog_3_method_20_code 84 = .ok (.ifCond .eq 7, 3)) (by decide +kernel)))
         (sd_lf (sd_iconst (by decide +kernel : decode prog_3_method_20_code 87 = .ok (.iconst 0, 1)) (by decide +kernel))))
        (sd_br
         (sd_lf (sd_goto (by decide +kernel : decode prog_3_method_20_code 88 = .ok (.goto 8, 3)) (by decide +kernel)))
         (sd_lf (sd_aload_n (k := 0) (by decide +kernel : decode prog_3_method_20_code 91 = .ok (.aload_n 0, 1)))))))))
    (sd_br
     (sd_br
      (sd_br
       (sd_br
        (sd_lf (sd_iload_n (k := 1) (by decide +kernel : decode prog_3_method_20_code 92 = .ok (.iload_n 1, 1))))
        (sd_br
         (sd_lf (sd_callV (q := (RX1, TX1, 6)) (by decide +kernel : decode prog_3_method_20_code 93 = .ok (.invokevirtual 154, 3)) ok_Nw_hostsBehind (gm 411 (by decide +kernel) rfl) (gm 413 (by decide +kernel) rfl) (gm 8 (by decide +kernel) rfl) rfl rfl (by decide +kernel) rfl rfl))
         (sd_lf (sd_iret (by decide +kernel : decode prog_3_method_20_code 96 = .ok (.ireturn, 1)) rfl))))
       (sd_br
        (sd_br
         (sd_lf (sd_aload_n (k := 3) (by decide +kernel : decode prog_3_method_20_code 97 = .ok (.aload_n 3, 1))))
         (sd_lf (sd_pureV (sd_callV (q := (RX3, TX3, 5)) (by decide +kernel : decode prog_3_method_20_code 98 = .ok (.invokevirtual 167, 3)) ok_No_hasDelivery (gm 444 (by decide +kernel) rfl) (gm 445 (by decide +kernel) rfl) (gm 446 (by decide +kernel) rfl) rfl rfl (by decide +kernel) rfl rfl) c_No_hasDelivery)))
        (sd_br
         (sd_lf (sd_if_eq (by decide +kernel : decode prog_3_method_20_code 101 = .ok (.ifCond .eq 13, 3)) (by decide +kernel)))
         (sd_lf (sd_aload_n (k := 3) (by decide +kernel : decode prog_3_method_20_code 104 = .ok (.aload_n 3, 1)))))))
      (sd_br
       (sd_br
        (sd_br
         (sd_lf (sd_getf (q := (RX3, TX3, 5)) (by decide +kernel : decode prog_3_method_20_code 105 = .ok (.getfield 119, 3)) rfl (by decide +kernel) (gm 211 (by decide +kernel) rfl)))
         (sd_lf (sd_pureSN (sd_callSN (host := "HolePuncher") (by decide +kernel : decode prog_3_method_20_code 108 = .ok (.invokestatic 86, 3)) ok_Hp_nodeOf (List.mem_of_getElem? (i := 376) (by decide +kernel)) (gm 449 (by decide +kernel) rfl) (by decide +kernel) rfl rfl) c_Hp_nodeOf)))
        (sd_br
         (sd_lf (sd_goto (by decide +kernel : decode prog_3_method_20_code 111 = .ok (.goto 4, 3)) (by decide +kernel)))
         (sd_lf (sd_iconst (by decide +kernel : decode prog_3_method_20_code 114 = .ok (.iconst (-1), 1)) (by decide +kernel)))))
       (sd_br
        (sd_br
         (sd_lf (sd_iret (by decide +kernel : decode prog_3_method_20_code 115 = .ok (.ireturn, 1)) rfl))
         (sd_lf (sd_aload_n (k := 3) (by decide +kernel : decode prog_3_method_20_code 116 = .ok (.aload_n 3, 1)))))
        (sd_br
         (sd_lf (sd_pureV (sd_callV (q := (RX3, TX3, 5)) (by decide +kernel : decode prog_3_method_20_code 117 = .ok (.invokevirtual 167, 3)) ok_No_hasDelivery (gm 444 (by decide +kernel) rfl) (gm 445 (by decide +kernel) rfl) (gm 446 (by decide +kernel) rfl) rfl rfl (by decide +kernel) rfl rfl) c_No_hasDelivery))
         (sd_lf (sd_if_eq (by decide +kernel : decode prog_3_method_20_code 120 = .ok (.ifCond .eq 13, 3)) (by decide +kernel)))))))
     (sd_br
      (sd_br
       (sd_br
        (sd_br
         (sd_lf (sd_aload_n (k := 3) (by decide +kernel : decode prog_3_method_20_code 123 = .ok (.aload_n 3, 1))))
         (sd_lf (sd_getf (q := (RX3, TX3, 5)) (by decide +kernel : decode prog_3_method_20_code 124 = .ok (.getfield 119, 3)) rfl (by decide +kernel) (gm 211 (by decide +kernel) rfl))))
        (sd_br
         (sd_lf (sd_pureSN (sd_callSN (host := "HolePuncher") (by decide +kernel : decode prog_3_method_20_code 127 = .ok (.invokestatic 122, 3)) ok_Hp_portOf (List.mem_of_getElem? (i := 379) (by decide +kernel)) (gm 452 (by decide +kernel) rfl) (by decide +kernel) rfl rfl) c_Hp_portOf))
         (sd_lf (sd_goto (by decide +kernel : decode prog_3_method_20_code 130 = .ok (.goto 4, 3)) (by decide +kernel)))))
       (sd_br
        (sd_br
         (sd_lf (sd_iconst (by decide +kernel : decode prog_3_method_20_code 133 = .ok (.iconst (-1), 1)) (by decide +kernel)))
         (sd_lf (sd_iret (by decide +kernel : decode prog_3_method_20_code 134 = .ok (.ireturn, 1)) rfl)))
        (sd_br
         (sd_lf (sd_aload_n (k := 3) (by decide +kernel : decode prog_3_method_20_code 135 = .ok (.aload_n 3, 1))))
         (sd_lf (sd_pureV (sd_callV (q := (RX3, TX3, 5)) (by decide +kernel : decode prog_3_method_20_code 136 = .ok (.invokevirtual 167, 3)) ok_No_hasDelivery (gm 444 (by decide +kernel) rfl) (gm 445 (by decide +kernel) rfl) (gm 446 (by decide +kernel) rfl) rfl rfl (by decide +kernel) rfl rfl) c_No_hasDelivery)))))
      (sd_br
       (sd_br
        (sd_br
         (sd_lf (sd_if_eq (by decide +kernel : decode prog_3_method_20_code 139 = .ok (.ifCond .eq 10, 3)) (by decide +kernel)))
         (sd_lf (sd_aload_n (k := 3) (by decide +kernel : decode prog_3_method_20_code 142 = .ok (.aload_n 3, 1)))))
        (sd_br
         (sd_lf (sd_getf (q := (RX3, TX3, 5)) (by decide +kernel : decode prog_3_method_20_code 143 = .ok (.getfield 125, 3)) rfl (by decide +kernel) (gm 214 (by decide +kernel) rfl)))
         (sd_lf (sd_goto (by decide +kernel : decode prog_3_method_20_code 146 = .ok (.goto 4, 3)) (by decide +kernel)))))
       (sd_br
        (sd_br
         (sd_lf (sd_iconst (by decide +kernel : decode prog_3_method_20_code 149 = .ok (.iconst (-1), 1)) (by decide +kernel)))
         (sd_lf (sd_iret (by decide +kernel : decode prog_3_method_20_code 150 = .ok (.ireturn, 1)) rfl)))
        (sd_br
         (sd_lf (sd_iconst (by decide +kernel : decode prog_3_method_20_code 151 = .ok (.iconst (-1), 1)) (by decide +kernel)))
         (sd_lf (sd_iret (by decide +kernel : decode prog_3_method_20_code 152 = .ok (.ireturn, 1)) rfl))))))))
def k_Tl_property (l : Launch) (G : Gc) (pc : Nat) : Tr :=
  if pc < 68 then
   if pc < 58 then
    if pc < 53 then
     if pc < 1 then
      if pc = 0 then tz_iload 1 1 else dead
     else
      if pc < 52 then
       if pc = 1 then tz_sw [(nI 0, 52), (nI 1, 57), (nI 2, 62), (nI 3, 67), (nI 4, 67), (nI 5, 67), (nI 6, 67), (nI 7, 75), (nI 8, 80)] 85 else dead
      else
       if pc = 52 then tz_aload 53 0 else dead
    else
     if pc < 56 then
      if pc = 53 then tz_getf 56 5 0 0 else dead
     else
      if pc < 57 then
       if pc = 56 then tz_iret else dead
      else
       if pc = 57 then tz_aload 58 0 else dead
   else
    if pc < 63 then
     if pc < 61 then
      if pc = 58 then tz_getf 61 5 1 0 else dead
     else
      if pc < 62 then
       if pc = 61 then tz_iret else dead
      else
       if pc = 62 then tz_aload 63 0 else dead
    else
     if pc < 66 then
      if pc = 63 then tz_getf 66 5 2 0 else dead
     else
      if pc < 67 then
       if pc = 66 then tz_iret else dead
      else
       if pc = 67 then tz_aload 68 0 else dead
  else
   if pc < 76 then
    if pc < 71 then
     if pc < 69 then
      if pc = 68 then tz_iload 69 1 else dead
     else
      if pc < 70 then
       if pc = 69 then tz_const 70 (.int (nI 3)) else dead
      else
       if pc = 70 then tz_i2 71 (fun a b => a - b) else dead
    else
     if pc < 74 then
      if pc = 71 then tz_pureV 74 1 5 P_Tl_setting f_Tl_setting else dead
     else
      if pc < 75 then
       if pc = 74 then tz_iret else dead
      else
       if pc = 75 then tz_aload 76 0 else dead
   else
    if pc < 81 then
     if pc < 79 then
      if pc = 76 then tz_getf 79 5 10 0 else dead
     else
      if pc < 80 then
       if pc = 79 then tz_iret else dead
      else
       if pc = 80 then tz_aload 81 0 else dead
    else
     if pc < 85 then
      if pc < 84 then
       if pc = 81 then tz_getf 84 5 7 0 else dead
      else
       if pc = 84 then tz_iret else dead
     else
      if pc < 86 then
       if pc = 85 then tz_const 86 (.int (nN)) else dead
      else
       if pc = 86 then tz_iret else dead
set_option maxRecDepth 100000 in
theorem T_Tl_property (l : Launch) (G : Gc) : TabOK l G M_Tl_property (k_Tl_property l G) := by
  intro pc
  unfold k_Tl_property
  exact
   (sd_br
    (sd_br
     (sd_br
      (sd_br
       (sd_lf (sd_iload_n (k := 1) (by decide +kernel : decode prog_7_method_17_code 0 = .ok (.iload_n 1, 1))))
       (sd_br
        (sd_lf (sd_tsw (by decide +kernel : decode prog_7_method_17_code 1 = .ok (.tableswitch 84 0 8 #[51, 56, 61, 66, 66, 66, 66, 74, 79], 51)) (by decide +kernel) (by decide +kernel) (by decide +kernel)))
        (sd_lf (sd_aload_n (k := 0) (by decide +kernel : decode prog_7_method_17_code 52 = .ok (.aload_n 0, 1))))))
      (sd_br
       (sd_lf (sd_getf (q := (RX5, TX5, 11)) (by decide +kernel : decode prog_7_method_17_code 53 = .ok (.getfield 21, 3)) rfl (by decide +kernel) (gm 248 (by decide +kernel) rfl)))
       (sd_br
        (sd_lf (sd_iret (by decide +kernel : decode prog_7_method_17_code 56 = .ok (.ireturn, 1)) rfl))
        (sd_lf (sd_aload_n (k := 0) (by decide +kernel : decode prog_7_method_17_code 57 = .ok (.aload_n 0, 1)))))))
     (sd_br
      (sd_br
       (sd_lf (sd_getf (q := (RX5, TX5, 11)) (by decide +kernel : decode prog_7_method_17_code 58 = .ok (.getfield 24, 3)) rfl (by decide +kernel) (gm 249 (by decide +kernel) rfl)))
       (sd_br
        (sd_lf (sd_iret (by decide +kernel : decode prog_7_method_17_code 61 = .ok (.ireturn, 1)) rfl))
        (sd_lf (sd_aload_n (k := 0) (by decide +kernel : decode prog_7_method_17_code 62 = .ok (.aload_n 0, 1))))))
      (sd_br
       (sd_lf (sd_getf (q := (RX5, TX5, 11)) (by decide +kernel : decode prog_7_method_17_code 63 = .ok (.getfield 27, 3)) rfl (by decide +kernel) (gm 251 (by decide +kernel) rfl)))
       (sd_br
        (sd_lf (sd_iret (by decide +kernel : decode prog_7_method_17_code 66 = .ok (.ireturn, 1)) rfl))
        (sd_lf (sd_aload_n (k := 0) (by decide +kernel : decode prog_7_method_17_code 67 = .ok (.aload_n 0, 1))))))))
    (sd_br
     (sd_br
      (sd_br
       (sd_lf (sd_iload_n (k := 1) (by decide +kernel : decode prog_7_method_17_code 68 = .ok (.iload_n 1, 1))))
       (sd_br
        (sd_lf (sd_iconst (by decide +kernel : decode prog_7_method_17_code 69 = .ok (.iconst 3, 1)) (by decide +kernel)))
        (sd_lf (sd_isub (by decide +kernel : decode prog_7_method_17_code 70 = .ok (.isub, 1))))))
      (sd_br
       (sd_lf (sd_pureV (sd_callV (q := (RX5, TX5, 11)) (by decide +kernel : decode prog_7_method_17_code 71 = .ok (.invokevirtual 121, 3)) ok_Tl_setting (gm 463 (by decide +kernel) rfl) (gm 464 (by decide +kernel) rfl) (gm 465 (by decide +kernel) rfl) rfl rfl (by decide +kernel) rfl rfl) c_Tl_setting))
       (sd_br
        (sd_lf (sd_iret (by decide +kernel : decode prog_7_method_17_code 74 = .ok (.ireturn, 1)) rfl))
        (sd_lf (sd_aload_n (k := 0) (by decide +kernel : decode prog_7_method_17_code 75 = .ok (.aload_n 0, 1)))))))
     (sd_br
      (sd_br
       (sd_lf (sd_getf (q := (RX5, TX5, 11)) (by decide +kernel : decode prog_7_method_17_code 76 = .ok (.getfield 17, 3)) rfl (by decide +kernel) (gm 261 (by decide +kernel) rfl)))
       (sd_br
        (sd_lf (sd_iret (by decide +kernel : decode prog_7_method_17_code 79 = .ok (.ireturn, 1)) rfl))
        (sd_lf (sd_aload_n (k := 0) (by decide +kernel : decode prog_7_method_17_code 80 = .ok (.aload_n 0, 1))))))
      (sd_br
       (sd_br
        (sd_lf (sd_getf (q := (RX5, TX5, 11)) (by decide +kernel : decode prog_7_method_17_code 81 = .ok (.getfield 43, 3)) rfl (by decide +kernel) (gm 258 (by decide +kernel) rfl)))
        (sd_lf (sd_iret (by decide +kernel : decode prog_7_method_17_code 84 = .ok (.ireturn, 1)) rfl)))
       (sd_br
        (sd_lf (sd_iconst (by decide +kernel : decode prog_7_method_17_code 85 = .ok (.iconst (-1), 1)) (by decide +kernel)))
        (sd_lf (sd_iret (by decide +kernel : decode prog_7_method_17_code 86 = .ok (.ireturn, 1)) rfl)))))))
def k_Hp_total (l : Launch) (G : Gc) (pc : Nat) : Tr :=
  if pc < 14 then
   if pc < 6 then
    if pc < 1 then
     if pc = 0 then tz_iload 1 1 else dead
    else
     if pc < 3 then
      if pc = 1 then tz_const 3 (.int (nI 11)) else dead
     else
      if pc = 3 then tz_icmp 6 21 (fun a b => ¬ a = b) else dead
   else
    if pc < 10 then
     if pc < 7 then
      if pc = 6 then tz_aload 7 0 else dead
     else
      if pc = 7 then tz_getf 10 6 6 0 else dead
    else
     if pc < 13 then
      if pc = 10 then tz_if 13 17 (fun a => a = 0) else dead
     else
      if pc = 13 then tz_const 14 (.int (nI 1)) else dead
  else
   if pc < 22 then
    if pc < 18 then
     if pc < 17 then
      if pc = 14 then tz_goto 29 else dead
     else
      if pc = 17 then tz_const 18 (.int (nI 0)) else dead
    else
     if pc < 21 then
      if pc = 18 then tz_goto 29 else dead
     else
      if pc = 21 then tz_aload 22 0 else dead
   else
    if pc < 26 then
     if pc < 25 then
      if pc = 22 then tz_getf 25 6 0 1 else dead
     else
      if pc = 25 then tz_iload 26 1 else dead
    else
     if pc < 29 then
      if pc = 26 then tz_callV l G 29 M_Nw_total 1 1 else dead
     else
      if pc = 29 then tz_iret else dead
set_option maxRecDepth 100000 in
theorem T_Hp_total (l : Launch) (G : Gc) : TabOK l G M_Hp_total (k_Hp_total l G) := by
  intro pc
  unfold k_Hp_total
  exact
   (sd_br
    (sd_br
     (sd_br
      (sd_lf (sd_iload_n (k := 1) (by decide +kernel : decode prog_1_method_33_code 0 = .ok (.iload_n 1, 1))))
      (sd_br
       (sd_lf (sd_bipush (by decide +kernel : decode prog_1_method_33_code 1 = .ok (.bipush 11, 2)) (by decide +kernel)))
       (sd_lf (sd_icmp_ne (by decide +kernel : decode prog_1_method_33_code 3 = .ok (.if_icmp .ne 18, 3)) (by decide +kernel)))))
     (sd_br
      (sd_br
       (sd_lf (sd_aload_n (k := 0) (by decide +kernel : decode prog_1_method_33_code 6 = .ok (.aload_n 0, 1))))
       (sd_lf (sd_getf (q := (RX6, TX6, 7)) (by decide +kernel : decode prog_1_method_33_code 7 = .ok (.getfield 37, 3)) rfl (by decide +kernel) (gm 160 (by decide +kernel) rfl))))
      (sd_br
       (sd_lf (sd_if_eq (by decide +kernel : decode prog_1_method_33_code 10 = .ok (.ifCond .eq 7, 3)) (by decide +kernel)))
       (sd_lf (sd_iconst (by decide +kernel : decode prog_1_method_33_code 13 = .ok (.iconst 1, 1)) (by decide +kernel))))))
    (sd_br
     (sd_br
      (sd_br
       (sd_lf (sd_goto (by decide +kernel : decode prog_1_method_33_code 14 = .ok (.goto 15, 3)) (by decide +kernel)))
       (sd_lf (sd_iconst (by decide +kernel : decode prog_1_method_33_code 17 = .ok (.iconst 0, 1)) (by decide +kernel))))
      (sd_br
       (sd_lf (sd_goto (by decide +kernel : decode prog_1_method_33_code 18 = .ok (.goto 11, 3)) (by decide +kernel)))
       (sd_lf (sd_aload_n (k := 0) (by decide +kernel : decode prog_1_method_33_code 21 = .ok (.aload_n 0, 1))))))
     (sd_br
      (sd_br
       (sd_lf (sd_getf (q := (RX6, TX6, 7)) (by decide +kernel : decode prog_1_method_33_code 22 = .ok (.getfield 12, 3)) rfl (by decide +kernel) (gm 154 (by decide +kernel) rfl)))
       (sd_lf (sd_iload_n (k := 1) (by decide +kernel : decode prog_1_method_33_code 25 = .ok (.iload_n 1, 1)))))
      (sd_br
       (sd_lf (sd_callV (q := (RX1, TX1, 6)) (by decide +kernel : decode prog_1_method_33_code 26 = .ok (.invokevirtual 287, 3)) ok_Nw_total (gm 407 (by decide +kernel) rfl) (gm 408 (by decide +kernel) rfl) (gm 409 (by decide +kernel) rfl) rfl rfl (by decide +kernel) rfl rfl))
       (sd_lf (sd_iret (by decide +kernel : decode prog_1_method_33_code 29 = .ok (.ireturn, 1)) rfl))))))
def k_Hp_count (l : Launch) (G : Gc) (pc : Nat) : Tr :=
  if pc < 10 then
   if pc < 2 then
    if pc < 1 then
     if pc = 0 then tz_iload 1 1 else dead
    else
     if pc = 1 then tz_const 2 (.int (nI 0)) else dead
   else
    if pc < 4 then
     if pc = 2 then tz_const 4 (.int (nI 11)) else dead
    else
     if pc < 7 then
      if pc = 4 then tz_pureS 7 3 P_Hp_isWithin f_Hp_isWithin else dead
     else
      if pc = 7 then tz_if 10 20 (fun a => ¬ a = 0) else dead
  else
   if pc < 21 then
    if pc < 20 then
     if pc = 10 then tz_throw "java/lang/IllegalArgumentException" else dead
    else
     if pc = 20 then tz_aload 21 0 else dead
   else
    if pc < 22 then
     if pc = 21 then tz_iload 22 1 else dead
    else
     if pc < 25 then
      if pc = 22 then tz_callV l G 25 M_Hp_total 1 6 else dead
     else
      if pc = 25 then tz_iret else dead
set_option maxRecDepth 100000 in
theorem T_Hp_count (l : Launch) (G : Gc) : TabOK l G M_Hp_count (k_Hp_count l G) := by
  intro pc
  unfold k_Hp_count
  exact
   (sd_br
    (sd_br
     (sd_br
      (sd_lf (sd_iload_n (k := 1) (by decide +kernel : decode prog_1_method_22_code 0 = .ok (.iload_n 1, 1))))
      (sd_lf (sd_iconst (by decide +kernel : decode prog_1_method_22_code 1 = .ok (.iconst 0, 1)) (by decide +kernel))))
     (sd_br
      (sd_lf (sd_bipush (by decide +kernel : decode prog_1_method_22_code 2 = .ok (.bipush 11, 2)) (by decide +kernel)))
      (sd_br
       (sd_lf (sd_pureS (sd_callS (by decide +kernel : decode prog_1_method_22_code 4 = .ok (.invokestatic 66, 3)) ok_Hp_isWithin (gm 588 (by decide +kernel) rfl) (gm 589 (by decide +kernel) rfl) (by decide +kernel) rfl rfl) c_Hp_isWithin))
       (sd_lf (sd_if_ne (by decide +kernel : decode prog_1_method_22_code 7 = .ok (.ifCond .ne 13, 3)) (by decide +kernel))))))
    (sd_br
     (sd_br
      (sd_lf (sd_throwS (text := "what is not 0 to 11") (by decide +kernel) (by decide +kernel) (gm 591 (by decide +kernel) rfl) (gm 83 (by decide +kernel) rfl) (List.mem_of_getElem? (i := 782) (by decide +kernel)) thA_IAE thG_IAE (by decide +kernel : decode prog_1_method_22_code 10 = .ok (.new 70, 3)) (by decide +kernel : decode prog_1_method_22_code 13 = .ok (.dup, 1)) (by decide +kernel : decode prog_1_method_22_code 14 = .ok (.ldc 222, 2)) (by decide +kernel : decode prog_1_method_22_code 16 = .ok (.invokespecial 74, 3)) (by decide +kernel : decode prog_1_method_22_code 19 = .ok (.athrow, 1)) rfl (by decide +kernel) (by decide +kernel)))
      (sd_lf (sd_aload_n (k := 0) (by decide +kernel : decode prog_1_method_22_code 20 = .ok (.aload_n 0, 1)))))
     (sd_br
      (sd_lf (sd_iload_n (k := 1) (by decide +kernel : decode prog_1_method_22_code 21 = .ok (.iload_n 1, 1))))
      (sd_br
       (sd_lf (sd_callV (q := (RX6, TX6, 7)) (by decide +kernel : decode prog_1_method_22_code 22 = .ok (.invokevirtual 224, 3)) ok_Hp_total (gm 403 (by decide +kernel) rfl) (gm 405 (by decide +kernel) rfl) (gm 7 (by decide +kernel) rfl) rfl rfl (by decide +kernel) rfl rfl))
       (sd_lf (sd_iret (by decide +kernel : decode prog_1_method_22_code 25 = .ok (.ireturn, 1)) rfl))))))
def k_Hp_node (l : Launch) (G : Gc) (pc : Nat) : Tr :=
  if pc < 25 then
   if pc < 8 then
    if pc < 4 then
     if pc < 1 then
      if pc = 0 then tz_aload 1 0 else dead
     else
      if pc = 1 then tz_getf 4 6 0 1 else dead
    else
     if pc < 5 then
      if pc = 4 then tz_iload 5 1 else dead
     else
      if pc = 5 then tz_pureV 8 1 1 P_Nw_nodeAt f_Nw_nodeAt else dead
   else
    if pc < 21 then
     if pc < 11 then
      if pc = 8 then tz_null 11 21 else dead
     else
      if pc = 11 then tz_throw "java/lang/IndexOutOfBoundsException" else dead
    else
     if pc < 22 then
      if pc = 21 then tz_iload 22 2 else dead
     else
      if pc < 23 then
       if pc = 22 then tz_const 23 (.int (nI 0)) else dead
      else
       if pc = 23 then tz_const 25 (.int (nI 6)) else dead
  else
   if pc < 42 then
    if pc < 31 then
     if pc < 28 then
      if pc = 25 then tz_pureS 28 3 P_Hp_isWithin f_Hp_isWithin else dead
     else
      if pc = 28 then tz_if 31 41 (fun a => ¬ a = 0) else dead
    else
     if pc < 41 then
      if pc = 31 then tz_throw "java/lang/IllegalArgumentException" else dead
     else
      if pc = 41 then tz_aload 42 0 else dead
   else
    if pc < 46 then
     if pc < 45 then
      if pc = 42 then tz_getf 45 6 0 1 else dead
     else
      if pc = 45 then tz_iload 46 1 else dead
    else
     if pc < 47 then
      if pc = 46 then tz_iload 47 2 else dead
     else
      if pc < 50 then
       if pc = 47 then tz_callV l G 50 M_Nw_nodeProperty 2 1 else dead
      else
       if pc = 50 then tz_iret else dead
set_option maxRecDepth 100000 in
theorem T_Hp_node (l : Launch) (G : Gc) : TabOK l G M_Hp_node (k_Hp_node l G) := by
  intro pc
  unfold k_Hp_node
  exact
   (sd_br
    (sd_br
     (sd_br
      (sd_br
       (sd_lf (sd_aload_n (k := 0) (by decide +kernel : decode prog_1_method_23_code 0 = .ok (.aload_n 0, 1))))
       (sd_lf (sd_getf (q := (RX6, TX6, 7)) (by decide +kernel : decode prog_1_method_23_code 1 = .ok (.getfield 12, 3)) rfl (by decide +kernel) (gm 154 (by decide +kernel) rfl))))
      (sd_br
       (sd_lf (sd_iload_n (k := 1) (by decide +kernel : decode prog_1_method_23_code 4 = .ok (.iload_n 1, 1))))
       (sd_lf (sd_pureV (sd_callV (q := (RX1, TX1, 6)) (by decide +kernel : decode prog_1_method_23_code 5 = .ok (.invokevirtual 227, 3)) ok_Nw_nodeAt (gm 686 (by decide +kernel) rfl) (gm 193 (by decide +kernel) rfl) (gm 194 (by decide +kernel) rfl) rfl rfl (by decide +kernel) rfl rfl) c_Nw_nodeAt))))
     (sd_br
      (sd_br
       (sd_lf (sd_ifnonnull (by decide +kernel : decode prog_1_method_23_code 8 = .ok (.ifnonnull 13, 3)) (by decide +kernel)))
       (sd_lf (sd_throwS (text := "no such node") (by decide +kernel) (by decide +kernel) (gm 494 (by decide +kernel) rfl) (gm 80 (by decide +kernel) rfl) (List.mem_of_getElem? (i := 790) (by decide +kernel)) thA_IOE thG_IOE (by decide +kernel : decode prog_1_method_23_code 11 = .ok (.new 83, 3)) (by decide +kernel : decode prog_1_method_23_code 14 = .ok (.dup, 1)) (by decide +kernel : decode prog_1_method_23_code 15 = .ok (.ldc 230, 2)) (by decide +kernel : decode prog_1_method_23_code 17 = .ok (.invokespecial 87, 3)) (by decide +kernel : decode prog_1_method_23_code 20 = .ok (.athrow, 1)) rfl (by decide +kernel) (by decide +kernel))))
      (sd_br
       (sd_lf (sd_iload_n (k := 2) (by decide +kernel : decode prog_1_method_23_code 21 = .ok (.iload_n 2, 1))))
       (sd_br
        (sd_lf (sd_iconst (by decide +kernel : decode prog_1_method_23_code 22 = .ok (.iconst 0, 1)) (by decide +kernel)))
        (sd_lf (sd_bipush (by decide +kernel : decode prog_1_method_23_code 23 = .ok (.bipush 6, 2)) (by decide +kernel)))))))
    (sd_br
     (sd_br
      (sd_br
       (sd_lf (sd_pureS (sd_callS (by decide +kernel : decode prog_1_method_23_code 25 = .ok (.invokestatic 66, 3)) ok_Hp_isWithin (gm 588 (by decide +kernel) rfl) (gm 589 (by decide +kernel) rfl) (by decide +kernel) rfl rfl) c_Hp_isWithin))
       (sd_lf (sd_if_ne (by decide +kernel : decode prog_1_method_23_code 28 = .ok (.ifCond .ne 13, 3)) (by decide +kernel))))
      (sd_br
       (sd_lf (sd_throwS (text := "what is not 0 to 6") (by decide +kernel) (by decide +kernel) (gm 591 (by decide +kernel) rfl) (gm 83 (by decide +kernel) rfl) (List.mem_of_getElem? (i := 791) (by decide +kernel)) thA_IAE thG_IAE (by decide +kernel : decode prog_1_method_23_code 31 = .ok (.new 70, 3)) (by decide +kernel : decode prog_1_method_23_code 34 = .ok (.dup, 1)) (by decide +kernel : decode prog_1_method_23_code 35 = .ok (.ldc 232, 2)) (by decide +kernel : decode prog_1_method_23_code 37 = .ok (.invokespecial 74, 3)) (by decide +kernel : decode prog_1_method_23_code 40 = .ok (.athrow, 1)) rfl (by decide +kernel) (by decide +kernel)))
       (sd_lf (sd_aload_n (k := 0) (by decide +kernel : decode prog_1_method_23_code 41 = .ok (.aload_n 0, 1))))))
     (sd_br
      (sd_br
       (sd_lf (sd_getf (q := (RX6, TX6, 7)) (by decide +kernel : decode prog_1_method_23_code 42 = .ok (.getfield 12, 3)) rfl (by decide +kernel) (gm 154 (by decide +kernel) rfl)))
       (sd_lf (sd_iload_n (k := 1) (by decide +kernel : decode prog_1_method_23_code 45 = .ok (.iload_n 1, 1)))))
      (sd_br
       (sd_lf (sd_iload_n (k := 2) (by decide +kernel : decode prog_1_method_23_code 46 = .ok (.iload_n 2, 1))))
       (sd_br
        (sd_lf (sd_callV (q := (RX1, TX1, 6)) (by decide +kernel : decode prog_1_method_23_code 47 = .ok (.invokevirtual 234, 3)) ok_Nw_nodeProperty (gm 436 (by decide +kernel) rfl) (gm 437 (by decide +kernel) rfl) (gm 438 (by decide +kernel) rfl) rfl rfl (by decide +kernel) rfl rfl))
        (sd_lf (sd_iret (by decide +kernel : decode prog_1_method_23_code 50 = .ok (.ireturn, 1)) rfl)))))))
def k_Hp_translator (l : Launch) (G : Gc) (pc : Nat) : Tr :=
  if pc < 24 then
   if pc < 8 then
    if pc < 4 then
     if pc < 1 then
      if pc = 0 then tz_aload 1 0 else dead
     else
      if pc = 1 then tz_getf 4 6 0 1 else dead
    else
     if pc < 5 then
      if pc = 4 then tz_iload 5 1 else dead
     else
      if pc = 5 then tz_pureV 8 1 1 P_Nw_translatorAt f_Nw_translatorAt else dead
   else
    if pc < 10 then
     if pc < 9 then
      if pc = 8 then tz_astore 9 3 else dead
     else
      if pc = 9 then tz_aload 10 3 else dead
    else
     if pc < 13 then
      if pc = 10 then tz_null 13 23 else dead
     else
      if pc < 23 then
       if pc = 13 then tz_throw "java/lang/IndexOutOfBoundsException" else dead
      else
       if pc = 23 then tz_iload 24 2 else dead
  else
   if pc < 33 then
    if pc < 27 then
     if pc < 25 then
      if pc = 24 then tz_const 25 (.int (nI 0)) else dead
     else
      if pc = 25 then tz_const 27 (.int (nI 8)) else dead
    else
     if pc < 30 then
      if pc = 27 then tz_pureS 30 3 P_Hp_isWithin f_Hp_isWithin else dead
     else
      if pc = 30 then tz_if 33 43 (fun a => ¬ a = 0) else dead
   else
    if pc < 44 then
     if pc < 43 then
      if pc = 33 then tz_throw "java/lang/IllegalArgumentException" else dead
     else
      if pc = 43 then tz_aload 44 3 else dead
    else
     if pc < 45 then
      if pc = 44 then tz_iload 45 2 else dead
     else
      if pc < 48 then
       if pc = 45 then tz_callV l G 48 M_Tl_property 1 5 else dead
      else
       if pc = 48 then tz_iret else dead
set_option maxRecDepth 100000 in
theorem T_Hp_translator (l : Launch) (G : Gc) : TabOK l G M_Hp_translator (k_Hp_translator l G) := by
  intro pc
  unfold k_Hp_translator
  exact
   (sd_br
    (sd_br
     (sd_br
      (sd_br
       (sd_lf (sd_aload_n (k := 0) (by decide +kernel : decode prog_1_method_24_code 0 = .ok (.aload_n 0, 1))))
       (sd_lf (sd_getf (q := (RX6, TX6, 7)) (by decide +kernel : decode prog_1_method_24_code 1 = .ok (.getfield 12, 3)) rfl (by decide +kernel) (gm 154 (by decide +kernel) rfl))))
      (sd_br
       (sd_lf (sd_iload_n (k := 1) (by decide +kernel : decode prog_1_method_24_code 4 = .ok (.iload_n 1, 1))))
       (sd_lf (sd_pureV (sd_callV (q := (RX1, TX1, 6)) (by decide +kernel : decode prog_1_method_24_code 5 = .ok (.invokevirtual 79, 3)) ok_Nw_translatorAt (gm 454 (by decide +kernel) rfl) (gm 429 (by decide +kernel) rfl) (gm 430 (by decide +kernel) rfl) rfl rfl (by decide +kernel) rfl rfl) c_Nw_translatorAt))))
     (sd_br
      (sd_br
       (sd_lf (sd_astore_n (k := 3) (by decide +kernel : decode prog_1_method_24_code 8 = .ok (.astore_n 3, 1))))
       (sd_lf (sd_aload_n (k := 3) (by decide +kernel : decode prog_1_method_24_code 9 = .ok (.aload_n 3, 1)))))
      (sd_br
       (sd_lf (sd_ifnonnull (by decide +kernel : decode prog_1_method_24_code 10 = .ok (.ifnonnull 13, 3)) (by decide +kernel)))
       (sd_br
        (sd_lf (sd_throwS (text := "no such translator") (by decide +kernel) (by decide +kernel) (gm 494 (by decide +kernel) rfl) (gm 80 (by decide +kernel) rfl) (List.mem_of_getElem? (i := 543) (by decide +kernel)) thA_IOE thG_IOE (by decide +kernel : decode prog_1_method_24_code 13 = .ok (.new 83, 3)) (by decide +kernel : decode prog_1_method_24_code 16 = .ok (.dup, 1)) (by decide +kernel : decode prog_1_method_24_code 17 = .ok (.ldc 85, 2)) (by decide +kernel : decode prog_1_method_24_code 19 = .ok (.invokespecial 87, 3)) (by decide +kernel : decode prog_1_method_24_code 22 = .ok (.athrow, 1)) rfl (by decide +kernel) (by decide +kernel)))
        (sd_lf (sd_iload_n (k := 2) (by decide +kernel : decode prog_1_method_24_code 23 = .ok (.iload_n 2, 1))))))))
    (sd_br
     (sd_br
      (sd_br
       (sd_lf (sd_iconst (by decide +kernel : decode prog_1_method_24_code 24 = .ok (.iconst 0, 1)) (by decide +kernel)))
       (sd_lf (sd_bipush (by decide +kernel : decode prog_1_method_24_code 25 = .ok (.bipush 8, 2)) (by decide +kernel))))
      (sd_br
       (sd_lf (sd_pureS (sd_callS (by decide +kernel : decode prog_1_method_24_code 27 = .ok (.invokestatic 66, 3)) ok_Hp_isWithin (gm 588 (by decide +kernel) rfl) (gm 589 (by decide +kernel) rfl) (by decide +kernel) rfl rfl) c_Hp_isWithin))
       (sd_lf (sd_if_ne (by decide +kernel : decode prog_1_method_24_code 30 = .ok (.ifCond .ne 13, 3)) (by decide +kernel)))))
     (sd_br
      (sd_br
       (sd_lf (sd_throwS (text := "what is not 0 to 8") (by decide +kernel) (by decide +kernel) (gm 591 (by decide +kernel) rfl) (gm 83 (by decide +kernel) rfl) (List.mem_of_getElem? (i := 799) (by decide +kernel)) thA_IAE thG_IAE (by decide +kernel : decode prog_1_method_24_code 33 = .ok (.new 70, 3)) (by decide +kernel : decode prog_1_method_24_code 36 = .ok (.dup, 1)) (by decide +kernel : decode prog_1_method_24_code 37 = .ok (.ldc 237, 2)) (by decide +kernel : decode prog_1_method_24_code 39 = .ok (.invokespecial 74, 3)) (by decide +kernel : decode prog_1_method_24_code 42 = .ok (.athrow, 1)) rfl (by decide +kernel) (by decide +kernel)))
       (sd_lf (sd_aload_n (k := 3) (by decide +kernel : decode prog_1_method_24_code 43 = .ok (.aload_n 3, 1)))))
      (sd_br
       (sd_lf (sd_iload_n (k := 2) (by decide +kernel : decode prog_1_method_24_code 44 = .ok (.iload_n 2, 1))))
       (sd_br
        (sd_lf (sd_callV (q := (RX5, TX5, 11)) (by decide +kernel : decode prog_1_method_24_code 45 = .ok (.invokevirtual 239, 3)) ok_Tl_property (gm 459 (by decide +kernel) rfl) (gm 460 (by decide +kernel) rfl) (gm 461 (by decide +kernel) rfl) rfl rfl (by decide +kernel) rfl rfl))
        (sd_lf (sd_iret (by decide +kernel : decode prog_1_method_24_code 48 = .ok (.ireturn, 1)) rfl)))))))
def k_Hp_mapping (l : Launch) (G : Gc) (pc : Nat) : Tr :=
  if pc < 37 then
   if pc < 16 then
    if pc < 8 then
     if pc < 4 then
      if pc < 1 then
       if pc = 0 then tz_aload 1 0 else dead
      else
       if pc = 1 then tz_getf 4 6 0 1 else dead
     else
      if pc < 5 then
       if pc = 4 then tz_iload 5 1 else dead
      else
       if pc = 5 then tz_pureV 8 1 1 P_Nw_translatorAt f_Nw_translatorAt else dead
    else
     if pc < 12 then
      if pc < 10 then
       if pc = 8 then tz_astore 10 4 else dead
      else
       if pc = 10 then tz_aload 12 4 else dead
     else
      if pc < 15 then
       if pc = 12 then tz_null 15 19 else dead
      else
       if pc = 15 then tz_const 16 .null else dead
   else
    if pc < 25 then
     if pc < 21 then
      if pc < 19 then
       if pc = 16 then tz_goto 25 else dead
      else
       if pc = 19 then tz_aload 21 4 else dead
     else
      if pc < 22 then
       if pc = 21 then tz_iload 22 2 else dead
      else
       if pc = 22 then tz_pureV 25 1 5 P_Tl_mappingAt f_Tl_mappingAt else dead
    else
     if pc < 29 then
      if pc < 27 then
       if pc = 25 then tz_astore 27 5 else dead
      else
       if pc = 27 then tz_aload 29 4 else dead
     else
      if pc < 32 then
       if pc = 29 then tz_null 37 32 else dead
      else
       if pc < 34 then
        if pc = 32 then tz_aload 34 5 else dead
       else
        if pc = 34 then tz_null 37 47 else dead
  else
   if pc < 69 then
    if pc < 51 then
     if pc < 48 then
      if pc < 47 then
       if pc = 37 then tz_throw "java/lang/IndexOutOfBoundsException" else dead
      else
       if pc = 47 then tz_iload 48 3 else dead
     else
      if pc < 49 then
       if pc = 48 then tz_const 49 (.int (nI 0)) else dead
      else
       if pc = 49 then tz_const 51 (.int (nI 6)) else dead
    else
     if pc < 57 then
      if pc < 54 then
       if pc = 51 then tz_pureS 54 3 P_Hp_isWithin f_Hp_isWithin else dead
      else
       if pc = 54 then tz_if 57 67 (fun a => ¬ a = 0) else dead
     else
      if pc < 67 then
       if pc = 57 then tz_throw "java/lang/IllegalArgumentException" else dead
      else
       if pc = 67 then tz_aload 69 5 else dead
   else
    if pc < 75 then
     if pc < 72 then
      if pc < 70 then
       if pc = 69 then tz_iload 70 3 else dead
      else
       if pc = 70 then tz_aload 72 4 else dead
     else
      if pc < 74 then
       if pc = 72 then tz_aload 74 5 else dead
      else
       if pc = 74 then tz_aload 75 0 else dead
    else
     if pc < 81 then
      if pc < 78 then
       if pc = 75 then tz_getf 78 6 0 1 else dead
      else
       if pc = 78 then tz_getf 81 1 3 0 else dead
     else
      if pc < 84 then
       if pc = 81 then tz_pureV 84 2 5 P_Tl_ticksLeft f_Tl_ticksLeft else dead
      else
       if pc < 87 then
        if pc = 84 then tz_callV l G 87 M_Mp_property 2 0 else dead
       else
        if pc = 87 then tz_iret else dead
set_option maxRecDepth 100000 in
theorem T_Hp_mapping (l : Launch) (G : Gc) : TabOK l G M_Hp_mapping (k_Hp_mapping l G) := by
  intro pc
  unfold k_Hp_mapping
  exact
   (sd_br
    (sd_br
     (sd_br
      (sd_br
       (sd_br
        (sd_lf (sd_aload_n (k := 0) (by decide +kernel : decode prog_1_method_25_code 0 = .ok (.aload_n 0, 1))))
        (sd_lf (sd_getf (q := (RX6, TX6, 7)) (by decide +kernel : decode prog_1_method_25_code 1 = .ok (.getfield 12, 3)) rfl (by decide +kernel) (gm 154 (by decide +kernel) rfl))))
       (sd_br
        (sd_lf (sd_iload_n (k := 1) (by decide +kernel : decode prog_1_method_25_code 4 = .ok (.iload_n 1, 1))))
        (sd_lf (sd_pureV (sd_callV (q := (RX1, TX1, 6)) (by decide +kernel : decode prog_1_method_25_code 5 = .ok (.invokevirtual 79, 3)) ok_Nw_translatorAt (gm 454 (by decide +kernel) rfl) (gm 429 (by decide +kernel) rfl) (gm 430 (by decide +kernel) rfl) rfl rfl (by decide +kernel) rfl rfl) c_Nw_translatorAt))))
      (sd_br
       (sd_br
        (sd_lf (sd_astore (by decide +kernel : decode prog_1_method_25_code 8 = .ok (.astore 4, 2))))
        (sd_lf (sd_aload (by decide +kernel : decode prog_1_method_25_code 10 = .ok (.aload 4, 2)))))
       (sd_br
        (sd_lf (sd_ifnonnull (by decide +kernel : decode prog_1_method_25_code 12 = .ok (.ifnonnull 7, 3)) (by decide +kernel)))
        (sd_lf (sd_null (by decide +kernel : decode prog_1_method_25_code 15 = .ok (.aconst_null, 1)))))))
     (sd_br
      (sd_br
       (sd_br
        (sd_lf (sd_goto (by decide +kernel : decode prog_1_method_25_code 16 = .ok (.goto 9, 3)) (by decide +kernel)))
        (sd_lf (sd_aload (by decide +kernel : decode prog_1_method_25_code 19 = .ok (.aload 4, 2)))))
       (sd_br
        (sd_lf (sd_iload_n (k := 2) (by decide +kernel : decode prog_1_method_25_code 21 = .ok (.iload_n 2, 1))))
        (sd_lf (sd_pureV (sd_callV (q := (RX5, TX5, 11)) (by decide +kernel : decode prog_1_method_25_code 22 = .ok (.invokevirtual 242, 3)) ok_Tl_mappingAt (gm 467 (by decide +kernel) rfl) (gm 292 (by decide +kernel) rfl) (gm 293 (by decide +kernel) rfl) rfl rfl (by decide +kernel) rfl rfl) c_Tl_mappingAt))))
      (sd_br
       (sd_br
        (sd_lf (sd_astore (by decide +kernel : decode prog_1_method_25_code 25 = .ok (.astore 5, 2))))
        (sd_lf (sd_aload (by decide +kernel : decode prog_1_method_25_code 27 = .ok (.aload 4, 2)))))
       (sd_br
        (sd_lf (sd_ifnull (by decide +kernel : decode prog_1_method_25_code 29 = .ok (.ifnull 8, 3)) (by decide +kernel)))
        (sd_br
         (sd_lf (sd_aload (by decide +kernel : decode prog_1_method_25_code 32 = .ok (.aload 5, 2))))
         (sd_lf (sd_ifnonnull (by decide +kernel : decode prog_1_method_25_code 34 = .ok (.ifnonnull 13, 3)) (by decide +kernel))))))))
    (sd_br
     (sd_br
      (sd_br
       (sd_br
        (sd_lf (sd_throwS (text := "no such translator or mapping") (by decide +kernel) (by decide +kernel) (gm 494 (by decide +kernel) rfl) (gm 80 (by decide +kernel) rfl) (List.mem_of_getElem? (i := 807) (by decide +kernel)) thA_IOE thG_IOE (by decide +kernel : decode prog_1_method_25_code 37 = .ok (.new 83, 3)) (by decide +kernel : decode prog_1_method_25_code 40 = .ok (.dup, 1)) (by decide +kernel : decode prog_1_method_25_code 41 = .ok (.ldc 246, 2)) (by decide +kernel : decode prog_1_method_25_code 43 = .ok (.invokespecial 87, 3)) (by decide +kernel : decode prog_1_method_25_code 46 = .ok (.athrow, 1)) rfl (by decide +kernel) (by decide +kernel)))
        (sd_lf (sd_iload_n (k := 3) (by decide +kernel : decode prog_1_method_25_code 47 = .ok (.iload_n 3, 1)))))
       (sd_br
        (sd_lf (sd_iconst (by decide +kernel : decode prog_1_method_25_code 48 = .ok (.iconst 0, 1)) (by decide +kernel)))
        (sd_lf (sd_bipush (by decide +kernel : decode prog_1_method_25_code 49 = .ok (.bipush 6, 2)) (by decide +kernel)))))
      (sd_br
       (sd_br
        (sd_lf (sd_pureS (sd_callS (by decide +kernel : decode prog_1_method_25_code 51 = .ok (.invokestatic 66, 3)) ok_Hp_isWithin (gm 588 (by decide +kernel) rfl) (gm 589 (by decide +kernel) rfl) (by decide +kernel) rfl rfl) c_Hp_isWithin))
        (sd_lf (sd_if_ne (by decide +kernel : decode prog_1_method_25_code 54 = .ok (.ifCond .ne 13, 3)) (by decide +kernel))))
       (sd_br
        (sd_lf (sd_throwS (text := "what is not 0 to 6") (by decide +kernel) (by decide +kernel) (gm 591 (by decide +kernel) rfl) (gm 83 (by decide +kernel) rfl) (List.mem_of_getElem? (i := 791) (by decide +kernel)) thA_IAE thG_IAE (by decide +kernel : decode prog_1_method_25_code 57 = .ok (.new 70, 3)) (by decide +kernel : decode prog_1_method_25_code 60 = .ok (.dup, 1)) (by decide +kernel : decode prog_1_method_25_code 61 = .ok (.ldc 232, 2)) (by decide +kernel : decode prog_1_method_25_code 63 = .ok (.invokespecial 74, 3)) (by decide +kernel : decode prog_1_method_25_code 66 = .ok (.athrow, 1)) rfl (by decide +kernel) (by decide +kernel)))
        (sd_lf (sd_aload (by decide +kernel : decode prog_1_method_25_code 67 = .ok (.aload 5, 2)))))))
     (sd_br
      (sd_br
       (sd_br
        (sd_lf (sd_iload_n (k := 3) (by decide +kernel : decode prog_1_method_25_code 69 = .ok (.iload_n 3, 1))))
        (sd_lf (sd_aload (by decide +kernel : decode prog_1_method_25_code 70 = .ok (.aload 4, 2)))))
       (sd_br
        (sd_lf (sd_aload (by decide +kernel : decode prog_1_method_25_code 72 = .ok (.aload 5, 2))))
        (sd_lf (sd_aload_n (k := 0) (by decide +kernel : decode prog_1_method_25_code 74 = .ok (.aload_n 0, 1))))))
      (sd_br
       (sd_br
        (sd_lf (sd_getf (q := (RX6, TX6, 7)) (by decide +kernel : decode prog_1_method_25_code 75 = .ok (.getfield 12, 3)) rfl (by decide +kernel) (gm 154 (by decide +kernel) rfl)))
        (sd_lf (sd_getf (q := (RX1, TX1, 6)) (by decide +kernel : decode prog_1_method_25_code 78 = .ok (.getfield 103, 3)) rfl (by decide +kernel) (gm 110 (by decide +kernel) rfl))))
       (sd_br
        (sd_lf (sd_pureV (sd_callV (q := (RX5, TX5, 11)) (by decide +kernel : decode prog_1_method_25_code 81 = .ok (.invokevirtual 248, 3)) ok_Tl_ticksLeft (gm 468 (by decide +kernel) rfl) (gm 469 (by decide +kernel) rfl) (gm 470 (by decide +kernel) rfl) rfl rfl (by decide +kernel) rfl rfl) c_Tl_ticksLeft))
        (sd_br
         (sd_lf (sd_callV (q := (RX0, TX0, 6)) (by decide +kernel : decode prog_1_method_25_code 84 = .ok (.invokevirtual 252, 3)) ok_Mp_property (gm 475 (by decide +kernel) rfl) (gm 476 (by decide +kernel) rfl) (gm 477 (by decide +kernel) rfl) rfl rfl (by decide +kernel) rfl rfl))
         (sd_lf (sd_iret (by decide +kernel : decode prog_1_method_25_code 87 = .ok (.ireturn, 1)) rfl))))))))
theorem cntB_nN {z : Nat → Int32} (inv : Inv0 z) : ∀ n, n ≤ mny z → cntB z nN n = cntH z n
  | 0, _ => rfl
  | n + 1, h => by
    have m10 := inv.1.at.2
    rw [cntB, cntH, cntB_nN inv n (by omega)]
    congr 1
    have b := bh_nN inv.net 10 _ ((Up.of inv.net (n := n) (by omega)).mono (by omega)) m10
    by_cases c : z (16 + 16 * n) = nI 0
    · rw [bI_t ⟨c, b⟩, bI_t c]
    · rw [bI_f (fun q => c q.1), bI_f c]
def TrU (z : Nat → Int32) (net : Int32) : Prop := net = nN ∨ ∃ j, j < mny z ∧ net = nI j ∧ z (16 + 16 * j) = nI 1
theorem TrU.of {z : Nat → Int32} (inv : Inv0 z) {n : Nat} (hn : n < mny z) : TrU z (netZ z n) := by
  rcases (inv.2.2.2 n hn).1.2 with q | ⟨j, j1, j2, j3⟩
  · exact Or.inl q
  · exact Or.inr ⟨j, by omega, j2, j3⟩
theorem bh_host {z : Nat → Int32} (inv : Inv0 z) {n : Nat} (hn : n < mny z) (hk : z (16 + 16 * n) = nI 0) : ∀ (f : Nat) (net : Int32), TrU z net → ¬ bhZ z (nI n) f net := by
  have m10 := inv.1.at.2
  intro f
  induction f with
  | zero =>
    intro net hu q
    rw [bhZ] at q
    rcases hu with e | ⟨j, j1, e, j3⟩
    · rw [e, nN_e1 (by omega)] at q; exact q
    · rw [e, nI_eq (by omega) (by omega)] at q
      subst q
      rw [hk] at j3
      exact absurd j3 (by decide)
  | succ f ih =>
    intro net hu q
    rw [bhZ] at q
    rcases hu with e | ⟨j, j1, e, j3⟩
    · rw [if_pos (Or.inl e), e, nN_e1 (by omega)] at q; exact q
    · have ne : ¬ (net = nN ∨ net = nI n) := by
        rw [e]
        rintro (w | w)
        · rw [nN_e2 (by omega)] at w; exact w
        · rw [nI_eq (by omega) (by omega)] at w
          subst w
          rw [hk] at j3
          exact absurd j3 (by decide)
      rw [if_neg ne, e, nI_clamp (by omega)] at q
      exact ih _ (TrU.of inv j1) q
theorem cntB_host {z : Nat → Int32} (inv : Inv0 z) {n : Nat} (hn : n < mny z) (hk : z (16 + 16 * n) = nI 0) : ∀ m, m ≤ mny z → cntB z (nI n) m = nI 0
  | 0, _ => rfl
  | m + 1, h => by
    rw [cntB, cntB_host inv hn hk m (by omega), bI_f (fun q => bh_host inv hn hk 10 _ (TrU.of inv (by omega)) q.2)]
    rfl
section
variable {l : Launch} {G : Gc}
theorem c_Nw_total (wn w : Nat) (sv : Int32) (z : Nat → Int32) (h : AH) (Q : Po) (k : NwR h wn z) (inv : Inv0 z) (hw : w < 11) (hQ : Q (.inl (some (.int (ctZ z sv w)))) h) : Call l G M_Nw_total [.ref wn, .int (nI w)] h Q := by
  obtain ⟨sn, ⟨w2, w3, w4, w5⟩, wl, nod⟩ := id k
  obtain ⟨⟨h1, a2, a3, a4⟩, a5, a6, ⟨b1, b2, b3, b4⟩, -⟩ := id sn
  have m10 := inv.1.at.2
  have l1 := wl 1 (by omega) (by omega)
  have l2 := wl 2 (by omega) (by omega)
  have l3 := wl 3 (by omega) (by omega)
  have l4 := wl 4 (by omega) (by omega)
  have l5 := wl 5 (by omega) (by omega)
  have e1 := inv.1.at.1
  refine call_of rfl rfl (Nat.le_of_ble_eq_true rfl) ?_
  have cs : w = 0 ∨ w = 1 ∨ w = 2 ∨ w = 3 ∨ w = 4 ∨ w = 5 ∨ w = 6 ∨ w = 7 ∨ w = 8 ∨ w = 9 ∨ w = 10 := by omega
  rcases cs with rfl | rfl | rfl | rfl | rfl | rfl | rfl | rfl | rfl | rfl | rfl
  · ((obtain ⟨W9, hW9, hgo9⟩ := wp_ex (T_Nw_total l G) [] _; refine hgo9 200 _ _ _ _ ?_; simp -implicitDefEqProofs (disch := omega) only [hW9, inl, gate, Xq, tz_const, tz_iload, tz_lload, tz_dload, tz_aload, tz_istore, tz_astore, tz_lstore, tz_dstore, tz_iinc, tz_i1, tz_i2, tz_i2z, tz_l2, tz_l2z, tz_i2l, tz_l2i, tz_lcmp, tz_i2d, tz_d2, tz_dcmp, tz_dup, tz_dup2, tz_pop, tz_if, tz_icmp, tz_null, tz_goto, tz_sw, tz_getf, tz_puti, tz_putz, tz_putr, tz_putl, tz_iaload, tz_baload, tz_laload, tz_aaload, tz_iastore, tz_bastore, tz_lastore, tz_aastore, tz_alen, tz_new, tz_newa, tz_oinit, tz_iret, tz_zret, tz_lret, tz_dret, tz_aret, tz_vret, tz_throw, tz_callS, tz_callV, tz_callI, tz_callR, tz_pureS, tz_pureV, tz_callVH, lg, lset, lkill, lst1, lst2, entL, isRf, is1, vl, va_rf_none, va_rf_some, isRf_rf, is1_rf, i0, i1, bI_eq0, bI_eq1, nm_em, nI_eqP, nI_leP, nI_ltP, nN_e1, nN_e2, nN_l1, nN_l2, nN_l3, nN_l4, nI_add, pk_mul, vp_inN, nI_cl, n01, n10, P_i, P_ii, P_iii, f_Mo_at, f_Mo_map, f_Mo_contact, f_Mo_within, f_Mo_isPort, f_Hp_endpoint, f_Hp_nodeOf, f_Hp_portOf, f_Ma_max, f_Ma_min, f_Hp_isSetting, popN, rok, a1, noX, swc, mL, if_true, if_false, ↓reduceIte, cond_true, cond_false, true_and, and_true, List.length_cons, List.length_nil, List.nil_append, List.cons_append, List.append_nil, Option.toList, Nat.reduceEqDiff, Bool.false_eq_true, reduceCtorEq, Nat.reduceAdd, Nat.reduceLT, Nat.reduceLeDiff, Nat.reduceSub, List.replicate, Nat.zero_add, Nat.lt_add_one, Nat.le_refl, Nat.zero_le, Nat.succ_ne_zero, not_false_eq_true, not_true_eq_false, false_implies, true_implies, forall_const, imp_self, true_or, or_true, eq_self, sI_zw, zw_zw, hI_zw, tg_zw, ln_zw, hR_zw, hL_zw, hN_zw, hM_zw, upd_s, upd_u, upd_ne, Classical.not_not, k_Nw_total, h1, w2]; try clear hgo9 hW9); try (obtain ⟨W9, hW9, hgo9⟩ := wp_ex (T_Nw_total l G) [] _; refine hgo9 200 _ _ _ _ ?_; simp -implicitDefEqProofs (disch := omega) only [hW9, inl, gate, Xq, tz_const, tz_iload, tz_lload, tz_dload, tz_aload, tz_istore, tz_astore, tz_lstore, tz_dstore, tz_iinc, tz_i1, tz_i2, tz_i2z, tz_l2, tz_l2z, tz_i2l, tz_l2i, tz_lcmp, tz_i2d, tz_d2, tz_dcmp, tz_dup, tz_dup2, tz_pop, tz_if, tz_icmp, tz_null, tz_goto, tz_sw, tz_getf, tz_puti, tz_putz, tz_putr, tz_putl, tz_iaload, tz_baload, tz_laload, tz_aaload, tz_iastore, tz_bastore, tz_lastore, tz_aastore, tz_alen, tz_new, tz_newa, tz_oinit, tz_iret, tz_zret, tz_lret, tz_dret, tz_aret, tz_vret, tz_throw, tz_callS, tz_callV, tz_callI, tz_callR, tz_pureS, tz_pureV, tz_callVH, lg, lset, lkill, lst1, lst2, entL, isRf, is1, vl, va_rf_none, va_rf_some, isRf_rf, is1_rf, i0, i1, bI_eq0, bI_eq1, nm_em, nI_eqP, nI_leP, nI_ltP, nN_e1, nN_e2, nN_l1, nN_l2, nN_l3, nN_l4, nI_add, pk_mul, vp_inN, nI_cl, n01, n10, P_i, P_ii, P_iii, f_Mo_at, f_Mo_map, f_Mo_contact, f_Mo_within, f_Mo_isPort, f_Hp_endpoint, f_Hp_nodeOf, f_Hp_portOf, f_Ma_max, f_Ma_min, f_Hp_isSetting, popN, rok, a1, noX, swc, mL, if_true, if_false, ↓reduceIte, cond_true, cond_false, true_and, and_true, List.length_cons, List.length_nil, List.nil_append, List.cons_append, List.append_nil, Option.toList, Nat.reduceEqDiff, Bool.false_eq_true, reduceCtorEq, Nat.reduceAdd, Nat.reduceLT, Nat.reduceLeDiff, Nat.reduceSub, List.replicate, Nat.zero_add, Nat.lt_add_one, Nat.le_refl, Nat.zero_le, Nat.succ_ne_zero, not_false_eq_true, not_true_eq_false, false_implies, true_implies, forall_const, imp_self, true_or, or_true, eq_self, sI_zw, zw_zw, hI_zw, tg_zw, ln_zw, hR_zw, hL_zw, hN_zw, hM_zw, upd_s, upd_u, upd_ne, Classical.not_not, k_Nw_total, h1, w2]; try clear hgo9 hW9))
    rw [← e1]
    exact hQ
  · ((obtain ⟨W9, hW9, hgo9⟩ := wp_ex (T_Nw_total l G) [] _; refine hgo9 200 _ _ _ _ ?_; simp -implicitDefEqProofs (disch := omega) only [hW9, inl, gate, Xq, tz_const, tz_iload, tz_lload, tz_dload, tz_aload, tz_istore, tz_astore, tz_lstore, tz_dstore, tz_iinc, tz_i1, tz_i2, tz_i2z, tz_l2, tz_l2z, tz_i2l, tz_l2i, tz_lcmp, tz_i2d, tz_d2, tz_dcmp, tz_dup, tz_dup2, tz_pop, tz_if, tz_icmp, tz_null, tz_goto, tz_sw, tz_getf, tz_puti, tz_putz, tz_putr, tz_putl, tz_iaload, tz_baload, tz_laload, tz_aaload, tz_iastore, tz_bastore, tz_lastore, tz_aastore, tz_alen, tz_new, tz_newa, tz_oinit, tz_iret, tz_zret, tz_lret, tz_dret, tz_aret, tz_vret, tz_throw, tz_callS, tz_callV, tz_callI, tz_callR, tz_pureS, tz_pureV, tz_callVH, lg, lset, lkill, lst1, lst2, entL, isRf, is1, vl, va_rf_none, va_rf_some, isRf_rf, is1_rf, i0, i1, bI_eq0, bI_eq1, nm_em, nI_eqP, nI_leP, nI_ltP, nN_e1, nN_e2, nN_l1, nN_l2, nN_l3, nN_l4, nI_add, pk_mul, vp_inN, nI_cl, n01, n10, P_i, P_ii, P_iii, f_Mo_at, f_Mo_map, f_Mo_contact, f_Mo_within, f_Mo_isPort, f_Hp_endpoint, f_Hp_nodeOf, f_Hp_portOf, f_Ma_max, f_Ma_min, f_Hp_isSetting, popN, rok, a1, noX, swc, mL, if_true, if_false, ↓reduceIte, cond_true, cond_false, true_and, and_true, List.length_cons, List.length_nil, List.nil_append, List.cons_append, List.append_nil, Option.toList, Nat.reduceEqDiff, Bool.false_eq_true, reduceCtorEq, Nat.reduceAdd, Nat.reduceLT, Nat.reduceLeDiff, Nat.reduceSub, List.replicate, Nat.zero_add, Nat.lt_add_one, Nat.le_refl, Nat.zero_le, Nat.succ_ne_zero, not_false_eq_true, not_true_eq_false, false_implies, true_implies, forall_const, imp_self, true_or, or_true, eq_self, sI_zw, zw_zw, hI_zw, tg_zw, ln_zw, hR_zw, hL_zw, hN_zw, hM_zw, upd_s, upd_u, upd_ne, Classical.not_not, k_Nw_total, h1]; try clear hgo9 hW9); try (obtain ⟨W9, hW9, hgo9⟩ := wp_ex (T_Nw_total l G) [] _; refine hgo9 200 _ _ _ _ ?_; simp -implicitDefEqProofs (disch := omega) only [hW9, inl, gate, Xq, tz_const, tz_iload, tz_lload, tz_dload, tz_aload, tz_istore, tz_astore, tz_lstore, tz_dstore, tz_iinc, tz_i1, tz_i2, tz_i2z, tz_l2, tz_l2z, tz_i2l, tz_l2i, tz_lcmp, tz_i2d, tz_d2, tz_dcmp, tz_dup, tz_dup2, tz_pop, tz_if, tz_icmp, tz_null, tz_goto, tz_sw, tz_getf, tz_puti, tz_putz, tz_putr, tz_putl, tz_iaload, tz_baload, tz_laload, tz_aaload, tz_iastore, tz_bastore, tz_lastore, tz_aastore, tz_alen, tz_new, tz_newa, tz_oinit, tz_iret, tz_zret, tz_lret, tz_dret, tz_aret, tz_vret, tz_throw, tz_callS, tz_callV, tz_callI, tz_callR, tz_pureS, tz_pureV, tz_callVH, lg, lset, lkill, lst1, lst2, entL, isRf, is1, vl, va_rf_none, va_rf_some, isRf_rf, is1_rf, i0, i1, bI_eq0, bI_eq1, nm_em, nI_eqP, nI_leP, nI_ltP, nN_e1, nN_e2, nN_l1, nN_l2, nN_l3, nN_l4, nI_add, pk_mul, vp_inN, nI_cl, n01, n10, P_i, P_ii, P_iii, f_Mo_at, f_Mo_map, f_Mo_contact, f_Mo_within, f_Mo_isPort, f_Hp_endpoint, f_Hp_nodeOf, f_Hp_portOf, f_Ma_max, f_Ma_min, f_Hp_isSetting, popN, rok, a1, noX, swc, mL, if_true, if_false, ↓reduceIte, cond_true, cond_false, true_and, and_true, List.length_cons, List.length_nil, List.nil_append, List.cons_append, List.append_nil, Option.toList, Nat.reduceEqDiff, Bool.false_eq_true, reduceCtorEq, Nat.reduceAdd, Nat.reduceLT, Nat.reduceLeDiff, Nat.reduceSub, List.replicate, Nat.zero_add, Nat.lt_add_one, Nat.le_refl, Nat.zero_le, Nat.succ_ne_zero, not_false_eq_true, not_true_eq_false, false_implies, true_implies, forall_const, imp_self, true_or, or_true, eq_self, sI_zw, zw_zw, hI_zw, tg_zw, ln_zw, hR_zw, hL_zw, hN_zw, hM_zw, upd_s, upd_u, upd_ne, Classical.not_not, k_Nw_total, h1]; try clear hgo9 hW9))
    refine c_Nw_hostsBehind wn nN z h _ k inv (Or.inl rfl) ?_
    simp only [aft]
    (obtain ⟨W9, hW9, hgo9⟩ := wp_ex (T_Nw_total l G) [] _; refine hgo9 200 _ _ _ _ ?_; simp -implicitDefEqProofs (disch := omega) only [hW9, inl, gate, Xq, tz_const, tz_iload, tz_lload, tz_dload, tz_aload, tz_istore, tz_astore, tz_lstore, tz_dstore, tz_iinc, tz_i1, tz_i2, tz_i2z, tz_l2, tz_l2z, tz_i2l, tz_l2i, tz_lcmp, tz_i2d, tz_d2, tz_dcmp, tz_dup, tz_dup2, tz_pop, tz_if, tz_icmp, tz_null, tz_goto, tz_sw, tz_getf, tz_puti, tz_putz, tz_putr, tz_putl, tz_iaload, tz_baload, tz_laload, tz_aaload, tz_iastore, tz_bastore, tz_lastore, tz_aastore, tz_alen, tz_new, tz_newa, tz_oinit, tz_iret, tz_zret, tz_lret, tz_dret, tz_aret, tz_vret, tz_throw, tz_callS, tz_callV, tz_callI, tz_callR, tz_pureS, tz_pureV, tz_callVH, lg, lset, lkill, lst1, lst2, entL, isRf, is1, vl, va_rf_none, va_rf_some, isRf_rf, is1_rf, i0, i1, bI_eq0, bI_eq1, nm_em, nI_eqP, nI_leP, nI_ltP, nN_e1, nN_e2, nN_l1, nN_l2, nN_l3, nN_l4, nI_add, pk_mul, vp_inN, nI_cl, n01, n10, P_i, P_ii, P_iii, f_Mo_at, f_Mo_map, f_Mo_contact, f_Mo_within, f_Mo_isPort, f_Hp_endpoint, f_Hp_nodeOf, f_Hp_portOf, f_Ma_max, f_Ma_min, f_Hp_isSetting, popN, rok, a1, noX, swc, mL, if_true, if_false, ↓reduceIte, cond_true, cond_false, true_and, and_true, List.length_cons, List.length_nil, List.nil_append, List.cons_append, List.append_nil, Option.toList, Nat.reduceEqDiff, Bool.false_eq_true, reduceCtorEq, Nat.reduceAdd, Nat.reduceLT, Nat.reduceLeDiff, Nat.reduceSub, List.replicate, Nat.zero_add, Nat.lt_add_one, Nat.le_refl, Nat.zero_le, Nat.succ_ne_zero, not_false_eq_true, not_true_eq_false, false_implies, true_implies, forall_const, imp_self, true_or, or_true, eq_self, sI_zw, zw_zw, hI_zw, tg_zw, ln_zw, hR_zw, hL_zw, hN_zw, hM_zw, upd_s, upd_u, upd_ne, Classical.not_not, k_Nw_total, h1]; try clear hgo9 hW9)
    rw [cntB_nN inv _ (Nat.le_refl _)]
    exact hQ
  · ((obtain ⟨W9, hW9, hgo9⟩ := wp_ex (T_Nw_total l G) [] _; refine hgo9 200 _ _ _ _ ?_; simp -implicitDefEqProofs (disch := omega) only [hW9, inl, gate, Xq, tz_const, tz_iload, tz_lload, tz_dload, tz_aload, tz_istore, tz_astore, tz_lstore, tz_dstore, tz_iinc, tz_i1, tz_i2, tz_i2z, tz_l2, tz_l2z, tz_i2l, tz_l2i, tz_lcmp, tz_i2d, tz_d2, tz_dcmp, tz_dup, tz_dup2, tz_pop, tz_if, tz_icmp, tz_null, tz_goto, tz_sw, tz_getf, tz_puti, tz_putz, tz_putr, tz_putl, tz_iaload, tz_baload, tz_laload, tz_aaload, tz_iastore, tz_bastore, tz_lastore, tz_aastore, tz_alen, tz_new, tz_newa, tz_oinit, tz_iret, tz_zret, tz_lret, tz_dret, tz_aret, tz_vret, tz_throw, tz_callS, tz_callV, tz_callI, tz_callR, tz_pureS, tz_pureV, tz_callVH, lg, lset, lkill, lst1, lst2, entL, isRf, is1, vl, va_rf_none, va_rf_some, isRf_rf, is1_rf, i0, i1, bI_eq0, bI_eq1, nm_em, nI_eqP, nI_leP, nI_ltP, nN_e1, nN_e2, nN_l1, nN_l2, nN_l3, nN_l4, nI_add, pk_mul, vp_inN, nI_cl, n01, n10, P_i, P_ii, P_iii, f_Mo_at, f_Mo_map, f_Mo_contact, f_Mo_within, f_Mo_isPort, f_Hp_endpoint, f_Hp_nodeOf, f_Hp_portOf, f_Ma_max, f_Ma_min, f_Hp_isSetting, popN, rok, a1, noX, swc, mL, if_true, if_false, ↓reduceIte, cond_true, cond_false, true_and, and_true, List.length_cons, List.length_nil, List.nil_append, List.cons_append, List.append_nil, Option.toList, Nat.reduceEqDiff, Bool.false_eq_true, reduceCtorEq, Nat.reduceAdd, Nat.reduceLT, Nat.reduceLeDiff, Nat.reduceSub, List.replicate, Nat.zero_add, Nat.lt_add_one, Nat.le_refl, Nat.zero_le, Nat.succ_ne_zero, not_false_eq_true, not_true_eq_false, false_implies, true_implies, forall_const, imp_self, true_or, or_true, eq_self, sI_zw, zw_zw, hI_zw, tg_zw, ln_zw, hR_zw, hL_zw, hN_zw, hM_zw, upd_s, upd_u, upd_ne, Classical.not_not, k_Nw_total, h1, w3]; try clear hgo9 hW9); try (obtain ⟨W9, hW9, hgo9⟩ := wp_ex (T_Nw_total l G) [] _; refine hgo9 200 _ _ _ _ ?_; simp -implicitDefEqProofs (disch := omega) only [hW9, inl, gate, Xq, tz_const, tz_iload, tz_lload, tz_dload, tz_aload, tz_istore, tz_astore, tz_lstore, tz_dstore, tz_iinc, tz_i1, tz_i2, tz_i2z, tz_l2, tz_l2z, tz_i2l, tz_l2i, tz_lcmp, tz_i2d, tz_d2, tz_dcmp, tz_dup, tz_dup2, tz_pop, tz_if, tz_icmp, tz_null, tz_goto, tz_sw, tz_getf, tz_puti, tz_putz, tz_putr, tz_putl, tz_iaload, tz_baload, tz_laload, tz_aaload, tz_iastore, tz_bastore, tz_lastore, tz_aastore, tz_alen, tz_new, tz_newa, tz_oinit, tz_iret, tz_zret, tz_lret, tz_dret, tz_aret, tz_vret, tz_throw, tz_callS, tz_callV, tz_callI, tz_callR, tz_pureS, tz_pureV, tz_callVH, lg, lset, lkill, lst1, lst2, entL, isRf, is1, vl, va_rf_none, va_rf_some, isRf_rf, is1_rf, i0, i1, bI_eq0, bI_eq1, nm_em, nI_eqP, nI_leP, nI_ltP, nN_e1, nN_e2, nN_l1, nN_l2, nN_l3, nN_l4, nI_add, pk_mul, vp_inN, nI_cl, n01, n10, P_i, P_ii, P_iii, f_Mo_at, f_Mo_map, f_Mo_contact, f_Mo_within, f_Mo_isPort, f_Hp_endpoint, f_Hp_nodeOf, f_Hp_portOf, f_Ma_max, f_Ma_min, f_Hp_isSetting, popN, rok, a1, noX, swc, mL, if_true, if_false, ↓reduceIte, cond_true, cond_false, true_and, and_true, List.length_cons, List.length_nil, List.nil_append, List.cons_append, List.append_nil, Option.toList, Nat.reduceEqDiff, Bool.false_eq_true, reduceCtorEq, Nat.reduceAdd, Nat.reduceLT, Nat.reduceLeDiff, Nat.reduceSub, List.replicate, Nat.zero_add, Nat.lt_add_one, Nat.le_refl, Nat.zero_le, Nat.succ_ne_zero, not_false_eq_true, not_true_eq_false, false_implies, true_implies, forall_const, imp_self, true_or, or_true, eq_self, sI_zw, zw_zw, hI_zw, tg_zw, ln_zw, hR_zw, hL_zw, hN_zw, hM_zw, upd_s, upd_u, upd_ne, Classical.not_not, k_Nw_total, h1, w3]; try clear hgo9 hW9))
    exact hQ
  · ((obtain ⟨W9, hW9, hgo9⟩ := wp_ex (T_Nw_total l G) [] _; refine hgo9 200 _ _ _ _ ?_; simp -implicitDefEqProofs (disch := omega) only [hW9, inl, gate, Xq, tz_const, tz_iload, tz_lload, tz_dload, tz_aload, tz_istore, tz_astore, tz_lstore, tz_dstore, tz_iinc, tz_i1, tz_i2, tz_i2z, tz_l2, tz_l2z, tz_i2l, tz_l2i, tz_lcmp, tz_i2d, tz_d2, tz_dcmp, tz_dup, tz_dup2, tz_pop, tz_if, tz_icmp, tz_null, tz_goto, tz_sw, tz_getf, tz_puti, tz_putz, tz_putr, tz_putl, tz_iaload, tz_baload, tz_laload, tz_aaload, tz_iastore, tz_bastore, tz_lastore, tz_aastore, tz_alen, tz_new, tz_newa, tz_oinit, tz_iret, tz_zret, tz_lret, tz_dret, tz_aret, tz_vret, tz_throw, tz_callS, tz_callV, tz_callI, tz_callR, tz_pureS, tz_pureV, tz_callVH, lg, lset, lkill, lst1, lst2, entL, isRf, is1, vl, va_rf_none, va_rf_some, isRf_rf, is1_rf, i0, i1, bI_eq0, bI_eq1, nm_em, nI_eqP, nI_leP, nI_ltP, nN_e1, nN_e2, nN_l1, nN_l2, nN_l3, nN_l4, nI_add, pk_mul, vp_inN, nI_cl, n01, n10, P_i, P_ii, P_iii, f_Mo_at, f_Mo_map, f_Mo_contact, f_Mo_within, f_Mo_isPort, f_Hp_endpoint, f_Hp_nodeOf, f_Hp_portOf, f_Ma_max, f_Ma_min, f_Hp_isSetting, popN, rok, a1, noX, swc, mL, if_true, if_false, ↓reduceIte, cond_true, cond_false, true_and, and_true, List.length_cons, List.length_nil, List.nil_append, List.cons_append, List.append_nil, Option.toList, Nat.reduceEqDiff, Bool.false_eq_true, reduceCtorEq, Nat.reduceAdd, Nat.reduceLT, Nat.reduceLeDiff, Nat.reduceSub, List.replicate, Nat.zero_add, Nat.lt_add_one, Nat.le_refl, Nat.zero_le, Nat.succ_ne_zero, not_false_eq_true, not_true_eq_false, false_implies, true_implies, forall_const, imp_self, true_or, or_true, eq_self, sI_zw, zw_zw, hI_zw, tg_zw, ln_zw, hR_zw, hL_zw, hN_zw, hM_zw, upd_s, upd_u, upd_ne, Classical.not_not, k_Nw_total, h1]; try clear hgo9 hW9); try (obtain ⟨W9, hW9, hgo9⟩ := wp_ex (T_Nw_total l G) [] _; refine hgo9 200 _ _ _ _ ?_; simp -implicitDefEqProofs (disch := omega) only [hW9, inl, gate, Xq, tz_const, tz_iload, tz_lload, tz_dload, tz_aload, tz_istore, tz_astore, tz_lstore, tz_dstore, tz_iinc, tz_i1, tz_i2, tz_i2z, tz_l2, tz_l2z, tz_i2l, tz_l2i, tz_lcmp, tz_i2d, tz_d2, tz_dcmp, tz_dup, tz_dup2, tz_pop, tz_if, tz_icmp, tz_null, tz_goto, tz_sw, tz_getf, tz_puti, tz_putz, tz_putr, tz_putl, tz_iaload, tz_baload, tz_laload, tz_aaload, tz_iastore, tz_bastore, tz_lastore, tz_aastore, tz_alen, tz_new, tz_newa, tz_oinit, tz_iret, tz_zret, tz_lret, tz_dret, tz_aret, tz_vret, tz_throw, tz_callS, tz_callV, tz_callI, tz_callR, tz_pureS, tz_pureV, tz_callVH, lg, lset, lkill, lst1, lst2, entL, isRf, is1, vl, va_rf_none, va_rf_some, isRf_rf, is1_rf, i0, i1, bI_eq0, bI_eq1, nm_em, nI_eqP, nI_leP, nI_ltP, nN_e1, nN_e2, nN_l1, nN_l2, nN_l3, nN_l4, nI_add, pk_mul, vp_inN, nI_cl, n01, n10, P_i, P_ii, P_iii, f_Mo_at, f_Mo_map, f_Mo_contact, f_Mo_within, f_Mo_isPort, f_Hp_endpoint, f_Hp_nodeOf, f_Hp_portOf, f_Ma_max, f_Ma_min, f_Hp_isSetting, popN, rok, a1, noX, swc, mL, if_true, if_false, ↓reduceIte, cond_true, cond_false, true_and, and_true, List.length_cons, List.length_nil, List.nil_append, List.cons_append, List.append_nil, Option.toList, Nat.reduceEqDiff, Bool.false_eq_true, reduceCtorEq, Nat.reduceAdd, Nat.reduceLT, Nat.reduceLeDiff, Nat.reduceSub, List.replicate, Nat.zero_add, Nat.lt_add_one, Nat.le_refl, Nat.zero_le, Nat.succ_ne_zero, not_false_eq_true, not_true_eq_false, false_implies, true_implies, forall_const, imp_self, true_or, or_true, eq_self, sI_zw, zw_zw, hI_zw, tg_zw, ln_zw, hR_zw, hL_zw, hN_zw, hM_zw, upd_s, upd_u, upd_ne, Classical.not_not, k_Nw_total, h1]; try clear hgo9 hW9))
    refine c_Nw_mappingTotal wn z h _ k inv ?_
    simp only [aft]
    (obtain ⟨W9, hW9, hgo9⟩ := wp_ex (T_Nw_total l G) [] _; refine hgo9 200 _ _ _ _ ?_; simp -implicitDefEqProofs (disch := omega) only [hW9, inl, gate, Xq, tz_const, tz_iload, tz_lload, tz_dload, tz_aload, tz_istore, tz_astore, tz_lstore, tz_dstore, tz_iinc, tz_i1, tz_i2, tz_i2z, tz_l2, tz_l2z, tz_i2l, tz_l2i, tz_lcmp, tz_i2d, tz_d2, tz_dcmp, tz_dup, tz_dup2, tz_pop, tz_if, tz_icmp, tz_null, tz_goto, tz_sw, tz_getf, tz_puti, tz_putz, tz_putr, tz_putl, tz_iaload, tz_baload, tz_laload, tz_aaload, tz_iastore, tz_bastore, tz_lastore, tz_aastore, tz_alen, tz_new, tz_newa, tz_oinit, tz_iret, tz_zret, tz_lret, tz_dret, tz_aret, tz_vret, tz_throw, tz_callS, tz_callV, tz_callI, tz_callR, tz_pureS, tz_pureV, tz_callVH, lg, lset, lkill, lst1, lst2, entL, isRf, is1, vl, va_rf_none, va_rf_some, isRf_rf, is1_rf, i0, i1, bI_eq0, bI_eq1, nm_em, nI_eqP, nI_leP, nI_ltP, nN_e1, nN_e2, nN_l1, nN_l2, nN_l3, nN_l4, nI_add, pk_mul, vp_inN, nI_cl, n01, n10, P_i, P_ii, P_iii, f_Mo_at, f_Mo_map, f_Mo_contact, f_Mo_within, f_Mo_isPort, f_Hp_endpoint, f_Hp_nodeOf, f_Hp_portOf, f_Ma_max, f_Ma_min, f_Hp_isSetting, popN, rok, a1, noX, swc, mL, if_true, if_false, ↓reduceIte, cond_true, cond_false, true_and, and_true, List.length_cons, List.length_nil, List.nil_append, List.cons_append, List.append_nil, Option.toList, Nat.reduceEqDiff, Bool.false_eq_true, reduceCtorEq, Nat.reduceAdd, Nat.reduceLT, Nat.reduceLeDiff, Nat.reduceSub, List.replicate, Nat.zero_add, Nat.lt_add_one, Nat.le_refl, Nat.zero_le, Nat.succ_ne_zero, not_false_eq_true, not_true_eq_false, false_implies, true_implies, forall_const, imp_self, true_or, or_true, eq_self, sI_zw, zw_zw, hI_zw, tg_zw, ln_zw, hR_zw, hL_zw, hN_zw, hM_zw, upd_s, upd_u, upd_ne, Classical.not_not, k_Nw_total, h1]; try clear hgo9 hW9)
    exact hQ
  · ((obtain ⟨W9, hW9, hgo9⟩ := wp_ex (T_Nw_total l G) [] _; refine hgo9 200 _ _ _ _ ?_; simp -implicitDefEqProofs (disch := omega) only [hW9, inl, gate, Xq, tz_const, tz_iload, tz_lload, tz_dload, tz_aload, tz_istore, tz_astore, tz_lstore, tz_dstore, tz_iinc, tz_i1, tz_i2, tz_i2z, tz_l2, tz_l2z, tz_i2l, tz_l2i, tz_lcmp, tz_i2d, tz_d2, tz_dcmp, tz_dup, tz_dup2, tz_pop, tz_if, tz_icmp, tz_null, tz_goto, tz_sw, tz_getf, tz_puti, tz_putz, tz_putr, tz_putl, tz_iaload, tz_baload, tz_laload, tz_aaload, tz_iastore, tz_bastore, tz_lastore, tz_aastore, tz_alen, tz_new, tz_newa, tz_oinit, tz_iret, tz_zret, tz_lret, tz_dret, tz_aret, tz_vret, tz_throw, tz_callS, tz_callV, tz_callI, tz_callR, tz_pureS, tz_pureV, tz_callVH, lg, lset, lkill, lst1, lst2, entL, isRf, is1, vl, va_rf_none, va_rf_some, isRf_rf, is1_rf, i0, i1, bI_eq0, bI_eq1, nm_em, nI_eqP, nI_leP, nI_ltP, nN_e1, nN_e2, nN_l1, nN_l2, nN_l3, nN_l4, nI_add, pk_mul, vp_inN, nI_cl, n01, n10, P_i, P_ii, P_iii, f_Mo_at, f_Mo_map, f_Mo_contact, f_Mo_within, f_Mo_isPort, f_Hp_endpoint, f_Hp_nodeOf, f_Hp_portOf, f_Ma_max, f_Ma_min, f_Hp_isSetting, popN, rok, a1, noX, swc, mL, if_true, if_false, ↓reduceIte, cond_true, cond_false, true_and, and_true, List.length_cons, List.length_nil, List.nil_append, List.cons_append, List.append_nil, Option.toList, Nat.reduceEqDiff, Bool.false_eq_true, reduceCtorEq, Nat.reduceAdd, Nat.reduceLT, Nat.reduceLeDiff, Nat.reduceSub, List.replicate, Nat.zero_add, Nat.lt_add_one, Nat.le_refl, Nat.zero_le, Nat.succ_ne_zero, not_false_eq_true, not_true_eq_false, false_implies, true_implies, forall_const, imp_self, true_or, or_true, eq_self, sI_zw, zw_zw, hI_zw, tg_zw, ln_zw, hR_zw, hL_zw, hN_zw, hM_zw, upd_s, upd_u, upd_ne, Classical.not_not, k_Nw_total, h1, w4]; try clear hgo9 hW9); try (obtain ⟨W9, hW9, hgo9⟩ := wp_ex (T_Nw_total l G) [] _; refine hgo9 200 _ _ _ _ ?_; simp -implicitDefEqProofs (disch := omega) only [hW9, inl, gate, Xq, tz_const, tz_iload, tz_lload, tz_dload, tz_aload, tz_istore, tz_astore, tz_lstore, tz_dstore, tz_iinc, tz_i1, tz_i2, tz_i2z, tz_l2, tz_l2z, tz_i2l, tz_l2i, tz_lcmp, tz_i2d, tz_d2, tz_dcmp, tz_dup, tz_dup2, tz_pop, tz_if, tz_icmp, tz_null, tz_goto, tz_sw, tz_getf, tz_puti, tz_putz, tz_putr, tz_putl, tz_iaload, tz_baload, tz_laload, tz_aaload, tz_iastore, tz_bastore, tz_lastore, tz_aastore, tz_alen, tz_new, tz_newa, tz_oinit, tz_iret, tz_zret, tz_lret, tz_dret, tz_aret, tz_vret, tz_throw, tz_callS, tz_callV, tz_callI, tz_callR, tz_pureS, tz_pureV, tz_callVH, lg, lset, lkill, lst1, lst2, entL, isRf, is1, vl, va_rf_none, va_rf_some, isRf_rf, is1_rf, i0, i1, bI_eq0, bI_eq1, nm_em, nI_eqP, nI_leP, nI_ltP, nN_e1, nN_e2, nN_l1, nN_l2, nN_l3, nN_l4, nI_add, pk_mul, vp_inN, nI_cl, n01, n10, P_i, P_ii, P_iii, f_Mo_at, f_Mo_map, f_Mo_contact, f_Mo_within, f_Mo_isPort, f_Hp_endpoint, f_Hp_nodeOf, f_Hp_portOf, f_Ma_max, f_Ma_min, f_Hp_isSetting, popN, rok, a1, noX, swc, mL, if_true, if_false, ↓reduceIte, cond_true, cond_false, true_and, and_true, List.length_cons, List.length_nil, List.nil_append, List.cons_append, List.append_nil, Option.toList, Nat.reduceEqDiff, Bool.false_eq_true, reduceCtorEq, Nat.reduceAdd, Nat.reduceLT, Nat.reduceLeDiff, Nat.reduceSub, List.replicate, Nat.zero_add, Nat.lt_add_one, Nat.le_refl, Nat.zero_le, Nat.succ_ne_zero, not_false_eq_true, not_true_eq_false, false_implies, true_implies, forall_const, imp_self, true_or, or_true, eq_self, sI_zw, zw_zw, hI_zw, tg_zw, ln_zw, hR_zw, hL_zw, hN_zw, hM_zw, upd_s, upd_u, upd_ne, Classical.not_not, k_Nw_total, h1, w4]; try clear hgo9 hW9))
    exact hQ
  · ((obtain ⟨W9, hW9, hgo9⟩ := wp_ex (T_Nw_total l G) [] _; refine hgo9 200 _ _ _ _ ?_; simp -implicitDefEqProofs (disch := omega) only [hW9, inl, gate, Xq, tz_const, tz_iload, tz_lload, tz_dload, tz_aload, tz_istore, tz_astore, tz_lstore, tz_dstore, tz_iinc, tz_i1, tz_i2, tz_i2z, tz_l2, tz_l2z, tz_i2l, tz_l2i, tz_lcmp, tz_i2d, tz_d2, tz_dcmp, tz_dup, tz_dup2, tz_pop, tz_if, tz_icmp, tz_null, tz_goto, tz_sw, tz_getf, tz_puti, tz_putz, tz_putr, tz_putl, tz_iaload, tz_baload, tz_laload, tz_aaload, tz_iastore, tz_bastore, tz_lastore, tz_aastore, tz_alen, tz_new, tz_newa, tz_oinit, tz_iret, tz_zret, tz_lret, tz_dret, tz_aret, tz_vret, tz_throw, tz_callS, tz_callV, tz_callI, tz_callR, tz_pureS, tz_pureV, tz_callVH, lg, lset, lkill, lst1, lst2, entL, isRf, is1, vl, va_rf_none, va_rf_some, isRf_rf, is1_rf, i0, i1, bI_eq0, bI_eq1, nm_em, nI_eqP, nI_leP, nI_ltP, nN_e1, nN_e2, nN_l1, nN_l2, nN_l3, nN_l4, nI_add, pk_mul, vp_inN, nI_cl, n01, n10, P_i, P_ii, P_iii, f_Mo_at, f_Mo_map, f_Mo_contact, f_Mo_within, f_Mo_isPort, f_Hp_endpoint, f_Hp_nodeOf, f_Hp_portOf, f_Ma_max, f_Ma_min, f_Hp_isSetting, popN, rok, a1, noX, swc, mL, if_true, if_false, ↓reduceIte, cond_true, cond_false, true_and, and_true, List.length_cons, List.length_nil, List.nil_append, List.cons_append, List.append_nil, Option.toList, Nat.reduceEqDiff, Bool.false_eq_true, reduceCtorEq, Nat.reduceAdd, Nat.reduceLT, Nat.reduceLeDiff, Nat.reduceSub, List.replicate, Nat.zero_add, Nat.lt_add_one, Nat.le_refl, Nat.zero_le, Nat.succ_ne_zero, not_false_eq_true, not_true_eq_false, false_implies, true_implies, forall_const, imp_self, true_or, or_true, eq_self, sI_zw, zw_zw, hI_zw, tg_zw, ln_zw, hR_zw, hL_zw, hN_zw, hM_zw, upd_s, upd_u, upd_ne, Classical.not_not, k_Nw_total, h1, w5]; try clear hgo9 hW9); try (obtain ⟨W9, hW9, hgo9⟩ := wp_ex (T_Nw_total l G) [] _; refine hgo9 200 _ _ _ _ ?_; simp -implicitDefEqProofs (disch := omega) only [hW9, inl, gate, Xq, tz_const, tz_iload, tz_lload, tz_dload, tz_aload, tz_istore, tz_astore, tz_lstore, tz_dstore, tz_iinc, tz_i1, tz_i2, tz_i2z, tz_l2, tz_l2z, tz_i2l, tz_l2i, tz_lcmp, tz_i2d, tz_d2, tz_dcmp, tz_dup, tz_dup2, tz_pop, tz_if, tz_icmp, tz_null, tz_goto, tz_sw, tz_getf, tz_puti, tz_putz, tz_putr, tz_putl, tz_iaload, tz_baload, tz_laload, tz_aaload, tz_iastore, tz_bastore, tz_lastore, tz_aastore, tz_alen, tz_new, tz_newa, tz_oinit, tz_iret, tz_zret, tz_lret, tz_dret, tz_aret, tz_vret, tz_throw, tz_callS, tz_callV, tz_callI, tz_callR, tz_pureS, tz_pureV, tz_callVH, lg, lset, lkill, lst1, lst2, entL, isRf, is1, vl, va_rf_none, va_rf_some, isRf_rf, is1_rf, i0, i1, bI_eq0, bI_eq1, nm_em, nI_eqP, nI_leP, nI_ltP, nN_e1, nN_e2, nN_l1, nN_l2, nN_l3, nN_l4, nI_add, pk_mul, vp_inN, nI_cl, n01, n10, P_i, P_ii, P_iii, f_Mo_at, f_Mo_map, f_Mo_contact, f_Mo_within, f_Mo_isPort, f_Hp_endpoint, f_Hp_nodeOf, f_Hp_portOf, f_Ma_max, f_Ma_min, f_Hp_isSetting, popN, rok, a1, noX, swc, mL, if_true, if_false, ↓reduceIte, cond_true, cond_false, true_and, and_true, List.length_cons, List.length_nil, List.nil_append, List.cons_append, List.append_nil, Option.toList, Nat.reduceEqDiff, Bool.false_eq_true, reduceCtorEq, Nat.reduceAdd, Nat.reduceLT, Nat.reduceLeDiff, Nat.reduceSub, List.replicate, Nat.zero_add, Nat.lt_add_one, Nat.le_refl, Nat.zero_le, Nat.succ_ne_zero, not_false_eq_true, not_true_eq_false, false_implies, true_implies, forall_const, imp_self, true_or, or_true, eq_self, sI_zw, zw_zw, hI_zw, tg_zw, ln_zw, hR_zw, hL_zw, hN_zw, hM_zw, upd_s, upd_u, upd_ne, Classical.not_not, k_Nw_total, h1, w5]; try clear hgo9 hW9))
    exact hQ
  · ((obtain ⟨W9, hW9, hgo9⟩ := wp_ex (T_Nw_total l G) [] _; refine hgo9 200 _ _ _ _ ?_; simp -implicitDefEqProofs (disch := omega) only [hW9, inl, gate, Xq, tz_const, tz_iload, tz_lload, tz_dload, tz_aload, tz_istore, tz_astore, tz_lstore, tz_dstore, tz_iinc, tz_i1, tz_i2, tz_i2z, tz_l2, tz_l2z, tz_i2l, tz_l2i, tz_lcmp, tz_i2d, tz_d2, tz_dcmp, tz_dup, tz_dup2, tz_pop, tz_if, tz_icmp, tz_null, tz_goto, tz_sw, tz_getf, tz_puti, tz_putz, tz_putr, tz_putl, tz_iaload, tz_baload, tz_laload, tz_aaload, tz_iastore, tz_bastore, tz_lastore, tz_aastore, tz_alen, tz_new, tz_newa, tz_oinit, tz_iret, tz_zret, tz_lret, tz_dret, tz_aret, tz_vret, tz_throw, tz_callS, tz_callV, tz_callI, tz_callR, tz_pureS, tz_pureV, tz_callVH, lg, lset, lkill, lst1, lst2, entL, isRf, is1, vl, va_rf_none, va_rf_some, isRf_rf, is1_rf, i0, i1, bI_eq0, bI_eq1, nm_em, nI_eqP, nI_leP, nI_ltP, nN_e1, nN_e2, nN_l1, nN_l2, nN_l3, nN_l4, nI_add, pk_mul, vp_inN, nI_cl, n01, n10, P_i, P_ii, P_iii, f_Mo_at, f_Mo_map, f_Mo_contact, f_Mo_within, f_Mo_isPort, f_Hp_endpoint, f_Hp_nodeOf, f_Hp_portOf, f_Ma_max, f_Ma_min, f_Hp_isSetting, popN, rok, a1, noX, swc, mL, if_true, if_false, ↓reduceIte, cond_true, cond_false, true_and, and_true, List.length_cons, List.length_nil, List.nil_append, List.cons_append, List.append_nil, Option.toList, Nat.reduceEqDiff, Bool.false_eq_true, reduceCtorEq, Nat.reduceAdd, Nat.reduceLT, Nat.reduceLeDiff, Nat.reduceSub, List.replicate, Nat.zero_add, Nat.lt_add_one, Nat.le_refl, Nat.zero_le, Nat.succ_ne_zero, not_false_eq_true, not_true_eq_false, false_implies, true_implies, forall_const, imp_self, true_or, or_true, eq_self, sI_zw, zw_zw, hI_zw, tg_zw, ln_zw, hR_zw, hL_zw, hN_zw, hM_zw, upd_s, upd_u, upd_ne, Classical.not_not, k_Nw_total, h1, b1, b2, b3, l1]; try clear hgo9 hW9); try (obtain ⟨W9, hW9, hgo9⟩ := wp_ex (T_Nw_total l G) [] _; refine hgo9 200 _ _ _ _ ?_; simp -implicitDefEqProofs (disch := omega) only [hW9, inl, gate, Xq, tz_const, tz_iload, tz_lload, tz_dload, tz_aload, tz_istore, tz_astore, tz_lstore, tz_dstore, tz_iinc, tz_i1, tz_i2, tz_i2z, tz_l2, tz_l2z, tz_i2l, tz_l2i, tz_lcmp, tz_i2d, tz_d2, tz_dcmp, tz_dup, tz_dup2, tz_pop, tz_if, tz_icmp, tz_null, tz_goto, tz_sw, tz_getf, tz_puti, tz_putz, tz_putr, tz_putl, tz_iaload, tz_baload, tz_laload, tz_aaload, tz_iastore, tz_bastore, tz_lastore, tz_aastore, tz_alen, tz_new, tz_newa, tz_oinit, tz_iret, tz_zret, tz_lret, tz_dret, tz_aret, tz_vret, tz_throw, tz_callS, tz_callV, tz_callI, tz_callR, tz_pureS, tz_pureV, tz_callVH, lg, lset, lkill, lst1, lst2, entL, isRf, is1, vl, va_rf_none, va_rf_some, isRf_rf, is1_rf, i0, i1, bI_eq0, bI_eq1, nm_em, nI_eqP, nI_leP, nI_ltP, nN_e1, nN_e2, nN_l1, nN_l2, nN_l3, nN_l4, nI_add, pk_mul, vp_inN, nI_cl, n01, n10, P_i, P_ii, P_iii, f_Mo_at, f_Mo_map, f_Mo_contact, f_Mo_within, f_Mo_isPort, f_Hp_endpoint, f_Hp_nodeOf, f_Hp_portOf, f_Ma_max, f_Ma_min, f_Hp_isSetting, popN, rok, a1, noX, swc, mL, if_true, if_false, ↓reduceIte, cond_true, cond_false, true_and, and_true, List.length_cons, List.length_nil, List.nil_append, List.cons_append, List.append_nil, Option.toList, Nat.reduceEqDiff, Bool.false_eq_true, reduceCtorEq, Nat.reduceAdd, Nat.reduceLT, Nat.reduceLeDiff, Nat.reduceSub, List.replicate, Nat.zero_add, Nat.lt_add_one, Nat.le_refl, Nat.zero_le, Nat.succ_ne_zero, not_false_eq_true, not_true_eq_false, false_implies, true_implies, forall_const, imp_self, true_or, or_true, eq_self, sI_zw, zw_zw, hI_zw, tg_zw, ln_zw, hR_zw, hL_zw, hN_zw, hM_zw, upd_s, upd_u, upd_ne, Classical.not_not, k_Nw_total, h1, b1, b2, b3, l1]; try clear hgo9 hW9))
    exact hQ
  · ((obtain ⟨W9, hW9, hgo9⟩ := wp_ex (T_Nw_total l G) [] _; refine hgo9 200 _ _ _ _ ?_; simp -implicitDefEqProofs (disch := omega) only [hW9, inl, gate, Xq, tz_const, tz_iload, tz_lload, tz_dload, tz_aload, tz_istore, tz_astore, tz_lstore, tz_dstore, tz_iinc, tz_i1, tz_i2, tz_i2z, tz_l2, tz_l2z, tz_i2l, tz_l2i, tz_lcmp, tz_i2d, tz_d2, tz_dcmp, tz_dup, tz_dup2, tz_pop, tz_if, tz_icmp, tz_null, tz_goto, tz_sw, tz_getf, tz_puti, tz_putz, tz_putr, tz_putl, tz_iaload, tz_baload, tz_laload, tz_aaload, tz_iastore, tz_bastore, tz_lastore, tz_aastore, tz_alen, tz_new, tz_newa, tz_oinit, tz_iret, tz_zret, tz_lret, tz_dret, tz_aret, tz_vret, tz_throw, tz_callS, tz_callV, tz_callI, tz_callR, tz_pureS, tz_pureV, tz_callVH, lg, lset, lkill, lst1, lst2, entL, isRf, is1, vl, va_rf_none, va_rf_some, isRf_rf, is1_rf, i0, i1, bI_eq0, bI_eq1, nm_em, nI_eqP, nI_leP, nI_ltP, nN_e1, nN_e2, nN_l1, nN_l2, nN_l3, nN_l4, nI_add, pk_mul, vp_inN, nI_cl, n01, n10, P_i, P_ii, P_iii, f_Mo_at, f_Mo_map, f_Mo_contact, f_Mo_within, f_Mo_isPort, f_Hp_endpoint, f_Hp_nodeOf, f_Hp_portOf, f_Ma_max, f_Ma_min, f_Hp_isSetting, popN, rok, a1, noX, swc, mL, if_true, if_false, ↓reduceIte, cond_true, cond_false, true_and, and_true, List.length_cons, List.length_nil, List.nil_append, List.cons_append, List.append_nil, Option.toList, Nat.reduceEqDiff, Bool.false_eq_true, reduceCtorEq, Nat.reduceAdd, Nat.reduceLT, Nat.reduceLeDiff, Nat.reduceSub, List.replicate, Nat.zero_add, Nat.lt_add_one, Nat.le_refl, Nat.zero_le, Nat.succ_ne_zero, not_false_eq_true, not_true_eq_false, false_implies, true_implies, forall_const, imp_self, true_or, or_true, eq_self, sI_zw, zw_zw, hI_zw, tg_zw, ln_zw, hR_zw, hL_zw, hN_zw, hM_zw, upd_s, upd_u, upd_ne, Classical.not_not, k_Nw_total, h1, b1, b2, b3, l2]; try clear hgo9 hW9); try (obtain ⟨W9, hW9, hgo9⟩ := wp_ex (T_Nw_total l G) [] _; refine hgo9 200 _ _ _ _ ?_; simp -implicitDefEqProofs (disch := omega) only [hW9, inl, gate, Xq, tz_const, tz_iload, tz_lload, tz_dload, tz_aload, tz_istore, tz_astore, tz_lstore, tz_dstore, tz_iinc, tz_i1, tz_i2, tz_i2z, tz_l2, tz_l2z, tz_i2l, tz_l2i, tz_lcmp, tz_i2d, tz_d2, tz_dcmp, tz_dup, tz_dup2, tz_pop, tz_if, tz_icmp, tz_null, tz_goto, tz_sw, tz_getf, tz_puti, tz_putz, tz_putr, tz_putl, tz_iaload, tz_baload, tz_laload, tz_aaload, tz_iastore, tz_bastore, tz_lastore, tz_aastore, tz_alen, tz_new, tz_newa, tz_oinit, tz_iret, tz_zret, tz_lret, tz_dret, tz_aret, tz_vret, tz_throw, tz_callS, tz_callV, tz_callI, tz_callR, tz_pureS, tz_pureV, tz_callVH, lg, lset, lkill, lst1, lst2, entL, isRf, is1, vl, va_rf_none, va_rf_some, isRf_rf, is1_rf, i0, i1, bI_eq0, bI_eq1, nm_em, nI_eqP, nI_leP, nI_ltP, nN_e1, nN_e2, nN_l1, nN_l2, nN_l3, nN_l4, nI_add, pk_mul, vp_inN, nI_cl, n01, n10, P_i, P_ii, P_iii, f_Mo_at, f_Mo_map, f_Mo_contact, f_Mo_within, f_Mo_isPort, f_Hp_endpoint, f_Hp_nodeOf, f_Hp_portOf, f_Ma_max, f_Ma_min, f_Hp_isSetting, popN, rok, a1, noX, swc, mL, if_true, if_false, ↓reduceIte, cond_true, cond_false, true_and, and_true, List.length_cons, List.length_nil, List.nil_append, List.cons_append, List.append_nil, Option.toList, Nat.reduceEqDiff, Bool.false_eq_true, reduceCtorEq, Nat.reduceAdd, Nat.reduceLT, Nat.reduceLeDiff, Nat.reduceSub, List.replicate, Nat.zero_add, Nat.lt_add_one, Nat.le_refl, Nat.zero_le, Nat.succ_ne_zero, not_false_eq_true, not_true_eq_false, false_implies, true_implies, forall_const, imp_self, true_or, or_true, eq_self, sI_zw, zw_zw, hI_zw, tg_zw, ln_zw, hR_zw, hL_zw, hN_zw, hM_zw, upd_s, upd_u, upd_ne, Classical.not_not, k_Nw_total, h1, b1, b2, b3, l2]; try clear hgo9 hW9))
    exact hQ
  · ((obtain ⟨W9, hW9, hgo9⟩ := wp_ex (T_Nw_total l G) [] _; refine hgo9 200 _ _ _ _ ?_; simp -implicitDefEqProofs (disch := omega) only [hW9, inl, gate, Xq, tz_const, tz_iload, tz_lload, tz_dload, tz_aload, tz_istore, tz_astore, tz_lstore, tz_dstore, tz_iinc, tz_i1, tz_i2, tz_i2z, tz_l2, tz_l2z, tz_i2l, tz_l2i, tz_lcmp, tz_i2d, tz_d2, tz_dcmp, tz_dup, tz_dup2, tz_pop, tz_if, tz_icmp, tz_null, tz_goto, tz_sw, tz_getf, tz_puti, tz_putz, tz_putr, tz_putl, tz_iaload, tz_baload, tz_laload, tz_aaload, tz_iastore, tz_bastore, tz_lastore, tz_aastore, tz_alen, tz_new, tz_newa, tz_oinit, tz_iret, tz_zret, tz_lret, tz_dret, tz_aret, tz_vret, tz_throw, tz_callS, tz_callV, tz_callI, tz_callR, tz_pureS, tz_pureV, tz_callVH, lg, lset, lkill, lst1, lst2, entL, isRf, is1, vl, va_rf_none, va_rf_some, isRf_rf, is1_rf, i0, i1, bI_eq0, bI_eq1, nm_em, nI_eqP, nI_leP, nI_ltP, nN_e1, nN_e2, nN_l1, nN_l2, nN_l3, nN_l4, nI_add, pk_mul, vp_inN, nI_cl, n01, n10, P_i, P_ii, P_iii, f_Mo_at, f_Mo_map, f_Mo_contact, f_Mo_within, f_Mo_isPort, f_Hp_endpoint, f_Hp_nodeOf, f_Hp_portOf, f_Ma_max, f_Ma_min, f_Hp_isSetting, popN, rok, a1, noX, swc, mL, if_true, if_false, ↓reduceIte, cond_true, cond_false, true_and, and_true, List.length_cons, List.length_nil, List.nil_append, List.cons_append, List.append_nil, Option.toList, Nat.reduceEqDiff, Bool.false_eq_true, reduceCtorEq, Nat.reduceAdd, Nat.reduceLT, Nat.reduceLeDiff, Nat.reduceSub, List.replicate, Nat.zero_add, Nat.lt_add_one, Nat.le_refl, Nat.zero_le, Nat.succ_ne_zero, not_false_eq_true, not_true_eq_false, false_implies, true_implies, forall_const, imp_self, true_or, or_true, eq_self, sI_zw, zw_zw, hI_zw, tg_zw, ln_zw, hR_zw, hL_zw, hN_zw, hM_zw, upd_s, upd_u, upd_ne, Classical.not_not, k_Nw_total, h1, b1, b2, b3, l3]; try clear hgo9 hW9); try (obtain ⟨W9, hW9, hgo9⟩ := wp_ex (T_Nw_total l G) [] _; refine hgo9 200 _ _ _ _ ?_; simp -implicitDefEqProofs (disch := omega) only [hW9, inl, gate, Xq, tz_const, tz_iload, tz_lload, tz_dload, tz_aload, tz_istore, tz_astore, tz_lstore, tz_dstore, tz_iinc, tz_i1, tz_i2, tz_i2z, tz_l2, tz_l2z, tz_i2l, tz_l2i, tz_lcmp, tz_i2d, tz_d2, tz_dcmp, tz_dup, tz_dup2, tz_pop, tz_if, tz_icmp, tz_null, tz_goto, tz_sw, tz_getf, tz_puti, tz_putz, tz_putr, tz_putl, tz_iaload, tz_baload, tz_laload, tz_aaload, tz_iastore, tz_bastore, tz_lastore, tz_aastore, tz_alen, tz_new, tz_newa, tz_oinit, tz_iret, tz_zret, tz_lret, tz_dret, tz_aret, tz_vret, tz_throw, tz_callS, tz_callV, tz_callI, tz_callR, tz_pureS, tz_pureV, tz_callVH, lg, lset, lkill, lst1, lst2, entL, isRf, is1, vl, va_rf_none, va_rf_some, isRf_rf, is1_rf, i0, i1, bI_eq0, bI_eq1, nm_em, nI_eqP, nI_leP, nI_ltP, nN_e1, nN_e2, nN_l1, nN_l2, nN_l3, nN_l4, nI_add, pk_mul, vp_inN, nI_cl, n01, n10, P_i, P_ii, P_iii, f_Mo_at, f_Mo_map, f_Mo_contact, f_Mo_within, f_Mo_isPort, f_Hp_endpoint, f_Hp_nodeOf, f_Hp_portOf, f_Ma_max, f_Ma_min, f_Hp_isSetting, popN, rok, a1, noX, swc, mL, if_true, if_false, ↓reduceIte, cond_true, cond_false, true_and, and_true, List.length_cons, List.length_nil, List.nil_append, List.cons_append, List.append_nil, Option.toList, Nat.reduceEqDiff, Bool.false_eq_true, reduceCtorEq, Nat.reduceAdd, Nat.reduceLT, Nat.reduceLeDiff, Nat.reduceSub, List.replicate, Nat.zero_add, Nat.lt_add_one, Nat.le_refl, Nat.zero_le, Nat.succ_ne_zero, not_false_eq_true, not_true_eq_false, false_implies, true_implies, forall_const, imp_self, true_or, or_true, eq_self, sI_zw, zw_zw, hI_zw, tg_zw, ln_zw, hR_zw, hL_zw, hN_zw, hM_zw, upd_s, upd_u, upd_ne, Classical.not_not, k_Nw_total, h1, b1, b2, b3, l3]; try clear hgo9 hW9))
    exact hQ
  · ((obtain ⟨W9, hW9, hgo9⟩ := wp_ex (T_Nw_total l G) [] _; refine hgo9 200 _ _ _ _ ?_; simp -implicitDefEqProofs (disch := omega) only [hW9, inl, gate, Xq, tz_const, tz_iload, tz_lload, tz_dload, tz_aload, tz_istore, tz_astore, tz_lstore, tz_dstore, tz_iinc, tz_i1, tz_i2, tz_i2z, tz_l2, tz_l2z, tz_i2l, tz_l2i, tz_lcmp, tz_i2d, tz_d2, tz_dcmp, tz_dup, tz_dup2, tz_pop, tz_if, tz_icmp, tz_null, tz_goto, tz_sw, tz_getf, tz_puti, tz_putz, tz_putr, tz_putl, tz_iaload, tz_baload, tz_laload, tz_aaload, tz_iastore, tz_bastore, tz_lastore, tz_aastore, tz_alen, tz_new, tz_newa, tz_oinit, tz_iret, tz_zret, tz_lret, tz_dret, tz_aret, tz_vret, tz_throw, tz_callS, tz_callV, tz_callI, tz_callR, tz_pureS, tz_pureV, tz_callVH, lg, lset, lkill, lst1, lst2, entL, isRf, is1, vl, va_rf_none, va_rf_some, isRf_rf, is1_rf, i0, i1, bI_eq0, bI_eq1, nm_em, nI_eqP, nI_leP, nI_ltP, nN_e1, nN_e2, nN_l1, nN_l2, nN_l3, nN_l4, nI_add, pk_mul, vp_inN, nI_cl, n01, n10, P_i, P_ii, P_iii, f_Mo_at, f_Mo_map, f_Mo_contact, f_Mo_within, f_Mo_isPort, f_Hp_endpoint, f_Hp_nodeOf, f_Hp_portOf, f_Ma_max, f_Ma_min, f_Hp_isSetting, popN, rok, a1, noX, swc, mL, if_true, if_false, ↓reduceIte, cond_true, cond_false, true_and, and_true, List.length_cons, List.length_nil, List.nil_append, List.cons_append, List.append_nil, Option.toList, Nat.reduceEqDiff, Bool.false_eq_true, reduceCtorEq, Nat.reduceAdd, Nat.reduceLT, Nat.reduceLeDiff, Nat.reduceSub, List.replicate, Nat.zero_add, Nat.lt_add_one, Nat.le_refl, Nat.zero_le, Nat.succ_ne_zero, not_false_eq_true, not_true_eq_false, false_implies, true_implies, forall_const, imp_self, true_or, or_true, eq_self, sI_zw, zw_zw, hI_zw, tg_zw, ln_zw, hR_zw, hL_zw, hN_zw, hM_zw, upd_s, upd_u, upd_ne, Classical.not_not, k_Nw_total, h1, b1, b2, b3, l4]; try clear hgo9 hW9); try (obtain ⟨W9, hW9, hgo9⟩ := wp_ex (T_Nw_total l G) [] _; refine hgo9 200 _ _ _ _ ?_; simp -implicitDefEqProofs (disch := omega) only [hW9, inl, gate, Xq, tz_const, tz_iload, tz_lload, tz_dload, tz_aload, tz_istore, tz_astore, tz_lstore, tz_dstore, tz_iinc, tz_i1, tz_i2, tz_i2z, tz_l2, tz_l2z, tz_i2l, tz_l2i, tz_lcmp, tz_i2d, tz_d2, tz_dcmp, tz_dup, tz_dup2, tz_pop, tz_if, tz_icmp, tz_null, tz_goto, tz_sw, tz_getf, tz_puti, tz_putz, tz_putr, tz_putl, tz_iaload, tz_baload, tz_laload, tz_aaload, tz_iastore, tz_bastore, tz_lastore, tz_aastore, tz_alen, tz_new, tz_newa, tz_oinit, tz_iret, tz_zret, tz_lret, tz_dret, tz_aret, tz_vret, tz_throw, tz_callS, tz_callV, tz_callI, tz_callR, tz_pureS, tz_pureV, tz_callVH, lg, lset, lkill, lst1, lst2, entL, isRf, is1, vl, va_rf_none, va_rf_some, isRf_rf, is1_rf, i0, i1, bI_eq0, bI_eq1, nm_em, nI_eqP, nI_leP, nI_ltP, nN_e1, nN_e2, nN_l1, nN_l2, nN_l3, nN_l4, nI_add, pk_mul, vp_inN, nI_cl, n01, n10, P_i, P_ii, P_iii, f_Mo_at, f_Mo_map, f_Mo_contact, f_Mo_within, f_Mo_isPort, f_Hp_endpoint, f_Hp_nodeOf, f_Hp_portOf, f_Ma_max, f_Ma_min, f_Hp_isSetting, popN, rok, a1, noX, swc, mL, if_true, if_false, ↓reduceIte, cond_true, cond_false, true_and, and_true, List.length_cons, List.length_nil, List.nil_append, List.cons_append, List.append_nil, Option.toList, Nat.reduceEqDiff, Bool.false_eq_true, reduceCtorEq, Nat.reduceAdd, Nat.reduceLT, Nat.reduceLeDiff, Nat.reduceSub, List.replicate, Nat.zero_add, Nat.lt_add_one, Nat.le_refl, Nat.zero_le, Nat.succ_ne_zero, not_false_eq_true, not_true_eq_false, false_implies, true_implies, forall_const, imp_self, true_or, or_true, eq_self, sI_zw, zw_zw, hI_zw, tg_zw, ln_zw, hR_zw, hL_zw, hN_zw, hM_zw, upd_s, upd_u, upd_ne, Classical.not_not, k_Nw_total, h1, b1, b2, b3, l4]; try clear hgo9 hW9))
    exact hQ
  · ((obtain ⟨W9, hW9, hgo9⟩ := wp_ex (T_Nw_total l G) [] _; refine hgo9 200 _ _ _ _ ?_; simp -implicitDefEqProofs (disch := omega) only [hW9, inl, gate, Xq, tz_const, tz_iload, tz_lload, tz_dload, tz_aload, tz_istore, tz_astore, tz_lstore, tz_dstore, tz_iinc, tz_i1, tz_i2, tz_i2z, tz_l2, tz_l2z, tz_i2l, tz_l2i, tz_lcmp, tz_i2d, tz_d2, tz_dcmp, tz_dup, tz_dup2, tz_pop, tz_if, tz_icmp, tz_null, tz_goto, tz_sw, tz_getf, tz_puti, tz_putz, tz_putr, tz_putl, tz_iaload, tz_baload, tz_laload, tz_aaload, tz_iastore, tz_bastore, tz_lastore, tz_aastore, tz_alen, tz_new, tz_newa, tz_oinit, tz_iret, tz_zret, tz_lret, tz_dret, tz_aret, tz_vret, tz_throw, tz_callS, tz_callV, tz_callI, tz_callR, tz_pureS, tz_pureV, tz_callVH, lg, lset, lkill, lst1, lst2, entL, isRf, is1, vl, va_rf_none, va_rf_some, isRf_rf, is1_rf, i0, i1, bI_eq0, bI_eq1, nm_em, nI_eqP, nI_leP, nI_ltP, nN_e1, nN_e2, nN_l1, nN_l2, nN_l3, nN_l4, nI_add, pk_mul, vp_inN, nI_cl, n01, n10, P_i, P_ii, P_iii, f_Mo_at, f_Mo_map, f_Mo_contact, f_Mo_within, f_Mo_isPort, f_Hp_endpoint, f_Hp_nodeOf, f_Hp_portOf, f_Ma_max, f_Ma_min, f_Hp_isSetting, popN, rok, a1, noX, swc, mL, if_true, if_false, ↓reduceIte, cond_true, cond_false, true_and, and_true, List.length_cons, List.length_nil, List.nil_append, List.cons_append, List.append_nil, Option.toList, Nat.reduceEqDiff, Bool.false_eq_true, reduceCtorEq, Nat.reduceAdd, Nat.reduceLT, Nat.reduceLeDiff, Nat.reduceSub, List.replicate, Nat.zero_add, Nat.lt_add_one, Nat.le_refl, Nat.zero_le, Nat.succ_ne_zero, not_false_eq_true, not_true_eq_false, false_implies, true_implies, forall_const, imp_self, true_or, or_true, eq_self, sI_zw, zw_zw, hI_zw, tg_zw, ln_zw, hR_zw, hL_zw, hN_zw, hM_zw, upd_s, upd_u, upd_ne, Classical.not_not, k_Nw_total, h1, b1, b2, b3, l5]; try clear hgo9 hW9); try (obtain ⟨W9, hW9, hgo9⟩ := wp_ex (T_Nw_total l G) [] _; refine hgo9 200 _ _ _ _ ?_; simp -implicitDefEqProofs (disch := omega) only [hW9, inl, gate, Xq, tz_const, tz_iload, tz_lload, tz_dload, tz_aload, tz_istore, tz_astore, tz_lstore, tz_dstore, tz_iinc, tz_i1, tz_i2, tz_i2z, tz_l2, tz_l2z, tz_i2l, tz_l2i, tz_lcmp, tz_i2d, tz_d2, tz_dcmp, tz_dup, tz_dup2, tz_pop, tz_if, tz_icmp, tz_null, tz_goto, tz_sw, tz_getf, tz_puti, tz_putz, tz_putr, tz_putl, tz_iaload, tz_baload, tz_laload, tz_aaload, tz_iastore, tz_bastore, tz_lastore, tz_aastore, tz_alen, tz_new, tz_newa, tz_oinit, tz_iret, tz_zret, tz_lret, tz_dret, tz_aret, tz_vret, tz_throw, tz_callS, tz_callV, tz_callI, tz_callR, tz_pureS, tz_pureV, tz_callVH, lg, lset, lkill, lst1, lst2, entL, isRf, is1, vl, va_rf_none, va_rf_some, isRf_rf, is1_rf, i0, i1, bI_eq0, bI_eq1, nm_em, nI_eqP, nI_leP, nI_ltP, nN_e1, nN_e2, nN_l1, nN_l2, nN_l3, nN_l4, nI_add, pk_mul, vp_inN, nI_cl, n01, n10, P_i, P_ii, P_iii, f_Mo_at, f_Mo_map, f_Mo_contact, f_Mo_within, f_Mo_isPort, f_Hp_endpoint, f_Hp_nodeOf, f_Hp_portOf, f_Ma_max, f_Ma_min, f_Hp_isSetting, popN, rok, a1, noX, swc, mL, if_true, if_false, ↓reduceIte, cond_true, cond_false, true_and, and_true, List.length_cons, List.length_nil, List.nil_append, List.cons_append, List.append_nil, Option.toList, Nat.reduceEqDiff, Bool.false_eq_true, reduceCtorEq, Nat.reduceAdd, Nat.reduceLT, Nat.reduceLeDiff, Nat.reduceSub, List.replicate, Nat.zero_add, Nat.lt_add_one, Nat.le_refl, Nat.zero_le, Nat.succ_ne_zero, not_false_eq_true, not_true_eq_false, false_implies, true_implies, forall_const, imp_self, true_or, or_true, eq_self, sI_zw, zw_zw, hI_zw, tg_zw, ln_zw, hR_zw, hL_zw, hN_zw, hM_zw, upd_s, upd_u, upd_ne, Classical.not_not, k_Nw_total, h1, b1, b2, b3, l5]; try clear hgo9 hW9))
    exact hQ
theorem c_Hp_total (A : Nat → Nat) (w : Nat) (z zs t : Nat → Int32) (n : Nat) (h : AH) (Q : Po) (k : HpR h A z zs t n) (iv : Inv z) (hw : w < 12) (hQ : Q (.inl (some (.int (ctZ z (hI h (A 0) 6) w)))) h) : Call l G M_Hp_total [.ref (A 0), .int (nI w)] h Q := by
  have x6 := k.1.1.1
  have x0 := k.1.2.1.1
  have w1 := k.2.1.1.1.1
  refine call_of rfl rfl (Nat.le_of_ble_eq_true rfl) ?_
  by_cases c : w = 11
  · subst c
    have hQ' : Q (.inl (some (.int (@ite _ (hI h (A 0) 6 = nI 0) (Classical.propDecidable _) (nI 0) (nI 1))))) h := hQ
    by_cases c2 : hI h (A 0) 6 = nI 0
    · rw [if_pos c2] at hQ'
      ((obtain ⟨W9, hW9, hgo9⟩ := wp_ex (T_Hp_total l G) [] _; refine hgo9 200 _ _ _ _ ?_; simp -implicitDefEqProofs (disch := omega) only [hW9, inl, gate, Xq, tz_const, tz_iload, tz_lload, tz_dload, tz_aload, tz_istore, tz_astore, tz_lstore, tz_dstore, tz_iinc, tz_i1, tz_i2, tz_i2z, tz_l2, tz_l2z, tz_i2l, tz_l2i, tz_lcmp, tz_i2d, tz_d2, tz_dcmp, tz_dup, tz_dup2, tz_pop, tz_if, tz_icmp, tz_null, tz_goto, tz_sw, tz_getf, tz_puti, tz_putz, tz_putr, tz_putl, tz_iaload, tz_baload, tz_laload, tz_aaload, tz_iastore, tz_bastore, tz_lastore, tz_aastore, tz_alen, tz_new, tz_newa, tz_oinit, tz_iret, tz_zret, tz_lret, tz_dret, tz_aret, tz_vret, tz_throw, tz_callS, tz_callV, tz_callI, tz_callR, tz_pureS, tz_pureV, tz_callVH, lg, lset, lkill, lst1, lst2, entL, isRf, is1, vl, va_rf_none, va_rf_some, isRf_rf, is1_rf, i0, i1, bI_eq0, bI_eq1, nm_em, nI_eqP, nI_leP, nI_ltP, nN_e1, nN_e2, nN_l1, nN_l2, nN_l3, nN_l4, nI_add, pk_mul, vp_inN, nI_cl, n01, n10, P_i, P_ii, P_iii, f_Mo_at, f_Mo_map, f_Mo_contact, f_Mo_within, f_Mo_isPort, f_Hp_endpoint, f_Hp_nodeOf, f_Hp_portOf, f_Ma_max, f_Ma_min, f_Hp_isSetting, popN, rok, a1, noX, swc, mL, if_true, if_false, ↓reduceIte, cond_true, cond_false, true_and, and_true, List.length_cons, List.length_nil, List.nil_append, List.cons_append, List.append_nil, Option.toList, Nat.reduceEqDiff, Bool.false_eq_true, reduceCtorEq, Nat.reduceAdd, Nat.reduceLT, Nat.reduceLeDiff, Nat.reduceSub, List.replicate, Nat.zero_add, Nat.lt_add_one, Nat.le_refl, Nat.zero_le, Nat.succ_ne_zero, not_false_eq_true, not_true_eq_false, false_implies, true_implies, forall_const, imp_self, true_or, or_true, eq_self, sI_zw, zw_zw, hI_zw, tg_zw, ln_zw, hR_zw, hL_zw, hN_zw, hM_zw, upd_s, upd_u, upd_ne, Classical.not_not, k_Hp_total, x6, c2]; try clear hgo9 hW9); try (obtain ⟨W9, hW9, hgo9⟩ := wp_ex (T_Hp_total l G) [] _; refine hgo9 200 _ _ _ _ ?_; simp -implicitDefEqProofs (disch := omega) only [hW9, inl, gate, Xq, tz_const, tz_iload, tz_lload, tz_dload, tz_aload, tz_istore, tz_astore, tz_lstore, tz_dstore, tz_iinc, tz_i1, tz_i2, tz_i2z, tz_l2, tz_l2z, tz_i2l, tz_l2i, tz_lcmp, tz_i2d, tz_d2, tz_dcmp, tz_dup, tz_dup2, tz_pop, tz_if, tz_icmp, tz_null, tz_goto, tz_sw, tz_getf, tz_puti, tz_putz, tz_putr, tz_putl, tz_iaload, tz_baload, tz_laload, tz_aaload, tz_iastore, tz_bastore, tz_lastore, tz_aastore, tz_alen, tz_new, tz_newa, tz_oinit, tz_iret, tz_zret, tz_lret, tz_dret, tz_aret, tz_vret, tz_throw, tz_callS, tz_callV, tz_callI, tz_callR, tz_pureS, tz_pureV, tz_callVH, lg, lset, lkill, lst1, lst2, entL, isRf, is1, vl, va_rf_none, va_rf_some, isRf_rf, is1_rf, i0, i1, bI_eq0, bI_eq1, nm_em, nI_eqP, nI_leP, nI_ltP, nN_e1, nN_e2, nN_l1, nN_l2, nN_l3, nN_l4, nI_add, pk_mul, vp_inN, nI_cl, n01, n10, P_i, P_ii, P_iii, f_Mo_at, f_Mo_map, f_Mo_contact, f_Mo_within, f_Mo_isPort, f_Hp_endpoint, f_Hp_nodeOf, f_Hp_portOf, f_Ma_max, f_Ma_min, f_Hp_isSetting, popN, rok, a1, noX, swc, mL, if_true, if_false, ↓reduceIte, cond_true, cond_false, true_and, and_true, List.length_cons, List.length_nil, List.nil_append, List.cons_append, List.append_nil, Option.toList, Nat.reduceEqDiff, Bool.false_eq_true, reduceCtorEq, Nat.reduceAdd, Nat.reduceLT, Nat.reduceLeDiff, Nat.reduceSub, List.replicate, Nat.zero_add, Nat.lt_add_one, Nat.le_refl, Nat.zero_le, Nat.succ_ne_zero, not_false_eq_true, not_true_eq_false, false_implies, true_implies, forall_const, imp_self, true_or, or_true, eq_self, sI_zw, zw_zw, hI_zw, tg_zw, ln_zw, hR_zw, hL_zw, hN_zw, hM_zw, upd_s, upd_u, upd_ne, Classical.not_not, k_Hp_total, x6, c2]; try clear hgo9 hW9); try (obtain ⟨W9, hW9, hgo9⟩ := wp_ex (T_Hp_total l G) [] _; refine hgo9 200 _ _ _ _ ?_; simp -implicitDefEqProofs (disch := omega) only [hW9, inl, gate, Xq, tz_const, tz_iload, tz_lload, tz_dload, tz_aload, tz_istore, tz_astore, tz_lstore, tz_dstore, tz_iinc, tz_i1, tz_i2, tz_i2z, tz_l2, tz_l2z, tz_i2l, tz_l2i, tz_lcmp, tz_i2d, tz_d2, tz_dcmp, tz_dup, tz_dup2, tz_pop, tz_if, tz_icmp, tz_null, tz_goto, tz_sw, tz_getf, tz_puti, tz_putz, tz_putr, tz_putl, tz_iaload, tz_baload, tz_laload, tz_aaload, tz_iastore, tz_bastore, tz_lastore, tz_aastore, tz_alen, tz_new, tz_newa, tz_oinit, tz_iret, tz_zret, tz_lret, tz_dret, tz_aret, tz_vret, tz_throw, tz_callS, tz_callV, tz_callI, tz_callR, tz_pureS, tz_pureV, tz_callVH, lg, lset, lkill, lst1, lst2, entL, isRf, is1, vl, va_rf_none, va_rf_some, isRf_rf, is1_rf, i0, i1, bI_eq0, bI_eq1, nm_em, nI_eqP, nI_leP, nI_ltP, nN_e1, nN_e2, nN_l1, nN_l2, nN_l3, nN_l4, nI_add, pk_mul, vp_inN, nI_cl, n01, n10, P_i, P_ii, P_iii, f_Mo_at, f_Mo_map, f_Mo_contact, f_Mo_within, f_Mo_isPort, f_Hp_endpoint, f_Hp_nodeOf, f_Hp_portOf, f_Ma_max, f_Ma_min, f_Hp_isSetting, popN, rok, a1, noX, swc, mL, if_true, if_false, ↓reduceIte, cond_true, cond_false, true_and, and_true, List.length_cons, List.length_nil, List.nil_append, List.cons_append, List.append_nil, Option.toList, Nat.reduceEqDiff, Bool.false_eq_true, reduceCtorEq, Nat.reduceAdd, Nat.reduceLT, Nat.reduceLeDiff, Nat.reduceSub, List.replicate, Nat.zero_add, Nat.lt_add_one, Nat.le_refl, Nat.zero_le, Nat.succ_ne_zero, not_false_eq_true, not_true_eq_false, false_implies, true_implies, forall_const, imp_self, true_or, or_true, eq_self, sI_zw, zw_zw, hI_zw, tg_zw, ln_zw, hR_zw, hL_zw, hN_zw, hM_zw, upd_s, upd_u, upd_ne, Classical.not_not, k_Hp_total, x6, c2]; try clear hgo9 hW9))
      exact hQ'
    · rw [if_neg c2] at hQ'
      ((obtain ⟨W9, hW9, hgo9⟩ := wp_ex (T_Hp_total l G) [] _; refine hgo9 200 _ _ _ _ ?_; simp -implicitDefEqProofs (disch := omega) only [hW9, inl, gate, Xq, tz_const, tz_iload, tz_lload, tz_dload, tz_aload, tz_istore, tz_astore, tz_lstore, tz_dstore, tz_iinc, tz_i1, tz_i2, tz_i2z, tz_l2, tz_l2z, tz_i2l, tz_l2i, tz_lcmp, tz_i2d, tz_d2, tz_dcmp, tz_dup, tz_dup2, tz_pop, tz_if, tz_icmp, tz_null, tz_goto, tz_sw, tz_getf, tz_puti, tz_putz, tz_putr, tz_putl, tz_iaload, tz_baload, tz_laload, tz_aaload, tz_iastore, tz_bastore, tz_lastore, tz_aastore, tz_alen, tz_new, tz_newa, tz_oinit, tz_iret, tz_zret, tz_lret, tz_dret, tz_aret, tz_vret, tz_throw, tz_callS, tz_callV, tz_callI, tz_callR, tz_pureS, tz_pureV, tz_callVH, lg, lset, lkill, lst1, lst2, entL, isRf, is1, vl, va_rf_none, va_rf_some, isRf_rf, is1_rf, i0, i1, bI_eq0, bI_eq1, nm_em, nI_eqP, nI_leP, nI_ltP, nN_e1, nN_e2, nN_l1, nN_l2, nN_l3, nN_l4, nI_add, pk_mul, vp_inN, nI_cl, n01, n10, P_i, P_ii, P_iii, f_Mo_at, f_Mo_map, f_Mo_contact, f_Mo_within, f_Mo_isPort, f_Hp_endpoint, f_Hp_nodeOf, f_Hp_portOf, f_Ma_max, f_Ma_min, f_Hp_isSetting, popN, rok, a1, noX, swc, mL, if_true, if_false, ↓reduceIte, cond_true, cond_false, true_and, and_true, List.length_cons, List.length_nil, List.nil_append, List.cons_append, List.append_nil, Option.toList, Nat.reduceEqDiff, Bool.false_eq_true, reduceCtorEq, Nat.reduceAdd, Nat.reduceLT, Nat.reduceLeDiff, Nat.reduceSub, List.replicate, Nat.zero_add, Nat.lt_add_one, Nat.le_refl, Nat.zero_le, Nat.succ_ne_zero, not_false_eq_true, not_true_eq_false, false_implies, true_implies, forall_const, imp_self, true_or, or_true, eq_self, sI_zw, zw_zw, hI_zw, tg_zw, ln_zw, hR_zw, hL_zw, hN_zw, hM_zw, upd_s, upd_u, upd_ne, Classical.not_not, k_Hp_total, x6, c2]; try clear hgo9 hW9); try (obtain ⟨W9, hW9, hgo9⟩ := wp_ex (T_Hp_total l G) [] _; refine hgo9 200 _ _ _ _ ?_; simp -implicitDefEqProofs (disch := omega) only [hW9, inl, gate, Xq, tz_const, tz_iload, tz_lload, tz_dload, tz_aload, tz_istore, tz_astore, tz_lstore, tz_dstore, tz_iinc, tz_i1, tz_i2, tz_i2z, tz_l2, tz_l2z, tz_i2l, tz_l2i, tz_lcmp, tz_i2d, tz_d2, tz_dcmp, tz_dup, tz_dup2, tz_pop, tz_if, tz_icmp, tz_null, tz_goto, tz_sw, tz_getf, tz_puti, tz_putz, tz_putr, tz_putl, tz_iaload, tz_baload, tz_laload, tz_aaload, tz_iastore, tz_bastore, tz_lastore, tz_aastore, tz_alen, tz_new, tz_newa, tz_oinit, tz_iret, tz_zret, tz_lret, tz_dret, tz_aret, tz_vret, tz_throw, tz_callS, tz_callV, tz_callI, tz_callR, tz_pureS, tz_pureV, tz_callVH, lg, lset, lkill, lst1, lst2, entL, isRf, is1, vl, va_rf_none, va_rf_some, isRf_rf, is1_rf, i0, i1, bI_eq0, bI_eq1, nm_em, nI_eqP, nI_leP, nI_ltP, nN_e1, nN_e2, nN_l1, nN_l2, nN_l3, nN_l4, nI_add, pk_mul, vp_inN, nI_cl, n01, n10, P_i, P_ii, P_iii, f_Mo_at, f_Mo_map, f_Mo_contact, f_Mo_within, f_Mo_isPort, f_Hp_endpoint, f_Hp_nodeOf, f_Hp_portOf, f_Ma_max, f_Ma_min, f_Hp_isSetting, popN, rok, a1, noX, swc, mL, if_true, if_false, ↓reduceIte, cond_true, cond_false, true_and, and_true, List.length_cons, List.length_nil, List.nil_append, List.cons_append, List.append_nil, Option.toList, Nat.reduceEqDiff, Bool.false_eq_true, reduceCtorEq, Nat.reduceAdd, Nat.reduceLT, Nat.reduceLeDiff, Nat.reduceSub, List.replicate, Nat.zero_add, Nat.lt_add_one, Nat.le_refl, Nat.zero_le, Nat.succ_ne_zero, not_false_eq_true, not_true_eq_false, false_implies, true_implies, forall_const, imp_self, true_or, or_true, eq_self, sI_zw, zw_zw, hI_zw, tg_zw, ln_zw, hR_zw, hL_zw, hN_zw, hM_zw, upd_s, upd_u, upd_ne, Classical.not_not, k_Hp_total, x6, c2]; try clear hgo9 hW9); try (obtain ⟨W9, hW9, hgo9⟩ := wp_ex (T_Hp_total l G) [] _; refine hgo9 200 _ _ _ _ ?_; simp -implicitDefEqProofs (disch := omega) only [hW9, inl, gate, Xq, tz_const, tz_iload, tz_lload, tz_dload, tz_aload, tz_istore, tz_astore, tz_lstore, tz_dstore, tz_iinc, tz_i1, tz_i2, tz_i2z, tz_l2, tz_l2z, tz_i2l, tz_l2i, tz_lcmp, tz_i2d, tz_d2, tz_dcmp, tz_dup, tz_dup2, tz_pop, tz_if, tz_icmp, tz_null, tz_goto, tz_sw, tz_getf, tz_puti, tz_putz, tz_putr, tz_putl, tz_iaload, tz_baload, tz_laload, tz_aaload, tz_iastore, tz_bastore, tz_lastore, tz_aastore, tz_alen, tz_new, tz_newa, tz_oinit, tz_iret, tz_zret, tz_lret, tz_dret, tz_aret, tz_vret, tz_throw, tz_callS, tz_callV, tz_callI, tz_callR, tz_pureS, tz_pureV, tz_callVH, lg, lset, lkill, lst1, lst2, entL, isRf, is1, vl, va_rf_none, va_rf_some, isRf_rf, is1_rf, i0, i1, bI_eq0, bI_eq1, nm_em, nI_eqP, nI_leP, nI_ltP, nN_e1, nN_e2, nN_l1, nN_l2, nN_l3, nN_l4, nI_add, pk_mul, vp_inN, nI_cl, n01, n10, P_i, P_ii, P_iii, f_Mo_at, f_Mo_map, f_Mo_contact, f_Mo_within, f_Mo_isPort, f_Hp_endpoint, f_Hp_nodeOf, f_Hp_portOf, f_Ma_max, f_Ma_min, f_Hp_isSetting, popN, rok, a1, noX, swc, mL, if_true, if_false, ↓reduceIte, cond_true, cond_false, true_and, and_true, List.length_cons, List.length_nil, List.nil_append, List.cons_append, List.append_nil, Option.toList, Nat.reduceEqDiff, Bool.false_eq_true, reduceCtorEq, Nat.reduceAdd, Nat.reduceLT, Nat.reduceLeDiff, Nat.reduceSub, List.replicate, Nat.zero_add, Nat.lt_add_one, Nat.le_refl, Nat.zero_le, Nat.succ_ne_zero, not_false_eq_true, not_true_eq_false, false_implies, true_implies, forall_const, imp_self, true_or, or_true, eq_self, sI_zw, zw_zw, hI_zw, tg_zw, ln_zw, hR_zw, hL_zw, hN_zw, hM_zw, upd_s, upd_u, upd_ne, Classical.not_not, k_Hp_total, x6, c2]; try clear hgo9 hW9))
      exact hQ'
  · have nw' : ¬ nI w = nI 11 := by rw [nI_eqP (by omega) (by omega)]; exact c
    ((obtain ⟨W9, hW9, hgo9⟩ := wp_ex (T_Hp_total l G) [] _; refine hgo9 200 _ _ _ _ ?_; simp -implicitDefEqProofs (disch := omega) only [hW9, inl, gate, Xq, tz_const, tz_iload, tz_lload, tz_dload, tz_aload, tz_istore, tz_astore, tz_lstore, tz_dstore, tz_iinc, tz_i1, tz_i2, tz_i2z, tz_l2, tz_l2z, tz_i2l, tz_l2i, tz_lcmp, tz_i2d, tz_d2, tz_dcmp, tz_dup, tz_dup2, tz_pop, tz_if, tz_icmp, tz_null, tz_goto, tz_sw, tz_getf, tz_puti, tz_putz, tz_putr, tz_putl, tz_iaload, tz_baload, tz_laload, tz_aaload, tz_iastore, tz_bastore, tz_lastore, tz_aastore, tz_alen, tz_new, tz_newa, tz_oinit, tz_iret, tz_zret, tz_lret, tz_dret, tz_aret, tz_vret, tz_throw, tz_callS, tz_callV, tz_callI, tz_callR, tz_pureS, tz_pureV, tz_callVH, lg, lset, lkill, lst1, lst2, entL, isRf, is1, vl, va_rf_none, va_rf_some, isRf_rf, is1_rf, i0, i1, bI_eq0, bI_eq1, nm_em, nI_eqP, nI_leP, nI_ltP, nN_e1, nN_e2, nN_l1, nN_l2, nN_l3, nN_l4, nI_add, pk_mul, vp_inN, nI_cl, n01, n10, P_i, P_ii, P_iii, f_Mo_at, f_Mo_map, f_Mo_contact, f_Mo_within, f_Mo_isPort, f_Hp_endpoint, f_Hp_nodeOf, f_Hp_portOf, f_Ma_max, f_Ma_min, f_Hp_isSetting, popN, rok, a1, noX, swc, mL, if_true, if_false, ↓reduceIte, cond_true, cond_false, true_and, and_true, List.length_cons, List.length_nil, List.nil_append, List.cons_append, List.append_nil, Option.toList, Nat.reduceEqDiff, Bool.false_eq_true, reduceCtorEq, Nat.reduceAdd, Nat.reduceLT, Nat.reduceLeDiff, Nat.reduceSub, List.replicate, Nat.zero_add, Nat.lt_add_one, Nat.le_refl, Nat.zero_le, Nat.succ_ne_zero, not_false_eq_true, not_true_eq_false, false_implies, true_implies, forall_const, imp_self, true_or, or_true, eq_self, sI_zw, zw_zw, hI_zw, tg_zw, ln_zw, hR_zw, hL_zw, hN_zw, hM_zw, upd_s, upd_u, upd_ne, Classical.not_not, k_Hp_total, x6, x0, w1, c]; try clear hgo9 hW9); try (obtain ⟨W9, hW9, hgo9⟩ := wp_ex (T_Hp_total l G) [] _; refine hgo9 200 _ _ _ _ ?_; simp -implicitDefEqProofs (disch := omega) only [hW9, inl, gate, Xq, tz_const, tz_iload, tz_lload, tz_dload, tz_aload, tz_istore, tz_astore, tz_lstore, tz_dstore, tz_iinc, tz_i1, tz_i2, tz_i2z, tz_l2, tz_l2z, tz_i2l, tz_l2i, tz_lcmp, tz_i2d, tz_d2, tz_dcmp, tz_dup, tz_dup2, tz_pop, tz_if, tz_icmp, tz_null, tz_goto, tz_sw, tz_getf, tz_puti, tz_putz, tz_putr, tz_putl, tz_iaload, tz_baload, tz_laload, tz_aaload, tz_iastore, tz_bastore, tz_lastore, tz_aastore, tz_alen, tz_new, tz_newa, tz_oinit, tz_iret, tz_zret, tz_lret, tz_dret, tz_aret, tz_vret, tz_throw, tz_callS, tz_callV, tz_callI, tz_callR, tz_pureS, tz_pureV, tz_callVH, lg, lset, lkill, lst1, lst2, entL, isRf, is1, vl, va_rf_none, va_rf_some, isRf_rf, is1_rf, i0, i1, bI_eq0, bI_eq1, nm_em, nI_eqP, nI_leP, nI_ltP, nN_e1, nN_e2, nN_l1, nN_l2, nN_l3, nN_l4, nI_add, pk_mul, vp_inN, nI_cl, n01, n10, P_i, P_ii, P_iii, f_Mo_at, f_Mo_map, f_Mo_contact, f_Mo_within, f_Mo_isPort, f_Hp_endpoint, f_Hp_nodeOf, f_Hp_portOf, f_Ma_max, f_Ma_min, f_Hp_isSetting, popN, rok, a1, noX, swc, mL, if_true, if_false, ↓reduceIte, cond_true, cond_false, true_and, and_true, List.length_cons, List.length_nil, List.nil_append, List.cons_append, List.append_nil, Option.toList, Nat.reduceEqDiff, Bool.false_eq_true, reduceCtorEq, Nat.reduceAdd, Nat.reduceLT, Nat.reduceLeDiff, Nat.reduceSub, List.replicate, Nat.zero_add, Nat.lt_add_one, Nat.le_refl, Nat.zero_le, Nat.succ_ne_zero, not_false_eq_true, not_true_eq_false, false_implies, true_implies, forall_const, imp_self, true_or, or_true, eq_self, sI_zw, zw_zw, hI_zw, tg_zw, ln_zw, hR_zw, hL_zw, hN_zw, hM_zw, upd_s, upd_u, upd_ne, Classical.not_not, k_Hp_total, x6, x0, w1, c]; try clear hgo9 hW9))
    refine c_Nw_total (A 1) w (hI h (A 0) 6) z h _ k.2.1 iv.1 (by omega) ?_
    simp only [aft]
    (obtain ⟨W9, hW9, hgo9⟩ := wp_ex (T_Hp_total l G) [] _; refine hgo9 200 _ _ _ _ ?_; simp -implicitDefEqProofs (disch := omega) only [hW9, inl, gate, Xq, tz_const, tz_iload, tz_lload, tz_dload, tz_aload, tz_istore, tz_astore, tz_lstore, tz_dstore, tz_iinc, tz_i1, tz_i2, tz_i2z, tz_l2, tz_l2z, tz_i2l, tz_l2i, tz_lcmp, tz_i2d, tz_d2, tz_dcmp, tz_dup, tz_dup2, tz_pop, tz_if, tz_icmp, tz_null, tz_goto, tz_sw, tz_getf, tz_puti, tz_putz, tz_putr, tz_putl, tz_iaload, tz_baload, tz_laload, tz_aaload, tz_iastore, tz_bastore, tz_lastore, tz_aastore, tz_alen, tz_new, tz_newa, tz_oinit, tz_iret, tz_zret, tz_lret, tz_dret, tz_aret, tz_vret, tz_throw, tz_callS, tz_callV, tz_callI, tz_callR, tz_pureS, tz_pureV, tz_callVH, lg, lset, lkill, lst1, lst2, entL, isRf, is1, vl, va_rf_none, va_rf_some, isRf_rf, is1_rf, i0, i1, bI_eq0, bI_eq1, nm_em, nI_eqP, nI_leP, nI_ltP, nN_e1, nN_e2, nN_l1, nN_l2, nN_l3, nN_l4, nI_add, pk_mul, vp_inN, nI_cl, n01, n10, P_i, P_ii, P_iii, f_Mo_at, f_Mo_map, f_Mo_contact, f_Mo_within, f_Mo_isPort, f_Hp_endpoint, f_Hp_nodeOf, f_Hp_portOf, f_Ma_max, f_Ma_min, f_Hp_isSetting, popN, rok, a1, noX, swc, mL, if_true, if_false, ↓reduceIte, cond_true, cond_false, true_and, and_true, List.length_cons, List.length_nil, List.nil_append, List.cons_append, List.append_nil, Option.toList, Nat.reduceEqDiff, Bool.false_eq_true, reduceCtorEq, Nat.reduceAdd, Nat.reduceLT, Nat.reduceLeDiff, Nat.reduceSub, List.replicate, Nat.zero_add, Nat.lt_add_one, Nat.le_refl, Nat.zero_le, Nat.succ_ne_zero, not_false_eq_true, not_true_eq_false, false_implies, true_implies, forall_const, imp_self, true_or, or_true, eq_self, sI_zw, zw_zw, hI_zw, tg_zw, ln_zw, hR_zw, hL_zw, hN_zw, hM_zw, upd_s, upd_u, upd_ne, Classical.not_not, k_Hp_total, x6]; try clear hgo9 hW9)
    exact hQ
theorem c_Hp_count (A : Nat → Nat) (w : Int32) (z zs t : Nat → Int32) (n : Nat) (h : AH) (Q : Po) (k : HpR h A z zs t n) (iv : Inv z) (q1 : ¬ (nI 0 ≤ w ∧ w ≤ nI 11) → Q (.inr IAE) (nx h)) (q2 : ∀ j, j < 12 → w = nI j → Q (.inl (some (.int (ctZ z (hI h (A 0) 6) j)))) h) : Call l G M_Hp_count [.ref (A 0), .int w] h Q := by
  have x6 := k.1.1.1
  refine call_of rfl rfl (Nat.le_of_ble_eq_true rfl) ?_
  (obtain ⟨W9, hW9, hgo9⟩ := wp_ex (T_Hp_count l G) [] _; refine hgo9 200 _ _ _ _ ?_; simp -implicitDefEqProofs (disch := omega) only [hW9, inl, gate, Xq, tz_const, tz_iload, tz_lload, tz_dload, tz_aload, tz_istore, tz_astore, tz_lstore, tz_dstore, tz_iinc, tz_i1, tz_i2, tz_i2z, tz_l2, tz_l2z, tz_i2l, tz_l2i, tz_lcmp, tz_i2d, tz_d2, tz_dcmp, tz_dup, tz_dup2, tz_pop, tz_if, tz_icmp, tz_null, tz_goto, tz_sw, tz_getf, tz_puti, tz_putz, tz_putr, tz_putl, tz_iaload, tz_baload, tz_laload, tz_aaload, tz_iastore, tz_bastore, tz_lastore, tz_aastore, tz_alen, tz_new, tz_newa, tz_oinit, tz_iret, tz_zret, tz_lret, tz_dret, tz_aret, tz_vret, tz_throw, tz_callS, tz_callV, tz_callI, tz_callR, tz_pureS, tz_pureV, tz_callVH, lg, lset, lkill, lst1, lst2, entL, isRf, is1, vl, va_rf_none, va_rf_some, isRf_rf, is1_rf, i0, i1, bI_eq0, bI_eq1, nm_em, nI_eqP, nI_leP, nI_ltP, nN_e1, nN_e2, nN_l1, nN_l2, nN_l3, nN_l4, nI_add, pk_mul, vp_inN, nI_cl, n01, n10, P_i, P_ii, P_iii, f_Mo_at, f_Mo_map, f_Mo_contact, f_Mo_within, f_Mo_isPort, f_Hp_endpoint, f_Hp_nodeOf, f_Hp_portOf, f_Ma_max, f_Ma_min, f_Hp_isSetting, popN, rok, a1, noX, swc, mL, if_true, if_false, ↓reduceIte, cond_true, cond_false, true_and, and_true, List.length_cons, List.length_nil, List.nil_append, List.cons_append, List.append_nil, Option.toList, Nat.reduceEqDiff, Bool.false_eq_true, reduceCtorEq, Nat.reduceAdd, Nat.reduceLT, Nat.reduceLeDiff, Nat.reduceSub, List.replicate, Nat.zero_add, Nat.lt_add_one, Nat.le_refl, Nat.zero_le, Nat.succ_ne_zero, not_false_eq_true, not_true_eq_false, false_implies, true_implies, forall_const, imp_self, true_or, or_true, eq_self, sI_zw, zw_zw, hI_zw, tg_zw, ln_zw, hR_zw, hL_zw, hN_zw, hM_zw, upd_s, upd_u, upd_ne, Classical.not_not, k_Hp_count, x6, f_Hp_isWithin]; try clear hgo9 hW9)
  refine ⟨fun c => ?_, fun c => ?_⟩
  · obtain ⟨j, j1, rfl⟩ := wi_nat (by omega) c
    (obtain ⟨W9, hW9, hgo9⟩ := wp_ex (T_Hp_count l G) [] _; refine hgo9 200 _ _ _ _ ?_; simp -implicitDefEqProofs (disch := omega) only [hW9, inl, gate, Xq, tz_const, tz_iload, tz_lload, tz_dload, tz_aload, tz_istore, tz_astore, tz_lstore, tz_dstore, tz_iinc, tz_i1, tz_i2, tz_i2z, tz_l2, tz_l2z, tz_i2l, tz_l2i, tz_lcmp, tz_i2d, tz_d2, tz_dcmp, tz_dup, tz_dup2, tz_pop, tz_if, tz_icmp, tz_null, tz_goto, tz_sw, tz_getf, tz_puti, tz_putz, tz_putr, tz_putl, tz_iaload, tz_baload, tz_laload, tz_aaload, tz_iastore, tz_bastore, tz_lastore, tz_aastore, tz_alen, tz_new, tz_newa, tz_oinit, tz_iret, tz_zret, tz_lret, tz_dret, tz_aret, tz_vret, tz_throw, tz_callS, tz_callV, tz_callI, tz_callR, tz_pureS, tz_pureV, tz_callVH, lg, lset, lkill, lst1, lst2, entL, isRf, is1, vl, va_rf_none, va_rf_some, isRf_rf, is1_rf, i0, i1, bI_eq0, bI_eq1, nm_em, nI_eqP, nI_leP, nI_ltP, nN_e1, nN_e2, nN_l1, nN_l2, nN_l3, nN_l4, nI_add, pk_mul, vp_inN, nI_cl, n01, n10, P_i, P_ii, P_iii, f_Mo_at, f_Mo_map, f_Mo_contact, f_Mo_within, f_Mo_isPort, f_Hp_endpoint, f_Hp_nodeOf, f_Hp_portOf, f_Ma_max, f_Ma_min, f_Hp_isSetting, popN, rok, a1, noX, swc, mL, if_true, if_false, ↓reduceIte, cond_true, cond_false, true_and, and_true, List.length_cons, List.length_nil, List.nil_append, List.cons_append, List.append_nil, Option.toList, Nat.reduceEqDiff, Bool.false_eq_true, reduceCtorEq, Nat.reduceAdd, Nat.reduceLT, Nat.reduceLeDiff, Nat.reduceSub, List.replicate, Nat.zero_add, Nat.lt_add_one, Nat.le_refl, Nat.zero_le, Nat.succ_ne_zero, not_false_eq_true, not_true_eq_false, false_implies, true_implies, forall_const, imp_self, true_or, or_true, eq_self, sI_zw, zw_zw, hI_zw, tg_zw, ln_zw, hR_zw, hL_zw, hN_zw, hM_zw, upd_s, upd_u, upd_ne, Classical.not_not, k_Hp_count, x6]; try clear hgo9 hW9)
    refine c_Hp_total A j z zs t n h _ k iv (by omega) ?_
    simp only [aft]
    (obtain ⟨W9, hW9, hgo9⟩ := wp_ex (T_Hp_count l G) [] _; refine hgo9 200 _ _ _ _ ?_; simp -implicitDefEqProofs (disch := omega) only [hW9, inl, gate, Xq, tz_const, tz_iload, tz_lload, tz_dload, tz_aload, tz_istore, tz_astore, tz_lstore, tz_dstore, tz_iinc, tz_i1, tz_i2, tz_i2z, tz_l2, tz_l2z, tz_i2l, tz_l2i, tz_lcmp, tz_i2d, tz_d2, tz_dcmp, tz_dup, tz_dup2, tz_pop, tz_if, tz_icmp, tz_null, tz_goto, tz_sw, tz_getf, tz_puti, tz_putz, tz_putr, tz_putl, tz_iaload, tz_baload, tz_laload, tz_aaload, tz_iastore, tz_bastore, tz_lastore, tz_aastore, tz_alen, tz_new, tz_newa, tz_oinit, tz_iret, tz_zret, tz_lret, tz_dret, tz_aret, tz_vret, tz_throw, tz_callS, tz_callV, tz_callI, tz_callR, tz_pureS, tz_pureV, tz_callVH, lg, lset, lkill, lst1, lst2, entL, isRf, is1, vl, va_rf_none, va_rf_some, isRf_rf, is1_rf, i0, i1, bI_eq0, bI_eq1, nm_em, nI_eqP, nI_leP, nI_ltP, nN_e1, nN_e2, nN_l1, nN_l2, nN_l3, nN_l4, nI_add, pk_mul, vp_inN, nI_cl, n01, n10, P_i, P_ii, P_iii, f_Mo_at, f_Mo_map, f_Mo_contact, f_Mo_within, f_Mo_isPort, f_Hp_endpoint, f_Hp_nodeOf, f_Hp_portOf, f_Ma_max, f_Ma_min, f_Hp_isSetting, popN, rok, a1, noX, swc, mL, if_true, if_false, ↓reduceIte, cond_true, cond_false, true_and, and_true, List.length_cons, List.length_nil, List.nil_append, List.cons_append, List.append_nil, Option.toList, Nat.reduceEqDiff, Bool.false_eq_true, reduceCtorEq, Nat.reduceAdd, Nat.reduceLT, Nat.reduceLeDiff, Nat.reduceSub, List.replicate, Nat.zero_add, Nat.lt_add_one, Nat.le_refl, Nat.zero_le, Nat.succ_ne_zero, not_false_eq_true, not_true_eq_false, false_implies, true_implies, forall_const, imp_self, true_or, or_true, eq_self, sI_zw, zw_zw, hI_zw, tg_zw, ln_zw, hR_zw, hL_zw, hN_zw, hM_zw, upd_s, upd_u, upd_ne, Classical.not_not, k_Hp_count, x6]; try clear hgo9 hW9)
    exact q2 j (by omega) rfl
  · (obtain ⟨W9, hW9, hgo9⟩ := wp_ex (T_Hp_count l G) [] _; refine hgo9 200 _ _ _ _ ?_; simp -implicitDefEqProofs (disch := omega) only [hW9, inl, gate, Xq, tz_const, tz_iload, tz_lload, tz_dload, tz_aload, tz_istore, tz_astore, tz_lstore, tz_dstore, tz_iinc, tz_i1, tz_i2, tz_i2z, tz_l2, tz_l2z, tz_i2l, tz_l2i, tz_lcmp, tz_i2d, tz_d2, tz_dcmp, tz_dup, tz_dup2, tz_pop, tz_if, tz_icmp, tz_null, tz_goto, tz_sw, tz_getf, tz_puti, tz_putz, tz_putr, tz_putl, tz_iaload, tz_baload, tz_laload, tz_aaload, tz_iastore, tz_bastore, tz_lastore, tz_aastore, tz_alen, tz_new, tz_newa, tz_oinit, tz_iret, tz_zret, tz_lret, tz_dret, tz_aret, tz_vret, tz_throw, tz_callS, tz_callV, tz_callI, tz_callR, tz_pureS, tz_pureV, tz_callVH, lg, lset, lkill, lst1, lst2, entL, isRf, is1, vl, va_rf_none, va_rf_some, isRf_rf, is1_rf, i0, i1, bI_eq0, bI_eq1, nm_em, nI_eqP, nI_leP, nI_ltP, nN_e1, nN_e2, nN_l1, nN_l2, nN_l3, nN_l4, nI_add, pk_mul, vp_inN, nI_cl, n01, n10, P_i, P_ii, P_iii, f_Mo_at, f_Mo_map, f_Mo_contact, f_Mo_within, f_Mo_isPort, f_Hp_endpoint, f_Hp_nodeOf, f_Hp_portOf, f_Ma_max, f_Ma_min, f_Hp_isSetting, popN, rok, a1, noX, swc, mL, if_true, if_false, ↓reduceIte, cond_true, cond_false, true_and, and_true, List.length_cons, List.length_nil, List.nil_append, List.cons_append, List.append_nil, Option.toList, Nat.reduceEqDiff, Bool.false_eq_true, reduceCtorEq, Nat.reduceAdd, Nat.reduceLT, Nat.reduceLeDiff, Nat.reduceSub, List.replicate, Nat.zero_add, Nat.lt_add_one, Nat.le_refl, Nat.zero_le, Nat.succ_ne_zero, not_false_eq_true, not_true_eq_false, false_implies, true_implies, forall_const, imp_self, true_or, or_true, eq_self, sI_zw, zw_zw, hI_zw, tg_zw, ln_zw, hR_zw, hL_zw, hN_zw, hM_zw, upd_s, upd_u, upd_ne, Classical.not_not, k_Hp_count, x6]; try clear hgo9 hW9)
    exact q1 c
theorem c_Nw_nodeProperty (wn i w : Nat) (z : Nat → Int32) (h : AH) (Q : Po) (k : NwR h wn z) (inv : Inv0 z) (hi : i < mny z) (hw : w < 7) (hQ : Q (.inl (some (.int (npZ z i w)))) h) : Call l G M_Nw_nodeProperty [.ref wn, .int (nI i), .int (nI w)] h Q := by
  have m10 := inv.1.at.2
  have w1 := k.1.1.1
  obtain ⟨d, e1, -, sd, nv, -⟩ := k.node m10 hi
  have d3 := sd.1
  have hP : P_Nw_nodeAt [.ref wn, .int (nI i)] h := k.1.1
  have hPd : P_No_hasDelivery [.ref d] h := trivial
  obtain ⟨v0, v1, v2, v3, v4⟩ := id nv
  have cs : w = 0 ∨ w = 1 ∨ w = 2 ∨ w = 3 ∨ w = 4 ∨ w = 5 ∨ w = 6 := by omega
  have kd := (inv.2.2.2 i hi).1.1
  refine call_of rfl rfl (Nat.le_of_ble_eq_true rfl) ?_
  rcases (inv.2.2.2 i hi).2.1 with ⟨c1, c2, c3⟩ | ⟨-, ⟨b, b1, b2⟩, ⟨q, q11, q12, q13⟩, ⟨p, p11, p12, p13⟩⟩
  · have ed : f_No_hasDelivery [.ref d] h = .int (nI 0) := by
      simp only [f_No_hasDelivery]
      rw [v3, c1]
      unfold encD
      rw [if_pos rfl, bI_f (fun q => q rfl)]
    rcases cs with rfl | rfl | rfl | rfl | rfl | rfl | rfl
    · have hQ' : Q (.inl (some (.int (z (16 + 16 * i))))) h := hQ
      rcases kd with q | q
      · have v := v0 q
        rw [q] at hQ'
        ((obtain ⟨W9, hW9, hgo9⟩ := wp_ex (T_Nw_nodeProperty l G) [] _; refine hgo9 200 _ _ _ _ ?_; simp -implicitDefEqProofs (disch := omega) only [hW9, inl, gate, Xq, tz_const, tz_iload, tz_lload, tz_dload, tz_aload, tz_istore, tz_astore, tz_lstore, tz_dstore, tz_iinc, tz_i1, tz_i2, tz_i2z, tz_l2, tz_l2z, tz_i2l, tz_l2i, tz_lcmp, tz_i2d, tz_d2, tz_dcmp, tz_dup, tz_dup2, tz_pop, tz_if, tz_icmp, tz_null, tz_goto, tz_sw, tz_getf, tz_puti, tz_putz, tz_putr, tz_putl, tz_iaload, tz_baload, tz_laload, tz_aaload, tz_iastore, tz_bastore, tz_lastore, tz_aastore, tz_alen, tz_new, tz_newa, tz_oinit, tz_iret, tz_zret, tz_lret, tz_dret, tz_aret, tz_vret, tz_throw, tz_callS, tz_callV, tz_callI, tz_callR, tz_pureS, tz_pureV, tz_callVH, lg, lset, lkill, lst1, lst2, entL, isRf, is1, vl, va_rf_none, va_rf_some, isRf_rf, is1_rf, i0, i1, bI_eq0, bI_eq1, nm_em, nI_eqP, nI_leP, nI_ltP, nN_e1, nN_e2, nN_l1, nN_l2, nN_l3, nN_l4, nI_add, pk_mul, vp_inN, nI_cl, n01, n10, P_i, P_ii, P_iii, f_Mo_at, f_Mo_map, f_Mo_contact, f_Mo_within, f_Mo_isPort, f_Hp_endpoint, f_Hp_nodeOf, f_Hp_portOf, f_Ma_max, f_Ma_min, f_Hp_isSetting, popN, rok, a1, noX, swc, mL, if_true, if_false, ↓reduceIte, cond_true, cond_false, true_and, and_true, List.length_cons, List.length_nil, List.nil_append, List.cons_append, List.append_nil, Option.toList, Nat.reduceEqDiff, Bool.false_eq_true, reduceCtorEq, Nat.reduceAdd, Nat.reduceLT, Nat.reduceLeDiff, Nat.reduceSub, List.replicate, Nat.zero_add, Nat.lt_add_one, Nat.le_refl, Nat.zero_le, Nat.succ_ne_zero, not_false_eq_true, not_true_eq_false, false_implies, true_implies, forall_const, imp_self, true_or, or_true, eq_self, sI_zw, zw_zw, hI_zw, tg_zw, ln_zw, hR_zw, hL_zw, hN_zw, hM_zw, upd_s, upd_u, upd_ne, Classical.not_not, k_Nw_nodeProperty, w1, hP, f_Nw_nodeAt, e1, d3, v]; try clear hgo9 hW9); try (obtain ⟨W9, hW9, hgo9⟩ := wp_ex (T_Nw_nodeProperty l G) [] _; refine hgo9 200 _ _ _ _ ?_; simp -implicitDefEqProofs (disch := omega) only [hW9, inl, gate, Xq, tz_const, tz_iload, tz_lload, tz_dload, tz_aload, tz_istore, tz_astore, tz_lstore, tz_dstore, tz_iinc, tz_i1, tz_i2, tz_i2z, tz_l2, tz_l2z, tz_i2l, tz_l2i, tz_lcmp, tz_i2d, tz_d2, tz_dcmp, tz_dup, tz_dup2, tz_pop, tz_if, tz_icmp, tz_null, tz_goto, tz_sw, tz_getf, tz_puti, tz_putz, tz_putr, tz_putl, tz_iaload, tz_baload, tz_laload, tz_aaload, tz_iastore, tz_bastore, tz_lastore, tz_aastore, tz_alen, tz_new, tz_newa, tz_oinit, tz_iret, tz_zret, tz_lret, tz_dret, tz_aret, tz_vret, tz_throw, tz_callS, tz_callV, tz_callI, tz_callR, tz_pureS, tz_pureV, tz_callVH, lg, lset, lkill, lst1, lst2, entL, isRf, is1, vl, va_rf_none, va_rf_some, isRf_rf, is1_rf, i0, i1, bI_eq0, bI_eq1, nm_em, nI_eqP, nI_leP, nI_ltP, nN_e1, nN_e2, nN_l1, nN_l2, nN_l3, nN_l4, nI_add, pk_mul, vp_inN, nI_cl, n01, n10, P_i, P_ii, P_iii, f_Mo_at, f_Mo_map, f_Mo_contact, f_Mo_within, f_Mo_isPort, f_Hp_endpoint, f_Hp_nodeOf, f_Hp_portOf, f_Ma_max, f_Ma_min, f_Hp_isSetting, popN, rok, a1, noX, swc, mL, if_true, if_false, ↓reduceIte, cond_true, cond_false, true_and, and_true, List.length_cons, List.length_nil, List.nil_append, List.cons_append, List.append_nil, Option.toList, Nat.reduceEqDiff, Bool.false_eq_true, reduceCtorEq, Nat.reduceAdd, Nat.reduceLT, Nat.reduceLeDiff, Nat.reduceSub, List.replicate, Nat.zero_add, Nat.lt_add_one, Nat.le_refl, Nat.zero_le, Nat.succ_ne_zero, not_false_eq_true, not_true_eq_false, false_implies, true_implies, forall_const, imp_self, true_or, or_true, eq_self, sI_zw, zw_zw, hI_zw, tg_zw, ln_zw, hR_zw, hL_zw, hN_zw, hM_zw, upd_s, upd_u, upd_ne, Classical.not_not, k_Nw_nodeProperty, w1, hP, f_Nw_nodeAt, e1, d3, v]; try clear hgo9 hW9); try (obtain ⟨W9, hW9, hgo9⟩ := wp_ex (T_Nw_nodeProperty l G) [] _; refine hgo9 200 _ _ _ _ ?_; simp -implicitDefEqProofs (disch := omega) only [hW9, inl, gate, Xq, tz_const, tz_iload, tz_lload, tz_dload, tz_aload, tz_istore, tz_astore, tz_lstore, tz_dstore, tz_iinc, tz_i1, tz_i2, tz_i2z, tz_l2, tz_l2z, tz_i2l, tz_l2i, tz_lcmp, tz_i2d, tz_d2, tz_dcmp, tz_dup, tz_dup2, tz_pop, tz_if, tz_icmp, tz_null, tz_goto, tz_sw, tz_getf, tz_puti, tz_putz, tz_putr, tz_putl, tz_iaload, tz_baload, tz_laload, tz_aaload, tz_iastore, tz_bastore, tz_lastore, tz_aastore, tz_alen, tz_new, tz_newa, tz_oinit, tz_iret, tz_zret, tz_lret, tz_dret, tz_aret, tz_vret, tz_throw, tz_callS, tz_callV, tz_callI, tz_callR, tz_pureS, tz_pureV, tz_callVH, lg, lset, lkill, lst1, lst2, entL, isRf, is1, vl, va_rf_none, va_rf_some, isRf_rf, is1_rf, i0, i1, bI_eq0, bI_eq1, nm_em, nI_eqP, nI_leP, nI_ltP, nN_e1, nN_e2, nN_l1, nN_l2, nN_l3, nN_l4, nI_add, pk_mul, vp_inN, nI_cl, n01, n10, P_i, P_ii, P_iii, f_Mo_at, f_Mo_map, f_Mo_contact, f_Mo_within, f_Mo_isPort, f_Hp_endpoint, f_Hp_nodeOf, f_Hp_portOf, f_Ma_max, f_Ma_min, f_Hp_isSetting, popN, rok, a1, noX, swc, mL, if_true, if_false, ↓reduceIte, cond_true, cond_false, true_and, and_true, List.length_cons, List.length_nil, List.nil_append, List.cons_append, List.append_nil, Option.toList, Nat.reduceEqDiff, Bool.false_eq_true, reduceCtorEq, Nat.reduceAdd, Nat.reduceLT, Nat.reduceLeDiff, Nat.reduceSub, List.replicate, Nat.zero_add, Nat.lt_add_one, Nat.le_refl, Nat.zero_le, Nat.succ_ne_zero, not_false_eq_true, not_true_eq_false, false_implies, true_implies, forall_const, imp_self, true_or, or_true, eq_self, sI_zw, zw_zw, hI_zw, tg_zw, ln_zw, hR_zw, hL_zw, hN_zw, hM_zw, upd_s, upd_u, upd_ne, Classical.not_not, k_Nw_nodeProperty, w1, hP, f_Nw_nodeAt, e1, d3, v]; try clear hgo9 hW9))
        exact hQ'
      · have v := v1 q
        rw [q] at hQ'
        ((obtain ⟨W9, hW9, hgo9⟩ := wp_ex (T_Nw_nodeProperty l G) [] _; refine hgo9 200 _ _ _ _ ?_; simp -implicitDefEqProofs (disch := omega) only [hW9, inl, gate, Xq, tz_const, tz_iload, tz_lload, tz_dload, tz_aload, tz_istore, tz_astore, tz_lstore, tz_dstore, tz_iinc, tz_i1, tz_i2, tz_i2z, tz_l2, tz_l2z, tz_i2l, tz_l2i, tz_lcmp, tz_i2d, tz_d2, tz_dcmp, tz_dup, tz_dup2, tz_pop, tz_if, tz_icmp, tz_null, tz_goto, tz_sw, tz_getf, tz_puti, tz_putz, tz_putr, tz_putl, tz_iaload, tz_baload, tz_laload, tz_aaload, tz_iastore, tz_bastore, tz_lastore, tz_aastore, tz_alen, tz_new, tz_newa, tz_oinit, tz_iret, tz_zret, tz_lret, tz_dret, tz_aret, tz_vret, tz_throw, tz_callS, tz_callV, tz_callI, tz_callR, tz_pureS, tz_pureV, tz_callVH, lg, lset, lkill, lst1, lst2, entL, isRf, is1, vl, va_rf_none, va_rf_some, isRf_rf, is1_rf, i0, i1, bI_eq0, bI_eq1, nm_em, nI_eqP, nI_leP, nI_ltP, nN_e1, nN_e2, nN_l1, nN_l2, nN_l3, nN_l4, nI_add, pk_mul, vp_inN, nI_cl, n01, n10, P_i, P_ii, P_iii, f_Mo_at, f_Mo_map, f_Mo_contact, f_Mo_within, f_Mo_isPort, f_Hp_endpoint, f_Hp_nodeOf, f_Hp_portOf, f_Ma_max, f_Ma_min, f_Hp_isSetting, popN, rok, a1, noX, swc, mL, if_true, if_false, ↓reduceIte, cond_true, cond_false, true_and, and_true, List.length_cons, List.length_nil, List.nil_append, List.cons_append, List.append_nil, Option.toList, Nat.reduceEqDiff, Bool.false_eq_true, reduceCtorEq, Nat.reduceAdd, Nat.reduceLT, Nat.reduceLeDiff, Nat.reduceSub, List.replicate, Nat.zero_add, Nat.lt_add_one, Nat.le_refl, Nat.zero_le, Nat.succ_ne_zero, not_false_eq_true, not_true_eq_false, false_implies, true_implies, forall_const, imp_self, true_or, or_true, eq_self, sI_zw, zw_zw, hI_zw, tg_zw, ln_zw, hR_zw, hL_zw, hN_zw, hM_zw, upd_s, upd_u, upd_ne, Classical.not_not, k_Nw_nodeProperty, w1, hP, f_Nw_nodeAt, e1, d3, v]; try clear hgo9 hW9); try (obtain ⟨W9, hW9, hgo9⟩ := wp_ex (T_Nw_nodeProperty l G) [] _; refine hgo9 200 _ _ _ _ ?_; simp -implicitDefEqProofs (disch := omega) only [hW9, inl, gate, Xq, tz_const, tz_iload, tz_lload, tz_dload, tz_aload, tz_istore, tz_astore, tz_lstore, tz_dstore, tz_iinc, tz_i1, tz_i2, tz_i2z, tz_l2, tz_l2z, tz_i2l, tz_l2i, tz_lcmp, tz_i2d, tz_d2, tz_dcmp, tz_dup, tz_dup2, tz_pop, tz_if, tz_icmp, tz_null, tz_goto, tz_sw, tz_getf, tz_puti, tz_putz, tz_putr, tz_putl, tz_iaload, tz_baload, tz_laload, tz_aaload, tz_iastore, tz_bastore, tz_lastore, tz_aastore, tz_alen, tz_new, tz_newa, tz_oinit, tz_iret, tz_zret, tz_lret, tz_dret, tz_aret, tz_vret, tz_throw, tz_callS, tz_callV, tz_callI, tz_callR, tz_pureS, tz_pureV, tz_callVH, lg, lset, lkill, lst1, lst2, entL, isRf, is1, vl, va_rf_none, va_rf_some, isRf_rf, is1_rf, i0, i1, bI_eq0, bI_eq1, nm_em, nI_eqP, nI_leP, nI_ltP, nN_e1, nN_e2, nN_l1, nN_l2, nN_l3, nN_l4, nI_add, pk_mul, vp_inN, nI_cl, n01, n10, P_i, P_ii, P_iii, f_Mo_at, f_Mo_map, f_Mo_contact, f_Mo_within, f_Mo_isPort, f_Hp_endpoint, f_Hp_nodeOf, f_Hp_portOf, f_Ma_max, f_Ma_min, f_Hp_isSetting, popN, rok, a1, noX, swc, mL, if_true, if_false, ↓reduceIte, cond_true, cond_false, true_and, and_true, List.length_cons, List.length_nil, List.nil_append, List.cons_append, List.append_nil, Option.toList, Nat.reduceEqDiff, Bool.false_eq_true, reduceCtorEq, Nat.reduceAdd, Nat.reduceLT, Nat.reduceLeDiff, Nat.reduceSub, List.replicate, Nat.zero_add, Nat.lt_add_one, Nat.le_refl, Nat.zero_le, Nat.succ_ne_zero, not_false_eq_true, not_true_eq_false, false_implies, true_implies, forall_const, imp_self, true_or, or_true, eq_self, sI_zw, zw_zw, hI_zw, tg_zw, ln_zw, hR_zw, hL_zw, hN_zw, hM_zw, upd_s, upd_u, upd_ne, Classical.not_not, k_Nw_nodeProperty, w1, hP, f_Nw_nodeAt, e1, d3, v]; try clear hgo9 hW9); try (obtain ⟨W9, hW9, hgo9⟩ := wp_ex (T_Nw_nodeProperty l G) [] _; refine hgo9 200 _ _ _ _ ?_; simp -implicitDefEqProofs (disch := omega) only [hW9, inl, gate, Xq, tz_const, tz_iload, tz_lload, tz_dload, tz_aload, tz_istore, tz_astore, tz_lstore, tz_dstore, tz_iinc, tz_i1, tz_i2, tz_i2z, tz_l2, tz_l2z, tz_i2l, tz_l2i, tz_lcmp, tz_i2d, tz_d2, tz_dcmp, tz_dup, tz_dup2, tz_pop, tz_if, tz_icmp, tz_null, tz_goto, tz_sw, tz_getf, tz_puti, tz_putz, tz_putr, tz_putl, tz_iaload, tz_baload, tz_laload, tz_aaload, tz_iastore, tz_bastore, tz_lastore, tz_aastore, tz_alen, tz_new, tz_newa, tz_oinit, tz_iret, tz_zret, tz_lret, tz_dret, tz_aret, tz_vret, tz_throw, tz_callS, tz_callV, tz_callI, tz_callR, tz_pureS, tz_pureV, tz_callVH, lg, lset, lkill, lst1, lst2, entL, isRf, is1, vl, va_rf_none, va_rf_some, isRf_rf, is1_rf, i0, i1, bI_eq0, bI_eq1, nm_em, nI_eqP, nI_leP, nI_ltP, nN_e1, nN_e2, nN_l1, nN_l2, nN_l3, nN_l4, nI_add, pk_mul, vp_inN, nI_cl, n01, n10, P_i, P_ii, P_iii, f_Mo_at, f_Mo_map, f_Mo_contact, f_Mo_within, f_Mo_isPort, f_Hp_endpoint, f_Hp_nodeOf, f_Hp_portOf, f_Ma_max, f_Ma_min, f_Hp_isSetting, popN, rok, a1, noX, swc, mL, if_true, if_false, ↓reduceIte, cond_true, cond_false, true_and, and_true, List.length_cons, List.length_nil, List.nil_append, List.cons_append, List.append_nil, Option.toList, Nat.reduceEqDiff, Bool.false_eq_true, reduceCtorEq, Nat.reduceAdd, Nat.reduceLT, Nat.reduceLeDiff, Nat.reduceSub, List.replicate, Nat.zero_add, Nat.lt_add_one, Nat.le_refl, Nat.zero_le, Nat.succ_ne_zero, not_false_eq_true, not_true_eq_false, false_implies, true_implies, forall_const, imp_self, true_or, or_true, eq_self, sI_zw, zw_zw, hI_zw, tg_zw, ln_zw, hR_zw, hL_zw, hN_zw, hM_zw, upd_s, upd_u, upd_ne, Classical.not_not, k_Nw_nodeProperty, w1, hP, f_Nw_nodeAt, e1, d3, v]; try clear hgo9 hW9))
        exact hQ'
    · ((obtain ⟨W9, hW9, hgo9⟩ := wp_ex (T_Nw_nodeProperty l G) [] _; refine hgo9 200 _ _ _ _ ?_; simp -implicitDefEqProofs (disch := omega) only [hW9, inl, gate, Xq, tz_const, tz_iload, tz_lload, tz_dload, tz_aload, tz_istore, tz_astore, tz_lstore, tz_dstore, tz_iinc, tz_i1, tz_i2, tz_i2z, tz_l2, tz_l2z, tz_i2l, tz_l2i, tz_lcmp, tz_i2d, tz_d2, tz_dcmp, tz_dup, tz_dup2, tz_pop, tz_if, tz_icmp, tz_null, tz_goto, tz_sw, tz_getf, tz_puti, tz_putz, tz_putr, tz_putl, tz_iaload, tz_baload, tz_laload, tz_aaload, tz_iastore, tz_bastore, tz_lastore, tz_aastore, tz_alen, tz_new, tz_newa, tz_oinit, tz_iret, tz_zret, tz_lret, tz_dret, tz_aret, tz_vret, tz_throw, tz_callS, tz_callV, tz_callI, tz_callR, tz_pureS, tz_pureV, tz_callVH, lg, lset, lkill, lst1, lst2, entL, isRf, is1, vl, va_rf_none, va_rf_some, isRf_rf, is1_rf, i0, i1, bI_eq0, bI_eq1, nm_em, nI_eqP, nI_leP, nI_ltP, nN_e1, nN_e2, nN_l1, nN_l2, nN_l3, nN_l4, nI_add, pk_mul, vp_inN, nI_cl, n01, n10, P_i, P_ii, P_iii, f_Mo_at, f_Mo_map, f_Mo_contact, f_Mo_within, f_Mo_isPort, f_Hp_endpoint, f_Hp_nodeOf, f_Hp_portOf, f_Ma_max, f_Ma_min, f_Hp_isSetting, popN, rok, a1, noX, swc, mL, if_true, if_false, ↓reduceIte, cond_true, cond_false, true_and, and_true, List.length_cons, List.length_nil, List.nil_append, List.cons_append, List.append_nil, Option.toList, Nat.reduceEqDiff, Bool.false_eq_true, reduceCtorEq, Nat.reduceAdd, Nat.reduceLT, Nat.reduceLeDiff, Nat.reduceSub, List.replicate, Nat.zero_add, Nat.lt_add_one, Nat.le_refl, Nat.zero_le, Nat.succ_ne_zero, not_false_eq_true, not_true_eq_false, false_implies, true_implies, forall_const, imp_self, true_or, or_true, eq_self, sI_zw, zw_zw, hI_zw, tg_zw, ln_zw, hR_zw, hL_zw, hN_zw, hM_zw, upd_s, upd_u, upd_ne, Classical.not_not, k_Nw_nodeProperty, w1, hP, f_Nw_nodeAt, e1, d3, v2]; try clear hgo9 hW9); try (obtain ⟨W9, hW9, hgo9⟩ := wp_ex (T_Nw_nodeProperty l G) [] _; refine hgo9 200 _ _ _ _ ?_; simp -implicitDefEqProofs (disch := omega) only [hW9, inl, gate, Xq, tz_const, tz_iload, tz_lload, tz_dload, tz_aload, tz_istore, tz_astore, tz_lstore, tz_dstore, tz_iinc, tz_i1, tz_i2, tz_i2z, tz_l2, tz_l2z, tz_i2l, tz_l2i, tz_lcmp, tz_i2d, tz_d2, tz_dcmp, tz_dup, tz_dup2, tz_pop, tz_if, tz_icmp, tz_null, tz_goto, tz_sw, tz_getf, tz_puti, tz_putz, tz_putr, tz_putl, tz_iaload, tz_baload, tz_laload, tz_aaload, tz_iastore, tz_bastore, tz_lastore, tz_aastore, tz_alen, tz_new, tz_newa, tz_oinit, tz_iret, tz_zret, tz_lret, tz_dret, tz_aret, tz_vret, tz_throw, tz_callS, tz_callV, tz_callI, tz_callR, tz_pureS, tz_pureV, tz_callVH, lg, lset, lkill, lst1, lst2, entL, isRf, is1, vl, va_rf_none, va_rf_some, isRf_rf, is1_rf, i0, i1, bI_eq0, bI_eq1, nm_em, nI_eqP, nI_leP, nI_ltP, nN_e1, nN_e2, nN_l1, nN_l2, nN_l3, nN_l4, nI_add, pk_mul, vp_inN, nI_cl, n01, n10, P_i, P_ii, P_iii, f_Mo_at, f_Mo_map, f_Mo_contact, f_Mo_within, f_Mo_isPort, f_Hp_endpoint, f_Hp_nodeOf, f_Hp_portOf, f_Ma_max, f_Ma_min, f_Hp_isSetting, popN, rok, a1, noX, swc, mL, if_true, if_false, ↓reduceIte, cond_true, cond_false, true_and, and_true, List.length_cons, List.length_nil, List.nil_append, List.cons_append, List.append_nil, Option.toList, Nat.reduceEqDiff, Bool.false_eq_true, reduceCtorEq, Nat.reduceAdd, Nat.reduceLT, Nat.reduceLeDiff, Nat.reduceSub, List.replicate, Nat.zero_add, Nat.lt_add_one, Nat.le_refl, Nat.zero_le, Nat.succ_ne_zero, not_false_eq_true, not_true_eq_false, false_implies, true_implies, forall_const, imp_self, true_or, or_true, eq_self, sI_zw, zw_zw, hI_zw, tg_zw, ln_zw, hR_zw, hL_zw, hN_zw, hM_zw, upd_s, upd_u, upd_ne, Classical.not_not, k_Nw_nodeProperty, w1, hP, f_Nw_nodeAt, e1, d3, v2]; try clear hgo9 hW9))
      exact hQ
    · ((obtain ⟨W9, hW9, hgo9⟩ := wp_ex (T_Nw_nodeProperty l G) [] _; refine hgo9 200 _ _ _ _ ?_; simp -implicitDefEqProofs (disch := omega) only [hW9, inl, gate, Xq, tz_const, tz_iload, tz_lload, tz_dload, tz_aload, tz_istore, tz_astore, tz_lstore, tz_dstore, tz_iinc, tz_i1, tz_i2, tz_i2z, tz_l2, tz_l2z, tz_i2l, tz_l2i, tz_lcmp, tz_i2d, tz_d2, tz_dcmp, tz_dup, tz_dup2, tz_pop, tz_if, tz_icmp, tz_null, tz_goto, tz_sw, tz_getf, tz_puti, tz_putz, tz_putr, tz_putl, tz_iaload, tz_baload, tz_laload, tz_aaload, tz_iastore, tz_bastore, tz_lastore, tz_aastore, tz_alen, tz_new, tz_newa, tz_oinit, tz_iret, tz_zret, tz_lret, tz_dret, tz_aret, tz_vret, tz_throw, tz_callS, tz_callV, tz_callI, tz_callR, tz_pureS, tz_pureV, tz_callVH, lg, lset, lkill, lst1, lst2, entL, isRf, is1, vl, va_rf_none, va_rf_some, isRf_rf, is1_rf, i0, i1, bI_eq0, bI_eq1, nm_em, nI_eqP, nI_leP, nI_ltP, nN_e1, nN_e2, nN_l1, nN_l2, nN_l3, nN_l4, nI_add, pk_mul, vp_inN, nI_cl, n01, n10, P_i, P_ii, P_iii, f_Mo_at, f_Mo_map, f_Mo_contact, f_Mo_within, f_Mo_isPort, f_Hp_endpoint, f_Hp_nodeOf, f_Hp_portOf, f_Ma_max, f_Ma_min, f_Hp_isSetting, popN, rok, a1, noX, swc, mL, if_true, if_false, ↓reduceIte, cond_true, cond_false, true_and, and_true, List.length_cons, List.length_nil, List.nil_append, List.cons_append, List.append_nil, Option.toList, Nat.reduceEqDiff, Bool.false_eq_true, reduceCtorEq, Nat.reduceAdd, Nat.reduceLT, Nat.reduceLeDiff, Nat.reduceSub, List.replicate, Nat.zero_add, Nat.lt_add_one, Nat.le_refl, Nat.zero_le, Nat.succ_ne_zero, not_false_eq_true, not_true_eq_false, false_implies, true_implies, forall_const, imp_self, true_or, or_true, eq_self, sI_zw, zw_zw, hI_zw, tg_zw, ln_zw, hR_zw, hL_zw, hN_zw, hM_zw, upd_s, upd_u, upd_ne, Classical.not_not, k_Nw_nodeProperty, w1, hP, f_Nw_nodeAt, e1, d3]; try clear hgo9 hW9); try (obtain ⟨W9, hW9, hgo9⟩ := wp_ex (T_Nw_nodeProperty l G) [] _; refine hgo9 200 _ _ _ _ ?_; simp -implicitDefEqProofs (disch := omega) only [hW9, inl, gate, Xq, tz_const, tz_iload, tz_lload, tz_dload, tz_aload, tz_istore, tz_astore, tz_lstore, tz_dstore, tz_iinc, tz_i1, tz_i2, tz_i2z, tz_l2, tz_l2z, tz_i2l, tz_l2i, tz_lcmp, tz_i2d, tz_d2, tz_dcmp, tz_dup, tz_dup2, tz_pop, tz_if, tz_icmp, tz_null, tz_goto, tz_sw, tz_getf, tz_puti, tz_putz, tz_putr, tz_putl, tz_iaload, tz_baload, tz_laload, tz_aaload, tz_iastore, tz_bastore, tz_lastore, tz_aastore, tz_alen, tz_new, tz_newa, tz_oinit, tz_iret, tz_zret, tz_lret, tz_dret, tz_aret, tz_vret, tz_throw, tz_callS, tz_callV, tz_callI, tz_callR, tz_pureS, tz_pureV, tz_callVH, lg, lset, lkill, lst1, lst2, entL, isRf, is1, vl, va_rf_none, va_rf_some, isRf_rf, is1_rf, i0, i1, bI_eq0, bI_eq1, nm_em, nI_eqP, nI_leP, nI_ltP, nN_e1, nN_e2, nN_l1, nN_l2, nN_l3, nN_l4, nI_add, pk_mul, vp_inN, nI_cl, n01, n10, P_i, P_ii, P_iii, f_Mo_at, f_Mo_map, f_Mo_contact, f_Mo_within, f_Mo_isPort, f_Hp_endpoint, f_Hp_nodeOf, f_Hp_portOf, f_Ma_max, f_Ma_min, f_Hp_isSetting, popN, rok, a1, noX, swc, mL, if_true, if_false, ↓reduceIte, cond_true, cond_false, true_and, and_true, List.length_cons, List.length_nil, List.nil_append, List.cons_append, List.append_nil, Option.toList, Nat.reduceEqDiff, Bool.false_eq_true, reduceCtorEq, Nat.reduceAdd, Nat.reduceLT, Nat.reduceLeDiff, Nat.reduceSub, List.replicate, Nat.zero_add, Nat.lt_add_one, Nat.le_refl, Nat.zero_le, Nat.succ_ne_zero, not_false_eq_true, not_true_eq_false, false_implies, true_implies, forall_const, imp_self, true_or, or_true, eq_self, sI_zw, zw_zw, hI_zw, tg_zw, ln_zw, hR_zw, hL_zw, hN_zw, hM_zw, upd_s, upd_u, upd_ne, Classical.not_not, k_Nw_nodeProperty, w1, hP, f_Nw_nodeAt, e1, d3]; try clear hgo9 hW9))
      refine c_Nw_depthOf wn i z h _ k inv hi ?_
      simp only [aft]
      (obtain ⟨W9, hW9, hgo9⟩ := wp_ex (T_Nw_nodeProperty l G) [] _; refine hgo9 200 _ _ _ _ ?_; simp -implicitDefEqProofs (disch := omega) only [hW9, inl, gate, Xq, tz_const, tz_iload, tz_lload, tz_dload, tz_aload, tz_istore, tz_astore, tz_lstore, tz_dstore, tz_iinc, tz_i1, tz_i2, tz_i2z, tz_l2, tz_l2z, tz_i2l, tz_l2i, tz_lcmp, tz_i2d, tz_d2, tz_dcmp, tz_dup, tz_dup2, tz_pop, tz_if, tz_icmp, tz_null, tz_goto, tz_sw, tz_getf, tz_puti, tz_putz, tz_putr, tz_putl, tz_iaload, tz_baload, tz_laload, tz_aaload, tz_iastore, tz_bastore, tz_lastore, tz_aastore, tz_alen, tz_new, tz_newa, tz_oinit, tz_iret, tz_zret, tz_lret, tz_dret, tz_aret, tz_vret, tz_throw, tz_callS, tz_callV, tz_callI, tz_callR, tz_pureS, tz_pureV, tz_callVH, lg, lset, lkill, lst1, lst2, entL, isRf, is1, vl, va_rf_none, va_rf_some, isRf_rf, is1_rf, i0, i1, bI_eq0, bI_eq1, nm_em, nI_eqP, nI_leP, nI_ltP, nN_e1, nN_e2, nN_l1, nN_l2, nN_l3, nN_l4, nI_add, pk_mul, vp_inN, nI_cl, n01, n10, P_i, P_ii, P_iii, f_Mo_at, f_Mo_map, f_Mo_contact, f_Mo_within, f_Mo_isPort, f_Hp_endpoint, f_Hp_nodeOf, f_Hp_portOf, f_Ma_max, f_Ma_min, f_Hp_isSetting, popN, rok, a1, noX, swc, mL, if_true, if_false, ↓reduceIte, cond_true, cond_false, true_and, and_true, List.length_cons, List.length_nil, List.nil_append, List.cons_append, List.append_nil, Option.toList, Nat.reduceEqDiff, Bool.false_eq_true, reduceCtorEq, Nat.reduceAdd, Nat.reduceLT, Nat.reduceLeDiff, Nat.reduceSub, List.replicate, Nat.zero_add, Nat.lt_add_one, Nat.le_refl, Nat.zero_le, Nat.succ_ne_zero, not_false_eq_true, not_true_eq_false, false_implies, true_implies, forall_const, imp_self, true_or, or_true, eq_self, sI_zw, zw_zw, hI_zw, tg_zw, ln_zw, hR_zw, hL_zw, hN_zw, hM_zw, upd_s, upd_u, upd_ne, Classical.not_not, k_Nw_nodeProperty, w1]; try clear hgo9 hW9)
      exact hQ
    · have hQ' : Q (.inl (some (.int (cntB z (nI i) (mny z))))) h := hQ
      rcases kd with q | q
      · have v := v0 q
        rw [cntB_host inv hi q _ (Nat.le_refl _)] at hQ'
        ((obtain ⟨W9, hW9, hgo9⟩ := wp_ex (T_Nw_nodeProperty l G) [] _; refine hgo9 200 _ _ _ _ ?_; simp -implicitDefEqProofs (disch := omega) only [hW9, inl, gate, Xq, tz_const, tz_iload, tz_lload, tz_dload, tz_aload, tz_istore, tz_astore, tz_lstore, tz_dstore, tz_iinc, tz_i1, tz_i2, tz_i2z, tz_l2, tz_l2z, tz_i2l, tz_l2i, tz_lcmp, tz_i2d, tz_d2, tz_dcmp, tz_dup, tz_dup2, tz_pop, tz_if, tz_icmp, tz_null, tz_goto, tz_sw, tz_getf, tz_puti, tz_putz, tz_putr, tz_putl, tz_iaload, tz_baload, tz_laload, tz_aaload, tz_iastore, tz_bastore, tz_lastore, tz_aastore, tz_alen, tz_new, tz_newa, tz_oinit, tz_iret, tz_zret, tz_lret, tz_dret, tz_aret, tz_vret, tz_throw, tz_callS, tz_callV, tz_callI, tz_callR, tz_pureS, tz_pureV, tz_callVH, lg, lset, lkill, lst1, lst2, entL, isRf, is1, vl, va_rf_none, va_rf_some, isRf_rf, is1_rf, i0, i1, bI_eq0, bI_eq1, nm_em, nI_eqP, nI_leP, nI_ltP, nN_e1, nN_e2, nN_l1, nN_l2, nN_l3, nN_l4, nI_add, pk_mul, vp_inN, nI_cl, n01, n10, P_i, P_ii, P_iii, f_Mo_at, f_Mo_map, f_Mo_contact, f_Mo_within, f_Mo_isPort, f_Hp_endpoint, f_Hp_nodeOf, f_Hp_portOf, f_Ma_max, f_Ma_min, f_Hp_isSetting, popN, rok, a1, noX, swc, mL, if_true, if_false, ↓reduceIte, cond_true, cond_false, true_and, and_true, List.length_cons, List.length_nil, List.nil_append, List.cons_append, List.append_nil, Option.toList, Nat.reduceEqDiff, Bool.false_eq_true, reduceCtorEq, Nat.reduceAdd, Nat.reduceLT, Nat.reduceLeDiff, Nat.reduceSub, List.replicate, Nat.zero_add, Nat.lt_add_one, Nat.le_refl, Nat.zero_le, Nat.succ_ne_zero, not_false_eq_true, not_true_eq_false, false_implies, true_implies, forall_const, imp_self, true_or, or_true, eq_self, sI_zw, zw_zw, hI_zw, tg_zw, ln_zw, hR_zw, hL_zw, hN_zw, hM_zw, upd_s, upd_u, upd_ne, Classical.not_not, k_Nw_nodeProperty, w1, hP, f_Nw_nodeAt, e1, d3, v]; try clear hgo9 hW9); try (obtain ⟨W9, hW9, hgo9⟩ := wp_ex (T_Nw_nodeProperty l G) [] _; refine hgo9 200 _ _ _ _ ?_; simp -implicitDefEqProofs (disch := omega) only [hW9, inl, gate, Xq, tz_const, tz_iload, tz_lload, tz_dload, tz_aload, tz_istore, tz_astore, tz_lstore, tz_dstore, tz_iinc, tz_i1, tz_i2, tz_i2z, tz_l2, tz_l2z, tz_i2l, tz_l2i, tz_lcmp, tz_i2d, tz_d2, tz_dcmp, tz_dup, tz_dup2, tz_pop, tz_if, tz_icmp, tz_null, tz_goto, tz_sw, tz_getf, tz_puti, tz_putz, tz_putr, tz_putl, tz_iaload, tz_baload, tz_laload, tz_aaload, tz_iastore, tz_bastore, tz_lastore, tz_aastore, tz_alen, tz_new, tz_newa, tz_oinit, tz_iret, tz_zret, tz_lret, tz_dret, tz_aret, tz_vret, tz_throw, tz_callS, tz_callV, tz_callI, tz_callR, tz_pureS, tz_pureV, tz_callVH, lg, lset, lkill, lst1, lst2, entL, isRf, is1, vl, va_rf_none, va_rf_some, isRf_rf, is1_rf, i0, i1, bI_eq0, bI_eq1, nm_em, nI_eqP, nI_leP, nI_ltP, nN_e1, nN_e2, nN_l1, nN_l2, nN_l3, nN_l4, nI_add, pk_mul, vp_inN, nI_cl, n01, n10, P_i, P_ii, P_iii, f_Mo_at, f_Mo_map, f_Mo_contact, f_Mo_within, f_Mo_isPort, f_Hp_endpoint, f_Hp_nodeOf, f_Hp_portOf, f_Ma_max, f_Ma_min, f_Hp_isSetting, popN, rok, a1, noX, swc, mL, if_true, if_false, ↓reduceIte, cond_true, cond_false, true_and, and_true, List.length_cons, List.length_nil, List.nil_append, List.cons_append, List.append_nil, Option.toList, Nat.reduceEqDiff, Bool.false_eq_true, reduceCtorEq, Nat.reduceAdd, Nat.reduceLT, Nat.reduceLeDiff, Nat.reduceSub, List.replicate, Nat.zero_add, Nat.lt_add_one, Nat.le_refl, Nat.zero_le, Nat.succ_ne_zero, not_false_eq_true, not_true_eq_false, false_implies, true_implies, forall_const, imp_self, true_or, or_true, eq_self, sI_zw, zw_zw, hI_zw, tg_zw, ln_zw, hR_zw, hL_zw, hN_zw, hM_zw, upd_s, upd_u, upd_ne, Classical.not_not, k_Nw_nodeProperty, w1, hP, f_Nw_nodeAt, e1, d3, v]; try clear hgo9 hW9); try (obtain ⟨W9, hW9, hgo9⟩ := wp_ex (T_Nw_nodeProperty l G) [] _; refine hgo9 200 _ _ _ _ ?_; simp -implicitDefEqProofs (disch := omega) only [hW9, inl, gate, Xq, tz_const, tz_iload, tz_lload, tz_dload, tz_aload, tz_istore, tz_astore, tz_lstore, tz_dstore, tz_iinc, tz_i1, tz_i2, tz_i2z, tz_l2, tz_l2z, tz_i2l, tz_l2i, tz_lcmp, tz_i2d, tz_d2, tz_dcmp, tz_dup, tz_dup2, tz_pop, tz_if, tz_icmp, tz_null, tz_goto, tz_sw, tz_getf, tz_puti, tz_putz, tz_putr, tz_putl, tz_iaload, tz_baload, tz_laload, tz_aaload, tz_iastore, tz_bastore, tz_lastore, tz_aastore, tz_alen, tz_new, tz_newa, tz_oinit, tz_iret, tz_zret, tz_lret, tz_dret, tz_aret, tz_vret, tz_throw, tz_callS, tz_callV, tz_callI, tz_callR, tz_pureS, tz_pureV, tz_callVH, lg, lset, lkill, lst1, lst2, entL, isRf, is1, vl, va_rf_none, va_rf_some, isRf_rf, is1_rf, i0, i1, bI_eq0, bI_eq1, nm_em, nI_eqP, nI_leP, nI_ltP, nN_e1, nN_e2, nN_l1, nN_l2, nN_l3, nN_l4, nI_add, pk_mul, vp_inN, nI_cl, n01, n10, P_i, P_ii, P_iii, f_Mo_at, f_Mo_map, f_Mo_contact, f_Mo_within, f_Mo_isPort, f_Hp_endpoint, f_Hp_nodeOf, f_Hp_portOf, f_Ma_max, f_Ma_min, f_Hp_isSetting, popN, rok, a1, noX, swc, mL, if_true, if_false, ↓reduceIte, cond_true, cond_false, true_and, and_true, List.length_cons, List.length_nil, List.nil_append, List.cons_append, List.append_nil, Option.toList, Nat.reduceEqDiff, Bool.false_eq_true, reduceCtorEq, Nat.reduceAdd, Nat.reduceLT, Nat.reduceLeDiff, Nat.reduceSub, List.replicate, Nat.zero_add, Nat.lt_add_one, Nat.le_refl, Nat.zero_le, Nat.succ_ne_zero, not_false_eq_true, not_true_eq_false, false_implies, true_implies, forall_const, imp_self, true_or, or_true, eq_self, sI_zw, zw_zw, hI_zw, tg_zw, ln_zw, hR_zw, hL_zw, hN_zw, hM_zw, upd_s, upd_u, upd_ne, Classical.not_not, k_Nw_nodeProperty, w1, hP, f_Nw_nodeAt, e1, d3, v]; try clear hgo9 hW9))
        exact hQ'
      · have v := v1 q
        ((obtain ⟨W9, hW9, hgo9⟩ := wp_ex (T_Nw_nodeProperty l G) [] _; refine hgo9 200 _ _ _ _ ?_; simp -implicitDefEqProofs (disch := omega) only [hW9, inl, gate, Xq, tz_const, tz_iload, tz_lload, tz_dload, tz_aload, tz_istore, tz_astore, tz_lstore, tz_dstore, tz_iinc, tz_i1, tz_i2, tz_i2z, tz_l2, tz_l2z, tz_i2l, tz_l2i, tz_lcmp, tz_i2d, tz_d2, tz_dcmp, tz_dup, tz_dup2, tz_pop, tz_if, tz_icmp, tz_null, tz_goto, tz_sw, tz_getf, tz_puti, tz_putz, tz_putr, tz_putl, tz_iaload, tz_baload, tz_laload, tz_aaload, tz_iastore, tz_bastore, tz_lastore, tz_aastore, tz_alen, tz_new, tz_newa, tz_oinit, tz_iret, tz_zret, tz_lret, tz_dret, tz_aret, tz_vret, tz_throw, tz_callS, tz_callV, tz_callI, tz_callR, tz_pureS, tz_pureV, tz_callVH, lg, lset, lkill, lst1, lst2, entL, isRf, is1, vl, va_rf_none, va_rf_some, isRf_rf, is1_rf, i0, i1, bI_eq0, bI_eq1, nm_em, nI_eqP, nI_leP, nI_ltP, nN_e1, nN_e2, nN_l1, nN_l2, nN_l3, nN_l4, nI_add, pk_mul, vp_inN, nI_cl, n01, n10, P_i, P_ii, P_iii, f_Mo_at, f_Mo_map, f_Mo_contact, f_Mo_within, f_Mo_isPort, f_Hp_endpoint, f_Hp_nodeOf, f_Hp_portOf, f_Ma_max, f_Ma_min, f_Hp_isSetting, popN, rok, a1, noX, swc, mL, if_true, if_false, ↓reduceIte, cond_true, cond_false, true_and, and_true, List.length_cons, List.length_nil, List.nil_append, List.cons_append, List.append_nil, Option.toList, Nat.reduceEqDiff, Bool.false_eq_true, reduceCtorEq, Nat.reduceAdd, Nat.reduceLT, Nat.reduceLeDiff, Nat.reduceSub, List.replicate, Nat.zero_add, Nat.lt_add_one, Nat.le_refl, Nat.zero_le, Nat.succ_ne_zero, not_false_eq_true, not_true_eq_false, false_implies, true_implies, forall_const, imp_self, true_or, or_true, eq_self, sI_zw, zw_zw, hI_zw, tg_zw, ln_zw, hR_zw, hL_zw, hN_zw, hM_zw, upd_s, upd_u, upd_ne, Classical.not_not, k_Nw_nodeProperty, w1, hP, f_Nw_nodeAt, e1, d3, v]; try clear hgo9 hW9); try (obtain ⟨W9, hW9, hgo9⟩ := wp_ex (T_Nw_nodeProperty l G) [] _; refine hgo9 200 _ _ _ _ ?_; simp -implicitDefEqProofs (disch := omega) only [hW9, inl, gate, Xq, tz_const, tz_iload, tz_lload, tz_dload, tz_aload, tz_istore, tz_astore, tz_lstore, tz_dstore, tz_iinc, tz_i1, tz_i2, tz_i2z, tz_l2, tz_l2z, tz_i2l, tz_l2i, tz_lcmp, tz_i2d, tz_d2, tz_dcmp, tz_dup, tz_dup2, tz_pop, tz_if, tz_icmp, tz_null, tz_goto, tz_sw, tz_getf, tz_puti, tz_putz, tz_putr, tz_putl, tz_iaload, tz_baload, tz_laload, tz_aaload, tz_iastore, tz_bastore, tz_lastore, tz_aastore, tz_alen, tz_new, tz_newa, tz_oinit, tz_iret, tz_zret, tz_lret, tz_dret, tz_aret, tz_vret, tz_throw, tz_callS, tz_callV, tz_callI, tz_callR, tz_pureS, tz_pureV, tz_callVH, lg, lset, lkill, lst1, lst2, entL, isRf, is1, vl, va_rf_none, va_rf_some, isRf_rf, is1_rf, i0, i1, bI_eq0, bI_eq1, nm_em, nI_eqP, nI_leP, nI_ltP, nN_e1, nN_e2, nN_l1, nN_l2, nN_l3, nN_l4, nI_add, pk_mul, vp_inN, nI_cl, n01, n10, P_i, P_ii, P_iii, f_Mo_at, f_Mo_map, f_Mo_contact, f_Mo_within, f_Mo_isPort, f_Hp_endpoint, f_Hp_nodeOf, f_Hp_portOf, f_Ma_max, f_Ma_min, f_Hp_isSetting, popN, rok, a1, noX, swc, mL, if_true, if_false, ↓reduceIte, cond_true, cond_false, true_and, and_true, List.length_cons, List.length_nil, List.nil_append, List.cons_append, List.append_nil, Option.toList, Nat.reduceEqDiff, Bool.false_eq_true, reduceCtorEq, Nat.reduceAdd, Nat.reduceLT, Nat.reduceLeDiff, Nat.reduceSub, List.replicate, Nat.zero_add, Nat.lt_add_one, Nat.le_refl, Nat.zero_le, Nat.succ_ne_zero, not_false_eq_true, not_true_eq_false, false_implies, true_implies, forall_const, imp_self, true_or, or_true, eq_self, sI_zw, zw_zw, hI_zw, tg_zw, ln_zw, hR_zw, hL_zw, hN_zw, hM_zw, upd_s, upd_u, upd_ne, Classical.not_not, k_Nw_nodeProperty, w1, hP, f_Nw_nodeAt, e1, d3, v]; try clear hgo9 hW9); try (obtain ⟨W9, hW9, hgo9⟩ := wp_ex (T_Nw_nodeProperty l G) [] _; refine hgo9 200 _ _ _ _ ?_; simp -implicitDefEqProofs (disch := omega) only [hW9, inl, gate, Xq, tz_const, tz_iload, tz_lload, tz_dload, tz_aload, tz_istore, tz_astore, tz_lstore, tz_dstore, tz_iinc, tz_i1, tz_i2, tz_i2z, tz_l2, tz_l2z, tz_i2l, tz_l2i, tz_lcmp, tz_i2d, tz_d2, tz_dcmp, tz_dup, tz_dup2, tz_pop, tz_if, tz_icmp, tz_null, tz_goto, tz_sw, tz_getf, tz_puti, tz_putz, tz_putr, tz_putl, tz_iaload, tz_baload, tz_laload, tz_aaload, tz_iastore, tz_bastore, tz_lastore, tz_aastore, tz_alen, tz_new, tz_newa, tz_oinit, tz_iret, tz_zret, tz_lret, tz_dret, tz_aret, tz_vret, tz_throw, tz_callS, tz_callV, tz_callI, tz_callR, tz_pureS, tz_pureV, tz_callVH, lg, lset, lkill, lst1, lst2, entL, isRf, is1, vl, va_rf_none, va_rf_some, isRf_rf, is1_rf, i0, i1, bI_eq0, bI_eq1, nm_em, nI_eqP, nI_leP, nI_ltP, nN_e1, nN_e2, nN_l1, nN_l2, nN_l3, nN_l4, nI_add, pk_mul, vp_inN, nI_cl, n01, n10, P_i, P_ii, P_iii, f_Mo_at, f_Mo_map, f_Mo_contact, f_Mo_within, f_Mo_isPort, f_Hp_endpoint, f_Hp_nodeOf, f_Hp_portOf, f_Ma_max, f_Ma_min, f_Hp_isSetting, popN, rok, a1, noX, swc, mL, if_true, if_false, ↓reduceIte, cond_true, cond_false, true_and, and_true, List.length_cons, List.length_nil, List.nil_append, List.cons_append, List.append_nil, Option.toList, Nat.reduceEqDiff, Bool.false_eq_true, reduceCtorEq, Nat.reduceAdd, Nat.reduceLT, Nat.reduceLeDiff, Nat.reduceSub, List.replicate, Nat.zero_add, Nat.lt_add_one, Nat.le_refl, Nat.zero_le, Nat.succ_ne_zero, not_false_eq_true, not_true_eq_false, false_implies, true_implies, forall_const, imp_self, true_or, or_true, eq_self, sI_zw, zw_zw, hI_zw, tg_zw, ln_zw, hR_zw, hL_zw, hN_zw, hM_zw, upd_s, upd_u, upd_ne, Classical.not_not, k_Nw_nodeProperty, w1, hP, f_Nw_nodeAt, e1, d3, v]; try clear hgo9 hW9))
        refine c_Nw_hostsBehind wn (nI i) z h _ k inv (Or.inr ⟨i, by omega, rfl⟩) ?_
        simp only [aft]
        (obtain ⟨W9, hW9, hgo9⟩ := wp_ex (T_Nw_nodeProperty l G) [] _; refine hgo9 200 _ _ _ _ ?_; simp -implicitDefEqProofs (disch := omega) only [hW9, inl, gate, Xq, tz_const, tz_iload, tz_lload, tz_dload, tz_aload, tz_istore, tz_astore, tz_lstore, tz_dstore, tz_iinc, tz_i1, tz_i2, tz_i2z, tz_l2, tz_l2z, tz_i2l, tz_l2i, tz_lcmp, tz_i2d, tz_d2, tz_dcmp, tz_dup, tz_dup2, tz_pop, tz_if, tz_icmp, tz_null, tz_goto, tz_sw, tz_getf, tz_puti, tz_putz, tz_putr, tz_putl, tz_iaload, tz_baload, tz_laload, tz_aaload, tz_iastore, tz_bastore, tz_lastore, tz_aastore, tz_alen, tz_new, tz_newa, tz_oinit, tz_iret, tz_zret, tz_lret, tz_dret, tz_aret, tz_vret, tz_throw, tz_callS, tz_callV, tz_callI, tz_callR, tz_pureS, tz_pureV, tz_callVH, lg, lset, lkill, lst1, lst2, entL, isRf, is1, vl, va_rf_none, va_rf_some, isRf_rf, is1_rf, i0, i1, bI_eq0, bI_eq1, nm_em, nI_eqP, nI_leP, nI_ltP, nN_e1, nN_e2, nN_l1, nN_l2, nN_l3, nN_l4, nI_add, pk_mul, vp_inN, nI_cl, n01, n10, P_i, P_ii, P_iii, f_Mo_at, f_Mo_map, f_Mo_contact, f_Mo_within, f_Mo_isPort, f_Hp_endpoint, f_Hp_nodeOf, f_Hp_portOf, f_Ma_max, f_Ma_min, f_Hp_isSetting, popN, rok, a1, noX, swc, mL, if_true, if_false, ↓reduceIte, cond_true, cond_false, true_and, and_true, List.length_cons, List.length_nil, List.nil_append, List.cons_append, List.append_nil, Option.toList, Nat.reduceEqDiff, Bool.false_eq_true, reduceCtorEq, Nat.reduceAdd, Nat.reduceLT, Nat.reduceLeDiff, Nat.reduceSub, List.replicate, Nat.zero_add, Nat.lt_add_one, Nat.le_refl, Nat.zero_le, Nat.succ_ne_zero, not_false_eq_true, not_true_eq_false, false_implies, true_implies, forall_const, imp_self, true_or, or_true, eq_self, sI_zw, zw_zw, hI_zw, tg_zw, ln_zw, hR_zw, hL_zw, hN_zw, hM_zw, upd_s, upd_u, upd_ne, Classical.not_not, k_Nw_nodeProperty, w1]; try clear hgo9 hW9)
        exact hQ'
    · have hQ' : Q (.inl (some (.int (z (16 + 16 * i + 12))))) h := hQ
      rw [c1] at hQ'
      ((obtain ⟨W9, hW9, hgo9⟩ := wp_ex (T_Nw_nodeProperty l G) [] _; refine hgo9 200 _ _ _ _ ?_; simp -implicitDefEqProofs (disch := omega) only [hW9, inl, gate, Xq, tz_const, tz_iload, tz_lload, tz_dload, tz_aload, tz_istore, tz_astore, tz_lstore, tz_dstore, tz_iinc, tz_i1, tz_i2, tz_i2z, tz_l2, tz_l2z, tz_i2l, tz_l2i, tz_lcmp, tz_i2d, tz_d2, tz_dcmp, tz_dup, tz_dup2, tz_pop, tz_if, tz_icmp, tz_null, tz_goto, tz_sw, tz_getf, tz_puti, tz_putz, tz_putr, tz_putl, tz_iaload, tz_baload, tz_laload, tz_aaload, tz_iastore, tz_bastore, tz_lastore, tz_aastore, tz_alen, tz_new, tz_newa, tz_oinit, tz_iret, tz_zret, tz_lret, tz_dret, tz_aret, tz_vret, tz_throw, tz_callS, tz_callV, tz_callI, tz_callR, tz_pureS, tz_pureV, tz_callVH, lg, lset, lkill, lst1, lst2, entL, isRf, is1, vl, va_rf_none, va_rf_some, isRf_rf, is1_rf, i0, i1, bI_eq0, bI_eq1, nm_em, nI_eqP, nI_leP, nI_ltP, nN_e1, nN_e2, nN_l1, nN_l2, nN_l3, nN_l4, nI_add, pk_mul, vp_inN, nI_cl, n01, n10, P_i, P_ii, P_iii, f_Mo_at, f_Mo_map, f_Mo_contact, f_Mo_within, f_Mo_isPort, f_Hp_endpoint, f_Hp_nodeOf, f_Hp_portOf, f_Ma_max, f_Ma_min, f_Hp_isSetting, popN, rok, a1, noX, swc, mL, if_true, if_false, ↓reduceIte, cond_true, cond_false, true_and, and_true, List.length_cons, List.length_nil, List.nil_append, List.cons_append, List.append_nil, Option.toList, Nat.reduceEqDiff, Bool.false_eq_true, reduceCtorEq, Nat.reduceAdd, Nat.reduceLT, Nat.reduceLeDiff, Nat.reduceSub, List.replicate, Nat.zero_add, Nat.lt_add_one, Nat.le_refl, Nat.zero_le, Nat.succ_ne_zero, not_false_eq_true, not_true_eq_false, false_implies, true_implies, forall_const, imp_self, true_or, or_true, eq_self, sI_zw, zw_zw, hI_zw, tg_zw, ln_zw, hR_zw, hL_zw, hN_zw, hM_zw, upd_s, upd_u, upd_ne, Classical.not_not, k_Nw_nodeProperty, w1, hP, f_Nw_nodeAt, e1, d3, hPd, ed]; try clear hgo9 hW9); try (obtain ⟨W9, hW9, hgo9⟩ := wp_ex (T_Nw_nodeProperty l G) [] _; refine hgo9 200 _ _ _ _ ?_; simp -implicitDefEqProofs (disch := omega) only [hW9, inl, gate, Xq, tz_const, tz_iload, tz_lload, tz_dload, tz_aload, tz_istore, tz_astore, tz_lstore, tz_dstore, tz_iinc, tz_i1, tz_i2, tz_i2z, tz_l2, tz_l2z, tz_i2l, tz_l2i, tz_lcmp, tz_i2d, tz_d2, tz_dcmp, tz_dup, tz_dup2, tz_pop, tz_if, tz_icmp, tz_null, tz_goto, tz_sw, tz_getf, tz_puti, tz_putz, tz_putr, tz_putl, tz_iaload, tz_baload, tz_laload, tz_aaload, tz_iastore, tz_bastore, tz_lastore, tz_aastore, tz_alen, tz_new, tz_newa, tz_oinit, tz_iret, tz_zret, tz_lret, tz_dret, tz_aret, tz_vret, tz_throw, tz_callS, tz_callV, tz_callI, tz_callR, tz_pureS, tz_pureV, tz_callVH, lg, lset, lkill, lst1, lst2, entL, isRf, is1, vl, va_rf_none, va_rf_some, isRf_rf, is1_rf, i0, i1, bI_eq0, bI_eq1, nm_em, nI_eqP, nI_leP, nI_ltP, nN_e1, nN_e2, nN_l1, nN_l2, nN_l3, nN_l4, nI_add, pk_mul, vp_inN, nI_cl, n01, n10, P_i, P_ii, P_iii, f_Mo_at, f_Mo_map, f_Mo_contact, f_Mo_within, f_Mo_isPort, f_Hp_endpoint, f_Hp_nodeOf, f_Hp_portOf, f_Ma_max, f_Ma_min, f_Hp_isSetting, popN, rok, a1, noX, swc, mL, if_true, if_false, ↓reduceIte, cond_true, cond_false, true_and, and_true, List.length_cons, List.length_nil, List.nil_append, List.cons_append, List.append_nil, Option.toList, Nat.reduceEqDiff, Bool.false_eq_true, reduceCtorEq, Nat.reduceAdd, Nat.reduceLT, Nat.reduceLeDiff, Nat.reduceSub, List.replicate, Nat.zero_add, Nat.lt_add_one, Nat.le_refl, Nat.zero_le, Nat.succ_ne_zero, not_false_eq_true, not_true_eq_false, false_implies, true_implies, forall_const, imp_self, true_or, or_true, eq_self, sI_zw, zw_zw, hI_zw, tg_zw, ln_zw, hR_zw, hL_zw, hN_zw, hM_zw, upd_s, upd_u, upd_ne, Classical.not_not, k_Nw_nodeProperty, w1, hP, f_Nw_nodeAt, e1, d3, hPd, ed]; try clear hgo9 hW9); try (obtain ⟨W9, hW9, hgo9⟩ := wp_ex (T_Nw_nodeProperty l G) [] _; refine hgo9 200 _ _ _ _ ?_; simp -implicitDefEqProofs (disch := omega) only [hW9, inl, gate, Xq, tz_const, tz_iload, tz_lload, tz_dload, tz_aload, tz_istore, tz_astore, tz_lstore, tz_dstore, tz_iinc, tz_i1, tz_i2, tz_i2z, tz_l2, tz_l2z, tz_i2l, tz_l2i, tz_lcmp, tz_i2d, tz_d2, tz_dcmp, tz_dup, tz_dup2, tz_pop, tz_if, tz_icmp, tz_null, tz_goto, tz_sw, tz_getf, tz_puti, tz_putz, tz_putr, tz_putl, tz_iaload, tz_baload, tz_laload, tz_aaload, tz_iastore, tz_bastore, tz_lastore, tz_aastore, tz_alen, tz_new, tz_newa, tz_oinit, tz_iret, tz_zret, tz_lret, tz_dret, tz_aret, tz_vret, tz_throw, tz_callS, tz_callV, tz_callI, tz_callR, tz_pureS, tz_pureV, tz_callVH, lg, lset, lkill, lst1, lst2, entL, isRf, is1, vl, va_rf_none, va_rf_some, isRf_rf, is1_rf, i0, i1, bI_eq0, bI_eq1, nm_em, nI_eqP, nI_leP, nI_ltP, nN_e1, nN_e2, nN_l1, nN_l2, nN_l3, nN_l4, nI_add, pk_mul, vp_inN, nI_cl, n01, n10, P_i, P_ii, P_iii, f_Mo_at, f_Mo_map, f_Mo_contact, f_Mo_within, f_Mo_isPort, f_Hp_endpoint, f_Hp_nodeOf, f_Hp_portOf, f_Ma_max, f_Ma_min, f_Hp_isSetting, popN, rok, a1, noX, swc, mL, if_true, if_false, ↓reduceIte, cond_true, cond_false, true_and, and_true, List.length_cons, List.length_nil, List.nil_append, List.cons_append, List.append_nil, Option.toList, Nat.reduceEqDiff, Bool.false_eq_true, reduceCtorEq, Nat.reduceAdd, Nat.reduceLT, Nat.reduceLeDiff, Nat.reduceSub, List.replicate, Nat.zero_add, Nat.lt_add_one, Nat.le_refl, Nat.zero_le, Nat.succ_ne_zero, not_false_eq_true, not_true_eq_false, false_implies, true_implies, forall_const, imp_self, true_or, or_true, eq_self, sI_zw, zw_zw, hI_zw, tg_zw, ln_zw, hR_zw, hL_zw, hN_zw, hM_zw, upd_s, upd_u, upd_ne, Classical.not_not, k_Nw_nodeProperty, w1, hP, f_Nw_nodeAt, e1, d3, hPd, ed]; try clear hgo9 hW9))
      exact hQ'
    · have hQ' : Q (.inl (some (.int (z (16 + 16 * i + 13))))) h := hQ
      rw [c2] at hQ'
      ((obtain ⟨W9, hW9, hgo9⟩ := wp_ex (T_Nw_nodeProperty l G) [] _; refine hgo9 200 _ _ _ _ ?_; simp -implicitDefEqProofs (disch := omega) only [hW9, inl, gate, Xq, tz_const, tz_iload, tz_lload, tz_dload, tz_aload, tz_istore, tz_astore, tz_lstore, tz_dstore, tz_iinc, tz_i1, tz_i2, tz_i2z, tz_l2, tz_l2z, tz_i2l, tz_l2i, tz_lcmp, tz_i2d, tz_d2, tz_dcmp, tz_dup, tz_dup2, tz_pop, tz_if, tz_icmp, tz_null, tz_goto, tz_sw, tz_getf, tz_puti, tz_putz, tz_putr, tz_putl, tz_iaload, tz_baload, tz_laload, tz_aaload, tz_iastore, tz_bastore, tz_lastore, tz_aastore, tz_alen, tz_new, tz_newa, tz_oinit, tz_iret, tz_zret, tz_lret, tz_dret, tz_aret, tz_vret, tz_throw, tz_callS, tz_callV, tz_callI, tz_callR, tz_pureS, tz_pureV, tz_callVH, lg, lset, lkill, lst1, lst2, entL, isRf, is1, vl, va_rf_none, va_rf_some, isRf_rf, is1_rf, i0, i1, bI_eq0, bI_eq1, nm_em, nI_eqP, nI_leP, nI_ltP, nN_e1, nN_e2, nN_l1, nN_l2, nN_l3, nN_l4, nI_add, pk_mul, vp_inN, nI_cl, n01, n10, P_i, P_ii, P_iii, f_Mo_at, f_Mo_map, f_Mo_contact, f_Mo_within, f_Mo_isPort, f_Hp_endpoint, f_Hp_nodeOf, f_Hp_portOf, f_Ma_max, f_Ma_min, f_Hp_isSetting, popN, rok, a1, noX, swc, mL, if_true, if_false, ↓reduceIte, cond_true, cond_false, true_and, and_true, List.length_cons, List.length_nil, List.nil_append, List.cons_append, List.append_nil, Option.toList, Nat.reduceEqDiff, Bool.false_eq_true, reduceCtorEq, Nat.reduceAdd, Nat.reduceLT, Nat.reduceLeDiff, Nat.reduceSub, List.replicate, Nat.zero_add, Nat.lt_add_one, Nat.le_refl, Nat.zero_le, Nat.succ_ne_zero, not_false_eq_true, not_true_eq_false, false_implies, true_implies, forall_const, imp_self, true_or, or_true, eq_self, sI_zw, zw_zw, hI_zw, tg_zw, ln_zw, hR_zw, hL_zw, hN_zw, hM_zw, upd_s, upd_u, upd_ne, Classical.not_not, k_Nw_nodeProperty, w1, hP, f_Nw_nodeAt, e1, d3, hPd, ed]; try clear hgo9 hW9); try (obtain ⟨W9, hW9, hgo9⟩ := wp_ex (T_Nw_nodeProperty l G) [] _; refine hgo9 200 _ _ _ _ ?_; simp -implicitDefEqProofs (disch := omega) only [hW9, inl, gate, Xq, tz_const, tz_iload, tz_lload, tz_dload, tz_aload, tz_istore, tz_astore, tz_lstore, tz_dstore, tz_iinc, tz_i1, tz_i2, tz_i2z, tz_l2, tz_l2z, tz_i2l, tz_l2i, tz_lcmp, tz_i2d, tz_d2, tz_dcmp, tz_dup, tz_dup2, tz_pop, tz_if, tz_icmp, tz_null, tz_goto, tz_sw, tz_getf, tz_puti, tz_putz, tz_putr, tz_putl, tz_iaload, tz_baload, tz_laload, tz_aaload, tz_iastore, tz_bastore, tz_lastore, tz_aastore, tz_alen, tz_new, tz_newa, tz_oinit, tz_iret, tz_zret, tz_lret, tz_dret, tz_aret, tz_vret, tz_throw, tz_callS, tz_callV, tz_callI, tz_callR, tz_pureS, tz_pureV, tz_callVH, lg, lset, lkill, lst1, lst2, entL, isRf, is1, vl, va_rf_none, va_rf_some, isRf_rf, is1_rf, i0, i1, bI_eq0, bI_eq1, nm_em, nI_eqP, nI_leP, nI_ltP, nN_e1, nN_e2, nN_l1, nN_l2, nN_l3, nN_l4, nI_add, pk_mul, vp_inN, nI_cl, n01, n10, P_i, P_ii, P_iii, f_Mo_at, f_Mo_map, f_Mo_contact, f_Mo_within, f_Mo_isPort, f_Hp_endpoint, f_Hp_nodeOf, f_Hp_portOf, f_Ma_max, f_Ma_min, f_Hp_isSetting, popN, rok, a1, noX, swc, mL, if_true, if_false, ↓reduceIte, cond_true, cond_false, true_and, and_true, List.length_cons, List.length_nil, List.nil_append, List.cons_append, List.append_nil, Option.toList, Nat.reduceEqDiff, Bool.false_eq_true, reduceCtorEq, Nat.reduceAdd, Nat.reduceLT, Nat.reduceLeDiff, Nat.reduceSub, List.replicate, Nat.zero_add, Nat.lt_add_one, Nat.le_refl, Nat.zero_le, Nat.succ_ne_zero, not_false_eq_true, not_true_eq_false, false_implies, true_implies, forall_const, imp_self, true_or, or_true, eq_self, sI_zw, zw_zw, hI_zw, tg_zw, ln_zw, hR_zw, hL_zw, hN_zw, hM_zw, upd_s, upd_u, upd_ne, Classical.not_not, k_Nw_nodeProperty, w1, hP, f_Nw_nodeAt, e1, d3, hPd, ed]; try clear hgo9 hW9); try (obtain ⟨W9, hW9, hgo9⟩ := wp_ex (T_Nw_nodeProperty l G) [] _; refine hgo9 200 _ _ _ _ ?_; simp -implicitDefEqProofs (disch := omega) only [hW9, inl, gate, Xq, tz_const, tz_iload, tz_lload, tz_dload, tz_aload, tz_istore, tz_astore, tz_lstore, tz_dstore, tz_iinc, tz_i1, tz_i2, tz_i2z, tz_l2, tz_l2z, tz_i2l, tz_l2i, tz_lcmp, tz_i2d, tz_d2, tz_dcmp, tz_dup, tz_dup2, tz_pop, tz_if, tz_icmp, tz_null, tz_goto, tz_sw, tz_getf, tz_puti, tz_putz, tz_putr, tz_putl, tz_iaload, tz_baload, tz_laload, tz_aaload, tz_iastore, tz_bastore, tz_lastore, tz_aastore, tz_alen, tz_new, tz_newa, tz_oinit, tz_iret, tz_zret, tz_lret, tz_dret, tz_aret, tz_vret, tz_throw, tz_callS, tz_callV, tz_callI, tz_callR, tz_pureS, tz_pureV, tz_callVH, lg, lset, lkill, lst1, lst2, entL, isRf, is1, vl, va_rf_none, va_rf_some, isRf_rf, is1_rf, i0, i1, bI_eq0, bI_eq1, nm_em, nI_eqP, nI_leP, nI_ltP, nN_e1, nN_e2, nN_l1, nN_l2, nN_l3, nN_l4, nI_add, pk_mul, vp_inN, nI_cl, n01, n10, P_i, P_ii, P_iii, f_Mo_at, f_Mo_map, f_Mo_contact, f_Mo_within, f_Mo_isPort, f_Hp_endpoint, f_Hp_nodeOf, f_Hp_portOf, f_Ma_max, f_Ma_min, f_Hp_isSetting, popN, rok, a1, noX, swc, mL, if_true, if_false, ↓reduceIte, cond_true, cond_false, true_and, and_true, List.length_cons, List.length_nil, List.nil_append, List.cons_append, List.append_nil, Option.toList, Nat.reduceEqDiff, Bool.false_eq_true, reduceCtorEq, Nat.reduceAdd, Nat.reduceLT, Nat.reduceLeDiff, Nat.reduceSub, List.replicate, Nat.zero_add, Nat.lt_add_one, Nat.le_refl, Nat.zero_le, Nat.succ_ne_zero, not_false_eq_true, not_true_eq_false, false_implies, true_implies, forall_const, imp_self, true_or, or_true, eq_self, sI_zw, zw_zw, hI_zw, tg_zw, ln_zw, hR_zw, hL_zw, hN_zw, hM_zw, upd_s, upd_u, upd_ne, Classical.not_not, k_Nw_nodeProperty, w1, hP, f_Nw_nodeAt, e1, d3, hPd, ed]; try clear hgo9 hW9))
      exact hQ'
    · have hQ' : Q (.inl (some (.int (z (16 + 16 * i + 14))))) h := hQ
      rw [c3] at hQ'
      ((obtain ⟨W9, hW9, hgo9⟩ := wp_ex (T_Nw_nodeProperty l G) [] _; refine hgo9 200 _ _ _ _ ?_; simp -implicitDefEqProofs (disch := omega) only [hW9, inl, gate, Xq, tz_const, tz_iload, tz_lload, tz_dload, tz_aload, tz_istore, tz_astore, tz_lstore, tz_dstore, tz_iinc, tz_i1, tz_i2, tz_i2z, tz_l2, tz_l2z, tz_i2l, tz_l2i, tz_lcmp, tz_i2d, tz_d2, tz_dcmp, tz_dup, tz_dup2, tz_pop, tz_if, tz_icmp, tz_null, tz_goto, tz_sw, tz_getf, tz_puti, tz_putz, tz_putr, tz_putl, tz_iaload, tz_baload, tz_laload, tz_aaload, tz_iastore, tz_bastore, tz_lastore, tz_aastore, tz_alen, tz_new, tz_newa, tz_oinit, tz_iret, tz_zret, tz_lret, tz_dret, tz_aret, tz_vret, tz_throw, tz_callS, tz_callV, tz_callI, tz_callR, tz_pureS, tz_pureV, tz_callVH, lg, lset, lkill, lst1, lst2, entL, isRf, is1, vl, va_rf_none, va_rf_some, isRf_rf, is1_rf, i0, i1, bI_eq0, bI_eq1, nm_em, nI_eqP, nI_leP, nI_ltP, nN_e1, nN_e2, nN_l1, nN_l2, nN_l3, nN_l4, nI_add, pk_mul, vp_inN, nI_cl, n01, n10, P_i, P_ii, P_iii, f_Mo_at, f_Mo_map, f_Mo_contact, f_Mo_within, f_Mo_isPort, f_Hp_endpoint, f_Hp_nodeOf, f_Hp_portOf, f_Ma_max, f_Ma_min, f_Hp_isSetting, popN, rok, a1, noX, swc, mL, if_true, if_false, ↓reduceIte, cond_true, cond_false, true_and, and_true, List.length_cons, List.length_nil, List.nil_append, List.cons_append, List.append_nil, Option.toList, Nat.reduceEqDiff, Bool.false_eq_true, reduceCtorEq, Nat.reduceAdd, Nat.reduceLT, Nat.reduceLeDiff, Nat.reduceSub, List.replicate, Nat.zero_add, Nat.lt_add_one, Nat.le_refl, Nat.zero_le, Nat.succ_ne_zero, not_false_eq_true, not_true_eq_false, false_implies, true_implies, forall_const, imp_self, true_or, or_true, eq_self, sI_zw, zw_zw, hI_zw, tg_zw, ln_zw, hR_zw, hL_zw, hN_zw, hM_zw, upd_s, upd_u, upd_ne, Classical.not_not, k_Nw_nodeProperty, w1, hP, f_Nw_nodeAt, e1, d3, hPd, ed]; try clear hgo9 hW9); try (obtain ⟨W9, hW9, hgo9⟩ := wp_ex (T_Nw_nodeProperty l G) [] _; refine hgo9 200 _ _ _ _ ?_; simp -implicitDefEqProofs (disch := omega) only [hW9, inl, gate, Xq, tz_const, tz_iload, tz_lload, tz_dload, tz_aload, tz_istore, tz_astore, tz_lstore, tz_dstore, tz_iinc, tz_i1, tz_i2, tz_i2z, tz_l2, tz_l2z, tz_i2l, tz_l2i, tz_lcmp, tz_i2d, tz_d2, tz_dcmp, tz_dup, tz_dup2, tz_pop, tz_if, tz_icmp, tz_null, tz_goto, tz_sw, tz_getf, tz_puti, tz_putz, tz_putr, tz_putl, tz_iaload, tz_baload, tz_laload, tz_aaload, tz_iastore, tz_bastore, tz_lastore, tz_aastore, tz_alen, tz_new, tz_newa, tz_oinit, tz_iret, tz_zret, tz_lret, tz_dret, tz_aret, tz_vret, tz_throw, tz_callS, tz_callV, tz_callI, tz_callR, tz_pureS, tz_pureV, tz_callVH, lg, lset, lkill, lst1, lst2, entL, isRf, is1, vl, va_rf_none, va_rf_some, isRf_rf, is1_rf, i0, i1, bI_eq0, bI_eq1, nm_em, nI_eqP, nI_leP, nI_ltP, nN_e1, nN_e2, nN_l1, nN_l2, nN_l3, nN_l4, nI_add, pk_mul, vp_inN, nI_cl, n01, n10, P_i, P_ii, P_iii, f_Mo_at, f_Mo_map, f_Mo_contact, f_Mo_within, f_Mo_isPort, f_Hp_endpoint, f_Hp_nodeOf, f_Hp_portOf, f_Ma_max, f_Ma_min, f_Hp_isSetting, popN, rok, a1, noX, swc, mL, if_true, if_false, ↓reduceIte, cond_true, cond_false, true_and, and_true, List.length_cons, List.length_nil, List.nil_append, List.cons_append, List.append_nil, Option.toList, Nat.reduceEqDiff, Bool.false_eq_true, reduceCtorEq, Nat.reduceAdd, Nat.reduceLT, Nat.reduceLeDiff, Nat.reduceSub, List.replicate, Nat.zero_add, Nat.lt_add_one, Nat.le_refl, Nat.zero_le, Nat.succ_ne_zero, not_false_eq_true, not_true_eq_false, false_implies, true_implies, forall_const, imp_self, true_or, or_true, eq_self, sI_zw, zw_zw, hI_zw, tg_zw, ln_zw, hR_zw, hL_zw, hN_zw, hM_zw, upd_s, upd_u, upd_ne, Classical.not_not, k_Nw_nodeProperty, w1, hP, f_Nw_nodeAt, e1, d3, hPd, ed]; try clear hgo9 hW9); try (obtain ⟨W9, hW9, hgo9⟩ := wp_ex (T_Nw_nodeProperty l G) [] _; refine hgo9 200 _ _ _ _ ?_; simp -implicitDefEqProofs (disch := omega) only [hW9, inl, gate, Xq, tz_const, tz_iload, tz_lload, tz_dload, tz_aload, tz_istore, tz_astore, tz_lstore, tz_dstore, tz_iinc, tz_i1, tz_i2, tz_i2z, tz_l2, tz_l2z, tz_i2l, tz_l2i, tz_lcmp, tz_i2d, tz_d2, tz_dcmp, tz_dup, tz_dup2, tz_pop, tz_if, tz_icmp, tz_null, tz_goto, tz_sw, tz_getf, tz_puti, tz_putz, tz_putr, tz_putl, tz_iaload, tz_baload, tz_laload, tz_aaload, tz_iastore, tz_bastore, tz_lastore, tz_aastore, tz_alen, tz_new, tz_newa, tz_oinit, tz_iret, tz_zret, tz_lret, tz_dret, tz_aret, tz_vret, tz_throw, tz_callS, tz_callV, tz_callI, tz_callR, tz_pureS, tz_pureV, tz_callVH, lg, lset, lkill, lst1, lst2, entL, isRf, is1, vl, va_rf_none, va_rf_some, isRf_rf, is1_rf, i0, i1, bI_eq0, bI_eq1, nm_em, nI_eqP, nI_leP, nI_ltP, nN_e1, nN_e2, nN_l1, nN_l2, nN_l3, nN_l4, nI_add, pk_mul, vp_inN, nI_cl, n01, n10, P_i, P_ii, P_iii, f_Mo_at, f_Mo_map, f_Mo_contact, f_Mo_within, f_Mo_isPort, f_Hp_endpoint, f_Hp_nodeOf, f_Hp_portOf, f_Ma_max, f_Ma_min, f_Hp_isSetting, popN, rok, a1, noX, swc, mL, if_true, if_false, ↓reduceIte, cond_true, cond_false, true_and, and_true, List.length_cons, List.length_nil, List.nil_append, List.cons_append, List.append_nil, Option.toList, Nat.reduceEqDiff, Bool.false_eq_true, reduceCtorEq, Nat.reduceAdd, Nat.reduceLT, Nat.reduceLeDiff, Nat.reduceSub, List.replicate, Nat.zero_add, Nat.lt_add_one, Nat.le_refl, Nat.zero_le, Nat.succ_ne_zero, not_false_eq_true, not_true_eq_false, false_implies, true_implies, forall_const, imp_self, true_or, or_true, eq_self, sI_zw, zw_zw, hI_zw, tg_zw, ln_zw, hR_zw, hL_zw, hN_zw, hM_zw, upd_s, upd_u, upd_ne, Classical.not_not, k_Nw_nodeProperty, w1, hP, f_Nw_nodeAt, e1, d3, hPd, ed]; try clear hgo9 hW9))
      exact hQ'
  · have ed : f_No_hasDelivery [.ref d] h = .int (nI 1) := by
      simp only [f_No_hasDelivery]
      rw [v3, b2, q13, bI_t (encD_nN (by omega) (by omega))]
    have s2 : hI h d 2 = nI (b * 10000 + q) := by rw [v3, b2, q13, encD_N (by omega), enc_N]
    have sn := enc_node (a := b) (p := q) (by omega) (by omega)
    have sp := enc_port (a := b) (p := q) (by omega) (by omega)
    rw [sn, pk_mul] at sp
    rcases cs with rfl | rfl | rfl | rfl | rfl | rfl | rfl
    · have hQ' : Q (.inl (some (.int (z (16 + 16 * i))))) h := hQ
      rcases kd with q | q
      · have v := v0 q
        rw [q] at hQ'
        ((obtain ⟨W9, hW9, hgo9⟩ := wp_ex (T_Nw_nodeProperty l G) [] _; refine hgo9 200 _ _ _ _ ?_; simp -implicitDefEqProofs (disch := omega) only [hW9, inl, gate, Xq, tz_const, tz_iload, tz_lload, tz_dload, tz_aload, tz_istore, tz_astore, tz_lstore, tz_dstore, tz_iinc, tz_i1, tz_i2, tz_i2z, tz_l2, tz_l2z, tz_i2l, tz_l2i, tz_lcmp, tz_i2d, tz_d2, tz_dcmp, tz_dup, tz_dup2, tz_pop, tz_if, tz_icmp, tz_null, tz_goto, tz_sw, tz_getf, tz_puti, tz_putz, tz_putr, tz_putl, tz_iaload, tz_baload, tz_laload, tz_aaload, tz_iastore, tz_bastore, tz_lastore, tz_aastore, tz_alen, tz_new, tz_newa, tz_oinit, tz_iret, tz_zret, tz_lret, tz_dret, tz_aret, tz_vret, tz_throw, tz_callS, tz_callV, tz_callI, tz_callR, tz_pureS, tz_pureV, tz_callVH, lg, lset, lkill, lst1, lst2, entL, isRf, is1, vl, va_rf_none, va_rf_some, isRf_rf, is1_rf, i0, i1, bI_eq0, bI_eq1, nm_em, nI_eqP, nI_leP, nI_ltP, nN_e1, nN_e2, nN_l1, nN_l2, nN_l3, nN_l4, nI_add, pk_mul, vp_inN, nI_cl, n01, n10, P_i, P_ii, P_iii, f_Mo_at, f_Mo_map, f_Mo_contact, f_Mo_within, f_Mo_isPort, f_Hp_endpoint, f_Hp_nodeOf, f_Hp_portOf, f_Ma_max, f_Ma_min, f_Hp_isSetting, popN, rok, a1, noX, swc, mL, if_true, if_false, ↓reduceIte, cond_true, cond_false, true_and, and_true, List.length_cons, List.length_nil, List.nil_append, List.cons_append, List.append_nil, Option.toList, Nat.reduceEqDiff, Bool.false_eq_true, reduceCtorEq, Nat.reduceAdd, Nat.reduceLT, Nat.reduceLeDiff, Nat.reduceSub, List.replicate, Nat.zero_add, Nat.lt_add_one, Nat.le_refl, Nat.zero_le, Nat.succ_ne_zero, not_false_eq_true, not_true_eq_false, false_implies, true_implies, forall_const, imp_self, true_or, or_true, eq_self, sI_zw, zw_zw, hI_zw, tg_zw, ln_zw, hR_zw, hL_zw, hN_zw, hM_zw, upd_s, upd_u, upd_ne, Classical.not_not, k_Nw_nodeProperty, w1, hP, f_Nw_nodeAt, e1, d3, v]; try clear hgo9 hW9); try (obtain ⟨W9, hW9, hgo9⟩ := wp_ex (T_Nw_nodeProperty l G) [] _; refine hgo9 200 _ _ _ _ ?_; simp -implicitDefEqProofs (disch := omega) only [hW9, inl, gate, Xq, tz_const, tz_iload, tz_lload, tz_dload, tz_aload, tz_istore, tz_astore, tz_lstore, tz_dstore, tz_iinc, tz_i1, tz_i2, tz_i2z, tz_l2, tz_l2z, tz_i2l, tz_l2i, tz_lcmp, tz_i2d, tz_d2, tz_dcmp, tz_dup, tz_dup2, tz_pop, tz_if, tz_icmp, tz_null, tz_goto, tz_sw, tz_getf, tz_puti, tz_putz, tz_putr, tz_putl, tz_iaload, tz_baload, tz_laload, tz_aaload, tz_iastore, tz_bastore, tz_lastore, tz_aastore, tz_alen, tz_new, tz_newa, tz_oinit, tz_iret, tz_zret, tz_lret, tz_dret, tz_aret, tz_vret, tz_throw, tz_callS, tz_callV, tz_callI, tz_callR, tz_pureS, tz_pureV, tz_callVH, lg, lset, lkill, lst1, lst2, entL, isRf, is1, vl, va_rf_none, va_rf_some, isRf_rf, is1_rf, i0, i1, bI_eq0, bI_eq1, nm_em, nI_eqP, nI_leP, nI_ltP, nN_e1, nN_e2, nN_l1, nN_l2, nN_l3, nN_l4, nI_add, pk_mul, vp_inN, nI_cl, n01, n10, P_i, P_ii, P_iii, f_Mo_at, f_Mo_map, f_Mo_contact, f_Mo_within, f_Mo_isPort, f_Hp_endpoint, f_Hp_nodeOf, f_Hp_portOf, f_Ma_max, f_Ma_min, f_Hp_isSetting, popN, rok, a1, noX, swc, mL, if_true, if_false, ↓reduceIte, cond_true, cond_false, true_and, and_true, List.length_cons, List.length_nil, List.nil_append, List.cons_append, List.append_nil, Option.toList, Nat.reduceEqDiff, Bool.false_eq_true, reduceCtorEq, Nat.reduceAdd, Nat.reduceLT, Nat.reduceLeDiff, Nat.reduceSub, List.replicate, Nat.zero_add, Nat.lt_add_one, Nat.le_refl, Nat.zero_le, Nat.succ_ne_zero, not_false_eq_true, not_true_eq_false, false_implies, true_implies, forall_const, imp_self, true_or, or_true, eq_self, sI_zw, zw_zw, hI_zw, tg_zw, ln_zw, hR_zw, hL_zw, hN_zw, hM_zw, upd_s, upd_u, upd_ne, Classical.not_not, k_Nw_nodeProperty, w1, hP, f_Nw_nodeAt, e1, d3, v]; try clear hgo9 hW9); try (obtain ⟨W9, hW9, hgo9⟩ := wp_ex (T_Nw_nodeProperty l G) [] _; refine hgo9 200 _ _ _ _ ?_; simp -implicitDefEqProofs (disch := omega) only [hW9, inl, gate, Xq, tz_const, tz_iload, tz_lload, tz_dload, tz_aload, tz_istore, tz_astore, tz_lstore, tz_dstore, tz_iinc, tz_i1, tz_i2, tz_i2z, tz_l2, tz_l2z, tz_i2l, tz_l2i, tz_lcmp, tz_i2d, tz_d2, tz_dcmp, tz_dup, tz_dup2, tz_pop, tz_if, tz_icmp, tz_null, tz_goto, tz_sw, tz_getf, tz_puti, tz_putz, tz_putr, tz_putl, tz_iaload, tz_baload, tz_laload, tz_aaload, tz_iastore, tz_bastore, tz_lastore, tz_aastore, tz_alen, tz_new, tz_newa, tz_oinit, tz_iret, tz_zret, tz_lret, tz_dret, tz_aret, tz_vret, tz_throw, tz_callS, tz_callV, tz_callI, tz_callR, tz_pureS, tz_pureV, tz_callVH, lg, lset, lkill, lst1, lst2, entL, isRf, is1, vl, va_rf_none, va_rf_some, isRf_rf, is1_rf, i0, i1, bI_eq0, bI_eq1, nm_em, nI_eqP, nI_leP, nI_ltP, nN_e1, nN_e2, nN_l1, nN_l2, nN_l3, nN_l4, nI_add, pk_mul, vp_inN, nI_cl, n01, n10, P_i, P_ii, P_iii, f_Mo_at, f_Mo_map, f_Mo_contact, f_Mo_within, f_Mo_isPort, f_Hp_endpoint, f_Hp_nodeOf, f_Hp_portOf, f_Ma_max, f_Ma_min, f_Hp_isSetting, popN, rok, a1, noX, swc, mL, if_true, if_false, ↓reduceIte, cond_true, cond_false, true_and, and_true, List.length_cons, List.length_nil, List.nil_append, List.cons_append, List.append_nil, Option.toList, Nat.reduceEqDiff, Bool.false_eq_true, reduceCtorEq, Nat.reduceAdd, Nat.reduceLT, Nat.reduceLeDiff, Nat.reduceSub, List.replicate, Nat.zero_add, Nat.lt_add_one, Nat.le_refl, Nat.zero_le, Nat.succ_ne_zero, not_false_eq_true, not_true_eq_false, false_implies, true_implies, forall_const, imp_self, true_or, or_true, eq_self, sI_zw, zw_zw, hI_zw, tg_zw, ln_zw, hR_zw, hL_zw, hN_zw, hM_zw, upd_s, upd_u, upd_ne, Classical.not_not, k_Nw_nodeProperty, w1, hP, f_Nw_nodeAt, e1, d3, v]; try clear hgo9 hW9))
        exact hQ'
      · have v := v1 q
        rw [q] at hQ'
        ((obtain ⟨W9, hW9, hgo9⟩ := wp_ex (T_Nw_nodeProperty l G) [] _; refine hgo9 200 _ _ _ _ ?_; simp -implicitDefEqProofs (disch := omega) only [hW9, inl, gate, Xq, tz_const, tz_iload, tz_lload, tz_dload, tz_aload, tz_istore, tz_astore, tz_lstore, tz_dstore, tz_iinc, tz_i1, tz_i2, tz_i2z, tz_l2, tz_l2z, tz_i2l, tz_l2i, tz_lcmp, tz_i2d, tz_d2, tz_dcmp, tz_dup, tz_dup2, tz_pop, tz_if, tz_icmp, tz_null, tz_goto, tz_sw, tz_getf, tz_puti, tz_putz, tz_putr, tz_putl, tz_iaload, tz_baload, tz_laload, tz_aaload, tz_iastore, tz_bastore, tz_lastore, tz_aastore, tz_alen, tz_new, tz_newa, tz_oinit, tz_iret, tz_zret, tz_lret, tz_dret, tz_aret, tz_vret, tz_throw, tz_callS, tz_callV, tz_callI, tz_callR, tz_pureS, tz_pureV, tz_callVH, lg, lset, lkill, lst1, lst2, entL, isRf, is1, vl, va_rf_none, va_rf_some, isRf_rf, is1_rf, i0, i1, bI_eq0, bI_eq1, nm_em, nI_eqP, nI_leP, nI_ltP, nN_e1, nN_e2, nN_l1, nN_l2, nN_l3, nN_l4, nI_add, pk_mul, vp_inN, nI_cl, n01, n10, P_i, P_ii, P_iii, f_Mo_at, f_Mo_map, f_Mo_contact, f_Mo_within, f_Mo_isPort, f_Hp_endpoint, f_Hp_nodeOf, f_Hp_portOf, f_Ma_max, f_Ma_min, f_Hp_isSetting, popN, rok, a1, noX, swc, mL, if_true, if_false, ↓reduceIte, cond_true, cond_false, true_and, and_true, List.length_cons, List.length_nil, List.nil_append, List.cons_append, List.append_nil, Option.toList, Nat.reduceEqDiff, Bool.false_eq_true, reduceCtorEq, Nat.reduceAdd, Nat.reduceLT, Nat.reduceLeDiff, Nat.reduceSub, List.replicate, Nat.zero_add, Nat.lt_add_one, Nat.le_refl, Nat.zero_le, Nat.succ_ne_zero, not_false_eq_true, not_true_eq_false, false_implies, true_implies, forall_const, imp_self, true_or, or_true, eq_self, sI_zw, zw_zw, hI_zw, tg_zw, ln_zw, hR_zw, hL_zw, hN_zw, hM_zw, upd_s, upd_u, upd_ne, Classical.not_not, k_Nw_nodeProperty, w1, hP, f_Nw_nodeAt, e1, d3, v]; try clear hgo9 hW9); try (obtain ⟨W9, hW9, hgo9⟩ := wp_ex (T_Nw_nodeProperty l G) [] _; refine hgo9 200 _ _ _ _ ?_; simp -implicitDefEqProofs (disch := omega) only [hW9, inl, gate, Xq, tz_const, tz_iload, tz_lload, tz_dload, tz_aload, tz_istore, tz_astore, tz_lstore, tz_dstore, tz_iinc, tz_i1, tz_i2, tz_i2z, tz_l2, tz_l2z, tz_i2l, tz_l2i, tz_lcmp, tz_i2d, tz_d2, tz_dcmp, tz_dup, tz_dup2, tz_pop, tz_if, tz_icmp, tz_null, tz_goto, tz_sw, tz_getf, tz_puti, tz_putz, tz_putr, tz_putl, tz_iaload, tz_baload, tz_laload, tz_aaload, tz_iastore, tz_bastore, tz_lastore, tz_aastore, tz_alen, tz_new, tz_newa, tz_oinit, tz_iret, tz_zret, tz_lret, tz_dret, tz_aret, tz_vret, tz_throw, tz_callS, tz_callV, tz_callI, tz_callR, tz_pureS, tz_pureV, tz_callVH, lg, lset, lkill, lst1, lst2, entL, isRf, is1, vl, va_rf_none, va_rf_some, isRf_rf, is1_rf, i0, i1, bI_eq0, bI_eq1, nm_em, nI_eqP, nI_leP, nI_ltP, nN_e1, nN_e2, nN_l1, nN_l2, nN_l3, nN_l4, nI_add, pk_mul, vp_inN, nI_cl, n01, n10, P_i, P_ii, P_iii, f_Mo_at, f_Mo_map, f_Mo_contact, f_Mo_within, f_Mo_isPort, f_Hp_endpoint, f_Hp_nodeOf, f_Hp_portOf, f_Ma_max, f_Ma_min, f_Hp_isSetting, popN, rok, a1, noX, swc, mL, if_true, if_false, ↓reduceIte, cond_true, cond_false, true_and, and_true, List.length_cons, List.length_nil, List.nil_append, List.cons_append, List.append_nil, Option.toList, Nat.reduceEqDiff, Bool.false_eq_true, reduceCtorEq, Nat.reduceAdd, Nat.reduceLT, Nat.reduceLeDiff, Nat.reduceSub, List.replicate, Nat.zero_add, Nat.lt_add_one, Nat.le_refl, Nat.zero_le, Nat.succ_ne_zero, not_false_eq_true, not_true_eq_false, false_implies, true_implies, forall_const, imp_self, true_or, or_true, eq_self, sI_zw, zw_zw, hI_zw, tg_zw, ln_zw, hR_zw, hL_zw, hN_zw, hM_zw, upd_s, upd_u, upd_ne, Classical.not_not, k_Nw_nodeProperty, w1, hP, f_Nw_nodeAt, e1, d3, v]; try clear hgo9 hW9); try (obtain ⟨W9, hW9, hgo9⟩ := wp_ex (T_Nw_nodeProperty l G) [] _; refine hgo9 200 _ _ _ _ ?_; simp -implicitDefEqProofs (disch := omega) only [hW9, inl, gate, Xq, tz_const, tz_iload, tz_lload, tz_dload, tz_aload, tz_istore, tz_astore, tz_lstore, tz_dstore, tz_iinc, tz_i1, tz_i2, tz_i2z, tz_l2, tz_l2z, tz_i2l, tz_l2i, tz_lcmp, tz_i2d, tz_d2, tz_dcmp, tz_dup, tz_dup2, tz_pop, tz_if, tz_icmp, tz_null, tz_goto, tz_sw, tz_getf, tz_puti, tz_putz, tz_putr, tz_putl, tz_iaload, tz_baload, tz_laload, tz_aaload, tz_iastore, tz_bastore, tz_lastore, tz_aastore, tz_alen, tz_new, tz_newa, tz_oinit, tz_iret, tz_zret, tz_lret, tz_dret, tz_aret, tz_vret, tz_throw, tz_callS, tz_callV, tz_callI, tz_callR, tz_pureS, tz_pureV, tz_callVH, lg, lset, lkill, lst1, lst2, entL, isRf, is1, vl, va_rf_none, va_rf_some, isRf_rf, is1_rf, i0, i1, bI_eq0, bI_eq1, nm_em, nI_eqP, nI_leP, nI_ltP, nN_e1, nN_e2, nN_l1, nN_l2, nN_l3, nN_l4, nI_add, pk_mul, vp_inN, nI_cl, n01, n10, P_i, P_ii, P_iii, f_Mo_at, f_Mo_map, f_Mo_contact, f_Mo_within, f_Mo_isPort, f_Hp_endpoint, f_Hp_nodeOf, f_Hp_portOf, f_Ma_max, f_Ma_min, f_Hp_isSetting, popN, rok, a1, noX, swc, mL, if_true, if_false, ↓reduceIte, cond_true, cond_false, true_and, and_true, List.length_cons, List.length_nil, List.nil_append, List.cons_append, List.append_nil, Option.toList, Nat.reduceEqDiff, Bool.false_eq_true, reduceCtorEq, Nat.reduceAdd, Nat.reduceLT, Nat.reduceLeDiff, Nat.reduceSub, List.replicate, Nat.zero_add, Nat.lt_add_one, Nat.le_refl, Nat.zero_le, Nat.succ_ne_zero, not_false_eq_true, not_true_eq_false, false_implies, true_implies, forall_const, imp_self, true_or, or_true, eq_self, sI_zw, zw_zw, hI_zw, tg_zw, ln_zw, hR_zw, hL_zw, hN_zw, hM_zw, upd_s, upd_u, upd_ne, Classical.not_not, k_Nw_nodeProperty, w1, hP, f_Nw_nodeAt, e1, d3, v]; try clear hgo9 hW9))
        exact hQ'
    · ((obtain ⟨W9, hW9, hgo9⟩ := wp_ex (T_Nw_nodeProperty l G) [] _; refine hgo9 200 _ _ _ _ ?_; simp -implicitDefEqProofs (disch := omega) only [hW9, inl, gate, Xq, tz_const, tz_iload, tz_lload, tz_dload, tz_aload, tz_istore, tz_astore, tz_lstore, tz_dstore, tz_iinc, tz_i1, tz_i2, tz_i2z, tz_l2, tz_l2z, tz_i2l, tz_l2i, tz_lcmp, tz_i2d, tz_d2, tz_dcmp, tz_dup, tz_dup2, tz_pop, tz_if, tz_icmp, tz_null, tz_goto, tz_sw, tz_getf, tz_puti, tz_putz, tz_putr, tz_putl, tz_iaload, tz_baload, tz_laload, tz_aaload, tz_iastore, tz_bastore, tz_lastore, tz_aastore, tz_alen, tz_new, tz_newa, tz_oinit, tz_iret, tz_zret, tz_lret, tz_dret, tz_aret, tz_vret, tz_throw, tz_callS, tz_callV, tz_callI, tz_callR, tz_pureS, tz_pureV, tz_callVH, lg, lset, lkill, lst1, lst2, entL, isRf, is1, vl, va_rf_none, va_rf_some, isRf_rf, is1_rf, i0, i1, bI_eq0, bI_eq1, nm_em, nI_eqP, nI_leP, nI_ltP, nN_e1, nN_e2, nN_l1, nN_l2, nN_l3, nN_l4, nI_add, pk_mul, vp_inN, nI_cl, n01, n10, P_i, P_ii, P_iii, f_Mo_at, f_Mo_map, f_Mo_contact, f_Mo_within, f_Mo_isPort, f_Hp_endpoint, f_Hp_nodeOf, f_Hp_portOf, f_Ma_max, f_Ma_min, f_Hp_isSetting, popN, rok, a1, noX, swc, mL, if_true, if_false, ↓reduceIte, cond_true, cond_false, true_and, and_true, List.length_cons, List.length_nil, List.nil_append, List.cons_append, List.append_nil, Option.toList, Nat.reduceEqDiff, Bool.false_eq_true, reduceCtorEq, Nat.reduceAdd, Nat.reduceLT, Nat.reduceLeDiff, Nat.reduceSub, List.replicate, Nat.zero_add, Nat.lt_add_one, Nat.le_refl, Nat.zero_le, Nat.succ_ne_zero, not_false_eq_true, not_true_eq_false, false_implies, true_implies, forall_const, imp_self, true_or, or_true, eq_self, sI_zw, zw_zw, hI_zw, tg_zw, ln_zw, hR_zw, hL_zw, hN_zw, hM_zw, upd_s, upd_u, upd_ne, Classical.not_not, k_Nw_nodeProperty, w1, hP, f_Nw_nodeAt, e1, d3, v2]; try clear hgo9 hW9); try (obtain ⟨W9, hW9, hgo9⟩ := wp_ex (T_Nw_nodeProperty l G) [] _; refine hgo9 200 _ _ _ _ ?_; simp -implicitDefEqProofs (disch := omega) only [hW9, inl, gate, Xq, tz_const, tz_iload, tz_lload, tz_dload, tz_aload, tz_istore, tz_astore, tz_lstore, tz_dstore, tz_iinc, tz_i1, tz_i2, tz_i2z, tz_l2, tz_l2z, tz_i2l, tz_l2i, tz_lcmp, tz_i2d, tz_d2, tz_dcmp, tz_dup, tz_dup2, tz_pop, tz_if, tz_icmp, tz_null, tz_goto, tz_sw, tz_getf, tz_puti, tz_putz, tz_putr, tz_putl, tz_iaload, tz_baload, tz_laload, tz_aaload, tz_iastore, tz_bastore, tz_lastore, tz_aastore, tz_alen, tz_new, tz_newa, tz_oinit, tz_iret, tz_zret, tz_lret, tz_dret, tz_aret, tz_vret, tz_throw, tz_callS, tz_callV, tz_callI, tz_callR, tz_pureS, tz_pureV, tz_callVH, lg, lset, lkill, lst1, lst2, entL, isRf, is1, vl, va_rf_none, va_rf_some, isRf_rf, is1_rf, i0, i1, bI_eq0, bI_eq1, nm_em, nI_eqP, nI_leP, nI_ltP, nN_e1, nN_e2, nN_l1, nN_l2, nN_l3, nN_l4, nI_add, pk_mul, vp_inN, nI_cl, n01, n10, P_i, P_ii, P_iii, f_Mo_at, f_Mo_map, f_Mo_contact, f_Mo_within, f_Mo_isPort, f_Hp_endpoint, f_Hp_nodeOf, f_Hp_portOf, f_Ma_max, f_Ma_min, f_Hp_isSetting, popN, rok, a1, noX, swc, mL, if_true, if_false, ↓reduceIte, cond_true, cond_false, true_and, and_true, List.length_cons, List.length_nil, List.nil_append, List.cons_append, List.append_nil, Option.toList, Nat.reduceEqDiff, Bool.false_eq_true, reduceCtorEq, Nat.reduceAdd, Nat.reduceLT, Nat.reduceLeDiff, Nat.reduceSub, List.replicate, Nat.zero_add, Nat.lt_add_one, Nat.le_refl, Nat.zero_le, Nat.succ_ne_zero, not_false_eq_true, not_true_eq_false, false_implies, true_implies, forall_const, imp_self, true_or, or_true, eq_self, sI_zw, zw_zw, hI_zw, tg_zw, ln_zw, hR_zw, hL_zw, hN_zw, hM_zw, upd_s, upd_u, upd_ne, Classical.not_not, k_Nw_nodeProperty, w1, hP, f_Nw_nodeAt, e1, d3, v2]; try clear hgo9 hW9))
      exact hQ
    · ((obtain ⟨W9, hW9, hgo9⟩ := wp_ex (T_Nw_nodeProperty l G) [] _; refine hgo9 200 _ _ _ _ ?_; simp -implicitDefEqProofs (disch := omega) only [hW9, inl, gate, Xq, tz_const, tz_iload, tz_lload, tz_dload, tz_aload, tz_istore, tz_astore, tz_lstore, tz_dstore, tz_iinc, tz_i1, tz_i2, tz_i2z, tz_l2, tz_l2z, tz_i2l, tz_l2i, tz_lcmp, tz_i2d, tz_d2, tz_dcmp, tz_dup, tz_dup2, tz_pop, tz_if, tz_icmp, tz_null, tz_goto, tz_sw, tz_getf, tz_puti, tz_putz, tz_putr, tz_putl, tz_iaload, tz_baload, tz_laload, tz_aaload, tz_iastore, tz_bastore, tz_lastore, tz_aastore, tz_alen, tz_new, tz_newa, tz_oinit, tz_iret, tz_zret, tz_lret, tz_dret, tz_aret, tz_vret, tz_throw, tz_callS, tz_callV, tz_callI, tz_callR, tz_pureS, tz_pureV, tz_callVH, lg, lset, lkill, lst1, lst2, entL, isRf, is1, vl, va_rf_none, va_rf_some, isRf_rf, is1_rf, i0, i1, bI_eq0, bI_eq1, nm_em, nI_eqP, nI_leP, nI_ltP, nN_e1, nN_e2, nN_l1, nN_l2, nN_l3, nN_l4, nI_add, pk_mul, vp_inN, nI_cl, n01, n10, P_i, P_ii, P_iii, f_Mo_at, f_Mo_map, f_Mo_contact, f_Mo_within, f_Mo_isPort, f_Hp_endpoint, f_Hp_nodeOf, f_Hp_portOf, f_Ma_max, f_Ma_min, f_Hp_isSetting, popN, rok, a1, noX, swc, mL, if_true, if_false, ↓reduceIte, cond_true, cond_false, true_and, and_true, List.length_cons, List.length_nil, List.nil_append, List.cons_append, List.append_nil, Option.toList, Nat.reduceEqDiff, Bool.false_eq_true, reduceCtorEq, Nat.reduceAdd, Nat.reduceLT, Nat.reduceLeDiff, Nat.reduceSub, List.replicate, Nat.zero_add, Nat.lt_add_one, Nat.le_refl, Nat.zero_le, Nat.succ_ne_zero, not_false_eq_true, not_true_eq_false, false_implies, true_implies, forall_const, imp_self, true_or, or_true, eq_self, sI_zw, zw_zw, hI_zw, tg_zw, ln_zw, hR_zw, hL_zw, hN_zw, hM_zw, upd_s, upd_u, upd_ne, Classical.not_not, k_Nw_nodeProperty, w1, hP, f_Nw_nodeAt, e1, d3]; try clear hgo9 hW9); try (obtain ⟨W9, hW9, hgo9⟩ := wp_ex (T_Nw_nodeProperty l G) [] _; refine hgo9 200 _ _ _ _ ?_; simp -implicitDefEqProofs (disch := omega) only [hW9, inl, gate, Xq, tz_const, tz_iload, tz_lload, tz_dload, tz_aload, tz_istore, tz_astore, tz_lstore, tz_dstore, tz_iinc, tz_i1, tz_i2, tz_i2z, tz_l2, tz_l2z, tz_i2l, tz_l2i, tz_lcmp, tz_i2d, tz_d2, tz_dcmp, tz_dup, tz_dup2, tz_pop, tz_if, tz_icmp, tz_null, tz_goto, tz_sw, tz_getf, tz_puti, tz_putz, tz_putr, tz_putl, tz_iaload, tz_baload, tz_laload, tz_aaload, tz_iastore, tz_bastore, tz_lastore, tz_aastore, tz_alen, tz_new, tz_newa, tz_oinit, tz_iret, tz_zret, tz_lret, tz_dret, tz_aret, tz_vret, tz_throw, tz_callS, tz_callV, tz_callI, tz_callR, tz_pureS, tz_pureV, tz_callVH, lg, lset, lkill, lst1, lst2, entL, isRf, is1, vl, va_rf_none, va_rf_some, isRf_rf, is1_rf, i0, i1, bI_eq0, bI_eq1, nm_em, nI_eqP, nI_leP, nI_ltP, nN_e1, nN_e2, nN_l1, nN_l2, nN_l3, nN_l4, nI_add, pk_mul, vp_inN, nI_cl, n01, n10, P_i, P_ii, P_iii, f_Mo_at, f_Mo_map, f_Mo_contact, f_Mo_within, f_Mo_isPort, f_Hp_endpoint, f_Hp_nodeOf, f_Hp_portOf, f_Ma_max, f_Ma_min, f_Hp_isSetting, popN, rok, a1, noX, swc, mL, if_true, if_false, ↓reduceIte, cond_true, cond_false, true_and, and_true, List.length_cons, List.length_nil, List.nil_append, List.cons_append, List.append_nil, Option.toList, Nat.reduceEqDiff, Bool.false_eq_true, reduceCtorEq, Nat.reduceAdd, Nat.reduceLT, Nat.reduceLeDiff, Nat.reduceSub, List.replicate, Nat.zero_add, Nat.lt_add_one, Nat.le_refl, Nat.zero_le, Nat.succ_ne_zero, not_false_eq_true, not_true_eq_false, false_implies, true_implies, forall_const, imp_self, true_or, or_true, eq_self, sI_zw, zw_zw, hI_zw, tg_zw, ln_zw, hR_zw, hL_zw, hN_zw, hM_zw, upd_s, upd_u, upd_ne, Classical.not_not, k_Nw_nodeProperty, w1, hP, f_Nw_nodeAt, e1, d3]; try clear hgo9 hW9))
      refine c_Nw_depthOf wn i z h _ k inv hi ?_
      simp only [aft]
      (obtain ⟨W9, hW9, hgo9⟩ := wp_ex (T_Nw_nodeProperty l G) [] _; refine hgo9 200 _ _ _ _ ?_; simp -implicitDefEqProofs (disch := omega) only [hW9, inl, gate, Xq, tz_const, tz_iload, tz_lload, tz_dload, tz_aload, tz_istore, tz_astore, tz_lstore, tz_dstore, tz_iinc, tz_i1, tz_i2, tz_i2z, tz_l2, tz_l2z, tz_i2l, tz_l2i, tz_lcmp, tz_i2d, tz_d2, tz_dcmp, tz_dup, tz_dup2, tz_pop, tz_if, tz_icmp, tz_null, tz_goto, tz_sw, tz_getf, tz_puti, tz_putz, tz_putr, tz_putl, tz_iaload, tz_baload, tz_laload, tz_aaload, tz_iastore, tz_bastore, tz_lastore, tz_aastore, tz_alen, tz_new, tz_newa, tz_oinit, tz_iret, tz_zret, tz_lret, tz_dret, tz_aret, tz_vret, tz_throw, tz_callS, tz_callV, tz_callI, tz_callR, tz_pureS, tz_pureV, tz_callVH, lg, lset, lkill, lst1, lst2, entL, isRf, is1, vl, va_rf_none, va_rf_some, isRf_rf, is1_rf, i0, i1, bI_eq0, bI_eq1, nm_em, nI_eqP, nI_leP, nI_ltP, nN_e1, nN_e2, nN_l1, nN_l2, nN_l3, nN_l4, nI_add, pk_mul, vp_inN, nI_cl, n01, n10, P_i, P_ii, P_iii, f_Mo_at, f_Mo_map, f_Mo_contact, f_Mo_within, f_Mo_isPort, f_Hp_endpoint, f_Hp_nodeOf, f_Hp_portOf, f_Ma_max, f_Ma_min, f_Hp_isSetting, popN, rok, a1, noX, swc, mL, if_true, if_false, ↓reduceIte, cond_true, cond_false, true_and, and_true, List.length_cons, List.length_nil, List.nil_append, List.cons_append, List.append_nil, Option.toList, Nat.reduceEqDiff, Bool.false_eq_true, reduceCtorEq, Nat.reduceAdd, Nat.reduceLT, Nat.reduceLeDiff, Nat.reduceSub, List.replicate, Nat.zero_add, Nat.lt_add_one, Nat.le_refl, Nat.zero_le, Nat.succ_ne_zero, not_false_eq_true, not_true_eq_false, false_implies, true_implies, forall_const, imp_self, true_or, or_true, eq_self, sI_zw, zw_zw, hI_zw, tg_zw, ln_zw, hR_zw, hL_zw, hN_zw, hM_zw, upd_s, upd_u, upd_ne, Classical.not_not, k_Nw_nodeProperty, w1]; try clear hgo9 hW9)
      exact hQ
    · have hQ' : Q (.inl (some (.int (cntB z (nI i) (mny z))))) h := hQ
      rcases kd with q | q
      · have v := v0 q
        rw [cntB_host inv hi q _ (Nat.le_refl _)] at hQ'
        ((obtain ⟨W9, hW9, hgo9⟩ := wp_ex (T_Nw_nodeProperty l G) [] _; refine hgo9 200 _ _ _ _ ?_; simp -implicitDefEqProofs (disch := omega) only [hW9, inl, gate, Xq, tz_const, tz_iload, tz_lload, tz_dload, tz_aload, tz_istore, tz_astore, tz_lstore, tz_dstore, tz_iinc, tz_i1, tz_i2, tz_i2z, tz_l2, tz_l2z, tz_i2l, tz_l2i, tz_lcmp, tz_i2d, tz_d2, tz_dcmp, tz_dup, tz_dup2, tz_pop, tz_if, tz_icmp, tz_null, tz_goto, tz_sw, tz_getf, tz_puti, tz_putz, tz_putr, tz_putl, tz_iaload, tz_baload, tz_laload, tz_aaload, tz_iastore, tz_bastore, tz_lastore, tz_aastore, tz_alen, tz_new, tz_newa, tz_oinit, tz_iret, tz_zret, tz_lret, tz_dret, tz_aret, tz_vret, tz_throw, tz_callS, tz_callV, tz_callI, tz_callR, tz_pureS, tz_pureV, tz_callVH, lg, lset, lkill, lst1, lst2, entL, isRf, is1, vl, va_rf_none, va_rf_some, isRf_rf, is1_rf, i0, i1, bI_eq0, bI_eq1, nm_em, nI_eqP, nI_leP, nI_ltP, nN_e1, nN_e2, nN_l1, nN_l2, nN_l3, nN_l4, nI_add, pk_mul, vp_inN, nI_cl, n01, n10, P_i, P_ii, P_iii, f_Mo_at, f_Mo_map, f_Mo_contact, f_Mo_within, f_Mo_isPort, f_Hp_endpoint, f_Hp_nodeOf, f_Hp_portOf, f_Ma_max, f_Ma_min, f_Hp_isSetting, popN, rok, a1, noX, swc, mL, if_true, if_false, ↓reduceIte, cond_true, cond_false, true_and, and_true, List.length_cons, List.length_nil, List.nil_append, List.cons_append, List.append_nil, Option.toList, Nat.reduceEqDiff, Bool.false_eq_true, reduceCtorEq, Nat.reduceAdd, Nat.reduceLT, Nat.reduceLeDiff, Nat.reduceSub, List.replicate, Nat.zero_add, Nat.lt_add_one, Nat.le_refl, Nat.zero_le, Nat.succ_ne_zero, not_false_eq_true, not_true_eq_false, false_implies, true_implies, forall_const, imp_self, true_or, or_true, eq_self, sI_zw, zw_zw, hI_zw, tg_zw, ln_zw, hR_zw, hL_zw, hN_zw, hM_zw, upd_s, upd_u, upd_ne, Classical.not_not, k_Nw_nodeProperty, w1, hP, f_Nw_nodeAt, e1, d3, v]; try clear hgo9 hW9); try (obtain ⟨W9, hW9, hgo9⟩ := wp_ex (T_Nw_nodeProperty l G) [] _; refine hgo9 200 _ _ _ _ ?_; simp -implicitDefEqProofs (disch := omega) only [hW9, inl, gate, Xq, tz_const, tz_iload, tz_lload, tz_dload, tz_aload, tz_istore, tz_astore, tz_lstore, tz_dstore, tz_iinc, tz_i1, tz_i2, tz_i2z, tz_l2, tz_l2z, tz_i2l, tz_l2i, tz_lcmp, tz_i2d, tz_d2, tz_dcmp, tz_dup, tz_dup2, tz_pop, tz_if, tz_icmp, tz_null, tz_goto, tz_sw, tz_getf, tz_puti, tz_putz, tz_putr, tz_putl, tz_iaload, tz_baload, tz_laload, tz_aaload, tz_iastore, tz_bastore, tz_lastore, tz_aastore, tz_alen, tz_new, tz_newa, tz_oinit, tz_iret, tz_zret, tz_lret, tz_dret, tz_aret, tz_vret, tz_throw, tz_callS, tz_callV, tz_callI, tz_callR, tz_pureS, tz_pureV, tz_callVH, lg, lset, lkill, lst1, lst2, entL, isRf, is1, vl, va_rf_none, va_rf_some, isRf_rf, is1_rf, i0, i1, bI_eq0, bI_eq1, nm_em, nI_eqP, nI_leP, nI_ltP, nN_e1, nN_e2, nN_l1, nN_l2, nN_l3, nN_l4, nI_add, pk_mul, vp_inN, nI_cl, n01, n10, P_i, P_ii, P_iii, f_Mo_at, f_Mo_map, f_Mo_contact, f_Mo_within, f_Mo_isPort, f_Hp_endpoint, f_Hp_nodeOf, f_Hp_portOf, f_Ma_max, f_Ma_min, f_Hp_isSetting, popN, rok, a1, noX, swc, mL, if_true, if_false, ↓reduceIte, cond_true, cond_false, true_and, and_true, List.length_cons, List.length_nil, List.nil_append, List.cons_append, List.append_nil, Option.toList, Nat.reduceEqDiff, Bool.false_eq_true, reduceCtorEq, Nat.reduceAdd, Nat.reduceLT, Nat.reduceLeDiff, Nat.reduceSub, List.replicate, Nat.zero_add, Nat.lt_add_one, Nat.le_refl, Nat.zero_le, Nat.succ_ne_zero, not_false_eq_true, not_true_eq_false, false_implies, true_implies, forall_const, imp_self, true_or, or_true, eq_self, sI_zw, zw_zw, hI_zw, tg_zw, ln_zw, hR_zw, hL_zw, hN_zw, hM_zw, upd_s, upd_u, upd_ne, Classical.not_not, k_Nw_nodeProperty, w1, hP, f_Nw_nodeAt, e1, d3, v]; try clear hgo9 hW9); try (obtain ⟨W9, hW9, hgo9⟩ := wp_ex (T_Nw_nodeProperty l G) [] _; refine hgo9 200 _ _ _ _ ?_; simp -implicitDefEqProofs (disch := omega) only [hW9, inl, gate, Xq, tz_const, tz_iload, tz_lload, tz_dload, tz_aload, tz_istore, tz_astore, tz_lstore, tz_dstore, tz_iinc, tz_i1, tz_i2, tz_i2z, tz_l2, tz_l2z, tz_i2l, tz_l2i, tz_lcmp, tz_i2d, tz_d2, tz_dcmp, tz_dup, tz_dup2, tz_pop, tz_if, tz_icmp, tz_null, tz_goto, tz_sw, tz_getf, tz_puti, tz_putz, tz_putr, tz_putl, tz_iaload, tz_baload, tz_laload, tz_aaload, tz_iastore, tz_bastore, tz_lastore, tz_aastore, tz_alen, tz_new, tz_newa, tz_oinit, tz_iret, tz_zret, tz_lret, tz_dret, tz_aret, tz_vret, tz_throw, tz_callS, tz_callV, tz_callI, tz_callR, tz_pureS, tz_pureV, tz_callVH, lg, lset, lkill, lst1, lst2, entL, isRf, is1, vl, va_rf_none, va_rf_some, isRf_rf, is1_rf, i0, i1, bI_eq0, bI_eq1, nm_em, nI_eqP, nI_leP, nI_ltP, nN_e1, nN_e2, nN_l1, nN_l2, nN_l3, nN_l4, nI_add, pk_mul, vp_inN, nI_cl, n01, n10, P_i, P_ii, P_iii, f_Mo_at, f_Mo_map, f_Mo_contact, f_Mo_within, f_Mo_isPort, f_Hp_endpoint, f_Hp_nodeOf, f_Hp_portOf, f_Ma_max, f_Ma_min, f_Hp_isSetting, popN, rok, a1, noX, swc, mL, if_true, if_false, ↓reduceIte, cond_true, cond_false, true_and, and_true, List.length_cons, List.length_nil, List.nil_append, List.cons_append, List.append_nil, Option.toList, Nat.reduceEqDiff, Bool.false_eq_true, reduceCtorEq, Nat.reduceAdd, Nat.reduceLT, Nat.reduceLeDiff, Nat.reduceSub, List.replicate, Nat.zero_add, Nat.lt_add_one, Nat.le_refl, Nat.zero_le, Nat.succ_ne_zero, not_false_eq_true, not_true_eq_false, false_implies, true_implies, forall_const, imp_self, true_or, or_true, eq_self, sI_zw, zw_zw, hI_zw, tg_zw, ln_zw, hR_zw, hL_zw, hN_zw, hM_zw, upd_s, upd_u, upd_ne, Classical.not_not, k_Nw_nodeProperty, w1, hP, f_Nw_nodeAt, e1, d3, v]; try clear hgo9 hW9))
        exact hQ'
      · have v := v1 q
        ((obtain ⟨W9, hW9, hgo9⟩ := wp_ex (T_Nw_nodeProperty l G) [] _; refine hgo9 200 _ _ _ _ ?_; simp -implicitDefEqProofs (disch := omega) only [hW9, inl, gate, Xq, tz_const, tz_iload, tz_lload, tz_dload, tz_aload, tz_istore, tz_astore, tz_lstore, tz_dstore, tz_iinc, tz_i1, tz_i2, tz_i2z, tz_l2, tz_l2z, tz_i2l, tz_l2i, tz_lcmp, tz_i2d, tz_d2, tz_dcmp, tz_dup, tz_dup2, tz_pop, tz_if, tz_icmp, tz_null, tz_goto, tz_sw, tz_getf, tz_puti, tz_putz, tz_putr, tz_putl, tz_iaload, tz_baload, tz_laload, tz_aaload, tz_iastore, tz_bastore, tz_lastore, tz_aastore, tz_alen, tz_new, tz_newa, tz_oinit, tz_iret, tz_zret, tz_lret, tz_dret, tz_aret, tz_vret, tz_throw, tz_callS, tz_callV, tz_callI, tz_callR, tz_pureS, tz_pureV, tz_callVH, lg, lset, lkill, lst1, lst2, entL, isRf, is1, vl, va_rf_none, va_rf_some, isRf_rf, is1_rf, i0, i1, bI_eq0, bI_eq1, nm_em, nI_eqP, nI_leP, nI_ltP, nN_e1, nN_e2, nN_l1, nN_l2, nN_l3, nN_l4, nI_add, pk_mul, vp_inN, nI_cl, n01, n10, P_i, P_ii, P_iii, f_Mo_at, f_Mo_map, f_Mo_contact, f_Mo_within, f_Mo_isPort, f_Hp_endpoint, f_Hp_nodeOf, f_Hp_portOf, f_Ma_max, f_Ma_min, f_Hp_isSetting, popN, rok, a1, noX, swc, mL, if_true, if_false, ↓reduceIte, cond_true, cond_false, true_and, and_true, List.length_cons, List.length_nil, List.nil_append, List.cons_append, List.append_nil, Option.toList, Nat.reduceEqDiff, Bool.false_eq_true, reduceCtorEq, Nat.reduceAdd, Nat.reduceLT, Nat.reduceLeDiff, Nat.reduceSub, List.replicate, Nat.zero_add, Nat.lt_add_one, Nat.le_refl, Nat.zero_le, Nat.succ_ne_zero, not_false_eq_true, not_true_eq_false, false_implies, true_implies, forall_const, imp_self, true_or, or_true, eq_self, sI_zw, zw_zw, hI_zw, tg_zw, ln_zw, hR_zw, hL_zw, hN_zw, hM_zw, upd_s, upd_u, upd_ne, Classical.not_not, k_Nw_nodeProperty, w1, hP, f_Nw_nodeAt, e1, d3, v]; try clear hgo9 hW9); try (obtain ⟨W9, hW9, hgo9⟩ := wp_ex (T_Nw_nodeProperty l G) [] _; refine hgo9 200 _ _ _ _ ?_; simp -implicitDefEqProofs (disch := omega) only [hW9, inl, gate, Xq, tz_const, tz_iload, tz_lload, tz_dload, tz_aload, tz_istore, tz_astore, tz_lstore, tz_dstore, tz_iinc, tz_i1, tz_i2, tz_i2z, tz_l2, tz_l2z, tz_i2l, tz_l2i, tz_lcmp, tz_i2d, tz_d2, tz_dcmp, tz_dup, tz_dup2, tz_pop, tz_if, tz_icmp, tz_null, tz_goto, tz_sw, tz_getf, tz_puti, tz_putz, tz_putr, tz_putl, tz_iaload, tz_baload, tz_laload, tz_aaload, tz_iastore, tz_bastore, tz_lastore, tz_aastore, tz_alen, tz_new, tz_newa, tz_oinit, tz_iret, tz_zret, tz_lret, tz_dret, tz_aret, tz_vret, tz_throw, tz_callS, tz_callV, tz_callI, tz_callR, tz_pureS, tz_pureV, tz_callVH, lg, lset, lkill, lst1, lst2, entL, isRf, is1, vl, va_rf_none, va_rf_some, isRf_rf, is1_rf, i0, i1, bI_eq0, bI_eq1, nm_em, nI_eqP, nI_leP, nI_ltP, nN_e1, nN_e2, nN_l1, nN_l2, nN_l3, nN_l4, nI_add, pk_mul, vp_inN, nI_cl, n01, n10, P_i, P_ii, P_iii, f_Mo_at, f_Mo_map, f_Mo_contact, f_Mo_within, f_Mo_isPort, f_Hp_endpoint, f_Hp_nodeOf, f_Hp_portOf, f_Ma_max, f_Ma_min, f_Hp_isSetting, popN, rok, a1, noX, swc, mL, if_true, if_false, ↓reduceIte, cond_true, cond_false, true_and, and_true, List.length_cons, List.length_nil, List.nil_append, List.cons_append, List.append_nil, Option.toList, Nat.reduceEqDiff, Bool.false_eq_true, reduceCtorEq, Nat.reduceAdd, Nat.reduceLT, Nat.reduceLeDiff, Nat.reduceSub, List.replicate, Nat.zero_add, Nat.lt_add_one, Nat.le_refl, Nat.zero_le, Nat.succ_ne_zero, not_false_eq_true, not_true_eq_false, false_implies, true_implies, forall_const, imp_self, true_or, or_true, eq_self, sI_zw, zw_zw, hI_zw, tg_zw, ln_zw, hR_zw, hL_zw, hN_zw, hM_zw, upd_s, upd_u, upd_ne, Classical.not_not, k_Nw_nodeProperty, w1, hP, f_Nw_nodeAt, e1, d3, v]; try clear hgo9 hW9); try (obtain ⟨W9, hW9, hgo9⟩ := wp_ex (T_Nw_nodeProperty l G) [] _; refine hgo9 200 _ _ _ _ ?_; simp -implicitDefEqProofs (disch := omega) only [hW9, inl, gate, Xq, tz_const, tz_iload, tz_lload, tz_dload, tz_aload, tz_istore, tz_astore, tz_lstore, tz_dstore, tz_iinc, tz_i1, tz_i2, tz_i2z, tz_l2, tz_l2z, tz_i2l, tz_l2i, tz_lcmp, tz_i2d, tz_d2, tz_dcmp, tz_dup, tz_dup2, tz_pop, tz_if, tz_icmp, tz_null, tz_goto, tz_sw, tz_getf, tz_puti, tz_putz, tz_putr, tz_putl, tz_iaload, tz_baload, tz_laload, tz_aaload, tz_iastore, tz_bastore, tz_lastore, tz_aastore, tz_alen, tz_new, tz_newa, tz_oinit, tz_iret, tz_zret, tz_lret, tz_dret, tz_aret, tz_vret, tz_throw, tz_callS, tz_callV, tz_callI, tz_callR, tz_pureS, tz_pureV, tz_callVH, lg, lset, lkill, lst1, lst2, entL, isRf, is1, vl, va_rf_none, va_rf_some, isRf_rf, is1_rf, i0, i1, bI_eq0, bI_eq1, nm_em, nI_eqP, nI_leP, nI_ltP, nN_e1, nN_e2, nN_l1, nN_l2, nN_l3, nN_l4, nI_add, pk_mul, vp_inN, nI_cl, n01, n10, P_i, P_ii, P_iii, f_Mo_at, f_Mo_map, f_Mo_contact, f_Mo_within, f_Mo_isPort, f_Hp_endpoint, f_Hp_nodeOf, f_Hp_portOf, f_Ma_max, f_Ma_min, f_Hp_isSetting, popN, rok, a1, noX, swc, mL, if_true, if_false, ↓reduceIte, cond_true, cond_false, true_and, and_true, List.length_cons, List.length_nil, List.nil_append, List.cons_append, List.append_nil, Option.toList, Nat.reduceEqDiff, Bool.false_eq_true, reduceCtorEq, Nat.reduceAdd, Nat.reduceLT, Nat.reduceLeDiff, Nat.reduceSub, List.replicate, Nat.zero_add, Nat.lt_add_one, Nat.le_refl, Nat.zero_le, Nat.succ_ne_zero, not_false_eq_true, not_true_eq_false, false_implies, true_implies, forall_const, imp_self, true_or, or_true, eq_self, sI_zw, zw_zw, hI_zw, tg_zw, ln_zw, hR_zw, hL_zw, hN_zw, hM_zw, upd_s, upd_u, upd_ne, Classical.not_not, k_Nw_nodeProperty, w1, hP, f_Nw_nodeAt, e1, d3, v]; try clear hgo9 hW9))
        refine c_Nw_hostsBehind wn (nI i) z h _ k inv (Or.inr ⟨i, by omega, rfl⟩) ?_
        simp only [aft]
        (obtain ⟨W9, hW9, hgo9⟩ := wp_ex (T_Nw_nodeProperty l G) [] _; refine hgo9 200 _ _ _ _ ?_; simp -implicitDefEqProofs (disch := omega) only [hW9, inl, gate, Xq, tz_const, tz_iload, tz_lload, tz_dload, tz_aload, tz_istore, tz_astore, tz_lstore, tz_dstore, tz_iinc, tz_i1, tz_i2, tz_i2z, tz_l2, tz_l2z, tz_i2l, tz_l2i, tz_lcmp, tz_i2d, tz_d2, tz_dcmp, tz_dup, tz_dup2, tz_pop, tz_if, tz_icmp, tz_null, tz_goto, tz_sw, tz_getf, tz_puti, tz_putz, tz_putr, tz_putl, tz_iaload, tz_baload, tz_laload, tz_aaload, tz_iastore, tz_bastore, tz_lastore, tz_aastore, tz_alen, tz_new, tz_newa, tz_oinit, tz_iret, tz_zret, tz_lret, tz_dret, tz_aret, tz_vret, tz_throw, tz_callS, tz_callV, tz_callI, tz_callR, tz_pureS, tz_pureV, tz_callVH, lg, lset, lkill, lst1, lst2, entL, isRf, is1, vl, va_rf_none, va_rf_some, isRf_rf, is1_rf, i0, i1, bI_eq0, bI_eq1, nm_em, nI_eqP, nI_leP, nI_ltP, nN_e1, nN_e2, nN_l1, nN_l2, nN_l3, nN_l4, nI_add, pk_mul, vp_inN, nI_cl, n01, n10, P_i, P_ii, P_iii, f_Mo_at, f_Mo_map, f_Mo_contact, f_Mo_within, f_Mo_isPort, f_Hp_endpoint, f_Hp_nodeOf, f_Hp_portOf, f_Ma_max, f_Ma_min, f_Hp_isSetting, popN, rok, a1, noX, swc, mL, if_true, if_false, ↓reduceIte, cond_true, cond_false, true_and, and_true, List.length_cons, List.length_nil, List.nil_append, List.cons_append, List.append_nil, Option.toList, Nat.reduceEqDiff, Bool.false_eq_true, reduceCtorEq, Nat.reduceAdd, Nat.reduceLT, Nat.reduceLeDiff, Nat.reduceSub, List.replicate, Nat.zero_add, Nat.lt_add_one, Nat.le_refl, Nat.zero_le, Nat.succ_ne_zero, not_false_eq_true, not_true_eq_false, false_implies, true_implies, forall_const, imp_self, true_or, or_true, eq_self, sI_zw, zw_zw, hI_zw, tg_zw, ln_zw, hR_zw, hL_zw, hN_zw, hM_zw, upd_s, upd_u, upd_ne, Classical.not_not, k_Nw_nodeProperty, w1]; try clear hgo9 hW9)
        exact hQ'
    · have hQ' : Q (.inl (some (.int (z (16 + 16 * i + 12))))) h := hQ
      rw [b2] at hQ'
      ((obtain ⟨W9, hW9, hgo9⟩ := wp_ex (T_Nw_nodeProperty l G) [] _; refine hgo9 200 _ _ _ _ ?_; simp -implicitDefEqProofs (disch := omega) only [hW9, inl, gate, Xq, tz_const, tz_iload, tz_lload, tz_dload, tz_aload, tz_istore, tz_astore, tz_lstore, tz_dstore, tz_iinc, tz_i1, tz_i2, tz_i2z, tz_l2, tz_l2z, tz_i2l, tz_l2i, tz_lcmp, tz_i2d, tz_d2, tz_dcmp, tz_dup, tz_dup2, tz_pop, tz_if, tz_icmp, tz_null, tz_goto, tz_sw, tz_getf, tz_puti, tz_putz, tz_putr, tz_putl, tz_iaload, tz_baload, tz_laload, tz_aaload, tz_iastore, tz_bastore, tz_lastore, tz_aastore, tz_alen, tz_new, tz_newa, tz_oinit, tz_iret, tz_zret, tz_lret, tz_dret, tz_aret, tz_vret, tz_throw, tz_callS, tz_callV, tz_callI, tz_callR, tz_pureS, tz_pureV, tz_callVH, lg, lset, lkill, lst1, lst2, entL, isRf, is1, vl, va_rf_none, va_rf_some, isRf_rf, is1_rf, i0, i1, bI_eq0, bI_eq1, nm_em, nI_eqP, nI_leP, nI_ltP, nN_e1, nN_e2, nN_l1, nN_l2, nN_l3, nN_l4, nI_add, pk_mul, vp_inN, nI_cl, n01, n10, P_i, P_ii, P_iii, f_Mo_at, f_Mo_map, f_Mo_contact, f_Mo_within, f_Mo_isPort, f_Hp_endpoint, f_Hp_nodeOf, f_Hp_portOf, f_Ma_max, f_Ma_min, f_Hp_isSetting, popN, rok, a1, noX, swc, mL, if_true, if_false, ↓reduceIte, cond_true, cond_false, true_and, and_true, List.length_cons, List.length_nil, List.nil_append, List.cons_append, List.append_nil, Option.toList, Nat.reduceEqDiff, Bool.false_eq_true, reduceCtorEq, Nat.reduceAdd, Nat.reduceLT, Nat.reduceLeDiff, Nat.reduceSub, List.replicate, Nat.zero_add, Nat.lt_add_one, Nat.le_refl, Nat.zero_le, Nat.succ_ne_zero, not_false_eq_true, not_true_eq_false, false_implies, true_implies, forall_const, imp_self, true_or, or_true, eq_self, sI_zw, zw_zw, hI_zw, tg_zw, ln_zw, hR_zw, hL_zw, hN_zw, hM_zw, upd_s, upd_u, upd_ne, Classical.not_not, k_Nw_nodeProperty, w1, hP, f_Nw_nodeAt, e1, d3, hPd, ed, s2, sn]; try clear hgo9 hW9); try (obtain ⟨W9, hW9, hgo9⟩ := wp_ex (T_Nw_nodeProperty l G) [] _; refine hgo9 200 _ _ _ _ ?_; simp -implicitDefEqProofs (disch := omega) only [hW9, inl, gate, Xq, tz_const, tz_iload, tz_lload, tz_dload, tz_aload, tz_istore, tz_astore, tz_lstore, tz_dstore, tz_iinc, tz_i1, tz_i2, tz_i2z, tz_l2, tz_l2z, tz_i2l, tz_l2i, tz_lcmp, tz_i2d, tz_d2, tz_dcmp, tz_dup, tz_dup2, tz_pop, tz_if, tz_icmp, tz_null, tz_goto, tz_sw, tz_getf, tz_puti, tz_putz, tz_putr, tz_putl, tz_iaload, tz_baload, tz_laload, tz_aaload, tz_iastore, tz_bastore, tz_lastore, tz_aastore, tz_alen, tz_new, tz_newa, tz_oinit, tz_iret, tz_zret, tz_lret, tz_dret, tz_aret, tz_vret, tz_throw, tz_callS, tz_callV, tz_callI, tz_callR, tz_pureS, tz_pureV, tz_callVH, lg, lset, lkill, lst1, lst2, entL, isRf, is1, vl, va_rf_none, va_rf_some, isRf_rf, is1_rf, i0, i1, bI_eq0, bI_eq1, nm_em, nI_eqP, nI_leP, nI_ltP, nN_e1, nN_e2, nN_l1, nN_l2, nN_l3, nN_l4, nI_add, pk_mul, vp_inN, nI_cl, n01, n10, P_i, P_ii, P_iii, f_Mo_at, f_Mo_map, f_Mo_contact, f_Mo_within, f_Mo_isPort, f_Hp_endpoint, f_Hp_nodeOf, f_Hp_portOf, f_Ma_max, f_Ma_min, f_Hp_isSetting, popN, rok, a1, noX, swc, mL, if_true, if_false, ↓reduceIte, cond_true, cond_false, true_and, and_true, List.length_cons, List.length_nil, List.nil_append, List.cons_append, List.append_nil, Option.toList, Nat.reduceEqDiff, Bool.false_eq_true, reduceCtorEq, Nat.reduceAdd, Nat.reduceLT, Nat.reduceLeDiff, Nat.reduceSub, List.replicate, Nat.zero_add, Nat.lt_add_one, Nat.le_refl, Nat.zero_le, Nat.succ_ne_zero, not_false_eq_true, not_true_eq_false, false_implies, true_implies, forall_const, imp_self, true_or, or_true, eq_self, sI_zw, zw_zw, hI_zw, tg_zw, ln_zw, hR_zw, hL_zw, hN_zw, hM_zw, upd_s, upd_u, upd_ne, Classical.not_not, k_Nw_nodeProperty, w1, hP, f_Nw_nodeAt, e1, d3, hPd, ed, s2, sn]; try clear hgo9 hW9); try (obtain ⟨W9, hW9, hgo9⟩ := wp_ex (T_Nw_nodeProperty l G) [] _; refine hgo9 200 _ _ _ _ ?_; simp -implicitDefEqProofs (disch := omega) only [hW9, inl, gate, Xq, tz_const, tz_iload, tz_lload, tz_dload, tz_aload, tz_istore, tz_astore, tz_lstore, tz_dstore, tz_iinc, tz_i1, tz_i2, tz_i2z, tz_l2, tz_l2z, tz_i2l, tz_l2i, tz_lcmp, tz_i2d, tz_d2, tz_dcmp, tz_dup, tz_dup2, tz_pop, tz_if, tz_icmp, tz_null, tz_goto, tz_sw, tz_getf, tz_puti, tz_putz, tz_putr, tz_putl, tz_iaload, tz_baload, tz_laload, tz_aaload, tz_iastore, tz_bastore, tz_lastore, tz_aastore, tz_alen, tz_new, tz_newa, tz_oinit, tz_iret, tz_zret, tz_lret, tz_dret, tz_aret, tz_vret, tz_throw, tz_callS, tz_callV, tz_callI, tz_callR, tz_pureS, tz_pureV, tz_callVH, lg, lset, lkill, lst1, lst2, entL, isRf, is1, vl, va_rf_none, va_rf_some, isRf_rf, is1_rf, i0, i1, bI_eq0, bI_eq1, nm_em, nI_eqP, nI_leP, nI_ltP, nN_e1, nN_e2, nN_l1, nN_l2, nN_l3, nN_l4, nI_add, pk_mul, vp_inN, nI_cl, n01, n10, P_i, P_ii, P_iii, f_Mo_at, f_Mo_map, f_Mo_contact, f_Mo_within, f_Mo_isPort, f_Hp_endpoint, f_Hp_nodeOf, f_Hp_portOf, f_Ma_max, f_Ma_min, f_Hp_isSetting, popN, rok, a1, noX, swc, mL, if_true, if_false, ↓reduceIte, cond_true, cond_false, true_and, and_true, List.length_cons, List.length_nil, List.nil_append, List.cons_append, List.append_nil, Option.toList, Nat.reduceEqDiff, Bool.false_eq_true, reduceCtorEq, Nat.reduceAdd, Nat.reduceLT, Nat.reduceLeDiff, Nat.reduceSub, List.replicate, Nat.zero_add, Nat.lt_add_one, Nat.le_refl, Nat.zero_le, Nat.succ_ne_zero, not_false_eq_true, not_true_eq_false, false_implies, true_implies, forall_const, imp_self, true_or, or_true, eq_self, sI_zw, zw_zw, hI_zw, tg_zw, ln_zw, hR_zw, hL_zw, hN_zw, hM_zw, upd_s, upd_u, upd_ne, Classical.not_not, k_Nw_nodeProperty, w1, hP, f_Nw_nodeAt, e1, d3, hPd, ed, s2, sn]; try clear hgo9 hW9))
      exact hQ'
    · have hQ' : Q (.inl (some (.int (z (16 + 16 * i + 13))))) h := hQ
      rw [q13] at hQ'
      ((obtain ⟨W9, hW9, hgo9⟩ := wp_ex (T_Nw_nodeProperty l G) [] _; refine hgo9 200 _ _ _ _ ?_; simp -implicitDefEqProofs (disch := omega) only [hW9, inl, gate, Xq, tz_const, tz_iload, tz_lload, tz_dload, tz_aload, tz_istore, tz_astore, tz_lstore, tz_dstore, tz_iinc, tz_i1, tz_i2, tz_i2z, tz_l2, tz_l2z, tz_i2l, tz_l2i, tz_lcmp, tz_i2d, tz_d2, tz_dcmp, tz_dup, tz_dup2, tz_pop, tz_if, tz_icmp, tz_null, tz_goto, tz_sw, tz_getf, tz_puti, tz_putz, tz_putr, tz_putl, tz_iaload, tz_baload, tz_laload, tz_aaload, tz_iastore, tz_bastore, tz_lastore, tz_aastore, tz_alen, tz_new, tz_newa, tz_oinit, tz_iret, tz_zret, tz_lret, tz_dret, tz_aret, tz_vret, tz_throw, tz_callS, tz_callV, tz_callI, tz_callR, tz_pureS, tz_pureV, tz_callVH, lg, lset, lkill, lst1, lst2, entL, isRf, is1, vl, va_rf_none, va_rf_some, isRf_rf, is1_rf, i0, i1, bI_eq0, bI_eq1, nm_em, nI_eqP, nI_leP, nI_ltP, nN_e1, nN_e2, nN_l1, nN_l2, nN_l3, nN_l4, nI_add, pk_mul, vp_inN, nI_cl, n01, n10, P_i, P_ii, P_iii, f_Mo_at, f_Mo_map, f_Mo_contact, f_Mo_within, f_Mo_isPort, f_Hp_endpoint, f_Hp_nodeOf, f_Hp_portOf, f_Ma_max, f_Ma_min, f_Hp_isSetting, popN, rok, a1, noX, swc, mL, if_true, if_false, ↓reduceIte, cond_true, cond_false, true_and, and_true, List.length_cons, List.length_nil, List.nil_append, List.cons_append, List.append_nil, Option.toList, Nat.reduceEqDiff, Bool.false_eq_true, reduceCtorEq, Nat.reduceAdd, Nat.reduceLT, Nat.reduceLeDiff, Nat.reduceSub, List.replicate, Nat.zero_add, Nat.lt_add_one, Nat.le_refl, Nat.zero_le, Nat.succ_ne_zero, not_false_eq_true, not_true_eq_false, false_implies, true_implies, forall_const, imp_self, true_or, or_true, eq_self, sI_zw, zw_zw, hI_zw, tg_zw, ln_zw, hR_zw, hL_zw, hN_zw, hM_zw, upd_s, upd_u, upd_ne, Classical.not_not, k_Nw_nodeProperty, w1, hP, f_Nw_nodeAt, e1, d3, hPd, ed, s2, sn, sp]; try clear hgo9 hW9); try (obtain ⟨W9, hW9, hgo9⟩ := wp_ex (T_Nw_nodeProperty l G) [] _; refine hgo9 200 _ _ _ _ ?_; simp -implicitDefEqProofs (disch := omega) only [hW9, inl, gate, Xq, tz_const, tz_iload, tz_lload, tz_dload, tz_aload, tz_istore, tz_astore, tz_lstore, tz_dstore, tz_iinc, tz_i1, tz_i2, tz_i2z, tz_l2, tz_l2z, tz_i2l, tz_l2i, tz_lcmp, tz_i2d, tz_d2, tz_dcmp, tz_dup, tz_dup2, tz_pop, tz_if, tz_icmp, tz_null, tz_goto, tz_sw, tz_getf, tz_puti, tz_putz, tz_putr, tz_putl, tz_iaload, tz_baload, tz_laload, tz_aaload, tz_iastore, tz_bastore, tz_lastore, tz_aastore, tz_alen, tz_new, tz_newa, tz_oinit, tz_iret, tz_zret, tz_lret, tz_dret, tz_aret, tz_vret, tz_throw, tz_callS, tz_callV, tz_callI, tz_callR, tz_pureS, tz_pureV, tz_callVH, lg, lset, lkill, lst1, lst2, entL, isRf, is1, vl, va_rf_none, va_rf_some, isRf_rf, is1_rf, i0, i1, bI_eq0, bI_eq1, nm_em, nI_eqP, nI_leP, nI_ltP, nN_e1, nN_e2, nN_l1, nN_l2, nN_l3, nN_l4, nI_add, pk_mul, vp_inN, nI_cl, n01, n10, P_i, P_ii, P_iii, f_Mo_at, f_Mo_map, f_Mo_contact, f_Mo_within, f_Mo_isPort, f_Hp_endpoint, f_Hp_nodeOf, f_Hp_portOf, f_Ma_max, f_Ma_min, f_Hp_isSetting, popN, rok, a1, noX, swc, mL, if_true, if_false, ↓reduceIte, cond_true, cond_false, true_and, and_true, List.length_cons, List.length_nil, List.nil_append, List.cons_append, List.append_nil, Option.toList, Nat.reduceEqDiff, Bool.false_eq_true, reduceCtorEq, Nat.reduceAdd, Nat.reduceLT, Nat.reduceLeDiff, Nat.reduceSub, List.replicate, Nat.zero_add, Nat.lt_add_one, Nat.le_refl, Nat.zero_le, Nat.succ_ne_zero, not_false_eq_true, not_true_eq_false, false_implies, true_implies, forall_const, imp_self, true_or, or_true, eq_self, sI_zw, zw_zw, hI_zw, tg_zw, ln_zw, hR_zw, hL_zw, hN_zw, hM_zw, upd_s, upd_u, upd_ne, Classical.not_not, k_Nw_nodeProperty, w1, hP, f_Nw_nodeAt, e1, d3, hPd, ed, s2, sn, sp]; try clear hgo9 hW9); try (obtain ⟨W9, hW9, hgo9⟩ := wp_ex (T_Nw_nodeProperty l G) [] _; refine hgo9 200 _ _ _ _ ?_; simp -implicitDefEqProofs (disch := omega) only [hW9, inl, gate, Xq, tz_const, tz_iload, tz_lload, tz_dload, tz_aload, tz_istore, tz_astore, tz_lstore, tz_dstore, tz_iinc, tz_i1, tz_i2, tz_i2z, tz_l2, tz_l2z, tz_i2l, tz_l2i, tz_lcmp, tz_i2d, tz_d2, tz_dcmp, tz_dup, tz_dup2, tz_pop, tz_if, tz_icmp, tz_null, tz_goto, tz_sw, tz_getf, tz_puti, tz_putz, tz_putr, tz_putl, tz_iaload, tz_baload, tz_laload, tz_aaload, tz_iastore, tz_bastore, tz_lastore, tz_aastore, tz_alen, tz_new, tz_newa, tz_oinit, tz_iret, tz_zret, tz_lret, tz_dret, tz_aret, tz_vret, tz_throw, tz_callS, tz_callV, tz_callI, tz_callR, tz_pureS, tz_pureV, tz_callVH, lg, lset, lkill, lst1, lst2, entL, isRf, is1, vl, va_rf_none, va_rf_some, isRf_rf, is1_rf, i0, i1, bI_eq0, bI_eq1, nm_em, nI_eqP, nI_leP, nI_ltP, nN_e1, nN_e2, nN_l1, nN_l2, nN_l3, nN_l4, nI_add, pk_mul, vp_inN, nI_cl, n01, n10, P_i, P_ii, P_iii, f_Mo_at, f_Mo_map, f_Mo_contact, f_Mo_within, f_Mo_isPort, f_Hp_endpoint, f_Hp_nodeOf, f_Hp_portOf, f_Ma_max, f_Ma_min, f_Hp_isSetting, popN, rok, a1, noX, swc, mL, if_true, if_false, ↓reduceIte, cond_true, cond_false, true_and, and_true, List.length_cons, List.length_nil, List.nil_append, List.cons_append, List.append_nil, Option.toList, Nat.reduceEqDiff, Bool.false_eq_true, reduceCtorEq, Nat.reduceAdd, Nat.reduceLT, Nat.reduceLeDiff, Nat.reduceSub, List.replicate, Nat.zero_add, Nat.lt_add_one, Nat.le_refl, Nat.zero_le, Nat.succ_ne_zero, not_false_eq_true, not_true_eq_false, false_implies, true_implies, forall_const, imp_self, true_or, or_true, eq_self, sI_zw, zw_zw, hI_zw, tg_zw, ln_zw, hR_zw, hL_zw, hN_zw, hM_zw, upd_s, upd_u, upd_ne, Classical.not_not, k_Nw_nodeProperty, w1, hP, f_Nw_nodeAt, e1, d3, hPd, ed, s2, sn, sp]; try clear hgo9 hW9))
      exact hQ'
    · have hQ' : Q (.inl (some (.int (z (16 + 16 * i + 14))))) h := hQ
      rw [← v4] at hQ'
      ((obtain ⟨W9, hW9, hgo9⟩ := wp_ex (T_Nw_nodeProperty l G) [] _; refine hgo9 200 _ _ _ _ ?_; simp -implicitDefEqProofs (disch := omega) only [hW9, inl, gate, Xq, tz_const, tz_iload, tz_lload, tz_dload, tz_aload, tz_istore, tz_astore, tz_lstore, tz_dstore, tz_iinc, tz_i1, tz_i2, tz_i2z, tz_l2, tz_l2z, tz_i2l, tz_l2i, tz_lcmp, tz_i2d, tz_d2, tz_dcmp, tz_dup, tz_dup2, tz_pop, tz_if, tz_icmp, tz_null, tz_goto, tz_sw, tz_getf, tz_puti, tz_putz, tz_putr, tz_putl, tz_iaload, tz_baload, tz_laload, tz_aaload, tz_iastore, tz_bastore, tz_lastore, tz_aastore, tz_alen, tz_new, tz_newa, tz_oinit, tz_iret, tz_zret, tz_lret, tz_dret, tz_aret, tz_vret, tz_throw, tz_callS, tz_callV, tz_callI, tz_callR, tz_pureS, tz_pureV, tz_callVH, lg, lset, lkill, lst1, lst2, entL, isRf, is1, vl, va_rf_none, va_rf_some, isRf_rf, is1_rf, i0, i1, bI_eq0, bI_eq1, nm_em, nI_eqP, nI_leP, nI_ltP, nN_e1, nN_e2, nN_l1, nN_l2, nN_l3, nN_l4, nI_add, pk_mul, vp_inN, nI_cl, n01, n10, P_i, P_ii, P_iii, f_Mo_at, f_Mo_map, f_Mo_contact, f_Mo_within, f_Mo_isPort, f_Hp_endpoint, f_Hp_nodeOf, f_Hp_portOf, f_Ma_max, f_Ma_min, f_Hp_isSetting, popN, rok, a1, noX, swc, mL, if_true, if_false, ↓reduceIte, cond_true, cond_false, true_and, and_true, List.length_cons, List.length_nil, List.nil_append, List.cons_append, List.append_nil, Option.toList, Nat.reduceEqDiff, Bool.false_eq_true, reduceCtorEq, Nat.reduceAdd, Nat.reduceLT, Nat.reduceLeDiff, Nat.reduceSub, List.replicate, Nat.zero_add, Nat.lt_add_one, Nat.le_refl, Nat.zero_le, Nat.succ_ne_zero, not_false_eq_true, not_true_eq_false, false_implies, true_implies, forall_const, imp_self, true_or, or_true, eq_self, sI_zw, zw_zw, hI_zw, tg_zw, ln_zw, hR_zw, hL_zw, hN_zw, hM_zw, upd_s, upd_u, upd_ne, Classical.not_not, k_Nw_nodeProperty, w1, hP, f_Nw_nodeAt, e1, d3, hPd, ed]; try clear hgo9 hW9); try (obtain ⟨W9, hW9, hgo9⟩ := wp_ex (T_Nw_nodeProperty l G) [] _; refine hgo9 200 _ _ _ _ ?_; simp -implicitDefEqProofs (disch := omega) only [hW9, inl, gate, Xq, tz_const, tz_iload, tz_lload, tz_dload, tz_aload, tz_istore, tz_astore, tz_lstore, tz_dstore, tz_iinc, tz_i1, tz_i2, tz_i2z, tz_l2, tz_l2z, tz_i2l, tz_l2i, tz_lcmp, tz_i2d, tz_d2, tz_dcmp, tz_dup, tz_dup2, tz_pop, tz_if, tz_icmp, tz_null, tz_goto, tz_sw, tz_getf, tz_puti, tz_putz, tz_putr, tz_putl, tz_iaload, tz_baload, tz_laload, tz_aaload, tz_iastore, tz_bastore, tz_lastore, tz_aastore, tz_alen, tz_new, tz_newa, tz_oinit, tz_iret, tz_zret, tz_lret, tz_dret, tz_aret, tz_vret, tz_throw, tz_callS, tz_callV, tz_callI, tz_callR, tz_pureS, tz_pureV, tz_callVH, lg, lset, lkill, lst1, lst2, entL, isRf, is1, vl, va_rf_none, va_rf_some, isRf_rf, is1_rf, i0, i1, bI_eq0, bI_eq1, nm_em, nI_eqP, nI_leP, nI_ltP, nN_e1, nN_e2, nN_l1, nN_l2, nN_l3, nN_l4, nI_add, pk_mul, vp_inN, nI_cl, n01, n10, P_i, P_ii, P_iii, f_Mo_at, f_Mo_map, f_Mo_contact, f_Mo_within, f_Mo_isPort, f_Hp_endpoint, f_Hp_nodeOf, f_Hp_portOf, f_Ma_max, f_Ma_min, f_Hp_isSetting, popN, rok, a1, noX, swc, mL, if_true, if_false, ↓reduceIte, cond_true, cond_false, true_and, and_true, List.length_cons, List.length_nil, List.nil_append, List.cons_append, List.append_nil, Option.toList, Nat.reduceEqDiff, Bool.false_eq_true, reduceCtorEq, Nat.reduceAdd, Nat.reduceLT, Nat.reduceLeDiff, Nat.reduceSub, List.replicate, Nat.zero_add, Nat.lt_add_one, Nat.le_refl, Nat.zero_le, Nat.succ_ne_zero, not_false_eq_true, not_true_eq_false, false_implies, true_implies, forall_const, imp_self, true_or, or_true, eq_self, sI_zw, zw_zw, hI_zw, tg_zw, ln_zw, hR_zw, hL_zw, hN_zw, hM_zw, upd_s, upd_u, upd_ne, Classical.not_not, k_Nw_nodeProperty, w1, hP, f_Nw_nodeAt, e1, d3, hPd, ed]; try clear hgo9 hW9); try (obtain ⟨W9, hW9, hgo9⟩ := wp_ex (T_Nw_nodeProperty l G) [] _; refine hgo9 200 _ _ _ _ ?_; simp -implicitDefEqProofs (disch := omega) only [hW9, inl, gate, Xq, tz_const, tz_iload, tz_lload, tz_dload, tz_aload, tz_istore, tz_astore, tz_lstore, tz_dstore, tz_iinc, tz_i1, tz_i2, tz_i2z, tz_l2, tz_l2z, tz_i2l, tz_l2i, tz_lcmp, tz_i2d, tz_d2, tz_dcmp, tz_dup, tz_dup2, tz_pop, tz_if, tz_icmp, tz_null, tz_goto, tz_sw, tz_getf, tz_puti, tz_putz, tz_putr, tz_putl, tz_iaload, tz_baload, tz_laload, tz_aaload, tz_iastore, tz_bastore, tz_lastore, tz_aastore, tz_alen, tz_new, tz_newa, tz_oinit, tz_iret, tz_zret, tz_lret, tz_dret, tz_aret, tz_vret, tz_throw, tz_callS, tz_callV, tz_callI, tz_callR, tz_pureS, tz_pureV, tz_callVH, lg, lset, lkill, lst1, lst2, entL, isRf, is1, vl, va_rf_none, va_rf_some, isRf_rf, is1_rf, i0, i1, bI_eq0, bI_eq1, nm_em, nI_eqP, nI_leP, nI_ltP, nN_e1, nN_e2, nN_l1, nN_l2, nN_l3, nN_l4, nI_add, pk_mul, vp_inN, nI_cl, n01, n10, P_i, P_ii, P_iii, f_Mo_at, f_Mo_map, f_Mo_contact, f_Mo_within, f_Mo_isPort, f_Hp_endpoint, f_Hp_nodeOf, f_Hp_portOf, f_Ma_max, f_Ma_min, f_Hp_isSetting, popN, rok, a1, noX, swc, mL, if_true, if_false, ↓reduceIte, cond_true, cond_false, true_and, and_true, List.length_cons, List.length_nil, List.nil_append, List.cons_append, List.append_nil, Option.toList, Nat.reduceEqDiff, Bool.false_eq_true, reduceCtorEq, Nat.reduceAdd, Nat.reduceLT, Nat.reduceLeDiff, Nat.reduceSub, List.replicate, Nat.zero_add, Nat.lt_add_one, Nat.le_refl, Nat.zero_le, Nat.succ_ne_zero, not_false_eq_true, not_true_eq_false, false_implies, true_implies, forall_const, imp_self, true_or, or_true, eq_self, sI_zw, zw_zw, hI_zw, tg_zw, ln_zw, hR_zw, hL_zw, hN_zw, hM_zw, upd_s, upd_u, upd_ne, Classical.not_not, k_Nw_nodeProperty, w1, hP, f_Nw_nodeAt, e1, d3, hPd, ed]; try clear hgo9 hW9))
      exact hQ'
theorem c_Hp_node (A : Nat → Nat) (a w : Int32) (z zs t : Nat → Int32) (n : Nat) (h : AH) (Q : Po) (k : HpR h A z zs t n) (iv : Inv z) (q1 : ¬ NdZ z a → Q (.inr IOE) (nx h)) (q2 : NdZ z a → ¬ (nI 0 ≤ w ∧ w ≤ nI 6) → Q (.inr IAE) (nx h)) (q3 : ∀ i j, i < mny z → a = nI i → j < 7 → w = nI j → Q (.inl (some (.int (npZ z i j)))) h) : Call l G M_Hp_node [.ref (A 0), .int a, .int w] h Q := by
  have x6 := k.1.1.1
  have x0 := k.1.2.1.1
  have w1 := k.2.1.1.1.1
  have hPn : P_Nw_nodeAt [.ref (A 1), .int a] h := k.2.1.1.1
  refine call_of rfl rfl (Nat.le_of_ble_eq_true rfl) ?_
  by_cases c : NdZ z a
  · obtain ⟨d, e⟩ := (ndF_iff k.2.1 iv.1 a).1 c
    (obtain ⟨W9, hW9, hgo9⟩ := wp_ex (T_Hp_node l G) [] _; refine hgo9 200 _ _ _ _ ?_; simp -implicitDefEqProofs (disch := omega) only [hW9, inl, gate, Xq, tz_const, tz_iload, tz_lload, tz_dload, tz_aload, tz_istore, tz_astore, tz_lstore, tz_dstore, tz_iinc, tz_i1, tz_i2, tz_i2z, tz_l2, tz_l2z, tz_i2l, tz_l2i, tz_lcmp, tz_i2d, tz_d2, tz_dcmp, tz_dup, tz_dup2, tz_pop, tz_if, tz_icmp, tz_null, tz_goto, tz_sw, tz_getf, tz_puti, tz_putz, tz_putr, tz_putl, tz_iaload, tz_baload, tz_laload, tz_aaload, tz_iastore, tz_bastore, tz_lastore, tz_aastore, tz_alen, tz_new, tz_newa, tz_oinit, tz_iret, tz_zret, tz_lret, tz_dret, tz_aret, tz_vret, tz_throw, tz_callS, tz_callV, tz_callI, tz_callR, tz_pureS, tz_pureV, tz_callVH, lg, lset, lkill, lst1, lst2, entL, isRf, is1, vl, va_rf_none, va_rf_some, isRf_rf, is1_rf, i0, i1, bI_eq0, bI_eq1, nm_em, nI_eqP, nI_leP, nI_ltP, nN_e1, nN_e2, nN_l1, nN_l2, nN_l3, nN_l4, nI_add, pk_mul, vp_inN, nI_cl, n01, n10, P_i, P_ii, P_iii, f_Mo_at, f_Mo_map, f_Mo_contact, f_Mo_within, f_Mo_isPort, f_Hp_endpoint, f_Hp_nodeOf, f_Hp_portOf, f_Ma_max, f_Ma_min, f_Hp_isSetting, popN, rok, a1, noX, swc, mL, if_true, if_false, ↓reduceIte, cond_true, cond_false, true_and, and_true, List.length_cons, List.length_nil, List.nil_append, List.cons_append, List.append_nil, Option.toList, Nat.reduceEqDiff, Bool.false_eq_true, reduceCtorEq, Nat.reduceAdd, Nat.reduceLT, Nat.reduceLeDiff, Nat.reduceSub, List.replicate, Nat.zero_add, Nat.lt_add_one, Nat.le_refl, Nat.zero_le, Nat.succ_ne_zero, not_false_eq_true, not_true_eq_false, false_implies, true_implies, forall_const, imp_self, true_or, or_true, eq_self, sI_zw, zw_zw, hI_zw, tg_zw, ln_zw, hR_zw, hL_zw, hN_zw, hM_zw, upd_s, upd_u, upd_ne, Classical.not_not, k_Hp_node, x6, x0, w1, hPn, f_Nw_nodeAt, e, f_Hp_isWithin]; try clear hgo9 hW9)
    refine ⟨fun c2 => ?_, fun c2 => ?_⟩
    · obtain ⟨j, j1, rfl⟩ := wi_nat (by omega) c2
      obtain ⟨i, i1, rfl⟩ := c
      (obtain ⟨W9, hW9, hgo9⟩ := wp_ex (T_Hp_node l G) [] _; refine hgo9 200 _ _ _ _ ?_; simp -implicitDefEqProofs (disch := omega) only [hW9, inl, gate, Xq, tz_const, tz_iload, tz_lload, tz_dload, tz_aload, tz_istore, tz_astore, tz_lstore, tz_dstore, tz_iinc, tz_i1, tz_i2, tz_i2z, tz_l2, tz_l2z, tz_i2l, tz_l2i, tz_lcmp, tz_i2d, tz_d2, tz_dcmp, tz_dup, tz_dup2, tz_pop, tz_if, tz_icmp, tz_null, tz_goto, tz_sw, tz_getf, tz_puti, tz_putz, tz_putr, tz_putl, tz_iaload, tz_baload, tz_laload, tz_aaload, tz_iastore, tz_bastore, tz_lastore, tz_aastore, tz_alen, tz_new, tz_newa, tz_oinit, tz_iret, tz_zret, tz_lret, tz_dret, tz_aret, tz_vret, tz_throw, tz_callS, tz_callV, tz_callI, tz_callR, tz_pureS, tz_pureV, tz_callVH, lg, lset, lkill, lst1, lst2, entL, isRf, is1, vl, va_rf_none, va_rf_some, isRf_rf, is1_rf, i0, i1, bI_eq0, bI_eq1, nm_em, nI_eqP, nI_leP, nI_ltP, nN_e1, nN_e2, nN_l1, nN_l2, nN_l3, nN_l4, nI_add, pk_mul, vp_inN, nI_cl, n01, n10, P_i, P_ii, P_iii, f_Mo_at, f_Mo_map, f_Mo_contact, f_Mo_within, f_Mo_isPort, f_Hp_endpoint, f_Hp_nodeOf, f_Hp_portOf, f_Ma_max, f_Ma_min, f_Hp_isSetting, popN, rok, a1, noX, swc, mL, if_true, if_false, ↓reduceIte, cond_true, cond_false, true_and, and_true, List.length_cons, List.length_nil, List.nil_append, List.cons_append, List.append_nil, Option.toList, Nat.reduceEqDiff, Bool.false_eq_true, reduceCtorEq, Nat.reduceAdd, Nat.reduceLT, Nat.reduceLeDiff, Nat.reduceSub, List.replicate, Nat.zero_add, Nat.lt_add_one, Nat.le_refl, Nat.zero_le, Nat.succ_ne_zero, not_false_eq_true, not_true_eq_false, false_implies, true_implies, forall_const, imp_self, true_or, or_true, eq_self, sI_zw, zw_zw, hI_zw, tg_zw, ln_zw, hR_zw, hL_zw, hN_zw, hM_zw, upd_s, upd_u, upd_ne, Classical.not_not, k_Hp_node, x6, x0, w1]; try clear hgo9 hW9)
      refine c_Nw_nodeProperty (A 1) i j z h _ k.2.1 iv.1 i1 (by omega) ?_
      simp only [aft]
      (obtain ⟨W9, hW9, hgo9⟩ := wp_ex (T_Hp_node l G) [] _; refine hgo9 200 _ _ _ _ ?_; simp -implicitDefEqProofs (disch := omega) only [hW9, inl, gate, Xq, tz_const, tz_iload, tz_lload, tz_dload, tz_aload, tz_istore, tz_astore, tz_lstore, tz_dstore, tz_iinc, tz_i1, tz_i2, tz_i2z, tz_l2, tz_l2z, tz_i2l, tz_l2i, tz_lcmp, tz_i2d, tz_d2, tz_dcmp, tz_dup, tz_dup2, tz_pop, tz_if, tz_icmp, tz_null, tz_goto, tz_sw, tz_getf, tz_puti, tz_putz, tz_putr, tz_putl, tz_iaload, tz_baload, tz_laload, tz_aaload, tz_iastore, tz_bastore, tz_lastore, tz_aastore, tz_alen, tz_new, tz_newa, tz_oinit, tz_iret, tz_zret, tz_lret, tz_dret, tz_aret, tz_vret, tz_throw, tz_callS, tz_callV, tz_callI, tz_callR, tz_pureS, tz_pureV, tz_callVH, lg, lset, lkill, lst1, lst2, entL, isRf, is1, vl, va_rf_none, va_rf_some, isRf_rf, is1_rf, i0, i1, bI_eq0, bI_eq1, nm_em, nI_eqP, nI_leP, nI_ltP, nN_e1, nN_e2, nN_l1, nN_l2, nN_l3, nN_l4, nI_add, pk_mul, vp_inN, nI_cl, n01, n10, P_i, P_ii, P_iii, f_Mo_at, f_Mo_map, f_Mo_contact, f_Mo_within, f_Mo_isPort, f_Hp_endpoint, f_Hp_nodeOf, f_Hp_portOf, f_Ma_max, f_Ma_min, f_Hp_isSetting, popN, rok, a1, noX, swc, mL, if_true, if_false, ↓reduceIte, cond_true, cond_false, true_and, and_true, List.length_cons, List.length_nil, List.nil_append, List.cons_append, List.append_nil, Option.toList, Nat.reduceEqDiff, Bool.false_eq_true, reduceCtorEq, Nat.reduceAdd, Nat.reduceLT, Nat.reduceLeDiff, Nat.reduceSub, List.replicate, Nat.zero_add, Nat.lt_add_one, Nat.le_refl, Nat.zero_le, Nat.succ_ne_zero, not_false_eq_true, not_true_eq_false, false_implies, true_implies, forall_const, imp_self, true_or, or_true, eq_self, sI_zw, zw_zw, hI_zw, tg_zw, ln_zw, hR_zw, hL_zw, hN_zw, hM_zw, upd_s, upd_u, upd_ne, Classical.not_not, k_Hp_node, x6]; try clear hgo9 hW9)
      exact q3 i j i1 rfl (by omega) rfl
    · (obtain ⟨W9, hW9, hgo9⟩ := wp_ex (T_Hp_node l G) [] _; refine hgo9 200 _ _ _ _ ?_; simp -implicitDefEqProofs (disch := omega) only [hW9, inl, gate, Xq, tz_const, tz_iload, tz_lload, tz_dload, tz_aload, tz_istore, tz_astore, tz_lstore, tz_dstore, tz_iinc, tz_i1, tz_i2, tz_i2z, tz_l2, tz_l2z, tz_i2l, tz_l2i, tz_lcmp, tz_i2d, tz_d2, tz_dcmp, tz_dup, tz_dup2, tz_pop, tz_if, tz_icmp, tz_null, tz_goto, tz_sw, tz_getf, tz_puti, tz_putz, tz_putr, tz_putl, tz_iaload, tz_baload, tz_laload, tz_aaload, tz_iastore, tz_bastore, tz_lastore, tz_aastore, tz_alen, tz_new, tz_newa, tz_oinit, tz_iret, tz_zret, tz_lret, tz_dret, tz_aret, tz_vret, tz_throw, tz_callS, tz_callV, tz_callI, tz_callR, tz_pureS, tz_pureV, tz_callVH, lg, lset, lkill, lst1, lst2, entL, isRf, is1, vl, va_rf_none, va_rf_some, isRf_rf, is1_rf, i0, i1, bI_eq0, bI_eq1, nm_em, nI_eqP, nI_leP, nI_ltP, nN_e1, nN_e2, nN_l1, nN_l2, nN_l3, nN_l4, nI_add, pk_mul, vp_inN, nI_cl, n01, n10, P_i, P_ii, P_iii, f_Mo_at, f_Mo_map, f_Mo_contact, f_Mo_within, f_Mo_isPort, f_Hp_endpoint, f_Hp_nodeOf, f_Hp_portOf, f_Ma_max, f_Ma_min, f_Hp_isSetting, popN, rok, a1, noX, swc, mL, if_true, if_false, ↓reduceIte, cond_true, cond_false, true_and, and_true, List.length_cons, List.length_nil, List.nil_append, List.cons_append, List.append_nil, Option.toList, Nat.reduceEqDiff, Bool.false_eq_true, reduceCtorEq, Nat.reduceAdd, Nat.reduceLT, Nat.reduceLeDiff, Nat.reduceSub, List.replicate, Nat.zero_add, Nat.lt_add_one, Nat.le_refl, Nat.zero_le, Nat.succ_ne_zero, not_false_eq_true, not_true_eq_false, false_implies, true_implies, forall_const, imp_self, true_or, or_true, eq_self, sI_zw, zw_zw, hI_zw, tg_zw, ln_zw, hR_zw, hL_zw, hN_zw, hM_zw, upd_s, upd_u, upd_ne, Classical.not_not, k_Hp_node, x6]; try clear hgo9 hW9)
      exact q2 c c2
  · have e := (ndF_iff k.2.1 iv.1 a).2 c
    (obtain ⟨W9, hW9, hgo9⟩ := wp_ex (T_Hp_node l G) [] _; refine hgo9 200 _ _ _ _ ?_; simp -implicitDefEqProofs (disch := omega) only [hW9, inl, gate, Xq, tz_const, tz_iload, tz_lload, tz_dload, tz_aload, tz_istore, tz_astore, tz_lstore, tz_dstore, tz_iinc, tz_i1, tz_i2, tz_i2z, tz_l2, tz_l2z, tz_i2l, tz_l2i, tz_lcmp, tz_i2d, tz_d2, tz_dcmp, tz_dup, tz_dup2, tz_pop, tz_if, tz_icmp, tz_null, tz_goto, tz_sw, tz_getf, tz_puti, tz_putz, tz_putr, tz_putl, tz_iaload, tz_baload, tz_laload, tz_aaload, tz_iastore, tz_bastore, tz_lastore, tz_aastore, tz_alen, tz_new, tz_newa, tz_oinit, tz_iret, tz_zret, tz_lret, tz_dret, tz_aret, tz_vret, tz_throw, tz_callS, tz_callV, tz_callI, tz_callR, tz_pureS, tz_pureV, tz_callVH, lg, lset, lkill, lst1, lst2, entL, isRf, is1, vl, va_rf_none, va_rf_some, isRf_rf, is1_rf, i0, i1, bI_eq0, bI_eq1, nm_em, nI_eqP, nI_leP, nI_ltP, nN_e1, nN_e2, nN_l1, nN_l2, nN_l3, nN_l4, nI_add, pk_mul, vp_inN, nI_cl, n01, n10, P_i, P_ii, P_iii, f_Mo_at, f_Mo_map, f_Mo_contact, f_Mo_within, f_Mo_isPort, f_Hp_endpoint, f_Hp_nodeOf, f_Hp_portOf, f_Ma_max, f_Ma_min, f_Hp_isSetting, popN, rok, a1, noX, swc, mL, if_true, if_false, ↓reduceIte, cond_true, cond_false, true_and, and_true, List.length_cons, List.length_nil, List.nil_append, List.cons_append, List.append_nil, Option.toList, Nat.reduceEqDiff, Bool.false_eq_true, reduceCtorEq, Nat.reduceAdd, Nat.reduceLT, Nat.reduceLeDiff, Nat.reduceSub, List.replicate, Nat.zero_add, Nat.lt_add_one, Nat.le_refl, Nat.zero_le, Nat.succ_ne_zero, not_false_eq_true, not_true_eq_false, false_implies, true_implies, forall_const, imp_self, true_or, or_true, eq_self, sI_zw, zw_zw, hI_zw, tg_zw, ln_zw, hR_zw, hL_zw, hN_zw, hM_zw, upd_s, upd_u, upd_ne, Classical.not_not, k_Hp_node, x6, x0, w1, hPn, f_Nw_nodeAt, e]; try clear hgo9 hW9)
    exact q1 c
theorem c_Tl_property (t i w : Nat) (z : Nat → Int32) (h : AH) (Q : Po) (t5 : tg h t = 5) (v : TlV h t z i (own z i)) (ho : OwnOK z i) (htr : TrI z i) (hw : w < 9) (hQ : Q (.inl (some (.int (tpZ z i w)))) h) : Call l G M_Tl_property [.ref t, .int (nI w)] h Q := by
  obtain ⟨⟨v0, v1, v2, v3, v4, v5, v6, v7⟩, -, v10⟩ := v
  have b5 := bool_in htr.2.2.2.2.2.1
  have b6 := bool_in htr.2.2.2.2.2.2.1
  have hPs : ∀ x, P_Tl_setting [.ref t, .int x] h := fun _ => trivial
  have n1 : ¬ nI 1 = nI 0 := by decide
  have n2 : ¬ nI 2 = nI 0 := by decide
  have n3 : ¬ nI 3 = nI 0 := by decide
  have n21 : ¬ nI 2 = nI 1 := by decide
  have n31 : ¬ nI 3 = nI 1 := by decide
  have n32 : ¬ nI 3 = nI 2 := by decide
  refine call_of rfl rfl (Nat.le_of_ble_eq_true rfl) ?_
  have cs : w = 0 ∨ w = 1 ∨ w = 2 ∨ w = 3 ∨ w = 4 ∨ w = 5 ∨ w = 6 ∨ w = 7 ∨ w = 8 := by omega
  rcases cs with rfl | rfl | rfl | rfl | rfl | rfl | rfl | rfl | rfl
  · ((obtain ⟨W9, hW9, hgo9⟩ := wp_ex (T_Tl_property l G) [] _; refine hgo9 200 _ _ _ _ ?_; simp -implicitDefEqProofs (disch := omega) only [hW9, inl, gate, Xq, tz_const, tz_iload, tz_lload, tz_dload, tz_aload, tz_istore, tz_astore, tz_lstore, tz_dstore, tz_iinc, tz_i1, tz_i2, tz_i2z, tz_l2, tz_l2z, tz_i2l, tz_l2i, tz_lcmp, tz_i2d, tz_d2, tz_dcmp, tz_dup, tz_dup2, tz_pop, tz_if, tz_icmp, tz_null, tz_goto, tz_sw, tz_getf, tz_puti, tz_putz, tz_putr, tz_putl, tz_iaload, tz_baload, tz_laload, tz_aaload, tz_iastore, tz_bastore, tz_lastore, tz_aastore, tz_alen, tz_new, tz_newa, tz_oinit, tz_iret, tz_zret, tz_lret, tz_dret, tz_aret, tz_vret, tz_throw, tz_callS, tz_callV, tz_callI, tz_callR, tz_pureS, tz_pureV, tz_callVH, lg, lset, lkill, lst1, lst2, entL, isRf, is1, vl, va_rf_none, va_rf_some, isRf_rf, is1_rf, i0, i1, bI_eq0, bI_eq1, nm_em, nI_eqP, nI_leP, nI_ltP, nN_e1, nN_e2, nN_l1, nN_l2, nN_l3, nN_l4, nI_add, pk_mul, vp_inN, nI_cl, n01, n10, P_i, P_ii, P_iii, f_Mo_at, f_Mo_map, f_Mo_contact, f_Mo_within, f_Mo_isPort, f_Hp_endpoint, f_Hp_nodeOf, f_Hp_portOf, f_Ma_max, f_Ma_min, f_Hp_isSetting, popN, rok, a1, noX, swc, mL, if_true, if_false, ↓reduceIte, cond_true, cond_false, true_and, and_true, List.length_cons, List.length_nil, List.nil_append, List.cons_append, List.append_nil, Option.toList, Nat.reduceEqDiff, Bool.false_eq_true, reduceCtorEq, Nat.reduceAdd, Nat.reduceLT, Nat.reduceLeDiff, Nat.reduceSub, List.replicate, Nat.zero_add, Nat.lt_add_one, Nat.le_refl, Nat.zero_le, Nat.succ_ne_zero, not_false_eq_true, not_true_eq_false, false_implies, true_implies, forall_const, imp_self, true_or, or_true, eq_self, sI_zw, zw_zw, hI_zw, tg_zw, ln_zw, hR_zw, hL_zw, hN_zw, hM_zw, upd_s, upd_u, upd_ne, Classical.not_not, k_Tl_property, t5, v0]; try clear hgo9 hW9); try (obtain ⟨W9, hW9, hgo9⟩ := wp_ex (T_Tl_property l G) [] _; refine hgo9 200 _ _ _ _ ?_; simp -implicitDefEqProofs (disch := omega) only [hW9, inl, gate, Xq, tz_const, tz_iload, tz_lload, tz_dload, tz_aload, tz_istore, tz_astore, tz_lstore, tz_dstore, tz_iinc, tz_i1, tz_i2, tz_i2z, tz_l2, tz_l2z, tz_i2l, tz_l2i, tz_lcmp, tz_i2d, tz_d2, tz_dcmp, tz_dup, tz_dup2, tz_pop, tz_if, tz_icmp, tz_null, tz_goto, tz_sw, tz_getf, tz_puti, tz_putz, tz_putr, tz_putl, tz_iaload, tz_baload, tz_laload, tz_aaload, tz_iastore, tz_bastore, tz_lastore, tz_aastore, tz_alen, tz_new, tz_newa, tz_oinit, tz_iret, tz_zret, tz_lret, tz_dret, tz_aret, tz_vret, tz_throw, tz_callS, tz_callV, tz_callI, tz_callR, tz_pureS, tz_pureV, tz_callVH, lg, lset, lkill, lst1, lst2, entL, isRf, is1, vl, va_rf_none, va_rf_some, isRf_rf, is1_rf, i0, i1, bI_eq0, bI_eq1, nm_em, nI_eqP, nI_leP, nI_ltP, nN_e1, nN_e2, nN_l1, nN_l2, nN_l3, nN_l4, nI_add, pk_mul, vp_inN, nI_cl, n01, n10, P_i, P_ii, P_iii, f_Mo_at, f_Mo_map, f_Mo_contact, f_Mo_within, f_Mo_isPort, f_Hp_endpoint, f_Hp_nodeOf, f_Hp_portOf, f_Ma_max, f_Ma_min, f_Hp_isSetting, popN, rok, a1, noX, swc, mL, if_true, if_false, ↓reduceIte, cond_true, cond_false, true_and, and_true, List.length_cons, List.length_nil, List.nil_append, List.cons_append, List.append_nil, Option.toList, Nat.reduceEqDiff, Bool.false_eq_true, reduceCtorEq, Nat.reduceAdd, Nat.reduceLT, Nat.reduceLeDiff, Nat.reduceSub, List.replicate, Nat.zero_add, Nat.lt_add_one, Nat.le_refl, Nat.zero_le, Nat.succ_ne_zero, not_false_eq_true, not_true_eq_false, false_implies, true_implies, forall_const, imp_self, true_or, or_true, eq_self, sI_zw, zw_zw, hI_zw, tg_zw, ln_zw, hR_zw, hL_zw, hN_zw, hM_zw, upd_s, upd_u, upd_ne, Classical.not_not, k_Tl_property, t5, v0]; try clear hgo9 hW9))
    exact hQ
  · ((obtain ⟨W9, hW9, hgo9⟩ := wp_ex (T_Tl_property l G) [] _; refine hgo9 200 _ _ _ _ ?_; simp -implicitDefEqProofs (disch := omega) only [hW9, inl, gate, Xq, tz_const, tz_iload, tz_lload, tz_dload, tz_aload, tz_istore, tz_astore, tz_lstore, tz_dstore, tz_iinc, tz_i1, tz_i2, tz_i2z, tz_l2, tz_l2z, tz_i2l, tz_l2i, tz_lcmp, tz_i2d, tz_d2, tz_dcmp, tz_dup, tz_dup2, tz_pop, tz_if, tz_icmp, tz_null, tz_goto, tz_sw, tz_getf, tz_puti, tz_putz, tz_putr, tz_putl, tz_iaload, tz_baload, tz_laload, tz_aaload, tz_iastore, tz_bastore, tz_lastore, tz_aastore, tz_alen, tz_new, tz_newa, tz_oinit, tz_iret, tz_zret, tz_lret, tz_dret, tz_aret, tz_vret, tz_throw, tz_callS, tz_callV, tz_callI, tz_callR, tz_pureS, tz_pureV, tz_callVH, lg, lset, lkill, lst1, lst2, entL, isRf, is1, vl, va_rf_none, va_rf_some, isRf_rf, is1_rf, i0, i1, bI_eq0, bI_eq1, nm_em, nI_eqP, nI_leP, nI_ltP, nN_e1, nN_e2, nN_l1, nN_l2, nN_l3, nN_l4, nI_add, pk_mul, vp_inN, nI_cl, n01, n10, P_i, P_ii, P_iii, f_Mo_at, f_Mo_map, f_Mo_contact, f_Mo_within, f_Mo_isPort, f_Hp_endpoint, f_Hp_nodeOf, f_Hp_portOf, f_Ma_max, f_Ma_min, f_Hp_isSetting, popN, rok, a1, noX, swc, mL, if_true, if_false, ↓reduceIte, cond_true, cond_false, true_and, and_true, List.length_cons, List.length_nil, List.nil_append, List.cons_append, List.append_nil, Option.toList, Nat.reduceEqDiff, Bool.false_eq_true, reduceCtorEq, Nat.reduceAdd, Nat.reduceLT, Nat.reduceLeDiff, Nat.reduceSub, List.replicate, Nat.zero_add, Nat.lt_add_one, Nat.le_refl, Nat.zero_le, Nat.succ_ne_zero, not_false_eq_true, not_true_eq_false, false_implies, true_implies, forall_const, imp_self, true_or, or_true, eq_self, sI_zw, zw_zw, hI_zw, tg_zw, ln_zw, hR_zw, hL_zw, hN_zw, hM_zw, upd_s, upd_u, upd_ne, Classical.not_not, k_Tl_property, t5, v1]; try clear hgo9 hW9); try (obtain ⟨W9, hW9, hgo9⟩ := wp_ex (T_Tl_property l G) [] _; refine hgo9 200 _ _ _ _ ?_; simp -implicitDefEqProofs (disch := omega) only [hW9, inl, gate, Xq, tz_const, tz_iload, tz_lload, tz_dload, tz_aload, tz_istore, tz_astore, tz_lstore, tz_dstore, tz_iinc, tz_i1, tz_i2, tz_i2z, tz_l2, tz_l2z, tz_i2l, tz_l2i, tz_lcmp, tz_i2d, tz_d2, tz_dcmp, tz_dup, tz_dup2, tz_pop, tz_if, tz_icmp, tz_null, tz_goto, tz_sw, tz_getf, tz_puti, tz_putz, tz_putr, tz_putl, tz_iaload, tz_baload, tz_laload, tz_aaload, tz_iastore, tz_bastore, tz_lastore, tz_aastore, tz_alen, tz_new, tz_newa, tz_oinit, tz_iret, tz_zret, tz_lret, tz_dret, tz_aret, tz_vret, tz_throw, tz_callS, tz_callV, tz_callI, tz_callR, tz_pureS, tz_pureV, tz_callVH, lg, lset, lkill, lst1, lst2, entL, isRf, is1, vl, va_rf_none, va_rf_some, isRf_rf, is1_rf, i0, i1, bI_eq0, bI_eq1, nm_em, nI_eqP, nI_leP, nI_ltP, nN_e1, nN_e2, nN_l1, nN_l2, nN_l3, nN_l4, nI_add, pk_mul, vp_inN, nI_cl, n01, n10, P_i, P_ii, P_iii, f_Mo_at, f_Mo_map, f_Mo_contact, f_Mo_within, f_Mo_isPort, f_Hp_endpoint, f_Hp_nodeOf, f_Hp_portOf, f_Ma_max, f_Ma_min, f_Hp_isSetting, popN, rok, a1, noX, swc, mL, if_true, if_false, ↓reduceIte, cond_true, cond_false, true_and, and_true, List.length_cons, List.length_nil, List.nil_append, List.cons_append, List.append_nil, Option.toList, Nat.reduceEqDiff, Bool.false_eq_true, reduceCtorEq, Nat.reduceAdd, Nat.reduceLT, Nat.reduceLeDiff, Nat.reduceSub, List.replicate, Nat.zero_add, Nat.lt_add_one, Nat.le_refl, Nat.zero_le, Nat.succ_ne_zero, not_false_eq_true, not_true_eq_false, false_implies, true_implies, forall_const, imp_self, true_or, or_true, eq_self, sI_zw, zw_zw, hI_zw, tg_zw, ln_zw, hR_zw, hL_zw, hN_zw, hM_zw, upd_s, upd_u, upd_ne, Classical.not_not, k_Tl_property, t5, v1]; try clear hgo9 hW9))
    exact hQ
  · ((obtain ⟨W9, hW9, hgo9⟩ := wp_ex (T_Tl_property l G) [] _; refine hgo9 200 _ _ _ _ ?_; simp -implicitDefEqProofs (disch := omega) only [hW9, inl, gate, Xq, tz_const, tz_iload, tz_lload, tz_dload, tz_aload, tz_istore, tz_astore, tz_lstore, tz_dstore, tz_iinc, tz_i1, tz_i2, tz_i2z, tz_l2, tz_l2z, tz_i2l, tz_l2i, tz_lcmp, tz_i2d, tz_d2, tz_dcmp, tz_dup, tz_dup2, tz_pop, tz_if, tz_icmp, tz_null, tz_goto, tz_sw, tz_getf, tz_puti, tz_putz, tz_putr, tz_putl, tz_iaload, tz_baload, tz_laload, tz_aaload, tz_iastore, tz_bastore, tz_lastore, tz_aastore, tz_alen, tz_new, tz_newa, tz_oinit, tz_iret, tz_zret, tz_lret, tz_dret, tz_aret, tz_vret, tz_throw, tz_callS, tz_callV, tz_callI, tz_callR, tz_pureS, tz_pureV, tz_callVH, lg, lset, lkill, lst1, lst2, entL, isRf, is1, vl, va_rf_none, va_rf_some, isRf_rf, is1_rf, i0, i1, bI_eq0, bI_eq1, nm_em, nI_eqP, nI_leP, nI_ltP, nN_e1, nN_e2, nN_l1, nN_l2, nN_l3, nN_l4, nI_add, pk_mul, vp_inN, nI_cl, n01, n10, P_i, P_ii, P_iii, f_Mo_at, f_Mo_map, f_Mo_contact, f_Mo_within, f_Mo_isPort, f_Hp_endpoint, f_Hp_nodeOf, f_Hp_portOf, f_Ma_max, f_Ma_min, f_Hp_isSetting, popN, rok, a1, noX, swc, mL, if_true, if_false, ↓reduceIte, cond_true, cond_false, true_and, and_true, List.length_cons, List.length_nil, List.nil_append, List.cons_append, List.append_nil, Option.toList, Nat.reduceEqDiff, Bool.false_eq_true, reduceCtorEq, Nat.reduceAdd, Nat.reduceLT, Nat.reduceLeDiff, Nat.reduceSub, List.replicate, Nat.zero_add, Nat.lt_add_one, Nat.le_refl, Nat.zero_le, Nat.succ_ne_zero, not_false_eq_true, not_true_eq_false, false_implies, true_implies, forall_const, imp_self, true_or, or_true, eq_self, sI_zw, zw_zw, hI_zw, tg_zw, ln_zw, hR_zw, hL_zw, hN_zw, hM_zw, upd_s, upd_u, upd_ne, Classical.not_not, k_Tl_property, t5, v2]; try clear hgo9 hW9); try (obtain ⟨W9, hW9, hgo9⟩ := wp_ex (T_Tl_property l G) [] _; refine hgo9 200 _ _ _ _ ?_; simp -implicitDefEqProofs (disch := omega) only [hW9, inl, gate, Xq, tz_const, tz_iload, tz_lload, tz_dload, tz_aload, tz_istore, tz_astore, tz_lstore, tz_dstore, tz_iinc, tz_i1, tz_i2, tz_i2z, tz_l2, tz_l2z, tz_i2l, tz_l2i, tz_lcmp, tz_i2d, tz_d2, tz_dcmp, tz_dup, tz_dup2, tz_pop, tz_if, tz_icmp, tz_null, tz_goto, tz_sw, tz_getf, tz_puti, tz_putz, tz_putr, tz_putl, tz_iaload, tz_baload, tz_laload, tz_aaload, tz_iastore, tz_bastore, tz_lastore, tz_aastore, tz_alen, tz_new, tz_newa, tz_oinit, tz_iret, tz_zret, tz_lret, tz_dret, tz_aret, tz_vret, tz_throw, tz_callS, tz_callV, tz_callI, tz_callR, tz_pureS, tz_pureV, tz_callVH, lg, lset, lkill, lst1, lst2, entL, isRf, is1, vl, va_rf_none, va_rf_some, isRf_rf, is1_rf, i0, i1, bI_eq0, bI_eq1, nm_em, nI_eqP, nI_leP, nI_ltP, nN_e1, nN_e2, nN_l1, nN_l2, nN_l3, nN_l4, nI_add, pk_mul, vp_inN, nI_cl, n01, n10, P_i, P_ii, P_iii, f_Mo_at, f_Mo_map, f_Mo_contact, f_Mo_within, f_Mo_isPort, f_Hp_endpoint, f_Hp_nodeOf, f_Hp_portOf, f_Ma_max, f_Ma_min, f_Hp_isSetting, popN, rok, a1, noX, swc, mL, if_true, if_false, ↓reduceIte, cond_true, cond_false, true_and, and_true, List.length_cons, List.length_nil, List.nil_append, List.cons_append, List.append_nil, Option.toList, Nat.reduceEqDiff, Bool.false_eq_true, reduceCtorEq, Nat.reduceAdd, Nat.reduceLT, Nat.reduceLeDiff, Nat.reduceSub, List.replicate, Nat.zero_add, Nat.lt_add_one, Nat.le_refl, Nat.zero_le, Nat.succ_ne_zero, not_false_eq_true, not_true_eq_false, false_implies, true_implies, forall_const, imp_self, true_or, or_true, eq_self, sI_zw, zw_zw, hI_zw, tg_zw, ln_zw, hR_zw, hL_zw, hN_zw, hM_zw, upd_s, upd_u, upd_ne, Classical.not_not, k_Tl_property, t5, v2]; try clear hgo9 hW9))
    exact hQ
  · ((obtain ⟨W9, hW9, hgo9⟩ := wp_ex (T_Tl_property l G) [] _; refine hgo9 200 _ _ _ _ ?_; simp -implicitDefEqProofs (disch := omega) only [hW9, inl, gate, Xq, tz_const, tz_iload, tz_lload, tz_dload, tz_aload, tz_istore, tz_astore, tz_lstore, tz_dstore, tz_iinc, tz_i1, tz_i2, tz_i2z, tz_l2, tz_l2z, tz_i2l, tz_l2i, tz_lcmp, tz_i2d, tz_d2, tz_dcmp, tz_dup, tz_dup2, tz_pop, tz_if, tz_icmp, tz_null, tz_goto, tz_sw, tz_getf, tz_puti, tz_putz, tz_putr, tz_putl, tz_iaload, tz_baload, tz_laload, tz_aaload, tz_iastore, tz_bastore, tz_lastore, tz_aastore, tz_alen, tz_new, tz_newa, tz_oinit, tz_iret, tz_zret, tz_lret, tz_dret, tz_aret, tz_vret, tz_throw, tz_callS, tz_callV, tz_callI, tz_callR, tz_pureS, tz_pureV, tz_callVH, lg, lset, lkill, lst1, lst2, entL, isRf, is1, vl, va_rf_none, va_rf_some, isRf_rf, is1_rf, i0, i1, bI_eq0, bI_eq1, nm_em, nI_eqP, nI_leP, nI_ltP, nN_e1, nN_e2, nN_l1, nN_l2, nN_l3, nN_l4, nI_add, pk_mul, vp_inN, nI_cl, n01, n10, P_i, P_ii, P_iii, f_Mo_at, f_Mo_map, f_Mo_contact, f_Mo_within, f_Mo_isPort, f_Hp_endpoint, f_Hp_nodeOf, f_Hp_portOf, f_Ma_max, f_Ma_min, f_Hp_isSetting, popN, rok, a1, noX, swc, mL, if_true, if_false, ↓reduceIte, cond_true, cond_false, true_and, and_true, List.length_cons, List.length_nil, List.nil_append, List.cons_append, List.append_nil, Option.toList, Nat.reduceEqDiff, Bool.false_eq_true, reduceCtorEq, Nat.reduceAdd, Nat.reduceLT, Nat.reduceLeDiff, Nat.reduceSub, List.replicate, Nat.zero_add, Nat.lt_add_one, Nat.le_refl, Nat.zero_le, Nat.succ_ne_zero, not_false_eq_true, not_true_eq_false, false_implies, true_implies, forall_const, imp_self, true_or, or_true, eq_self, sI_zw, zw_zw, hI_zw, tg_zw, ln_zw, hR_zw, hL_zw, hN_zw, hM_zw, upd_s, upd_u, upd_ne, Classical.not_not, k_Tl_property, t5, pk_sub, hPs, f_Tl_setting, seF, v3]; try clear hgo9 hW9); try (obtain ⟨W9, hW9, hgo9⟩ := wp_ex (T_Tl_property l G) [] _; refine hgo9 200 _ _ _ _ ?_; simp -implicitDefEqProofs (disch := omega) only [hW9, inl, gate, Xq, tz_const, tz_iload, tz_lload, tz_dload, tz_aload, tz_istore, tz_astore, tz_lstore, tz_dstore, tz_iinc, tz_i1, tz_i2, tz_i2z, tz_l2, tz_l2z, tz_i2l, tz_l2i, tz_lcmp, tz_i2d, tz_d2, tz_dcmp, tz_dup, tz_dup2, tz_pop, tz_if, tz_icmp, tz_null, tz_goto, tz_sw, tz_getf, tz_puti, tz_putz, tz_putr, tz_putl, tz_iaload, tz_baload, tz_laload, tz_aaload, tz_iastore, tz_bastore, tz_lastore, tz_aastore, tz_alen, tz_new, tz_newa, tz_oinit, tz_iret, tz_zret, tz_lret, tz_dret, tz_aret, tz_vret, tz_throw, tz_callS, tz_callV, tz_callI, tz_callR, tz_pureS, tz_pureV, tz_callVH, lg, lset, lkill, lst1, lst2, entL, isRf, is1, vl, va_rf_none, va_rf_some, isRf_rf, is1_rf, i0, i1, bI_eq0, bI_eq1, nm_em, nI_eqP, nI_leP, nI_ltP, nN_e1, nN_e2, nN_l1, nN_l2, nN_l3, nN_l4, nI_add, pk_mul, vp_inN, nI_cl, n01, n10, P_i, P_ii, P_iii, f_Mo_at, f_Mo_map, f_Mo_contact, f_Mo_within, f_Mo_isPort, f_Hp_endpoint, f_Hp_nodeOf, f_Hp_portOf, f_Ma_max, f_Ma_min, f_Hp_isSetting, popN, rok, a1, noX, swc, mL, if_true, if_false, ↓reduceIte, cond_true, cond_false, true_and, and_true, List.length_cons, List.length_nil, List.nil_append, List.cons_append, List.append_nil, Option.toList, Nat.reduceEqDiff, Bool.false_eq_true, reduceCtorEq, Nat.reduceAdd, Nat.reduceLT, Nat.reduceLeDiff, Nat.reduceSub, List.replicate, Nat.zero_add, Nat.lt_add_one, Nat.le_refl, Nat.zero_le, Nat.succ_ne_zero, not_false_eq_true, not_true_eq_false, false_implies, true_implies, forall_const, imp_self, true_or, or_true, eq_self, sI_zw, zw_zw, hI_zw, tg_zw, ln_zw, hR_zw, hL_zw, hN_zw, hM_zw, upd_s, upd_u, upd_ne, Classical.not_not, k_Tl_property, t5, pk_sub, hPs, f_Tl_setting, seF, v3]; try clear hgo9 hW9))
    exact hQ
  · ((obtain ⟨W9, hW9, hgo9⟩ := wp_ex (T_Tl_property l G) [] _; refine hgo9 200 _ _ _ _ ?_; simp -implicitDefEqProofs (disch := omega) only [hW9, inl, gate, Xq, tz_const, tz_iload, tz_lload, tz_dload, tz_aload, tz_istore, tz_astore, tz_lstore, tz_dstore, tz_iinc, tz_i1, tz_i2, tz_i2z, tz_l2, tz_l2z, tz_i2l, tz_l2i, tz_lcmp, tz_i2d, tz_d2, tz_dcmp, tz_dup, tz_dup2, tz_pop, tz_if, tz_icmp, tz_null, tz_goto, tz_sw, tz_getf, tz_puti, tz_putz, tz_putr, tz_putl, tz_iaload, tz_baload, tz_laload, tz_aaload, tz_iastore, tz_bastore, tz_lastore, tz_aastore, tz_alen, tz_new, tz_newa, tz_oinit, tz_iret, tz_zret, tz_lret, tz_dret, tz_aret, tz_vret, tz_throw, tz_callS, tz_callV, tz_callI, tz_callR, tz_pureS, tz_pureV, tz_callVH, lg, lset, lkill, lst1, lst2, entL, isRf, is1, vl, va_rf_none, va_rf_some, isRf_rf, is1_rf, i0, i1, bI_eq0, bI_eq1, nm_em, nI_eqP, nI_leP, nI_ltP, nN_e1, nN_e2, nN_l1, nN_l2, nN_l3, nN_l4, nI_add, pk_mul, vp_inN, nI_cl, n01, n10, P_i, P_ii, P_iii, f_Mo_at, f_Mo_map, f_Mo_contact, f_Mo_within, f_Mo_isPort, f_Hp_endpoint, f_Hp_nodeOf, f_Hp_portOf, f_Ma_max, f_Ma_min, f_Hp_isSetting, popN, rok, a1, noX, swc, mL, if_true, if_false, ↓reduceIte, cond_true, cond_false, true_and, and_true, List.length_cons, List.length_nil, List.nil_append, List.cons_append, List.append_nil, Option.toList, Nat.reduceEqDiff, Bool.false_eq_true, reduceCtorEq, Nat.reduceAdd, Nat.reduceLT, Nat.reduceLeDiff, Nat.reduceSub, List.replicate, Nat.zero_add, Nat.lt_add_one, Nat.le_refl, Nat.zero_le, Nat.succ_ne_zero, not_false_eq_true, not_true_eq_false, false_implies, true_implies, forall_const, imp_self, true_or, or_true, eq_self, sI_zw, zw_zw, hI_zw, tg_zw, ln_zw, hR_zw, hL_zw, hN_zw, hM_zw, upd_s, upd_u, upd_ne, Classical.not_not, k_Tl_property, t5, pk_sub, hPs, f_Tl_setting, seF, v4, n1]; try clear hgo9 hW9); try (obtain ⟨W9, hW9, hgo9⟩ := wp_ex (T_Tl_property l G) [] _; refine hgo9 200 _ _ _ _ ?_; simp -implicitDefEqProofs (disch := omega) only [hW9, inl, gate, Xq, tz_const, tz_iload, tz_lload, tz_dload, tz_aload, tz_istore, tz_astore, tz_lstore, tz_dstore, tz_iinc, tz_i1, tz_i2, tz_i2z, tz_l2, tz_l2z, tz_i2l, tz_l2i, tz_lcmp, tz_i2d, tz_d2, tz_dcmp, tz_dup, tz_dup2, tz_pop, tz_if, tz_icmp, tz_null, tz_goto, tz_sw, tz_getf, tz_puti, tz_putz, tz_putr, tz_putl, tz_iaload, tz_baload, tz_laload, tz_aaload, tz_iastore, tz_bastore, tz_lastore, tz_aastore, tz_alen, tz_new, tz_newa, tz_oinit, tz_iret, tz_zret, tz_lret, tz_dret, tz_aret, tz_vret, tz_throw, tz_callS, tz_callV, tz_callI, tz_callR, tz_pureS, tz_pureV, tz_callVH, lg, lset, lkill, lst1, lst2, entL, isRf, is1, vl, va_rf_none, va_rf_some, isRf_rf, is1_rf, i0, i1, bI_eq0, bI_eq1, nm_em, nI_eqP, nI_leP, nI_ltP, nN_e1, nN_e2, nN_l1, nN_l2, nN_l3, nN_l4, nI_add, pk_mul, vp_inN, nI_cl, n01, n10, P_i, P_ii, P_iii, f_Mo_at, f_Mo_map, f_Mo_contact, f_Mo_within, f_Mo_isPort, f_Hp_endpoint, f_Hp_nodeOf, f_Hp_portOf, f_Ma_max, f_Ma_min, f_Hp_isSetting, popN, rok, a1, noX, swc, mL, if_true, if_false, ↓reduceIte, cond_true, cond_false, true_and, and_true, List.length_cons, List.length_nil, List.nil_append, List.cons_append, List.append_nil, Option.toList, Nat.reduceEqDiff, Bool.false_eq_true, reduceCtorEq, Nat.reduceAdd, Nat.reduceLT, Nat.reduceLeDiff, Nat.reduceSub, List.replicate, Nat.zero_add, Nat.lt_add_one, Nat.le_refl, Nat.zero_le, Nat.succ_ne_zero, not_false_eq_true, not_true_eq_false, false_implies, true_implies, forall_const, imp_self, true_or, or_true, eq_self, sI_zw, zw_zw, hI_zw, tg_zw, ln_zw, hR_zw, hL_zw, hN_zw, hM_zw, upd_s, upd_u, upd_ne, Classical.not_not, k_Tl_property, t5, pk_sub, hPs, f_Tl_setting, seF, v4, n1]; try clear hgo9 hW9))
    exact hQ
  · have hQ' : Q (.inl (some (.int (z (16 + 16 * i + 7))))) h := hQ
    rcases b5 with q | q
    · rw [q] at hQ' v5
      ((obtain ⟨W9, hW9, hgo9⟩ := wp_ex (T_Tl_property l G) [] _; refine hgo9 200 _ _ _ _ ?_; simp -implicitDefEqProofs (disch := omega) only [hW9, inl, gate, Xq, tz_const, tz_iload, tz_lload, tz_dload, tz_aload, tz_istore, tz_astore, tz_lstore, tz_dstore, tz_iinc, tz_i1, tz_i2, tz_i2z, tz_l2, tz_l2z, tz_i2l, tz_l2i, tz_lcmp, tz_i2d, tz_d2, tz_dcmp, tz_dup, tz_dup2, tz_pop, tz_if, tz_icmp, tz_null, tz_goto, tz_sw, tz_getf, tz_puti, tz_putz, tz_putr, tz_putl, tz_iaload, tz_baload, tz_laload, tz_aaload, tz_iastore, tz_bastore, tz_lastore, tz_aastore, tz_alen, tz_new, tz_newa, tz_oinit, tz_iret, tz_zret, tz_lret, tz_dret, tz_aret, tz_vret, tz_throw, tz_callS, tz_callV, tz_callI, tz_callR, tz_pureS, tz_pureV, tz_callVH, lg, lset, lkill, lst1, lst2, entL, isRf, is1, vl, va_rf_none, va_rf_some, isRf_rf, is1_rf, i0, i1, bI_eq0, bI_eq1, nm_em, nI_eqP, nI_leP, nI_ltP, nN_e1, nN_e2, nN_l1, nN_l2, nN_l3, nN_l4, nI_add, pk_mul, vp_inN, nI_cl, n01, n10, P_i, P_ii, P_iii, f_Mo_at, f_Mo_map, f_Mo_contact, f_Mo_within, f_Mo_isPort, f_Hp_endpoint, f_Hp_nodeOf, f_Hp_portOf, f_Ma_max, f_Ma_min, f_Hp_isSetting, popN, rok, a1, noX, swc, mL, if_true, if_false, ↓reduceIte, cond_true, cond_false, true_and, and_true, List.length_cons, List.length_nil, List.nil_append, List.cons_append, List.append_nil, Option.toList, Nat.reduceEqDiff, Bool.false_eq_true, reduceCtorEq, Nat.reduceAdd, Nat.reduceLT, Nat.reduceLeDiff, Nat.reduceSub, List.replicate, Nat.zero_add, Nat.lt_add_one, Nat.le_refl, Nat.zero_le, Nat.succ_ne_zero, not_false_eq_true, not_true_eq_false, false_implies, true_implies, forall_const, imp_self, true_or, or_true, eq_self, sI_zw, zw_zw, hI_zw, tg_zw, ln_zw, hR_zw, hL_zw, hN_zw, hM_zw, upd_s, upd_u, upd_ne, Classical.not_not, k_Tl_property, t5, pk_sub, hPs, f_Tl_setting, seF, v5, n2, n21]; try clear hgo9 hW9); try (obtain ⟨W9, hW9, hgo9⟩ := wp_ex (T_Tl_property l G) [] _; refine hgo9 200 _ _ _ _ ?_; simp -implicitDefEqProofs (disch := omega) only [hW9, inl, gate, Xq, tz_const, tz_iload, tz_lload, tz_dload, tz_aload, tz_istore, tz_astore, tz_lstore, tz_dstore, tz_iinc, tz_i1, tz_i2, tz_i2z, tz_l2, tz_l2z, tz_i2l, tz_l2i, tz_lcmp, tz_i2d, tz_d2, tz_dcmp, tz_dup, tz_dup2, tz_pop, tz_if, tz_icmp, tz_null, tz_goto, tz_sw, tz_getf, tz_puti, tz_putz, tz_putr, tz_putl, tz_iaload, tz_baload, tz_laload, tz_aaload, tz_iastore, tz_bastore, tz_lastore, tz_aastore, tz_alen, tz_new, tz_newa, tz_oinit, tz_iret, tz_zret, tz_lret, tz_dret, tz_aret, tz_vret, tz_throw, tz_callS, tz_callV, tz_callI, tz_callR, tz_pureS, tz_pureV, tz_callVH, lg, lset, lkill, lst1, lst2, entL, isRf, is1, vl, va_rf_none, va_rf_some, isRf_rf, is1_rf, i0, i1, bI_eq0, bI_eq1, nm_em, nI_eqP, nI_leP, nI_ltP, nN_e1, nN_e2, nN_l1, nN_l2, nN_l3, nN_l4, nI_add, pk_mul, vp_inN, nI_cl, n01, n10, P_i, P_ii, P_iii, f_Mo_at, f_Mo_map, f_Mo_contact, f_Mo_within, f_Mo_isPort, f_Hp_endpoint, f_Hp_nodeOf, f_Hp_portOf, f_Ma_max, f_Ma_min, f_Hp_isSetting, popN, rok, a1, noX, swc, mL, if_true, if_false, ↓reduceIte, cond_true, cond_false, true_and, and_true, List.length_cons, List.length_nil, List.nil_append, List.cons_append, List.append_nil, Option.toList, Nat.reduceEqDiff, Bool.false_eq_true, reduceCtorEq, Nat.reduceAdd, Nat.reduceLT, Nat.reduceLeDiff, Nat.reduceSub, List.replicate, Nat.zero_add, Nat.lt_add_one, Nat.le_refl, Nat.zero_le, Nat.succ_ne_zero, not_false_eq_true, not_true_eq_false, false_implies, true_implies, forall_const, imp_self, true_or, or_true, eq_self, sI_zw, zw_zw, hI_zw, tg_zw, ln_zw, hR_zw, hL_zw, hN_zw, hM_zw, upd_s, upd_u, upd_ne, Classical.not_not, k_Tl_property, t5, pk_sub, hPs, f_Tl_setting, seF, v5, n2, n21]; try clear hgo9 hW9))
      exact hQ'
    · rw [q] at hQ' v5
      ((obtain ⟨W9, hW9, hgo9⟩ := wp_ex (T_Tl_property l G) [] _; refine hgo9 200 _ _ _ _ ?_; simp -implicitDefEqProofs (disch := omega) only [hW9, inl, gate, Xq, tz_const, tz_iload, tz_lload, tz_dload, tz_aload, tz_istore, tz_astore, tz_lstore, tz_dstore, tz_iinc, tz_i1, tz_i2, tz_i2z, tz_l2, tz_l2z, tz_i2l, tz_l2i, tz_lcmp, tz_i2d, tz_d2, tz_dcmp, tz_dup, tz_dup2, tz_pop, tz_if, tz_icmp, tz_null, tz_goto, tz_sw, tz_getf, tz_puti, tz_putz, tz_putr, tz_putl, tz_iaload, tz_baload, tz_laload, tz_aaload, tz_iastore, tz_bastore, tz_lastore, tz_aastore, tz_alen, tz_new, tz_newa, tz_oinit, tz_iret, tz_zret, tz_lret, tz_dret, tz_aret, tz_vret, tz_throw, tz_callS, tz_callV, tz_callI, tz_callR, tz_pureS, tz_pureV, tz_callVH, lg, lset, lkill, lst1, lst2, entL, isRf, is1, vl, va_rf_none, va_rf_some, isRf_rf, is1_rf, i0, i1, bI_eq0, bI_eq1, nm_em, nI_eqP, nI_leP, nI_ltP, nN_e1, nN_e2, nN_l1, nN_l2, nN_l3, nN_l4, nI_add, pk_mul, vp_inN, nI_cl, n01, n10, P_i, P_ii, P_iii, f_Mo_at, f_Mo_map, f_Mo_contact, f_Mo_within, f_Mo_isPort, f_Hp_endpoint, f_Hp_nodeOf, f_Hp_portOf, f_Ma_max, f_Ma_min, f_Hp_isSetting, popN, rok, a1, noX, swc, mL, if_true, if_false, ↓reduceIte, cond_true, cond_false, true_and, and_true, List.length_cons, List.length_nil, List.nil_append, List.cons_append, List.append_nil, Option.toList, Nat.reduceEqDiff, Bool.false_eq_true, reduceCtorEq, Nat.reduceAdd, Nat.reduceLT, Nat.reduceLeDiff, Nat.reduceSub, List.replicate, Nat.zero_add, Nat.lt_add_one, Nat.le_refl, Nat.zero_le, Nat.succ_ne_zero, not_false_eq_true, not_true_eq_false, false_implies, true_implies, forall_const, imp_self, true_or, or_true, eq_self, sI_zw, zw_zw, hI_zw, tg_zw, ln_zw, hR_zw, hL_zw, hN_zw, hM_zw, upd_s, upd_u, upd_ne, Classical.not_not, k_Tl_property, t5, pk_sub, hPs, f_Tl_setting, seF, v5, n2, n21, n1]; try clear hgo9 hW9); try (obtain ⟨W9, hW9, hgo9⟩ := wp_ex (T_Tl_property l G) [] _; refine hgo9 200 _ _ _ _ ?_; simp -implicitDefEqProofs (disch := omega) only [hW9, inl, gate, Xq, tz_const, tz_iload, tz_lload, tz_dload, tz_aload, tz_istore, tz_astore, tz_lstore, tz_dstore, tz_iinc, tz_i1, tz_i2, tz_i2z, tz_l2, tz_l2z, tz_i2l, tz_l2i, tz_lcmp, tz_i2d, tz_d2, tz_dcmp, tz_dup, tz_dup2, tz_pop, tz_if, tz_icmp, tz_null, tz_goto, tz_sw, tz_getf, tz_puti, tz_putz, tz_putr, tz_putl, tz_iaload, tz_baload, tz_laload, tz_aaload, tz_iastore, tz_bastore, tz_lastore, tz_aastore, tz_alen, tz_new, tz_newa, tz_oinit, tz_iret, tz_zret, tz_lret, tz_dret, tz_aret, tz_vret, tz_throw, tz_callS, tz_callV, tz_callI, tz_callR, tz_pureS, tz_pureV, tz_callVH, lg, lset, lkill, lst1, lst2, entL, isRf, is1, vl, va_rf_none, va_rf_some, isRf_rf, is1_rf, i0, i1, bI_eq0, bI_eq1, nm_em, nI_eqP, nI_leP, nI_ltP, nN_e1, nN_e2, nN_l1, nN_l2, nN_l3, nN_l4, nI_add, pk_mul, vp_inN, nI_cl, n01, n10, P_i, P_ii, P_iii, f_Mo_at, f_Mo_map, f_Mo_contact, f_Mo_within, f_Mo_isPort, f_Hp_endpoint, f_Hp_nodeOf, f_Hp_portOf, f_Ma_max, f_Ma_min, f_Hp_isSetting, popN, rok, a1, noX, swc, mL, if_true, if_false, ↓reduceIte, cond_true, cond_false, true_and, and_true, List.length_cons, List.length_nil, List.nil_append, List.cons_append, List.append_nil, Option.toList, Nat.reduceEqDiff, Bool.false_eq_true, reduceCtorEq, Nat.reduceAdd, Nat.reduceLT, Nat.reduceLeDiff, Nat.reduceSub, List.replicate, Nat.zero_add, Nat.lt_add_one, Nat.le_refl, Nat.zero_le, Nat.succ_ne_zero, not_false_eq_true, not_true_eq_false, false_implies, true_implies, forall_const, imp_self, true_or, or_true, eq_self, sI_zw, zw_zw, hI_zw, tg_zw, ln_zw, hR_zw, hL_zw, hN_zw, hM_zw, upd_s, upd_u, upd_ne, Classical.not_not, k_Tl_property, t5, pk_sub, hPs, f_Tl_setting, seF, v5, n2, n21, n1]; try clear hgo9 hW9))
      exact hQ'
  · have hQ' : Q (.inl (some (.int (z (16 + 16 * i + 8))))) h := hQ
    rcases b6 with q | q
    · rw [q] at hQ' v6
      ((obtain ⟨W9, hW9, hgo9⟩ := wp_ex (T_Tl_property l G) [] _; refine hgo9 200 _ _ _ _ ?_; simp -implicitDefEqProofs (disch := omega) only [hW9, inl, gate, Xq, tz_const, tz_iload, tz_lload, tz_dload, tz_aload, tz_istore, tz_astore, tz_lstore, tz_dstore, tz_iinc, tz_i1, tz_i2, tz_i2z, tz_l2, tz_l2z, tz_i2l, tz_l2i, tz_lcmp, tz_i2d, tz_d2, tz_dcmp, tz_dup, tz_dup2, tz_pop, tz_if, tz_icmp, tz_null, tz_goto, tz_sw, tz_getf, tz_puti, tz_putz, tz_putr, tz_putl, tz_iaload, tz_baload, tz_laload, tz_aaload, tz_iastore, tz_bastore, tz_lastore, tz_aastore, tz_alen, tz_new, tz_newa, tz_oinit, tz_iret, tz_zret, tz_lret, tz_dret, tz_aret, tz_vret, tz_throw, tz_callS, tz_callV, tz_callI, tz_callR, tz_pureS, tz_pureV, tz_callVH, lg, lset, lkill, lst1, lst2, entL, isRf, is1, vl, va_rf_none, va_rf_some, isRf_rf, is1_rf, i0, i1, bI_eq0, bI_eq1, nm_em, nI_eqP, nI_leP, nI_ltP, nN_e1, nN_e2, nN_l1, nN_l2, nN_l3, nN_l4, nI_add, pk_mul, vp_inN, nI_cl, n01, n10, P_i, P_ii, P_iii, f_Mo_at, f_Mo_map, f_Mo_contact, f_Mo_within, f_Mo_isPort, f_Hp_endpoint, f_Hp_nodeOf, f_Hp_portOf, f_Ma_max, f_Ma_min, f_Hp_isSetting, popN, rok, a1, noX, swc, mL, if_true, if_false, ↓reduceIte, cond_true, cond_false, true_and, and_true, List.length_cons, List.length_nil, List.nil_append, List.cons_append, List.append_nil, Option.toList, Nat.reduceEqDiff, Bool.false_eq_true, reduceCtorEq, Nat.reduceAdd, Nat.reduceLT, Nat.reduceLeDiff, Nat.reduceSub, List.replicate, Nat.zero_add, Nat.lt_add_one, Nat.le_refl, Nat.zero_le, Nat.succ_ne_zero, not_false_eq_true, not_true_eq_false, false_implies, true_implies, forall_const, imp_self, true_or, or_true, eq_self, sI_zw, zw_zw, hI_zw, tg_zw, ln_zw, hR_zw, hL_zw, hN_zw, hM_zw, upd_s, upd_u, upd_ne, Classical.not_not, k_Tl_property, t5, pk_sub, hPs, f_Tl_setting, seF, v6, n3, n31, n32]; try clear hgo9 hW9); try (obtain ⟨W9, hW9, hgo9⟩ := wp_ex (T_Tl_property l G) [] _; refine hgo9 200 _ _ _ _ ?_; simp -implicitDefEqProofs (disch := omega) only [hW9, inl, gate, Xq, tz_const, tz_iload, tz_lload, tz_dload, tz_aload, tz_istore, tz_astore, tz_lstore, tz_dstore, tz_iinc, tz_i1, tz_i2, tz_i2z, tz_l2, tz_l2z, tz_i2l, tz_l2i, tz_lcmp, tz_i2d, tz_d2, tz_dcmp, tz_dup, tz_dup2, tz_pop, tz_if, tz_icmp, tz_null, tz_goto, tz_sw, tz_getf, tz_puti, tz_putz, tz_putr, tz_putl, tz_iaload, tz_baload, tz_laload, tz_aaload, tz_iastore, tz_bastore, tz_lastore, tz_aastore, tz_alen, tz_new, tz_newa, tz_oinit, tz_iret, tz_zret, tz_lret, tz_dret, tz_aret, tz_vret, tz_throw, tz_callS, tz_callV, tz_callI, tz_callR, tz_pureS, tz_pureV, tz_callVH, lg, lset, lkill, lst1, lst2, entL, isRf, is1, vl, va_rf_none, va_rf_some, isRf_rf, is1_rf, i0, i1, bI_eq0, bI_eq1, nm_em, nI_eqP, nI_leP, nI_ltP, nN_e1, nN_e2, nN_l1, nN_l2, nN_l3, nN_l4, nI_add, pk_mul, vp_inN, nI_cl, n01, n10, P_i, P_ii, P_iii, f_Mo_at, f_Mo_map, f_Mo_contact, f_Mo_within, f_Mo_isPort, f_Hp_endpoint, f_Hp_nodeOf, f_Hp_portOf, f_Ma_max, f_Ma_min, f_Hp_isSetting, popN, rok, a1, noX, swc, mL, if_true, if_false, ↓reduceIte, cond_true, cond_false, true_and, and_true, List.length_cons, List.length_nil, List.nil_append, List.cons_append, List.append_nil, Option.toList, Nat.reduceEqDiff, Bool.false_eq_true, reduceCtorEq, Nat.reduceAdd, Nat.reduceLT, Nat.reduceLeDiff, Nat.reduceSub, List.replicate, Nat.zero_add, Nat.lt_add_one, Nat.le_refl, Nat.zero_le, Nat.succ_ne_zero, not_false_eq_true, not_true_eq_false, false_implies, true_implies, forall_const, imp_self, true_or, or_true, eq_self, sI_zw, zw_zw, hI_zw, tg_zw, ln_zw, hR_zw, hL_zw, hN_zw, hM_zw, upd_s, upd_u, upd_ne, Classical.not_not, k_Tl_property, t5, pk_sub, hPs, f_Tl_setting, seF, v6, n3, n31, n32]; try clear hgo9 hW9))
      exact hQ'
    · rw [q] at hQ' v6
      ((obtain ⟨W9, hW9, hgo9⟩ := wp_ex (T_Tl_property l G) [] _; refine hgo9 200 _ _ _ _ ?_; simp -implicitDefEqProofs (disch := omega) only [hW9, inl, gate, Xq, tz_const, tz_iload, tz_lload, tz_dload, tz_aload, tz_istore, tz_astore, tz_lstore, tz_dstore, tz_iinc, tz_i1, tz_i2, tz_i2z, tz_l2, tz_l2z, tz_i2l, tz_l2i, tz_lcmp, tz_i2d, tz_d2, tz_dcmp, tz_dup, tz_dup2, tz_pop, tz_if, tz_icmp, tz_null, tz_goto, tz_sw, tz_getf, tz_puti, tz_putz, tz_putr, tz_putl, tz_iaload, tz_baload, tz_laload, tz_aaload, tz_iastore, tz_bastore, tz_lastore, tz_aastore, tz_alen, tz_new, tz_newa, tz_oinit, tz_iret, tz_zret, tz_lret, tz_dret, tz_aret, tz_vret, tz_throw, tz_callS, tz_callV, tz_callI, tz_callR, tz_pureS, tz_pureV, tz_callVH, lg, lset, lkill, lst1, lst2, entL, isRf, is1, vl, va_rf_none, va_rf_some, isRf_rf, is1_rf, i0, i1, bI_eq0, bI_eq1, nm_em, nI_eqP, nI_leP, nI_ltP, nN_e1, nN_e2, nN_l1, nN_l2, nN_l3, nN_l4, nI_add, pk_mul, vp_inN, nI_cl, n01, n10, P_i, P_ii, P_iii, f_Mo_at, f_Mo_map, f_Mo_contact, f_Mo_within, f_Mo_isPort, f_Hp_endpoint, f_Hp_nodeOf, f_Hp_portOf, f_Ma_max, f_Ma_min, f_Hp_isSetting, popN, rok, a1, noX, swc, mL, if_true, if_false, ↓reduceIte, cond_true, cond_false, true_and, and_true, List.length_cons, List.length_nil, List.nil_append, List.cons_append, List.append_nil, Option.toList, Nat.reduceEqDiff, Bool.false_eq_true, reduceCtorEq, Nat.reduceAdd, Nat.reduceLT, Nat.reduceLeDiff, Nat.reduceSub, List.replicate, Nat.zero_add, Nat.lt_add_one, Nat.le_refl, Nat.zero_le, Nat.succ_ne_zero, not_false_eq_true, not_true_eq_false, false_implies, true_implies, forall_const, imp_self, true_or, or_true, eq_self, sI_zw, zw_zw, hI_zw, tg_zw, ln_zw, hR_zw, hL_zw, hN_zw, hM_zw, upd_s, upd_u, upd_ne, Classical.not_not, k_Tl_property, t5, pk_sub, hPs, f_Tl_setting, seF, v6, n3, n31, n32, n1]; try clear hgo9 hW9); try (obtain ⟨W9, hW9, hgo9⟩ := wp_ex (T_Tl_property l G) [] _; refine hgo9 200 _ _ _ _ ?_; simp -implicitDefEqProofs (disch := omega) only [hW9, inl, gate, Xq, tz_const, tz_iload, tz_lload, tz_dload, tz_aload, tz_istore, tz_astore, tz_lstore, tz_dstore, tz_iinc, tz_i1, tz_i2, tz_i2z, tz_l2, tz_l2z, tz_i2l, tz_l2i, tz_lcmp, tz_i2d, tz_d2, tz_dcmp, tz_dup, tz_dup2, tz_pop, tz_if, tz_icmp, tz_null, tz_goto, tz_sw, tz_getf, tz_puti, tz_putz, tz_putr, tz_putl, tz_iaload, tz_baload, tz_laload, tz_aaload, tz_iastore, tz_bastore, tz_lastore, tz_aastore, tz_alen, tz_new, tz_newa, tz_oinit, tz_iret, tz_zret, tz_lret, tz_dret, tz_aret, tz_vret, tz_throw, tz_callS, tz_callV, tz_callI, tz_callR, tz_pureS, tz_pureV, tz_callVH, lg, lset, lkill, lst1, lst2, entL, isRf, is1, vl, va_rf_none, va_rf_some, isRf_rf, is1_rf, i0, i1, bI_eq0, bI_eq1, nm_em, nI_eqP, nI_leP, nI_ltP, nN_e1, nN_e2, nN_l1, nN_l2, nN_l3, nN_l4, nI_add, pk_mul, vp_inN, nI_cl, n01, n10, P_i, P_ii, P_iii, f_Mo_at, f_Mo_map, f_Mo_contact, f_Mo_within, f_Mo_isPort, f_Hp_endpoint, f_Hp_nodeOf, f_Hp_portOf, f_Ma_max, f_Ma_min, f_Hp_isSetting, popN, rok, a1, noX, swc, mL, if_true, if_false, ↓reduceIte, cond_true, cond_false, true_and, and_true, List.length_cons, List.length_nil, List.nil_append, List.cons_append, List.append_nil, Option.toList, Nat.reduceEqDiff, Bool.false_eq_true, reduceCtorEq, Nat.reduceAdd, Nat.reduceLT, Nat.reduceLeDiff, Nat.reduceSub, List.replicate, Nat.zero_add, Nat.lt_add_one, Nat.le_refl, Nat.zero_le, Nat.succ_ne_zero, not_false_eq_true, not_true_eq_false, false_implies, true_implies, forall_const, imp_self, true_or, or_true, eq_self, sI_zw, zw_zw, hI_zw, tg_zw, ln_zw, hR_zw, hL_zw, hN_zw, hM_zw, upd_s, upd_u, upd_ne, Classical.not_not, k_Tl_property, t5, pk_sub, hPs, f_Tl_setting, seF, v6, n3, n31, n32, n1]; try clear hgo9 hW9))
      exact hQ'
  · have hQ' : Q (.inl (some (.int (z (16 + 16 * i + 11))))) h := hQ
    rw [ho.1, ← v10] at hQ'
    ((obtain ⟨W9, hW9, hgo9⟩ := wp_ex (T_Tl_property l G) [] _; refine hgo9 200 _ _ _ _ ?_; simp -implicitDefEqProofs (disch := omega) only [hW9, inl, gate, Xq, tz_const, tz_iload, tz_lload, tz_dload, tz_aload, tz_istore, tz_astore, tz_lstore, tz_dstore, tz_iinc, tz_i1, tz_i2, tz_i2z, tz_l2, tz_l2z, tz_i2l, tz_l2i, tz_lcmp, tz_i2d, tz_d2, tz_dcmp, tz_dup, tz_dup2, tz_pop, tz_if, tz_icmp, tz_null, tz_goto, tz_sw, tz_getf, tz_puti, tz_putz, tz_putr, tz_putl, tz_iaload, tz_baload, tz_laload, tz_aaload, tz_iastore, tz_bastore, tz_lastore, tz_aastore, tz_alen, tz_new, tz_newa, tz_oinit, tz_iret, tz_zret, tz_lret, tz_dret, tz_aret, tz_vret, tz_throw, tz_callS, tz_callV, tz_callI, tz_callR, tz_pureS, tz_pureV, tz_callVH, lg, lset, lkill, lst1, lst2, entL, isRf, is1, vl, va_rf_none, va_rf_some, isRf_rf, is1_rf, i0, i1, bI_eq0, bI_eq1, nm_em, nI_eqP, nI_leP, nI_ltP, nN_e1, nN_e2, nN_l1, nN_l2, nN_l3, nN_l4, nI_add, pk_mul, vp_inN, nI_cl, n01, n10, P_i, P_ii, P_iii, f_Mo_at, f_Mo_map, f_Mo_contact, f_Mo_within, f_Mo_isPort, f_Hp_endpoint, f_Hp_nodeOf, f_Hp_portOf, f_Ma_max, f_Ma_min, f_Hp_isSetting, popN, rok, a1, noX, swc, mL, if_true, if_false, ↓reduceIte, cond_true, cond_false, true_and, and_true, List.length_cons, List.length_nil, List.nil_append, List.cons_append, List.append_nil, Option.toList, Nat.reduceEqDiff, Bool.false_eq_true, reduceCtorEq, Nat.reduceAdd, Nat.reduceLT, Nat.reduceLeDiff, Nat.reduceSub, List.replicate, Nat.zero_add, Nat.lt_add_one, Nat.le_refl, Nat.zero_le, Nat.succ_ne_zero, not_false_eq_true, not_true_eq_false, false_implies, true_implies, forall_const, imp_self, true_or, or_true, eq_self, sI_zw, zw_zw, hI_zw, tg_zw, ln_zw, hR_zw, hL_zw, hN_zw, hM_zw, upd_s, upd_u, upd_ne, Classical.not_not, k_Tl_property, t5]; try clear hgo9 hW9); try (obtain ⟨W9, hW9, hgo9⟩ := wp_ex (T_Tl_property l G) [] _; refine hgo9 200 _ _ _ _ ?_; simp -implicitDefEqProofs (disch := omega) only [hW9, inl, gate, Xq, tz_const, tz_iload, tz_lload, tz_dload, tz_aload, tz_istore, tz_astore, tz_lstore, tz_dstore, tz_iinc, tz_i1, tz_i2, tz_i2z, tz_l2, tz_l2z, tz_i2l, tz_l2i, tz_lcmp, tz_i2d, tz_d2, tz_dcmp, tz_dup, tz_dup2, tz_pop, tz_if, tz_icmp, tz_null, tz_goto, tz_sw, tz_getf, tz_puti, tz_putz, tz_putr, tz_putl, tz_iaload, tz_baload, tz_laload, tz_aaload, tz_iastore, tz_bastore, tz_lastore, tz_aastore, tz_alen, tz_new, tz_newa, tz_oinit, tz_iret, tz_zret, tz_lret, tz_dret, tz_aret, tz_vret, tz_throw, tz_callS, tz_callV, tz_callI, tz_callR, tz_pureS, tz_pureV, tz_callVH, lg, lset, lkill, lst1, lst2, entL, isRf, is1, vl, va_rf_none, va_rf_some, isRf_rf, is1_rf, i0, i1, bI_eq0, bI_eq1, nm_em, nI_eqP, nI_leP, nI_ltP, nN_e1, nN_e2, nN_l1, nN_l2, nN_l3, nN_l4, nI_add, pk_mul, vp_inN, nI_cl, n01, n10, P_i, P_ii, P_iii, f_Mo_at, f_Mo_map, f_Mo_contact, f_Mo_within, f_Mo_isPort, f_Hp_endpoint, f_Hp_nodeOf, f_Hp_portOf, f_Ma_max, f_Ma_min, f_Hp_isSetting, popN, rok, a1, noX, swc, mL, if_true, if_false, ↓reduceIte, cond_true, cond_false, true_and, and_true, List.length_cons, List.length_nil, List.nil_append, List.cons_append, List.append_nil, Option.toList, Nat.reduceEqDiff, Bool.false_eq_true, reduceCtorEq, Nat.reduceAdd, Nat.reduceLT, Nat.reduceLeDiff, Nat.reduceSub, List.replicate, Nat.zero_add, Nat.lt_add_one, Nat.le_refl, Nat.zero_le, Nat.succ_ne_zero, not_false_eq_true, not_true_eq_false, false_implies, true_implies, forall_const, imp_self, true_or, or_true, eq_self, sI_zw, zw_zw, hI_zw, tg_zw, ln_zw, hR_zw, hL_zw, hN_zw, hM_zw, upd_s, upd_u, upd_ne, Classical.not_not, k_Tl_property, t5]; try clear hgo9 hW9))
    exact hQ'
  · ((obtain ⟨W9, hW9, hgo9⟩ := wp_ex (T_Tl_property l G) [] _; refine hgo9 200 _ _ _ _ ?_; simp -implicitDefEqProofs (disch := omega) only [hW9, inl, gate, Xq, tz_const, tz_iload, tz_lload, tz_dload, tz_aload, tz_istore, tz_astore, tz_lstore, tz_dstore, tz_iinc, tz_i1, tz_i2, tz_i2z, tz_l2, tz_l2z, tz_i2l, tz_l2i, tz_lcmp, tz_i2d, tz_d2, tz_dcmp, tz_dup, tz_dup2, tz_pop, tz_if, tz_icmp, tz_null, tz_goto, tz_sw, tz_getf, tz_puti, tz_putz, tz_putr, tz_putl, tz_iaload, tz_baload, tz_laload, tz_aaload, tz_iastore, tz_bastore, tz_lastore, tz_aastore, tz_alen, tz_new, tz_newa, tz_oinit, tz_iret, tz_zret, tz_lret, tz_dret, tz_aret, tz_vret, tz_throw, tz_callS, tz_callV, tz_callI, tz_callR, tz_pureS, tz_pureV, tz_callVH, lg, lset, lkill, lst1, lst2, entL, isRf, is1, vl, va_rf_none, va_rf_some, isRf_rf, is1_rf, i0, i1, bI_eq0, bI_eq1, nm_em, nI_eqP, nI_leP, nI_ltP, nN_e1, nN_e2, nN_l1, nN_l2, nN_l3, nN_l4, nI_add, pk_mul, vp_inN, nI_cl, n01, n10, P_i, P_ii, P_iii, f_Mo_at, f_Mo_map, f_Mo_contact, f_Mo_within, f_Mo_isPort, f_Hp_endpoint, f_Hp_nodeOf, f_Hp_portOf, f_Ma_max, f_Ma_min, f_Hp_isSetting, popN, rok, a1, noX, swc, mL, if_true, if_false, ↓reduceIte, cond_true, cond_false, true_and, and_true, List.length_cons, List.length_nil, List.nil_append, List.cons_append, List.append_nil, Option.toList, Nat.reduceEqDiff, Bool.false_eq_true, reduceCtorEq, Nat.reduceAdd, Nat.reduceLT, Nat.reduceLeDiff, Nat.reduceSub, List.replicate, Nat.zero_add, Nat.lt_add_one, Nat.le_refl, Nat.zero_le, Nat.succ_ne_zero, not_false_eq_true, not_true_eq_false, false_implies, true_implies, forall_const, imp_self, true_or, or_true, eq_self, sI_zw, zw_zw, hI_zw, tg_zw, ln_zw, hR_zw, hL_zw, hN_zw, hM_zw, upd_s, upd_u, upd_ne, Classical.not_not, k_Tl_property, t5, v7]; try clear hgo9 hW9); try (obtain ⟨W9, hW9, hgo9⟩ := wp_ex (T_Tl_property l G) [] _; refine hgo9 200 _ _ _ _ ?_; simp -implicitDefEqProofs (disch := omega) only [hW9, inl, gate, Xq, tz_const, tz_iload, tz_lload, tz_dload, tz_aload, tz_istore, tz_astore, tz_lstore, tz_dstore, tz_iinc, tz_i1, tz_i2, tz_i2z, tz_l2, tz_l2z, tz_i2l, tz_l2i, tz_lcmp, tz_i2d, tz_d2, tz_dcmp, tz_dup, tz_dup2, tz_pop, tz_if, tz_icmp, tz_null, tz_goto, tz_sw, tz_getf, tz_puti, tz_putz, tz_putr, tz_putl, tz_iaload, tz_baload, tz_laload, tz_aaload, tz_iastore, tz_bastore, tz_lastore, tz_aastore, tz_alen, tz_new, tz_newa, tz_oinit, tz_iret, tz_zret, tz_lret, tz_dret, tz_aret, tz_vret, tz_throw, tz_callS, tz_callV, tz_callI, tz_callR, tz_pureS, tz_pureV, tz_callVH, lg, lset, lkill, lst1, lst2, entL, isRf, is1, vl, va_rf_none, va_rf_some, isRf_rf, is1_rf, i0, i1, bI_eq0, bI_eq1, nm_em, nI_eqP, nI_leP, nI_ltP, nN_e1, nN_e2, nN_l1, nN_l2, nN_l3, nN_l4, nI_add, pk_mul, vp_inN, nI_cl, n01, n10, P_i, P_ii, P_iii, f_Mo_at, f_Mo_map, f_Mo_contact, f_Mo_within, f_Mo_isPort, f_Hp_endpoint, f_Hp_nodeOf, f_Hp_portOf, f_Ma_max, f_Ma_min, f_Hp_isSetting, popN, rok, a1, noX, swc, mL, if_true, if_false, ↓reduceIte, cond_true, cond_false, true_and, and_true, List.length_cons, List.length_nil, List.nil_append, List.cons_append, List.append_nil, Option.toList, Nat.reduceEqDiff, Bool.false_eq_true, reduceCtorEq, Nat.reduceAdd, Nat.reduceLT, Nat.reduceLeDiff, Nat.reduceSub, List.replicate, Nat.zero_add, Nat.lt_add_one, Nat.le_refl, Nat.zero_le, Nat.succ_ne_zero, not_false_eq_true, not_true_eq_false, false_implies, true_implies, forall_const, imp_self, true_or, or_true, eq_self, sI_zw, zw_zw, hI_zw, tg_zw, ln_zw, hR_zw, hL_zw, hN_zw, hM_zw, upd_s, upd_u, upd_ne, Classical.not_not, k_Tl_property, t5, v7]; try clear hgo9 hW9))
    exact hQ
end
