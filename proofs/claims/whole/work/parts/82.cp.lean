/-! THE CLASS: copies -/
def k_Tl_copyFrom (l : Launch) (G : Gc) (pc : Nat) : Tr :=
  if pc < 61 then
   if pc < 29 then
    if pc < 13 then
     if pc < 5 then
      if pc < 1 then
       if pc = 0 then tz_aload 1 0 else dead
      else
       if pc < 2 then
        if pc = 1 then tz_aload 2 1 else dead
       else
        if pc = 2 then tz_getf 5 5 0 0 else dead
     else
      if pc < 9 then
       if pc < 8 then
        if pc = 5 then tz_puti 8 5 0 else dead
       else
        if pc = 8 then tz_aload 9 0 else dead
      else
       if pc < 10 then
        if pc = 9 then tz_aload 10 1 else dead
       else
        if pc = 10 then tz_getf 13 5 1 0 else dead
    else
     if pc < 21 then
      if pc < 17 then
       if pc < 16 then
        if pc = 13 then tz_puti 16 5 1 else dead
       else
        if pc = 16 then tz_aload 17 0 else dead
      else
       if pc < 18 then
        if pc = 17 then tz_aload 18 1 else dead
       else
        if pc = 18 then tz_getf 21 5 2 0 else dead
     else
      if pc < 25 then
       if pc < 24 then
        if pc = 21 then tz_puti 24 5 2 else dead
       else
        if pc = 24 then tz_aload 25 0 else dead
      else
       if pc < 26 then
        if pc = 25 then tz_aload 26 1 else dead
       else
        if pc = 26 then tz_getf 29 5 3 0 else dead
   else
    if pc < 45 then
     if pc < 37 then
      if pc < 33 then
       if pc < 32 then
        if pc = 29 then tz_puti 32 5 3 else dead
       else
        if pc = 32 then tz_aload 33 0 else dead
      else
       if pc < 34 then
        if pc = 33 then tz_aload 34 1 else dead
       else
        if pc = 34 then tz_getf 37 5 4 0 else dead
     else
      if pc < 41 then
       if pc < 40 then
        if pc = 37 then tz_puti 40 5 4 else dead
       else
        if pc = 40 then tz_aload 41 0 else dead
      else
       if pc < 42 then
        if pc = 41 then tz_aload 42 1 else dead
       else
        if pc = 42 then tz_getf 45 5 5 0 else dead
    else
     if pc < 53 then
      if pc < 49 then
       if pc < 48 then
        if pc = 45 then tz_putz 48 5 5 else dead
       else
        if pc = 48 then tz_aload 49 0 else dead
      else
       if pc < 50 then
        if pc = 49 then tz_aload 50 1 else dead
       else
        if pc = 50 then tz_getf 53 5 6 0 else dead
     else
      if pc < 57 then
       if pc < 56 then
        if pc = 53 then tz_putz 56 5 6 else dead
       else
        if pc = 56 then tz_aload 57 0 else dead
      else
       if pc < 58 then
        if pc = 57 then tz_aload 58 1 else dead
       else
        if pc = 58 then tz_getf 61 5 7 0 else dead
  else
   if pc < 88 then
    if pc < 74 then
     if pc < 66 then
      if pc < 64 then
       if pc = 61 then tz_puti 64 5 7 else dead
      else
       if pc < 65 then
        if pc = 64 then tz_aload 65 0 else dead
       else
        if pc = 65 then tz_aload 66 1 else dead
     else
      if pc < 72 then
       if pc < 69 then
        if pc = 66 then tz_getf 69 5 8 2 else dead
       else
        if pc = 69 then tz_putl 72 5 8 else dead
      else
       if pc < 73 then
        if pc = 72 then tz_aload 73 0 else dead
       else
        if pc = 73 then tz_const 74 (.int (nI 0)) else dead
    else
     if pc < 80 then
      if pc < 78 then
       if pc < 77 then
        if pc = 74 then tz_puti 77 5 10 else dead
       else
        if pc = 77 then tz_const 78 (.int (nI 0)) else dead
      else
       if pc < 79 then
        if pc = 78 then tz_istore 79 2 else dead
       else
        if pc = 79 then tz_iload 80 2 else dead
     else
      if pc < 84 then
       if pc < 81 then
        if pc = 80 then tz_aload 81 1 else dead
       else
        if pc = 81 then tz_getf 84 5 10 0 else dead
      else
       if pc < 87 then
        if pc = 84 then tz_icmp 87 120 (fun a b => b ≤ a) else dead
       else
        if pc = 87 then tz_aload 88 1 else dead
   else
    if pc < 103 then
     if pc < 94 then
      if pc < 92 then
       if pc < 89 then
        if pc = 88 then tz_iload 89 2 else dead
       else
        if pc = 89 then tz_pureV 92 1 5 P_Tl_mappingAt f_Tl_mappingAt else dead
      else
       if pc < 93 then
        if pc = 92 then tz_astore 93 3 else dead
       else
        if pc = 93 then tz_aload 94 0 else dead
     else
      if pc < 99 then
       if pc < 97 then
        if pc = 94 then tz_callV l G 97 M_Tl_nextMapping 0 5 else dead
       else
        if pc = 97 then tz_astore 99 4 else dead
      else
       if pc < 100 then
        if pc = 99 then tz_aload 100 3 else dead
       else
        if pc = 100 then tz_null 114 103 else dead
    else
     if pc < 111 then
      if pc < 108 then
       if pc < 105 then
        if pc = 103 then tz_aload 105 4 else dead
       else
        if pc = 105 then tz_null 114 108 else dead
      else
       if pc < 110 then
        if pc = 108 then tz_aload 110 4 else dead
       else
        if pc = 110 then tz_aload 111 3 else dead
     else
      if pc < 117 then
       if pc < 114 then
        if pc = 111 then tz_callV l G 114 M_Mp_copyFrom 1 0 else dead
       else
        if pc = 114 then tz_iinc 117 2 (nI 1) else dead
      else
       if pc < 120 then
        if pc = 117 then tz_goto 79 else dead
       else
        if pc = 120 then tz_vret else dead
set_option maxRecDepth 100000 in
theorem T_Tl_copyFrom (l : Launch) (G : Gc) : TabOK l G M_Tl_copyFrom (k_Tl_copyFrom l G) := by
  intro pc
  unfold k_Tl_copyFrom
  exact
   (sd_br
    (sd_br
     (sd_br
      (sd_br
       (sd_br
        (sd_lf (sd_aload_n (k := 0) (by decide +kernel : decode prog_7_method_3_code 0 = .ok (.aload_n 0, 1))))
        (sd_br
         (sd_lf (sd_aload_n (k := 1) (by decide +kernel : decode prog_7_method_3_code 1 = .ok (.aload_n 1, 1))))
         (sd_lf (sd_getf (q := (RX5, TX5, 11)) (by decide +kernel : decode prog_7_method_3_code 2 = .ok (.getfield 21, 3)) rfl (by decide +kernel) (gm 248 (by decide +kernel) rfl)))))
       (sd_br
        (sd_br
         (sd_lf (sd_puti (q := (RX5, TX5, 11)) (by decide +kernel : decode prog_7_method_3_code 5 = .ok (.putfield 21, 3)) rfl (by decide +kernel) (gm 248 (by decide +kernel) rfl) rfl rfl (Or.inl rfl)))
         (sd_lf (sd_aload_n (k := 0) (by decide +kernel : decode prog_7_method_3_code 8 = .ok (.aload_n 0, 1)))))
        (sd_br
         (sd_lf (sd_aload_n (k := 1) (by decide +kernel : decode prog_7_method_3_code 9 = .ok (.aload_n 1, 1))))
         (sd_lf (sd_getf (q := (RX5, TX5, 11)) (by decide +kernel : decode prog_7_method_3_code 10 = .ok (.getfield 24, 3)) rfl (by decide +kernel) (gm 249 (by decide +kernel) rfl))))))
      (sd_br
       (sd_br
        (sd_br
         (sd_lf (sd_puti (q := (RX5, TX5, 11)) (by decide +kernel : decode prog_7_method_3_code 13 = .ok (.putfield 24, 3)) rfl (by decide +kernel) (gm 249 (by decide +kernel) rfl) rfl rfl (Or.inl rfl)))
         (sd_lf (sd_aload_n (k := 0) (by decide +kernel : decode prog_7_method_3_code 16 = .ok (.aload_n 0, 1)))))
        (sd_br
         (sd_lf (sd_aload_n (k := 1) (by decide +kernel : decode prog_7_method_3_code 17 = .ok (.aload_n 1, 1))))
         (sd_lf (sd_getf (q := (RX5, TX5, 11)) (by decide +kernel : decode prog_7_method_3_code 18 = .ok (.getfield 27, 3)) rfl (by decide +kernel) (gm 251 (by decide +kernel) rfl)))))
       (sd_br
        (sd_br
         (sd_lf (sd_puti (q := (RX5, TX5, 11)) (by decide +kernel : decode prog_7_method_3_code 21 = .ok (.putfield 27, 3)) rfl (by decide +kernel) (gm 251 (by decide +kernel) rfl) rfl rfl (Or.inl rfl)))
         (sd_lf (sd_aload_n (k := 0) (by decide +kernel : decode prog_7_method_3_code 24 = .ok (.aload_n 0, 1)))))
        (sd_br
         (sd_lf (sd_aload_n (k := 1) (by decide +kernel : decode prog_7_method_3_code 25 = .ok (.aload_n 1, 1))))
         (sd_lf (sd_getf (q := (RX5, TX5, 11)) (by decide +kernel : decode prog_7_method_3_code 26 = .ok (.getfield 30, 3)) rfl (by decide +kernel) (gm 252 (by decide +kernel) rfl)))))))
     (sd_br
      (sd_br
       (sd_br
        (sd_br
         (sd_lf (sd_puti (q := (RX5, TX5, 11)) (by decide +kernel : decode prog_7_method_3_code 29 = .ok (.putfield 30, 3)) rfl (by decide +kernel) (gm 252 (by decide +kernel) rfl) rfl rfl (Or.inl rfl)))
         (sd_lf (sd_aload_n (k := 0) (by decide +kernel : decode prog_7_method_3_code 32 = .ok (.aload_n 0, 1)))))
        (sd_br
         (sd_lf (sd_aload_n (k := 1) (by decide +kernel : decode prog_7_method_3_code 33 = .ok (.aload_n 1, 1))))
         (sd_lf (sd_getf (q := (RX5, TX5, 11)) (by decide +kernel : decode prog_7_method_3_code 34 = .ok (.getfield 33, 3)) rfl (by decide +kernel) (gm 253 (by decide +kernel) rfl)))))
       (sd_br
        (sd_br
         (sd_lf (sd_puti (q := (RX5, TX5, 11)) (by decide +kernel : decode prog_7_method_3_code 37 = .ok (.putfield 33, 3)) rfl (by decide +kernel) (gm 253 (by decide +kernel) rfl) rfl rfl (Or.inl rfl)))
         (sd_lf (sd_aload_n (k := 0) (by decide +kernel : decode prog_7_method_3_code 40 = .ok (.aload_n 0, 1)))))
        (sd_br
         (sd_lf (sd_aload_n (k := 1) (by decide +kernel : decode prog_7_method_3_code 41 = .ok (.aload_n 1, 1))))
         (sd_lf (sd_getf (q := (RX5, TX5, 11)) (by decide +kernel : decode prog_7_method_3_code 42 = .ok (.getfield 36, 3)) rfl (by decide +kernel) (gm 254 (by decide +kernel) rfl))))))
      (sd_br
       (sd_br
        (sd_br
         (sd_lf (sd_putz (q := (RX5, TX5, 11)) (by decide +kernel : decode prog_7_method_3_code 45 = .ok (.putfield 36, 3)) rfl (by decide +kernel) (gm 254 (by decide +kernel) rfl) rfl rfl (Or.inl rfl)))
         (sd_lf (sd_aload_n (k := 0) (by decide +kernel : decode prog_7_method_3_code 48 = .ok (.aload_n 0, 1)))))
        (sd_br
         (sd_lf (sd_aload_n (k := 1) (by decide +kernel : decode prog_7_method_3_code 49 = .ok (.aload_n 1, 1))))
         (sd_lf (sd_getf (q := (RX5, TX5, 11)) (by decide +kernel : decode prog_7_method_3_code 50 = .ok (.getfield 40, 3)) rfl (by decide +kernel) (gm 256 (by decide +kernel) rfl)))))
       (sd_br
        (sd_br
         (sd_lf (sd_putz (q := (RX5, TX5, 11)) (by decide +kernel : decode prog_7_method_3_code 53 = .ok (.putfield 40, 3)) rfl (by decide +kernel) (gm 256 (by decide +kernel) rfl) rfl rfl (Or.inl rfl)))
         (sd_lf (sd_aload_n (k := 0) (by decide +kernel : decode prog_7_method_3_code 56 = .ok (.aload_n 0, 1)))))
        (sd_br
         (sd_lf (sd_aload_n (k := 1) (by decide +kernel : decode prog_7_method_3_code 57 = .ok (.aload_n 1, 1))))
         (sd_lf (sd_getf (q := (RX5, TX5, 11)) (by decide +kernel : decode prog_7_method_3_code 58 = .ok (.getfield 43, 3)) rfl (by decide +kernel) (gm 258 (by decide +kernel) rfl))))))))
    (sd_br
     (sd_br
      (sd_br
       (sd_br
        (sd_lf (sd_puti (q := (RX5, TX5, 11)) (by decide +kernel : decode prog_7_method_3_code 61 = .ok (.putfield 43, 3)) rfl (by decide +kernel) (gm 258 (by decide +kernel) rfl) rfl rfl (Or.inl rfl)))
        (sd_br
         (sd_lf (sd_aload_n (k := 0) (by decide +kernel : decode prog_7_method_3_code 64 = .ok (.aload_n 0, 1))))
         (sd_lf (sd_aload_n (k := 1) (by decide +kernel : decode prog_7_method_3_code 65 = .ok (.aload_n 1, 1))))))
       (sd_br
        (sd_br
         (sd_lf (sd_getf (q := (RX5, TX5, 11)) (by decide +kernel : decode prog_7_method_3_code 66 = .ok (.getfield 46, 3)) rfl (by decide +kernel) (gm 259 (by decide +kernel) rfl)))
         (sd_lf (sd_putl (q := (RX5, TX5, 11)) (by decide +kernel : decode prog_7_method_3_code 69 = .ok (.putfield 46, 3)) rfl (by decide +kernel) (gm 259 (by decide +kernel) rfl) rfl rfl (Or.inl rfl))))
        (sd_br
         (sd_lf (sd_aload_n (k := 0) (by decide +kernel : decode prog_7_method_3_code 72 = .ok (.aload_n 0, 1))))
         (sd_lf (sd_iconst (by decide +kernel : decode prog_7_method_3_code 73 = .ok (.iconst 0, 1)) (by decide +kernel))))))
      (sd_br
       (sd_br
        (sd_br
         (sd_lf (sd_puti (q := (RX5, TX5, 11)) (by decide +kernel : decode prog_7_method_3_code 74 = .ok (.putfield 17, 3)) rfl (by decide +kernel) (gm 261 (by decide +kernel) rfl) rfl rfl (Or.inl rfl)))
         (sd_lf (sd_iconst (by decide +kernel : decode prog_7_method_3_code 77 = .ok (.iconst 0, 1)) (by decide +kernel))))
        (sd_br
         (sd_lf (sd_istore_n (k := 2) (by decide +kernel : decode prog_7_method_3_code 78 = .ok (.istore_n 2, 1))))
         (sd_lf (sd_iload_n (k := 2) (by decide +kernel : decode prog_7_method_3_code 79 = .ok (.iload_n 2, 1))))))
       (sd_br
        (sd_br
         (sd_lf (sd_aload_n (k := 1) (by decide +kernel : decode prog_7_method_3_code 80 = .ok (.aload_n 1, 1))))
         (sd_lf (sd_getf (q := (RX5, TX5, 11)) (by decide +kernel : decode prog_7_method_3_code 81 = .ok (.getfield 17, 3)) rfl (by decide +kernel) (gm 261 (by decide +kernel) rfl))))
        (sd_br
         (sd_lf (sd_icmp_ge (by decide +kernel : decode prog_7_method_3_code 84 = .ok (.if_icmp .ge 36, 3)) (by decide +kernel)))
         (sd_lf (sd_aload_n (k := 1) (by decide +kernel : decode prog_7_method_3_code 87 = .ok (.aload_n 1, 1))))))))
     (sd_br
      (sd_br
       (sd_br
        (sd_br
         (sd_lf (sd_iload_n (k := 2) (by decide +kernel : decode prog_7_method_3_code 88 = .ok (.iload_n 2, 1))))
         (sd_lf (sd_pureV (sd_callV (q := (RX5, TX5, 11)) (by decide +kernel : decode prog_7_method_3_code 89 = .ok (.invokevirtual 50, 3)) ok_Tl_mappingAt (gm 291 (by decide +kernel) rfl) (gm 292 (by decide +kernel) rfl) (gm 293 (by decide +kernel) rfl) rfl rfl (by decide +kernel) rfl rfl) c_Tl_mappingAt)))
        (sd_br
         (sd_lf (sd_astore_n (k := 3) (by decide +kernel : decode prog_7_method_3_code 92 = .ok (.astore_n 3, 1))))
         (sd_lf (sd_aload_n (k := 0) (by decide +kernel : decode prog_7_method_3_code 93 = .ok (.aload_n 0, 1))))))
       (sd_br
        (sd_br
         (sd_lf (sd_callV (q := (RX5, TX5, 11)) (by decide +kernel : decode prog_7_method_3_code 94 = .ok (.invokevirtual 54, 3)) ok_Tl_nextMapping (gm 295 (by decide +kernel) rfl) (gm 297 (by decide +kernel) rfl) (gm 1 (by decide +kernel) rfl) rfl rfl (by decide +kernel) rfl rfl))
         (sd_lf (sd_astore (by decide +kernel : decode prog_7_method_3_code 97 = .ok (.astore 4, 2)))))
        (sd_br
         (sd_lf (sd_aload_n (k := 3) (by decide +kernel : decode prog_7_method_3_code 99 = .ok (.aload_n 3, 1))))
         (sd_lf (sd_ifnull (by decide +kernel : decode prog_7_method_3_code 100 = .ok (.ifnull 14, 3)) (by decide +kernel))))))
      (sd_br
       (sd_br
        (sd_br
         (sd_lf (sd_aload (by decide +kernel : decode prog_7_method_3_code 103 = .ok (.aload 4, 2))))
         (sd_lf (sd_ifnull (by decide +kernel : decode prog_7_method_3_code 105 = .ok (.ifnull 9, 3)) (by decide +kernel))))
        (sd_br
         (sd_lf (sd_aload (by decide +kernel : decode prog_7_method_3_code 108 = .ok (.aload 4, 2))))
         (sd_lf (sd_aload_n (k := 3) (by decide +kernel : decode prog_7_method_3_code 110 = .ok (.aload_n 3, 1))))))
       (sd_br
        (sd_br
         (sd_lf (sd_callV (q := (RX0, TX0, 6)) (by decide +kernel : decode prog_7_method_3_code 111 = .ok (.invokevirtual 58, 3)) ok_Mp_copyFrom (gm 330 (by decide +kernel) rfl) (gm 331 (by decide +kernel) rfl) (gm 332 (by decide +kernel) rfl) rfl rfl (by decide +kernel) rfl rfl))
         (sd_lf (sd_iinc (by decide +kernel : decode prog_7_method_3_code 114 = .ok (.iinc 2 1, 3)) (by decide +kernel))))
        (sd_br
         (sd_lf (sd_goto (by decide +kernel : decode prog_7_method_3_code 117 = .ok (.goto (-38), 3)) (by decide +kernel)))
         (sd_lf (sd_vret (by decide +kernel : decode prog_7_method_3_code 120 = .ok (.return_, 1)) rfl))))))))
def k_No_copyFrom (l : Launch) (G : Gc) (pc : Nat) : Tr :=
  if pc < 27 then
   if pc < 14 then
    if pc < 7 then
     if pc < 1 then
      if pc = 0 then tz_aload 1 1 else dead
     else
      if pc < 4 then
       if pc = 1 then tz_getf 4 3 0 0 else dead
      else
       if pc = 4 then tz_if 7 14 (fun a => ¬ a = 0) else dead
    else
     if pc < 8 then
      if pc = 7 then tz_aload 8 1 else dead
     else
      if pc < 11 then
       if pc = 8 then tz_getf 11 3 4 1 else dead
      else
       if pc = 11 then tz_null 14 25 else dead
   else
    if pc < 19 then
     if pc < 15 then
      if pc = 14 then tz_aload 15 0 else dead
     else
      if pc < 16 then
       if pc = 15 then tz_aload 16 1 else dead
      else
       if pc = 16 then tz_getf 19 3 1 0 else dead
    else
     if pc < 25 then
      if pc < 22 then
       if pc = 19 then tz_callV l G 22 M_No_becomeHost 1 3 else dead
      else
       if pc = 22 then tz_goto 40 else dead
     else
      if pc < 26 then
       if pc = 25 then tz_aload 26 0 else dead
      else
       if pc = 26 then tz_aload 27 1 else dead
  else
   if pc < 42 then
    if pc < 34 then
     if pc < 30 then
      if pc = 27 then tz_getf 30 3 1 0 else dead
     else
      if pc < 33 then
       if pc = 30 then tz_callV l G 33 M_No_becomeTranslator 1 3 else dead
      else
       if pc = 33 then tz_aload 34 1 else dead
    else
     if pc < 40 then
      if pc < 37 then
       if pc = 34 then tz_getf 37 3 4 1 else dead
      else
       if pc = 37 then tz_callV l G 40 M_Tl_copyFrom 1 5 else dead
     else
      if pc < 41 then
       if pc = 40 then tz_aload 41 0 else dead
      else
       if pc = 41 then tz_aload 42 1 else dead
   else
    if pc < 49 then
     if pc < 45 then
      if pc = 42 then tz_getf 45 3 2 0 else dead
     else
      if pc < 48 then
       if pc = 45 then tz_puti 48 3 2 else dead
      else
       if pc = 48 then tz_aload 49 0 else dead
    else
     if pc < 53 then
      if pc < 50 then
       if pc = 49 then tz_aload 50 1 else dead
      else
       if pc = 50 then tz_getf 53 3 3 0 else dead
     else
      if pc < 56 then
       if pc = 53 then tz_puti 56 3 3 else dead
      else
       if pc = 56 then tz_vret else dead
set_option maxRecDepth 100000 in
theorem T_No_copyFrom (l : Launch) (G : Gc) : TabOK l G M_No_copyFrom (k_No_copyFrom l G) := by
  intro pc
  unfold k_No_copyFrom
  exact
   (sd_br
    (sd_br
     (sd_br
      (sd_br
       (sd_lf (sd_aload_n (k := 1) (by decide +kernel : decode prog_5_method_5_code 0 = .ok (.aload_n 1, 1))))
       (sd_br
        (sd_lf (sd_getf (q := (RX3, TX3, 5)) (by decide +kernel : decode prog_5_method_5_code 1 = .ok (.getfield 9, 3)) rfl (by decide +kernel) (gm 205 (by decide +kernel) rfl)))
        (sd_lf (sd_if_ne (by decide +kernel : decode prog_5_method_5_code 4 = .ok (.ifCond .ne 10, 3)) (by decide +kernel)))))
      (sd_br
       (sd_lf (sd_aload_n (k := 1) (by decide +kernel : decode prog_5_method_5_code 7 = .ok (.aload_n 1, 1))))
       (sd_br
        (sd_lf (sd_getf (q := (RX3, TX3, 5)) (by decide +kernel : decode prog_5_method_5_code 8 = .ok (.getfield 25, 3)) rfl (by decide +kernel) (gm 215 (by decide +kernel) rfl)))
        (sd_lf (sd_ifnonnull (by decide +kernel : decode prog_5_method_5_code 11 = .ok (.ifnonnull 14, 3)) (by decide +kernel))))))
     (sd_br
      (sd_br
       (sd_lf (sd_aload_n (k := 0) (by decide +kernel : decode prog_5_method_5_code 14 = .ok (.aload_n 0, 1))))
       (sd_br
        (sd_lf (sd_aload_n (k := 1) (by decide +kernel : decode prog_5_method_5_code 15 = .ok (.aload_n 1, 1))))
        (sd_lf (sd_getf (q := (RX3, TX3, 5)) (by decide +kernel : decode prog_5_method_5_code 16 = .ok (.getfield 15, 3)) rfl (by decide +kernel) (gm 207 (by decide +kernel) rfl)))))
      (sd_br
       (sd_br
        (sd_lf (sd_callV (q := (RX3, TX3, 5)) (by decide +kernel : decode prog_5_method_5_code 19 = .ok (.invokevirtual 29, 3)) ok_No_becomeHost (gm 232 (by decide +kernel) rfl) (gm 233 (by decide +kernel) rfl) (gm 234 (by decide +kernel) rfl) rfl rfl (by decide +kernel) rfl rfl))
        (sd_lf (sd_goto (by decide +kernel : decode prog_5_method_5_code 22 = .ok (.goto 18, 3)) (by decide +kernel))))
       (sd_br
        (sd_lf (sd_aload_n (k := 0) (by decide +kernel : decode prog_5_method_5_code 25 = .ok (.aload_n 0, 1))))
        (sd_lf (sd_aload_n (k := 1) (by decide +kernel : decode prog_5_method_5_code 26 = .ok (.aload_n 1, 1))))))))
    (sd_br
     (sd_br
      (sd_br
       (sd_lf (sd_getf (q := (RX3, TX3, 5)) (by decide +kernel : decode prog_5_method_5_code 27 = .ok (.getfield 15, 3)) rfl (by decide +kernel) (gm 207 (by decide +kernel) rfl)))
       (sd_br
        (sd_lf (sd_callV (q := (RX3, TX3, 5)) (by decide +kernel : decode prog_5_method_5_code 30 = .ok (.invokevirtual 36, 3)) ok_No_becomeTranslator (gm 236 (by decide +kernel) rfl) (gm 237 (by decide +kernel) rfl) (gm 238 (by decide +kernel) rfl) rfl rfl (by decide +kernel) rfl rfl))
        (sd_lf (sd_aload_n (k := 1) (by decide +kernel : decode prog_5_method_5_code 33 = .ok (.aload_n 1, 1))))))
      (sd_br
       (sd_br
        (sd_lf (sd_getf (q := (RX3, TX3, 5)) (by decide +kernel : decode prog_5_method_5_code 34 = .ok (.getfield 25, 3)) rfl (by decide +kernel) (gm 215 (by decide +kernel) rfl)))
        (sd_lf (sd_callV (q := (RX5, TX5, 11)) (by decide +kernel : decode prog_5_method_5_code 37 = .ok (.invokevirtual 40, 3)) ok_Tl_copyFrom (gm 287 (by decide +kernel) rfl) (gm 288 (by decide +kernel) rfl) (gm 289 (by decide +kernel) rfl) rfl rfl (by decide +kernel) rfl rfl)))
       (sd_br
        (sd_lf (sd_aload_n (k := 0) (by decide +kernel : decode prog_5_method_5_code 40 = .ok (.aload_n 0, 1))))
        (sd_lf (sd_aload_n (k := 1) (by decide +kernel : decode prog_5_method_5_code 41 = .ok (.aload_n 1, 1)))))))
     (sd_br
      (sd_br
       (sd_lf (sd_getf (q := (RX3, TX3, 5)) (by decide +kernel : decode prog_5_method_5_code 42 = .ok (.getfield 19, 3)) rfl (by decide +kernel) (gm 209 (by decide +kernel) rfl)))
       (sd_br
        (sd_lf (sd_puti (q := (RX3, TX3, 5)) (by decide +kernel : decode prog_5_method_5_code 45 = .ok (.putfield 19, 3)) rfl (by decide +kernel) (gm 209 (by decide +kernel) rfl) rfl rfl (Or.inl rfl)))
        (sd_lf (sd_aload_n (k := 0) (by decide +kernel : decode prog_5_method_5_code 48 = .ok (.aload_n 0, 1))))))
      (sd_br
       (sd_br
        (sd_lf (sd_aload_n (k := 1) (by decide +kernel : decode prog_5_method_5_code 49 = .ok (.aload_n 1, 1))))
        (sd_lf (sd_getf (q := (RX3, TX3, 5)) (by decide +kernel : decode prog_5_method_5_code 50 = .ok (.getfield 22, 3)) rfl (by decide +kernel) (gm 212 (by decide +kernel) rfl))))
       (sd_br
        (sd_lf (sd_puti (q := (RX3, TX3, 5)) (by decide +kernel : decode prog_5_method_5_code 53 = .ok (.putfield 22, 3)) rfl (by decide +kernel) (gm 212 (by decide +kernel) rfl) rfl rfl (Or.inl rfl)))
        (sd_lf (sd_vret (by decide +kernel : decode prog_5_method_5_code 56 = .ok (.return_, 1)) rfl)))))))
theorem Fr.oth {h h' : AH} {wn wo c : Nat} (f : Fr wn c h h') (hne : wo ≠ wn) {b : Nat} (hb : b < hN h) (hr : rt h b = some wo) : same1 h h' b := f.2.2.1 b hb (by rw [hr]; intro e; exact hne (Option.some.inj e))
theorem ShT.frame {h h' : AH} {wn wo c i t : Nat} (hw : WF h) (k : ShT h wo i t) (f : Fr wn c h h') (hne : wo ≠ wn) : ShT h' wo i t := k.keep hw (fun b hb ⟨_, _, e, _⟩ => f.oth hne hb (rt_gh e))
theorem TlG.frame {h h' : AH} {wn wo c i t s n : Nat} {z : Nat → Int32} (hw : WF h) (sh : ShT h wo i t) (k : TlG h t z i s n) (hc : n ≤ 8) (hkn : ∀ j, j < n → knw z i j ≤ 8) (f : Fr wn c h h') (hne : wo ≠ wn) : TlG h' t z i s n := k.keep hw sh hc hkn (fun b hb ⟨_, _, e, _⟩ => f.oth hne hb (rt_gh e)) (fun _ _ => rfl) ⟨fun _ _ => rfl, fun _ _ => rfl⟩
theorem bool_in {x : Int32} (h : in1 x 0 1) : x = nI 0 ∨ x = nI 1 := by
  obtain ⟨k, -, k2, e⟩ := h
  have : k = 0 ∨ k = 1 := by omega
  rcases this with rfl | rfl
  · exact Or.inl e
  · exact Or.inr e
section
variable {l : Launch} {G : Gc}
theorem lp_tc {wn wo t ot i : Nat} {z : Nat → Int32} {h0 : AH} {Q : Po} (hne : wo ≠ wn) (o8 : own z i ≤ 8) (hkn : ∀ j, j < own z i → knw z i j ≤ 8) (hQ : ∀ h', ShT h' wn i t → TlG h' t z i (own z i) (own z i) → Fr wn 16 h0 h' → Lt wn i h0 h' → Q (.inl none) h') :
    ∀ (d j : Nat) (h : AH) (v3 v4 : Option Value), j + d = own z i → WF h → ShT h wn i t → TlG h t z i j j → ShT h wo i ot → TlG h ot z i (own z i) (own z i) → Fr wn (2 * j) h0 h → Lt wn i h0 h → AWp l G M_Tl_copyFrom 79 [some (.ref t), some (.ref ot), some (.int (nI j)), v3, v4] [] h Q := by
  intro d
  induction d with
  | zero =>
    intro j h v3 v4 e hw sh tl so to fr lt
    have ej : j = own z i := by omega
    subst ej
    have t5 := sh.1.1
    have o5 := so.1.1
    have osz := to.1.2.2
    ((obtain ⟨W9, hW9, hgo9⟩ := wp_ex (T_Tl_copyFrom l G) [79] _; refine hgo9 200 _ _ _ _ ?_; simp -implicitDefEqProofs (disch := omega) only [hW9, inl, gate, Xq, tz_const, tz_iload, tz_lload, tz_dload, tz_aload, tz_istore, tz_astore, tz_lstore, tz_dstore, tz_iinc, tz_i1, tz_i2, tz_i2z, tz_l2, tz_l2z, tz_i2l, tz_l2i, tz_lcmp, tz_i2d, tz_d2, tz_dcmp, tz_dup, tz_dup2, tz_pop, tz_if, tz_icmp, tz_null, tz_goto, tz_sw, tz_getf, tz_puti, tz_putz, tz_putr, tz_putl, tz_iaload, tz_baload, tz_laload, tz_aaload, tz_iastore, tz_bastore, tz_lastore, tz_aastore, tz_alen, tz_new, tz_newa, tz_oinit, tz_iret, tz_zret, tz_lret, tz_dret, tz_aret, tz_vret, tz_throw, tz_callS, tz_callV, tz_callI, tz_callR, tz_pureS, tz_pureV, tz_callVH, lg, lset, lkill, lst1, lst2, entL, isRf, is1, vl, va_rf_none, va_rf_some, isRf_rf, is1_rf, i0, i1, bI_eq0, bI_eq1, nm_em, nI_eqP, nI_leP, nI_ltP, nN_e1, nN_e2, nN_l1, nN_l2, nN_l3, nN_l4, nI_add, pk_mul, vp_inN, nI_cl, n01, n10, P_i, P_ii, P_iii, f_Mo_at, f_Mo_map, f_Mo_contact, f_Mo_within, f_Mo_isPort, f_Hp_endpoint, f_Hp_nodeOf, f_Hp_portOf, f_Ma_max, f_Ma_min, f_Hp_isSetting, popN, rok, a1, noX, swc, mL, if_true, if_false, ↓reduceIte, cond_true, cond_false, true_and, and_true, List.length_cons, List.length_nil, List.nil_append, List.cons_append, List.append_nil, Option.toList, Nat.reduceEqDiff, Bool.false_eq_true, reduceCtorEq, Nat.reduceAdd, Nat.reduceLT, Nat.reduceLeDiff, Nat.reduceSub, List.replicate, Nat.zero_add, Nat.lt_add_one, Nat.le_refl, Nat.zero_le, Nat.succ_ne_zero, not_false_eq_true, not_true_eq_false, false_implies, true_implies, forall_const, imp_self, true_or, or_true, eq_self, sI_zw, zw_zw, hI_zw, tg_zw, ln_zw, hR_zw, hL_zw, hN_zw, hM_zw, upd_s, upd_u, upd_ne, Classical.not_not, k_Tl_copyFrom, t5, o5, osz]; try clear hgo9 hW9); try (obtain ⟨W9, hW9, hgo9⟩ := wp_ex (T_Tl_copyFrom l G) [79] _; refine hgo9 200 _ _ _ _ ?_; simp -implicitDefEqProofs (disch := omega) only [hW9, inl, gate, Xq, tz_const, tz_iload, tz_lload, tz_dload, tz_aload, tz_istore, tz_astore, tz_lstore, tz_dstore, tz_iinc, tz_i1, tz_i2, tz_i2z, tz_l2, tz_l2z, tz_i2l, tz_l2i, tz_lcmp, tz_i2d, tz_d2, tz_dcmp, tz_dup, tz_dup2, tz_pop, tz_if, tz_icmp, tz_null, tz_goto, tz_sw, tz_getf, tz_puti, tz_putz, tz_putr, tz_putl, tz_iaload, tz_baload, tz_laload, tz_aaload, tz_iastore, tz_bastore, tz_lastore, tz_aastore, tz_alen, tz_new, tz_newa, tz_oinit, tz_iret, tz_zret, tz_lret, tz_dret, tz_aret, tz_vret, tz_throw, tz_callS, tz_callV, tz_callI, tz_callR, tz_pureS, tz_pureV, tz_callVH, lg, lset, lkill, lst1, lst2, entL, isRf, is1, vl, va_rf_none, va_rf_some, isRf_rf, is1_rf, i0, i1, bI_eq0, bI_eq1, nm_em, nI_eqP, nI_leP, nI_ltP, nN_e1, nN_e2, nN_l1, nN_l2, nN_l3, nN_l4, nI_add, pk_mul, vp_inN, nI_cl, n01, n10, P_i, P_ii, P_iii, f_Mo_at, f_Mo_map, f_Mo_contact, f_Mo_within, f_Mo_isPort, f_Hp_endpoint, f_Hp_nodeOf, f_Hp_portOf, f_Ma_max, f_Ma_min, f_Hp_isSetting, popN, rok, a1, noX, swc, mL, if_true, if_false, ↓reduceIte, cond_true, cond_false, true_and, and_true, List.length_cons, List.length_nil, List.nil_append, List.cons_append, List.append_nil, Option.toList, Nat.reduceEqDiff, Bool.false_eq_true, reduceCtorEq, Nat.reduceAdd, Nat.reduceLT, Nat.reduceLeDiff, Nat.reduceSub, List.replicate, Nat.zero_add, Nat.lt_add_one, Nat.le_refl, Nat.zero_le, Nat.succ_ne_zero, not_false_eq_true, not_true_eq_false, false_implies, true_implies, forall_const, imp_self, true_or, or_true, eq_self, sI_zw, zw_zw, hI_zw, tg_zw, ln_zw, hR_zw, hL_zw, hN_zw, hM_zw, upd_s, upd_u, upd_ne, Classical.not_not, k_Tl_copyFrom, t5, o5, osz]; try clear hgo9 hW9))
    exact hQ h sh tl (fr.mono (by omega)) lt
  | succ d ih =>
    intro j h v3 v4 e hw sh tl so to fr lt
    have t5 := sh.1.1
    have o5 := so.1.1
    have osz := to.1.2.2
    have nj : ¬ own z i ≤ j := by omega
    obtain ⟨s1, s2⟩ := to.slot (show j < own z i by omega)
    have sm := so.2.2.2.1 j _ (by omega) s1
    have hP : P_Tl_mappingAt [.ref ot, .int (nI j)] h := so.1
    have hf : f_Tl_mappingAt [.ref ot, .int (nI j)] h = .ref (mpO h ot j) := by
      simp only [f_Tl_mappingAt, maF]
      rw [osz, if_pos ⟨by rw [nI_ltP (by omega) (by omega)]; omega, by rw [nI_leP (by omega) (by omega)]; omega, by rw [nI_leP (by omega) (by omega)]; omega⟩, nI_clamp (by omega), s1]
      rfl
    generalize mpO h ot j = m0 at *
    ((obtain ⟨W9, hW9, hgo9⟩ := wp_ex (T_Tl_copyFrom l G) [79] _; refine hgo9 200 _ _ _ _ ?_; simp -implicitDefEqProofs (disch := omega) only [hW9, inl, gate, Xq, tz_const, tz_iload, tz_lload, tz_dload, tz_aload, tz_istore, tz_astore, tz_lstore, tz_dstore, tz_iinc, tz_i1, tz_i2, tz_i2z, tz_l2, tz_l2z, tz_i2l, tz_l2i, tz_lcmp, tz_i2d, tz_d2, tz_dcmp, tz_dup, tz_dup2, tz_pop, tz_if, tz_icmp, tz_null, tz_goto, tz_sw, tz_getf, tz_puti, tz_putz, tz_putr, tz_putl, tz_iaload, tz_baload, tz_laload, tz_aaload, tz_iastore, tz_bastore, tz_lastore, tz_aastore, tz_alen, tz_new, tz_newa, tz_oinit, tz_iret, tz_zret, tz_lret, tz_dret, tz_aret, tz_vret, tz_throw, tz_callS, tz_callV, tz_callI, tz_callR, tz_pureS, tz_pureV, tz_callVH, lg, lset, lkill, lst1, lst2, entL, isRf, is1, vl, va_rf_none, va_rf_some, isRf_rf, is1_rf, i0, i1, bI_eq0, bI_eq1, nm_em, nI_eqP, nI_leP, nI_ltP, nN_e1, nN_e2, nN_l1, nN_l2, nN_l3, nN_l4, nI_add, pk_mul, vp_inN, nI_cl, n01, n10, P_i, P_ii, P_iii, f_Mo_at, f_Mo_map, f_Mo_contact, f_Mo_within, f_Mo_isPort, f_Hp_endpoint, f_Hp_nodeOf, f_Hp_portOf, f_Ma_max, f_Ma_min, f_Hp_isSetting, popN, rok, a1, noX, swc, mL, if_true, if_false, ↓reduceIte, cond_true, cond_false, true_and, and_true, List.length_cons, List.length_nil, List.nil_append, List.cons_append, List.append_nil, Option.toList, Nat.reduceEqDiff, Bool.false_eq_true, reduceCtorEq, Nat.reduceAdd, Nat.reduceLT, Nat.reduceLeDiff, Nat.reduceSub, List.replicate, Nat.zero_add, Nat.lt_add_one, Nat.le_refl, Nat.zero_le, Nat.succ_ne_zero, not_false_eq_true, not_true_eq_false, false_implies, true_implies, forall_const, imp_self, true_or, or_true, eq_self, sI_zw, zw_zw, hI_zw, tg_zw, ln_zw, hR_zw, hL_zw, hN_zw, hM_zw, upd_s, upd_u, upd_ne, Classical.not_not, k_Tl_copyFrom, t5, o5, osz, nj, hP, hf]; try clear hgo9 hW9); try (obtain ⟨W9, hW9, hgo9⟩ := wp_ex (T_Tl_copyFrom l G) [79] _; refine hgo9 200 _ _ _ _ ?_; simp -implicitDefEqProofs (disch := omega) only [hW9, inl, gate, Xq, tz_const, tz_iload, tz_lload, tz_dload, tz_aload, tz_istore, tz_astore, tz_lstore, tz_dstore, tz_iinc, tz_i1, tz_i2, tz_i2z, tz_l2, tz_l2z, tz_i2l, tz_l2i, tz_lcmp, tz_i2d, tz_d2, tz_dcmp, tz_dup, tz_dup2, tz_pop, tz_if, tz_icmp, tz_null, tz_goto, tz_sw, tz_getf, tz_puti, tz_putz, tz_putr, tz_putl, tz_iaload, tz_baload, tz_laload, tz_aaload, tz_iastore, tz_bastore, tz_lastore, tz_aastore, tz_alen, tz_new, tz_newa, tz_oinit, tz_iret, tz_zret, tz_lret, tz_dret, tz_aret, tz_vret, tz_throw, tz_callS, tz_callV, tz_callI, tz_callR, tz_pureS, tz_pureV, tz_callVH, lg, lset, lkill, lst1, lst2, entL, isRf, is1, vl, va_rf_none, va_rf_some, isRf_rf, is1_rf, i0, i1, bI_eq0, bI_eq1, nm_em, nI_eqP, nI_leP, nI_ltP, nN_e1, nN_e2, nN_l1, nN_l2, nN_l3, nN_l4, nI_add, pk_mul, vp_inN, nI_cl, n01, n10, P_i, P_ii, P_iii, f_Mo_at, f_Mo_map, f_Mo_contact, f_Mo_within, f_Mo_isPort, f_Hp_endpoint, f_Hp_nodeOf, f_Hp_portOf, f_Ma_max, f_Ma_min, f_Hp_isSetting, popN, rok, a1, noX, swc, mL, if_true, if_false, ↓reduceIte, cond_true, cond_false, true_and, and_true, List.length_cons, List.length_nil, List.nil_append, List.cons_append, List.append_nil, Option.toList, Nat.reduceEqDiff, Bool.false_eq_true, reduceCtorEq, Nat.reduceAdd, Nat.reduceLT, Nat.reduceLeDiff, Nat.reduceSub, List.replicate, Nat.zero_add, Nat.lt_add_one, Nat.le_refl, Nat.zero_le, Nat.succ_ne_zero, not_false_eq_true, not_true_eq_false, false_implies, true_implies, forall_const, imp_self, true_or, or_true, eq_self, sI_zw, zw_zw, hI_zw, tg_zw, ln_zw, hR_zw, hL_zw, hN_zw, hM_zw, upd_s, upd_u, upd_ne, Classical.not_not, k_Tl_copyFrom, t5, o5, osz, nj, hP, hf]; try clear hgo9 hW9))
    refine c_Tl_nextMapping wn i t j h _ hw sh tl.1.2.2 (by omega) (fun h1 m nx => ?_)
    simp only [aft]
    have sh1 := nx.shT hw sh (by omega)
    have eM := nx.eM
    have lt1 := nx.lt sh
    obtain ⟨f, ⟨x1, x2, x3⟩, ⟨y1, y2⟩, o, smn, ne⟩ := nx
    have hw1 : WF h1 := f.2.2.2.2
    have l0 : m0 < hN h := hw.lt (by rw [sm.1]; decide)
    have lD : cC h m0 < hN h := hw.lt (by rw [sm.2.2.2.1]; decide)
    have e0 := f.oth hne l0 (rt_gh sm.2.1)
    have eD := f.oth hne lD (rt_gh sm.2.2.2.2.2)
    have m00 : tg h1 m0 = 0 := e0.tg.trans sm.1
    have cc0 : cC h1 m0 = cC h m0 := cC_same e0
    have nm : m0 ≠ m := by
      intro q
      have w1 := e0.gh.trans sm.2.1
      rw [q, smn.2.1] at w1
      cases w1
      exact hne rfl
    have nD : cC h1 m0 ≠ cC h1 m := by
      intro q
      have w1 := eD.gh.trans sm.2.2.2.2.2
      rw [← cc0, q, smn.2.2.2.2.2] at w1
      cases w1
      exact hne rfl
    have t51 := sh1.1.1
    have mm0 := smn.1
    (obtain ⟨W9, hW9, hgo9⟩ := wp_ex (T_Tl_copyFrom l G) [79] _; refine hgo9 200 _ _ _ _ ?_; simp -implicitDefEqProofs (disch := omega) only [hW9, inl, gate, Xq, tz_const, tz_iload, tz_lload, tz_dload, tz_aload, tz_istore, tz_astore, tz_lstore, tz_dstore, tz_iinc, tz_i1, tz_i2, tz_i2z, tz_l2, tz_l2z, tz_i2l, tz_l2i, tz_lcmp, tz_i2d, tz_d2, tz_dcmp, tz_dup, tz_dup2, tz_pop, tz_if, tz_icmp, tz_null, tz_goto, tz_sw, tz_getf, tz_puti, tz_putz, tz_putr, tz_putl, tz_iaload, tz_baload, tz_laload, tz_aaload, tz_iastore, tz_bastore, tz_lastore, tz_aastore, tz_alen, tz_new, tz_newa, tz_oinit, tz_iret, tz_zret, tz_lret, tz_dret, tz_aret, tz_vret, tz_throw, tz_callS, tz_callV, tz_callI, tz_callR, tz_pureS, tz_pureV, tz_callVH, lg, lset, lkill, lst1, lst2, entL, isRf, is1, vl, va_rf_none, va_rf_some, isRf_rf, is1_rf, i0, i1, bI_eq0, bI_eq1, nm_em, nI_eqP, nI_leP, nI_ltP, nN_e1, nN_e2, nN_l1, nN_l2, nN_l3, nN_l4, nI_add, pk_mul, vp_inN, nI_cl, n01, n10, P_i, P_ii, P_iii, f_Mo_at, f_Mo_map, f_Mo_contact, f_Mo_within, f_Mo_isPort, f_Hp_endpoint, f_Hp_nodeOf, f_Hp_portOf, f_Ma_max, f_Ma_min, f_Hp_isSetting, popN, rok, a1, noX, swc, mL, if_true, if_false, ↓reduceIte, cond_true, cond_false, true_and, and_true, List.length_cons, List.length_nil, List.nil_append, List.cons_append, List.append_nil, Option.toList, Nat.reduceEqDiff, Bool.false_eq_true, reduceCtorEq, Nat.reduceAdd, Nat.reduceLT, Nat.reduceLeDiff, Nat.reduceSub, List.replicate, Nat.zero_add, Nat.lt_add_one, Nat.le_refl, Nat.zero_le, Nat.succ_ne_zero, not_false_eq_true, not_true_eq_false, false_implies, true_implies, forall_const, imp_self, true_or, or_true, eq_self, sI_zw, zw_zw, hI_zw, tg_zw, ln_zw, hR_zw, hL_zw, hN_zw, hM_zw, upd_s, upd_u, upd_ne, Classical.not_not, k_Tl_copyFrom, t51, m00, mm0]; try clear hgo9 hW9)
    refine c_Mp_copyFrom m m0 (cC h1 m) (cC h1 m0) h1 _ smn.1 smn.2.2.1 smn.2.2.2.1 smn.2.2.2.2.1 m00 (by rw [cc0, e0.2.2.1]; exact sm.2.2.1) (by rw [cc0, eD.tg]; exact sm.2.2.2.1) (by rw [cc0, eD.ln]; exact sm.2.2.2.2.1) nD nm ?_
    simp only [aft]
    have nC : cC h1 m ≠ m := ne_tg (by rw [smn.1, smn.2.2.2.1]; decide)
    generalize eg : upd (upd (upd (upd (upd (hI h1 m) 0 (hI h1 m0 0)) 1 (hI h1 m0 1)) 2 (hI h1 m0 2)) 3 (hI h1 m0 3)) 5 (hI h1 m0 5) = gm
    have tz2 : tg (zw (zw h1 m gm) (cC h1 m) (cp8 (hI h1 (cC h1 m0)) (hI h1 (cC h1 m)) 0)) t = 5 := t51
    (obtain ⟨W9, hW9, hgo9⟩ := wp_ex (T_Tl_copyFrom l G) [79] _; refine hgo9 200 _ _ _ _ ?_; simp -implicitDefEqProofs (disch := omega) only [hW9, inl, gate, Xq, tz_const, tz_iload, tz_lload, tz_dload, tz_aload, tz_istore, tz_astore, tz_lstore, tz_dstore, tz_iinc, tz_i1, tz_i2, tz_i2z, tz_l2, tz_l2z, tz_i2l, tz_l2i, tz_lcmp, tz_i2d, tz_d2, tz_dcmp, tz_dup, tz_dup2, tz_pop, tz_if, tz_icmp, tz_null, tz_goto, tz_sw, tz_getf, tz_puti, tz_putz, tz_putr, tz_putl, tz_iaload, tz_baload, tz_laload, tz_aaload, tz_iastore, tz_bastore, tz_lastore, tz_aastore, tz_alen, tz_new, tz_newa, tz_oinit, tz_iret, tz_zret, tz_lret, tz_dret, tz_aret, tz_vret, tz_throw, tz_callS, tz_callV, tz_callI, tz_callR, tz_pureS, tz_pureV, tz_callVH, lg, lset, lkill, lst1, lst2, entL, isRf, is1, vl, va_rf_none, va_rf_some, isRf_rf, is1_rf, i0, i1, bI_eq0, bI_eq1, nm_em, nI_eqP, nI_leP, nI_ltP, nN_e1, nN_e2, nN_l1, nN_l2, nN_l3, nN_l4, nI_add, pk_mul, vp_inN, nI_cl, n01, n10, P_i, P_ii, P_iii, f_Mo_at, f_Mo_map, f_Mo_contact, f_Mo_within, f_Mo_isPort, f_Hp_endpoint, f_Hp_nodeOf, f_Hp_portOf, f_Ma_max, f_Ma_min, f_Hp_isSetting, popN, rok, a1, noX, swc, mL, if_true, if_false, ↓reduceIte, cond_true, cond_false, true_and, and_true, List.length_cons, List.length_nil, List.nil_append, List.cons_append, List.append_nil, Option.toList, Nat.reduceEqDiff, Bool.false_eq_true, reduceCtorEq, Nat.reduceAdd, Nat.reduceLT, Nat.reduceLeDiff, Nat.reduceSub, List.replicate, Nat.zero_add, Nat.lt_add_one, Nat.le_refl, Nat.zero_le, Nat.succ_ne_zero, not_false_eq_true, not_true_eq_false, false_implies, true_implies, forall_const, imp_self, true_or, or_true, eq_self, sI_zw, zw_zw, hI_zw, tg_zw, ln_zw, hR_zw, hL_zw, hN_zw, hM_zw, upd_s, upd_u, upd_ne, Classical.not_not, k_Tl_copyFrom, tz2]; try clear hgo9 hW9)
    have sam : ∀ q, q ≠ m → q ≠ cC h1 m → same1 h1 (zw (zw h1 m gm) (cC h1 m) (cp8 (hI h1 (cC h1 m0)) (hI h1 (cC h1 m)) 0)) q := fun q q1 q2 => ⟨rfl, by rw [hI_zw_ne _ q2, hI_zw_ne _ q1], rfl, rfl⟩
    have fz : Fr wn 0 h1 (zw (zw h1 m gm) (cC h1 m) (cp8 (hI h1 (cC h1 m0)) (hI h1 (cC h1 m)) 0)) := Fr.ints hw1 rfl rfl rfl (fun q hq => ⟨(sam q (fun e => hq (by rw [e]; exact rt_gh smn.2.1)) (fun e => hq (by rw [e]; exact rt_gh smn.2.2.2.2.2))).2.1, rfl, rfl⟩)
    have lz : Lt wn i h1 (zw (zw h1 m gm) (cC h1 m) (cp8 (hI h1 (cC h1 m0)) (hI h1 (cC h1 m)) 0)) := fun q _ hq => sam q (fun e => hq (by rw [e]; exact ⟨6, [], smn.2.1, by omega⟩)) (fun e => hq (by rw [e]; exact ⟨7, [m], smn.2.2.2.2.2, by omega⟩))
    have nt : t ≠ m := ne_tg (by rw [t51, mm0]; decide)
    have ntC : t ≠ cC h1 m := ne_tg (by rw [t51, smn.2.2.2.1]; decide)
    have st := sam t nt ntC
    have f2 := f.tr fz
    refine ih (j + 1) _ _ _ (by omega) fz.2.2.2.2 (sh1.congr rfl rfl) ⟨⟨⟨?_, ?_, ?_, ?_, ?_, ?_, ?_, ?_⟩, ?_, ?_⟩, fun j' hj' => ?_⟩ (so.frame hw f2 hne) (TlG.frame hw so to o8 hkn f2 hne) ((fr.tr f2).mono (by omega)) ((lt.tr fr lt1).tr (fr.tr f) lz)
    · rw [st.2.1, x1, upd_ne (by omega)]; exact tl.1.1.1
    · rw [st.2.1, x1, upd_ne (by omega)]; exact tl.1.1.2.1
    · rw [st.2.1, x1, upd_ne (by omega)]; exact tl.1.1.2.2.1
    · rw [st.2.1, x1, upd_ne (by omega)]; exact tl.1.1.2.2.2.1
    · rw [st.2.1, x1, upd_ne (by omega)]; exact tl.1.1.2.2.2.2.1
    · rw [st.2.1, x1, upd_ne (by omega)]; exact tl.1.1.2.2.2.2.2.1
    · rw [st.2.1, x1, upd_ne (by omega)]; exact tl.1.1.2.2.2.2.2.2.1
    · rw [st.2.1, x1, upd_ne (by omega)]; exact tl.1.1.2.2.2.2.2.2.2
    · rw [st.2.2.2, x3]; exact tl.1.2.1
    · rw [st.2.1, x1, upd_s]
    · by_cases q : j' = j
      · subst q
        refine ⟨m, ?_, ⟨⟨?_, ?_, ?_, ?_, ?_⟩, fun k hk => ?_⟩⟩
        · show hR h1 (mM h1 t) j' = _
          rw [eM]; exact y2
        · rw [hI_zw_ne _ nC.symm, hI_zw, ← eg]; simp (disch := omega) only [upd_ne, upd_s]; rw [e0.2.1]; exact s2.1.1
        · rw [hI_zw_ne _ nC.symm, hI_zw, ← eg]; simp (disch := omega) only [upd_ne, upd_s]; rw [e0.2.1]; exact s2.1.2.1
        · rw [hI_zw_ne _ nC.symm, hI_zw, ← eg]; simp (disch := omega) only [upd_ne, upd_s]; rw [e0.2.1]; exact s2.1.2.2.1
        · rw [hI_zw_ne _ nC.symm, hI_zw, ← eg]; simp (disch := omega) only [upd_ne, upd_s]; rw [e0.2.1]; exact s2.1.2.2.2.1
        · rw [hI_zw_ne _ nC.symm, hI_zw, ← eg]; simp (disch := omega) only [upd_ne, upd_s]; rw [e0.2.1]; exact s2.1.2.2.2.2
        · have k8 := hkn j' (by omega)
          show hI (zw (zw h1 m gm) (cC h1 m) _) (cC h1 m) k = _
          rw [hI_zw]
          unfold cp8
          rw [if_pos (by omega), cc0, eD.2.1]
          exact s2.2 k hk
      · obtain ⟨m', m1, m2⟩ := tl.2 j' (by omega)
        have g := sh.2.2.2.1 j' m' (by omega) m1
        have n1 : m' ≠ t := ne_tg (by rw [g.1, t5]; decide)
        have n2 : cC h m' ≠ t := ne_tg (by rw [g.2.2.2.1, t5]; decide)
        have n3 : m' ≠ mM h t := ne_tg (by rw [g.1, sh.1.2.2.1]; decide)
        have n4 : cC h m' ≠ mM h t := ne_tg (by rw [g.2.2.2.1, sh.1.2.2.1]; decide)
        have q1 := o m' (hw.lt (by rw [g.1]; decide)) n1 n3
        have q2 := o (cC h m') (hw.lt (by rw [g.2.2.2.1]; decide)) n2 n4
        have n5 : m' ≠ m := fun e => ne j' (by omega) q (by rw [m1, e])
        have n6 : cC h m' ≠ m := fun e => by
          have q9 := q2.tg
          rw [e, mm0, ← e, g.2.2.2.1] at q9
          exact absurd q9 (by decide)
        have n7 : m' ≠ cC h1 m := fun e => by
          have q9 := q1.tg
          rw [g.1, e, smn.2.2.2.1] at q9
          exact absurd q9 (by decide)
        have n8 : cC h m' ≠ cC h1 m := fun e => by
          have q9 := q2.gh
          rw [g.2.2.2.2.2, e, smn.2.2.2.2.2] at q9
          cases q9
          exact n5 rfl
        exact ⟨m', by
          show hR h1 (mM h1 t) j' = _
          rw [eM, y1 j' q]; exact m1, m2.keep (q1.tr (sam m' n5 n7)) (q2.tr (sam _ n6 n8)) (fun _ _ => rfl) (fun _ _ => rfl) (hkn j' (by omega))⟩
theorem c_Tl_copyFrom (wn wo t ot i : Nat) (z : Nat → Int32) (h : AH) (Q : Po) (hw : WF h) (hne : wo ≠ wn) (sh : ShT h wn i t) (so : ShT h wo i ot) (to : TlG h ot z i (own z i) (own z i)) (o8 : own z i ≤ 8) (hkn : ∀ j, j < own z i → knw z i j ≤ 8) (htr : TrI z i)
    (hQ : ∀ h', ShT h' wn i t → TlG h' t z i (own z i) (own z i) → Fr wn 16 h h' → Lt wn i h h' → Q (.inl none) h') : Call l G M_Tl_copyFrom [.ref t, .ref ot] h Q := by
  have t5 := sh.1.1
  have o5 := so.1.1
  have nt : ot ≠ t := by
    intro q
    have := so.2.1
    rw [q, sh.2.1] at this
    cases this
    exact hne rfl
  have zs : ∀ (h : AH) (f : Nat → Int32) (x : Int64), zw (sL h t 8 x) t f = sL (zw h t f) t 8 x := fun _ _ _ => rfl
  have ro : ∀ (h : AH) (f : Nat → Int32), hI (zw h t f) ot = hI h ot := fun h f => hI_zw_ne f nt
  have b5 : hI h ot 5 = nI 0 ∨ hI h ot 5 = nI 1 := by rw [to.1.1.2.2.2.2.2.1]; exact bool_in htr.2.2.2.2.2.1
  have b6 : hI h ot 6 = nI 0 ∨ hI h ot 6 = nI 1 := by rw [to.1.1.2.2.2.2.2.2.1]; exact bool_in htr.2.2.2.2.2.2.1
  refine call_of rfl rfl (Nat.le_of_ble_eq_true rfl) ?_
  (obtain ⟨W9, hW9, hgo9⟩ := wp_ex (T_Tl_copyFrom l G) [32] _; refine hgo9 200 _ _ _ _ ?_; simp -implicitDefEqProofs (disch := omega) only [hW9, inl, gate, Xq, tz_const, tz_iload, tz_lload, tz_dload, tz_aload, tz_istore, tz_astore, tz_lstore, tz_dstore, tz_iinc, tz_i1, tz_i2, tz_i2z, tz_l2, tz_l2z, tz_i2l, tz_l2i, tz_lcmp, tz_i2d, tz_d2, tz_dcmp, tz_dup, tz_dup2, tz_pop, tz_if, tz_icmp, tz_null, tz_goto, tz_sw, tz_getf, tz_puti, tz_putz, tz_putr, tz_putl, tz_iaload, tz_baload, tz_laload, tz_aaload, tz_iastore, tz_bastore, tz_lastore, tz_aastore, tz_alen, tz_new, tz_newa, tz_oinit, tz_iret, tz_zret, tz_lret, tz_dret, tz_aret, tz_vret, tz_throw, tz_callS, tz_callV, tz_callI, tz_callR, tz_pureS, tz_pureV, tz_callVH, lg, lset, lkill, lst1, lst2, entL, isRf, is1, vl, va_rf_none, va_rf_some, isRf_rf, is1_rf, i0, i1, bI_eq0, bI_eq1, nm_em, nI_eqP, nI_leP, nI_ltP, nN_e1, nN_e2, nN_l1, nN_l2, nN_l3, nN_l4, nI_add, pk_mul, vp_inN, nI_cl, n01, n10, P_i, P_ii, P_iii, f_Mo_at, f_Mo_map, f_Mo_contact, f_Mo_within, f_Mo_isPort, f_Hp_endpoint, f_Hp_nodeOf, f_Hp_portOf, f_Ma_max, f_Ma_min, f_Hp_isSetting, popN, rok, a1, noX, swc, mL, if_true, if_false, ↓reduceIte, cond_true, cond_false, true_and, and_true, List.length_cons, List.length_nil, List.nil_append, List.cons_append, List.append_nil, Option.toList, Nat.reduceEqDiff, Bool.false_eq_true, reduceCtorEq, Nat.reduceAdd, Nat.reduceLT, Nat.reduceLeDiff, Nat.reduceSub, List.replicate, Nat.zero_add, Nat.lt_add_one, Nat.le_refl, Nat.zero_le, Nat.succ_ne_zero, not_false_eq_true, not_true_eq_false, false_implies, true_implies, forall_const, imp_self, true_or, or_true, eq_self, sI_zw, zw_zw, hI_zw, tg_zw, ln_zw, hR_zw, hL_zw, hN_zw, hM_zw, upd_s, upd_u, upd_ne, Classical.not_not, k_Tl_copyFrom, t5, o5, ro]; try clear hgo9 hW9)
  (obtain ⟨W9, hW9, hgo9⟩ := wp_ex (T_Tl_copyFrom l G) [56] _; refine hgo9 200 _ _ _ _ ?_; simp -implicitDefEqProofs (disch := omega) only [hW9, inl, gate, Xq, tz_const, tz_iload, tz_lload, tz_dload, tz_aload, tz_istore, tz_astore, tz_lstore, tz_dstore, tz_iinc, tz_i1, tz_i2, tz_i2z, tz_l2, tz_l2z, tz_i2l, tz_l2i, tz_lcmp, tz_i2d, tz_d2, tz_dcmp, tz_dup, tz_dup2, tz_pop, tz_if, tz_icmp, tz_null, tz_goto, tz_sw, tz_getf, tz_puti, tz_putz, tz_putr, tz_putl, tz_iaload, tz_baload, tz_laload, tz_aaload, tz_iastore, tz_bastore, tz_lastore, tz_aastore, tz_alen, tz_new, tz_newa, tz_oinit, tz_iret, tz_zret, tz_lret, tz_dret, tz_aret, tz_vret, tz_throw, tz_callS, tz_callV, tz_callI, tz_callR, tz_pureS, tz_pureV, tz_callVH, lg, lset, lkill, lst1, lst2, entL, isRf, is1, vl, va_rf_none, va_rf_some, isRf_rf, is1_rf, i0, i1, bI_eq0, bI_eq1, nm_em, nI_eqP, nI_leP, nI_ltP, nN_e1, nN_e2, nN_l1, nN_l2, nN_l3, nN_l4, nI_add, pk_mul, vp_inN, nI_cl, n01, n10, P_i, P_ii, P_iii, f_Mo_at, f_Mo_map, f_Mo_contact, f_Mo_within, f_Mo_isPort, f_Hp_endpoint, f_Hp_nodeOf, f_Hp_portOf, f_Ma_max, f_Ma_min, f_Hp_isSetting, popN, rok, a1, noX, swc, mL, if_true, if_false, ↓reduceIte, cond_true, cond_false, true_and, and_true, List.length_cons, List.length_nil, List.nil_append, List.cons_append, List.append_nil, Option.toList, Nat.reduceEqDiff, Bool.false_eq_true, reduceCtorEq, Nat.reduceAdd, Nat.reduceLT, Nat.reduceLeDiff, Nat.reduceSub, List.replicate, Nat.zero_add, Nat.lt_add_one, Nat.le_refl, Nat.zero_le, Nat.succ_ne_zero, not_false_eq_true, not_true_eq_false, false_implies, true_implies, forall_const, imp_self, true_or, or_true, eq_self, sI_zw, zw_zw, hI_zw, tg_zw, ln_zw, hR_zw, hL_zw, hN_zw, hM_zw, upd_s, upd_u, upd_ne, Classical.not_not, k_Tl_copyFrom, t5, o5, ro, b5, b6]; try clear hgo9 hW9)
  (obtain ⟨W9, hW9, hgo9⟩ := wp_ex (T_Tl_copyFrom l G) [79] _; refine hgo9 200 _ _ _ _ ?_; simp -implicitDefEqProofs (disch := omega) only [hW9, inl, gate, Xq, tz_const, tz_iload, tz_lload, tz_dload, tz_aload, tz_istore, tz_astore, tz_lstore, tz_dstore, tz_iinc, tz_i1, tz_i2, tz_i2z, tz_l2, tz_l2z, tz_i2l, tz_l2i, tz_lcmp, tz_i2d, tz_d2, tz_dcmp, tz_dup, tz_dup2, tz_pop, tz_if, tz_icmp, tz_null, tz_goto, tz_sw, tz_getf, tz_puti, tz_putz, tz_putr, tz_putl, tz_iaload, tz_baload, tz_laload, tz_aaload, tz_iastore, tz_bastore, tz_lastore, tz_aastore, tz_alen, tz_new, tz_newa, tz_oinit, tz_iret, tz_zret, tz_lret, tz_dret, tz_aret, tz_vret, tz_throw, tz_callS, tz_callV, tz_callI, tz_callR, tz_pureS, tz_pureV, tz_callVH, lg, lset, lkill, lst1, lst2, entL, isRf, is1, vl, va_rf_none, va_rf_some, isRf_rf, is1_rf, i0, i1, bI_eq0, bI_eq1, nm_em, nI_eqP, nI_leP, nI_ltP, nN_e1, nN_e2, nN_l1, nN_l2, nN_l3, nN_l4, nI_add, pk_mul, vp_inN, nI_cl, n01, n10, P_i, P_ii, P_iii, f_Mo_at, f_Mo_map, f_Mo_contact, f_Mo_within, f_Mo_isPort, f_Hp_endpoint, f_Hp_nodeOf, f_Hp_portOf, f_Ma_max, f_Ma_min, f_Hp_isSetting, popN, rok, a1, noX, swc, mL, if_true, if_false, ↓reduceIte, cond_true, cond_false, true_and, and_true, List.length_cons, List.length_nil, List.nil_append, List.cons_append, List.append_nil, Option.toList, Nat.reduceEqDiff, Bool.false_eq_true, reduceCtorEq, Nat.reduceAdd, Nat.reduceLT, Nat.reduceLeDiff, Nat.reduceSub, List.replicate, Nat.zero_add, Nat.lt_add_one, Nat.le_refl, Nat.zero_le, Nat.succ_ne_zero, not_false_eq_true, not_true_eq_false, false_implies, true_implies, forall_const, imp_self, true_or, or_true, eq_self, sI_zw, zw_zw, hI_zw, tg_zw, ln_zw, hR_zw, hL_zw, hN_zw, hM_zw, upd_s, upd_u, upd_ne, Classical.not_not, k_Tl_copyFrom, t5, o5, ro, tg_sL, hI_sL, hL_sL, zs]; try clear hgo9 hW9)
  generalize eg : upd (upd (upd (upd (upd (upd (upd (upd (upd (hI h t) 0 (hI h ot 0)) 1 (hI h ot 1)) 2 (hI h ot 2)) 3 (hI h ot 3)) 4 (hI h ot 4)) 5 (hI h ot 5)) 6 (hI h ot 6)) 7 (hI h ot 7)) 10 (nI 0) = ft
  have fz : Fr wn 0 h (sL (zw h t ft) t 8 (hL h ot 8)) := Fr.ints hw rfl rfl rfl (fun q hq => by
    have : q ≠ t := fun e => hq (by rw [e]; exact rt_gh sh.2.1)
    exact ⟨hI_zw_ne _ this, rfl, hL_sLo this⟩)
  have lz : Lt wn i h (sL (zw h t ft) t 8 (hL h ot 8)) := fun q _ hq => by
    have : q ≠ t := fun e => hq (by rw [e]; exact ⟨4, [], sh.2.1, by omega⟩)
    exact ⟨rfl, hI_zw_ne _ this, rfl, hL_sLo this⟩
  have iT : hI (sL (zw h t ft) t 8 (hL h ot 8)) t = ft := by rw [hI_sL, hI_zw]
  refine lp_tc hne o8 hkn hQ (own z i) 0 _ _ _ (by omega) fz.2.2.2.2 (sh.congr rfl rfl) ⟨⟨⟨?_, ?_, ?_, ?_, ?_, ?_, ?_, ?_⟩, ?_, ?_⟩, fun j hj => by omega⟩ (so.congr rfl rfl) (TlG.frame hw so to o8 hkn fz hne) fz lz
  · rw [iT, ← eg]; simp (disch := omega) only [upd_ne, upd_s]; exact to.1.1.1
  · rw [iT, ← eg]; simp (disch := omega) only [upd_ne, upd_s]; exact to.1.1.2.1
  · rw [iT, ← eg]; simp (disch := omega) only [upd_ne, upd_s]; exact to.1.1.2.2.1
  · rw [iT, ← eg]; simp (disch := omega) only [upd_ne, upd_s]; exact to.1.1.2.2.2.1
  · rw [iT, ← eg]; simp (disch := omega) only [upd_ne, upd_s]; exact to.1.1.2.2.2.2.1
  · rw [iT, ← eg]; simp (disch := omega) only [upd_ne, upd_s]; exact to.1.1.2.2.2.2.2.1
  · rw [iT, ← eg]; simp (disch := omega) only [upd_ne, upd_s]; exact to.1.1.2.2.2.2.2.2.1
  · rw [iT, ← eg]; simp (disch := omega) only [upd_ne, upd_s]; exact to.1.1.2.2.2.2.2.2.2
  · rw [hL_sL]; exact to.1.2.1
  · rw [iT, ← eg, upd_s]
end
