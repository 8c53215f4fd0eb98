/-! THE CLASS: new ones -/
def k_Nw_init (l : Launch) (G : Gc) (pc : Nat) : Tr :=
  if pc < 22 then
   if pc < 10 then
    if pc < 4 then
     if pc < 1 then
      if pc = 0 then tz_aload 1 0 else dead
     else
      if pc = 1 then tz_oinit 4 else dead
    else
     if pc < 5 then
      if pc = 4 then tz_aload 5 0 else dead
     else
      if pc < 7 then
       if pc = 5 then tz_const 7 (.int (nI 10)) else dead
      else
       if pc = 7 then tz_newa 10 11 else dead
   else
    if pc < 16 then
     if pc < 13 then
      if pc = 10 then tz_putr 13 1 0 else dead
     else
      if pc < 14 then
       if pc = 13 then tz_aload 14 0 else dead
      else
       if pc = 14 then tz_const 16 (.int (nI 6)) else dead
    else
     if pc < 18 then
      if pc = 16 then tz_newa 18 8 else dead
     else
      if pc < 21 then
       if pc = 18 then tz_putr 21 1 1 else dead
      else
       if pc = 21 then tz_aload 22 0 else dead
  else
   if pc < 32 then
    if pc < 27 then
     if pc < 23 then
      if pc = 22 then tz_const 23 (.int (nI 0)) else dead
     else
      if pc < 26 then
       if pc = 23 then tz_puti 26 1 2 else dead
      else
       if pc = 26 then tz_aload 27 0 else dead
    else
     if pc < 28 then
      if pc = 27 then tz_const 28 (.int (nI 0)) else dead
     else
      if pc < 31 then
       if pc = 28 then tz_puti 31 1 3 else dead
      else
       if pc = 31 then tz_aload 32 0 else dead
   else
    if pc < 37 then
     if pc < 33 then
      if pc = 32 then tz_const 33 (.int (nI 0)) else dead
     else
      if pc < 36 then
       if pc = 33 then tz_puti 36 1 4 else dead
      else
       if pc = 36 then tz_aload 37 0 else dead
    else
     if pc < 38 then
      if pc = 37 then tz_const 38 (.int (nI 0)) else dead
     else
      if pc < 41 then
       if pc = 38 then tz_puti 41 1 5 else dead
      else
       if pc = 41 then tz_vret else dead
set_option maxRecDepth 100000 in
theorem T_Nw_init (l : Launch) (G : Gc) : TabOK l G M_Nw_init (k_Nw_init l G) := by
  intro pc
  unfold k_Nw_init
  exact
   (sd_br
    (sd_br
     (sd_br
      (sd_br
       (sd_lf (sd_aload_n (k := 0) (by decide +kernel : decode prog_3_method_1_code 0 = .ok (.aload_n 0, 1))))
       (sd_lf (sd_oinit (by decide +kernel : decode prog_3_method_1_code 1 = .ok (.invokespecial 3, 3)) (gm 101 (by decide +kernel) rfl) (gm 94 (by decide +kernel) rfl) ow_obj (by decide +kernel) (by decide +kernel))))
      (sd_br
       (sd_lf (sd_aload_n (k := 0) (by decide +kernel : decode prog_3_method_1_code 4 = .ok (.aload_n 0, 1))))
       (sd_br
        (sd_lf (sd_bipush (by decide +kernel : decode prog_3_method_1_code 5 = .ok (.bipush 10, 2)) (by decide +kernel)))
        (sd_lf (sd_anew (ci := 3) (q := (RX3, TX3, 5)) (by decide +kernel : decode prog_3_method_1_code 7 = .ok (.anewarray 9, 3)) rfl rfl rfl (gm 102 (by decide +kernel) rfl) (List.mem_of_getElem? (i := 31) (by decide +kernel)))))))
     (sd_br
      (sd_br
       (sd_lf (sd_putr (q := (RX1, TX1, 6)) (by decide +kernel : decode prog_3_method_1_code 10 = .ok (.putfield 11, 3)) rfl (by decide +kernel) (gm 104 (by decide +kernel) rfl) (Or.inr ⟨_, rfl⟩) rfl (Or.inr ⟨rfl, rfl, rfl⟩)))
       (sd_br
        (sd_lf (sd_aload_n (k := 0) (by decide +kernel : decode prog_3_method_1_code 13 = .ok (.aload_n 0, 1))))
        (sd_lf (sd_bipush (by decide +kernel : decode prog_3_method_1_code 14 = .ok (.bipush 6, 2)) (by decide +kernel)))))
      (sd_br
       (sd_lf (sd_newa (ty := .int) (by decide +kernel : decode prog_3_method_1_code 16 = .ok (.newarray .int, 2)) rfl rfl (fun _ _ z => z) rfl (by decide +kernel) (gm 128 (by decide +kernel) rfl)))
       (sd_br
        (sd_lf (sd_putr (q := (RX1, TX1, 6)) (by decide +kernel : decode prog_3_method_1_code 18 = .ok (.putfield 17, 3)) rfl (by decide +kernel) (gm 105 (by decide +kernel) rfl) (Or.inr ⟨_, rfl⟩) rfl (Or.inr ⟨rfl, rfl, rfl⟩)))
        (sd_lf (sd_aload_n (k := 0) (by decide +kernel : decode prog_3_method_1_code 21 = .ok (.aload_n 0, 1))))))))
    (sd_br
     (sd_br
      (sd_br
       (sd_lf (sd_iconst (by decide +kernel : decode prog_3_method_1_code 22 = .ok (.iconst 0, 1)) (by decide +kernel)))
       (sd_br
        (sd_lf (sd_puti (q := (RX1, TX1, 6)) (by decide +kernel : decode prog_3_method_1_code 23 = .ok (.putfield 21, 3)) rfl (by decide +kernel) (gm 106 (by decide +kernel) rfl) rfl rfl (Or.inl rfl)))
        (sd_lf (sd_aload_n (k := 0) (by decide +kernel : decode prog_3_method_1_code 26 = .ok (.aload_n 0, 1))))))
      (sd_br
       (sd_lf (sd_iconst (by decide +kernel : decode prog_3_method_1_code 27 = .ok (.iconst 0, 1)) (by decide +kernel)))
       (sd_br
        (sd_lf (sd_puti (q := (RX1, TX1, 6)) (by decide +kernel : decode prog_3_method_1_code 28 = .ok (.putfield 25, 3)) rfl (by decide +kernel) (gm 109 (by decide +kernel) rfl) rfl rfl (Or.inl rfl)))
        (sd_lf (sd_aload_n (k := 0) (by decide +kernel : decode prog_3_method_1_code 31 = .ok (.aload_n 0, 1)))))))
     (sd_br
      (sd_br
       (sd_lf (sd_iconst (by decide +kernel : decode prog_3_method_1_code 32 = .ok (.iconst 0, 1)) (by decide +kernel)))
       (sd_br
        (sd_lf (sd_puti (q := (RX1, TX1, 6)) (by decide +kernel : decode prog_3_method_1_code 33 = .ok (.putfield 28, 3)) rfl (by decide +kernel) (gm 111 (by decide +kernel) rfl) rfl rfl (Or.inl rfl)))
        (sd_lf (sd_aload_n (k := 0) (by decide +kernel : decode prog_3_method_1_code 36 = .ok (.aload_n 0, 1))))))
      (sd_br
       (sd_lf (sd_iconst (by decide +kernel : decode prog_3_method_1_code 37 = .ok (.iconst 0, 1)) (by decide +kernel)))
       (sd_br
        (sd_lf (sd_puti (q := (RX1, TX1, 6)) (by decide +kernel : decode prog_3_method_1_code 38 = .ok (.putfield 31, 3)) rfl (by decide +kernel) (gm 113 (by decide +kernel) rfl) rfl rfl (Or.inl rfl)))
        (sd_lf (sd_vret (by decide +kernel : decode prog_3_method_1_code 41 = .ok (.return_, 1)) rfl)))))))
def k_Rd_init (l : Launch) (G : Gc) (pc : Nat) : Tr :=
  if pc < 19 then
   if pc < 9 then
    if pc < 4 then
     if pc < 1 then
      if pc = 0 then tz_aload 1 0 else dead
     else
      if pc = 1 then tz_oinit 4 else dead
    else
     if pc < 5 then
      if pc = 4 then tz_aload 5 0 else dead
     else
      if pc < 8 then
       if pc = 5 then tz_new 8 1 6 else dead
      else
       if pc = 8 then tz_dup 9 else dead
   else
    if pc < 15 then
     if pc < 12 then
      if pc = 9 then tz_callI l G 12 M_Nw_init 0 1 else dead
     else
      if pc = 12 then tz_putr 15 2 0 else dead
    else
     if pc < 16 then
      if pc = 15 then tz_aload 16 0 else dead
     else
      if pc < 17 then
       if pc = 16 then tz_const 17 (.int (nI 3)) else dead
      else
       if pc = 17 then tz_newa 19 8 else dead
  else
   if pc < 28 then
    if pc < 23 then
     if pc < 22 then
      if pc = 19 then tz_putr 22 2 1 else dead
     else
      if pc = 22 then tz_aload 23 0 else dead
    else
     if pc < 24 then
      if pc = 23 then tz_const 24 (.int (nI 0)) else dead
     else
      if pc < 27 then
       if pc = 24 then tz_puti 27 2 2 else dead
      else
       if pc = 27 then tz_aload 28 0 else dead
   else
    if pc < 33 then
     if pc < 29 then
      if pc = 28 then tz_const 29 (.int (nI 0)) else dead
     else
      if pc < 32 then
       if pc = 29 then tz_puti 32 2 3 else dead
      else
       if pc = 32 then tz_aload 33 0 else dead
    else
     if pc < 34 then
      if pc = 33 then tz_const 34 (.int (nN)) else dead
     else
      if pc < 37 then
       if pc = 34 then tz_puti 37 2 4 else dead
      else
       if pc = 37 then tz_vret else dead
set_option maxRecDepth 100000 in
theorem T_Rd_init (l : Launch) (G : Gc) : TabOK l G M_Rd_init (k_Rd_init l G) := by
  intro pc
  unfold k_Rd_init
  exact
   (sd_br
    (sd_br
     (sd_br
      (sd_br
       (sd_lf (sd_aload_n (k := 0) (by decide +kernel : decode prog_4_method_1_code 0 = .ok (.aload_n 0, 1))))
       (sd_lf (sd_oinit (by decide +kernel : decode prog_4_method_1_code 1 = .ok (.invokespecial 3, 3)) (gm 134 (by decide +kernel) rfl) (gm 94 (by decide +kernel) rfl) ow_obj (by decide +kernel) (by decide +kernel))))
      (sd_br
       (sd_lf (sd_aload_n (k := 0) (by decide +kernel : decode prog_4_method_1_code 4 = .ok (.aload_n 0, 1))))
       (sd_br
        (sd_lf (sd_new (q := (RX1, TX1, 6)) (by decide +kernel : decode prog_4_method_1_code 5 = .ok (.new 9, 3)) rfl (gm 135 (by decide +kernel) rfl)))
        (sd_lf (sd_dup (by decide +kernel : decode prog_4_method_1_code 8 = .ok (.dup, 1)))))))
     (sd_br
      (sd_br
       (sd_lf (sd_callIN (host := "HolePuncher") (by decide +kernel : decode prog_4_method_1_code 9 = .ok (.invokespecial 11, 3)) ok_Nw_init (List.mem_of_getElem? (i := 64) (by decide +kernel)) (gm 99 (by decide +kernel) rfl) rfl rfl (by decide +kernel) rfl rfl))
       (sd_lf (sd_putr (q := (RX2, TX2, 5)) (by decide +kernel : decode prog_4_method_1_code 12 = .ok (.putfield 12, 3)) rfl (by decide +kernel) (gm 137 (by decide +kernel) rfl) (Or.inl ⟨_, rfl⟩) rfl (Or.inr ⟨rfl, rfl, rfl⟩))))
      (sd_br
       (sd_lf (sd_aload_n (k := 0) (by decide +kernel : decode prog_4_method_1_code 15 = .ok (.aload_n 0, 1))))
       (sd_br
        (sd_lf (sd_iconst (by decide +kernel : decode prog_4_method_1_code 16 = .ok (.iconst 3, 1)) (by decide +kernel)))
        (sd_lf (sd_newa (ty := .int) (by decide +kernel : decode prog_4_method_1_code 17 = .ok (.newarray .int, 2)) rfl rfl (fun _ _ z => z) rfl (by decide +kernel) (gm 128 (by decide +kernel) rfl)))))))
    (sd_br
     (sd_br
      (sd_br
       (sd_lf (sd_putr (q := (RX2, TX2, 5)) (by decide +kernel : decode prog_4_method_1_code 19 = .ok (.putfield 18, 3)) rfl (by decide +kernel) (gm 139 (by decide +kernel) rfl) (Or.inr ⟨_, rfl⟩) rfl (Or.inr ⟨rfl, rfl, rfl⟩)))
       (sd_lf (sd_aload_n (k := 0) (by decide +kernel : decode prog_4_method_1_code 22 = .ok (.aload_n 0, 1)))))
      (sd_br
       (sd_lf (sd_iconst (by decide +kernel : decode prog_4_method_1_code 23 = .ok (.iconst 0, 1)) (by decide +kernel)))
       (sd_br
        (sd_lf (sd_puti (q := (RX2, TX2, 5)) (by decide +kernel : decode prog_4_method_1_code 24 = .ok (.putfield 22, 3)) rfl (by decide +kernel) (gm 140 (by decide +kernel) rfl) rfl rfl (Or.inl rfl)))
        (sd_lf (sd_aload_n (k := 0) (by decide +kernel : decode prog_4_method_1_code 27 = .ok (.aload_n 0, 1)))))))
     (sd_br
      (sd_br
       (sd_lf (sd_iconst (by decide +kernel : decode prog_4_method_1_code 28 = .ok (.iconst 0, 1)) (by decide +kernel)))
       (sd_br
        (sd_lf (sd_puti (q := (RX2, TX2, 5)) (by decide +kernel : decode prog_4_method_1_code 29 = .ok (.putfield 26, 3)) rfl (by decide +kernel) (gm 141 (by decide +kernel) rfl) rfl rfl (Or.inl rfl)))
        (sd_lf (sd_aload_n (k := 0) (by decide +kernel : decode prog_4_method_1_code 32 = .ok (.aload_n 0, 1))))))
      (sd_br
       (sd_lf (sd_iconst (by decide +kernel : decode prog_4_method_1_code 33 = .ok (.iconst (-1), 1)) (by decide +kernel)))
       (sd_br
        (sd_lf (sd_puti (q := (RX2, TX2, 5)) (by decide +kernel : decode prog_4_method_1_code 34 = .ok (.putfield 29, 3)) rfl (by decide +kernel) (gm 142 (by decide +kernel) rfl) rfl rfl (Or.inl rfl)))
        (sd_lf (sd_vret (by decide +kernel : decode prog_4_method_1_code 37 = .ok (.return_, 1)) rfl)))))))
def k_Hp_init (l : Launch) (G : Gc) (pc : Nat) : Tr :=
  if pc < 34 then
   if pc < 16 then
    if pc < 8 then
     if pc < 4 then
      if pc < 1 then
       if pc = 0 then tz_aload 1 0 else dead
      else
       if pc = 1 then tz_oinit 4 else dead
     else
      if pc < 5 then
       if pc = 4 then tz_aload 5 0 else dead
      else
       if pc = 5 then tz_new 8 1 6 else dead
    else
     if pc < 12 then
      if pc < 9 then
       if pc = 8 then tz_dup 9 else dead
      else
       if pc = 9 then tz_callI l G 12 M_Nw_init 0 1 else dead
     else
      if pc < 15 then
       if pc = 12 then tz_putr 15 6 0 else dead
      else
       if pc = 15 then tz_aload 16 0 else dead
   else
    if pc < 26 then
     if pc < 20 then
      if pc < 19 then
       if pc = 16 then tz_new 19 1 6 else dead
      else
       if pc = 19 then tz_dup 20 else dead
     else
      if pc < 23 then
       if pc = 20 then tz_callI l G 23 M_Nw_init 0 1 else dead
      else
       if pc = 23 then tz_putr 26 6 1 else dead
    else
     if pc < 30 then
      if pc < 27 then
       if pc = 26 then tz_aload 27 0 else dead
      else
       if pc = 27 then tz_new 30 1 6 else dead
     else
      if pc < 31 then
       if pc = 30 then tz_dup 31 else dead
      else
       if pc = 31 then tz_callI l G 34 M_Nw_init 0 1 else dead
  else
   if pc < 51 then
    if pc < 42 then
     if pc < 38 then
      if pc < 37 then
       if pc = 34 then tz_putr 37 6 2 else dead
      else
       if pc = 37 then tz_aload 38 0 else dead
     else
      if pc < 41 then
       if pc = 38 then tz_new 41 2 5 else dead
      else
       if pc = 41 then tz_dup 42 else dead
    else
     if pc < 48 then
      if pc < 45 then
       if pc = 42 then tz_callI l G 45 M_Rd_init 0 2 else dead
      else
       if pc = 45 then tz_putr 48 6 3 else dead
     else
      if pc < 49 then
       if pc = 48 then tz_aload 49 0 else dead
      else
       if pc = 49 then tz_const 51 (.int (nI 40)) else dead
   else
    if pc < 58 then
     if pc < 56 then
      if pc < 53 then
       if pc = 51 then tz_newa 53 8 else dead
      else
       if pc = 53 then tz_putr 56 6 4 else dead
     else
      if pc < 57 then
       if pc = 56 then tz_aload 57 0 else dead
      else
       if pc = 57 then tz_const 58 (.int (nI 0)) else dead
    else
     if pc < 62 then
      if pc < 61 then
       if pc = 58 then tz_puti 61 6 5 else dead
      else
       if pc = 61 then tz_aload 62 0 else dead
     else
      if pc < 63 then
       if pc = 62 then tz_const 63 (.int (nI 0)) else dead
      else
       if pc < 66 then
        if pc = 63 then tz_putz 66 6 6 else dead
       else
        if pc = 66 then tz_vret else dead
set_option maxRecDepth 100000 in
theorem T_Hp_init (l : Launch) (G : Gc) : TabOK l G M_Hp_init (k_Hp_init l G) := by
  intro pc
  unfold k_Hp_init
  exact
   (sd_br
    (sd_br
     (sd_br
      (sd_br
       (sd_br
        (sd_lf (sd_aload_n (k := 0) (by decide +kernel : decode prog_1_method_1_code 0 = .ok (.aload_n 0, 1))))
        (sd_lf (sd_oinit (by decide +kernel : decode prog_1_method_1_code 1 = .ok (.invokespecial 3, 3)) (gm 93 (by decide +kernel) rfl) (gm 94 (by decide +kernel) rfl) ow_obj (by decide +kernel) (by decide +kernel))))
       (sd_br
        (sd_lf (sd_aload_n (k := 0) (by decide +kernel : decode prog_1_method_1_code 4 = .ok (.aload_n 0, 1))))
        (sd_lf (sd_new (q := (RX1, TX1, 6)) (by decide +kernel : decode prog_1_method_1_code 5 = .ok (.new 9, 3)) rfl (gm 96 (by decide +kernel) rfl)))))
      (sd_br
       (sd_br
        (sd_lf (sd_dup (by decide +kernel : decode prog_1_method_1_code 8 = .ok (.dup, 1))))
        (sd_lf (sd_callIN (host := "HolePuncher") (by decide +kernel : decode prog_1_method_1_code 9 = .ok (.invokespecial 11, 3)) ok_Nw_init (List.mem_of_getElem? (i := 26) (by decide +kernel)) (gm 99 (by decide +kernel) rfl) rfl rfl (by decide +kernel) rfl rfl)))
       (sd_br
        (sd_lf (sd_putr (q := (RX6, TX6, 7)) (by decide +kernel : decode prog_1_method_1_code 12 = .ok (.putfield 12, 3)) rfl (by decide +kernel) (gm 154 (by decide +kernel) rfl) (Or.inl ⟨_, rfl⟩) rfl (Or.inr ⟨rfl, rfl, rfl⟩)))
        (sd_lf (sd_aload_n (k := 0) (by decide +kernel : decode prog_1_method_1_code 15 = .ok (.aload_n 0, 1)))))))
     (sd_br
      (sd_br
       (sd_br
        (sd_lf (sd_new (q := (RX1, TX1, 6)) (by decide +kernel : decode prog_1_method_1_code 16 = .ok (.new 9, 3)) rfl (gm 96 (by decide +kernel) rfl)))
        (sd_lf (sd_dup (by decide +kernel : decode prog_1_method_1_code 19 = .ok (.dup, 1)))))
       (sd_br
        (sd_lf (sd_callIN (host := "HolePuncher") (by decide +kernel : decode prog_1_method_1_code 20 = .ok (.invokespecial 11, 3)) ok_Nw_init (List.mem_of_getElem? (i := 26) (by decide +kernel)) (gm 99 (by decide +kernel) rfl) rfl rfl (by decide +kernel) rfl rfl))
        (sd_lf (sd_putr (q := (RX6, TX6, 7)) (by decide +kernel : decode prog_1_method_1_code 23 = .ok (.putfield 16, 3)) rfl (by decide +kernel) (gm 155 (by decide +kernel) rfl) (Or.inl ⟨_, rfl⟩) rfl (Or.inr ⟨rfl, rfl, rfl⟩)))))
      (sd_br
       (sd_br
        (sd_lf (sd_aload_n (k := 0) (by decide +kernel : decode prog_1_method_1_code 26 = .ok (.aload_n 0, 1))))
        (sd_lf (sd_new (q := (RX1, TX1, 6)) (by decide +kernel : decode prog_1_method_1_code 27 = .ok (.new 9, 3)) rfl (gm 96 (by decide +kernel) rfl))))
       (sd_br
        (sd_lf (sd_dup (by decide +kernel : decode prog_1_method_1_code 30 = .ok (.dup, 1))))
        (sd_lf (sd_callIN (host := "HolePuncher") (by decide +kernel : decode prog_1_method_1_code 31 = .ok (.invokespecial 11, 3)) ok_Nw_init (List.mem_of_getElem? (i := 26) (by decide +kernel)) (gm 99 (by decide +kernel) rfl) rfl rfl (by decide +kernel) rfl rfl))))))
    (sd_br
     (sd_br
      (sd_br
       (sd_br
        (sd_lf (sd_putr (q := (RX6, TX6, 7)) (by decide +kernel : decode prog_1_method_1_code 34 = .ok (.putfield 19, 3)) rfl (by decide +kernel) (gm 156 (by decide +kernel) rfl) (Or.inl ⟨_, rfl⟩) rfl (Or.inr ⟨rfl, rfl, rfl⟩)))
        (sd_lf (sd_aload_n (k := 0) (by decide +kernel : decode prog_1_method_1_code 37 = .ok (.aload_n 0, 1)))))
       (sd_br
        (sd_lf (sd_new (q := (RX2, TX2, 5)) (by decide +kernel : decode prog_1_method_1_code 38 = .ok (.new 22, 3)) rfl (gm 129 (by decide +kernel) rfl)))
        (sd_lf (sd_dup (by decide +kernel : decode prog_1_method_1_code 41 = .ok (.dup, 1))))))
      (sd_br
       (sd_br
        (sd_lf (sd_callIN (host := "HolePuncher") (by decide +kernel : decode prog_1_method_1_code 42 = .ok (.invokespecial 24, 3)) ok_Rd_init (List.mem_of_getElem? (i := 59) (by decide +kernel)) (gm 132 (by decide +kernel) rfl) rfl rfl (by decide +kernel) rfl rfl))
        (sd_lf (sd_putr (q := (RX6, TX6, 7)) (by decide +kernel : decode prog_1_method_1_code 45 = .ok (.putfield 25, 3)) rfl (by decide +kernel) (gm 157 (by decide +kernel) rfl) (Or.inl ⟨_, rfl⟩) rfl (Or.inr ⟨rfl, rfl, rfl⟩))))
       (sd_br
        (sd_lf (sd_aload_n (k := 0) (by decide +kernel : decode prog_1_method_1_code 48 = .ok (.aload_n 0, 1))))
        (sd_lf (sd_bipush (by decide +kernel : decode prog_1_method_1_code 49 = .ok (.bipush 40, 2)) (by decide +kernel))))))
     (sd_br
      (sd_br
       (sd_br
        (sd_lf (sd_newa (ty := .int) (by decide +kernel : decode prog_1_method_1_code 51 = .ok (.newarray .int, 2)) rfl rfl (fun _ _ z => z) rfl (by decide +kernel) (gm 128 (by decide +kernel) rfl)))
        (sd_lf (sd_putr (q := (RX6, TX6, 7)) (by decide +kernel : decode prog_1_method_1_code 53 = .ok (.putfield 29, 3)) rfl (by decide +kernel) (gm 158 (by decide +kernel) rfl) (Or.inr ⟨_, rfl⟩) rfl (Or.inr ⟨rfl, rfl, rfl⟩))))
       (sd_br
        (sd_lf (sd_aload_n (k := 0) (by decide +kernel : decode prog_1_method_1_code 56 = .ok (.aload_n 0, 1))))
        (sd_lf (sd_iconst (by decide +kernel : decode prog_1_method_1_code 57 = .ok (.iconst 0, 1)) (by decide +kernel)))))
      (sd_br
       (sd_br
        (sd_lf (sd_puti (q := (RX6, TX6, 7)) (by decide +kernel : decode prog_1_method_1_code 58 = .ok (.putfield 33, 3)) rfl (by decide +kernel) (gm 159 (by decide +kernel) rfl) rfl rfl (Or.inl rfl)))
        (sd_lf (sd_aload_n (k := 0) (by decide +kernel : decode prog_1_method_1_code 61 = .ok (.aload_n 0, 1)))))
       (sd_br
        (sd_lf (sd_iconst (by decide +kernel : decode prog_1_method_1_code 62 = .ok (.iconst 0, 1)) (by decide +kernel)))
        (sd_br
         (sd_lf (sd_putz (q := (RX6, TX6, 7)) (by decide +kernel : decode prog_1_method_1_code 63 = .ok (.putfield 37, 3)) rfl (by decide +kernel) (gm 160 (by decide +kernel) rfl) rfl rfl (Or.inl rfl)))
         (sd_lf (sd_vret (by decide +kernel : decode prog_1_method_1_code 66 = .ok (.return_, 1)) rfl))))))))
def NwNew (h h' : AH) (w : Nat) : Prop := hN h' = hN h + 2 ∧ hM h' = hM h + 16 ∧ (∀ b, b ≠ w → b ≠ hN h → b ≠ hN h + 1 → same1 h h' b) ∧ hT h' w = hT h w ∧ (hI h' w 2 = nI 0 ∧ hI h' w 3 = nI 0 ∧ hI h' w 4 = nI 0 ∧ hI h' w 5 = nI 0) ∧ (hR h' w 0 = some (hN h) ∧ tg h' (hN h) = 11 ∧ ln h' (hN h) = 10 ∧ gh h' (hN h) = [w, 1] ∧ ∀ j, hR h' (hN h) j = none) ∧ (hR h' w 1 = some (hN h + 1) ∧ tg h' (hN h + 1) = 8 ∧ ln h' (hN h + 1) = 6 ∧ gh h' (hN h + 1) = [w, 2] ∧ ∀ j, hI h' (hN h + 1) j = nI 0)
section
variable {l : Launch} {G : Gc}
theorem c_Nw_init (w : Nat) (h : AH) (Q : Po) (hw : w < hN h) (h1 : tg h w = 1) (hQ : ∀ h', NwNew h h' w → Q (.inl none) h') : Call l G M_Nw_init [.ref w] h Q := by
  refine call_of rfl rfl (Nat.le_of_ble_eq_true rfl) ?_
  (obtain ⟨W9, hW9, hgo9⟩ := wp_ex (T_Nw_init l G) [] _; refine hgo9 200 _ _ _ _ ?_; simp -implicitDefEqProofs (disch := first | omega | (simp only [hN_nw, hN_sR, hN_zw, hN_sL]; first | done | omega)) only [hW9, inl, gate, Xq, tz_const, tz_iload, tz_lload, tz_dload, tz_aload, tz_istore, tz_astore, tz_lstore, tz_dstore, tz_iinc, tz_i1, tz_i2, tz_i2z, tz_l2, tz_l2z, tz_i2l, tz_l2i, tz_lcmp, tz_i2d, tz_d2, tz_dcmp, tz_dup, tz_dup2, tz_pop, tz_if, tz_icmp, tz_null, tz_goto, tz_sw, tz_getf, tz_puti, tz_putz, tz_putr, tz_putl, tz_iaload, tz_baload, tz_laload, tz_aaload, tz_iastore, tz_bastore, tz_lastore, tz_aastore, tz_alen, tz_new, tz_newa, tz_oinit, tz_iret, tz_zret, tz_lret, tz_dret, tz_aret, tz_vret, tz_throw, tz_callS, tz_callV, tz_callI, tz_callR, tz_pureS, tz_pureV, tz_callVH, lg, lset, lkill, lst1, lst2, entL, isRf, is1, vl, va_rf_none, va_rf_some, isRf_rf, is1_rf, i0, i1, bI_eq0, bI_eq1, nm_em, nI_eqP, nI_leP, nI_ltP, nN_e1, nN_e2, nN_l1, nN_l2, nN_l3, nN_l4, nI_add, pk_mul, vp_inN, nI_cl, n01, n10, P_i, P_ii, P_iii, f_Mo_at, f_Mo_map, f_Mo_contact, f_Mo_within, f_Mo_isPort, f_Hp_endpoint, f_Hp_nodeOf, f_Hp_portOf, f_Ma_max, f_Ma_min, f_Hp_isSetting, popN, rok, a1, noX, swc, mL, if_true, if_false, ↓reduceIte, cond_true, cond_false, true_and, and_true, List.length_cons, List.length_nil, List.nil_append, List.cons_append, List.append_nil, Option.toList, Nat.reduceEqDiff, Bool.false_eq_true, reduceCtorEq, Nat.reduceAdd, Nat.reduceLT, Nat.reduceLeDiff, Nat.reduceSub, List.replicate, Nat.zero_add, Nat.lt_add_one, Nat.le_refl, Nat.zero_le, Nat.succ_ne_zero, not_false_eq_true, not_true_eq_false, false_implies, true_implies, forall_const, imp_self, true_or, or_true, eq_self, sI_zw, zw_zw, hI_zw, tg_zw, ln_zw, hR_zw, hL_zw, hN_zw, hM_zw, upd_s, upd_u, upd_ne, Classical.not_not, k_Nw_init, h1, tg_nwo, tg_sR, hN_nw, hN_sR]; try clear hgo9 hW9)
  refine ⟨[w, 1], [w, 2], hQ _ ?_⟩
  unfold NwNew
  refine ⟨?_, ?_, fun b hb h2 h3 => ⟨?_, ?_, ?_, ?_⟩, ?_, ⟨?_, ?_, ?_, ?_⟩, ⟨?_, ?_, ?_, ?_, fun j => ?_⟩, ⟨?_, ?_, ?_, ?_, fun j => ?_⟩⟩
  all_goals first
    | rfl
    | (simp (disch := first | omega | (simp only [hN_nw, hN_sR, hN_zw]; first | done | omega)) only [hN_nw, hN_sR, hM_nw, hM_sR, hN_zw, hM_zw, hT_zw, hR_zw, hL_zw, tg_zw, ln_zw, gh_zw, hI_zw, hI_zw_ne, upd_s, upd_ne, hT_sR, hT_nw, hI_sR, hI_nw, hR_sRo, hR_sRk, hR_sR, hR_nw, hL_sR, hL_nw, tg_sR, ln_sR, gh_sR, tg_nwo, ln_nwo, gh_nw, tg_nw', ln_nw', gh_nw', hI_nw', hR_nw']; done)
    | (show tg (nw (sR (nw h 11 10 [w, 1]) w 0 (some (hN h))) 8 6 [w, 2]) (hN h + 1) = 8; exact tg_nw' rfl)
    | (show ln (nw (sR (nw h 11 10 [w, 1]) w 0 (some (hN h))) 8 6 [w, 2]) (hN h + 1) = 6; exact ln_nw' rfl)
    | (show gh (nw (sR (nw h 11 10 [w, 1]) w 0 (some (hN h))) 8 6 [w, 2]) (hN h + 1) = [w, 2]; exact gh_nw' rfl)
    | (rw [hI_zw_ne _ (by omega)]; show hI (nw (sR (nw h 11 10 [w, 1]) w 0 (some (hN h))) 8 6 [w, 2]) (hN h + 1) j = nI 0; rw [hI_nw' (h := sR (nw h 11 10 [w, 1]) w 0 (some (hN h))) (b := hN h + 1) rfl]; rfl)
end
theorem NwNew.sh {h h' : AH} {w : Nat} (k : NwNew h h' w) (h1 : tg h w = 1) (g1 : gh h w = [w]) : ShN h' w ∧ ∀ z : Nat → Int32, (∀ q, q < 176 → z q = nI 0) → NwR h' w z := by
  obtain ⟨-, -, -, e, ⟨i2, i3, i4, i5⟩, ⟨a1, a2, a3, a4, a5⟩, ⟨b1, b2, b3, b4, b5⟩⟩ := k
  have eA : nA h' w = hN h := by unfold nA; rw [a1]; rfl
  have eL : lA h' w = hN h + 1 := by unfold lA; rw [b1]; rfl
  have sn : ShN h' w := by
    refine ⟨⟨?_, by rw [eA]; exact a1, by rw [eA]; exact a2, by rw [eA]; exact a3⟩, ?_, by rw [eA]; exact a4, ⟨by rw [eL]; exact b1, by rw [eL]; exact b2, by rw [eL]; exact b3, by rw [eL]; exact b4⟩, fun i n _ q => ?_⟩
    · unfold tg; rw [e]; exact h1
    · unfold gh; rw [e]; exact g1
    · rw [eA, a5] at q; cases q
  refine ⟨sn, fun z hz => ?_⟩
  have m0 : mny z = 0 := mny_nI (hz 1 (by omega)) (by omega)
  refine ⟨sn, ⟨by rw [m0]; exact i2, by rw [hz 0 (by omega)]; exact i3, by rw [hz 2 (by omega)]; exact i4, by rw [hz 3 (by omega)]; exact i5⟩, fun q q1 q2 => ?_, fun i hi => by rw [m0] at hi; omega⟩
  rw [eL, b5, hz _ (by omega)]
