/-! THE CLASS: new nodes -/
def k_No_init (l : Launch) (G : Gc) (pc : Nat) : Tr :=
  if pc < 15 then
   if pc < 6 then
    if pc < 4 then
     if pc < 1 then
      if pc = 0 then tz_aload 1 0 else dead
     else
      if pc = 1 then tz_oinit 4 else dead
    else
     if pc < 5 then
      if pc = 4 then tz_aload 5 0 else dead
     else
      if pc = 5 then tz_const 6 (.int (nI 1)) else dead
   else
    if pc < 10 then
     if pc < 9 then
      if pc = 6 then tz_putz 9 3 0 else dead
     else
      if pc = 9 then tz_aload 10 0 else dead
    else
     if pc < 11 then
      if pc = 10 then tz_const 11 (.int (nN)) else dead
     else
      if pc < 14 then
       if pc = 11 then tz_puti 14 3 1 else dead
      else
       if pc = 14 then tz_aload 15 0 else dead
  else
   if pc < 21 then
    if pc < 19 then
     if pc < 16 then
      if pc = 15 then tz_const 16 (.int (nN)) else dead
     else
      if pc = 16 then tz_puti 19 3 2 else dead
    else
     if pc < 20 then
      if pc = 19 then tz_aload 20 0 else dead
     else
      if pc = 20 then tz_const 21 (.int (nN)) else dead
   else
    if pc < 25 then
     if pc < 24 then
      if pc = 21 then tz_puti 24 3 3 else dead
     else
      if pc = 24 then tz_aload 25 0 else dead
    else
     if pc < 26 then
      if pc = 25 then tz_const 26 .null else dead
     else
      if pc < 29 then
       if pc = 26 then tz_putr 29 3 4 else dead
      else
       if pc = 29 then tz_vret else dead
set_option maxRecDepth 100000 in
theorem T_No_init (l : Launch) (G : Gc) : TabOK l G M_No_init (k_No_init l G) := by
  intro pc
  unfold k_No_init
  exact
   (sd_br
    (sd_br
     (sd_br
      (sd_br
       (sd_lf (sd_aload_n (k := 0) (by decide +kernel : decode prog_5_method_1_code 0 = .ok (.aload_n 0, 1))))
       (sd_lf (sd_oinit (by decide +kernel : decode prog_5_method_1_code 1 = .ok (.invokespecial 3, 3)) (gm 204 (by decide +kernel) rfl) (gm 94 (by decide +kernel) rfl) ow_obj (by decide +kernel) (by decide +kernel))))
      (sd_br
       (sd_lf (sd_aload_n (k := 0) (by decide +kernel : decode prog_5_method_1_code 4 = .ok (.aload_n 0, 1))))
       (sd_lf (sd_iconst (by decide +kernel : decode prog_5_method_1_code 5 = .ok (.iconst 1, 1)) (by decide +kernel)))))
     (sd_br
      (sd_br
       (sd_lf (sd_putz (q := (RX3, TX3, 5)) (by decide +kernel : decode prog_5_method_1_code 6 = .ok (.putfield 9, 3)) rfl (by decide +kernel) (gm 205 (by decide +kernel) rfl) rfl rfl (Or.inl rfl)))
       (sd_lf (sd_aload_n (k := 0) (by decide +kernel : decode prog_5_method_1_code 9 = .ok (.aload_n 0, 1)))))
      (sd_br
       (sd_lf (sd_iconst (by decide +kernel : decode prog_5_method_1_code 10 = .ok (.iconst (-1), 1)) (by decide +kernel)))
       (sd_br
        (sd_lf (sd_puti (q := (RX3, TX3, 5)) (by decide +kernel : decode prog_5_method_1_code 11 = .ok (.putfield 15, 3)) rfl (by decide +kernel) (gm 207 (by decide +kernel) rfl) rfl rfl (Or.inl rfl)))
        (sd_lf (sd_aload_n (k := 0) (by decide +kernel : decode prog_5_method_1_code 14 = .ok (.aload_n 0, 1))))))))
    (sd_br
     (sd_br
      (sd_br
       (sd_lf (sd_iconst (by decide +kernel : decode prog_5_method_1_code 15 = .ok (.iconst (-1), 1)) (by decide +kernel)))
       (sd_lf (sd_puti (q := (RX3, TX3, 5)) (by decide +kernel : decode prog_5_method_1_code 16 = .ok (.putfield 19, 3)) rfl (by decide +kernel) (gm 209 (by decide +kernel) rfl) rfl rfl (Or.inl rfl))))
      (sd_br
       (sd_lf (sd_aload_n (k := 0) (by decide +kernel : decode prog_5_method_1_code 19 = .ok (.aload_n 0, 1))))
       (sd_lf (sd_iconst (by decide +kernel : decode prog_5_method_1_code 20 = .ok (.iconst (-1), 1)) (by decide +kernel)))))
     (sd_br
      (sd_br
       (sd_lf (sd_puti (q := (RX3, TX3, 5)) (by decide +kernel : decode prog_5_method_1_code 21 = .ok (.putfield 22, 3)) rfl (by decide +kernel) (gm 212 (by decide +kernel) rfl) rfl rfl (Or.inl rfl)))
       (sd_lf (sd_aload_n (k := 0) (by decide +kernel : decode prog_5_method_1_code 24 = .ok (.aload_n 0, 1)))))
      (sd_br
       (sd_lf (sd_null (by decide +kernel : decode prog_5_method_1_code 25 = .ok (.aconst_null, 1))))
       (sd_br
        (sd_lf (sd_putr (q := (RX3, TX3, 5)) (by decide +kernel : decode prog_5_method_1_code 26 = .ok (.putfield 25, 3)) rfl (by decide +kernel) (gm 215 (by decide +kernel) rfl) (Or.inl ⟨_, rfl⟩) rfl (Or.inl rfl)))
        (sd_lf (sd_vret (by decide +kernel : decode prog_5_method_1_code 29 = .ok (.return_, 1)) rfl)))))))
def k_Tl_init (l : Launch) (G : Gc) (pc : Nat) : Tr :=
  if pc < 10 then
   if pc < 4 then
    if pc < 1 then
     if pc = 0 then tz_aload 1 0 else dead
    else
     if pc = 1 then tz_oinit 4 else dead
   else
    if pc < 5 then
     if pc = 4 then tz_aload 5 0 else dead
    else
     if pc < 7 then
      if pc = 5 then tz_const 7 (.int (nI 8)) else dead
     else
      if pc = 7 then tz_newa 10 10 else dead
  else
   if pc < 14 then
    if pc < 13 then
     if pc = 10 then tz_putr 13 5 9 else dead
    else
     if pc = 13 then tz_aload 14 0 else dead
   else
    if pc < 15 then
     if pc = 14 then tz_const 15 (.int (nI 0)) else dead
    else
     if pc < 18 then
      if pc = 15 then tz_puti 18 5 10 else dead
     else
      if pc = 18 then tz_vret else dead
set_option maxRecDepth 100000 in
theorem T_Tl_init (l : Launch) (G : Gc) : TabOK l G M_Tl_init (k_Tl_init l G) := by
  intro pc
  unfold k_Tl_init
  exact
   (sd_br
    (sd_br
     (sd_br
      (sd_lf (sd_aload_n (k := 0) (by decide +kernel : decode prog_7_method_1_code 0 = .ok (.aload_n 0, 1))))
      (sd_lf (sd_oinit (by decide +kernel : decode prog_7_method_1_code 1 = .ok (.invokespecial 3, 3)) (gm 245 (by decide +kernel) rfl) (gm 94 (by decide +kernel) rfl) ow_obj (by decide +kernel) (by decide +kernel))))
     (sd_br
      (sd_lf (sd_aload_n (k := 0) (by decide +kernel : decode prog_7_method_1_code 4 = .ok (.aload_n 0, 1))))
      (sd_br
       (sd_lf (sd_bipush (by decide +kernel : decode prog_7_method_1_code 5 = .ok (.bipush 8, 2)) (by decide +kernel)))
       (sd_lf (sd_anew (ci := 0) (q := (RX0, TX0, 6)) (by decide +kernel : decode prog_7_method_1_code 7 = .ok (.anewarray 9, 3)) rfl rfl rfl (gm 246 (by decide +kernel) rfl) (List.mem_of_getElem? (i := 175) (by decide +kernel)))))))
    (sd_br
     (sd_br
      (sd_lf (sd_putr (q := (RX5, TX5, 11)) (by decide +kernel : decode prog_7_method_1_code 10 = .ok (.putfield 11, 3)) rfl (by decide +kernel) (gm 260 (by decide +kernel) rfl) (Or.inr ⟨_, rfl⟩) rfl (Or.inr ⟨rfl, rfl, rfl⟩)))
      (sd_lf (sd_aload_n (k := 0) (by decide +kernel : decode prog_7_method_1_code 13 = .ok (.aload_n 0, 1)))))
     (sd_br
      (sd_lf (sd_iconst (by decide +kernel : decode prog_7_method_1_code 14 = .ok (.iconst 0, 1)) (by decide +kernel)))
      (sd_br
       (sd_lf (sd_puti (q := (RX5, TX5, 11)) (by decide +kernel : decode prog_7_method_1_code 15 = .ok (.putfield 17, 3)) rfl (by decide +kernel) (gm 261 (by decide +kernel) rfl) rfl rfl (Or.inl rfl)))
       (sd_lf (sd_vret (by decide +kernel : decode prog_7_method_1_code 18 = .ok (.return_, 1)) rfl))))))
def k_No_becomeHost (l : Launch) (G : Gc) (pc : Nat) : Tr :=
  if pc < 10 then
   if pc < 5 then
    if pc < 1 then
     if pc = 0 then tz_aload 1 0 else dead
    else
     if pc < 2 then
      if pc = 1 then tz_const 2 (.int (nI 1)) else dead
     else
      if pc = 2 then tz_putz 5 3 0 else dead
   else
    if pc < 6 then
     if pc = 5 then tz_aload 6 0 else dead
    else
     if pc < 7 then
      if pc = 6 then tz_iload 7 1 else dead
     else
      if pc = 7 then tz_puti 10 3 1 else dead
  else
   if pc < 15 then
    if pc < 11 then
     if pc = 10 then tz_aload 11 0 else dead
    else
     if pc < 12 then
      if pc = 11 then tz_const 12 (.int (nN)) else dead
     else
      if pc = 12 then tz_puti 15 3 2 else dead
   else
    if pc < 17 then
     if pc < 16 then
      if pc = 15 then tz_aload 16 0 else dead
     else
      if pc = 16 then tz_const 17 (.int (nN)) else dead
    else
     if pc < 20 then
      if pc = 17 then tz_puti 20 3 3 else dead
     else
      if pc = 20 then tz_vret else dead
set_option maxRecDepth 100000 in
theorem T_No_becomeHost (l : Launch) (G : Gc) : TabOK l G M_No_becomeHost (k_No_becomeHost l G) := by
  intro pc
  unfold k_No_becomeHost
  exact
   (sd_br
    (sd_br
     (sd_br
      (sd_lf (sd_aload_n (k := 0) (by decide +kernel : decode prog_5_method_3_code 0 = .ok (.aload_n 0, 1))))
      (sd_br
       (sd_lf (sd_iconst (by decide +kernel : decode prog_5_method_3_code 1 = .ok (.iconst 1, 1)) (by decide +kernel)))
       (sd_lf (sd_putz (q := (RX3, TX3, 5)) (by decide +kernel : decode prog_5_method_3_code 2 = .ok (.putfield 9, 3)) rfl (by decide +kernel) (gm 205 (by decide +kernel) rfl) rfl rfl (Or.inl rfl)))))
     (sd_br
      (sd_lf (sd_aload_n (k := 0) (by decide +kernel : decode prog_5_method_3_code 5 = .ok (.aload_n 0, 1))))
      (sd_br
       (sd_lf (sd_iload_n (k := 1) (by decide +kernel : decode prog_5_method_3_code 6 = .ok (.iload_n 1, 1))))
       (sd_lf (sd_puti (q := (RX3, TX3, 5)) (by decide +kernel : decode prog_5_method_3_code 7 = .ok (.putfield 15, 3)) rfl (by decide +kernel) (gm 207 (by decide +kernel) rfl) rfl rfl (Or.inl rfl))))))
    (sd_br
     (sd_br
      (sd_lf (sd_aload_n (k := 0) (by decide +kernel : decode prog_5_method_3_code 10 = .ok (.aload_n 0, 1))))
      (sd_br
       (sd_lf (sd_iconst (by decide +kernel : decode prog_5_method_3_code 11 = .ok (.iconst (-1), 1)) (by decide +kernel)))
       (sd_lf (sd_puti (q := (RX3, TX3, 5)) (by decide +kernel : decode prog_5_method_3_code 12 = .ok (.putfield 19, 3)) rfl (by decide +kernel) (gm 209 (by decide +kernel) rfl) rfl rfl (Or.inl rfl)))))
     (sd_br
      (sd_br
       (sd_lf (sd_aload_n (k := 0) (by decide +kernel : decode prog_5_method_3_code 15 = .ok (.aload_n 0, 1))))
       (sd_lf (sd_iconst (by decide +kernel : decode prog_5_method_3_code 16 = .ok (.iconst (-1), 1)) (by decide +kernel))))
      (sd_br
       (sd_lf (sd_puti (q := (RX3, TX3, 5)) (by decide +kernel : decode prog_5_method_3_code 17 = .ok (.putfield 22, 3)) rfl (by decide +kernel) (gm 212 (by decide +kernel) rfl) rfl rfl (Or.inl rfl)))
       (sd_lf (sd_vret (by decide +kernel : decode prog_5_method_3_code 20 = .ok (.return_, 1)) rfl))))))
def k_No_becomeTranslator (l : Launch) (G : Gc) (pc : Nat) : Tr :=
  if pc < 14 then
   if pc < 6 then
    if pc < 2 then
     if pc < 1 then
      if pc = 0 then tz_aload 1 0 else dead
     else
      if pc = 1 then tz_iload 2 1 else dead
    else
     if pc < 5 then
      if pc = 2 then tz_callV l G 5 M_No_becomeHost 1 3 else dead
     else
      if pc = 5 then tz_aload 6 0 else dead
   else
    if pc < 10 then
     if pc < 7 then
      if pc = 6 then tz_const 7 (.int (nI 0)) else dead
     else
      if pc = 7 then tz_putz 10 3 0 else dead
    else
     if pc < 11 then
      if pc = 10 then tz_aload 11 0 else dead
     else
      if pc = 11 then tz_getf 14 3 4 1 else dead
  else
   if pc < 22 then
    if pc < 18 then
     if pc < 17 then
      if pc = 14 then tz_null 17 28 else dead
     else
      if pc = 17 then tz_aload 18 0 else dead
    else
     if pc < 21 then
      if pc = 18 then tz_new 21 5 11 else dead
     else
      if pc = 21 then tz_dup 22 else dead
   else
    if pc < 28 then
     if pc < 25 then
      if pc = 22 then tz_callI l G 25 M_Tl_init 0 5 else dead
     else
      if pc = 25 then tz_putr 28 3 4 else dead
    else
     if pc < 29 then
      if pc = 28 then tz_aload 29 0 else dead
     else
      if pc < 32 then
       if pc = 29 then tz_getf 32 3 4 1 else dead
      else
       if pc = 32 then tz_aret else dead
set_option maxRecDepth 100000 in
theorem T_No_becomeTranslator (l : Launch) (G : Gc) : TabOK l G M_No_becomeTranslator (k_No_becomeTranslator l G) := by
  intro pc
  unfold k_No_becomeTranslator
  exact
   (sd_br
    (sd_br
     (sd_br
      (sd_br
       (sd_lf (sd_aload_n (k := 0) (by decide +kernel : decode prog_5_method_4_code 0 = .ok (.aload_n 0, 1))))
       (sd_lf (sd_iload_n (k := 1) (by decide +kernel : decode prog_5_method_4_code 1 = .ok (.iload_n 1, 1)))))
      (sd_br
       (sd_lf (sd_callV (q := (RX3, TX3, 5)) (by decide +kernel : decode prog_5_method_4_code 2 = .ok (.invokevirtual 29, 3)) ok_No_becomeHost (gm 232 (by decide +kernel) rfl) (gm 233 (by decide +kernel) rfl) (gm 234 (by decide +kernel) rfl) rfl rfl (by decide +kernel) rfl rfl))
       (sd_lf (sd_aload_n (k := 0) (by decide +kernel : decode prog_5_method_4_code 5 = .ok (.aload_n 0, 1))))))
     (sd_br
      (sd_br
       (sd_lf (sd_iconst (by decide +kernel : decode prog_5_method_4_code 6 = .ok (.iconst 0, 1)) (by decide +kernel)))
       (sd_lf (sd_putz (q := (RX3, TX3, 5)) (by decide +kernel : decode prog_5_method_4_code 7 = .ok (.putfield 9, 3)) rfl (by decide +kernel) (gm 205 (by decide +kernel) rfl) rfl rfl (Or.inl rfl))))
      (sd_br
       (sd_lf (sd_aload_n (k := 0) (by decide +kernel : decode prog_5_method_4_code 10 = .ok (.aload_n 0, 1))))
       (sd_lf (sd_getf (q := (RX3, TX3, 5)) (by decide +kernel : decode prog_5_method_4_code 11 = .ok (.getfield 25, 3)) rfl (by decide +kernel) (gm 215 (by decide +kernel) rfl))))))
    (sd_br
     (sd_br
      (sd_br
       (sd_lf (sd_ifnonnull (by decide +kernel : decode prog_5_method_4_code 14 = .ok (.ifnonnull 14, 3)) (by decide +kernel)))
       (sd_lf (sd_aload_n (k := 0) (by decide +kernel : decode prog_5_method_4_code 17 = .ok (.aload_n 0, 1)))))
      (sd_br
       (sd_lf (sd_new (q := (RX5, TX5, 11)) (by decide +kernel : decode prog_5_method_4_code 18 = .ok (.new 33, 3)) rfl (gm 240 (by decide +kernel) rfl)))
       (sd_lf (sd_dup (by decide +kernel : decode prog_5_method_4_code 21 = .ok (.dup, 1))))))
     (sd_br
      (sd_br
       (sd_lf (sd_callIN (host := "HolePuncher") (by decide +kernel : decode prog_5_method_4_code 22 = .ok (.invokespecial 35, 3)) ok_Tl_init (List.mem_of_getElem? (i := 170) (by decide +kernel)) (gm 243 (by decide +kernel) rfl) rfl rfl (by decide +kernel) rfl rfl))
       (sd_lf (sd_putr (q := (RX3, TX3, 5)) (by decide +kernel : decode prog_5_method_4_code 25 = .ok (.putfield 25, 3)) rfl (by decide +kernel) (gm 215 (by decide +kernel) rfl) (Or.inl ⟨_, rfl⟩) rfl (Or.inl rfl))))
      (sd_br
       (sd_lf (sd_aload_n (k := 0) (by decide +kernel : decode prog_5_method_4_code 28 = .ok (.aload_n 0, 1))))
       (sd_br
        (sd_lf (sd_getf (q := (RX3, TX3, 5)) (by decide +kernel : decode prog_5_method_4_code 29 = .ok (.getfield 25, 3)) rfl (by decide +kernel) (gm 215 (by decide +kernel) rfl)))
        (sd_lf (sd_aret (by decide +kernel : decode prog_5_method_4_code 32 = .ok (.areturn, 1)) rfl (Or.inl ⟨_, rfl⟩))))))))
def k_Nw_nextNode (l : Launch) (G : Gc) (pc : Nat) : Tr :=
  if pc < 37 then
   if pc < 19 then
    if pc < 8 then
     if pc < 4 then
      if pc < 1 then
       if pc = 0 then tz_aload 1 0 else dead
      else
       if pc = 1 then tz_getf 4 1 2 0 else dead
     else
      if pc < 7 then
       if pc = 4 then tz_if 7 19 (fun a => a < 0) else dead
      else
       if pc = 7 then tz_aload 8 0 else dead
    else
     if pc < 12 then
      if pc < 11 then
       if pc = 8 then tz_getf 11 1 2 0 else dead
      else
       if pc = 11 then tz_aload 12 0 else dead
     else
      if pc < 15 then
       if pc = 12 then tz_getf 15 1 0 1 else dead
      else
       if pc < 16 then
        if pc = 15 then tz_alen 16 else dead
       else
        if pc = 16 then tz_icmp 19 21 (fun a b => a < b) else dead
   else
    if pc < 26 then
     if pc < 21 then
      if pc < 20 then
       if pc = 19 then tz_const 20 .null else dead
      else
       if pc = 20 then tz_aret else dead
     else
      if pc < 22 then
       if pc = 21 then tz_aload 22 0 else dead
      else
       if pc < 25 then
        if pc = 22 then tz_getf 25 1 0 1 else dead
       else
        if pc = 25 then tz_aload 26 0 else dead
    else
     if pc < 30 then
      if pc < 29 then
       if pc = 26 then tz_getf 29 1 2 0 else dead
      else
       if pc = 29 then tz_aaload 30 else dead
     else
      if pc < 33 then
       if pc = 30 then tz_null 33 49 else dead
      else
       if pc < 34 then
        if pc = 33 then tz_aload 34 0 else dead
       else
        if pc = 34 then tz_getf 37 1 0 1 else dead
  else
   if pc < 55 then
    if pc < 48 then
     if pc < 41 then
      if pc < 38 then
       if pc = 37 then tz_aload 38 0 else dead
      else
       if pc = 38 then tz_getf 41 1 2 0 else dead
     else
      if pc < 44 then
       if pc = 41 then tz_new 44 3 5 else dead
      else
       if pc < 45 then
        if pc = 44 then tz_dup 45 else dead
       else
        if pc = 45 then tz_callI l G 48 M_No_init 0 3 else dead
    else
     if pc < 50 then
      if pc < 49 then
       if pc = 48 then tz_aastore 49 else dead
      else
       if pc = 49 then tz_aload 50 0 else dead
     else
      if pc < 51 then
       if pc = 50 then tz_dup 51 else dead
      else
       if pc < 54 then
        if pc = 51 then tz_getf 54 1 2 0 else dead
       else
        if pc = 54 then tz_const 55 (.int (nI 1)) else dead
   else
    if pc < 64 then
     if pc < 59 then
      if pc < 56 then
       if pc = 55 then tz_i2 56 (fun a b => a + b) else dead
      else
       if pc = 56 then tz_puti 59 1 2 else dead
     else
      if pc < 60 then
       if pc = 59 then tz_aload 60 0 else dead
      else
       if pc < 63 then
        if pc = 60 then tz_getf 63 1 0 1 else dead
       else
        if pc = 63 then tz_aload 64 0 else dead
    else
     if pc < 68 then
      if pc < 67 then
       if pc = 64 then tz_getf 67 1 2 0 else dead
      else
       if pc = 67 then tz_const 68 (.int (nI 1)) else dead
     else
      if pc < 69 then
       if pc = 68 then tz_i2 69 (fun a b => a - b) else dead
      else
       if pc < 70 then
        if pc = 69 then tz_aaload 70 else dead
       else
        if pc = 70 then tz_aret else dead
set_option maxRecDepth 100000 in
theorem T_Nw_nextNode (l : Launch) (G : Gc) : TabOK l G M_Nw_nextNode (k_Nw_nextNode l G) := by
  intro pc
  unfold k_Nw_nextNode
  exact
   (sd_br
    (sd_br
     (sd_br
      (sd_br
       (sd_br
        (sd_lf (sd_aload_n (k := 0) (by decide +kernel : decode prog_3_method_11_code 0 = .ok (.aload_n 0, 1))))
        (sd_lf (sd_getf (q := (RX1, TX1, 6)) (by decide +kernel : decode prog_3_method_11_code 1 = .ok (.getfield 21, 3)) rfl (by decide +kernel) (gm 106 (by decide +kernel) rfl))))
       (sd_br
        (sd_lf (sd_if_lt (by decide +kernel : decode prog_3_method_11_code 4 = .ok (.ifCond .lt 15, 3)) (by decide +kernel)))
        (sd_lf (sd_aload_n (k := 0) (by decide +kernel : decode prog_3_method_11_code 7 = .ok (.aload_n 0, 1))))))
      (sd_br
       (sd_br
        (sd_lf (sd_getf (q := (RX1, TX1, 6)) (by decide +kernel : decode prog_3_method_11_code 8 = .ok (.getfield 21, 3)) rfl (by decide +kernel) (gm 106 (by decide +kernel) rfl)))
        (sd_lf (sd_aload_n (k := 0) (by decide +kernel : decode prog_3_method_11_code 11 = .ok (.aload_n 0, 1)))))
       (sd_br
        (sd_lf (sd_getf (q := (RX1, TX1, 6)) (by decide +kernel : decode prog_3_method_11_code 12 = .ok (.getfield 11, 3)) rfl (by decide +kernel) (gm 104 (by decide +kernel) rfl)))
        (sd_br
         (sd_lf (sd_alen (by decide +kernel : decode prog_3_method_11_code 15 = .ok (.arraylength, 1))))
         (sd_lf (sd_icmp_lt (by decide +kernel : decode prog_3_method_11_code 16 = .ok (.if_icmp .lt 5, 3)) (by decide +kernel)))))))
     (sd_br
      (sd_br
       (sd_br
        (sd_lf (sd_null (by decide +kernel : decode prog_3_method_11_code 19 = .ok (.aconst_null, 1))))
        (sd_lf (sd_aret (by decide +kernel : decode prog_3_method_11_code 20 = .ok (.areturn, 1)) rfl (Or.inl ⟨_, rfl⟩))))
       (sd_br
        (sd_lf (sd_aload_n (k := 0) (by decide +kernel : decode prog_3_method_11_code 21 = .ok (.aload_n 0, 1))))
        (sd_br
         (sd_lf (sd_getf (q := (RX1, TX1, 6)) (by decide +kernel : decode prog_3_method_11_code 22 = .ok (.getfield 11, 3)) rfl (by decide +kernel) (gm 104 (by decide +kernel) rfl)))
         (sd_lf (sd_aload_n (k := 0) (by decide +kernel : decode prog_3_method_11_code 25 = .ok (.aload_n 0, 1)))))))
      (sd_br
       (sd_br
        (sd_lf (sd_getf (q := (RX1, TX1, 6)) (by decide +kernel : decode prog_3_method_11_code 26 = .ok (.getfield 21, 3)) rfl (by decide +kernel) (gm 106 (by decide +kernel) rfl)))
        (sd_lf (sd_aaload (by decide +kernel : decode prog_3_method_11_code 29 = .ok (.aaload, 1)))))
       (sd_br
        (sd_lf (sd_ifnonnull (by decide +kernel : decode prog_3_method_11_code 30 = .ok (.ifnonnull 19, 3)) (by decide +kernel)))
        (sd_br
         (sd_lf (sd_aload_n (k := 0) (by decide +kernel : decode prog_3_method_11_code 33 = .ok (.aload_n 0, 1))))
         (sd_lf (sd_getf (q := (RX1, TX1, 6)) (by decide +kernel : decode prog_3_method_11_code 34 = .ok (.getfield 11, 3)) rfl (by decide +kernel) (gm 104 (by decide +kernel) rfl))))))))
    (sd_br
     (sd_br
      (sd_br
       (sd_br
        (sd_lf (sd_aload_n (k := 0) (by decide +kernel : decode prog_3_method_11_code 37 = .ok (.aload_n 0, 1))))
        (sd_lf (sd_getf (q := (RX1, TX1, 6)) (by decide +kernel : decode prog_3_method_11_code 38 = .ok (.getfield 21, 3)) rfl (by decide +kernel) (gm 106 (by decide +kernel) rfl))))
       (sd_br
        (sd_lf (sd_new (q := (RX3, TX3, 5)) (by decide +kernel : decode prog_3_method_11_code 41 = .ok (.new 9, 3)) rfl (gm 102 (by decide +kernel) rfl)))
        (sd_br
         (sd_lf (sd_dup (by decide +kernel : decode prog_3_method_11_code 44 = .ok (.dup, 1))))
         (sd_lf (sd_callIN (host := "HolePuncher") (by decide +kernel : decode prog_3_method_11_code 45 = .ok (.invokespecial 71, 3)) ok_No_init (List.mem_of_getElem? (i := 129) (by decide +kernel)) (gm 202 (by decide +kernel) rfl) rfl rfl (by decide +kernel) rfl rfl)))))
      (sd_br
       (sd_br
        (sd_lf (sd_aastore (by decide +kernel : decode prog_3_method_11_code 48 = .ok (.aastore, 1))))
        (sd_lf (sd_aload_n (k := 0) (by decide +kernel : decode prog_3_method_11_code 49 = .ok (.aload_n 0, 1)))))
       (sd_br
        (sd_lf (sd_dup (by decide +kernel : decode prog_3_method_11_code 50 = .ok (.dup, 1))))
        (sd_br
         (sd_lf (sd_getf (q := (RX1, TX1, 6)) (by decide +kernel : decode prog_3_method_11_code 51 = .ok (.getfield 21, 3)) rfl (by decide +kernel) (gm 106 (by decide +kernel) rfl)))
         (sd_lf (sd_iconst (by decide +kernel : decode prog_3_method_11_code 54 = .ok (.iconst 1, 1)) (by decide +kernel)))))))
     (sd_br
      (sd_br
       (sd_br
        (sd_lf (sd_iadd (by decide +kernel : decode prog_3_method_11_code 55 = .ok (.iadd, 1))))
        (sd_lf (sd_puti (q := (RX1, TX1, 6)) (by decide +kernel : decode prog_3_method_11_code 56 = .ok (.putfield 21, 3)) rfl (by decide +kernel) (gm 106 (by decide +kernel) rfl) rfl rfl (Or.inl rfl))))
       (sd_br
        (sd_lf (sd_aload_n (k := 0) (by decide +kernel : decode prog_3_method_11_code 59 = .ok (.aload_n 0, 1))))
        (sd_br
         (sd_lf (sd_getf (q := (RX1, TX1, 6)) (by decide +kernel : decode prog_3_method_11_code 60 = .ok (.getfield 11, 3)) rfl (by decide +kernel) (gm 104 (by decide +kernel) rfl)))
         (sd_lf (sd_aload_n (k := 0) (by decide +kernel : decode prog_3_method_11_code 63 = .ok (.aload_n 0, 1)))))))
      (sd_br
       (sd_br
        (sd_lf (sd_getf (q := (RX1, TX1, 6)) (by decide +kernel : decode prog_3_method_11_code 64 = .ok (.getfield 21, 3)) rfl (by decide +kernel) (gm 106 (by decide +kernel) rfl)))
        (sd_lf (sd_iconst (by decide +kernel : decode prog_3_method_11_code 67 = .ok (.iconst 1, 1)) (by decide +kernel))))
       (sd_br
        (sd_lf (sd_isub (by decide +kernel : decode prog_3_method_11_code 68 = .ok (.isub, 1))))
        (sd_br
         (sd_lf (sd_aaload (by decide +kernel : decode prog_3_method_11_code 69 = .ok (.aaload, 1))))
         (sd_lf (sd_aret (by decide +kernel : decode prog_3_method_11_code 70 = .ok (.areturn, 1)) rfl (Or.inl ⟨_, rfl⟩)))))))))
def k_Tl_reset (l : Launch) (G : Gc) (pc : Nat) : Tr :=
  if pc < 27 then
   if pc < 12 then
    if pc < 6 then
     if pc < 2 then
      if pc < 1 then
       if pc = 0 then tz_aload 1 0 else dead
      else
       if pc = 1 then tz_iload 2 1 else dead
     else
      if pc < 5 then
       if pc = 2 then tz_puti 5 5 0 else dead
      else
       if pc = 5 then tz_aload 6 0 else dead
    else
     if pc < 10 then
      if pc < 7 then
       if pc = 6 then tz_iload 7 2 else dead
      else
       if pc = 7 then tz_puti 10 5 1 else dead
     else
      if pc < 11 then
       if pc = 10 then tz_aload 11 0 else dead
      else
       if pc = 11 then tz_iload 12 3 else dead
   else
    if pc < 20 then
     if pc < 16 then
      if pc < 15 then
       if pc = 12 then tz_puti 15 5 2 else dead
      else
       if pc = 15 then tz_aload 16 0 else dead
     else
      if pc < 17 then
       if pc = 16 then tz_const 17 (.int (nI 1)) else dead
      else
       if pc = 17 then tz_puti 20 5 3 else dead
    else
     if pc < 23 then
      if pc < 21 then
       if pc = 20 then tz_aload 21 0 else dead
      else
       if pc = 21 then tz_const 23 (.int (nI 60)) else dead
     else
      if pc < 26 then
       if pc = 23 then tz_puti 26 5 4 else dead
      else
       if pc = 26 then tz_aload 27 0 else dead
  else
   if pc < 43 then
    if pc < 33 then
     if pc < 31 then
      if pc < 28 then
       if pc = 27 then tz_const 28 (.int (nI 0)) else dead
      else
       if pc = 28 then tz_putz 31 5 5 else dead
     else
      if pc < 32 then
       if pc = 31 then tz_aload 32 0 else dead
      else
       if pc = 32 then tz_const 33 (.int (nI 0)) else dead
    else
     if pc < 37 then
      if pc < 36 then
       if pc = 33 then tz_putz 36 5 6 else dead
      else
       if pc = 36 then tz_aload 37 0 else dead
     else
      if pc < 40 then
       if pc = 37 then tz_const 40 (.int (nI 1000)) else dead
      else
       if pc = 40 then tz_puti 43 5 7 else dead
   else
    if pc < 50 then
     if pc < 46 then
      if pc < 44 then
       if pc = 43 then tz_aload 44 0 else dead
      else
       if pc = 44 then tz_iload 46 4 else dead
     else
      if pc < 47 then
       if pc = 46 then tz_i2l 47 else dead
      else
       if pc = 47 then tz_putl 50 5 8 else dead
    else
     if pc < 52 then
      if pc < 51 then
       if pc = 50 then tz_aload 51 0 else dead
      else
       if pc = 51 then tz_const 52 (.int (nI 0)) else dead
     else
      if pc < 55 then
       if pc = 52 then tz_puti 55 5 10 else dead
      else
       if pc = 55 then tz_vret else dead
set_option maxRecDepth 100000 in
theorem T_Tl_reset (l : Launch) (G : Gc) : TabOK l G M_Tl_reset (k_Tl_reset l G) := by
  intro pc
  unfold k_Tl_reset
  exact
   (sd_br
    (sd_br
     (sd_br
      (sd_br
       (sd_br
        (sd_lf (sd_aload_n (k := 0) (by decide +kernel : decode prog_7_method_2_code 0 = .ok (.aload_n 0, 1))))
        (sd_lf (sd_iload_n (k := 1) (by decide +kernel : decode prog_7_method_2_code 1 = .ok (.iload_n 1, 1)))))
       (sd_br
        (sd_lf (sd_puti (q := (RX5, TX5, 11)) (by decide +kernel : decode prog_7_method_2_code 2 = .ok (.putfield 21, 3)) rfl (by decide +kernel) (gm 248 (by decide +kernel) rfl) rfl rfl (Or.inl rfl)))
        (sd_lf (sd_aload_n (k := 0) (by decide +kernel : decode prog_7_method_2_code 5 = .ok (.aload_n 0, 1))))))
      (sd_br
       (sd_br
        (sd_lf (sd_iload_n (k := 2) (by decide +kernel : decode prog_7_method_2_code 6 = .ok (.iload_n 2, 1))))
        (sd_lf (sd_puti (q := (RX5, TX5, 11)) (by decide +kernel : decode prog_7_method_2_code 7 = .ok (.putfield 24, 3)) rfl (by decide +kernel) (gm 249 (by decide +kernel) rfl) rfl rfl (Or.inl rfl))))
       (sd_br
        (sd_lf (sd_aload_n (k := 0) (by decide +kernel : decode prog_7_method_2_code 10 = .ok (.aload_n 0, 1))))
        (sd_lf (sd_iload_n (k := 3) (by decide +kernel : decode prog_7_method_2_code 11 = .ok (.iload_n 3, 1)))))))
     (sd_br
      (sd_br
       (sd_br
        (sd_lf (sd_puti (q := (RX5, TX5, 11)) (by decide +kernel : decode prog_7_method_2_code 12 = .ok (.putfield 27, 3)) rfl (by decide +kernel) (gm 251 (by decide +kernel) rfl) rfl rfl (Or.inl rfl)))
        (sd_lf (sd_aload_n (k := 0) (by decide +kernel : decode prog_7_method_2_code 15 = .ok (.aload_n 0, 1)))))
       (sd_br
        (sd_lf (sd_iconst (by decide +kernel : decode prog_7_method_2_code 16 = .ok (.iconst 1, 1)) (by decide +kernel)))
        (sd_lf (sd_puti (q := (RX5, TX5, 11)) (by decide +kernel : decode prog_7_method_2_code 17 = .ok (.putfield 30, 3)) rfl (by decide +kernel) (gm 252 (by decide +kernel) rfl) rfl rfl (Or.inl rfl)))))
      (sd_br
       (sd_br
        (sd_lf (sd_aload_n (k := 0) (by decide +kernel : decode prog_7_method_2_code 20 = .ok (.aload_n 0, 1))))
        (sd_lf (sd_bipush (by decide +kernel : decode prog_7_method_2_code 21 = .ok (.bipush 60, 2)) (by decide +kernel))))
       (sd_br
        (sd_lf (sd_puti (q := (RX5, TX5, 11)) (by decide +kernel : decode prog_7_method_2_code 23 = .ok (.putfield 33, 3)) rfl (by decide +kernel) (gm 253 (by decide +kernel) rfl) rfl rfl (Or.inl rfl)))
        (sd_lf (sd_aload_n (k := 0) (by decide +kernel : decode prog_7_method_2_code 26 = .ok (.aload_n 0, 1))))))))
    (sd_br
     (sd_br
      (sd_br
       (sd_br
        (sd_lf (sd_iconst (by decide +kernel : decode prog_7_method_2_code 27 = .ok (.iconst 0, 1)) (by decide +kernel)))
        (sd_lf (sd_putz (q := (RX5, TX5, 11)) (by decide +kernel : decode prog_7_method_2_code 28 = .ok (.putfield 36, 3)) rfl (by decide +kernel) (gm 254 (by decide +kernel) rfl) rfl rfl (Or.inl rfl))))
       (sd_br
        (sd_lf (sd_aload_n (k := 0) (by decide +kernel : decode prog_7_method_2_code 31 = .ok (.aload_n 0, 1))))
        (sd_lf (sd_iconst (by decide +kernel : decode prog_7_method_2_code 32 = .ok (.iconst 0, 1)) (by decide +kernel)))))
      (sd_br
       (sd_br
        (sd_lf (sd_putz (q := (RX5, TX5, 11)) (by decide +kernel : decode prog_7_method_2_code 33 = .ok (.putfield 40, 3)) rfl (by decide +kernel) (gm 256 (by decide +kernel) rfl) rfl rfl (Or.inl rfl)))
        (sd_lf (sd_aload_n (k := 0) (by decide +kernel : decode prog_7_method_2_code 36 = .ok (.aload_n 0, 1)))))
       (sd_br
        (sd_lf (sd_sipush (by decide +kernel : decode prog_7_method_2_code 37 = .ok (.sipush 1000, 3)) (by decide +kernel)))
        (sd_lf (sd_puti (q := (RX5, TX5, 11)) (by decide +kernel : decode prog_7_method_2_code 40 = .ok (.putfield 43, 3)) rfl (by decide +kernel) (gm 258 (by decide +kernel) rfl) rfl rfl (Or.inl rfl))))))
     (sd_br
      (sd_br
       (sd_br
        (sd_lf (sd_aload_n (k := 0) (by decide +kernel : decode prog_7_method_2_code 43 = .ok (.aload_n 0, 1))))
        (sd_lf (sd_iload (by decide +kernel : decode prog_7_method_2_code 44 = .ok (.iload 4, 2)))))
       (sd_br
        (sd_lf (sd_i2l (by decide +kernel : decode prog_7_method_2_code 46 = .ok (.i2l, 1))))
        (sd_lf (sd_putl (q := (RX5, TX5, 11)) (by decide +kernel : decode prog_7_method_2_code 47 = .ok (.putfield 46, 3)) rfl (by decide +kernel) (gm 259 (by decide +kernel) rfl) rfl rfl (Or.inl rfl)))))
      (sd_br
       (sd_br
        (sd_lf (sd_aload_n (k := 0) (by decide +kernel : decode prog_7_method_2_code 50 = .ok (.aload_n 0, 1))))
        (sd_lf (sd_iconst (by decide +kernel : decode prog_7_method_2_code 51 = .ok (.iconst 0, 1)) (by decide +kernel))))
       (sd_br
        (sd_lf (sd_puti (q := (RX5, TX5, 11)) (by decide +kernel : decode prog_7_method_2_code 52 = .ok (.putfield 17, 3)) rfl (by decide +kernel) (gm 261 (by decide +kernel) rfl) rfl rfl (Or.inl rfl)))
        (sd_lf (sd_vret (by decide +kernel : decode prog_7_method_2_code 55 = .ok (.return_, 1)) rfl)))))))
/-- the numbers of a host -/
def hoI (f : Nat → Int32) (net : Int32) : Nat → Int32 := upd (upd (upd (upd f 0 (nI 1)) 1 net) 2 nN) 3 nN
section
variable {l : Launch} {G : Gc}
theorem c_No_init (n : Nat) (h : AH) (Q : Po) (h1 : tg h n = 3) (hQ : Q (.inl none) (sR (zw h n (hoI (hI h n) nN)) n 4 none)) : Call l G M_No_init [.ref n] h Q := by
  refine call_of rfl rfl (Nat.le_of_ble_eq_true rfl) ?_
  (obtain ⟨W9, hW9, hgo9⟩ := wp_ex (T_No_init l G) [] _; refine hgo9 200 _ _ _ _ ?_; simp -implicitDefEqProofs (disch := omega) only [hW9, inl, gate, Xq, tz_const, tz_iload, tz_lload, tz_dload, tz_aload, tz_istore, tz_astore, tz_lstore, tz_dstore, tz_iinc, tz_i1, tz_i2, tz_i2z, tz_l2, tz_l2z, tz_i2l, tz_l2i, tz_lcmp, tz_i2d, tz_d2, tz_dcmp, tz_dup, tz_dup2, tz_pop, tz_if, tz_icmp, tz_null, tz_goto, tz_sw, tz_getf, tz_puti, tz_putz, tz_putr, tz_putl, tz_iaload, tz_baload, tz_laload, tz_aaload, tz_iastore, tz_bastore, tz_lastore, tz_aastore, tz_alen, tz_new, tz_newa, tz_oinit, tz_iret, tz_zret, tz_lret, tz_dret, tz_aret, tz_vret, tz_throw, tz_callS, tz_callV, tz_callI, tz_callR, tz_pureS, tz_pureV, tz_callVH, lg, lset, lkill, lst1, lst2, entL, isRf, is1, vl, va_rf_none, va_rf_some, isRf_rf, is1_rf, i0, i1, bI_eq0, bI_eq1, nm_em, nI_eqP, nI_leP, nI_ltP, nN_e1, nN_e2, nN_l1, nN_l2, nN_l3, nN_l4, nI_add, pk_mul, vp_inN, nI_cl, n01, n10, P_i, P_ii, P_iii, f_Mo_at, f_Mo_map, f_Mo_contact, f_Mo_within, f_Mo_isPort, f_Hp_endpoint, f_Hp_nodeOf, f_Hp_portOf, f_Ma_max, f_Ma_min, f_Hp_isSetting, popN, rok, a1, noX, swc, mL, if_true, if_false, ↓reduceIte, cond_true, cond_false, true_and, and_true, List.length_cons, List.length_nil, List.nil_append, List.cons_append, List.append_nil, Option.toList, Nat.reduceEqDiff, Bool.false_eq_true, reduceCtorEq, Nat.reduceAdd, Nat.reduceLT, Nat.reduceLeDiff, Nat.reduceSub, List.replicate, Nat.zero_add, Nat.lt_add_one, Nat.le_refl, Nat.zero_le, Nat.succ_ne_zero, not_false_eq_true, not_true_eq_false, false_implies, true_implies, forall_const, imp_self, true_or, or_true, eq_self, sI_zw, zw_zw, hI_zw, tg_zw, ln_zw, hR_zw, hL_zw, hN_zw, hM_zw, upd_s, upd_u, upd_ne, Classical.not_not, k_No_init, h1]; try clear hgo9 hW9)
  exact hQ
theorem c_No_becomeHost (n : Nat) (net : Int32) (h : AH) (Q : Po) (h1 : tg h n = 3) (hQ : Q (.inl none) (zw h n (hoI (hI h n) net))) : Call l G M_No_becomeHost [.ref n, .int net] h Q := by
  refine call_of rfl rfl (Nat.le_of_ble_eq_true rfl) ?_
  (obtain ⟨W9, hW9, hgo9⟩ := wp_ex (T_No_becomeHost l G) [] _; refine hgo9 200 _ _ _ _ ?_; simp -implicitDefEqProofs (disch := omega) only [hW9, inl, gate, Xq, tz_const, tz_iload, tz_lload, tz_dload, tz_aload, tz_istore, tz_astore, tz_lstore, tz_dstore, tz_iinc, tz_i1, tz_i2, tz_i2z, tz_l2, tz_l2z, tz_i2l, tz_l2i, tz_lcmp, tz_i2d, tz_d2, tz_dcmp, tz_dup, tz_dup2, tz_pop, tz_if, tz_icmp, tz_null, tz_goto, tz_sw, tz_getf, tz_puti, tz_putz, tz_putr, tz_putl, tz_iaload, tz_baload, tz_laload, tz_aaload, tz_iastore, tz_bastore, tz_lastore, tz_aastore, tz_alen, tz_new, tz_newa, tz_oinit, tz_iret, tz_zret, tz_lret, tz_dret, tz_aret, tz_vret, tz_throw, tz_callS, tz_callV, tz_callI, tz_callR, tz_pureS, tz_pureV, tz_callVH, lg, lset, lkill, lst1, lst2, entL, isRf, is1, vl, va_rf_none, va_rf_some, isRf_rf, is1_rf, i0, i1, bI_eq0, bI_eq1, nm_em, nI_eqP, nI_leP, nI_ltP, nN_e1, nN_e2, nN_l1, nN_l2, nN_l3, nN_l4, nI_add, pk_mul, vp_inN, nI_cl, n01, n10, P_i, P_ii, P_iii, f_Mo_at, f_Mo_map, f_Mo_contact, f_Mo_within, f_Mo_isPort, f_Hp_endpoint, f_Hp_nodeOf, f_Hp_portOf, f_Ma_max, f_Ma_min, f_Hp_isSetting, popN, rok, a1, noX, swc, mL, if_true, if_false, ↓reduceIte, cond_true, cond_false, true_and, and_true, List.length_cons, List.length_nil, List.nil_append, List.cons_append, List.append_nil, Option.toList, Nat.reduceEqDiff, Bool.false_eq_true, reduceCtorEq, Nat.reduceAdd, Nat.reduceLT, Nat.reduceLeDiff, Nat.reduceSub, List.replicate, Nat.zero_add, Nat.lt_add_one, Nat.le_refl, Nat.zero_le, Nat.succ_ne_zero, not_false_eq_true, not_true_eq_false, false_implies, true_implies, forall_const, imp_self, true_or, or_true, eq_self, sI_zw, zw_zw, hI_zw, tg_zw, ln_zw, hR_zw, hL_zw, hN_zw, hM_zw, upd_s, upd_u, upd_ne, Classical.not_not, k_No_becomeHost, h1]; try clear hgo9 hW9)
  exact hQ
/-- a new translator at t -/
def TlNew (h h' : AH) (wn i t : Nat) : Prop := hN h' = hN h + 1 ∧ hM h' = hM h + 8 ∧ (∀ b, b ≠ t → b ≠ hN h → same1 h h' b) ∧ hT h' t = hT h t ∧ hR h' t 9 = some (hN h) ∧ tg h' (hN h) = 10 ∧ ln h' (hN h) = 8 ∧ gh h' (hN h) = [wn, 5, i] ∧ ∀ j, hR h' (hN h) j = none
theorem c_Tl_init (wn i t : Nat) (h : AH) (Q : Po) (ht : t < hN h) (h1 : tg h t = 5) (hQ : ∀ h', TlNew h h' wn i t → Q (.inl none) h') : Call l G M_Tl_init [.ref t] h Q := by
  refine call_of rfl rfl (Nat.le_of_ble_eq_true rfl) ?_
  (obtain ⟨W9, hW9, hgo9⟩ := wp_ex (T_Tl_init l G) [] _; refine hgo9 200 _ _ _ _ ?_; simp -implicitDefEqProofs (disch := first | omega | (simp only [hN_nw, hN_sR, hN_zw, hN_sL]; first | done | omega)) only [hW9, inl, gate, Xq, tz_const, tz_iload, tz_lload, tz_dload, tz_aload, tz_istore, tz_astore, tz_lstore, tz_dstore, tz_iinc, tz_i1, tz_i2, tz_i2z, tz_l2, tz_l2z, tz_i2l, tz_l2i, tz_lcmp, tz_i2d, tz_d2, tz_dcmp, tz_dup, tz_dup2, tz_pop, tz_if, tz_icmp, tz_null, tz_goto, tz_sw, tz_getf, tz_puti, tz_putz, tz_putr, tz_putl, tz_iaload, tz_baload, tz_laload, tz_aaload, tz_iastore, tz_bastore, tz_lastore, tz_aastore, tz_alen, tz_new, tz_newa, tz_oinit, tz_iret, tz_zret, tz_lret, tz_dret, tz_aret, tz_vret, tz_throw, tz_callS, tz_callV, tz_callI, tz_callR, tz_pureS, tz_pureV, tz_callVH, lg, lset, lkill, lst1, lst2, entL, isRf, is1, vl, va_rf_none, va_rf_some, isRf_rf, is1_rf, i0, i1, bI_eq0, bI_eq1, nm_em, nI_eqP, nI_leP, nI_ltP, nN_e1, nN_e2, nN_l1, nN_l2, nN_l3, nN_l4, nI_add, pk_mul, vp_inN, nI_cl, n01, n10, P_i, P_ii, P_iii, f_Mo_at, f_Mo_map, f_Mo_contact, f_Mo_within, f_Mo_isPort, f_Hp_endpoint, f_Hp_nodeOf, f_Hp_portOf, f_Ma_max, f_Ma_min, f_Hp_isSetting, popN, rok, a1, noX, swc, mL, if_true, if_false, ↓reduceIte, cond_true, cond_false, true_and, and_true, List.length_cons, List.length_nil, List.nil_append, List.cons_append, List.append_nil, Option.toList, Nat.reduceEqDiff, Bool.false_eq_true, reduceCtorEq, Nat.reduceAdd, Nat.reduceLT, Nat.reduceLeDiff, Nat.reduceSub, List.replicate, Nat.zero_add, Nat.lt_add_one, Nat.le_refl, Nat.zero_le, Nat.succ_ne_zero, not_false_eq_true, not_true_eq_false, false_implies, true_implies, forall_const, imp_self, true_or, or_true, eq_self, sI_zw, zw_zw, hI_zw, tg_zw, ln_zw, hR_zw, hL_zw, hN_zw, hM_zw, upd_s, upd_u, upd_ne, Classical.not_not, k_Tl_init, h1, tg_nwo, tg_sR, hN_nw, hN_sR]; try clear hgo9 hW9)
  refine ⟨[wn, 5, i], hQ _ ?_⟩
  unfold TlNew
  refine ⟨?_, ?_, fun b hb hne => ⟨?_, ?_, ?_, ?_⟩, ?_, ?_, ?_, ?_, ?_, fun j => ?_⟩
  all_goals first
    | rfl
    | (simp (disch := first | omega | (simp only [hN_nw, hN_sR, hN_zw]; first | done | omega)) only [hN_nw, hN_sR, hM_nw, hM_sR, hN_zw, hM_zw, hT_zw, hR_zw, hL_zw, tg_zw, ln_zw, gh_zw, hI_zw_ne, hT_sR, hT_nw, hI_sR, hI_nw, hR_sRo, hR_sRk, hR_sR, hR_nw, hL_sR, hL_nw, tg_sR, ln_sR, gh_sR, tg_nwo, ln_nwo, gh_nw]; done)
    | exact tg_nw' rfl
    | exact ln_nw' rfl
    | exact gh_nw' rfl
    | (show hR (sR (nw h 10 8 [wn, 5, i]) t 9 _) (hN h) j = none
       rw [hR_sRo (by omega), hR_nw0])
/-- node n (the i-th of wn) has become a translator, with t -/
def BtR (h h' : AH) (wn i n t : Nat) (net : Int32) : Prop := Fr wn 2 h h' ∧ hI h' n = upd (hoI (hI h n) net) 0 (nI 0) ∧ hR h' n 4 = some t ∧ ShT h' wn i t ∧ ∀ b, b < hN h → b ≠ n → same1 h h' b
theorem c_No_becomeTranslator (wn i n : Nat) (net : Int32) (h : AH) (Q : Po) (hw : WF h) (sd : ShD h wn i n) (hQ : ∀ h' t, BtR h h' wn i n t net → Q (.inl (some (.ref t))) h') : Call l G M_No_becomeTranslator [.ref n, .int net] h Q := by
  obtain ⟨h1, a2, a3⟩ := id sd
  have ln' : n < hN h := hw.lt (by rw [h1]; decide)
  refine call_of rfl rfl (Nat.le_of_ble_eq_true rfl) ?_
  (obtain ⟨W9, hW9, hgo9⟩ := wp_ex (T_No_becomeTranslator l G) [] _; refine hgo9 200 _ _ _ _ ?_; simp -implicitDefEqProofs (disch := omega) only [hW9, inl, gate, Xq, tz_const, tz_iload, tz_lload, tz_dload, tz_aload, tz_istore, tz_astore, tz_lstore, tz_dstore, tz_iinc, tz_i1, tz_i2, tz_i2z, tz_l2, tz_l2z, tz_i2l, tz_l2i, tz_lcmp, tz_i2d, tz_d2, tz_dcmp, tz_dup, tz_dup2, tz_pop, tz_if, tz_icmp, tz_null, tz_goto, tz_sw, tz_getf, tz_puti, tz_putz, tz_putr, tz_putl, tz_iaload, tz_baload, tz_laload, tz_aaload, tz_iastore, tz_bastore, tz_lastore, tz_aastore, tz_alen, tz_new, tz_newa, tz_oinit, tz_iret, tz_zret, tz_lret, tz_dret, tz_aret, tz_vret, tz_throw, tz_callS, tz_callV, tz_callI, tz_callR, tz_pureS, tz_pureV, tz_callVH, lg, lset, lkill, lst1, lst2, entL, isRf, is1, vl, va_rf_none, va_rf_some, isRf_rf, is1_rf, i0, i1, bI_eq0, bI_eq1, nm_em, nI_eqP, nI_leP, nI_ltP, nN_e1, nN_e2, nN_l1, nN_l2, nN_l3, nN_l4, nI_add, pk_mul, vp_inN, nI_cl, n01, n10, P_i, P_ii, P_iii, f_Mo_at, f_Mo_map, f_Mo_contact, f_Mo_within, f_Mo_isPort, f_Hp_endpoint, f_Hp_nodeOf, f_Hp_portOf, f_Ma_max, f_Ma_min, f_Hp_isSetting, popN, rok, a1, noX, swc, mL, if_true, if_false, ↓reduceIte, cond_true, cond_false, true_and, and_true, List.length_cons, List.length_nil, List.nil_append, List.cons_append, List.append_nil, Option.toList, Nat.reduceEqDiff, Bool.false_eq_true, reduceCtorEq, Nat.reduceAdd, Nat.reduceLT, Nat.reduceLeDiff, Nat.reduceSub, List.replicate, Nat.zero_add, Nat.lt_add_one, Nat.le_refl, Nat.zero_le, Nat.succ_ne_zero, not_false_eq_true, not_true_eq_false, false_implies, true_implies, forall_const, imp_self, true_or, or_true, eq_self, sI_zw, zw_zw, hI_zw, tg_zw, ln_zw, hR_zw, hL_zw, hN_zw, hM_zw, upd_s, upd_u, upd_ne, Classical.not_not, k_No_becomeTranslator, h1]; try clear hgo9 hW9)
  refine c_No_becomeHost n net h _ h1 ?_
  simp only [aft]
  have fz : Fr wn 0 h (zw h n (upd (hoI (hI h n) net) 0 (nI 0))) := Fr.zw hw (rt_gh a2)
  cases e : hR h n 4 with
  | some t =>
    (obtain ⟨W9, hW9, hgo9⟩ := wp_ex (T_No_becomeTranslator l G) [] _; refine hgo9 200 _ _ _ _ ?_; simp -implicitDefEqProofs (disch := omega) only [hW9, inl, gate, Xq, tz_const, tz_iload, tz_lload, tz_dload, tz_aload, tz_istore, tz_astore, tz_lstore, tz_dstore, tz_iinc, tz_i1, tz_i2, tz_i2z, tz_l2, tz_l2z, tz_i2l, tz_l2i, tz_lcmp, tz_i2d, tz_d2, tz_dcmp, tz_dup, tz_dup2, tz_pop, tz_if, tz_icmp, tz_null, tz_goto, tz_sw, tz_getf, tz_puti, tz_putz, tz_putr, tz_putl, tz_iaload, tz_baload, tz_laload, tz_aaload, tz_iastore, tz_bastore, tz_lastore, tz_aastore, tz_alen, tz_new, tz_newa, tz_oinit, tz_iret, tz_zret, tz_lret, tz_dret, tz_aret, tz_vret, tz_throw, tz_callS, tz_callV, tz_callI, tz_callR, tz_pureS, tz_pureV, tz_callVH, lg, lset, lkill, lst1, lst2, entL, isRf, is1, vl, va_rf_none, va_rf_some, isRf_rf, is1_rf, i0, i1, bI_eq0, bI_eq1, nm_em, nI_eqP, nI_leP, nI_ltP, nN_e1, nN_e2, nN_l1, nN_l2, nN_l3, nN_l4, nI_add, pk_mul, vp_inN, nI_cl, n01, n10, P_i, P_ii, P_iii, f_Mo_at, f_Mo_map, f_Mo_contact, f_Mo_within, f_Mo_isPort, f_Hp_endpoint, f_Hp_nodeOf, f_Hp_portOf, f_Ma_max, f_Ma_min, f_Hp_isSetting, popN, rok, a1, noX, swc, mL, if_true, if_false, ↓reduceIte, cond_true, cond_false, true_and, and_true, List.length_cons, List.length_nil, List.nil_append, List.cons_append, List.append_nil, Option.toList, Nat.reduceEqDiff, Bool.false_eq_true, reduceCtorEq, Nat.reduceAdd, Nat.reduceLT, Nat.reduceLeDiff, Nat.reduceSub, List.replicate, Nat.zero_add, Nat.lt_add_one, Nat.le_refl, Nat.zero_le, Nat.succ_ne_zero, not_false_eq_true, not_true_eq_false, false_implies, true_implies, forall_const, imp_self, true_or, or_true, eq_self, sI_zw, zw_zw, hI_zw, tg_zw, ln_zw, hR_zw, hL_zw, hN_zw, hM_zw, upd_s, upd_u, upd_ne, Classical.not_not, k_No_becomeTranslator, h1, e]; try clear hgo9 hW9)
    have sh := a3 t e
    have nt : t ≠ n := ne_tg (by rw [h1, sh.1.1]; decide)
    exact hQ _ t ⟨fz.mono (by omega), hI_zw _ _ _, e, sh.congr rfl rfl, fun b hb hne => ⟨rfl, hI_zw_ne _ hne, rfl, rfl⟩⟩
  | none =>
    have tgn : ∀ g, tg (nw (zw h n (upd (hoI (hI h n) net) 0 (nI 0))) 5 11 g) (hN h) = 5 := fun g => tg_nw0 (zw h n (upd (hoI (hI h n) net) 0 (nI 0))) 5 11 g
    (obtain ⟨W9, hW9, hgo9⟩ := wp_ex (T_No_becomeTranslator l G) [] _; refine hgo9 200 _ _ _ _ ?_; simp -implicitDefEqProofs (disch := omega) only [hW9, inl, gate, Xq, tz_const, tz_iload, tz_lload, tz_dload, tz_aload, tz_istore, tz_astore, tz_lstore, tz_dstore, tz_iinc, tz_i1, tz_i2, tz_i2z, tz_l2, tz_l2z, tz_i2l, tz_l2i, tz_lcmp, tz_i2d, tz_d2, tz_dcmp, tz_dup, tz_dup2, tz_pop, tz_if, tz_icmp, tz_null, tz_goto, tz_sw, tz_getf, tz_puti, tz_putz, tz_putr, tz_putl, tz_iaload, tz_baload, tz_laload, tz_aaload, tz_iastore, tz_bastore, tz_lastore, tz_aastore, tz_alen, tz_new, tz_newa, tz_oinit, tz_iret, tz_zret, tz_lret, tz_dret, tz_aret, tz_vret, tz_throw, tz_callS, tz_callV, tz_callI, tz_callR, tz_pureS, tz_pureV, tz_callVH, lg, lset, lkill, lst1, lst2, entL, isRf, is1, vl, va_rf_none, va_rf_some, isRf_rf, is1_rf, i0, i1, bI_eq0, bI_eq1, nm_em, nI_eqP, nI_leP, nI_ltP, nN_e1, nN_e2, nN_l1, nN_l2, nN_l3, nN_l4, nI_add, pk_mul, vp_inN, nI_cl, n01, n10, P_i, P_ii, P_iii, f_Mo_at, f_Mo_map, f_Mo_contact, f_Mo_within, f_Mo_isPort, f_Hp_endpoint, f_Hp_nodeOf, f_Hp_portOf, f_Ma_max, f_Ma_min, f_Hp_isSetting, popN, rok, a1, noX, swc, mL, if_true, if_false, ↓reduceIte, cond_true, cond_false, true_and, and_true, List.length_cons, List.length_nil, List.nil_append, List.cons_append, List.append_nil, Option.toList, Nat.reduceEqDiff, Bool.false_eq_true, reduceCtorEq, Nat.reduceAdd, Nat.reduceLT, Nat.reduceLeDiff, Nat.reduceSub, List.replicate, Nat.zero_add, Nat.lt_add_one, Nat.le_refl, Nat.zero_le, Nat.succ_ne_zero, not_false_eq_true, not_true_eq_false, false_implies, true_implies, forall_const, imp_self, true_or, or_true, eq_self, sI_zw, zw_zw, hI_zw, tg_zw, ln_zw, hR_zw, hL_zw, hN_zw, hM_zw, upd_s, upd_u, upd_ne, Classical.not_not, k_No_becomeTranslator, h1, e, tgn]; try clear hgo9 hW9)
    refine ⟨[wn, 4, i], ?_⟩
    refine c_Tl_init wn i (hN h) _ _ (by rw [hN_nw, hN_zw]; omega) (tgn _) (fun h' hn => ?_)
    simp only [aft]
    obtain ⟨n1, n2, n3, n4, n5, n6, n7, n8, n9⟩ := hn
    rw [hN_nw, hN_zw] at n1 n3 n5 n6 n7 n8 n9
    rw [hM_nw, hM_zw] at n2
    have cl : ∀ b, b < hN h → b ≠ n → same1 h h' b := fun b hb hne => (show same1 h (nw (zw h n (upd (hoI (hI h n) net) 0 (nI 0))) 5 11 [wn, 4, i]) b from ⟨hT_nw (by rw [hN_zw]; omega), (hI_nw (by rw [hN_zw]; omega)).trans (hI_zw_ne _ hne), hR_nw (by rw [hN_zw]; omega), hL_nw (by rw [hN_zw]; omega)⟩).tr (n3 b (by omega) (by omega))
    have sn := n3 n (by omega) (by omega)
    have t3 : tg h' n = 3 := by rw [sn.tg, tg_nwo (by rw [hN_zw]; omega)]; exact h1
    have iN : hI h' n = upd (hoI (hI h n) net) 0 (nI 0) := by rw [sn.2.1, hI_nw (by rw [hN_zw]; omega), hI_zw]
    have t5 : tg h' (hN h) = 5 := by unfold tg; rw [n4]; exact tgn _
    have g4 : gh h' (hN h) = [wn, 4, i] := by unfold gh; rw [n4]; exact gh_nw0 (zw h n _) _ _ _
    have rs : ∀ x, hR (sR h' n 4 x) n 4 = x := fun x => hR_sR _ _ _ _
    (obtain ⟨W9, hW9, hgo9⟩ := wp_ex (T_No_becomeTranslator l G) [] _; refine hgo9 200 _ _ _ _ ?_; simp -implicitDefEqProofs (disch := omega) only [hW9, inl, gate, Xq, tz_const, tz_iload, tz_lload, tz_dload, tz_aload, tz_istore, tz_astore, tz_lstore, tz_dstore, tz_iinc, tz_i1, tz_i2, tz_i2z, tz_l2, tz_l2z, tz_i2l, tz_l2i, tz_lcmp, tz_i2d, tz_d2, tz_dcmp, tz_dup, tz_dup2, tz_pop, tz_if, tz_icmp, tz_null, tz_goto, tz_sw, tz_getf, tz_puti, tz_putz, tz_putr, tz_putl, tz_iaload, tz_baload, tz_laload, tz_aaload, tz_iastore, tz_bastore, tz_lastore, tz_aastore, tz_alen, tz_new, tz_newa, tz_oinit, tz_iret, tz_zret, tz_lret, tz_dret, tz_aret, tz_vret, tz_throw, tz_callS, tz_callV, tz_callI, tz_callR, tz_pureS, tz_pureV, tz_callVH, lg, lset, lkill, lst1, lst2, entL, isRf, is1, vl, va_rf_none, va_rf_some, isRf_rf, is1_rf, i0, i1, bI_eq0, bI_eq1, nm_em, nI_eqP, nI_leP, nI_ltP, nN_e1, nN_e2, nN_l1, nN_l2, nN_l3, nN_l4, nI_add, pk_mul, vp_inN, nI_cl, n01, n10, P_i, P_ii, P_iii, f_Mo_at, f_Mo_map, f_Mo_contact, f_Mo_within, f_Mo_isPort, f_Hp_endpoint, f_Hp_nodeOf, f_Hp_portOf, f_Ma_max, f_Ma_min, f_Hp_isSetting, popN, rok, a1, noX, swc, mL, if_true, if_false, ↓reduceIte, cond_true, cond_false, true_and, and_true, List.length_cons, List.length_nil, List.nil_append, List.cons_append, List.append_nil, Option.toList, Nat.reduceEqDiff, Bool.false_eq_true, reduceCtorEq, Nat.reduceAdd, Nat.reduceLT, Nat.reduceLeDiff, Nat.reduceSub, List.replicate, Nat.zero_add, Nat.lt_add_one, Nat.le_refl, Nat.zero_le, Nat.succ_ne_zero, not_false_eq_true, not_true_eq_false, false_implies, true_implies, forall_const, imp_self, true_or, or_true, eq_self, sI_zw, zw_zw, hI_zw, tg_zw, ln_zw, hR_zw, hL_zw, hN_zw, hM_zw, upd_s, upd_u, upd_ne, Classical.not_not, k_No_becomeTranslator, t3, tg_sR, rs]; try clear hgo9 hW9)
    have eM : mM (sR h' n 4 (some (hN h))) (hN h) = hN h + 1 := by
      unfold mM
      rw [hR_sRo (by omega), n5]; rfl
    refine hQ _ (hN h) ⟨⟨⟨?_, ?_, ?_, ?_⟩, ?_, ?_, ?_, ?_⟩, iN, rs _, ⟨⟨t5, ?_, ?_, ?_⟩, g4, ?_, ?_, ?_⟩, fun b hb hne => ⟨(cl b hb hne).1, (cl b hb hne).2.1, ?_, (cl b hb hne).2.2.2⟩⟩
    · show hN h ≤ hN h'; omega
    · show hN h' ≤ hN h + 2; omega
    · show hM h' + 12 * hN h ≤ hM h + 12 * hN h'; omega
    · show hM h ≤ hM h'; omega
    · intro b hb
      show hT h' b = hT h b
      by_cases q : b = n
      · subst q
        rw [sn.1]
        exact hT_nw (by rw [hN_zw]; omega)
      · exact (cl b hb q).1
    · intro b hb hr
      have hne : b ≠ n := fun q => hr (by rw [q]; exact rt_gh a2)
      exact ⟨(cl b hb hne).1, (cl b hb hne).2.1, (hR_sRo hne).trans (cl b hb hne).2.2.1, (cl b hb hne).2.2.2⟩
    · intro b b1 b2
      replace b2 : b < hN h' := b2
      have : b = hN h ∨ b = hN h + 1 := by omega
      rcases this with q | q
      · subst q; exact rt_gh g4
      · subst q; exact rt_gh n8
    · intro b hb
      replace hb : hN h' ≤ b := hb
      show tg h' b = 99
      rw [(n3 b (by omega) (by omega)).tg, tg_nwo (by rw [hN_zw]; omega)]
      exact hw b (by omega)
    · rw [eM, hR_sRo (by omega)]; exact n5
    · rw [eM]; exact n6
    · rw [eM]; exact n7
    · rw [eM]; exact n8
    · intro j m hj hm
      rw [eM, hR_sRo (by omega), n9] at hm
      cases hm
    · intro j j' m hj hj' q
      rw [eM, hR_sRo (by omega), n9] at q
      cases q
    · exact (hR_sRo hne).trans (cl b hb hne).2.2.1
theorem c_Tl_reset (t : Nat) (a b c s : Int32) (h : AH) (Q : Po) (h1 : tg h t = 5) (hQ : Q (.inl none) (sL (zw h t (upd (upd (upd (upd (upd (upd (upd (upd (upd (hI h t) 0 a) 1 b) 2 c) 3 (nI 1)) 4 (nI 60)) 5 (nI 0)) 6 (nI 0)) 7 (nI 1000)) 10 (nI 0))) t 8 s.toInt64)) : Call l G M_Tl_reset [.ref t, .int a, .int b, .int c, .int s] h Q := by
  have zs : ∀ (h : AH) (f : Nat → Int32) (x : Int64), zw (sL h t 8 x) t f = sL (zw h t f) t 8 x := fun _ _ _ => rfl
  refine call_of rfl rfl (Nat.le_of_ble_eq_true rfl) ?_
  (obtain ⟨W9, hW9, hgo9⟩ := wp_ex (T_Tl_reset l G) [31] _; refine hgo9 200 _ _ _ _ ?_; simp -implicitDefEqProofs (disch := omega) only [hW9, inl, gate, Xq, tz_const, tz_iload, tz_lload, tz_dload, tz_aload, tz_istore, tz_astore, tz_lstore, tz_dstore, tz_iinc, tz_i1, tz_i2, tz_i2z, tz_l2, tz_l2z, tz_i2l, tz_l2i, tz_lcmp, tz_i2d, tz_d2, tz_dcmp, tz_dup, tz_dup2, tz_pop, tz_if, tz_icmp, tz_null, tz_goto, tz_sw, tz_getf, tz_puti, tz_putz, tz_putr, tz_putl, tz_iaload, tz_baload, tz_laload, tz_aaload, tz_iastore, tz_bastore, tz_lastore, tz_aastore, tz_alen, tz_new, tz_newa, tz_oinit, tz_iret, tz_zret, tz_lret, tz_dret, tz_aret, tz_vret, tz_throw, tz_callS, tz_callV, tz_callI, tz_callR, tz_pureS, tz_pureV, tz_callVH, lg, lset, lkill, lst1, lst2, entL, isRf, is1, vl, va_rf_none, va_rf_some, isRf_rf, is1_rf, i0, i1, bI_eq0, bI_eq1, nm_em, nI_eqP, nI_leP, nI_ltP, nN_e1, nN_e2, nN_l1, nN_l2, nN_l3, nN_l4, nI_add, pk_mul, vp_inN, nI_cl, n01, n10, P_i, P_ii, P_iii, f_Mo_at, f_Mo_map, f_Mo_contact, f_Mo_within, f_Mo_isPort, f_Hp_endpoint, f_Hp_nodeOf, f_Hp_portOf, f_Ma_max, f_Ma_min, f_Hp_isSetting, popN, rok, a1, noX, swc, mL, if_true, if_false, ↓reduceIte, cond_true, cond_false, true_and, and_true, List.length_cons, List.length_nil, List.nil_append, List.cons_append, List.append_nil, Option.toList, Nat.reduceEqDiff, Bool.false_eq_true, reduceCtorEq, Nat.reduceAdd, Nat.reduceLT, Nat.reduceLeDiff, Nat.reduceSub, List.replicate, Nat.zero_add, Nat.lt_add_one, Nat.le_refl, Nat.zero_le, Nat.succ_ne_zero, not_false_eq_true, not_true_eq_false, false_implies, true_implies, forall_const, imp_self, true_or, or_true, eq_self, sI_zw, zw_zw, hI_zw, tg_zw, ln_zw, hR_zw, hL_zw, hN_zw, hM_zw, upd_s, upd_u, upd_ne, Classical.not_not, k_Tl_reset, h1]; try clear hgo9 hW9)
  (obtain ⟨W9, hW9, hgo9⟩ := wp_ex (T_Tl_reset l G) [] _; refine hgo9 200 _ _ _ _ ?_; simp -implicitDefEqProofs (disch := omega) only [hW9, inl, gate, Xq, tz_const, tz_iload, tz_lload, tz_dload, tz_aload, tz_istore, tz_astore, tz_lstore, tz_dstore, tz_iinc, tz_i1, tz_i2, tz_i2z, tz_l2, tz_l2z, tz_i2l, tz_l2i, tz_lcmp, tz_i2d, tz_d2, tz_dcmp, tz_dup, tz_dup2, tz_pop, tz_if, tz_icmp, tz_null, tz_goto, tz_sw, tz_getf, tz_puti, tz_putz, tz_putr, tz_putl, tz_iaload, tz_baload, tz_laload, tz_aaload, tz_iastore, tz_bastore, tz_lastore, tz_aastore, tz_alen, tz_new, tz_newa, tz_oinit, tz_iret, tz_zret, tz_lret, tz_dret, tz_aret, tz_vret, tz_throw, tz_callS, tz_callV, tz_callI, tz_callR, tz_pureS, tz_pureV, tz_callVH, lg, lset, lkill, lst1, lst2, entL, isRf, is1, vl, va_rf_none, va_rf_some, isRf_rf, is1_rf, i0, i1, bI_eq0, bI_eq1, nm_em, nI_eqP, nI_leP, nI_ltP, nN_e1, nN_e2, nN_l1, nN_l2, nN_l3, nN_l4, nI_add, pk_mul, vp_inN, nI_cl, n01, n10, P_i, P_ii, P_iii, f_Mo_at, f_Mo_map, f_Mo_contact, f_Mo_within, f_Mo_isPort, f_Hp_endpoint, f_Hp_nodeOf, f_Hp_portOf, f_Ma_max, f_Ma_min, f_Hp_isSetting, popN, rok, a1, noX, swc, mL, if_true, if_false, ↓reduceIte, cond_true, cond_false, true_and, and_true, List.length_cons, List.length_nil, List.nil_append, List.cons_append, List.append_nil, Option.toList, Nat.reduceEqDiff, Bool.false_eq_true, reduceCtorEq, Nat.reduceAdd, Nat.reduceLT, Nat.reduceLeDiff, Nat.reduceSub, List.replicate, Nat.zero_add, Nat.lt_add_one, Nat.le_refl, Nat.zero_le, Nat.succ_ne_zero, not_false_eq_true, not_true_eq_false, false_implies, true_implies, forall_const, imp_self, true_or, or_true, eq_self, sI_zw, zw_zw, hI_zw, tg_zw, ln_zw, hR_zw, hL_zw, hN_zw, hM_zw, upd_s, upd_u, upd_ne, Classical.not_not, k_Tl_reset, h1, tg_sL, hI_sL, zs]; try clear hgo9 hW9)
  exact hQ
/-- slot c of wn is taken by the node n -/
def NxN (h h' : AH) (wn c n : Nat) : Prop := Fr wn 1 h h' ∧ (hI h' wn = upd (hI h wn) 2 (nI (c + 1)) ∧ hR h' wn = hR h wn ∧ hL h' wn = hL h wn) ∧ ((∀ j, j ≠ c → hR h' (nA h wn) j = hR h (nA h wn) j) ∧ hR h' (nA h wn) c = some n) ∧ (∀ b, b < hN h → b ≠ wn → b ≠ nA h wn → same1 h h' b) ∧ ShD h' wn c n
theorem c_Nw_nextNode (wn c : Nat) (h : AH) (Q : Po) (hw : WF h) (sn : ShN h wn) (hc : hI h wn 2 = nI c) (c10 : c < 10) (hQ : ∀ h' n, NxN h h' wn c n → Q (.inl (some (.ref n))) h') : Call l G M_Nw_nextNode [.ref wn] h Q := by
  obtain ⟨⟨h1, h2, h3, h4⟩, a5, a6, b, nod⟩ := id sn
  have lt : wn < hN h := hw.lt (by rw [h1]; decide)
  have lA' : nA h wn < hN h := hw.lt (by rw [h3]; decide)
  have nM : nA h wn ≠ wn := ne_tg (by rw [h1, h3]; decide)
  have s0 : ¬ nI c < nI 0 := by rw [nI_ltP (by omega) (by omega)]; omega
  refine call_of rfl rfl (Nat.le_of_ble_eq_true rfl) ?_
  cases e : hR h (nA h wn) c with
  | some n =>
    have g := nod c n c10 e
    ((obtain ⟨W9, hW9, hgo9⟩ := wp_ex (T_Nw_nextNode l G) [] _; refine hgo9 200 _ _ _ _ ?_; simp -implicitDefEqProofs (disch := omega) only [hW9, inl, gate, Xq, tz_const, tz_iload, tz_lload, tz_dload, tz_aload, tz_istore, tz_astore, tz_lstore, tz_dstore, tz_iinc, tz_i1, tz_i2, tz_i2z, tz_l2, tz_l2z, tz_i2l, tz_l2i, tz_lcmp, tz_i2d, tz_d2, tz_dcmp, tz_dup, tz_dup2, tz_pop, tz_if, tz_icmp, tz_null, tz_goto, tz_sw, tz_getf, tz_puti, tz_putz, tz_putr, tz_putl, tz_iaload, tz_baload, tz_laload, tz_aaload, tz_iastore, tz_bastore, tz_lastore, tz_aastore, tz_alen, tz_new, tz_newa, tz_oinit, tz_iret, tz_zret, tz_lret, tz_dret, tz_aret, tz_vret, tz_throw, tz_callS, tz_callV, tz_callI, tz_callR, tz_pureS, tz_pureV, tz_callVH, lg, lset, lkill, lst1, lst2, entL, isRf, is1, vl, va_rf_none, va_rf_some, isRf_rf, is1_rf, i0, i1, bI_eq0, bI_eq1, nm_em, nI_eqP, nI_leP, nI_ltP, nN_e1, nN_e2, nN_l1, nN_l2, nN_l3, nN_l4, nI_add, pk_mul, vp_inN, nI_cl, n01, n10, P_i, P_ii, P_iii, f_Mo_at, f_Mo_map, f_Mo_contact, f_Mo_within, f_Mo_isPort, f_Hp_endpoint, f_Hp_nodeOf, f_Hp_portOf, f_Ma_max, f_Ma_min, f_Hp_isSetting, popN, rok, a1, noX, swc, mL, if_true, if_false, ↓reduceIte, cond_true, cond_false, true_and, and_true, List.length_cons, List.length_nil, List.nil_append, List.cons_append, List.append_nil, Option.toList, Nat.reduceEqDiff, Bool.false_eq_true, reduceCtorEq, Nat.reduceAdd, Nat.reduceLT, Nat.reduceLeDiff, Nat.reduceSub, List.replicate, Nat.zero_add, Nat.lt_add_one, Nat.le_refl, Nat.zero_le, Nat.succ_ne_zero, not_false_eq_true, not_true_eq_false, false_implies, true_implies, forall_const, imp_self, true_or, or_true, eq_self, sI_zw, zw_zw, hI_zw, tg_zw, ln_zw, hR_zw, hL_zw, hN_zw, hM_zw, upd_s, upd_u, upd_ne, Classical.not_not, k_Nw_nextNode, h1, h2, h3, h4, hc, s0, c10, e, pk_sub, Nat.add_sub_cancel]; try clear hgo9 hW9); try (obtain ⟨W9, hW9, hgo9⟩ := wp_ex (T_Nw_nextNode l G) [] _; refine hgo9 200 _ _ _ _ ?_; simp -implicitDefEqProofs (disch := omega) only [hW9, inl, gate, Xq, tz_const, tz_iload, tz_lload, tz_dload, tz_aload, tz_istore, tz_astore, tz_lstore, tz_dstore, tz_iinc, tz_i1, tz_i2, tz_i2z, tz_l2, tz_l2z, tz_i2l, tz_l2i, tz_lcmp, tz_i2d, tz_d2, tz_dcmp, tz_dup, tz_dup2, tz_pop, tz_if, tz_icmp, tz_null, tz_goto, tz_sw, tz_getf, tz_puti, tz_putz, tz_putr, tz_putl, tz_iaload, tz_baload, tz_laload, tz_aaload, tz_iastore, tz_bastore, tz_lastore, tz_aastore, tz_alen, tz_new, tz_newa, tz_oinit, tz_iret, tz_zret, tz_lret, tz_dret, tz_aret, tz_vret, tz_throw, tz_callS, tz_callV, tz_callI, tz_callR, tz_pureS, tz_pureV, tz_callVH, lg, lset, lkill, lst1, lst2, entL, isRf, is1, vl, va_rf_none, va_rf_some, isRf_rf, is1_rf, i0, i1, bI_eq0, bI_eq1, nm_em, nI_eqP, nI_leP, nI_ltP, nN_e1, nN_e2, nN_l1, nN_l2, nN_l3, nN_l4, nI_add, pk_mul, vp_inN, nI_cl, n01, n10, P_i, P_ii, P_iii, f_Mo_at, f_Mo_map, f_Mo_contact, f_Mo_within, f_Mo_isPort, f_Hp_endpoint, f_Hp_nodeOf, f_Hp_portOf, f_Ma_max, f_Ma_min, f_Hp_isSetting, popN, rok, a1, noX, swc, mL, if_true, if_false, ↓reduceIte, cond_true, cond_false, true_and, and_true, List.length_cons, List.length_nil, List.nil_append, List.cons_append, List.append_nil, Option.toList, Nat.reduceEqDiff, Bool.false_eq_true, reduceCtorEq, Nat.reduceAdd, Nat.reduceLT, Nat.reduceLeDiff, Nat.reduceSub, List.replicate, Nat.zero_add, Nat.lt_add_one, Nat.le_refl, Nat.zero_le, Nat.succ_ne_zero, not_false_eq_true, not_true_eq_false, false_implies, true_implies, forall_const, imp_self, true_or, or_true, eq_self, sI_zw, zw_zw, hI_zw, tg_zw, ln_zw, hR_zw, hL_zw, hN_zw, hM_zw, upd_s, upd_u, upd_ne, Classical.not_not, k_Nw_nextNode, h1, h2, h3, h4, hc, s0, c10, e, pk_sub, Nat.add_sub_cancel]; try clear hgo9 hW9); try (obtain ⟨W9, hW9, hgo9⟩ := wp_ex (T_Nw_nextNode l G) [] _; refine hgo9 200 _ _ _ _ ?_; simp -implicitDefEqProofs (disch := omega) only [hW9, inl, gate, Xq, tz_const, tz_iload, tz_lload, tz_dload, tz_aload, tz_istore, tz_astore, tz_lstore, tz_dstore, tz_iinc, tz_i1, tz_i2, tz_i2z, tz_l2, tz_l2z, tz_i2l, tz_l2i, tz_lcmp, tz_i2d, tz_d2, tz_dcmp, tz_dup, tz_dup2, tz_pop, tz_if, tz_icmp, tz_null, tz_goto, tz_sw, tz_getf, tz_puti, tz_putz, tz_putr, tz_putl, tz_iaload, tz_baload, tz_laload, tz_aaload, tz_iastore, tz_bastore, tz_lastore, tz_aastore, tz_alen, tz_new, tz_newa, tz_oinit, tz_iret, tz_zret, tz_lret, tz_dret, tz_aret, tz_vret, tz_throw, tz_callS, tz_callV, tz_callI, tz_callR, tz_pureS, tz_pureV, tz_callVH, lg, lset, lkill, lst1, lst2, entL, isRf, is1, vl, va_rf_none, va_rf_some, isRf_rf, is1_rf, i0, i1, bI_eq0, bI_eq1, nm_em, nI_eqP, nI_leP, nI_ltP, nN_e1, nN_e2, nN_l1, nN_l2, nN_l3, nN_l4, nI_add, pk_mul, vp_inN, nI_cl, n01, n10, P_i, P_ii, P_iii, f_Mo_at, f_Mo_map, f_Mo_contact, f_Mo_within, f_Mo_isPort, f_Hp_endpoint, f_Hp_nodeOf, f_Hp_portOf, f_Ma_max, f_Ma_min, f_Hp_isSetting, popN, rok, a1, noX, swc, mL, if_true, if_false, ↓reduceIte, cond_true, cond_false, true_and, and_true, List.length_cons, List.length_nil, List.nil_append, List.cons_append, List.append_nil, Option.toList, Nat.reduceEqDiff, Bool.false_eq_true, reduceCtorEq, Nat.reduceAdd, Nat.reduceLT, Nat.reduceLeDiff, Nat.reduceSub, List.replicate, Nat.zero_add, Nat.lt_add_one, Nat.le_refl, Nat.zero_le, Nat.succ_ne_zero, not_false_eq_true, not_true_eq_false, false_implies, true_implies, forall_const, imp_self, true_or, or_true, eq_self, sI_zw, zw_zw, hI_zw, tg_zw, ln_zw, hR_zw, hL_zw, hN_zw, hM_zw, upd_s, upd_u, upd_ne, Classical.not_not, k_Nw_nextNode, h1, h2, h3, h4, hc, s0, c10, e, pk_sub, Nat.add_sub_cancel]; try clear hgo9 hW9); try (obtain ⟨W9, hW9, hgo9⟩ := wp_ex (T_Nw_nextNode l G) [] _; refine hgo9 200 _ _ _ _ ?_; simp -implicitDefEqProofs (disch := omega) only [hW9, inl, gate, Xq, tz_const, tz_iload, tz_lload, tz_dload, tz_aload, tz_istore, tz_astore, tz_lstore, tz_dstore, tz_iinc, tz_i1, tz_i2, tz_i2z, tz_l2, tz_l2z, tz_i2l, tz_l2i, tz_lcmp, tz_i2d, tz_d2, tz_dcmp, tz_dup, tz_dup2, tz_pop, tz_if, tz_icmp, tz_null, tz_goto, tz_sw, tz_getf, tz_puti, tz_putz, tz_putr, tz_putl, tz_iaload, tz_baload, tz_laload, tz_aaload, tz_iastore, tz_bastore, tz_lastore, tz_aastore, tz_alen, tz_new, tz_newa, tz_oinit, tz_iret, tz_zret, tz_lret, tz_dret, tz_aret, tz_vret, tz_throw, tz_callS, tz_callV, tz_callI, tz_callR, tz_pureS, tz_pureV, tz_callVH, lg, lset, lkill, lst1, lst2, entL, isRf, is1, vl, va_rf_none, va_rf_some, isRf_rf, is1_rf, i0, i1, bI_eq0, bI_eq1, nm_em, nI_eqP, nI_leP, nI_ltP, nN_e1, nN_e2, nN_l1, nN_l2, nN_l3, nN_l4, nI_add, pk_mul, vp_inN, nI_cl, n01, n10, P_i, P_ii, P_iii, f_Mo_at, f_Mo_map, f_Mo_contact, f_Mo_within, f_Mo_isPort, f_Hp_endpoint, f_Hp_nodeOf, f_Hp_portOf, f_Ma_max, f_Ma_min, f_Hp_isSetting, popN, rok, a1, noX, swc, mL, if_true, if_false, ↓reduceIte, cond_true, cond_false, true_and, and_true, List.length_cons, List.length_nil, List.nil_append, List.cons_append, List.append_nil, Option.toList, Nat.reduceEqDiff, Bool.false_eq_true, reduceCtorEq, Nat.reduceAdd, Nat.reduceLT, Nat.reduceLeDiff, Nat.reduceSub, List.replicate, Nat.zero_add, Nat.lt_add_one, Nat.le_refl, Nat.zero_le, Nat.succ_ne_zero, not_false_eq_true, not_true_eq_false, false_implies, true_implies, forall_const, imp_self, true_or, or_true, eq_self, sI_zw, zw_zw, hI_zw, tg_zw, ln_zw, hR_zw, hL_zw, hN_zw, hM_zw, upd_s, upd_u, upd_ne, Classical.not_not, k_Nw_nextNode, h1, h2, h3, h4, hc, s0, c10, e, pk_sub, Nat.add_sub_cancel]; try clear hgo9 hW9))
    have nn : n ≠ wn := ne_tg (by rw [g.1, h1]; decide)
    refine hQ _ n ⟨(Fr.zw hw (rt_gh a5)).mono (by omega), ⟨hI_zw _ _ _, rfl, rfl⟩, ⟨fun _ _ => rfl, e⟩, fun b _ hb _ => ⟨rfl, hI_zw_ne _ hb, rfl, rfl⟩, ?_⟩
    simp only [ShD, ShT, TlK, ShM, mM, cC] at g ⊢
    exact g
  | none =>
    have tgn : ∀ g, tg (nw h 3 5 g) (hN h) = 3 := fun g => tg_nw0 h 3 5 g
    ((obtain ⟨W9, hW9, hgo9⟩ := wp_ex (T_Nw_nextNode l G) [] _; refine hgo9 200 _ _ _ _ ?_; simp -implicitDefEqProofs (disch := omega) only [hW9, inl, gate, Xq, tz_const, tz_iload, tz_lload, tz_dload, tz_aload, tz_istore, tz_astore, tz_lstore, tz_dstore, tz_iinc, tz_i1, tz_i2, tz_i2z, tz_l2, tz_l2z, tz_i2l, tz_l2i, tz_lcmp, tz_i2d, tz_d2, tz_dcmp, tz_dup, tz_dup2, tz_pop, tz_if, tz_icmp, tz_null, tz_goto, tz_sw, tz_getf, tz_puti, tz_putz, tz_putr, tz_putl, tz_iaload, tz_baload, tz_laload, tz_aaload, tz_iastore, tz_bastore, tz_lastore, tz_aastore, tz_alen, tz_new, tz_newa, tz_oinit, tz_iret, tz_zret, tz_lret, tz_dret, tz_aret, tz_vret, tz_throw, tz_callS, tz_callV, tz_callI, tz_callR, tz_pureS, tz_pureV, tz_callVH, lg, lset, lkill, lst1, lst2, entL, isRf, is1, vl, va_rf_none, va_rf_some, isRf_rf, is1_rf, i0, i1, bI_eq0, bI_eq1, nm_em, nI_eqP, nI_leP, nI_ltP, nN_e1, nN_e2, nN_l1, nN_l2, nN_l3, nN_l4, nI_add, pk_mul, vp_inN, nI_cl, n01, n10, P_i, P_ii, P_iii, f_Mo_at, f_Mo_map, f_Mo_contact, f_Mo_within, f_Mo_isPort, f_Hp_endpoint, f_Hp_nodeOf, f_Hp_portOf, f_Ma_max, f_Ma_min, f_Hp_isSetting, popN, rok, a1, noX, swc, mL, if_true, if_false, ↓reduceIte, cond_true, cond_false, true_and, and_true, List.length_cons, List.length_nil, List.nil_append, List.cons_append, List.append_nil, Option.toList, Nat.reduceEqDiff, Bool.false_eq_true, reduceCtorEq, Nat.reduceAdd, Nat.reduceLT, Nat.reduceLeDiff, Nat.reduceSub, List.replicate, Nat.zero_add, Nat.lt_add_one, Nat.le_refl, Nat.zero_le, Nat.succ_ne_zero, not_false_eq_true, not_true_eq_false, false_implies, true_implies, forall_const, imp_self, true_or, or_true, eq_self, sI_zw, zw_zw, hI_zw, tg_zw, ln_zw, hR_zw, hL_zw, hN_zw, hM_zw, upd_s, upd_u, upd_ne, Classical.not_not, k_Nw_nextNode, h1, h2, h3, h4, hc, s0, c10, e, tgn]; try clear hgo9 hW9); try (obtain ⟨W9, hW9, hgo9⟩ := wp_ex (T_Nw_nextNode l G) [] _; refine hgo9 200 _ _ _ _ ?_; simp -implicitDefEqProofs (disch := omega) only [hW9, inl, gate, Xq, tz_const, tz_iload, tz_lload, tz_dload, tz_aload, tz_istore, tz_astore, tz_lstore, tz_dstore, tz_iinc, tz_i1, tz_i2, tz_i2z, tz_l2, tz_l2z, tz_i2l, tz_l2i, tz_lcmp, tz_i2d, tz_d2, tz_dcmp, tz_dup, tz_dup2, tz_pop, tz_if, tz_icmp, tz_null, tz_goto, tz_sw, tz_getf, tz_puti, tz_putz, tz_putr, tz_putl, tz_iaload, tz_baload, tz_laload, tz_aaload, tz_iastore, tz_bastore, tz_lastore, tz_aastore, tz_alen, tz_new, tz_newa, tz_oinit, tz_iret, tz_zret, tz_lret, tz_dret, tz_aret, tz_vret, tz_throw, tz_callS, tz_callV, tz_callI, tz_callR, tz_pureS, tz_pureV, tz_callVH, lg, lset, lkill, lst1, lst2, entL, isRf, is1, vl, va_rf_none, va_rf_some, isRf_rf, is1_rf, i0, i1, bI_eq0, bI_eq1, nm_em, nI_eqP, nI_leP, nI_ltP, nN_e1, nN_e2, nN_l1, nN_l2, nN_l3, nN_l4, nI_add, pk_mul, vp_inN, nI_cl, n01, n10, P_i, P_ii, P_iii, f_Mo_at, f_Mo_map, f_Mo_contact, f_Mo_within, f_Mo_isPort, f_Hp_endpoint, f_Hp_nodeOf, f_Hp_portOf, f_Ma_max, f_Ma_min, f_Hp_isSetting, popN, rok, a1, noX, swc, mL, if_true, if_false, ↓reduceIte, cond_true, cond_false, true_and, and_true, List.length_cons, List.length_nil, List.nil_append, List.cons_append, List.append_nil, Option.toList, Nat.reduceEqDiff, Bool.false_eq_true, reduceCtorEq, Nat.reduceAdd, Nat.reduceLT, Nat.reduceLeDiff, Nat.reduceSub, List.replicate, Nat.zero_add, Nat.lt_add_one, Nat.le_refl, Nat.zero_le, Nat.succ_ne_zero, not_false_eq_true, not_true_eq_false, false_implies, true_implies, forall_const, imp_self, true_or, or_true, eq_self, sI_zw, zw_zw, hI_zw, tg_zw, ln_zw, hR_zw, hL_zw, hN_zw, hM_zw, upd_s, upd_u, upd_ne, Classical.not_not, k_Nw_nextNode, h1, h2, h3, h4, hc, s0, c10, e, tgn]; try clear hgo9 hW9); try (obtain ⟨W9, hW9, hgo9⟩ := wp_ex (T_Nw_nextNode l G) [] _; refine hgo9 200 _ _ _ _ ?_; simp -implicitDefEqProofs (disch := omega) only [hW9, inl, gate, Xq, tz_const, tz_iload, tz_lload, tz_dload, tz_aload, tz_istore, tz_astore, tz_lstore, tz_dstore, tz_iinc, tz_i1, tz_i2, tz_i2z, tz_l2, tz_l2z, tz_i2l, tz_l2i, tz_lcmp, tz_i2d, tz_d2, tz_dcmp, tz_dup, tz_dup2, tz_pop, tz_if, tz_icmp, tz_null, tz_goto, tz_sw, tz_getf, tz_puti, tz_putz, tz_putr, tz_putl, tz_iaload, tz_baload, tz_laload, tz_aaload, tz_iastore, tz_bastore, tz_lastore, tz_aastore, tz_alen, tz_new, tz_newa, tz_oinit, tz_iret, tz_zret, tz_lret, tz_dret, tz_aret, tz_vret, tz_throw, tz_callS, tz_callV, tz_callI, tz_callR, tz_pureS, tz_pureV, tz_callVH, lg, lset, lkill, lst1, lst2, entL, isRf, is1, vl, va_rf_none, va_rf_some, isRf_rf, is1_rf, i0, i1, bI_eq0, bI_eq1, nm_em, nI_eqP, nI_leP, nI_ltP, nN_e1, nN_e2, nN_l1, nN_l2, nN_l3, nN_l4, nI_add, pk_mul, vp_inN, nI_cl, n01, n10, P_i, P_ii, P_iii, f_Mo_at, f_Mo_map, f_Mo_contact, f_Mo_within, f_Mo_isPort, f_Hp_endpoint, f_Hp_nodeOf, f_Hp_portOf, f_Ma_max, f_Ma_min, f_Hp_isSetting, popN, rok, a1, noX, swc, mL, if_true, if_false, ↓reduceIte, cond_true, cond_false, true_and, and_true, List.length_cons, List.length_nil, List.nil_append, List.cons_append, List.append_nil, Option.toList, Nat.reduceEqDiff, Bool.false_eq_true, reduceCtorEq, Nat.reduceAdd, Nat.reduceLT, Nat.reduceLeDiff, Nat.reduceSub, List.replicate, Nat.zero_add, Nat.lt_add_one, Nat.le_refl, Nat.zero_le, Nat.succ_ne_zero, not_false_eq_true, not_true_eq_false, false_implies, true_implies, forall_const, imp_self, true_or, or_true, eq_self, sI_zw, zw_zw, hI_zw, tg_zw, ln_zw, hR_zw, hL_zw, hN_zw, hM_zw, upd_s, upd_u, upd_ne, Classical.not_not, k_Nw_nextNode, h1, h2, h3, h4, hc, s0, c10, e, tgn]; try clear hgo9 hW9); try (obtain ⟨W9, hW9, hgo9⟩ := wp_ex (T_Nw_nextNode l G) [] _; refine hgo9 200 _ _ _ _ ?_; simp -implicitDefEqProofs (disch := omega) only [hW9, inl, gate, Xq, tz_const, tz_iload, tz_lload, tz_dload, tz_aload, tz_istore, tz_astore, tz_lstore, tz_dstore, tz_iinc, tz_i1, tz_i2, tz_i2z, tz_l2, tz_l2z, tz_i2l, tz_l2i, tz_lcmp, tz_i2d, tz_d2, tz_dcmp, tz_dup, tz_dup2, tz_pop, tz_if, tz_icmp, tz_null, tz_goto, tz_sw, tz_getf, tz_puti, tz_putz, tz_putr, tz_putl, tz_iaload, tz_baload, tz_laload, tz_aaload, tz_iastore, tz_bastore, tz_lastore, tz_aastore, tz_alen, tz_new, tz_newa, tz_oinit, tz_iret, tz_zret, tz_lret, tz_dret, tz_aret, tz_vret, tz_throw, tz_callS, tz_callV, tz_callI, tz_callR, tz_pureS, tz_pureV, tz_callVH, lg, lset, lkill, lst1, lst2, entL, isRf, is1, vl, va_rf_none, va_rf_some, isRf_rf, is1_rf, i0, i1, bI_eq0, bI_eq1, nm_em, nI_eqP, nI_leP, nI_ltP, nN_e1, nN_e2, nN_l1, nN_l2, nN_l3, nN_l4, nI_add, pk_mul, vp_inN, nI_cl, n01, n10, P_i, P_ii, P_iii, f_Mo_at, f_Mo_map, f_Mo_contact, f_Mo_within, f_Mo_isPort, f_Hp_endpoint, f_Hp_nodeOf, f_Hp_portOf, f_Ma_max, f_Ma_min, f_Hp_isSetting, popN, rok, a1, noX, swc, mL, if_true, if_false, ↓reduceIte, cond_true, cond_false, true_and, and_true, List.length_cons, List.length_nil, List.nil_append, List.cons_append, List.append_nil, Option.toList, Nat.reduceEqDiff, Bool.false_eq_true, reduceCtorEq, Nat.reduceAdd, Nat.reduceLT, Nat.reduceLeDiff, Nat.reduceSub, List.replicate, Nat.zero_add, Nat.lt_add_one, Nat.le_refl, Nat.zero_le, Nat.succ_ne_zero, not_false_eq_true, not_true_eq_false, false_implies, true_implies, forall_const, imp_self, true_or, or_true, eq_self, sI_zw, zw_zw, hI_zw, tg_zw, ln_zw, hR_zw, hL_zw, hN_zw, hM_zw, upd_s, upd_u, upd_ne, Classical.not_not, k_Nw_nextNode, h1, h2, h3, h4, hc, s0, c10, e, tgn]; try clear hgo9 hW9))
    refine ⟨[wn, 3, c], ?_⟩
    refine c_No_init (hN h) _ _ (tgn _) ?_
    simp only [aft]
    have cl : ∀ b, b < hN h → same1 h (sR (zw (nw h 3 5 [wn, 3, c]) (hN h) (hoI (hI (nw h 3 5 [wn, 3, c]) (hN h)) nN)) (hN h) 4 none) b := by
      intro b hb
      have ne : b ≠ hN h := by omega
      exact ⟨hT_nw ne, (hI_zw_ne _ ne).trans (hI_nw ne), (hR_sRo ne).trans (hR_nw (t := 3) (n := 5) (g := [wn, 3, c]) ne), hL_nw (t := 3) (n := 5) (g := [wn, 3, c]) ne⟩
    have hNe : hN (sR (zw (nw h 3 5 [wn, 3, c]) (hN h) (hoI (hI (nw h 3 5 [wn, 3, c]) (hN h)) nN)) (hN h) 4 none) = hN h + 1 := rfl
    have hMe : hM (sR (zw (nw h 3 5 [wn, 3, c]) (hN h) (hoI (hI (nw h 3 5 [wn, 3, c]) (hN h)) nN)) (hN h) 4 none) = hM h + 5 := rfl
    have tge : tg (sR (zw (nw h 3 5 [wn, 3, c]) (hN h) (hoI (hI (nw h 3 5 [wn, 3, c]) (hN h)) nN)) (hN h) 4 none) (hN h) = 3 := tgn _
    have ghe : gh (sR (zw (nw h 3 5 [wn, 3, c]) (hN h) (hoI (hI (nw h 3 5 [wn, 3, c]) (hN h)) nN)) (hN h) 4 none) (hN h) = [wn, 3, c] := gh_nw0 _ _ _ _
    have r4 : hR (sR (zw (nw h 3 5 [wn, 3, c]) (hN h) (hoI (hI (nw h 3 5 [wn, 3, c]) (hN h)) nN)) (hN h) 4 none) (hN h) 4 = none := hR_sR _ _ _ _
    have tg9 : ∀ b, hN h < b → tg (sR (zw (nw h 3 5 [wn, 3, c]) (hN h) (hoI (hI (nw h 3 5 [wn, 3, c]) (hN h)) nN)) (hN h) 4 none) b = tg h b := fun b hb => tg_nwo (by omega)
    generalize sR (zw (nw h 3 5 [wn, 3, c]) (hN h) (hoI (hI (nw h 3 5 [wn, 3, c]) (hN h)) nN)) (hN h) 4 none = h' at *
    have u1 : tg h' wn = 1 := (cl wn lt).tg.trans h1
    have u2' : hR h' wn 0 = some (nA h wn) := by rw [(cl wn lt).2.2.1]; exact h2
    have u3 : tg h' (nA h wn) = 11 := (cl _ lA').tg.trans h3
    have u4 : ln h' (nA h wn) = 10 := (cl _ lA').ln.trans h4
    have u5 : hI h' wn = hI h wn := (cl wn lt).2.1
    have u7 : hI h' wn 2 = nI c := by rw [u5]; exact hc
    have e11 : ecl 11 = 3 := rfl
    have ro : ∀ x, hR (sR h' (nA h wn) c x) wn = hR h' wn := fun x => hR_sRo nM.symm
    have rs : ∀ x, hR (sR h' (nA h wn) c x) (nA h wn) c = x := fun x => hR_sR _ _ _ _
    ((obtain ⟨W9, hW9, hgo9⟩ := wp_ex (T_Nw_nextNode l G) [] _; refine hgo9 200 _ _ _ _ ?_; simp -implicitDefEqProofs (disch := omega) only [hW9, inl, gate, Xq, tz_const, tz_iload, tz_lload, tz_dload, tz_aload, tz_istore, tz_astore, tz_lstore, tz_dstore, tz_iinc, tz_i1, tz_i2, tz_i2z, tz_l2, tz_l2z, tz_i2l, tz_l2i, tz_lcmp, tz_i2d, tz_d2, tz_dcmp, tz_dup, tz_dup2, tz_pop, tz_if, tz_icmp, tz_null, tz_goto, tz_sw, tz_getf, tz_puti, tz_putz, tz_putr, tz_putl, tz_iaload, tz_baload, tz_laload, tz_aaload, tz_iastore, tz_bastore, tz_lastore, tz_aastore, tz_alen, tz_new, tz_newa, tz_oinit, tz_iret, tz_zret, tz_lret, tz_dret, tz_aret, tz_vret, tz_throw, tz_callS, tz_callV, tz_callI, tz_callR, tz_pureS, tz_pureV, tz_callVH, lg, lset, lkill, lst1, lst2, entL, isRf, is1, vl, va_rf_none, va_rf_some, isRf_rf, is1_rf, i0, i1, bI_eq0, bI_eq1, nm_em, nI_eqP, nI_leP, nI_ltP, nN_e1, nN_e2, nN_l1, nN_l2, nN_l3, nN_l4, nI_add, pk_mul, vp_inN, nI_cl, n01, n10, P_i, P_ii, P_iii, f_Mo_at, f_Mo_map, f_Mo_contact, f_Mo_within, f_Mo_isPort, f_Hp_endpoint, f_Hp_nodeOf, f_Hp_portOf, f_Ma_max, f_Ma_min, f_Hp_isSetting, popN, rok, a1, noX, swc, mL, if_true, if_false, ↓reduceIte, cond_true, cond_false, true_and, and_true, List.length_cons, List.length_nil, List.nil_append, List.cons_append, List.append_nil, Option.toList, Nat.reduceEqDiff, Bool.false_eq_true, reduceCtorEq, Nat.reduceAdd, Nat.reduceLT, Nat.reduceLeDiff, Nat.reduceSub, List.replicate, Nat.zero_add, Nat.lt_add_one, Nat.le_refl, Nat.zero_le, Nat.succ_ne_zero, not_false_eq_true, not_true_eq_false, false_implies, true_implies, forall_const, imp_self, true_or, or_true, eq_self, sI_zw, zw_zw, hI_zw, tg_zw, ln_zw, hR_zw, hL_zw, hN_zw, hM_zw, upd_s, upd_u, upd_ne, Classical.not_not, k_Nw_nextNode, u1, u2', u3, u4, tge, u7, e11, pk_sub, Nat.add_sub_cancel, tg_sR, ln_sR, hI_sR, ro, rs]; try clear hgo9 hW9); try (obtain ⟨W9, hW9, hgo9⟩ := wp_ex (T_Nw_nextNode l G) [] _; refine hgo9 200 _ _ _ _ ?_; simp -implicitDefEqProofs (disch := omega) only [hW9, inl, gate, Xq, tz_const, tz_iload, tz_lload, tz_dload, tz_aload, tz_istore, tz_astore, tz_lstore, tz_dstore, tz_iinc, tz_i1, tz_i2, tz_i2z, tz_l2, tz_l2z, tz_i2l, tz_l2i, tz_lcmp, tz_i2d, tz_d2, tz_dcmp, tz_dup, tz_dup2, tz_pop, tz_if, tz_icmp, tz_null, tz_goto, tz_sw, tz_getf, tz_puti, tz_putz, tz_putr, tz_putl, tz_iaload, tz_baload, tz_laload, tz_aaload, tz_iastore, tz_bastore, tz_lastore, tz_aastore, tz_alen, tz_new, tz_newa, tz_oinit, tz_iret, tz_zret, tz_lret, tz_dret, tz_aret, tz_vret, tz_throw, tz_callS, tz_callV, tz_callI, tz_callR, tz_pureS, tz_pureV, tz_callVH, lg, lset, lkill, lst1, lst2, entL, isRf, is1, vl, va_rf_none, va_rf_some, isRf_rf, is1_rf, i0, i1, bI_eq0, bI_eq1, nm_em, nI_eqP, nI_leP, nI_ltP, nN_e1, nN_e2, nN_l1, nN_l2, nN_l3, nN_l4, nI_add, pk_mul, vp_inN, nI_cl, n01, n10, P_i, P_ii, P_iii, f_Mo_at, f_Mo_map, f_Mo_contact, f_Mo_within, f_Mo_isPort, f_Hp_endpoint, f_Hp_nodeOf, f_Hp_portOf, f_Ma_max, f_Ma_min, f_Hp_isSetting, popN, rok, a1, noX, swc, mL, if_true, if_false, ↓reduceIte, cond_true, cond_false, true_and, and_true, List.length_cons, List.length_nil, List.nil_append, List.cons_append, List.append_nil, Option.toList, Nat.reduceEqDiff, Bool.false_eq_true, reduceCtorEq, Nat.reduceAdd, Nat.reduceLT, Nat.reduceLeDiff, Nat.reduceSub, List.replicate, Nat.zero_add, Nat.lt_add_one, Nat.le_refl, Nat.zero_le, Nat.succ_ne_zero, not_false_eq_true, not_true_eq_false, false_implies, true_implies, forall_const, imp_self, true_or, or_true, eq_self, sI_zw, zw_zw, hI_zw, tg_zw, ln_zw, hR_zw, hL_zw, hN_zw, hM_zw, upd_s, upd_u, upd_ne, Classical.not_not, k_Nw_nextNode, u1, u2', u3, u4, tge, u7, e11, pk_sub, Nat.add_sub_cancel, tg_sR, ln_sR, hI_sR, ro, rs]; try clear hgo9 hW9))
    refine hQ _ (hN h) ⟨⟨⟨?_, ?_, ?_, ?_⟩, ?_, ?_, ?_, ?_⟩, ⟨?_, ?_, ?_⟩, ⟨fun j hj => ?_, rs _⟩, fun b hb b1 b2 => ⟨(cl b hb).1, ?_, ?_, (cl b hb).2.2.2⟩, ⟨tge, ghe, fun t ht => ?_⟩⟩
    · show hN h ≤ hN h'; omega
    · show hN h' ≤ hN h + 1; omega
    · show hM h' + 12 * hN h ≤ hM h + 12 * hN h'; omega
    · show hM h ≤ hM h'; omega
    · exact fun b hb => (cl b hb).1
    · intro b hb hr
      have b1 : b ≠ wn := fun q => hr (by rw [q]; exact rt_gh a5)
      have b2 : b ≠ nA h wn := fun q => hr (by rw [q]; exact rt_gh a6)
      exact ⟨(cl b hb).1, (hI_zw_ne _ b1).trans (cl b hb).2.1, (hR_sRo b2).trans (cl b hb).2.2.1, (cl b hb).2.2.2⟩
    · intro b b1 b2
      replace b2 : b < hN h' := b2
      have : b = hN h := by omega
      subst this
      exact rt_gh ghe
    · intro b hb
      replace hb : hN h' ≤ b := hb
      show tg h' b = 99
      rw [tg9 b (by omega)]
      exact hw b (by omega)
    · rw [hI_zw, u5]
    · show hR (sR h' (nA h wn) c _) wn = _
      rw [ro]; exact (cl wn lt).2.2.1
    · exact (cl wn lt).2.2.2
    · show hR (sR h' (nA h wn) c _) (nA h wn) j = _
      rw [hR_sRk hj, (cl _ lA').2.2.1]
    · rw [hI_zw_ne _ b1]; exact (cl b hb).2.1
    · show hR (sR h' (nA h wn) c _) b = _
      rw [hR_sRo b2]; exact (cl b hb).2.2.1
    · exfalso
      have : hR (sR h' (nA h wn) c (some (hN h))) (hN h) 4 = some t := ht
      rw [hR_sRo (by omega), r4] at this
      cases this
end
