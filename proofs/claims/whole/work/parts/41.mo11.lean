/-! THE REFERENCE: a fresh port -/
def k_Mo_freshPort (l : Launch) (G : Gc) (pc : Nat) : Tr :=
  if pc < 64 then
   if pc < 34 then
    if pc < 15 then
     if pc < 6 then
      if pc < 2 then
       if pc < 1 then
        if pc = 0 then tz_iload 1 2 else dead
       else
        if pc = 1 then tz_istore 2 3 else dead
      else
       if pc < 3 then
        if pc = 2 then tz_aload 3 0 else dead
       else
        if pc = 3 then tz_getf 6 7 1 1 else dead
     else
      if pc < 8 then
       if pc < 7 then
        if pc = 6 then tz_iload 7 1 else dead
       else
        if pc = 7 then tz_const 8 (.int (nI 4)) else dead
      else
       if pc < 11 then
        if pc = 8 then tz_pureS 11 2 P_Mo_at f_Mo_at else dead
       else
        if pc < 12 then
         if pc = 11 then tz_iaload 12 else dead
        else
         if pc = 12 then tz_if 15 43 (fun a => ¬ a = 0) else dead
    else
     if pc < 21 then
      if pc < 17 then
       if pc < 16 then
        if pc = 15 then tz_aload 16 0 else dead
       else
        if pc = 16 then tz_iload 17 1 else dead
      else
       if pc < 18 then
        if pc = 17 then tz_iload 18 3 else dead
       else
        if pc = 18 then tz_pureV 21 2 7 P_Mo_hasOuter f_Mo_hasOuter else dead
     else
      if pc < 27 then
       if pc < 24 then
        if pc = 21 then tz_if 24 30 (fun a => a = 0) else dead
       else
        if pc = 24 then tz_iinc 27 3 (nI 1) else dead
      else
       if pc < 30 then
        if pc = 27 then tz_goto 15 else dead
       else
        if pc < 31 then
         if pc = 30 then tz_iload 31 3 else dead
        else
         if pc = 31 then tz_const 34 (.int (nI 9999)) else dead
   else
    if pc < 49 then
     if pc < 42 then
      if pc < 38 then
       if pc < 37 then
        if pc = 34 then tz_icmp 37 41 (fun a b => b < a) else dead
       else
        if pc = 37 then tz_iload 38 3 else dead
      else
       if pc < 41 then
        if pc = 38 then tz_goto 42 else dead
       else
        if pc = 41 then tz_const 42 (.int (nN)) else dead
     else
      if pc < 44 then
       if pc < 43 then
        if pc = 42 then tz_iret else dead
       else
        if pc = 43 then tz_aload 44 0 else dead
      else
       if pc < 47 then
        if pc = 44 then tz_getf 47 7 1 1 else dead
       else
        if pc < 48 then
         if pc = 47 then tz_iload 48 1 else dead
        else
         if pc = 48 then tz_const 49 (.int (nI 4)) else dead
    else
     if pc < 57 then
      if pc < 53 then
       if pc < 52 then
        if pc = 49 then tz_pureS 52 2 P_Mo_at f_Mo_at else dead
       else
        if pc = 52 then tz_iaload 53 else dead
      else
       if pc < 54 then
        if pc = 53 then tz_const 54 (.int (nI 1)) else dead
       else
        if pc = 54 then tz_icmp 57 103 (fun a b => ¬ a = b) else dead
     else
      if pc < 59 then
       if pc < 58 then
        if pc = 57 then tz_aload 58 0 else dead
       else
        if pc = 58 then tz_iload 59 1 else dead
      else
       if pc < 60 then
        if pc = 59 then tz_aload 60 0 else dead
       else
        if pc < 63 then
         if pc = 60 then tz_getf 63 7 1 1 else dead
        else
         if pc = 63 then tz_iload 64 1 else dead
  else
   if pc < 98 then
    if pc < 84 then
     if pc < 73 then
      if pc < 69 then
       if pc < 66 then
        if pc = 64 then tz_const 66 (.int (nI 9)) else dead
       else
        if pc = 66 then tz_pureS 69 2 P_Mo_at f_Mo_at else dead
      else
       if pc < 70 then
        if pc = 69 then tz_iaload 70 else dead
       else
        if pc = 70 then tz_pureV 73 2 7 P_Mo_hasOuter f_Mo_hasOuter else dead
     else
      if pc < 77 then
       if pc < 76 then
        if pc = 73 then tz_if 76 84 (fun a => a = 0) else dead
       else
        if pc = 76 then tz_aload 77 0 else dead
      else
       if pc < 78 then
        if pc = 77 then tz_iload 78 1 else dead
       else
        if pc < 81 then
         if pc = 78 then tz_callV l G 81 M_Mo_goOn 1 7 else dead
        else
         if pc = 81 then tz_goto 57 else dead
    else
     if pc < 91 then
      if pc < 88 then
       if pc < 85 then
        if pc = 84 then tz_aload 85 0 else dead
       else
        if pc = 85 then tz_getf 88 7 1 1 else dead
      else
       if pc < 89 then
        if pc = 88 then tz_iload 89 1 else dead
       else
        if pc = 89 then tz_const 91 (.int (nI 9)) else dead
     else
      if pc < 95 then
       if pc < 94 then
        if pc = 91 then tz_pureS 94 2 P_Mo_at f_Mo_at else dead
       else
        if pc = 94 then tz_iaload 95 else dead
      else
       if pc < 96 then
        if pc = 95 then tz_istore 96 3 else dead
       else
        if pc < 97 then
         if pc = 96 then tz_aload 97 0 else dead
        else
         if pc = 97 then tz_iload 98 1 else dead
   else
    if pc < 111 then
     if pc < 104 then
      if pc < 102 then
       if pc < 101 then
        if pc = 98 then tz_callV l G 101 M_Mo_goOn 1 7 else dead
       else
        if pc = 101 then tz_iload 102 3 else dead
      else
       if pc < 103 then
        if pc = 102 then tz_iret else dead
       else
        if pc = 103 then tz_aload 104 0 else dead
     else
      if pc < 108 then
       if pc < 105 then
        if pc = 104 then tz_iload 105 1 else dead
       else
        if pc = 105 then tz_callV l G 108 M_Mo_drawn 1 7 else dead
      else
       if pc < 109 then
        if pc = 108 then tz_istore 109 3 else dead
       else
        if pc < 110 then
         if pc = 109 then tz_aload 110 0 else dead
        else
         if pc = 110 then tz_iload 111 1 else dead
    else
     if pc < 120 then
      if pc < 115 then
       if pc < 112 then
        if pc = 111 then tz_iload 112 3 else dead
       else
        if pc = 112 then tz_pureV 115 2 7 P_Mo_hasOuter f_Mo_hasOuter else dead
      else
       if pc < 118 then
        if pc = 115 then tz_if 118 127 (fun a => a = 0) else dead
       else
        if pc < 119 then
         if pc = 118 then tz_aload 119 0 else dead
        else
         if pc = 119 then tz_iload 120 1 else dead
     else
      if pc < 124 then
       if pc < 123 then
        if pc = 120 then tz_callV l G 123 M_Mo_drawn 1 7 else dead
       else
        if pc = 123 then tz_istore 124 3 else dead
      else
       if pc < 127 then
        if pc = 124 then tz_goto 109 else dead
       else
        if pc < 128 then
         if pc = 127 then tz_iload 128 3 else dead
        else
         if pc = 128 then tz_iret else dead
set_option maxRecDepth 100000 in
theorem T_Mo_freshPort (l : Launch) (G : Gc) : TabOK l G M_Mo_freshPort (k_Mo_freshPort l G) := by
  intro pc
  unfold k_Mo_freshPort
  exact
   (sd_br
    (sd_br
     (sd_br
      (sd_br
       (sd_br
        (sd_br
         (sd_lf (sd_iload_n (k := 2) (by decide +kernel : decode prog_9_method_37_code 0 = .ok (.iload_n 2, 1))))
         (sd_lf (sd_istore_n (k := 3) (by decide +kernel : decode prog_9_method_37_code 1 = .ok (.istore_n 3, 1)))))
        (sd_br
         (sd_lf (sd_aload_n (k := 0) (by decide +kernel : decode prog_9_method_37_code 2 = .ok (.aload_n 0, 1))))
         (sd_lf (sd_getf (q := (RX7, TX7, 16)) (by decide +kernel : decode prog_9_method_37_code 3 = .ok (.getfield 7, 3)) rfl (by decide +kernel) (gm 913 (by decide +kernel) rfl)))))
       (sd_br
        (sd_br
         (sd_lf (sd_iload_n (k := 1) (by decide +kernel : decode prog_9_method_37_code 6 = .ok (.iload_n 1, 1))))
         (sd_lf (sd_iconst (by decide +kernel : decode prog_9_method_37_code 7 = .ok (.iconst 4, 1)) (by decide +kernel))))
        (sd_br
         (sd_lf (sd_pureS (sd_callS (by decide +kernel : decode prog_9_method_37_code 8 = .ok (.invokestatic 44, 3)) ok_Mo_at (gm 993 (by decide +kernel) rfl) (gm 994 (by decide +kernel) rfl) (by decide +kernel) rfl rfl) c_Mo_at))
         (sd_br
          (sd_lf (sd_iaload (by decide +kernel : decode prog_9_method_37_code 11 = .ok (.iaload, 1))))
          (sd_lf (sd_if_ne (by decide +kernel : decode prog_9_method_37_code 12 = .ok (.ifCond .ne 31, 3)) (by decide +kernel)))))))
      (sd_br
       (sd_br
        (sd_br
         (sd_lf (sd_aload_n (k := 0) (by decide +kernel : decode prog_9_method_37_code 15 = .ok (.aload_n 0, 1))))
         (sd_lf (sd_iload_n (k := 1) (by decide +kernel : decode prog_9_method_37_code 16 = .ok (.iload_n 1, 1)))))
        (sd_br
         (sd_lf (sd_iload_n (k := 3) (by decide +kernel : decode prog_9_method_37_code 17 = .ok (.iload_n 3, 1))))
         (sd_lf (sd_pureV (sd_callV (q := (RX7, TX7, 16)) (by decide +kernel : decode prog_9_method_37_code 18 = .ok (.invokevirtual 119, 3)) ok_Mo_hasOuter (gm 1114 (by decide +kernel) rfl) (gm 1116 (by decide +kernel) rfl) (gm 49 (by decide +kernel) rfl) rfl rfl (by decide +kernel) rfl rfl) c_Mo_hasOuter))))
       (sd_br
        (sd_br
         (sd_lf (sd_if_eq (by decide +kernel : decode prog_9_method_37_code 21 = .ok (.ifCond .eq 9, 3)) (by decide +kernel)))
         (sd_lf (sd_iinc (by decide +kernel : decode prog_9_method_37_code 24 = .ok (.iinc 3 1, 3)) (by decide +kernel))))
        (sd_br
         (sd_lf (sd_goto (by decide +kernel : decode prog_9_method_37_code 27 = .ok (.goto (-12), 3)) (by decide +kernel)))
         (sd_br
          (sd_lf (sd_iload_n (k := 3) (by decide +kernel : decode prog_9_method_37_code 30 = .ok (.iload_n 3, 1))))
          (sd_lf (sd_sipush (by decide +kernel : decode prog_9_method_37_code 31 = .ok (.sipush 9999, 3)) (by decide +kernel))))))))
     (sd_br
      (sd_br
       (sd_br
        (sd_br
         (sd_lf (sd_icmp_gt (by decide +kernel : decode prog_9_method_37_code 34 = .ok (.if_icmp .gt 7, 3)) (by decide +kernel)))
         (sd_lf (sd_iload_n (k := 3) (by decide +kernel : decode prog_9_method_37_code 37 = .ok (.iload_n 3, 1)))))
        (sd_br
         (sd_lf (sd_goto (by decide +kernel : decode prog_9_method_37_code 38 = .ok (.goto 4, 3)) (by decide +kernel)))
         (sd_lf (sd_iconst (by decide +kernel : decode prog_9_method_37_code 41 = .ok (.iconst (-1), 1)) (by decide +kernel)))))
       (sd_br
        (sd_br
         (sd_lf (sd_iret (by decide +kernel : decode prog_9_method_37_code 42 = .ok (.ireturn, 1)) rfl))
         (sd_lf (sd_aload_n (k := 0) (by decide +kernel : decode prog_9_method_37_code 43 = .ok (.aload_n 0, 1)))))
        (sd_br
         (sd_lf (sd_getf (q := (RX7, TX7, 16)) (by decide +kernel : decode prog_9_method_37_code 44 = .ok (.getfield 7, 3)) rfl (by decide +kernel) (gm 913 (by decide +kernel) rfl)))
         (sd_br
          (sd_lf (sd_iload_n (k := 1) (by decide +kernel : decode prog_9_method_37_code 47 = .ok (.iload_n 1, 1))))
          (sd_lf (sd_iconst (by decide +kernel : decode prog_9_method_37_code 48 = .ok (.iconst 4, 1)) (by decide +kernel)))))))
      (sd_br
       (sd_br
        (sd_br
         (sd_lf (sd_pureS (sd_callS (by decide +kernel : decode prog_9_method_37_code 49 = .ok (.invokestatic 44, 3)) ok_Mo_at (gm 993 (by decide +kernel) rfl) (gm 994 (by decide +kernel) rfl) (by decide +kernel) rfl rfl) c_Mo_at))
         (sd_lf (sd_iaload (by decide +kernel : decode prog_9_method_37_code 52 = .ok (.iaload, 1)))))
        (sd_br
         (sd_lf (sd_iconst (by decide +kernel : decode prog_9_method_37_code 53 = .ok (.iconst 1, 1)) (by decide +kernel)))
         (sd_lf (sd_icmp_ne (by decide +kernel : decode prog_9_method_37_code 54 = .ok (.if_icmp .ne 49, 3)) (by decide +kernel)))))
       (sd_br
        (sd_br
         (sd_lf (sd_aload_n (k := 0) (by decide +kernel : decode prog_9_method_37_code 57 = .ok (.aload_n 0, 1))))
         (sd_lf (sd_iload_n (k := 1) (by decide +kernel : decode prog_9_method_37_code 58 = .ok (.iload_n 1, 1)))))
        (sd_br
         (sd_lf (sd_aload_n (k := 0) (by decide +kernel : decode prog_9_method_37_code 59 = .ok (.aload_n 0, 1))))
         (sd_br
          (sd_lf (sd_getf (q := (RX7, TX7, 16)) (by decide +kernel : decode prog_9_method_37_code 60 = .ok (.getfield 7, 3)) rfl (by decide +kernel) (gm 913 (by decide +kernel) rfl)))
          (sd_lf (sd_iload_n (k := 1) (by decide +kernel : decode prog_9_method_37_code 63 = .ok (.iload_n 1, 1))))))))))
    (sd_br
     (sd_br
      (sd_br
       (sd_br
        (sd_br
         (sd_lf (sd_bipush (by decide +kernel : decode prog_9_method_37_code 64 = .ok (.bipush 9, 2)) (by decide +kernel)))
         (sd_lf (sd_pureS (sd_callS (by decide +kernel : decode prog_9_method_37_code 66 = .ok (.invokestatic 44, 3)) ok_Mo_at (gm 993 (by decide +kernel) rfl) (gm 994 (by decide +kernel) rfl) (by decide +kernel) rfl rfl) c_Mo_at)))
        (sd_br
         (sd_lf (sd_iaload (by decide +kernel : decode prog_9_method_37_code 69 = .ok (.iaload, 1))))
         (sd_lf (sd_pureV (sd_callV (q := (RX7, TX7, 16)) (by decide +kernel : decode prog_9_method_37_code 70 = .ok (.invokevirtual 119, 3)) ok_Mo_hasOuter (gm 1114 (by decide +kernel) rfl) (gm 1116 (by decide +kernel) rfl) (gm 49 (by decide +kernel) rfl) rfl rfl (by decide +kernel) rfl rfl) c_Mo_hasOuter))))
       (sd_br
        (sd_br
         (sd_lf (sd_if_eq (by decide +kernel : decode prog_9_method_37_code 73 = .ok (.ifCond .eq 11, 3)) (by decide +kernel)))
         (sd_lf (sd_aload_n (k := 0) (by decide +kernel : decode prog_9_method_37_code 76 = .ok (.aload_n 0, 1)))))
        (sd_br
         (sd_lf (sd_iload_n (k := 1) (by decide +kernel : decode prog_9_method_37_code 77 = .ok (.iload_n 1, 1))))
         (sd_br
          (sd_lf (sd_callV (q := (RX7, TX7, 16)) (by decide +kernel : decode prog_9_method_37_code 78 = .ok (.invokevirtual 123, 3)) ok_Mo_goOn (gm 1118 (by decide +kernel) rfl) (gm 1120 (by decide +kernel) rfl) (gm 50 (by decide +kernel) rfl) rfl rfl (by decide +kernel) rfl rfl))
          (sd_lf (sd_goto (by decide +kernel : decode prog_9_method_37_code 81 = .ok (.goto (-24), 3)) (by decide +kernel)))))))
      (sd_br
       (sd_br
        (sd_br
         (sd_lf (sd_aload_n (k := 0) (by decide +kernel : decode prog_9_method_37_code 84 = .ok (.aload_n 0, 1))))
         (sd_lf (sd_getf (q := (RX7, TX7, 16)) (by decide +kernel : decode prog_9_method_37_code 85 = .ok (.getfield 7, 3)) rfl (by decide +kernel) (gm 913 (by decide +kernel) rfl))))
        (sd_br
         (sd_lf (sd_iload_n (k := 1) (by decide +kernel : decode prog_9_method_37_code 88 = .ok (.iload_n 1, 1))))
         (sd_lf (sd_bipush (by decide +kernel : decode prog_9_method_37_code 89 = .ok (.bipush 9, 2)) (by decide +kernel)))))
       (sd_br
        (sd_br
         (sd_lf (sd_pureS (sd_callS (by decide +kernel : decode prog_9_method_37_code 91 = .ok (.invokestatic 44, 3)) ok_Mo_at (gm 993 (by decide +kernel) rfl) (gm 994 (by decide +kernel) rfl) (by decide +kernel) rfl rfl) c_Mo_at))
         (sd_lf (sd_iaload (by decide +kernel : decode prog_9_method_37_code 94 = .ok (.iaload, 1)))))
        (sd_br
         (sd_lf (sd_istore_n (k := 3) (by decide +kernel : decode prog_9_method_37_code 95 = .ok (.istore_n 3, 1))))
         (sd_br
          (sd_lf (sd_aload_n (k := 0) (by decide +kernel : decode prog_9_method_37_code 96 = .ok (.aload_n 0, 1))))
          (sd_lf (sd_iload_n (k := 1) (by decide +kernel : decode prog_9_method_37_code 97 = .ok (.iload_n 1, 1)))))))))
     (sd_br
      (sd_br
       (sd_br
        (sd_br
         (sd_lf (sd_callV (q := (RX7, TX7, 16)) (by decide +kernel : decode prog_9_method_37_code 98 = .ok (.invokevirtual 123, 3)) ok_Mo_goOn (gm 1118 (by decide +kernel) rfl) (gm 1120 (by decide +kernel) rfl) (gm 50 (by decide +kernel) rfl) rfl rfl (by decide +kernel) rfl rfl))
         (sd_lf (sd_iload_n (k := 3) (by decide +kernel : decode prog_9_method_37_code 101 = .ok (.iload_n 3, 1)))))
        (sd_br
         (sd_lf (sd_iret (by decide +kernel : decode prog_9_method_37_code 102 = .ok (.ireturn, 1)) rfl))
         (sd_lf (sd_aload_n (k := 0) (by decide +kernel : decode prog_9_method_37_code 103 = .ok (.aload_n 0, 1))))))
       (sd_br
        (sd_br
         (sd_lf (sd_iload_n (k := 1) (by decide +kernel : decode prog_9_method_37_code 104 = .ok (.iload_n 1, 1))))
         (sd_lf (sd_callV (q := (RX7, TX7, 16)) (by decide +kernel : decode prog_9_method_37_code 105 = .ok (.invokevirtual 127, 3)) ok_Mo_drawn (gm 1122 (by decide +kernel) rfl) (gm 1124 (by decide +kernel) rfl) (gm 51 (by decide +kernel) rfl) rfl rfl (by decide +kernel) rfl rfl)))
        (sd_br
         (sd_lf (sd_istore_n (k := 3) (by decide +kernel : decode prog_9_method_37_code 108 = .ok (.istore_n 3, 1))))
         (sd_br
          (sd_lf (sd_aload_n (k := 0) (by decide +kernel : decode prog_9_method_37_code 109 = .ok (.aload_n 0, 1))))
          (sd_lf (sd_iload_n (k := 1) (by decide +kernel : decode prog_9_method_37_code 110 = .ok (.iload_n 1, 1))))))))
      (sd_br
       (sd_br
        (sd_br
         (sd_lf (sd_iload_n (k := 3) (by decide +kernel : decode prog_9_method_37_code 111 = .ok (.iload_n 3, 1))))
         (sd_lf (sd_pureV (sd_callV (q := (RX7, TX7, 16)) (by decide +kernel : decode prog_9_method_37_code 112 = .ok (.invokevirtual 119, 3)) ok_Mo_hasOuter (gm 1114 (by decide +kernel) rfl) (gm 1116 (by decide +kernel) rfl) (gm 49 (by decide +kernel) rfl) rfl rfl (by decide +kernel) rfl rfl) c_Mo_hasOuter)))
        (sd_br
         (sd_lf (sd_if_eq (by decide +kernel : decode prog_9_method_37_code 115 = .ok (.ifCond .eq 12, 3)) (by decide +kernel)))
         (sd_br
          (sd_lf (sd_aload_n (k := 0) (by decide +kernel : decode prog_9_method_37_code 118 = .ok (.aload_n 0, 1))))
          (sd_lf (sd_iload_n (k := 1) (by decide +kernel : decode prog_9_method_37_code 119 = .ok (.iload_n 1, 1)))))))
       (sd_br
        (sd_br
         (sd_lf (sd_callV (q := (RX7, TX7, 16)) (by decide +kernel : decode prog_9_method_37_code 120 = .ok (.invokevirtual 127, 3)) ok_Mo_drawn (gm 1122 (by decide +kernel) rfl) (gm 1124 (by decide +kernel) rfl) (gm 51 (by decide +kernel) rfl) rfl rfl (by decide +kernel) rfl rfl))
         (sd_lf (sd_istore_n (k := 3) (by decide +kernel : decode prog_9_method_37_code 123 = .ok (.istore_n 3, 1)))))
        (sd_br
         (sd_lf (sd_goto (by decide +kernel : decode prog_9_method_37_code 124 = .ok (.goto (-15), 3)) (by decide +kernel)))
         (sd_br
          (sd_lf (sd_iload_n (k := 3) (by decide +kernel : decode prog_9_method_37_code 127 = .ok (.iload_n 3, 1))))
          (sd_lf (sd_iret (by decide +kernel : decode prog_9_method_37_code 128 = .ok (.ireturn, 1)) rfl)))))))))
/-- n is the first place where P fails along f -/
def fst0 (f : Nat → Int32) (P : Int32 → Prop) (n : Nat) : Prop := (∀ k, k < n → P (f k)) ∧ ¬ P (f n)
theorem fst0.det {f : Nat → Int32} {P : Int32 → Prop} {n m : Nat} (a : fst0 f P n) (b : fst0 f P m) : n = m := by
  rcases Nat.lt_trichotomy n m with q | q | q
  · exact absurd (b.1 n q) a.2
  · exact q
  · exact absurd (a.1 m q) b.2
theorem fst0.tail {f : Nat → Int32} {P : Int32 → Prop} {n : Nat} (a : fst0 f P (n + 1)) : fst0 (fun k => f (k + 1)) P n := ⟨fun k q => a.1 (k + 1) (by omega), a.2⟩
def HasP (z : Nat → Int32) (t : Nat) (p : Int32) : Prop := HasO z t p (own z t)
/-- the counter's next value -/
def nxC (s c : Int32) : Int32 := if c + s ≤ nI 9999 then c + s else nI 1000
def itr (f : Int32 → Int32) : Nat → Int32 → Int32
  | 0, c => c
  | n + 1, c => itr f n (f c)
theorem itr_s (f : Int32 → Int32) : ∀ (n : Nat) (c : Int32), itr f (n + 1) c = f (itr f n c) := by
  intro n
  induction n with
  | zero => exact fun c => rfl
  | succ n ih => exact fun c => ih (f c)
theorem HasP_u {z : Nat → Int32} {t k : Nat} {x p : Int32} (ht : t < 10) (hk : k < 176) (hne : k ≠ 16 + 16 * t + 11) : HasP (upd z k x) t p = HasP z t p := by
  have e : own (upd z k x) t = own z t := by
    unfold own
    rw [upd_ne (by omega)]
  unfold HasP HasO
  rw [e]
  refine propext ⟨?_, ?_⟩
  · rintro ⟨j, j1, j2⟩
    rw [upd_ne (by omega)] at j2
    exact ⟨j, j1, j2⟩
  · rintro ⟨j, j1, j2⟩
    exact ⟨j, j1, by rw [upd_ne (by omega)]; exact j2⟩
theorem Own_u {z : Nat → Int32} {t k : Nat} {x : Int32} (hne : k ≠ 16 + 16 * t + 11) (h : OwnOK z t) : OwnOK (upd z k x) t := by
  unfold OwnOK own
  rw [upd_ne (Ne.symm hne)]
  exact h
section
variable {l : Launch} {G : Gc}
theorem hasO_w {a zr t : Nat} {h : AH} {g : Nat → Int32} (p : Int32) (hm : MoS h a zr) (ht : t < 10) (ho : OwnOK g t) : P_Mo_hasOuter [.ref a, .int (nI t), .int p] (zw h zr g) ∧ f_Mo_hasOuter [.ref a, .int (nI t), .int p] (zw h zr g) = .int (bI (HasP g t p)) := by
  refine ⟨⟨zr, t, hm.zw, rfl, ht, by rw [hI_zw]; exact ho⟩, ?_⟩
  have hzF : zF (zw h zr g) a = g := by rw [(hm.zw (b := zr) (f := g)).zF, hI_zw]
  simp only [f_Mo_hasOuter, hzF, nI_clamp (show t < 2 ^ 31 by omega)]
  rfl
theorem lp_fp0 {a zr t : Nat} {p : Int32} {h : AH} {Q : Po} {g : Nat → Int32} (hm : MoS h a zr) (ht : t < 10) (ho : OwnOK g t) : ∀ (n : Nat) (x : Int32), fst0 (fun k => x + nI k) (HasP g t) n → (nI 9999 < x + nI n → Q (.inl (some (.int nN))) (zw h zr g)) → (¬ nI 9999 < x + nI n → Q (.inl (some (.int (x + nI n)))) (zw h zr g)) → AWp l G M_Mo_freshPort 15 [some (.ref a), some (.int (nI t)), some (.int p), some (.int x)] [] (zw h zr g) Q := by
  obtain ⟨h1, h2, h3, h4⟩ := id hm
  intro n
  induction n with
  | zero =>
    intro x hf q1 q2
    have e0 : x + nI 0 = x := by rw [show nI 0 = 0 from rfl, Int32.add_zero]
    obtain ⟨-, f2⟩ := hf
    simp only [e0] at f2 q1 q2
    obtain ⟨w1, w2⟩ := hasO_w x hm ht ho
    ((obtain ⟨W9, hW9, hgo9⟩ := wp_ex (T_Mo_freshPort l G) [15] _; refine hgo9 200 _ _ _ _ ?_; simp -implicitDefEqProofs (disch := omega) only [hW9, inl, gate, Xq, tz_const, tz_iload, tz_lload, tz_dload, tz_aload, tz_istore, tz_astore, tz_lstore, tz_dstore, tz_iinc, tz_i1, tz_i2, tz_i2z, tz_l2, tz_l2z, tz_i2l, tz_l2i, tz_lcmp, tz_i2d, tz_d2, tz_dcmp, tz_dup, tz_dup2, tz_pop, tz_if, tz_icmp, tz_null, tz_goto, tz_sw, tz_getf, tz_puti, tz_putz, tz_putr, tz_putl, tz_iaload, tz_baload, tz_laload, tz_aaload, tz_iastore, tz_bastore, tz_lastore, tz_aastore, tz_alen, tz_new, tz_newa, tz_oinit, tz_iret, tz_zret, tz_lret, tz_dret, tz_aret, tz_vret, tz_throw, tz_callS, tz_callV, tz_callI, tz_callR, tz_pureS, tz_pureV, tz_callVH, lg, lset, lkill, lst1, lst2, entL, isRf, is1, vl, va_rf_none, va_rf_some, isRf_rf, is1_rf, i0, i1, bI_eq0, bI_eq1, nm_em, nI_eqP, nI_leP, nI_ltP, nN_e1, nN_e2, nN_l1, nN_l2, nN_l3, nN_l4, nI_add, pk_mul, vp_inN, nI_cl, n01, n10, P_i, P_ii, P_iii, f_Mo_at, f_Mo_map, f_Mo_contact, f_Mo_within, f_Mo_isPort, f_Hp_endpoint, f_Hp_nodeOf, f_Hp_portOf, f_Ma_max, f_Ma_min, f_Hp_isSetting, popN, rok, a1, noX, swc, mL, if_true, if_false, ↓reduceIte, cond_true, cond_false, true_and, and_true, List.length_cons, List.length_nil, List.nil_append, List.cons_append, List.append_nil, Option.toList, Nat.reduceEqDiff, Bool.false_eq_true, reduceCtorEq, Nat.reduceAdd, Nat.reduceLT, Nat.reduceLeDiff, Nat.reduceSub, List.replicate, Nat.zero_add, Nat.lt_add_one, Nat.le_refl, Nat.zero_le, Nat.succ_ne_zero, not_false_eq_true, not_true_eq_false, false_implies, true_implies, forall_const, imp_self, true_or, or_true, eq_self, sI_zw, zw_zw, hI_zw, tg_zw, ln_zw, hR_zw, hL_zw, hN_zw, hM_zw, upd_s, upd_u, upd_ne, Classical.not_not, k_Mo_freshPort, h1, h2, h3, h4, w1, w2, f2]; try clear hgo9 hW9); try (obtain ⟨W9, hW9, hgo9⟩ := wp_ex (T_Mo_freshPort l G) [15] _; refine hgo9 200 _ _ _ _ ?_; simp -implicitDefEqProofs (disch := omega) only [hW9, inl, gate, Xq, tz_const, tz_iload, tz_lload, tz_dload, tz_aload, tz_istore, tz_astore, tz_lstore, tz_dstore, tz_iinc, tz_i1, tz_i2, tz_i2z, tz_l2, tz_l2z, tz_i2l, tz_l2i, tz_lcmp, tz_i2d, tz_d2, tz_dcmp, tz_dup, tz_dup2, tz_pop, tz_if, tz_icmp, tz_null, tz_goto, tz_sw, tz_getf, tz_puti, tz_putz, tz_putr, tz_putl, tz_iaload, tz_baload, tz_laload, tz_aaload, tz_iastore, tz_bastore, tz_lastore, tz_aastore, tz_alen, tz_new, tz_newa, tz_oinit, tz_iret, tz_zret, tz_lret, tz_dret, tz_aret, tz_vret, tz_throw, tz_callS, tz_callV, tz_callI, tz_callR, tz_pureS, tz_pureV, tz_callVH, lg, lset, lkill, lst1, lst2, entL, isRf, is1, vl, va_rf_none, va_rf_some, isRf_rf, is1_rf, i0, i1, bI_eq0, bI_eq1, nm_em, nI_eqP, nI_leP, nI_ltP, nN_e1, nN_e2, nN_l1, nN_l2, nN_l3, nN_l4, nI_add, pk_mul, vp_inN, nI_cl, n01, n10, P_i, P_ii, P_iii, f_Mo_at, f_Mo_map, f_Mo_contact, f_Mo_within, f_Mo_isPort, f_Hp_endpoint, f_Hp_nodeOf, f_Hp_portOf, f_Ma_max, f_Ma_min, f_Hp_isSetting, popN, rok, a1, noX, swc, mL, if_true, if_false, ↓reduceIte, cond_true, cond_false, true_and, and_true, List.length_cons, List.length_nil, List.nil_append, List.cons_append, List.append_nil, Option.toList, Nat.reduceEqDiff, Bool.false_eq_true, reduceCtorEq, Nat.reduceAdd, Nat.reduceLT, Nat.reduceLeDiff, Nat.reduceSub, List.replicate, Nat.zero_add, Nat.lt_add_one, Nat.le_refl, Nat.zero_le, Nat.succ_ne_zero, not_false_eq_true, not_true_eq_false, false_implies, true_implies, forall_const, imp_self, true_or, or_true, eq_self, sI_zw, zw_zw, hI_zw, tg_zw, ln_zw, hR_zw, hL_zw, hN_zw, hM_zw, upd_s, upd_u, upd_ne, Classical.not_not, k_Mo_freshPort, h1, h2, h3, h4, w1, w2, f2]; try clear hgo9 hW9))
    refine ⟨fun c => ?_, fun c => ?_⟩
    · (obtain ⟨W9, hW9, hgo9⟩ := wp_ex (T_Mo_freshPort l G) [15] _; refine hgo9 200 _ _ _ _ ?_; simp -implicitDefEqProofs (disch := omega) only [hW9, inl, gate, Xq, tz_const, tz_iload, tz_lload, tz_dload, tz_aload, tz_istore, tz_astore, tz_lstore, tz_dstore, tz_iinc, tz_i1, tz_i2, tz_i2z, tz_l2, tz_l2z, tz_i2l, tz_l2i, tz_lcmp, tz_i2d, tz_d2, tz_dcmp, tz_dup, tz_dup2, tz_pop, tz_if, tz_icmp, tz_null, tz_goto, tz_sw, tz_getf, tz_puti, tz_putz, tz_putr, tz_putl, tz_iaload, tz_baload, tz_laload, tz_aaload, tz_iastore, tz_bastore, tz_lastore, tz_aastore, tz_alen, tz_new, tz_newa, tz_oinit, tz_iret, tz_zret, tz_lret, tz_dret, tz_aret, tz_vret, tz_throw, tz_callS, tz_callV, tz_callI, tz_callR, tz_pureS, tz_pureV, tz_callVH, lg, lset, lkill, lst1, lst2, entL, isRf, is1, vl, va_rf_none, va_rf_some, isRf_rf, is1_rf, i0, i1, bI_eq0, bI_eq1, nm_em, nI_eqP, nI_leP, nI_ltP, nN_e1, nN_e2, nN_l1, nN_l2, nN_l3, nN_l4, nI_add, pk_mul, vp_inN, nI_cl, n01, n10, P_i, P_ii, P_iii, f_Mo_at, f_Mo_map, f_Mo_contact, f_Mo_within, f_Mo_isPort, f_Hp_endpoint, f_Hp_nodeOf, f_Hp_portOf, f_Ma_max, f_Ma_min, f_Hp_isSetting, popN, rok, a1, noX, swc, mL, if_true, if_false, ↓reduceIte, cond_true, cond_false, true_and, and_true, List.length_cons, List.length_nil, List.nil_append, List.cons_append, List.append_nil, Option.toList, Nat.reduceEqDiff, Bool.false_eq_true, reduceCtorEq, Nat.reduceAdd, Nat.reduceLT, Nat.reduceLeDiff, Nat.reduceSub, List.replicate, Nat.zero_add, Nat.lt_add_one, Nat.le_refl, Nat.zero_le, Nat.succ_ne_zero, not_false_eq_true, not_true_eq_false, false_implies, true_implies, forall_const, imp_self, true_or, or_true, eq_self, sI_zw, zw_zw, hI_zw, tg_zw, ln_zw, hR_zw, hL_zw, hN_zw, hM_zw, upd_s, upd_u, upd_ne, Classical.not_not, k_Mo_freshPort, h1]; try clear hgo9 hW9)
      exact q1 c
    · (obtain ⟨W9, hW9, hgo9⟩ := wp_ex (T_Mo_freshPort l G) [15] _; refine hgo9 200 _ _ _ _ ?_; simp -implicitDefEqProofs (disch := omega) only [hW9, inl, gate, Xq, tz_const, tz_iload, tz_lload, tz_dload, tz_aload, tz_istore, tz_astore, tz_lstore, tz_dstore, tz_iinc, tz_i1, tz_i2, tz_i2z, tz_l2, tz_l2z, tz_i2l, tz_l2i, tz_lcmp, tz_i2d, tz_d2, tz_dcmp, tz_dup, tz_dup2, tz_pop, tz_if, tz_icmp, tz_null, tz_goto, tz_sw, tz_getf, tz_puti, tz_putz, tz_putr, tz_putl, tz_iaload, tz_baload, tz_laload, tz_aaload, tz_iastore, tz_bastore, tz_lastore, tz_aastore, tz_alen, tz_new, tz_newa, tz_oinit, tz_iret, tz_zret, tz_lret, tz_dret, tz_aret, tz_vret, tz_throw, tz_callS, tz_callV, tz_callI, tz_callR, tz_pureS, tz_pureV, tz_callVH, lg, lset, lkill, lst1, lst2, entL, isRf, is1, vl, va_rf_none, va_rf_some, isRf_rf, is1_rf, i0, i1, bI_eq0, bI_eq1, nm_em, nI_eqP, nI_leP, nI_ltP, nN_e1, nN_e2, nN_l1, nN_l2, nN_l3, nN_l4, nI_add, pk_mul, vp_inN, nI_cl, n01, n10, P_i, P_ii, P_iii, f_Mo_at, f_Mo_map, f_Mo_contact, f_Mo_within, f_Mo_isPort, f_Hp_endpoint, f_Hp_nodeOf, f_Hp_portOf, f_Ma_max, f_Ma_min, f_Hp_isSetting, popN, rok, a1, noX, swc, mL, if_true, if_false, ↓reduceIte, cond_true, cond_false, true_and, and_true, List.length_cons, List.length_nil, List.nil_append, List.cons_append, List.append_nil, Option.toList, Nat.reduceEqDiff, Bool.false_eq_true, reduceCtorEq, Nat.reduceAdd, Nat.reduceLT, Nat.reduceLeDiff, Nat.reduceSub, List.replicate, Nat.zero_add, Nat.lt_add_one, Nat.le_refl, Nat.zero_le, Nat.succ_ne_zero, not_false_eq_true, not_true_eq_false, false_implies, true_implies, forall_const, imp_self, true_or, or_true, eq_self, sI_zw, zw_zw, hI_zw, tg_zw, ln_zw, hR_zw, hL_zw, hN_zw, hM_zw, upd_s, upd_u, upd_ne, Classical.not_not, k_Mo_freshPort, h1]; try clear hgo9 hW9)
      exact q2 c
  | succ n ih =>
    intro x hf q1 q2
    have e0 : x + nI 0 = x := by rw [show nI 0 = 0 from rfl, Int32.add_zero]
    have f2 := hf.1 0 (by omega)
    simp only [e0] at f2
    obtain ⟨w1, w2⟩ := hasO_w x hm ht ho
    ((obtain ⟨W9, hW9, hgo9⟩ := wp_ex (T_Mo_freshPort l G) [15] _; refine hgo9 200 _ _ _ _ ?_; simp -implicitDefEqProofs (disch := omega) only [hW9, inl, gate, Xq, tz_const, tz_iload, tz_lload, tz_dload, tz_aload, tz_istore, tz_astore, tz_lstore, tz_dstore, tz_iinc, tz_i1, tz_i2, tz_i2z, tz_l2, tz_l2z, tz_i2l, tz_l2i, tz_lcmp, tz_i2d, tz_d2, tz_dcmp, tz_dup, tz_dup2, tz_pop, tz_if, tz_icmp, tz_null, tz_goto, tz_sw, tz_getf, tz_puti, tz_putz, tz_putr, tz_putl, tz_iaload, tz_baload, tz_laload, tz_aaload, tz_iastore, tz_bastore, tz_lastore, tz_aastore, tz_alen, tz_new, tz_newa, tz_oinit, tz_iret, tz_zret, tz_lret, tz_dret, tz_aret, tz_vret, tz_throw, tz_callS, tz_callV, tz_callI, tz_callR, tz_pureS, tz_pureV, tz_callVH, lg, lset, lkill, lst1, lst2, entL, isRf, is1, vl, va_rf_none, va_rf_some, isRf_rf, is1_rf, i0, i1, bI_eq0, bI_eq1, nm_em, nI_eqP, nI_leP, nI_ltP, nN_e1, nN_e2, nN_l1, nN_l2, nN_l3, nN_l4, nI_add, pk_mul, vp_inN, nI_cl, n01, n10, P_i, P_ii, P_iii, f_Mo_at, f_Mo_map, f_Mo_contact, f_Mo_within, f_Mo_isPort, f_Hp_endpoint, f_Hp_nodeOf, f_Hp_portOf, f_Ma_max, f_Ma_min, f_Hp_isSetting, popN, rok, a1, noX, swc, mL, if_true, if_false, ↓reduceIte, cond_true, cond_false, true_and, and_true, List.length_cons, List.length_nil, List.nil_append, List.cons_append, List.append_nil, Option.toList, Nat.reduceEqDiff, Bool.false_eq_true, reduceCtorEq, Nat.reduceAdd, Nat.reduceLT, Nat.reduceLeDiff, Nat.reduceSub, List.replicate, Nat.zero_add, Nat.lt_add_one, Nat.le_refl, Nat.zero_le, Nat.succ_ne_zero, not_false_eq_true, not_true_eq_false, false_implies, true_implies, forall_const, imp_self, true_or, or_true, eq_self, sI_zw, zw_zw, hI_zw, tg_zw, ln_zw, hR_zw, hL_zw, hN_zw, hM_zw, upd_s, upd_u, upd_ne, Classical.not_not, k_Mo_freshPort, h1, h2, h3, h4, w1, w2, f2]; try clear hgo9 hW9); try (obtain ⟨W9, hW9, hgo9⟩ := wp_ex (T_Mo_freshPort l G) [15] _; refine hgo9 200 _ _ _ _ ?_; simp -implicitDefEqProofs (disch := omega) only [hW9, inl, gate, Xq, tz_const, tz_iload, tz_lload, tz_dload, tz_aload, tz_istore, tz_astore, tz_lstore, tz_dstore, tz_iinc, tz_i1, tz_i2, tz_i2z, tz_l2, tz_l2z, tz_i2l, tz_l2i, tz_lcmp, tz_i2d, tz_d2, tz_dcmp, tz_dup, tz_dup2, tz_pop, tz_if, tz_icmp, tz_null, tz_goto, tz_sw, tz_getf, tz_puti, tz_putz, tz_putr, tz_putl, tz_iaload, tz_baload, tz_laload, tz_aaload, tz_iastore, tz_bastore, tz_lastore, tz_aastore, tz_alen, tz_new, tz_newa, tz_oinit, tz_iret, tz_zret, tz_lret, tz_dret, tz_aret, tz_vret, tz_throw, tz_callS, tz_callV, tz_callI, tz_callR, tz_pureS, tz_pureV, tz_callVH, lg, lset, lkill, lst1, lst2, entL, isRf, is1, vl, va_rf_none, va_rf_some, isRf_rf, is1_rf, i0, i1, bI_eq0, bI_eq1, nm_em, nI_eqP, nI_leP, nI_ltP, nN_e1, nN_e2, nN_l1, nN_l2, nN_l3, nN_l4, nI_add, pk_mul, vp_inN, nI_cl, n01, n10, P_i, P_ii, P_iii, f_Mo_at, f_Mo_map, f_Mo_contact, f_Mo_within, f_Mo_isPort, f_Hp_endpoint, f_Hp_nodeOf, f_Hp_portOf, f_Ma_max, f_Ma_min, f_Hp_isSetting, popN, rok, a1, noX, swc, mL, if_true, if_false, ↓reduceIte, cond_true, cond_false, true_and, and_true, List.length_cons, List.length_nil, List.nil_append, List.cons_append, List.append_nil, Option.toList, Nat.reduceEqDiff, Bool.false_eq_true, reduceCtorEq, Nat.reduceAdd, Nat.reduceLT, Nat.reduceLeDiff, Nat.reduceSub, List.replicate, Nat.zero_add, Nat.lt_add_one, Nat.le_refl, Nat.zero_le, Nat.succ_ne_zero, not_false_eq_true, not_true_eq_false, false_implies, true_implies, forall_const, imp_self, true_or, or_true, eq_self, sI_zw, zw_zw, hI_zw, tg_zw, ln_zw, hR_zw, hL_zw, hN_zw, hM_zw, upd_s, upd_u, upd_ne, Classical.not_not, k_Mo_freshPort, h1, h2, h3, h4, w1, w2, f2]; try clear hgo9 hW9))
    have es : ∀ k, x + nI 1 + nI k = x + nI (k + 1) := by
      intro k
      rw [Int32.add_assoc, nI_add, Nat.add_comm]
    refine ih _ ?_ ?_ ?_
    · simp only [es]
      exact hf.tail
    · rw [es]
      exact q1
    · rw [es]
      exact q2
theorem lp_fp1 {a zr t : Nat} {p s : Int32} {v : Option Value} {h : AH} {Q : Po} (hm : MoS h a zr) (ht : t < 10) : ∀ (n : Nat) (g : Nat → Int32), OwnOK g t → g (16 + 16 * t + 5) = s → fst0 (fun k => itr (nxC s) k (g (16 + 16 * t + 9))) (HasP g t) n → Q (.inl (some (.int (itr (nxC s) n (g (16 + 16 * t + 9)))))) (zw h zr (upd g (16 + 16 * t + 9) (itr (nxC s) (n + 1) (g (16 + 16 * t + 9))))) → AWp l G M_Mo_freshPort 57 [some (.ref a), some (.int (nI t)), some (.int p), v] [] (zw h zr g) Q := by
  obtain ⟨h1, h2, h3, h4⟩ := id hm
  intro n
  induction n with
  | zero =>
    intro g ho hs hf hQ
    obtain ⟨-, f2⟩ := hf
    obtain ⟨w1, w2⟩ := hasO_w (g (16 + 16 * t + 9)) hm ht ho
    replace f2 : ¬ HasP g t (g (16 + 16 * t + 9)) := f2
    ((obtain ⟨W9, hW9, hgo9⟩ := wp_ex (T_Mo_freshPort l G) [57] _; refine hgo9 200 _ _ _ _ ?_; simp -implicitDefEqProofs (disch := omega) only [hW9, inl, gate, Xq, tz_const, tz_iload, tz_lload, tz_dload, tz_aload, tz_istore, tz_astore, tz_lstore, tz_dstore, tz_iinc, tz_i1, tz_i2, tz_i2z, tz_l2, tz_l2z, tz_i2l, tz_l2i, tz_lcmp, tz_i2d, tz_d2, tz_dcmp, tz_dup, tz_dup2, tz_pop, tz_if, tz_icmp, tz_null, tz_goto, tz_sw, tz_getf, tz_puti, tz_putz, tz_putr, tz_putl, tz_iaload, tz_baload, tz_laload, tz_aaload, tz_iastore, tz_bastore, tz_lastore, tz_aastore, tz_alen, tz_new, tz_newa, tz_oinit, tz_iret, tz_zret, tz_lret, tz_dret, tz_aret, tz_vret, tz_throw, tz_callS, tz_callV, tz_callI, tz_callR, tz_pureS, tz_pureV, tz_callVH, lg, lset, lkill, lst1, lst2, entL, isRf, is1, vl, va_rf_none, va_rf_some, isRf_rf, is1_rf, i0, i1, bI_eq0, bI_eq1, nm_em, nI_eqP, nI_leP, nI_ltP, nN_e1, nN_e2, nN_l1, nN_l2, nN_l3, nN_l4, nI_add, pk_mul, vp_inN, nI_cl, n01, n10, P_i, P_ii, P_iii, f_Mo_at, f_Mo_map, f_Mo_contact, f_Mo_within, f_Mo_isPort, f_Hp_endpoint, f_Hp_nodeOf, f_Hp_portOf, f_Ma_max, f_Ma_min, f_Hp_isSetting, popN, rok, a1, noX, swc, mL, if_true, if_false, ↓reduceIte, cond_true, cond_false, true_and, and_true, List.length_cons, List.length_nil, List.nil_append, List.cons_append, List.append_nil, Option.toList, Nat.reduceEqDiff, Bool.false_eq_true, reduceCtorEq, Nat.reduceAdd, Nat.reduceLT, Nat.reduceLeDiff, Nat.reduceSub, List.replicate, Nat.zero_add, Nat.lt_add_one, Nat.le_refl, Nat.zero_le, Nat.succ_ne_zero, not_false_eq_true, not_true_eq_false, false_implies, true_implies, forall_const, imp_self, true_or, or_true, eq_self, sI_zw, zw_zw, hI_zw, tg_zw, ln_zw, hR_zw, hL_zw, hN_zw, hM_zw, upd_s, upd_u, upd_ne, Classical.not_not, k_Mo_freshPort, h1, h2, h3, h4, w1, w2, f2]; try clear hgo9 hW9); try (obtain ⟨W9, hW9, hgo9⟩ := wp_ex (T_Mo_freshPort l G) [57] _; refine hgo9 200 _ _ _ _ ?_; simp -implicitDefEqProofs (disch := omega) only [hW9, inl, gate, Xq, tz_const, tz_iload, tz_lload, tz_dload, tz_aload, tz_istore, tz_astore, tz_lstore, tz_dstore, tz_iinc, tz_i1, tz_i2, tz_i2z, tz_l2, tz_l2z, tz_i2l, tz_l2i, tz_lcmp, tz_i2d, tz_d2, tz_dcmp, tz_dup, tz_dup2, tz_pop, tz_if, tz_icmp, tz_null, tz_goto, tz_sw, tz_getf, tz_puti, tz_putz, tz_putr, tz_putl, tz_iaload, tz_baload, tz_laload, tz_aaload, tz_iastore, tz_bastore, tz_lastore, tz_aastore, tz_alen, tz_new, tz_newa, tz_oinit, tz_iret, tz_zret, tz_lret, tz_dret, tz_aret, tz_vret, tz_throw, tz_callS, tz_callV, tz_callI, tz_callR, tz_pureS, tz_pureV, tz_callVH, lg, lset, lkill, lst1, lst2, entL, isRf, is1, vl, va_rf_none, va_rf_some, isRf_rf, is1_rf, i0, i1, bI_eq0, bI_eq1, nm_em, nI_eqP, nI_leP, nI_ltP, nN_e1, nN_e2, nN_l1, nN_l2, nN_l3, nN_l4, nI_add, pk_mul, vp_inN, nI_cl, n01, n10, P_i, P_ii, P_iii, f_Mo_at, f_Mo_map, f_Mo_contact, f_Mo_within, f_Mo_isPort, f_Hp_endpoint, f_Hp_nodeOf, f_Hp_portOf, f_Ma_max, f_Ma_min, f_Hp_isSetting, popN, rok, a1, noX, swc, mL, if_true, if_false, ↓reduceIte, cond_true, cond_false, true_and, and_true, List.length_cons, List.length_nil, List.nil_append, List.cons_append, List.append_nil, Option.toList, Nat.reduceEqDiff, Bool.false_eq_true, reduceCtorEq, Nat.reduceAdd, Nat.reduceLT, Nat.reduceLeDiff, Nat.reduceSub, List.replicate, Nat.zero_add, Nat.lt_add_one, Nat.le_refl, Nat.zero_le, Nat.succ_ne_zero, not_false_eq_true, not_true_eq_false, false_implies, true_implies, forall_const, imp_self, true_or, or_true, eq_self, sI_zw, zw_zw, hI_zw, tg_zw, ln_zw, hR_zw, hL_zw, hN_zw, hM_zw, upd_s, upd_u, upd_ne, Classical.not_not, k_Mo_freshPort, h1, h2, h3, h4, w1, w2, f2]; try clear hgo9 hW9))
    refine c_Mo_goOn a zr t _ _ hm.zw ht ?_
    simp only [aft]
    (obtain ⟨W9, hW9, hgo9⟩ := wp_ex (T_Mo_freshPort l G) [57] _; refine hgo9 200 _ _ _ _ ?_; simp -implicitDefEqProofs (disch := omega) only [hW9, inl, gate, Xq, tz_const, tz_iload, tz_lload, tz_dload, tz_aload, tz_istore, tz_astore, tz_lstore, tz_dstore, tz_iinc, tz_i1, tz_i2, tz_i2z, tz_l2, tz_l2z, tz_i2l, tz_l2i, tz_lcmp, tz_i2d, tz_d2, tz_dcmp, tz_dup, tz_dup2, tz_pop, tz_if, tz_icmp, tz_null, tz_goto, tz_sw, tz_getf, tz_puti, tz_putz, tz_putr, tz_putl, tz_iaload, tz_baload, tz_laload, tz_aaload, tz_iastore, tz_bastore, tz_lastore, tz_aastore, tz_alen, tz_new, tz_newa, tz_oinit, tz_iret, tz_zret, tz_lret, tz_dret, tz_aret, tz_vret, tz_throw, tz_callS, tz_callV, tz_callI, tz_callR, tz_pureS, tz_pureV, tz_callVH, lg, lset, lkill, lst1, lst2, entL, isRf, is1, vl, va_rf_none, va_rf_some, isRf_rf, is1_rf, i0, i1, bI_eq0, bI_eq1, nm_em, nI_eqP, nI_leP, nI_ltP, nN_e1, nN_e2, nN_l1, nN_l2, nN_l3, nN_l4, nI_add, pk_mul, vp_inN, nI_cl, n01, n10, P_i, P_ii, P_iii, f_Mo_at, f_Mo_map, f_Mo_contact, f_Mo_within, f_Mo_isPort, f_Hp_endpoint, f_Hp_nodeOf, f_Hp_portOf, f_Ma_max, f_Ma_min, f_Hp_isSetting, popN, rok, a1, noX, swc, mL, if_true, if_false, ↓reduceIte, cond_true, cond_false, true_and, and_true, List.length_cons, List.length_nil, List.nil_append, List.cons_append, List.append_nil, Option.toList, Nat.reduceEqDiff, Bool.false_eq_true, reduceCtorEq, Nat.reduceAdd, Nat.reduceLT, Nat.reduceLeDiff, Nat.reduceSub, List.replicate, Nat.zero_add, Nat.lt_add_one, Nat.le_refl, Nat.zero_le, Nat.succ_ne_zero, not_false_eq_true, not_true_eq_false, false_implies, true_implies, forall_const, imp_self, true_or, or_true, eq_self, sI_zw, zw_zw, hI_zw, tg_zw, ln_zw, hR_zw, hL_zw, hN_zw, hM_zw, upd_s, upd_u, upd_ne, Classical.not_not, k_Mo_freshPort, h1, h2, h3, h4]; try clear hgo9 hW9)
    subst hs
    exact hQ
  | succ n ih =>
    intro g ho hs hf hQ
    have f2 : HasP g t (g (16 + 16 * t + 9)) := hf.1 0 (by omega)
    obtain ⟨w1, w2⟩ := hasO_w (g (16 + 16 * t + 9)) hm ht ho
    ((obtain ⟨W9, hW9, hgo9⟩ := wp_ex (T_Mo_freshPort l G) [57] _; refine hgo9 200 _ _ _ _ ?_; simp -implicitDefEqProofs (disch := omega) only [hW9, inl, gate, Xq, tz_const, tz_iload, tz_lload, tz_dload, tz_aload, tz_istore, tz_astore, tz_lstore, tz_dstore, tz_iinc, tz_i1, tz_i2, tz_i2z, tz_l2, tz_l2z, tz_i2l, tz_l2i, tz_lcmp, tz_i2d, tz_d2, tz_dcmp, tz_dup, tz_dup2, tz_pop, tz_if, tz_icmp, tz_null, tz_goto, tz_sw, tz_getf, tz_puti, tz_putz, tz_putr, tz_putl, tz_iaload, tz_baload, tz_laload, tz_aaload, tz_iastore, tz_bastore, tz_lastore, tz_aastore, tz_alen, tz_new, tz_newa, tz_oinit, tz_iret, tz_zret, tz_lret, tz_dret, tz_aret, tz_vret, tz_throw, tz_callS, tz_callV, tz_callI, tz_callR, tz_pureS, tz_pureV, tz_callVH, lg, lset, lkill, lst1, lst2, entL, isRf, is1, vl, va_rf_none, va_rf_some, isRf_rf, is1_rf, i0, i1, bI_eq0, bI_eq1, nm_em, nI_eqP, nI_leP, nI_ltP, nN_e1, nN_e2, nN_l1, nN_l2, nN_l3, nN_l4, nI_add, pk_mul, vp_inN, nI_cl, n01, n10, P_i, P_ii, P_iii, f_Mo_at, f_Mo_map, f_Mo_contact, f_Mo_within, f_Mo_isPort, f_Hp_endpoint, f_Hp_nodeOf, f_Hp_portOf, f_Ma_max, f_Ma_min, f_Hp_isSetting, popN, rok, a1, noX, swc, mL, if_true, if_false, ↓reduceIte, cond_true, cond_false, true_and, and_true, List.length_cons, List.length_nil, List.nil_append, List.cons_append, List.append_nil, Option.toList, Nat.reduceEqDiff, Bool.false_eq_true, reduceCtorEq, Nat.reduceAdd, Nat.reduceLT, Nat.reduceLeDiff, Nat.reduceSub, List.replicate, Nat.zero_add, Nat.lt_add_one, Nat.le_refl, Nat.zero_le, Nat.succ_ne_zero, not_false_eq_true, not_true_eq_false, false_implies, true_implies, forall_const, imp_self, true_or, or_true, eq_self, sI_zw, zw_zw, hI_zw, tg_zw, ln_zw, hR_zw, hL_zw, hN_zw, hM_zw, upd_s, upd_u, upd_ne, Classical.not_not, k_Mo_freshPort, h1, h2, h3, h4, w1, w2, f2]; try clear hgo9 hW9); try (obtain ⟨W9, hW9, hgo9⟩ := wp_ex (T_Mo_freshPort l G) [57] _; refine hgo9 200 _ _ _ _ ?_; simp -implicitDefEqProofs (disch := omega) only [hW9, inl, gate, Xq, tz_const, tz_iload, tz_lload, tz_dload, tz_aload, tz_istore, tz_astore, tz_lstore, tz_dstore, tz_iinc, tz_i1, tz_i2, tz_i2z, tz_l2, tz_l2z, tz_i2l, tz_l2i, tz_lcmp, tz_i2d, tz_d2, tz_dcmp, tz_dup, tz_dup2, tz_pop, tz_if, tz_icmp, tz_null, tz_goto, tz_sw, tz_getf, tz_puti, tz_putz, tz_putr, tz_putl, tz_iaload, tz_baload, tz_laload, tz_aaload, tz_iastore, tz_bastore, tz_lastore, tz_aastore, tz_alen, tz_new, tz_newa, tz_oinit, tz_iret, tz_zret, tz_lret, tz_dret, tz_aret, tz_vret, tz_throw, tz_callS, tz_callV, tz_callI, tz_callR, tz_pureS, tz_pureV, tz_callVH, lg, lset, lkill, lst1, lst2, entL, isRf, is1, vl, va_rf_none, va_rf_some, isRf_rf, is1_rf, i0, i1, bI_eq0, bI_eq1, nm_em, nI_eqP, nI_leP, nI_ltP, nN_e1, nN_e2, nN_l1, nN_l2, nN_l3, nN_l4, nI_add, pk_mul, vp_inN, nI_cl, n01, n10, P_i, P_ii, P_iii, f_Mo_at, f_Mo_map, f_Mo_contact, f_Mo_within, f_Mo_isPort, f_Hp_endpoint, f_Hp_nodeOf, f_Hp_portOf, f_Ma_max, f_Ma_min, f_Hp_isSetting, popN, rok, a1, noX, swc, mL, if_true, if_false, ↓reduceIte, cond_true, cond_false, true_and, and_true, List.length_cons, List.length_nil, List.nil_append, List.cons_append, List.append_nil, Option.toList, Nat.reduceEqDiff, Bool.false_eq_true, reduceCtorEq, Nat.reduceAdd, Nat.reduceLT, Nat.reduceLeDiff, Nat.reduceSub, List.replicate, Nat.zero_add, Nat.lt_add_one, Nat.le_refl, Nat.zero_le, Nat.succ_ne_zero, not_false_eq_true, not_true_eq_false, false_implies, true_implies, forall_const, imp_self, true_or, or_true, eq_self, sI_zw, zw_zw, hI_zw, tg_zw, ln_zw, hR_zw, hL_zw, hN_zw, hM_zw, upd_s, upd_u, upd_ne, Classical.not_not, k_Mo_freshPort, h1, h2, h3, h4, w1, w2, f2]; try clear hgo9 hW9))
    refine c_Mo_goOn a zr t _ _ hm.zw ht ?_
    simp only [aft]
    (obtain ⟨W9, hW9, hgo9⟩ := wp_ex (T_Mo_freshPort l G) [57] _; refine hgo9 200 _ _ _ _ ?_; simp -implicitDefEqProofs (disch := omega) only [hW9, inl, gate, Xq, tz_const, tz_iload, tz_lload, tz_dload, tz_aload, tz_istore, tz_astore, tz_lstore, tz_dstore, tz_iinc, tz_i1, tz_i2, tz_i2z, tz_l2, tz_l2z, tz_i2l, tz_l2i, tz_lcmp, tz_i2d, tz_d2, tz_dcmp, tz_dup, tz_dup2, tz_pop, tz_if, tz_icmp, tz_null, tz_goto, tz_sw, tz_getf, tz_puti, tz_putz, tz_putr, tz_putl, tz_iaload, tz_baload, tz_laload, tz_aaload, tz_iastore, tz_bastore, tz_lastore, tz_aastore, tz_alen, tz_new, tz_newa, tz_oinit, tz_iret, tz_zret, tz_lret, tz_dret, tz_aret, tz_vret, tz_throw, tz_callS, tz_callV, tz_callI, tz_callR, tz_pureS, tz_pureV, tz_callVH, lg, lset, lkill, lst1, lst2, entL, isRf, is1, vl, va_rf_none, va_rf_some, isRf_rf, is1_rf, i0, i1, bI_eq0, bI_eq1, nm_em, nI_eqP, nI_leP, nI_ltP, nN_e1, nN_e2, nN_l1, nN_l2, nN_l3, nN_l4, nI_add, pk_mul, vp_inN, nI_cl, n01, n10, P_i, P_ii, P_iii, f_Mo_at, f_Mo_map, f_Mo_contact, f_Mo_within, f_Mo_isPort, f_Hp_endpoint, f_Hp_nodeOf, f_Hp_portOf, f_Ma_max, f_Ma_min, f_Hp_isSetting, popN, rok, a1, noX, swc, mL, if_true, if_false, ↓reduceIte, cond_true, cond_false, true_and, and_true, List.length_cons, List.length_nil, List.nil_append, List.cons_append, List.append_nil, Option.toList, Nat.reduceEqDiff, Bool.false_eq_true, reduceCtorEq, Nat.reduceAdd, Nat.reduceLT, Nat.reduceLeDiff, Nat.reduceSub, List.replicate, Nat.zero_add, Nat.lt_add_one, Nat.le_refl, Nat.zero_le, Nat.succ_ne_zero, not_false_eq_true, not_true_eq_false, false_implies, true_implies, forall_const, imp_self, true_or, or_true, eq_self, sI_zw, zw_zw, hI_zw, tg_zw, ln_zw, hR_zw, hL_zw, hN_zw, hM_zw, upd_s, upd_u, upd_ne, Classical.not_not, k_Mo_freshPort, h1, h2, h3, h4]; try clear hgo9 hW9)
    have e9 : gonZ g t (16 + 16 * t + 9) = nxC s (g (16 + 16 * t + 9)) := by
      unfold gonZ
      rw [upd_eq rfl, hs]
      rfl
    refine ih (gonZ g t) (Own_u (by omega) ho) ?_ ?_ ?_
    · unfold gonZ
      rw [upd_ne (by omega)]
      exact hs
    · rw [e9]
      have eP : HasP (gonZ g t) t = HasP g t := funext fun p => HasP_u ht (by omega) (by omega)
      rw [eP]
      exact hf.tail
    · rw [e9]
      unfold gonZ
      rw [upd_u]
      exact hQ
theorem lp_fp2 {a zr t : Nat} {p : Int32} {h : AH} {Q : Po} (hm : MoS h a zr) (ht : t < 10) : ∀ (n : Nat) (g : Nat → Int32), OwnOK g t → fst0 (fun k => ptR (itr rnd k (g (16 + 16 * t + 10)))) (HasP g t) n → Q (.inl (some (.int (ptR (itr rnd n (g (16 + 16 * t + 10))))))) (zw h zr (upd g (16 + 16 * t + 10) (itr rnd n (g (16 + 16 * t + 10))))) → AWp l G M_Mo_freshPort 109 [some (.ref a), some (.int (nI t)), some (.int p), some (.int (ptR (g (16 + 16 * t + 10))))] [] (zw h zr g) Q := by
  obtain ⟨h1, h2, h3, h4⟩ := id hm
  intro n
  induction n with
  | zero =>
    intro g ho hf hQ
    obtain ⟨-, f2⟩ := hf
    obtain ⟨w1, w2⟩ := hasO_w (ptR (g (16 + 16 * t + 10))) hm ht ho
    replace f2 : ¬ HasP g t (ptR (g (16 + 16 * t + 10))) := f2
    ((obtain ⟨W9, hW9, hgo9⟩ := wp_ex (T_Mo_freshPort l G) [109] _; refine hgo9 200 _ _ _ _ ?_; simp -implicitDefEqProofs (disch := omega) only [hW9, inl, gate, Xq, tz_const, tz_iload, tz_lload, tz_dload, tz_aload, tz_istore, tz_astore, tz_lstore, tz_dstore, tz_iinc, tz_i1, tz_i2, tz_i2z, tz_l2, tz_l2z, tz_i2l, tz_l2i, tz_lcmp, tz_i2d, tz_d2, tz_dcmp, tz_dup, tz_dup2, tz_pop, tz_if, tz_icmp, tz_null, tz_goto, tz_sw, tz_getf, tz_puti, tz_putz, tz_putr, tz_putl, tz_iaload, tz_baload, tz_laload, tz_aaload, tz_iastore, tz_bastore, tz_lastore, tz_aastore, tz_alen, tz_new, tz_newa, tz_oinit, tz_iret, tz_zret, tz_lret, tz_dret, tz_aret, tz_vret, tz_throw, tz_callS, tz_callV, tz_callI, tz_callR, tz_pureS, tz_pureV, tz_callVH, lg, lset, lkill, lst1, lst2, entL, isRf, is1, vl, va_rf_none, va_rf_some, isRf_rf, is1_rf, i0, i1, bI_eq0, bI_eq1, nm_em, nI_eqP, nI_leP, nI_ltP, nN_e1, nN_e2, nN_l1, nN_l2, nN_l3, nN_l4, nI_add, pk_mul, vp_inN, nI_cl, n01, n10, P_i, P_ii, P_iii, f_Mo_at, f_Mo_map, f_Mo_contact, f_Mo_within, f_Mo_isPort, f_Hp_endpoint, f_Hp_nodeOf, f_Hp_portOf, f_Ma_max, f_Ma_min, f_Hp_isSetting, popN, rok, a1, noX, swc, mL, if_true, if_false, ↓reduceIte, cond_true, cond_false, true_and, and_true, List.length_cons, List.length_nil, List.nil_append, List.cons_append, List.append_nil, Option.toList, Nat.reduceEqDiff, Bool.false_eq_true, reduceCtorEq, Nat.reduceAdd, Nat.reduceLT, Nat.reduceLeDiff, Nat.reduceSub, List.replicate, Nat.zero_add, Nat.lt_add_one, Nat.le_refl, Nat.zero_le, Nat.succ_ne_zero, not_false_eq_true, not_true_eq_false, false_implies, true_implies, forall_const, imp_self, true_or, or_true, eq_self, sI_zw, zw_zw, hI_zw, tg_zw, ln_zw, hR_zw, hL_zw, hN_zw, hM_zw, upd_s, upd_u, upd_ne, Classical.not_not, k_Mo_freshPort, h1, h2, h3, h4, w1, w2, f2]; try clear hgo9 hW9); try (obtain ⟨W9, hW9, hgo9⟩ := wp_ex (T_Mo_freshPort l G) [109] _; refine hgo9 200 _ _ _ _ ?_; simp -implicitDefEqProofs (disch := omega) only [hW9, inl, gate, Xq, tz_const, tz_iload, tz_lload, tz_dload, tz_aload, tz_istore, tz_astore, tz_lstore, tz_dstore, tz_iinc, tz_i1, tz_i2, tz_i2z, tz_l2, tz_l2z, tz_i2l, tz_l2i, tz_lcmp, tz_i2d, tz_d2, tz_dcmp, tz_dup, tz_dup2, tz_pop, tz_if, tz_icmp, tz_null, tz_goto, tz_sw, tz_getf, tz_puti, tz_putz, tz_putr, tz_putl, tz_iaload, tz_baload, tz_laload, tz_aaload, tz_iastore, tz_bastore, tz_lastore, tz_aastore, tz_alen, tz_new, tz_newa, tz_oinit, tz_iret, tz_zret, tz_lret, tz_dret, tz_aret, tz_vret, tz_throw, tz_callS, tz_callV, tz_callI, tz_callR, tz_pureS, tz_pureV, tz_callVH, lg, lset, lkill, lst1, lst2, entL, isRf, is1, vl, va_rf_none, va_rf_some, isRf_rf, is1_rf, i0, i1, bI_eq0, bI_eq1, nm_em, nI_eqP, nI_leP, nI_ltP, nN_e1, nN_e2, nN_l1, nN_l2, nN_l3, nN_l4, nI_add, pk_mul, vp_inN, nI_cl, n01, n10, P_i, P_ii, P_iii, f_Mo_at, f_Mo_map, f_Mo_contact, f_Mo_within, f_Mo_isPort, f_Hp_endpoint, f_Hp_nodeOf, f_Hp_portOf, f_Ma_max, f_Ma_min, f_Hp_isSetting, popN, rok, a1, noX, swc, mL, if_true, if_false, ↓reduceIte, cond_true, cond_false, true_and, and_true, List.length_cons, List.length_nil, List.nil_append, List.cons_append, List.append_nil, Option.toList, Nat.reduceEqDiff, Bool.false_eq_true, reduceCtorEq, Nat.reduceAdd, Nat.reduceLT, Nat.reduceLeDiff, Nat.reduceSub, List.replicate, Nat.zero_add, Nat.lt_add_one, Nat.le_refl, Nat.zero_le, Nat.succ_ne_zero, not_false_eq_true, not_true_eq_false, false_implies, true_implies, forall_const, imp_self, true_or, or_true, eq_self, sI_zw, zw_zw, hI_zw, tg_zw, ln_zw, hR_zw, hL_zw, hN_zw, hM_zw, upd_s, upd_u, upd_ne, Classical.not_not, k_Mo_freshPort, h1, h2, h3, h4, w1, w2, f2]; try clear hgo9 hW9))
    have e : upd g (16 + 16 * t + 10) (g (16 + 16 * t + 10)) = g := by
      funext j
      by_cases c : j = 16 + 16 * t + 10
      · rw [upd_eq c, c]
      · rw [upd_ne c]
    rw [itr, e] at hQ
    exact hQ
  | succ n ih =>
    intro g ho hf hQ
    have f2 : HasP g t (ptR (g (16 + 16 * t + 10))) := hf.1 0 (by omega)
    obtain ⟨w1, w2⟩ := hasO_w (ptR (g (16 + 16 * t + 10))) hm ht ho
    ((obtain ⟨W9, hW9, hgo9⟩ := wp_ex (T_Mo_freshPort l G) [109] _; refine hgo9 200 _ _ _ _ ?_; simp -implicitDefEqProofs (disch := omega) only [hW9, inl, gate, Xq, tz_const, tz_iload, tz_lload, tz_dload, tz_aload, tz_istore, tz_astore, tz_lstore, tz_dstore, tz_iinc, tz_i1, tz_i2, tz_i2z, tz_l2, tz_l2z, tz_i2l, tz_l2i, tz_lcmp, tz_i2d, tz_d2, tz_dcmp, tz_dup, tz_dup2, tz_pop, tz_if, tz_icmp, tz_null, tz_goto, tz_sw, tz_getf, tz_puti, tz_putz, tz_putr, tz_putl, tz_iaload, tz_baload, tz_laload, tz_aaload, tz_iastore, tz_bastore, tz_lastore, tz_aastore, tz_alen, tz_new, tz_newa, tz_oinit, tz_iret, tz_zret, tz_lret, tz_dret, tz_aret, tz_vret, tz_throw, tz_callS, tz_callV, tz_callI, tz_callR, tz_pureS, tz_pureV, tz_callVH, lg, lset, lkill, lst1, lst2, entL, isRf, is1, vl, va_rf_none, va_rf_some, isRf_rf, is1_rf, i0, i1, bI_eq0, bI_eq1, nm_em, nI_eqP, nI_leP, nI_ltP, nN_e1, nN_e2, nN_l1, nN_l2, nN_l3, nN_l4, nI_add, pk_mul, vp_inN, nI_cl, n01, n10, P_i, P_ii, P_iii, f_Mo_at, f_Mo_map, f_Mo_contact, f_Mo_within, f_Mo_isPort, f_Hp_endpoint, f_Hp_nodeOf, f_Hp_portOf, f_Ma_max, f_Ma_min, f_Hp_isSetting, popN, rok, a1, noX, swc, mL, if_true, if_false, ↓reduceIte, cond_true, cond_false, true_and, and_true, List.length_cons, List.length_nil, List.nil_append, List.cons_append, List.append_nil, Option.toList, Nat.reduceEqDiff, Bool.false_eq_true, reduceCtorEq, Nat.reduceAdd, Nat.reduceLT, Nat.reduceLeDiff, Nat.reduceSub, List.replicate, Nat.zero_add, Nat.lt_add_one, Nat.le_refl, Nat.zero_le, Nat.succ_ne_zero, not_false_eq_true, not_true_eq_false, false_implies, true_implies, forall_const, imp_self, true_or, or_true, eq_self, sI_zw, zw_zw, hI_zw, tg_zw, ln_zw, hR_zw, hL_zw, hN_zw, hM_zw, upd_s, upd_u, upd_ne, Classical.not_not, k_Mo_freshPort, h1, h2, h3, h4, w1, w2, f2]; try clear hgo9 hW9); try (obtain ⟨W9, hW9, hgo9⟩ := wp_ex (T_Mo_freshPort l G) [109] _; refine hgo9 200 _ _ _ _ ?_; simp -implicitDefEqProofs (disch := omega) only [hW9, inl, gate, Xq, tz_const, tz_iload, tz_lload, tz_dload, tz_aload, tz_istore, tz_astore, tz_lstore, tz_dstore, tz_iinc, tz_i1, tz_i2, tz_i2z, tz_l2, tz_l2z, tz_i2l, tz_l2i, tz_lcmp, tz_i2d, tz_d2, tz_dcmp, tz_dup, tz_dup2, tz_pop, tz_if, tz_icmp, tz_null, tz_goto, tz_sw, tz_getf, tz_puti, tz_putz, tz_putr, tz_putl, tz_iaload, tz_baload, tz_laload, tz_aaload, tz_iastore, tz_bastore, tz_lastore, tz_aastore, tz_alen, tz_new, tz_newa, tz_oinit, tz_iret, tz_zret, tz_lret, tz_dret, tz_aret, tz_vret, tz_throw, tz_callS, tz_callV, tz_callI, tz_callR, tz_pureS, tz_pureV, tz_callVH, lg, lset, lkill, lst1, lst2, entL, isRf, is1, vl, va_rf_none, va_rf_some, isRf_rf, is1_rf, i0, i1, bI_eq0, bI_eq1, nm_em, nI_eqP, nI_leP, nI_ltP, nN_e1, nN_e2, nN_l1, nN_l2, nN_l3, nN_l4, nI_add, pk_mul, vp_inN, nI_cl, n01, n10, P_i, P_ii, P_iii, f_Mo_at, f_Mo_map, f_Mo_contact, f_Mo_within, f_Mo_isPort, f_Hp_endpoint, f_Hp_nodeOf, f_Hp_portOf, f_Ma_max, f_Ma_min, f_Hp_isSetting, popN, rok, a1, noX, swc, mL, if_true, if_false, ↓reduceIte, cond_true, cond_false, true_and, and_true, List.length_cons, List.length_nil, List.nil_append, List.cons_append, List.append_nil, Option.toList, Nat.reduceEqDiff, Bool.false_eq_true, reduceCtorEq, Nat.reduceAdd, Nat.reduceLT, Nat.reduceLeDiff, Nat.reduceSub, List.replicate, Nat.zero_add, Nat.lt_add_one, Nat.le_refl, Nat.zero_le, Nat.succ_ne_zero, not_false_eq_true, not_true_eq_false, false_implies, true_implies, forall_const, imp_self, true_or, or_true, eq_self, sI_zw, zw_zw, hI_zw, tg_zw, ln_zw, hR_zw, hL_zw, hN_zw, hM_zw, upd_s, upd_u, upd_ne, Classical.not_not, k_Mo_freshPort, h1, h2, h3, h4, w1, w2, f2]; try clear hgo9 hW9))
    refine c_Mo_drawn a zr t _ _ hm.zw ht ?_
    simp only [aft]
    (obtain ⟨W9, hW9, hgo9⟩ := wp_ex (T_Mo_freshPort l G) [109] _; refine hgo9 200 _ _ _ _ ?_; simp -implicitDefEqProofs (disch := omega) only [hW9, inl, gate, Xq, tz_const, tz_iload, tz_lload, tz_dload, tz_aload, tz_istore, tz_astore, tz_lstore, tz_dstore, tz_iinc, tz_i1, tz_i2, tz_i2z, tz_l2, tz_l2z, tz_i2l, tz_l2i, tz_lcmp, tz_i2d, tz_d2, tz_dcmp, tz_dup, tz_dup2, tz_pop, tz_if, tz_icmp, tz_null, tz_goto, tz_sw, tz_getf, tz_puti, tz_putz, tz_putr, tz_putl, tz_iaload, tz_baload, tz_laload, tz_aaload, tz_iastore, tz_bastore, tz_lastore, tz_aastore, tz_alen, tz_new, tz_newa, tz_oinit, tz_iret, tz_zret, tz_lret, tz_dret, tz_aret, tz_vret, tz_throw, tz_callS, tz_callV, tz_callI, tz_callR, tz_pureS, tz_pureV, tz_callVH, lg, lset, lkill, lst1, lst2, entL, isRf, is1, vl, va_rf_none, va_rf_some, isRf_rf, is1_rf, i0, i1, bI_eq0, bI_eq1, nm_em, nI_eqP, nI_leP, nI_ltP, nN_e1, nN_e2, nN_l1, nN_l2, nN_l3, nN_l4, nI_add, pk_mul, vp_inN, nI_cl, n01, n10, P_i, P_ii, P_iii, f_Mo_at, f_Mo_map, f_Mo_contact, f_Mo_within, f_Mo_isPort, f_Hp_endpoint, f_Hp_nodeOf, f_Hp_portOf, f_Ma_max, f_Ma_min, f_Hp_isSetting, popN, rok, a1, noX, swc, mL, if_true, if_false, ↓reduceIte, cond_true, cond_false, true_and, and_true, List.length_cons, List.length_nil, List.nil_append, List.cons_append, List.append_nil, Option.toList, Nat.reduceEqDiff, Bool.false_eq_true, reduceCtorEq, Nat.reduceAdd, Nat.reduceLT, Nat.reduceLeDiff, Nat.reduceSub, List.replicate, Nat.zero_add, Nat.lt_add_one, Nat.le_refl, Nat.zero_le, Nat.succ_ne_zero, not_false_eq_true, not_true_eq_false, false_implies, true_implies, forall_const, imp_self, true_or, or_true, eq_self, sI_zw, zw_zw, hI_zw, tg_zw, ln_zw, hR_zw, hL_zw, hN_zw, hM_zw, upd_s, upd_u, upd_ne, Classical.not_not, k_Mo_freshPort, h1, h2, h3, h4]; try clear hgo9 hW9)
    have := ih (upd g (16 + 16 * t + 10) (rnd (g (16 + 16 * t + 10)))) (Own_u (by omega) ho) ?_ ?_
    · rw [upd_s] at this
      exact this
    · rw [upd_s]
      have eP : HasP (upd g (16 + 16 * t + 10) (rnd (g (16 + 16 * t + 10)))) t = HasP g t := funext fun p => HasP_u ht (by omega) (by omega)
      rw [eP]
      exact hf.tail
    · rw [upd_s, upd_u]
      exact hQ
/-- what freshPort answers, and the numbers after it -/
def FpR (z : Nat → Int32) (t : Nat) (p r : Int32) (z' : Nat → Int32) : Prop :=
  (z (16 + 16 * t + 4) = nI 0 ∧ z' = z ∧ ∃ n, fst0 (fun k => p + nI k) (HasP z t) n ∧ r = (if nI 9999 < p + nI n then nN else p + nI n)) ∨
  (z (16 + 16 * t + 4) = nI 1 ∧ ∃ n, fst0 (fun k => itr (nxC (z (16 + 16 * t + 5))) k (z (16 + 16 * t + 9))) (HasP z t) n ∧ r = itr (nxC (z (16 + 16 * t + 5))) n (z (16 + 16 * t + 9)) ∧ z' = upd z (16 + 16 * t + 9) (itr (nxC (z (16 + 16 * t + 5))) (n + 1) (z (16 + 16 * t + 9)))) ∨
  (¬ z (16 + 16 * t + 4) = nI 0 ∧ ¬ z (16 + 16 * t + 4) = nI 1 ∧ ∃ n, fst0 (fun k => ptR (itr rnd (k + 1) (z (16 + 16 * t + 10)))) (HasP z t) n ∧ r = ptR (itr rnd (n + 1) (z (16 + 16 * t + 10))) ∧ z' = upd z (16 + 16 * t + 10) (itr rnd (n + 1) (z (16 + 16 * t + 10))))
theorem c_Mo_freshPort (a zr t : Nat) (p r : Int32) (z' : Nat → Int32) (h : AH) (Q : Po) (hm : MoS h a zr) (ht : t < 10) (ho : OwnOK (hI h zr) t) (hr : FpR (hI h zr) t p r z') (hQ : Q (.inl (some (.int r))) (zw h zr z')) : Call l G M_Mo_freshPort [.ref a, .int (nI t), .int p] h Q := by
  obtain ⟨h1, h2, h3, h4⟩ := id hm
  refine call_of rfl rfl (Nat.le_of_ble_eq_true rfl) ?_
  rcases hr with ⟨k, e, n, hf, er⟩ | ⟨k, n, hf, er, e⟩ | ⟨k, k', n, hf, er, e⟩
  · subst e
    (obtain ⟨W9, hW9, hgo9⟩ := wp_ex (T_Mo_freshPort l G) [15, 57, 103] _; refine hgo9 200 _ _ _ _ ?_; simp -implicitDefEqProofs (disch := omega) only [hW9, inl, gate, Xq, tz_const, tz_iload, tz_lload, tz_dload, tz_aload, tz_istore, tz_astore, tz_lstore, tz_dstore, tz_iinc, tz_i1, tz_i2, tz_i2z, tz_l2, tz_l2z, tz_i2l, tz_l2i, tz_lcmp, tz_i2d, tz_d2, tz_dcmp, tz_dup, tz_dup2, tz_pop, tz_if, tz_icmp, tz_null, tz_goto, tz_sw, tz_getf, tz_puti, tz_putz, tz_putr, tz_putl, tz_iaload, tz_baload, tz_laload, tz_aaload, tz_iastore, tz_bastore, tz_lastore, tz_aastore, tz_alen, tz_new, tz_newa, tz_oinit, tz_iret, tz_zret, tz_lret, tz_dret, tz_aret, tz_vret, tz_throw, tz_callS, tz_callV, tz_callI, tz_callR, tz_pureS, tz_pureV, tz_callVH, lg, lset, lkill, lst1, lst2, entL, isRf, is1, vl, va_rf_none, va_rf_some, isRf_rf, is1_rf, i0, i1, bI_eq0, bI_eq1, nm_em, nI_eqP, nI_leP, nI_ltP, nN_e1, nN_e2, nN_l1, nN_l2, nN_l3, nN_l4, nI_add, pk_mul, vp_inN, nI_cl, n01, n10, P_i, P_ii, P_iii, f_Mo_at, f_Mo_map, f_Mo_contact, f_Mo_within, f_Mo_isPort, f_Hp_endpoint, f_Hp_nodeOf, f_Hp_portOf, f_Ma_max, f_Ma_min, f_Hp_isSetting, popN, rok, a1, noX, swc, mL, if_true, if_false, ↓reduceIte, cond_true, cond_false, true_and, and_true, List.length_cons, List.length_nil, List.nil_append, List.cons_append, List.append_nil, Option.toList, Nat.reduceEqDiff, Bool.false_eq_true, reduceCtorEq, Nat.reduceAdd, Nat.reduceLT, Nat.reduceLeDiff, Nat.reduceSub, List.replicate, Nat.zero_add, Nat.lt_add_one, Nat.le_refl, Nat.zero_le, Nat.succ_ne_zero, not_false_eq_true, not_true_eq_false, false_implies, true_implies, forall_const, imp_self, true_or, or_true, eq_self, sI_zw, zw_zw, hI_zw, tg_zw, ln_zw, hR_zw, hL_zw, hN_zw, hM_zw, upd_s, upd_u, upd_ne, Classical.not_not, k_Mo_freshPort, h1, h2, h3, h4, k]; try clear hgo9 hW9)
    have := lp_fp0 (l := l) (G := G) (Q := Q) (p := p) (g := hI h zr) hm ht ho n p hf
    rw [zw_self] at this
    rw [zw_self] at hQ
    refine this (fun c => ?_) (fun c => ?_)
    · rw [if_pos c] at er
      rw [er] at hQ
      exact hQ
    · rw [if_neg c] at er
      rw [er] at hQ
      exact hQ
  · subst e er
    ((obtain ⟨W9, hW9, hgo9⟩ := wp_ex (T_Mo_freshPort l G) [15, 57, 103] _; refine hgo9 200 _ _ _ _ ?_; simp -implicitDefEqProofs (disch := omega) only [hW9, inl, gate, Xq, tz_const, tz_iload, tz_lload, tz_dload, tz_aload, tz_istore, tz_astore, tz_lstore, tz_dstore, tz_iinc, tz_i1, tz_i2, tz_i2z, tz_l2, tz_l2z, tz_i2l, tz_l2i, tz_lcmp, tz_i2d, tz_d2, tz_dcmp, tz_dup, tz_dup2, tz_pop, tz_if, tz_icmp, tz_null, tz_goto, tz_sw, tz_getf, tz_puti, tz_putz, tz_putr, tz_putl, tz_iaload, tz_baload, tz_laload, tz_aaload, tz_iastore, tz_bastore, tz_lastore, tz_aastore, tz_alen, tz_new, tz_newa, tz_oinit, tz_iret, tz_zret, tz_lret, tz_dret, tz_aret, tz_vret, tz_throw, tz_callS, tz_callV, tz_callI, tz_callR, tz_pureS, tz_pureV, tz_callVH, lg, lset, lkill, lst1, lst2, entL, isRf, is1, vl, va_rf_none, va_rf_some, isRf_rf, is1_rf, i0, i1, bI_eq0, bI_eq1, nm_em, nI_eqP, nI_leP, nI_ltP, nN_e1, nN_e2, nN_l1, nN_l2, nN_l3, nN_l4, nI_add, pk_mul, vp_inN, nI_cl, n01, n10, P_i, P_ii, P_iii, f_Mo_at, f_Mo_map, f_Mo_contact, f_Mo_within, f_Mo_isPort, f_Hp_endpoint, f_Hp_nodeOf, f_Hp_portOf, f_Ma_max, f_Ma_min, f_Hp_isSetting, popN, rok, a1, noX, swc, mL, if_true, if_false, ↓reduceIte, cond_true, cond_false, true_and, and_true, List.length_cons, List.length_nil, List.nil_append, List.cons_append, List.append_nil, Option.toList, Nat.reduceEqDiff, Bool.false_eq_true, reduceCtorEq, Nat.reduceAdd, Nat.reduceLT, Nat.reduceLeDiff, Nat.reduceSub, List.replicate, Nat.zero_add, Nat.lt_add_one, Nat.le_refl, Nat.zero_le, Nat.succ_ne_zero, not_false_eq_true, not_true_eq_false, false_implies, true_implies, forall_const, imp_self, true_or, or_true, eq_self, sI_zw, zw_zw, hI_zw, tg_zw, ln_zw, hR_zw, hL_zw, hN_zw, hM_zw, upd_s, upd_u, upd_ne, Classical.not_not, k_Mo_freshPort, h1, h2, h3, h4, k]; try clear hgo9 hW9); try (obtain ⟨W9, hW9, hgo9⟩ := wp_ex (T_Mo_freshPort l G) [15, 57, 103] _; refine hgo9 200 _ _ _ _ ?_; simp -implicitDefEqProofs (disch := omega) only [hW9, inl, gate, Xq, tz_const, tz_iload, tz_lload, tz_dload, tz_aload, tz_istore, tz_astore, tz_lstore, tz_dstore, tz_iinc, tz_i1, tz_i2, tz_i2z, tz_l2, tz_l2z, tz_i2l, tz_l2i, tz_lcmp, tz_i2d, tz_d2, tz_dcmp, tz_dup, tz_dup2, tz_pop, tz_if, tz_icmp, tz_null, tz_goto, tz_sw, tz_getf, tz_puti, tz_putz, tz_putr, tz_putl, tz_iaload, tz_baload, tz_laload, tz_aaload, tz_iastore, tz_bastore, tz_lastore, tz_aastore, tz_alen, tz_new, tz_newa, tz_oinit, tz_iret, tz_zret, tz_lret, tz_dret, tz_aret, tz_vret, tz_throw, tz_callS, tz_callV, tz_callI, tz_callR, tz_pureS, tz_pureV, tz_callVH, lg, lset, lkill, lst1, lst2, entL, isRf, is1, vl, va_rf_none, va_rf_some, isRf_rf, is1_rf, i0, i1, bI_eq0, bI_eq1, nm_em, nI_eqP, nI_leP, nI_ltP, nN_e1, nN_e2, nN_l1, nN_l2, nN_l3, nN_l4, nI_add, pk_mul, vp_inN, nI_cl, n01, n10, P_i, P_ii, P_iii, f_Mo_at, f_Mo_map, f_Mo_contact, f_Mo_within, f_Mo_isPort, f_Hp_endpoint, f_Hp_nodeOf, f_Hp_portOf, f_Ma_max, f_Ma_min, f_Hp_isSetting, popN, rok, a1, noX, swc, mL, if_true, if_false, ↓reduceIte, cond_true, cond_false, true_and, and_true, List.length_cons, List.length_nil, List.nil_append, List.cons_append, List.append_nil, Option.toList, Nat.reduceEqDiff, Bool.false_eq_true, reduceCtorEq, Nat.reduceAdd, Nat.reduceLT, Nat.reduceLeDiff, Nat.reduceSub, List.replicate, Nat.zero_add, Nat.lt_add_one, Nat.le_refl, Nat.zero_le, Nat.succ_ne_zero, not_false_eq_true, not_true_eq_false, false_implies, true_implies, forall_const, imp_self, true_or, or_true, eq_self, sI_zw, zw_zw, hI_zw, tg_zw, ln_zw, hR_zw, hL_zw, hN_zw, hM_zw, upd_s, upd_u, upd_ne, Classical.not_not, k_Mo_freshPort, h1, h2, h3, h4, k]; try clear hgo9 hW9))
    have := lp_fp1 (l := l) (G := G) (Q := Q) (p := p) (v := some (.int p)) hm ht n (hI h zr) ho rfl hf
    rw [zw_self] at this
    exact this hQ
  · subst e er
    ((obtain ⟨W9, hW9, hgo9⟩ := wp_ex (T_Mo_freshPort l G) [15, 57, 109] _; refine hgo9 200 _ _ _ _ ?_; simp -implicitDefEqProofs (disch := omega) only [hW9, inl, gate, Xq, tz_const, tz_iload, tz_lload, tz_dload, tz_aload, tz_istore, tz_astore, tz_lstore, tz_dstore, tz_iinc, tz_i1, tz_i2, tz_i2z, tz_l2, tz_l2z, tz_i2l, tz_l2i, tz_lcmp, tz_i2d, tz_d2, tz_dcmp, tz_dup, tz_dup2, tz_pop, tz_if, tz_icmp, tz_null, tz_goto, tz_sw, tz_getf, tz_puti, tz_putz, tz_putr, tz_putl, tz_iaload, tz_baload, tz_laload, tz_aaload, tz_iastore, tz_bastore, tz_lastore, tz_aastore, tz_alen, tz_new, tz_newa, tz_oinit, tz_iret, tz_zret, tz_lret, tz_dret, tz_aret, tz_vret, tz_throw, tz_callS, tz_callV, tz_callI, tz_callR, tz_pureS, tz_pureV, tz_callVH, lg, lset, lkill, lst1, lst2, entL, isRf, is1, vl, va_rf_none, va_rf_some, isRf_rf, is1_rf, i0, i1, bI_eq0, bI_eq1, nm_em, nI_eqP, nI_leP, nI_ltP, nN_e1, nN_e2, nN_l1, nN_l2, nN_l3, nN_l4, nI_add, pk_mul, vp_inN, nI_cl, n01, n10, P_i, P_ii, P_iii, f_Mo_at, f_Mo_map, f_Mo_contact, f_Mo_within, f_Mo_isPort, f_Hp_endpoint, f_Hp_nodeOf, f_Hp_portOf, f_Ma_max, f_Ma_min, f_Hp_isSetting, popN, rok, a1, noX, swc, mL, if_true, if_false, ↓reduceIte, cond_true, cond_false, true_and, and_true, List.length_cons, List.length_nil, List.nil_append, List.cons_append, List.append_nil, Option.toList, Nat.reduceEqDiff, Bool.false_eq_true, reduceCtorEq, Nat.reduceAdd, Nat.reduceLT, Nat.reduceLeDiff, Nat.reduceSub, List.replicate, Nat.zero_add, Nat.lt_add_one, Nat.le_refl, Nat.zero_le, Nat.succ_ne_zero, not_false_eq_true, not_true_eq_false, false_implies, true_implies, forall_const, imp_self, true_or, or_true, eq_self, sI_zw, zw_zw, hI_zw, tg_zw, ln_zw, hR_zw, hL_zw, hN_zw, hM_zw, upd_s, upd_u, upd_ne, Classical.not_not, k_Mo_freshPort, h1, h2, h3, h4, k, k']; try clear hgo9 hW9); try (obtain ⟨W9, hW9, hgo9⟩ := wp_ex (T_Mo_freshPort l G) [15, 57, 109] _; refine hgo9 200 _ _ _ _ ?_; simp -implicitDefEqProofs (disch := omega) only [hW9, inl, gate, Xq, tz_const, tz_iload, tz_lload, tz_dload, tz_aload, tz_istore, tz_astore, tz_lstore, tz_dstore, tz_iinc, tz_i1, tz_i2, tz_i2z, tz_l2, tz_l2z, tz_i2l, tz_l2i, tz_lcmp, tz_i2d, tz_d2, tz_dcmp, tz_dup, tz_dup2, tz_pop, tz_if, tz_icmp, tz_null, tz_goto, tz_sw, tz_getf, tz_puti, tz_putz, tz_putr, tz_putl, tz_iaload, tz_baload, tz_laload, tz_aaload, tz_iastore, tz_bastore, tz_lastore, tz_aastore, tz_alen, tz_new, tz_newa, tz_oinit, tz_iret, tz_zret, tz_lret, tz_dret, tz_aret, tz_vret, tz_throw, tz_callS, tz_callV, tz_callI, tz_callR, tz_pureS, tz_pureV, tz_callVH, lg, lset, lkill, lst1, lst2, entL, isRf, is1, vl, va_rf_none, va_rf_some, isRf_rf, is1_rf, i0, i1, bI_eq0, bI_eq1, nm_em, nI_eqP, nI_leP, nI_ltP, nN_e1, nN_e2, nN_l1, nN_l2, nN_l3, nN_l4, nI_add, pk_mul, vp_inN, nI_cl, n01, n10, P_i, P_ii, P_iii, f_Mo_at, f_Mo_map, f_Mo_contact, f_Mo_within, f_Mo_isPort, f_Hp_endpoint, f_Hp_nodeOf, f_Hp_portOf, f_Ma_max, f_Ma_min, f_Hp_isSetting, popN, rok, a1, noX, swc, mL, if_true, if_false, ↓reduceIte, cond_true, cond_false, true_and, and_true, List.length_cons, List.length_nil, List.nil_append, List.cons_append, List.append_nil, Option.toList, Nat.reduceEqDiff, Bool.false_eq_true, reduceCtorEq, Nat.reduceAdd, Nat.reduceLT, Nat.reduceLeDiff, Nat.reduceSub, List.replicate, Nat.zero_add, Nat.lt_add_one, Nat.le_refl, Nat.zero_le, Nat.succ_ne_zero, not_false_eq_true, not_true_eq_false, false_implies, true_implies, forall_const, imp_self, true_or, or_true, eq_self, sI_zw, zw_zw, hI_zw, tg_zw, ln_zw, hR_zw, hL_zw, hN_zw, hM_zw, upd_s, upd_u, upd_ne, Classical.not_not, k_Mo_freshPort, h1, h2, h3, h4, k, k']; try clear hgo9 hW9); try (obtain ⟨W9, hW9, hgo9⟩ := wp_ex (T_Mo_freshPort l G) [15, 57, 109] _; refine hgo9 200 _ _ _ _ ?_; simp -implicitDefEqProofs (disch := omega) only [hW9, inl, gate, Xq, tz_const, tz_iload, tz_lload, tz_dload, tz_aload, tz_istore, tz_astore, tz_lstore, tz_dstore, tz_iinc, tz_i1, tz_i2, tz_i2z, tz_l2, tz_l2z, tz_i2l, tz_l2i, tz_lcmp, tz_i2d, tz_d2, tz_dcmp, tz_dup, tz_dup2, tz_pop, tz_if, tz_icmp, tz_null, tz_goto, tz_sw, tz_getf, tz_puti, tz_putz, tz_putr, tz_putl, tz_iaload, tz_baload, tz_laload, tz_aaload, tz_iastore, tz_bastore, tz_lastore, tz_aastore, tz_alen, tz_new, tz_newa, tz_oinit, tz_iret, tz_zret, tz_lret, tz_dret, tz_aret, tz_vret, tz_throw, tz_callS, tz_callV, tz_callI, tz_callR, tz_pureS, tz_pureV, tz_callVH, lg, lset, lkill, lst1, lst2, entL, isRf, is1, vl, va_rf_none, va_rf_some, isRf_rf, is1_rf, i0, i1, bI_eq0, bI_eq1, nm_em, nI_eqP, nI_leP, nI_ltP, nN_e1, nN_e2, nN_l1, nN_l2, nN_l3, nN_l4, nI_add, pk_mul, vp_inN, nI_cl, n01, n10, P_i, P_ii, P_iii, f_Mo_at, f_Mo_map, f_Mo_contact, f_Mo_within, f_Mo_isPort, f_Hp_endpoint, f_Hp_nodeOf, f_Hp_portOf, f_Ma_max, f_Ma_min, f_Hp_isSetting, popN, rok, a1, noX, swc, mL, if_true, if_false, ↓reduceIte, cond_true, cond_false, true_and, and_true, List.length_cons, List.length_nil, List.nil_append, List.cons_append, List.append_nil, Option.toList, Nat.reduceEqDiff, Bool.false_eq_true, reduceCtorEq, Nat.reduceAdd, Nat.reduceLT, Nat.reduceLeDiff, Nat.reduceSub, List.replicate, Nat.zero_add, Nat.lt_add_one, Nat.le_refl, Nat.zero_le, Nat.succ_ne_zero, not_false_eq_true, not_true_eq_false, false_implies, true_implies, forall_const, imp_self, true_or, or_true, eq_self, sI_zw, zw_zw, hI_zw, tg_zw, ln_zw, hR_zw, hL_zw, hN_zw, hM_zw, upd_s, upd_u, upd_ne, Classical.not_not, k_Mo_freshPort, h1, h2, h3, h4, k, k']; try clear hgo9 hW9))
    refine c_Mo_drawn a zr t _ _ hm ht ?_
    simp only [aft]
    (obtain ⟨W9, hW9, hgo9⟩ := wp_ex (T_Mo_freshPort l G) [15, 57, 109] _; refine hgo9 200 _ _ _ _ ?_; simp -implicitDefEqProofs (disch := omega) only [hW9, inl, gate, Xq, tz_const, tz_iload, tz_lload, tz_dload, tz_aload, tz_istore, tz_astore, tz_lstore, tz_dstore, tz_iinc, tz_i1, tz_i2, tz_i2z, tz_l2, tz_l2z, tz_i2l, tz_l2i, tz_lcmp, tz_i2d, tz_d2, tz_dcmp, tz_dup, tz_dup2, tz_pop, tz_if, tz_icmp, tz_null, tz_goto, tz_sw, tz_getf, tz_puti, tz_putz, tz_putr, tz_putl, tz_iaload, tz_baload, tz_laload, tz_aaload, tz_iastore, tz_bastore, tz_lastore, tz_aastore, tz_alen, tz_new, tz_newa, tz_oinit, tz_iret, tz_zret, tz_lret, tz_dret, tz_aret, tz_vret, tz_throw, tz_callS, tz_callV, tz_callI, tz_callR, tz_pureS, tz_pureV, tz_callVH, lg, lset, lkill, lst1, lst2, entL, isRf, is1, vl, va_rf_none, va_rf_some, isRf_rf, is1_rf, i0, i1, bI_eq0, bI_eq1, nm_em, nI_eqP, nI_leP, nI_ltP, nN_e1, nN_e2, nN_l1, nN_l2, nN_l3, nN_l4, nI_add, pk_mul, vp_inN, nI_cl, n01, n10, P_i, P_ii, P_iii, f_Mo_at, f_Mo_map, f_Mo_contact, f_Mo_within, f_Mo_isPort, f_Hp_endpoint, f_Hp_nodeOf, f_Hp_portOf, f_Ma_max, f_Ma_min, f_Hp_isSetting, popN, rok, a1, noX, swc, mL, if_true, if_false, ↓reduceIte, cond_true, cond_false, true_and, and_true, List.length_cons, List.length_nil, List.nil_append, List.cons_append, List.append_nil, Option.toList, Nat.reduceEqDiff, Bool.false_eq_true, reduceCtorEq, Nat.reduceAdd, Nat.reduceLT, Nat.reduceLeDiff, Nat.reduceSub, List.replicate, Nat.zero_add, Nat.lt_add_one, Nat.le_refl, Nat.zero_le, Nat.succ_ne_zero, not_false_eq_true, not_true_eq_false, false_implies, true_implies, forall_const, imp_self, true_or, or_true, eq_self, sI_zw, zw_zw, hI_zw, tg_zw, ln_zw, hR_zw, hL_zw, hN_zw, hM_zw, upd_s, upd_u, upd_ne, Classical.not_not, k_Mo_freshPort, h1, h2, h3, h4]; try clear hgo9 hW9)
    have := lp_fp2 (l := l) (G := G) (Q := Q) (p := p) hm ht n (upd (hI h zr) (16 + 16 * t + 10) (rnd (hI h zr (16 + 16 * t + 10)))) (Own_u (by omega) ho)
    rw [upd_s, upd_u] at this
    have eP : HasP (upd (hI h zr) (16 + 16 * t + 10) (rnd (hI h zr (16 + 16 * t + 10)))) t = HasP (hI h zr) t := funext fun p => HasP_u ht (by omega) (by omega)
    rw [eP] at this
    exact this hf hQ
end
