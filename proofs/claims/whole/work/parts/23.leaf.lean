def k_Mo_at (l : Launch) (G : Gc) (pc : Nat) : Tr :=
  if pc < 6 then
   if pc < 4 then
    if pc < 2 then
     if pc = 0 then tz_const 2 (.int (nI 16)) else dead
    else
     if pc = 2 then tz_const 4 (.int (nI 16)) else dead
   else
    if pc < 5 then
     if pc = 4 then tz_iload 5 0 else dead
    else
     if pc = 5 then tz_i2 6 (fun a b => a * b) else dead
  else
   if pc < 8 then
    if pc < 7 then
     if pc = 6 then tz_i2 7 (fun a b => a + b) else dead
    else
     if pc = 7 then tz_iload 8 1 else dead
   else
    if pc < 9 then
     if pc = 8 then tz_i2 9 (fun a b => a + b) else dead
    else
     if pc = 9 then tz_iret else dead
set_option maxRecDepth 100000 in
theorem T_Mo_at (l : Launch) (G : Gc) : TabOK l G M_Mo_at (k_Mo_at l G) := by
  intro pc
  unfold k_Mo_at
  exact
   (sd_br
    (sd_br
     (sd_br
      (sd_lf (sd_bipush (by decide +kernel : decode prog_9_method_4_code 0 = .ok (.bipush 16, 2)) (by decide +kernel)))
      (sd_lf (sd_bipush (by decide +kernel : decode prog_9_method_4_code 2 = .ok (.bipush 16, 2)) (by decide +kernel))))
     (sd_br
      (sd_lf (sd_iload_n (k := 0) (by decide +kernel : decode prog_9_method_4_code 4 = .ok (.iload_n 0, 1))))
      (sd_lf (sd_imul (by decide +kernel : decode prog_9_method_4_code 5 = .ok (.imul, 1))))))
    (sd_br
     (sd_br
      (sd_lf (sd_iadd (by decide +kernel : decode prog_9_method_4_code 6 = .ok (.iadd, 1))))
      (sd_lf (sd_iload_n (k := 1) (by decide +kernel : decode prog_9_method_4_code 7 = .ok (.iload_n 1, 1)))))
     (sd_br
      (sd_lf (sd_iadd (by decide +kernel : decode prog_9_method_4_code 8 = .ok (.iadd, 1))))
      (sd_lf (sd_iret (by decide +kernel : decode prog_9_method_4_code 9 = .ok (.ireturn, 1)) rfl)))))
def k_Mo_map (l : Launch) (G : Gc) (pc : Nat) : Tr :=
  if pc < 10 then
   if pc < 7 then
    if pc < 3 then
     if pc = 0 then tz_const 3 (.int (nI 176)) else dead
    else
     if pc < 5 then
      if pc = 3 then tz_const 5 (.int (nI 8)) else dead
     else
      if pc = 5 then tz_const 7 (.int (nI 8)) else dead
   else
    if pc < 8 then
     if pc = 7 then tz_iload 8 0 else dead
    else
     if pc < 9 then
      if pc = 8 then tz_i2 9 (fun a b => a * b) else dead
     else
      if pc = 9 then tz_iload 10 1 else dead
  else
   if pc < 13 then
    if pc < 11 then
     if pc = 10 then tz_i2 11 (fun a b => a + b) else dead
    else
     if pc < 12 then
      if pc = 11 then tz_i2 12 (fun a b => a * b) else dead
     else
      if pc = 12 then tz_i2 13 (fun a b => a + b) else dead
   else
    if pc < 14 then
     if pc = 13 then tz_iload 14 2 else dead
    else
     if pc < 15 then
      if pc = 14 then tz_i2 15 (fun a b => a + b) else dead
     else
      if pc = 15 then tz_iret else dead
set_option maxRecDepth 100000 in
theorem T_Mo_map (l : Launch) (G : Gc) : TabOK l G M_Mo_map (k_Mo_map l G) := by
  intro pc
  unfold k_Mo_map
  exact
   (sd_br
    (sd_br
     (sd_br
      (sd_lf (sd_sipush (by decide +kernel : decode prog_9_method_5_code 0 = .ok (.sipush 176, 3)) (by decide +kernel)))
      (sd_br
       (sd_lf (sd_bipush (by decide +kernel : decode prog_9_method_5_code 3 = .ok (.bipush 8, 2)) (by decide +kernel)))
       (sd_lf (sd_bipush (by decide +kernel : decode prog_9_method_5_code 5 = .ok (.bipush 8, 2)) (by decide +kernel)))))
     (sd_br
      (sd_lf (sd_iload_n (k := 0) (by decide +kernel : decode prog_9_method_5_code 7 = .ok (.iload_n 0, 1))))
      (sd_br
       (sd_lf (sd_imul (by decide +kernel : decode prog_9_method_5_code 8 = .ok (.imul, 1))))
       (sd_lf (sd_iload_n (k := 1) (by decide +kernel : decode prog_9_method_5_code 9 = .ok (.iload_n 1, 1)))))))
    (sd_br
     (sd_br
      (sd_lf (sd_iadd (by decide +kernel : decode prog_9_method_5_code 10 = .ok (.iadd, 1))))
      (sd_br
       (sd_lf (sd_imul (by decide +kernel : decode prog_9_method_5_code 11 = .ok (.imul, 1))))
       (sd_lf (sd_iadd (by decide +kernel : decode prog_9_method_5_code 12 = .ok (.iadd, 1))))))
     (sd_br
      (sd_lf (sd_iload_n (k := 2) (by decide +kernel : decode prog_9_method_5_code 13 = .ok (.iload_n 2, 1))))
      (sd_br
       (sd_lf (sd_iadd (by decide +kernel : decode prog_9_method_5_code 14 = .ok (.iadd, 1))))
       (sd_lf (sd_iret (by decide +kernel : decode prog_9_method_5_code 15 = .ok (.ireturn, 1)) rfl))))))
def k_Mo_contact (l : Launch) (G : Gc) (pc : Nat) : Tr :=
  if pc < 11 then
   if pc < 6 then
    if pc < 3 then
     if pc = 0 then tz_const 3 (.int (nI 816)) else dead
    else
     if pc < 4 then
      if pc = 3 then tz_const 4 (.int (nI 2)) else dead
     else
      if pc = 4 then tz_const 6 (.int (nI 8)) else dead
   else
    if pc < 9 then
     if pc < 8 then
      if pc = 6 then tz_const 8 (.int (nI 8)) else dead
     else
      if pc = 8 then tz_iload 9 0 else dead
    else
     if pc < 10 then
      if pc = 9 then tz_i2 10 (fun a b => a * b) else dead
     else
      if pc = 10 then tz_iload 11 1 else dead
  else
   if pc < 14 then
    if pc < 12 then
     if pc = 11 then tz_i2 12 (fun a b => a + b) else dead
    else
     if pc < 13 then
      if pc = 12 then tz_i2 13 (fun a b => a * b) else dead
     else
      if pc = 13 then tz_iload 14 2 else dead
   else
    if pc < 16 then
     if pc < 15 then
      if pc = 14 then tz_i2 15 (fun a b => a + b) else dead
     else
      if pc = 15 then tz_i2 16 (fun a b => a * b) else dead
    else
     if pc < 17 then
      if pc = 16 then tz_i2 17 (fun a b => a + b) else dead
     else
      if pc = 17 then tz_iret else dead
set_option maxRecDepth 100000 in
theorem T_Mo_contact (l : Launch) (G : Gc) : TabOK l G M_Mo_contact (k_Mo_contact l G) := by
  intro pc
  unfold k_Mo_contact
  exact
   (sd_br
    (sd_br
     (sd_br
      (sd_lf (sd_sipush (by decide +kernel : decode prog_9_method_6_code 0 = .ok (.sipush 816, 3)) (by decide +kernel)))
      (sd_br
       (sd_lf (sd_iconst (by decide +kernel : decode prog_9_method_6_code 3 = .ok (.iconst 2, 1)) (by decide +kernel)))
       (sd_lf (sd_bipush (by decide +kernel : decode prog_9_method_6_code 4 = .ok (.bipush 8, 2)) (by decide +kernel)))))
     (sd_br
      (sd_br
       (sd_lf (sd_bipush (by decide +kernel : decode prog_9_method_6_code 6 = .ok (.bipush 8, 2)) (by decide +kernel)))
       (sd_lf (sd_iload_n (k := 0) (by decide +kernel : decode prog_9_method_6_code 8 = .ok (.iload_n 0, 1)))))
      (sd_br
       (sd_lf (sd_imul (by decide +kernel : decode prog_9_method_6_code 9 = .ok (.imul, 1))))
       (sd_lf (sd_iload_n (k := 1) (by decide +kernel : decode prog_9_method_6_code 10 = .ok (.iload_n 1, 1)))))))
    (sd_br
     (sd_br
      (sd_lf (sd_iadd (by decide +kernel : decode prog_9_method_6_code 11 = .ok (.iadd, 1))))
      (sd_br
       (sd_lf (sd_imul (by decide +kernel : decode prog_9_method_6_code 12 = .ok (.imul, 1))))
       (sd_lf (sd_iload_n (k := 2) (by decide +kernel : decode prog_9_method_6_code 13 = .ok (.iload_n 2, 1))))))
     (sd_br
      (sd_br
       (sd_lf (sd_iadd (by decide +kernel : decode prog_9_method_6_code 14 = .ok (.iadd, 1))))
       (sd_lf (sd_imul (by decide +kernel : decode prog_9_method_6_code 15 = .ok (.imul, 1)))))
      (sd_br
       (sd_lf (sd_iadd (by decide +kernel : decode prog_9_method_6_code 16 = .ok (.iadd, 1))))
       (sd_lf (sd_iret (by decide +kernel : decode prog_9_method_6_code 17 = .ok (.ireturn, 1)) rfl))))))
def k_Mo_within (l : Launch) (G : Gc) (pc : Nat) : Tr :=
  if pc < 7 then
   if pc < 2 then
    if pc < 1 then
     if pc = 0 then tz_iload 1 0 else dead
    else
     if pc = 1 then tz_iload 2 1 else dead
   else
    if pc < 5 then
     if pc = 2 then tz_icmp 5 14 (fun a b => a < b) else dead
    else
     if pc < 6 then
      if pc = 5 then tz_iload 6 0 else dead
     else
      if pc = 6 then tz_iload 7 2 else dead
  else
   if pc < 11 then
    if pc < 10 then
     if pc = 7 then tz_icmp 10 14 (fun a b => b < a) else dead
    else
     if pc = 10 then tz_const 11 (.int (nI 1)) else dead
   else
    if pc < 14 then
     if pc = 11 then tz_goto 15 else dead
    else
     if pc < 15 then
      if pc = 14 then tz_const 15 (.int (nI 0)) else dead
     else
      if pc = 15 then tz_zret else dead
set_option maxRecDepth 100000 in
theorem T_Mo_within (l : Launch) (G : Gc) : TabOK l G M_Mo_within (k_Mo_within l G) := by
  intro pc
  unfold k_Mo_within
  exact
   (sd_br
    (sd_br
     (sd_br
      (sd_lf (sd_iload_n (k := 0) (by decide +kernel : decode prog_9_method_3_code 0 = .ok (.iload_n 0, 1))))
      (sd_lf (sd_iload_n (k := 1) (by decide +kernel : decode prog_9_method_3_code 1 = .ok (.iload_n 1, 1)))))
     (sd_br
      (sd_lf (sd_icmp_lt (by decide +kernel : decode prog_9_method_3_code 2 = .ok (.if_icmp .lt 12, 3)) (by decide +kernel)))
      (sd_br
       (sd_lf (sd_iload_n (k := 0) (by decide +kernel : decode prog_9_method_3_code 5 = .ok (.iload_n 0, 1))))
       (sd_lf (sd_iload_n (k := 2) (by decide +kernel : decode prog_9_method_3_code 6 = .ok (.iload_n 2, 1)))))))
    (sd_br
     (sd_br
      (sd_lf (sd_icmp_gt (by decide +kernel : decode prog_9_method_3_code 7 = .ok (.if_icmp .gt 7, 3)) (by decide +kernel)))
      (sd_lf (sd_iconst (by decide +kernel : decode prog_9_method_3_code 10 = .ok (.iconst 1, 1)) (by decide +kernel))))
     (sd_br
      (sd_lf (sd_goto (by decide +kernel : decode prog_9_method_3_code 11 = .ok (.goto 4, 3)) (by decide +kernel)))
      (sd_br
       (sd_lf (sd_iconst (by decide +kernel : decode prog_9_method_3_code 14 = .ok (.iconst 0, 1)) (by decide +kernel)))
       (sd_lf (sd_zret (by decide +kernel : decode prog_9_method_3_code 15 = .ok (.ireturn, 1)) rfl))))))
def k_Mo_meet (l : Launch) (G : Gc) (pc : Nat) : Tr :=
  if pc < 110 then
   if pc < 55 then
    if pc < 27 then
     if pc < 12 then
      if pc < 5 then
       if pc < 1 then
        if pc = 0 then tz_aload 1 0 else dead
       else
        if pc < 4 then
         if pc = 1 then tz_getf 4 7 1 1 else dead
        else
         if pc = 4 then tz_iload 5 1 else dead
      else
       if pc < 8 then
        if pc < 6 then
         if pc = 5 then tz_iload 6 2 else dead
        else
         if pc = 6 then tz_const 8 (.int (nI 6)) else dead
       else
        if pc < 11 then
         if pc = 8 then tz_callS l G 11 M_Mo_map 3 else dead
        else
         if pc = 11 then tz_iaload 12 else dead
     else
      if pc < 18 then
       if pc < 15 then
        if pc < 14 then
         if pc = 12 then tz_istore 14 5 else dead
        else
         if pc = 14 then tz_const 15 (.int (nI 0)) else dead
       else
        if pc < 17 then
         if pc = 15 then tz_istore 17 6 else dead
        else
         if pc = 17 then tz_const 18 (.int (nI 0)) else dead
      else
       if pc < 22 then
        if pc < 20 then
         if pc = 18 then tz_istore 20 7 else dead
        else
         if pc = 20 then tz_iload 22 7 else dead
       else
        if pc < 24 then
         if pc = 22 then tz_iload 24 5 else dead
        else
         if pc = 24 then tz_icmp 27 119 (fun a b => b ≤ a) else dead
    else
     if pc < 42 then
      if pc < 34 then
       if pc < 29 then
        if pc < 28 then
         if pc = 27 then tz_iload 28 1 else dead
        else
         if pc = 28 then tz_iload 29 2 else dead
       else
        if pc < 31 then
         if pc = 29 then tz_iload 31 7 else dead
        else
         if pc = 31 then tz_callS l G 34 M_Mo_contact 3 else dead
      else
       if pc < 37 then
        if pc < 36 then
         if pc = 34 then tz_istore 36 8 else dead
        else
         if pc = 36 then tz_aload 37 0 else dead
       else
        if pc < 40 then
         if pc = 37 then tz_getf 40 7 1 1 else dead
        else
         if pc = 40 then tz_iload 42 8 else dead
     else
      if pc < 48 then
       if pc < 44 then
        if pc < 43 then
         if pc = 42 then tz_iaload 43 else dead
        else
         if pc = 43 then tz_iload 44 3 else dead
       else
        if pc < 47 then
         if pc = 44 then tz_icmp 47 61 (fun a b => ¬ a = b) else dead
        else
         if pc = 47 then tz_aload 48 0 else dead
      else
       if pc < 53 then
        if pc < 51 then
         if pc = 48 then tz_getf 51 7 1 1 else dead
        else
         if pc = 51 then tz_iload 53 8 else dead
       else
        if pc < 54 then
         if pc = 53 then tz_const 54 (.int (nI 1)) else dead
        else
         if pc = 54 then tz_i2 55 (fun a b => a + b) else dead
   else
    if pc < 85 then
     if pc < 70 then
      if pc < 62 then
       if pc < 58 then
        if pc < 56 then
         if pc = 55 then tz_iaload 56 else dead
        else
         if pc = 56 then tz_iload 58 4 else dead
       else
        if pc < 61 then
         if pc = 58 then tz_icmp 61 113 (fun a b => a = b) else dead
        else
         if pc = 61 then tz_iload 62 1 else dead
      else
       if pc < 65 then
        if pc < 63 then
         if pc = 62 then tz_iload 63 2 else dead
        else
         if pc = 63 then tz_iload 65 6 else dead
       else
        if pc < 68 then
         if pc = 65 then tz_callS l G 68 M_Mo_contact 3 else dead
        else
         if pc = 68 then tz_istore 70 9 else dead
     else
      if pc < 77 then
       if pc < 74 then
        if pc < 71 then
         if pc = 70 then tz_aload 71 0 else dead
        else
         if pc = 71 then tz_getf 74 7 1 1 else dead
       else
        if pc < 76 then
         if pc = 74 then tz_iload 76 8 else dead
        else
         if pc = 76 then tz_iaload 77 else dead
      else
       if pc < 80 then
        if pc < 79 then
         if pc = 77 then tz_istore 79 10 else dead
        else
         if pc = 79 then tz_aload 80 0 else dead
       else
        if pc < 83 then
         if pc = 80 then tz_getf 83 7 1 1 else dead
        else
         if pc = 83 then tz_iload 85 8 else dead
    else
     if pc < 98 then
      if pc < 90 then
       if pc < 87 then
        if pc < 86 then
         if pc = 85 then tz_const 86 (.int (nI 1)) else dead
        else
         if pc = 86 then tz_i2 87 (fun a b => a + b) else dead
       else
        if pc < 88 then
         if pc = 87 then tz_iaload 88 else dead
        else
         if pc = 88 then tz_istore 90 11 else dead
      else
       if pc < 94 then
        if pc < 91 then
         if pc = 90 then tz_aload 91 0 else dead
        else
         if pc = 91 then tz_getf 94 7 1 1 else dead
       else
        if pc < 96 then
         if pc = 94 then tz_iload 96 9 else dead
        else
         if pc = 96 then tz_iload 98 10 else dead
     else
      if pc < 105 then
       if pc < 100 then
        if pc < 99 then
         if pc = 98 then tz_iastore 99 else dead
        else
         if pc = 99 then tz_aload 100 0 else dead
       else
        if pc < 103 then
         if pc = 100 then tz_getf 103 7 1 1 else dead
        else
         if pc = 103 then tz_iload 105 9 else dead
      else
       if pc < 107 then
        if pc < 106 then
         if pc = 105 then tz_const 106 (.int (nI 1)) else dead
        else
         if pc = 106 then tz_i2 107 (fun a b => a + b) else dead
       else
        if pc < 109 then
         if pc = 107 then tz_iload 109 11 else dead
        else
         if pc = 109 then tz_iastore 110 else dead
  else
   if pc < 166 then
    if pc < 142 then
     if pc < 127 then
      if pc < 119 then
       if pc < 113 then
        if pc = 110 then tz_iinc 113 6 (nI 1) else dead
       else
        if pc < 116 then
         if pc = 113 then tz_iinc 116 7 (nI 1) else dead
        else
         if pc = 116 then tz_goto 20 else dead
      else
       if pc < 123 then
        if pc < 121 then
         if pc = 119 then tz_iload 121 6 else dead
        else
         if pc = 121 then tz_const 123 (.int (nI 8)) else dead
       else
        if pc < 126 then
         if pc = 123 then tz_icmp 126 175 (fun a b => ¬ a = b) else dead
        else
         if pc = 126 then tz_const 127 (.int (nI 2)) else dead
     else
      if pc < 136 then
       if pc < 131 then
        if pc < 129 then
         if pc = 127 then tz_istore 129 7 else dead
        else
         if pc = 129 then tz_iload 131 7 else dead
       else
        if pc < 133 then
         if pc = 131 then tz_const 133 (.int (nI 16)) else dead
        else
         if pc = 133 then tz_icmp 136 172 (fun a b => b ≤ a) else dead
      else
       if pc < 140 then
        if pc < 137 then
         if pc = 136 then tz_aload 137 0 else dead
        else
         if pc = 137 then tz_getf 140 7 1 1 else dead
       else
        if pc < 141 then
         if pc = 140 then tz_iload 141 1 else dead
        else
         if pc = 141 then tz_iload 142 2 else dead
    else
     if pc < 155 then
      if pc < 149 then
       if pc < 146 then
        if pc < 143 then
         if pc = 142 then tz_const 143 (.int (nI 0)) else dead
        else
         if pc = 143 then tz_callS l G 146 M_Mo_contact 3 else dead
       else
        if pc < 148 then
         if pc = 146 then tz_iload 148 7 else dead
        else
         if pc = 148 then tz_i2 149 (fun a b => a + b) else dead
      else
       if pc < 151 then
        if pc < 150 then
         if pc = 149 then tz_const 150 (.int (nI 2)) else dead
        else
         if pc = 150 then tz_i2 151 (fun a b => a - b) else dead
       else
        if pc < 152 then
         if pc = 151 then tz_aload 152 0 else dead
        else
         if pc = 152 then tz_getf 155 7 1 1 else dead
     else
      if pc < 161 then
       if pc < 157 then
        if pc < 156 then
         if pc = 155 then tz_iload 156 1 else dead
        else
         if pc = 156 then tz_iload 157 2 else dead
       else
        if pc < 158 then
         if pc = 157 then tz_const 158 (.int (nI 0)) else dead
        else
         if pc = 158 then tz_callS l G 161 M_Mo_contact 3 else dead
      else
       if pc < 164 then
        if pc < 163 then
         if pc = 161 then tz_iload 163 7 else dead
        else
         if pc = 163 then tz_i2 164 (fun a b => a + b) else dead
       else
        if pc < 165 then
         if pc = 164 then tz_iaload 165 else dead
        else
         if pc = 165 then tz_iastore 166 else dead
   else
    if pc < 196 then
     if pc < 183 then
      if pc < 176 then
       if pc < 172 then
        if pc < 169 then
         if pc = 166 then tz_iinc 169 7 (nI 1) else dead
        else
         if pc = 169 then tz_goto 129 else dead
       else
        if pc < 175 then
         if pc = 172 then tz_iinc 175 6 ((-1)) else dead
        else
         if pc = 175 then tz_aload 176 0 else dead
      else
       if pc < 180 then
        if pc < 179 then
         if pc = 176 then tz_getf 179 7 1 1 else dead
        else
         if pc = 179 then tz_iload 180 1 else dead
       else
        if pc < 181 then
         if pc = 180 then tz_iload 181 2 else dead
        else
         if pc = 181 then tz_iload 183 6 else dead
     else
      if pc < 189 then
       if pc < 187 then
        if pc < 186 then
         if pc = 183 then tz_callS l G 186 M_Mo_contact 3 else dead
        else
         if pc = 186 then tz_iload 187 3 else dead
       else
        if pc < 188 then
         if pc = 187 then tz_iastore 188 else dead
        else
         if pc = 188 then tz_aload 189 0 else dead
      else
       if pc < 193 then
        if pc < 192 then
         if pc = 189 then tz_getf 192 7 1 1 else dead
        else
         if pc = 192 then tz_iload 193 1 else dead
       else
        if pc < 194 then
         if pc = 193 then tz_iload 194 2 else dead
        else
         if pc = 194 then tz_iload 196 6 else dead
    else
     if pc < 209 then
      if pc < 203 then
       if pc < 200 then
        if pc < 199 then
         if pc = 196 then tz_callS l G 199 M_Mo_contact 3 else dead
        else
         if pc = 199 then tz_const 200 (.int (nI 1)) else dead
       else
        if pc < 201 then
         if pc = 200 then tz_i2 201 (fun a b => a + b) else dead
        else
         if pc = 201 then tz_iload 203 4 else dead
      else
       if pc < 205 then
        if pc < 204 then
         if pc = 203 then tz_iastore 204 else dead
        else
         if pc = 204 then tz_aload 205 0 else dead
       else
        if pc < 208 then
         if pc = 205 then tz_getf 208 7 1 1 else dead
        else
         if pc = 208 then tz_iload 209 1 else dead
     else
      if pc < 217 then
       if pc < 212 then
        if pc < 210 then
         if pc = 209 then tz_iload 210 2 else dead
        else
         if pc = 210 then tz_const 212 (.int (nI 6)) else dead
       else
        if pc < 215 then
         if pc = 212 then tz_callS l G 215 M_Mo_map 3 else dead
        else
         if pc = 215 then tz_iload 217 6 else dead
      else
       if pc < 219 then
        if pc < 218 then
         if pc = 217 then tz_const 218 (.int (nI 1)) else dead
        else
         if pc = 218 then tz_i2 219 (fun a b => a + b) else dead
       else
        if pc < 220 then
         if pc = 219 then tz_iastore 220 else dead
        else
         if pc = 220 then tz_vret else dead
set_option maxRecDepth 100000 in
theorem T_Mo_meet (l : Launch) (G : Gc) : TabOK l G M_Mo_meet (k_Mo_meet l G) := by
  intro pc
  unfold k_Mo_meet
  exact
   (sd_br
    (sd_br
     (sd_br
      (sd_br
       (sd_br
        (sd_br
         (sd_lf (sd_aload_n (k := 0) (by decide +kernel : decode prog_9_method_38_code 0 = .ok (.aload_n 0, 1))))
         (sd_br
          (sd_lf (sd_getf (q := (RX7, TX7, 16)) (by decide +kernel : decode prog_9_method_38_code 1 = .ok (.getfield 7, 3)) rfl (by decide +kernel) (gm 913 (by decide +kernel) rfl)))
          (sd_lf (sd_iload_n (k := 1) (by decide +kernel : decode prog_9_method_38_code 4 = .ok (.iload_n 1, 1))))))
        (sd_br
         (sd_br
          (sd_lf (sd_iload_n (k := 2) (by decide +kernel : decode prog_9_method_38_code 5 = .ok (.iload_n 2, 1))))
          (sd_lf (sd_bipush (by decide +kernel : decode prog_9_method_38_code 6 = .ok (.bipush 6, 2)) (by decide +kernel))))
         (sd_br
          (sd_lf (sd_callS (by decide +kernel : decode prog_9_method_38_code 8 = .ok (.invokestatic 73, 3)) ok_Mo_map (gm 1020 (by decide +kernel) rfl) (gm 1021 (by decide +kernel) rfl) (by decide +kernel) rfl rfl))
          (sd_lf (sd_iaload (by decide +kernel : decode prog_9_method_38_code 11 = .ok (.iaload, 1)))))))
       (sd_br
        (sd_br
         (sd_br
          (sd_lf (sd_istore (by decide +kernel : decode prog_9_method_38_code 12 = .ok (.istore 5, 2))))
          (sd_lf (sd_iconst (by decide +kernel : decode prog_9_method_38_code 14 = .ok (.iconst 0, 1)) (by decide +kernel))))
         (sd_br
          (sd_lf (sd_istore (by decide +kernel : decode prog_9_method_38_code 15 = .ok (.istore 6, 2))))
          (sd_lf (sd_iconst (by decide +kernel : decode prog_9_method_38_code 17 = .ok (.iconst 0, 1)) (by decide +kernel)))))
        (sd_br
         (sd_br
          (sd_lf (sd_istore (by decide +kernel : decode prog_9_method_38_code 18 = .ok (.istore 7, 2))))
          (sd_lf (sd_iload (by decide +kernel : decode prog_9_method_38_code 20 = .ok (.iload 7, 2)))))
         (sd_br
          (sd_lf (sd_iload (by decide +kernel : decode prog_9_method_38_code 22 = .ok (.iload 5, 2))))
          (sd_lf (sd_icmp_ge (by decide +kernel : decode prog_9_method_38_code 24 = .ok (.if_icmp .ge 95, 3)) (by decide +kernel)))))))
      (sd_br
       (sd_br
        (sd_br
         (sd_br
          (sd_lf (sd_iload_n (k := 1) (by decide +kernel : decode prog_9_method_38_code 27 = .ok (.iload_n 1, 1))))
          (sd_lf (sd_iload_n (k := 2) (by decide +kernel : decode prog_9_method_38_code 28 = .ok (.iload_n 2, 1)))))
         (sd_br
          (sd_lf (sd_iload (by decide +kernel : decode prog_9_method_38_code 29 = .ok (.iload 7, 2))))
          (sd_lf (sd_callS (by decide +kernel : decode prog_9_method_38_code 31 = .ok (.invokestatic 77, 3)) ok_Mo_contact (gm 1027 (by decide +kernel) rfl) (gm 1028 (by decide +kernel) rfl) (by decide +kernel) rfl rfl))))
        (sd_br
         (sd_br
          (sd_lf (sd_istore (by decide +kernel : decode prog_9_method_38_code 34 = .ok (.istore 8, 2))))
          (sd_lf (sd_aload_n (k := 0) (by decide +kernel : decode prog_9_method_38_code 36 = .ok (.aload_n 0, 1)))))
         (sd_br
          (sd_lf (sd_getf (q := (RX7, TX7, 16)) (by decide +kernel : decode prog_9_method_38_code 37 = .ok (.getfield 7, 3)) rfl (by decide +kernel) (gm 913 (by decide +kernel) rfl)))
          (sd_lf (sd_iload (by decide +kernel : decode prog_9_method_38_code 40 = .ok (.iload 8, 2)))))))
       (sd_br
        (sd_br
         (sd_br
          (sd_lf (sd_iaload (by decide +kernel : decode prog_9_method_38_code 42 = .ok (.iaload, 1))))
          (sd_lf (sd_iload_n (k := 3) (by decide +kernel : decode prog_9_method_38_code 43 = .ok (.iload_n 3, 1)))))
         (sd_br
          (sd_lf (sd_icmp_ne (by decide +kernel : decode prog_9_method_38_code 44 = .ok (.if_icmp .ne 17, 3)) (by decide +kernel)))
          (sd_lf (sd_aload_n (k := 0) (by decide +kernel : decode prog_9_method_38_code 47 = .ok (.aload_n 0, 1))))))
        (sd_br
         (sd_br
          (sd_lf (sd_getf (q := (RX7, TX7, 16)) (by decide +kernel : decode prog_9_method_38_code 48 = .ok (.getfield 7, 3)) rfl (by decide +kernel) (gm 913 (by decide +kernel) rfl)))
          (sd_lf (sd_iload (by decide +kernel : decode prog_9_method_38_code 51 = .ok (.iload 8, 2)))))
         (sd_br
          (sd_lf (sd_iconst (by decide +kernel : decode prog_9_method_38_code 53 = .ok (.iconst 1, 1)) (by decide +kernel)))
          (sd_lf (sd_iadd (by decide +kernel : decode prog_9_method_38_code 54 = .ok (.iadd, 1)))))))))
     (sd_br
      (sd_br
       (sd_br
        (sd_br
         (sd_br
          (sd_lf (sd_iaload (by decide +kernel : decode prog_9_method_38_code 55 = .ok (.iaload, 1))))
          (sd_lf (sd_iload (by decide +kernel : decode prog_9_method_38_code 56 = .ok (.iload 4, 2)))))
         (sd_br
          (sd_lf (sd_icmp_eq (by decide +kernel : decode prog_9_method_38_code 58 = .ok (.if_icmp .eq 55, 3)) (by decide +kernel)))
          (sd_lf (sd_iload_n (k := 1) (by decide +kernel : decode prog_9_method_38_code 61 = .ok (.iload_n 1, 1))))))
        (sd_br
         (sd_br
          (sd_lf (sd_iload_n (k := 2) (by decide +kernel : decode prog_9_method_38_code 62 = .ok (.iload_n 2, 1))))
          (sd_lf (sd_iload (by decide +kernel : decode prog_9_method_38_code 63 = .ok (.iload 6, 2)))))
         (sd_br
          (sd_lf (sd_callS (by decide +kernel : decode prog_9_method_38_code 65 = .ok (.invokestatic 77, 3)) ok_Mo_contact (gm 1027 (by decide +kernel) rfl) (gm 1028 (by decide +kernel) rfl) (by decide +kernel) rfl rfl))
          (sd_lf (sd_istore (by decide +kernel : decode prog_9_method_38_code 68 = .ok (.istore 9, 2)))))))
       (sd_br
        (sd_br
         (sd_br
          (sd_lf (sd_aload_n (k := 0) (by decide +kernel : decode prog_9_method_38_code 70 = .ok (.aload_n 0, 1))))
          (sd_lf (sd_getf (q := (RX7, TX7, 16)) (by decide +kernel : decode prog_9_method_38_code 71 = .ok (.getfield 7, 3)) rfl (by decide +kernel) (gm 913 (by decide +kernel) rfl))))
         (sd_br
          (sd_lf (sd_iload (by decide +kernel : decode prog_9_method_38_code 74 = .ok (.iload 8, 2))))
          (sd_lf (sd_iaload (by decide +kernel : decode prog_9_method_38_code 76 = .ok (.iaload, 1))))))
        (sd_br
         (sd_br
          (sd_lf (sd_istore (by decide +kernel : decode prog_9_method_38_code 77 = .ok (.istore 10, 2))))
          (sd_lf (sd_aload_n (k := 0) (by decide +kernel : decode prog_9_method_38_code 79 = .ok (.aload_n 0, 1)))))
         (sd_br
          (sd_lf (sd_getf (q := (RX7, TX7, 16)) (by decide +kernel : decode prog_9_method_38_code 80 = .ok (.getfield 7, 3)) rfl (by decide +kernel) (gm 913 (by decide +kernel) rfl)))
          (sd_lf (sd_iload (by decide +kernel : decode prog_9_method_38_code 83 = .ok (.iload 8, 2))))))))
      (sd_br
       (sd_br
        (sd_br
         (sd_br
          (sd_lf (sd_iconst (by decide +kernel : decode prog_9_method_38_code 85 = .ok (.iconst 1, 1)) (by decide +kernel)))
          (sd_lf (sd_iadd (by decide +kernel : decode prog_9_method_38_code 86 = .ok (.iadd, 1)))))
         (sd_br
          (sd_lf (sd_iaload (by decide +kernel : decode prog_9_method_38_code 87 = .ok (.iaload, 1))))
          (sd_lf (sd_istore (by decide +kernel : decode prog_9_method_38_code 88 = .ok (.istore 11, 2))))))
        (sd_br
         (sd_br
          (sd_lf (sd_aload_n (k := 0) (by decide +kernel : decode prog_9_method_38_code 90 = .ok (.aload_n 0, 1))))
          (sd_lf (sd_getf (q := (RX7, TX7, 16)) (by decide +kernel : decode prog_9_method_38_code 91 = .ok (.getfield 7, 3)) rfl (by decide +kernel) (gm 913 (by decide +kernel) rfl))))
         (sd_br
          (sd_lf (sd_iload (by decide +kernel : decode prog_9_method_38_code 94 = .ok (.iload 9, 2))))
          (sd_lf (sd_iload (by decide +kernel : decode prog_9_method_38_code 96 = .ok (.iload 10, 2)))))))
       (sd_br
        (sd_br
         (sd_br
          (sd_lf (sd_iastore (by decide +kernel : decode prog_9_method_38_code 98 = .ok (.iastore, 1))))
          (sd_lf (sd_aload_n (k := 0) (by decide +kernel : decode prog_9_method_38_code 99 = .ok (.aload_n 0, 1)))))
         (sd_br
          (sd_lf (sd_getf (q := (RX7, TX7, 16)) (by decide +kernel : decode prog_9_method_38_code 100 = .ok (.getfield 7, 3)) rfl (by decide +kernel) (gm 913 (by decide +kernel) rfl)))
          (sd_lf (sd_iload (by decide +kernel : decode prog_9_method_38_code 103 = .ok (.iload 9, 2))))))
        (sd_br
         (sd_br
          (sd_lf (sd_iconst (by decide +kernel : decode prog_9_method_38_code 105 = .ok (.iconst 1, 1)) (by decide +kernel)))
          (sd_lf (sd_iadd (by decide +kernel : decode prog_9_method_38_code 106 = .ok (.iadd, 1)))))
         (sd_br
          (sd_lf (sd_iload (by decide +kernel : decode prog_9_method_38_code 107 = .ok (.iload 11, 2))))
          (sd_lf (sd_iastore (by decide +kernel : decode prog_9_method_38_code 109 = .ok (.iastore, 1))))))))))
    (sd_br
     (sd_br
      (sd_br
       (sd_br
        (sd_br
         (sd_lf (sd_iinc (by decide +kernel : decode prog_9_method_38_code 110 = .ok (.iinc 6 1, 3)) (by decide +kernel)))
         (sd_br
          (sd_lf (sd_iinc (by decide +kernel : decode prog_9_method_38_code 113 = .ok (.iinc 7 1, 3)) (by decide +kernel)))
          (sd_lf (sd_goto (by decide +kernel : decode prog_9_method_38_code 116 = .ok (.goto (-96), 3)) (by decide +kernel)))))
        (sd_br
         (sd_br
          (sd_lf (sd_iload (by decide +kernel : decode prog_9_method_38_code 119 = .ok (.iload 6, 2))))
          (sd_lf (sd_bipush (by decide +kernel : decode prog_9_method_38_code 121 = .ok (.bipush 8, 2)) (by decide +kernel))))
         (sd_br
          (sd_lf (sd_icmp_ne (by decide +kernel : decode prog_9_method_38_code 123 = .ok (.if_icmp .ne 52, 3)) (by decide +kernel)))
          (sd_lf (sd_iconst (by decide +kernel : decode prog_9_method_38_code 126 = .ok (.iconst 2, 1)) (by decide +kernel))))))
       (sd_br
        (sd_br
         (sd_br
          (sd_lf (sd_istore (by decide +kernel : decode prog_9_method_38_code 127 = .ok (.istore 7, 2))))
          (sd_lf (sd_iload (by decide +kernel : decode prog_9_method_38_code 129 = .ok (.iload 7, 2)))))
         (sd_br
          (sd_lf (sd_bipush (by decide +kernel : decode prog_9_method_38_code 131 = .ok (.bipush 16, 2)) (by decide +kernel)))
          (sd_lf (sd_icmp_ge (by decide +kernel : decode prog_9_method_38_code 133 = .ok (.if_icmp .ge 39, 3)) (by decide +kernel)))))
        (sd_br
         (sd_br
          (sd_lf (sd_aload_n (k := 0) (by decide +kernel : decode prog_9_method_38_code 136 = .ok (.aload_n 0, 1))))
          (sd_lf (sd_getf (q := (RX7, TX7, 16)) (by decide +kernel : decode prog_9_method_38_code 137 = .ok (.getfield 7, 3)) rfl (by decide +kernel) (gm 913 (by decide +kernel) rfl))))
         (sd_br
          (sd_lf (sd_iload_n (k := 1) (by decide +kernel : decode prog_9_method_38_code 140 = .ok (.iload_n 1, 1))))
          (sd_lf (sd_iload_n (k := 2) (by decide +kernel : decode prog_9_method_38_code 141 = .ok (.iload_n 2, 1))))))))
      (sd_br
       (sd_br
        (sd_br
         (sd_br
          (sd_lf (sd_iconst (by decide +kernel : decode prog_9_method_38_code 142 = .ok (.iconst 0, 1)) (by decide +kernel)))
          (sd_lf (sd_callS (by decide +kernel : decode prog_9_method_38_code 143 = .ok (.invokestatic 77, 3)) ok_Mo_contact (gm 1027 (by decide +kernel) rfl) (gm 1028 (by decide +kernel) rfl) (by decide +kernel) rfl rfl)))
         (sd_br
          (sd_lf (sd_iload (by decide +kernel : decode prog_9_method_38_code 146 = .ok (.iload 7, 2))))
          (sd_lf (sd_iadd (by decide +kernel : decode prog_9_method_38_code 148 = .ok (.iadd, 1))))))
        (sd_br
         (sd_br
          (sd_lf (sd_iconst (by decide +kernel : decode prog_9_method_38_code 149 = .ok (.iconst 2, 1)) (by decide +kernel)))
          (sd_lf (sd_isub (by decide +kernel : decode prog_9_method_38_code 150 = .ok (.isub, 1)))))
         (sd_br
          (sd_lf (sd_aload_n (k := 0) (by decide +kernel : decode prog_9_method_38_code 151 = .ok (.aload_n 0, 1))))
          (sd_lf (sd_getf (q := (RX7, TX7, 16)) (by decide +kernel : decode prog_9_method_38_code 152 = .ok (.getfield 7, 3)) rfl (by decide +kernel) (gm 913 (by decide +kernel) rfl))))))
       (sd_br
        (sd_br
         (sd_br
          (sd_lf (sd_iload_n (k := 1) (by decide +kernel : decode prog_9_method_38_code 155 = .ok (.iload_n 1, 1))))
          (sd_lf (sd_iload_n (k := 2) (by decide +kernel : decode prog_9_method_38_code 156 = .ok (.iload_n 2, 1)))))
         (sd_br
          (sd_lf (sd_iconst (by decide +kernel : decode prog_9_method_38_code 157 = .ok (.iconst 0, 1)) (by decide +kernel)))
          (sd_lf (sd_callS (by decide +kernel : decode prog_9_method_38_code 158 = .ok (.invokestatic 77, 3)) ok_Mo_contact (gm 1027 (by decide +kernel) rfl) (gm 1028 (by decide +kernel) rfl) (by decide +kernel) rfl rfl))))
        (sd_br
         (sd_br
          (sd_lf (sd_iload (by decide +kernel : decode prog_9_method_38_code 161 = .ok (.iload 7, 2))))
          (sd_lf (sd_iadd (by decide +kernel : decode prog_9_method_38_code 163 = .ok (.iadd, 1)))))
         (sd_br
          (sd_lf (sd_iaload (by decide +kernel : decode prog_9_method_38_code 164 = .ok (.iaload, 1))))
          (sd_lf (sd_iastore (by decide +kernel : decode prog_9_method_38_code 165 = .ok (.iastore, 1)))))))))
     (sd_br
      (sd_br
       (sd_br
        (sd_br
         (sd_br
          (sd_lf (sd_iinc (by decide +kernel : decode prog_9_method_38_code 166 = .ok (.iinc 7 1, 3)) (by decide +kernel)))
          (sd_lf (sd_goto (by decide +kernel : decode prog_9_method_38_code 169 = .ok (.goto (-40), 3)) (by decide +kernel))))
         (sd_br
          (sd_lf (sd_iinc (by decide +kernel : decode prog_9_method_38_code 172 = .ok (.iinc 6 (-1), 3)) (by decide +kernel)))
          (sd_lf (sd_aload_n (k := 0) (by decide +kernel : decode prog_9_method_38_code 175 = .ok (.aload_n 0, 1))))))
        (sd_br
         (sd_br
          (sd_lf (sd_getf (q := (RX7, TX7, 16)) (by decide +kernel : decode prog_9_method_38_code 176 = .ok (.getfield 7, 3)) rfl (by decide +kernel) (gm 913 (by decide +kernel) rfl)))
          (sd_lf (sd_iload_n (k := 1) (by decide +kernel : decode prog_9_method_38_code 179 = .ok (.iload_n 1, 1)))))
         (sd_br
          (sd_lf (sd_iload_n (k := 2) (by decide +kernel : decode prog_9_method_38_code 180 = .ok (.iload_n 2, 1))))
          (sd_lf (sd_iload (by decide +kernel : decode prog_9_method_38_code 181 = .ok (.iload 6, 2)))))))
       (sd_br
        (sd_br
         (sd_br
          (sd_lf (sd_callS (by decide +kernel : decode prog_9_method_38_code 183 = .ok (.invokestatic 77, 3)) ok_Mo_contact (gm 1027 (by decide +kernel) rfl) (gm 1028 (by decide +kernel) rfl) (by decide +kernel) rfl rfl))
          (sd_lf (sd_iload_n (k := 3) (by decide +kernel : decode prog_9_method_38_code 186 = .ok (.iload_n 3, 1)))))
         (sd_br
          (sd_lf (sd_iastore (by decide +kernel : decode prog_9_method_38_code 187 = .ok (.iastore, 1))))
          (sd_lf (sd_aload_n (k := 0) (by decide +kernel : decode prog_9_method_38_code 188 = .ok (.aload_n 0, 1))))))
        (sd_br
         (sd_br
          (sd_lf (sd_getf (q := (RX7, TX7, 16)) (by decide +kernel : decode prog_9_method_38_code 189 = .ok (.getfield 7, 3)) rfl (by decide +kernel) (gm 913 (by decide +kernel) rfl)))
          (sd_lf (sd_iload_n (k := 1) (by decide +kernel : decode prog_9_method_38_code 192 = .ok (.iload_n 1, 1)))))
         (sd_br
          (sd_lf (sd_iload_n (k := 2) (by decide +kernel : decode prog_9_method_38_code 193 = .ok (.iload_n 2, 1))))
          (sd_lf (sd_iload (by decide +kernel : decode prog_9_method_38_code 194 = .ok (.iload 6, 2))))))))
      (sd_br
       (sd_br
        (sd_br
         (sd_br
          (sd_lf (sd_callS (by decide +kernel : decode prog_9_method_38_code 196 = .ok (.invokestatic 77, 3)) ok_Mo_contact (gm 1027 (by decide +kernel) rfl) (gm 1028 (by decide +kernel) rfl) (by decide +kernel) rfl rfl))
          (sd_lf (sd_iconst (by decide +kernel : decode prog_9_method_38_code 199 = .ok (.iconst 1, 1)) (by decide +kernel))))
         (sd_br
          (sd_lf (sd_iadd (by decide +kernel : decode prog_9_method_38_code 200 = .ok (.iadd, 1))))
          (sd_lf (sd_iload (by decide +kernel : decode prog_9_method_38_code 201 = .ok (.iload 4, 2))))))
        (sd_br
         (sd_br
          (sd_lf (sd_iastore (by decide +kernel : decode prog_9_method_38_code 203 = .ok (.iastore, 1))))
          (sd_lf (sd_aload_n (k := 0) (by decide +kernel : decode prog_9_method_38_code 204 = .ok (.aload_n 0, 1)))))
         (sd_br
          (sd_lf (sd_getf (q := (RX7, TX7, 16)) (by decide +kernel : decode prog_9_method_38_code 205 = .ok (.getfield 7, 3)) rfl (by decide +kernel) (gm 913 (by decide +kernel) rfl)))
          (sd_lf (sd_iload_n (k := 1) (by decide +kernel : decode prog_9_method_38_code 208 = .ok (.iload_n 1, 1)))))))
       (sd_br
        (sd_br
         (sd_br
          (sd_lf (sd_iload_n (k := 2) (by decide +kernel : decode prog_9_method_38_code 209 = .ok (.iload_n 2, 1))))
          (sd_lf (sd_bipush (by decide +kernel : decode prog_9_method_38_code 210 = .ok (.bipush 6, 2)) (by decide +kernel))))
         (sd_br
          (sd_lf (sd_callS (by decide +kernel : decode prog_9_method_38_code 212 = .ok (.invokestatic 73, 3)) ok_Mo_map (gm 1020 (by decide +kernel) rfl) (gm 1021 (by decide +kernel) rfl) (by decide +kernel) rfl rfl))
          (sd_lf (sd_iload (by decide +kernel : decode prog_9_method_38_code 215 = .ok (.iload 6, 2))))))
        (sd_br
         (sd_br
          (sd_lf (sd_iconst (by decide +kernel : decode prog_9_method_38_code 217 = .ok (.iconst 1, 1)) (by decide +kernel)))
          (sd_lf (sd_iadd (by decide +kernel : decode prog_9_method_38_code 218 = .ok (.iadd, 1)))))
         (sd_br
          (sd_lf (sd_iastore (by decide +kernel : decode prog_9_method_38_code 219 = .ok (.iastore, 1))))
          (sd_lf (sd_vret (by decide +kernel : decode prog_9_method_38_code 220 = .ok (.return_, 1)) rfl)))))))))
def P_Mo_at : List Value → AH → Prop
  | [.int _, .int _], _ => True
  | _, _ => False
def f_Mo_at : List Value → AH → Value
  | [.int a, .int b], _ => .int (nI 16 + nI 16 * a + b)
  | _, _ => .null
theorem c_Mo_at {l : Launch} {G : Gc} (as : List Value) (h : AH) (Q : Po) (hl : as.length = 2) (hP : P_Mo_at as h) (hQ : Q (.inl (some (f_Mo_at as h))) h) : Call l G M_Mo_at as h Q := by
  match as, hP, hQ with
  | [.int a, .int b], _, hQ =>
    refine call_of rfl rfl (Nat.le_of_ble_eq_true rfl) (wp_go (T_Mo_at l G) (cuts := []) 40 ?_)
    simp only [wp, inl, gate, Xq, tz_const, tz_iload, tz_lload, tz_dload, tz_aload, tz_istore, tz_astore, tz_lstore, tz_dstore, tz_iinc, tz_i1, tz_i2, tz_i2z, tz_l2, tz_l2z, tz_i2l, tz_l2i, tz_lcmp, tz_i2d, tz_d2, tz_dcmp, tz_dup, tz_dup2, tz_pop, tz_if, tz_icmp, tz_null, tz_goto, tz_sw, tz_getf, tz_puti, tz_putz, tz_putr, tz_putl, tz_iaload, tz_baload, tz_laload, tz_aaload, tz_iastore, tz_bastore, tz_lastore, tz_aastore, tz_alen, tz_new, tz_newa, tz_oinit, tz_iret, tz_zret, tz_lret, tz_dret, tz_aret, tz_vret, tz_throw, tz_callS, tz_callV, tz_callI, tz_callR, tz_pureS, tz_pureV, tz_callVH, lg, lset, lkill, lst1, lst2, entL, isRf, is1, vl, va_rf, popN, noX, swc, mL, if_true, if_false, ↓reduceIte, cond_true, cond_false, true_and, and_true, List.length_cons, List.length_nil, List.nil_append, List.cons_append, List.append_nil, Option.toList, Nat.reduceEqDiff, Bool.false_eq_true, reduceCtorEq, Nat.reduceAdd, Nat.reduceLT, Nat.reduceLeDiff, Nat.reduceSub, List.replicate, Nat.zero_add, Nat.lt_add_one, Nat.le_refl, Nat.zero_le, Nat.succ_ne_zero, not_false_eq_true, not_true_eq_false, false_implies, true_implies, forall_const, imp_self, true_or, or_true, eq_self, k_Mo_at]
    trace_state
    exact hQ
