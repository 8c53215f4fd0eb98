/-! THE REFERENCE: contacts, mappings -/
def k_Mo_meet (l : Launch) (G : Gc) (pc : Nat) : Tr :=
  if pc < 110 then
   if pc < 55 then
    if pc < 27 then
     if pc < 12 then
      if pc < 5 then
       if pc < 1 then
        if pc = 0 then tz_aload 1 0 else dead
       else
        if pc < 4 then
         if pc = 1 then tz_getf 4 7 1 1 else dead
        else
         if pc = 4 then tz_iload 5 1 else dead
      else
       if pc < 8 then
        if pc < 6 then
         if pc = 5 then tz_iload 6 2 else dead
        else
         if pc = 6 then tz_const 8 (.int (nI 6)) else dead
       else
        if pc < 11 then
         if pc = 8 then tz_pureS 11 3 P_Mo_map f_Mo_map else dead
        else
         if pc = 11 then tz_iaload 12 else dead
     else
      if pc < 18 then
       if pc < 15 then
        if pc < 14 then
         if pc = 12 then tz_istore 14 5 else dead
        else
         if pc = 14 then tz_const 15 (.int (nI 0)) else dead
       else
        if pc < 17 then
         if pc = 15 then tz_istore 17 6 else dead
        else
         if pc = 17 then tz_const 18 (.int (nI 0)) else dead
      else
       if pc < 22 then
        if pc < 20 then
         if pc = 18 then tz_istore 20 7 else dead
        else
         if pc = 20 then tz_iload 22 7 else dead
       else
        if pc < 24 then
         if pc = 22 then tz_iload 24 5 else dead
        else
         if pc = 24 then tz_icmp 27 119 (fun a b => b ≤ a) else dead
    else
     if pc < 42 then
      if pc < 34 then
       if pc < 29 then
        if pc < 28 then
         if pc = 27 then tz_iload 28 1 else dead
        else
         if pc = 28 then tz_iload 29 2 else dead
       else
        if pc < 31 then
         if pc = 29 then tz_iload 31 7 else dead
        else
         if pc = 31 then tz_pureS 34 3 P_Mo_contact f_Mo_contact else dead
      else
       if pc < 37 then
        if pc < 36 then
         if pc = 34 then tz_istore 36 8 else dead
        else
         if pc = 36 then tz_aload 37 0 else dead
       else
        if pc < 40 then
         if pc = 37 then tz_getf 40 7 1 1 else dead
        else
         if pc = 40 then tz_iload 42 8 else dead
     else
      if pc < 48 then
       if pc < 44 then
        if pc < 43 then
         if pc = 42 then tz_iaload 43 else dead
        else
         if pc = 43 then tz_iload 44 3 else dead
       else
        if pc < 47 then
         if pc = 44 then tz_icmp 47 61 (fun a b => ¬ a = b) else dead
        else
         if pc = 47 then tz_aload 48 0 else dead
      else
       if pc < 53 then
        if pc < 51 then
         if pc = 48 then tz_getf 51 7 1 1 else dead
        else
         if pc = 51 then tz_iload 53 8 else dead
       else
        if pc < 54 then
         if pc = 53 then tz_const 54 (.int (nI 1)) else dead
        else
         if pc = 54 then tz_i2 55 (fun a b => a + b) else dead
   else
    if pc < 85 then
     if pc < 70 then
      if pc < 62 then
       if pc < 58 then
        if pc < 56 then
         if pc = 55 then tz_iaload 56 else dead
        else
         if pc = 56 then tz_iload 58 4 else dead
       else
        if pc < 61 then
         if pc = 58 then tz_icmp 61 113 (fun a b => a = b) else dead
        else
         if pc = 61 then tz_iload 62 1 else dead
      else
       if pc < 65 then
        if pc < 63 then
         if pc = 62 then tz_iload 63 2 else dead
        else
         if pc = 63 then tz_iload 65 6 else dead
       else
        if pc < 68 then
         if pc = 65 then tz_pureS 68 3 P_Mo_contact f_Mo_contact else dead
        else
         if pc = 68 then tz_istore 70 9 else dead
     else
      if pc < 77 then
       if pc < 74 then
        if pc < 71 then
         if pc = 70 then tz_aload 71 0 else dead
        else
         if pc = 71 then tz_getf 74 7 1 1 else dead
       else
        if pc < 76 then
         if pc = 74 then tz_iload 76 8 else dead
        else
         if pc = 76 then tz_iaload 77 else dead
      else
       if pc < 80 then
        if pc < 79 then
         if pc = 77 then tz_istore 79 10 else dead
        else
         if pc = 79 then tz_aload 80 0 else dead
       else
        if pc < 83 then
         if pc = 80 then tz_getf 83 7 1 1 else dead
        else
         if pc = 83 then tz_iload 85 8 else dead
    else
     if pc < 98 then
      if pc < 90 then
       if pc < 87 then
        if pc < 86 then
         if pc = 85 then tz_const 86 (.int (nI 1)) else dead
        else
         if pc = 86 then tz_i2 87 (fun a b => a + b) else dead
       else
        if pc < 88 then
         if pc = 87 then tz_iaload 88 else dead
        else
         if pc = 88 then tz_istore 90 11 else dead
      else
       if pc < 94 then
        if pc < 91 then
         if pc = 90 then tz_aload 91 0 else dead
        else
         if pc = 91 then tz_getf 94 7 1 1 else dead
       else
        if pc < 96 then
         if pc = 94 then tz_iload 96 9 else dead
        else
         if pc = 96 then tz_iload 98 10 else dead
     else
      if pc < 105 then
       if pc < 100 then
        if pc < 99 then
         if pc = 98 then tz_iastore 99 else dead
        else
         if pc = 99 then tz_aload 100 0 else dead
       else
        if pc < 103 then
         if pc = 100 then tz_getf 103 7 1 1 else dead
        else
         if pc = 103 then tz_iload 105 9 else dead
      else
       if pc < 107 then
        if pc < 106 then
         if pc = 105 then tz_const 106 (.int (nI 1)) else dead
        else
         if pc = 106 then tz_i2 107 (fun a b => a + b) else dead
       else
        if pc < 109 then
         if pc = 107 then tz_iload 109 11 else dead
        else
         if pc = 109 then tz_iastore 110 else dead
  else
   if pc < 166 then
    if pc < 142 then
     if pc < 127 then
      if pc < 119 then
       if pc < 113 then
        if pc = 110 then tz_iinc 113 6 (nI 1) else dead
       else
        if pc < 116 then
         if pc = 113 then tz_iinc 116 7 (nI 1) else dead
        else
         if pc = 116 then tz_goto 20 else dead
      else
       if pc < 123 then
        if pc < 121 then
         if pc = 119 then tz_iload 121 6 else dead
        else
         if pc = 121 then tz_const 123 (.int (nI 8)) else dead
       else
        if pc < 126 then
         if pc = 123 then tz_icmp 126 175 (fun a b => ¬ a = b) else dead
        else
         if pc = 126 then tz_const 127 (.int (nI 2)) else dead
     else
      if pc < 136 then
       if pc < 131 then
        if pc < 129 then
         if pc = 127 then tz_istore 129 7 else dead
        else
         if pc = 129 then tz_iload 131 7 else dead
       else
        if pc < 133 then
         if pc = 131 then tz_const 133 (.int (nI 16)) else dead
        else
         if pc = 133 then tz_icmp 136 172 (fun a b => b ≤ a) else dead
      else
       if pc < 140 then
        if pc < 137 then
         if pc = 136 then tz_aload 137 0 else dead
        else
         if pc = 137 then tz_getf 140 7 1 1 else dead
       else
        if pc < 141 then
         if pc = 140 then tz_iload 141 1 else dead
        else
         if pc = 141 then tz_iload 142 2 else dead
    else
     if pc < 155 then
      if pc < 149 then
       if pc < 146 then
        if pc < 143 then
         if pc = 142 then tz_const 143 (.int (nI 0)) else dead
        else
         if pc = 143 then tz_pureS 146 3 P_Mo_contact f_Mo_contact else dead
       else
        if pc < 148 then
         if pc = 146 then tz_iload 148 7 else dead
        else
         if pc = 148 then tz_i2 149 (fun a b => a + b) else dead
      else
       if pc < 151 then
        if pc < 150 then
         if pc = 149 then tz_const 150 (.int (nI 2)) else dead
        else
         if pc = 150 then tz_i2 151 (fun a b => a - b) else dead
       else
        if pc < 152 then
         if pc = 151 then tz_aload 152 0 else dead
        else
         if pc = 152 then tz_getf 155 7 1 1 else dead
     else
      if pc < 161 then
       if pc < 157 then
        if pc < 156 then
         if pc = 155 then tz_iload 156 1 else dead
        else
         if pc = 156 then tz_iload 157 2 else dead
       else
        if pc < 158 then
         if pc = 157 then tz_const 158 (.int (nI 0)) else dead
        else
         if pc = 158 then tz_pureS 161 3 P_Mo_contact f_Mo_contact else dead
      else
       if pc < 164 then
        if pc < 163 then
         if pc = 161 then tz_iload 163 7 else dead
        else
         if pc = 163 then tz_i2 164 (fun a b => a + b) else dead
       else
        if pc < 165 then
         if pc = 164 then tz_iaload 165 else dead
        else
         if pc = 165 then tz_iastore 166 else dead
   else
    if pc < 196 then
     if pc < 183 then
      if pc < 176 then
       if pc < 172 then
        if pc < 169 then
         if pc = 166 then tz_iinc 169 7 (nI 1) else dead
        else
         if pc = 169 then tz_goto 129 else dead
       else
        if pc < 175 then
         if pc = 172 then tz_iinc 175 6 (nN) else dead
        else
         if pc = 175 then tz_aload 176 0 else dead
      else
       if pc < 180 then
        if pc < 179 then
         if pc = 176 then tz_getf 179 7 1 1 else dead
        else
         if pc = 179 then tz_iload 180 1 else dead
       else
        if pc < 181 then
         if pc = 180 then tz_iload 181 2 else dead
        else
         if pc = 181 then tz_iload 183 6 else dead
     else
      if pc < 189 then
       if pc < 187 then
        if pc < 186 then
         if pc = 183 then tz_pureS 186 3 P_Mo_contact f_Mo_contact else dead
        else
         if pc = 186 then tz_iload 187 3 else dead
       else
        if pc < 188 then
         if pc = 187 then tz_iastore 188 else dead
        else
         if pc = 188 then tz_aload 189 0 else dead
      else
       if pc < 193 then
        if pc < 192 then
         if pc = 189 then tz_getf 192 7 1 1 else dead
        else
         if pc = 192 then tz_iload 193 1 else dead
       else
        if pc < 194 then
         if pc = 193 then tz_iload 194 2 else dead
        else
         if pc = 194 then tz_iload 196 6 else dead
    else
     if pc < 209 then
      if pc < 203 then
       if pc < 200 then
        if pc < 199 then
         if pc = 196 then tz_pureS 199 3 P_Mo_contact f_Mo_contact else dead
        else
         if pc = 199 then tz_const 200 (.int (nI 1)) else dead
       else
        if pc < 201 then
         if pc = 200 then tz_i2 201 (fun a b => a + b) else dead
        else
         if pc = 201 then tz_iload 203 4 else dead
      else
       if pc < 205 then
        if pc < 204 then
         if pc = 203 then tz_iastore 204 else dead
        else
         if pc = 204 then tz_aload 205 0 else dead
       else
        if pc < 208 then
         if pc = 205 then tz_getf 208 7 1 1 else dead
        else
         if pc = 208 then tz_iload 209 1 else dead
     else
      if pc < 217 then
       if pc < 212 then
        if pc < 210 then
         if pc = 209 then tz_iload 210 2 else dead
        else
         if pc = 210 then tz_const 212 (.int (nI 6)) else dead
       else
        if pc < 215 then
         if pc = 212 then tz_pureS 215 3 P_Mo_map f_Mo_map else dead
        else
         if pc = 215 then tz_iload 217 6 else dead
      else
       if pc < 219 then
        if pc < 218 then
         if pc = 217 then tz_const 218 (.int (nI 1)) else dead
        else
         if pc = 218 then tz_i2 219 (fun a b => a + b) else dead
       else
        if pc < 220 then
         if pc = 219 then tz_iastore 220 else dead
        else
         if pc = 220 then tz_vret else dead
set_option maxRecDepth 100000 in
theorem T_Mo_meet (l : Launch) (G : Gc) : TabOK l G M_Mo_meet (k_Mo_meet l G) := by
  intro pc
  unfold k_Mo_meet
  exact
   (sd_br
    (sd_br
     (sd_br
      (sd_br
       (sd_br
        (sd_br
         (sd_lf (sd_aload_n (k := 0) (by decide +kernel : decode prog_9_method_38_code 0 = .ok (.aload_n 0, 1))))
         (sd_br
          (sd_lf (sd_getf (q := (RX7, TX7, 16)) (by decide +kernel : decode prog_9_method_38_code 1 = .ok (.getfield 7, 3)) rfl (by decide +kernel) (gm 913 (by decide +kernel) rfl)))
          (sd_lf (sd_iload_n (k := 1) (by decide +kernel : decode prog_9_method_38_code 4 = .ok (.iload_n 1, 1))))))
        (sd_br
         (sd_br
          (sd_lf (sd_iload_n (k := 2) (by decide +kernel : decode prog_9_method_38_code 5 = .ok (.iload_n 2, 1))))
          (sd_lf (sd_bipush (by decide +kernel : decode prog_9_method_38_code 6 = .ok (.bipush 6, 2)) (by decide +kernel))))
         (sd_br
          (sd_lf (sd_pureS (sd_callS (by decide +kernel : decode prog_9_method_38_code 8 = .ok (.invokestatic 73, 3)) ok_Mo_map (gm 1020 (by decide +kernel) rfl) (gm 1021 (by decide +kernel) rfl) (by decide +kernel) rfl rfl) c_Mo_map))
          (sd_lf (sd_iaload (by decide +kernel : decode prog_9_method_38_code 11 = .ok (.iaload, 1)))))))
       (sd_br
        (sd_br
         (sd_br
          (sd_lf (sd_istore (by decide +kernel : decode prog_9_method_38_code 12 = .ok (.istore 5, 2))))
          (sd_lf (sd_iconst (by decide +kernel : decode prog_9_method_38_code 14 = .ok (.iconst 0, 1)) (by decide +kernel))))
         (sd_br
          (sd_lf (sd_istore (by decide +kernel : decode prog_9_method_38_code 15 = .ok (.istore 6, 2))))
          (sd_lf (sd_iconst (by decide +kernel : decode prog_9_method_38_code 17 = .ok (.iconst 0, 1)) (by decide +kernel)))))
        (sd_br
         (sd_br
          (sd_lf (sd_istore (by decide +kernel : decode prog_9_method_38_code 18 = .ok (.istore 7, 2))))
          (sd_lf (sd_iload (by decide +kernel : decode prog_9_method_38_code 20 = .ok (.iload 7, 2)))))
         (sd_br
          (sd_lf (sd_iload (by decide +kernel : decode prog_9_method_38_code 22 = .ok (.iload 5, 2))))
          (sd_lf (sd_icmp_ge (by decide +kernel : decode prog_9_method_38_code 24 = .ok (.if_icmp .ge 95, 3)) (by decide +kernel)))))))
      (sd_br
       (sd_br
        (sd_br
         (sd_br
          (sd_lf (sd_iload_n (k := 1) (by decide +kernel : decode prog_9_method_38_code 27 = .ok (.iload_n 1, 1))))
          (sd_lf (sd_iload_n (k := 2) (by decide +kernel : decode prog_9_method_38_code 28 = .ok (.iload_n 2, 1)))))
         (sd_br
          (sd_lf (sd_iload (by decide +kernel : decode prog_9_method_38_code 29 = .ok (.iload 7, 2))))
          (sd_lf (sd_pureS (sd_callS (by decide +kernel : decode prog_9_method_38_code 31 = .ok (.invokestatic 77, 3)) ok_Mo_contact (gm 1027 (by decide +kernel) rfl) (gm 1028 (by decide +kernel) rfl) (by decide +kernel) rfl rfl) c_Mo_contact))))
        (sd_br
         (sd_br
          (sd_lf (sd_istore (by decide +kernel : decode prog_9_method_38_code 34 = .ok (.istore 8, 2))))
          (sd_lf (sd_aload_n (k := 0) (by decide +kernel : decode prog_9_method_38_code 36 = .ok (.aload_n 0, 1)))))
         (sd_br
          (sd_lf (sd_getf (q := (RX7, TX7, 16)) (by decide +kernel : decode prog_9_method_38_code 37 = .ok (.getfield 7, 3)) rfl (by decide +kernel) (gm 913 (by decide +kernel) rfl)))
          (sd_lf (sd_iload (by decide +kernel : decode prog_9_method_38_code 40 = .ok (.iload 8, 2)))))))
       (sd_br
        (sd_br
         (sd_br
          (sd_lf (sd_iaload (by decide +kernel : decode prog_9_method_38_code 42 = .ok (.iaload, 1))))
          (sd_lf (sd_iload_n (k := 3) (by decide +kernel : decode prog_9_method_38_code 43 = .ok (.iload_n 3, 1)))))
         (sd_br
          (sd_lf (sd_icmp_ne (by decide +kernel : decode prog_9_method_38_code 44 = .ok (.if_icmp .ne 17, 3)) (by decide +kernel)))
          (sd_lf (sd_aload_n (k := 0) (by decide +kernel : decode prog_9_method_38_code 47 = .ok (.aload_n 0, 1))))))
        (sd_br
         (sd_br
          (sd_lf (sd_getf (q := (RX7, TX7, 16)) (by decide +kernel : decode prog_9_method_38_code 48 = .ok (.getfield 7, 3)) rfl (by decide +kernel) (gm 913 (by decide +kernel) rfl)))
          (sd_lf (sd_iload (by decide +kernel : decode prog_9_method_38_code 51 = .ok (.iload 8, 2)))))
         (sd_br
          (sd_lf (sd_iconst (by decide +kernel : decode prog_9_method_38_code 53 = .ok (.iconst 1, 1)) (by decide +kernel)))
          (sd_lf (sd_iadd (by decide +kernel : decode prog_9_method_38_code 54 = .ok (.iadd, 1)))))))))
     (sd_br
      (sd_br
       (sd_br
        (sd_br
         (sd_br
          (sd_lf (sd_iaload (by decide +kernel : decode prog_9_method_38_code 55 = .ok (.iaload, 1))))
          (sd_lf (sd_iload (by decide +kernel : decode prog_9_method_38_code 56 = .ok (.iload 4, 2)))))
         (sd_br
          (sd_lf (sd_icmp_eq (by decide +kernel : decode prog_9_method_38_code 58 = .ok (.if_icmp .eq 55, 3)) (by decide +kernel)))
          (sd_lf (sd_iload_n (k := 1) (by decide +kernel : decode prog_9_method_38_code 61 = .ok (.iload_n 1, 1))))))
        (sd_br
         (sd_br
          (sd_lf (sd_iload_n (k := 2) (by decide +kernel : decode prog_9_method_38_code 62 = .ok (.iload_n 2, 1))))
          (sd_lf (sd_iload (by decide +kernel : decode prog_9_method_38_code 63 = .ok (.iload 6, 2)))))
         (sd_br
          (sd_lf (sd_pureS (sd_callS (by decide +kernel : decode prog_9_method_38_code 65 = .ok (.invokestatic 77, 3)) ok_Mo_contact (gm 1027 (by decide +kernel) rfl) (gm 1028 (by decide +kernel) rfl) (by decide +kernel) rfl rfl) c_Mo_contact))
          (sd_lf (sd_istore (by decide +kernel : decode prog_9_method_38_code 68 = .ok (.istore 9, 2)))))))
       (sd_br
        (sd_br
         (sd_br
          (sd_lf (sd_aload_n (k := 0) (by decide +kernel : decode prog_9_method_38_code 70 = .ok (.aload_n 0, 1))))
          (sd_lf (sd_getf (q := (RX7, TX7, 16)) (by decide +kernel : decode prog_9_method_38_code 71 = .ok (.getfield 7, 3)) rfl (by decide +kernel) (gm 913 (by decide +kernel) rfl))))
         (sd_br
          (sd_lf (sd_iload (by decide +kernel : decode prog_9_method_38_code 74 = .ok (.iload 8, 2))))
          (sd_lf (sd_iaload (by decide +kernel : decode prog_9_method_38_code 76 = .ok (.iaload, 1))))))
        (sd_br
         (sd_br
          (sd_lf (sd_istore (by decide +kernel : decode prog_9_method_38_code 77 = .ok (.istore 10, 2))))
          (sd_lf (sd_aload_n (k := 0) (by decide +kernel : decode prog_9_method_38_code 79 = .ok (.aload_n 0, 1)))))
         (sd_br
          (sd_lf (sd_getf (q := (RX7, TX7, 16)) (by decide +kernel : decode prog_9_method_38_code 80 = .ok (.getfield 7, 3)) rfl (by decide +kernel) (gm 913 (by decide +kernel) rfl)))
          (sd_lf (sd_iload (by decide +kernel : decode prog_9_method_38_code 83 = .ok (.iload 8, 2))))))))
      (sd_br
       (sd_br
        (sd_br
         (sd_br
          (sd_lf (sd_iconst (by decide +kernel : decode prog_9_method_38_code 85 = .ok (.iconst 1, 1)) (by decide +kernel)))
          (sd_lf (sd_iadd (by decide +kernel : decode prog_9_method_38_code 86 = .ok (.iadd, 1)))))
         (sd_br
          (sd_lf (sd_iaload (by decide +kernel : decode prog_9_method_38_code 87 = .ok (.iaload, 1))))
          (sd_lf (sd_istore (by decide +kernel : decode prog_9_method_38_code 88 = .ok (.istore 11, 2))))))
        (sd_br
         (sd_br
          (sd_lf (sd_aload_n (k := 0) (by decide +kernel : decode prog_9_method_38_code 90 = .ok (.aload_n 0, 1))))
          (sd_lf (sd_getf (q := (RX7, TX7, 16)) (by decide +kernel : decode prog_9_method_38_code 91 = .ok (.getfield 7, 3)) rfl (by decide +kernel) (gm 913 (by decide +kernel) rfl))))
         (sd_br
          (sd_lf (sd_iload (by decide +kernel : decode prog_9_method_38_code 94 = .ok (.iload 9, 2))))
          (sd_lf (sd_iload (by decide +kernel : decode prog_9_method_38_code 96 = .ok (.iload 10, 2)))))))
       (sd_br
        (sd_br
         (sd_br
          (sd_lf (sd_iastore (by decide +kernel : decode prog_9_method_38_code 98 = .ok (.iastore, 1))))
          (sd_lf (sd_aload_n (k := 0) (by decide +kernel : decode prog_9_method_38_code 99 = .ok (.aload_n 0, 1)))))
         (sd_br
          (sd_lf (sd_getf (q := (RX7, TX7, 16)) (by decide +kernel : decode prog_9_method_38_code 100 = .ok (.getfield 7, 3)) rfl (by decide +kernel) (gm 913 (by decide +kernel) rfl)))
          (sd_lf (sd_iload (by decide +kernel : decode prog_9_method_38_code 103 = .ok (.iload 9, 2))))))
        (sd_br
         (sd_br
          (sd_lf (sd_iconst (by decide +kernel : decode prog_9_method_38_code 105 = .ok (.iconst 1, 1)) (by decide +kernel)))
          (sd_lf (sd_iadd (by decide +kernel : decode prog_9_method_38_code 106 = .ok (.iadd, 1)))))
         (sd_br
          (sd_lf (sd_iload (by decide +kernel : decode prog_9_method_38_code 107 = .ok (.iload 11, 2))))
          (sd_lf (sd_iastore (by decide +kernel : decode prog_9_method_38_code 109 = .ok (.iastore, 1))))))))))
    (sd_br
     (sd_br
      (sd_br
       (sd_br
        (sd_br
         (sd_lf (sd_iinc (by decide +kernel : decode prog_9_method_38_code 110 = .ok (.iinc 6 1, 3)) (by decide +kernel)))
         (sd_br
          (sd_lf (sd_iinc (by decide +kernel : decode prog_9_method_38_code 113 = .ok (.iinc 7 1, 3)) (by decide +kernel)))
          (sd_lf (sd_goto (by decide +kernel : decode prog_9_method_38_code 116 = .ok (.goto (-96), 3)) (by decide +kernel)))))
        (sd_br
         (sd_br
          (sd_lf (sd_iload (by decide +kernel : decode prog_9_method_38_code 119 = .ok (.iload 6, 2))))
          (sd_lf (sd_bipush (by decide +kernel : decode prog_9_method_38_code 121 = .ok (.bipush 8, 2)) (by decide +kernel))))
         (sd_br
          (sd_lf (sd_icmp_ne (by decide +kernel : decode prog_9_method_38_code 123 = .ok (.if_icmp .ne 52, 3)) (by decide +kernel)))
          (sd_lf (sd_iconst (by decide +kernel : decode prog_9_method_38_code 126 = .ok (.iconst 2, 1)) (by decide +kernel))))))
       (sd_br
        (sd_br
         (sd_br
          (sd_lf (sd_istore (by decide +kernel : decode prog_9_method_38_code 127 = .ok (.istore 7, 2))))
          (sd_lf (sd_iload (by decide +kernel : decode prog_9_method_38_code 129 = .ok (.iload 7, 2)))))
         (sd_br
          (sd_lf (sd_bipush (by decide +kernel : decode prog_9_method_38_code 131 = .ok (.bipush 16, 2)) (by decide +kernel)))
          (sd_lf (sd_icmp_ge (by decide +kernel : decode prog_9_method_38_code 133 = .ok (.if_icmp .ge 39, 3)) (by decide +kernel)))))
        (sd_br
         (sd_br
          (sd_lf (sd_aload_n (k := 0) (by decide +kernel : decode prog_9_method_38_code 136 = .ok (.aload_n 0, 1))))
          (sd_lf (sd_getf (q := (RX7, TX7, 16)) (by decide +kernel : decode prog_9_method_38_code 137 = .ok (.getfield 7, 3)) rfl (by decide +kernel) (gm 913 (by decide +kernel) rfl))))
         (sd_br
          (sd_lf (sd_iload_n (k := 1) (by decide +kernel : decode prog_9_method_38_code 140 = .ok (.iload_n 1, 1))))
          (sd_lf (sd_iload_n (k := 2) (by decide +kernel : decode prog_9_method_38_code 141 = .ok (.iload_n 2, 1))))))))
      (sd_br
       (sd_br
        (sd_br
         (sd_br
          (sd_lf (sd_iconst (by decide +kernel : decode prog_9_method_38_code 142 = .ok (.iconst 0, 1)) (by decide +kernel)))
          (sd_lf (sd_pureS (sd_callS (by decide +kernel : decode prog_9_method_38_code 143 = .ok (.invokestatic 77, 3)) ok_Mo_contact (gm 1027 (by decide +kernel) rfl) (gm 1028 (by decide +kernel) rfl) (by decide +kernel) rfl rfl) c_Mo_contact)))
         (sd_br
          (sd_lf (sd_iload (by decide +kernel : decode prog_9_method_38_code 146 = .ok (.iload 7, 2))))
          (sd_lf (sd_iadd (by decide +kernel : decode prog_9_method_38_code 148 = .ok (.iadd, 1))))))
        (sd_br
         (sd_br
          (sd_lf (sd_iconst (by decide +kernel : decode prog_9_method_38_code 149 = .ok (.iconst 2, 1)) (by decide +kernel)))
          (sd_lf (sd_isub (by decide +kernel : decode prog_9_method_38_code 150 = .ok (.isub, 1)))))
         (sd_br
          (sd_lf (sd_aload_n (k := 0) (by decide +kernel : decode prog_9_method_38_code 151 = .ok (.aload_n 0, 1))))
          (sd_lf (sd_getf (q := (RX7, TX7, 16)) (by decide +kernel : decode prog_9_method_38_code 152 = .ok (.getfield 7, 3)) rfl (by decide +kernel) (gm 913 (by decide +kernel) rfl))))))
       (sd_br
        (sd_br
         (sd_br
          (sd_lf (sd_iload_n (k := 1) (by decide +kernel : decode prog_9_method_38_code 155 = .ok (.iload_n 1, 1))))
          (sd_lf (sd_iload_n (k := 2) (by decide +kernel : decode prog_9_method_38_code 156 = .ok (.iload_n 2, 1)))))
         (sd_br
          (sd_lf (sd_iconst (by decide +kernel : decode prog_9_method_38_code 157 = .ok (.iconst 0, 1)) (by decide +kernel)))
          (sd_lf (sd_pureS (sd_callS (by decide +kernel : decode prog_9_method_38_code 158 = .ok (.invokestatic 77, 3)) ok_Mo_contact (gm 1027 (by decide +kernel) rfl) (gm 1028 (by decide +kernel) rfl) (by decide +kernel) rfl rfl) c_Mo_contact))))
        (sd_br
         (sd_br
          (sd_lf (sd_iload (by decide +kernel : decode prog_9_method_38_code 161 = .ok (.iload 7, 2))))
          (sd_lf (sd_iadd (by decide +kernel : decode prog_9_method_38_code 163 = .ok (.iadd, 1)))))
         (sd_br
          (sd_lf (sd_iaload (by decide +kernel : decode prog_9_method_38_code 164 = .ok (.iaload, 1))))
          (sd_lf (sd_iastore (by decide +kernel : decode prog_9_method_38_code 165 = .ok (.iastore, 1)))))))))
     (sd_br
      (sd_br
       (sd_br
        (sd_br
         (sd_br
          (sd_lf (sd_iinc (by decide +kernel : decode prog_9_method_38_code 166 = .ok (.iinc 7 1, 3)) (by decide +kernel)))
          (sd_lf (sd_goto (by decide +kernel : decode prog_9_method_38_code 169 = .ok (.goto (-40), 3)) (by decide +kernel))))
         (sd_br
          (sd_lf (sd_iinc (by decide +kernel : decode prog_9_method_38_code 172 = .ok (.iinc 6 (-1), 3)) (by decide +kernel)))
          (sd_lf (sd_aload_n (k := 0) (by decide +kernel : decode prog_9_method_38_code 175 = .ok (.aload_n 0, 1))))))
        (sd_br
         (sd_br
          (sd_lf (sd_getf (q := (RX7, TX7, 16)) (by decide +kernel : decode prog_9_method_38_code 176 = .ok (.getfield 7, 3)) rfl (by decide +kernel) (gm 913 (by decide +kernel) rfl)))
          (sd_lf (sd_iload_n (k := 1) (by decide +kernel : decode prog_9_method_38_code 179 = .ok (.iload_n 1, 1)))))
         (sd_br
          (sd_lf (sd_iload_n (k := 2) (by decide +kernel : decode prog_9_method_38_code 180 = .ok (.iload_n 2, 1))))
          (sd_lf (sd_iload (by decide +kernel : decode prog_9_method_38_code 181 = .ok (.iload 6, 2)))))))
       (sd_br
        (sd_br
         (sd_br
          (sd_lf (sd_pureS (sd_callS (by decide +kernel : decode prog_9_method_38_code 183 = .ok (.invokestatic 77, 3)) ok_Mo_contact (gm 1027 (by decide +kernel) rfl) (gm 1028 (by decide +kernel) rfl) (by decide +kernel) rfl rfl) c_Mo_contact))
          (sd_lf (sd_iload_n (k := 3) (by decide +kernel : decode prog_9_method_38_code 186 = .ok (.iload_n 3, 1)))))
         (sd_br
          (sd_lf (sd_iastore (by decide +kernel : decode prog_9_method_38_code 187 = .ok (.iastore, 1))))
          (sd_lf (sd_aload_n (k := 0) (by decide +kernel : decode prog_9_method_38_code 188 = .ok (.aload_n 0, 1))))))
        (sd_br
         (sd_br
          (sd_lf (sd_getf (q := (RX7, TX7, 16)) (by decide +kernel : decode prog_9_method_38_code 189 = .ok (.getfield 7, 3)) rfl (by decide +kernel) (gm 913 (by decide +kernel) rfl)))
          (sd_lf (sd_iload_n (k := 1) (by decide +kernel : decode prog_9_method_38_code 192 = .ok (.iload_n 1, 1)))))
         (sd_br
          (sd_lf (sd_iload_n (k := 2) (by decide +kernel : decode prog_9_method_38_code 193 = .ok (.iload_n 2, 1))))
          (sd_lf (sd_iload (by decide +kernel : decode prog_9_method_38_code 194 = .ok (.iload 6, 2))))))))
      (sd_br
       (sd_br
        (sd_br
         (sd_br
          (sd_lf (sd_pureS (sd_callS (by decide +kernel : decode prog_9_method_38_code 196 = .ok (.invokestatic 77, 3)) ok_Mo_contact (gm 1027 (by decide +kernel) rfl) (gm 1028 (by decide +kernel) rfl) (by decide +kernel) rfl rfl) c_Mo_contact))
          (sd_lf (sd_iconst (by decide +kernel : decode prog_9_method_38_code 199 = .ok (.iconst 1, 1)) (by decide +kernel))))
         (sd_br
          (sd_lf (sd_iadd (by decide +kernel : decode prog_9_method_38_code 200 = .ok (.iadd, 1))))
          (sd_lf (sd_iload (by decide +kernel : decode prog_9_method_38_code 201 = .ok (.iload 4, 2))))))
        (sd_br
         (sd_br
          (sd_lf (sd_iastore (by decide +kernel : decode prog_9_method_38_code 203 = .ok (.iastore, 1))))
          (sd_lf (sd_aload_n (k := 0) (by decide +kernel : decode prog_9_method_38_code 204 = .ok (.aload_n 0, 1)))))
         (sd_br
          (sd_lf (sd_getf (q := (RX7, TX7, 16)) (by decide +kernel : decode prog_9_method_38_code 205 = .ok (.getfield 7, 3)) rfl (by decide +kernel) (gm 913 (by decide +kernel) rfl)))
          (sd_lf (sd_iload_n (k := 1) (by decide +kernel : decode prog_9_method_38_code 208 = .ok (.iload_n 1, 1)))))))
       (sd_br
        (sd_br
         (sd_br
          (sd_lf (sd_iload_n (k := 2) (by decide +kernel : decode prog_9_method_38_code 209 = .ok (.iload_n 2, 1))))
          (sd_lf (sd_bipush (by decide +kernel : decode prog_9_method_38_code 210 = .ok (.bipush 6, 2)) (by decide +kernel))))
         (sd_br
          (sd_lf (sd_pureS (sd_callS (by decide +kernel : decode prog_9_method_38_code 212 = .ok (.invokestatic 73, 3)) ok_Mo_map (gm 1020 (by decide +kernel) rfl) (gm 1021 (by decide +kernel) rfl) (by decide +kernel) rfl rfl) c_Mo_map))
          (sd_lf (sd_iload (by decide +kernel : decode prog_9_method_38_code 215 = .ok (.iload 6, 2))))))
        (sd_br
         (sd_br
          (sd_lf (sd_iconst (by decide +kernel : decode prog_9_method_38_code 217 = .ok (.iconst 1, 1)) (by decide +kernel)))
          (sd_lf (sd_iadd (by decide +kernel : decode prog_9_method_38_code 218 = .ok (.iadd, 1)))))
         (sd_br
          (sd_lf (sd_iastore (by decide +kernel : decode prog_9_method_38_code 219 = .ok (.iastore, 1))))
          (sd_lf (sd_vret (by decide +kernel : decode prog_9_method_38_code 220 = .ok (.return_, 1)) rfl)))))))))
def k_Mo_make (l : Launch) (G : Gc) (pc : Nat) : Tr :=
  if pc < 84 then
   if pc < 44 then
    if pc < 24 then
     if pc < 11 then
      if pc < 5 then
       if pc < 1 then
        if pc = 0 then tz_aload 1 0 else dead
       else
        if pc < 4 then
         if pc = 1 then tz_getf 4 7 1 1 else dead
        else
         if pc = 4 then tz_iload 5 1 else dead
      else
       if pc < 7 then
        if pc = 5 then tz_const 7 (.int (nI 11)) else dead
       else
        if pc < 10 then
         if pc = 7 then tz_pureS 10 2 P_Mo_at f_Mo_at else dead
        else
         if pc = 10 then tz_iaload 11 else dead
     else
      if pc < 17 then
       if pc < 13 then
        if pc = 11 then tz_istore 13 6 else dead
       else
        if pc < 15 then
         if pc = 13 then tz_iload 15 6 else dead
        else
         if pc = 15 then tz_const 17 (.int (nI 8)) else dead
      else
       if pc < 20 then
        if pc = 17 then tz_icmp 20 24 (fun a b => ¬ a = b) else dead
       else
        if pc < 21 then
         if pc = 20 then tz_const 21 (.int (nN)) else dead
        else
         if pc = 21 then tz_goto 30 else dead
    else
     if pc < 34 then
      if pc < 27 then
       if pc < 25 then
        if pc = 24 then tz_aload 25 0 else dead
       else
        if pc < 26 then
         if pc = 25 then tz_iload 26 1 else dead
        else
         if pc = 26 then tz_iload 27 3 else dead
      else
       if pc < 30 then
        if pc = 27 then tz_callV l G 30 M_Mo_freshPort 2 7 else dead
       else
        if pc < 32 then
         if pc = 30 then tz_istore 32 7 else dead
        else
         if pc = 32 then tz_iload 34 7 else dead
     else
      if pc < 39 then
       if pc < 35 then
        if pc = 34 then tz_const 35 (.int (nN)) else dead
       else
        if pc < 38 then
         if pc = 35 then tz_icmp 38 40 (fun a b => ¬ a = b) else dead
        else
         if pc = 38 then tz_const 39 (.int (nN)) else dead
      else
       if pc < 40 then
        if pc = 39 then tz_iret else dead
       else
        if pc < 41 then
         if pc = 40 then tz_aload 41 0 else dead
        else
         if pc = 41 then tz_getf 44 7 1 1 else dead
   else
    if pc < 64 then
     if pc < 53 then
      if pc < 49 then
       if pc < 45 then
        if pc = 44 then tz_iload 45 1 else dead
       else
        if pc < 46 then
         if pc = 45 then tz_const 46 (.int (nI 2)) else dead
        else
         if pc = 46 then tz_pureS 49 2 P_Mo_at f_Mo_at else dead
      else
       if pc < 50 then
        if pc = 49 then tz_iaload 50 else dead
       else
        if pc < 52 then
         if pc = 50 then tz_istore 52 8 else dead
        else
         if pc = 52 then tz_aload 53 0 else dead
     else
      if pc < 59 then
       if pc < 56 then
        if pc = 53 then tz_getf 56 7 1 1 else dead
       else
        if pc < 57 then
         if pc = 56 then tz_iload 57 1 else dead
        else
         if pc = 57 then tz_const 59 (.int (nI 11)) else dead
      else
       if pc < 62 then
        if pc = 59 then tz_pureS 62 2 P_Mo_at f_Mo_at else dead
       else
        if pc < 63 then
         if pc = 62 then tz_dup2 63 else dead
        else
         if pc = 63 then tz_iaload 64 else dead
    else
     if pc < 72 then
      if pc < 67 then
       if pc < 65 then
        if pc = 64 then tz_const 65 (.int (nI 1)) else dead
       else
        if pc < 66 then
         if pc = 65 then tz_i2 66 (fun a b => a + b) else dead
        else
         if pc = 66 then tz_iastore 67 else dead
      else
       if pc < 68 then
        if pc = 67 then tz_aload 68 0 else dead
       else
        if pc < 71 then
         if pc = 68 then tz_getf 71 7 1 1 else dead
        else
         if pc = 71 then tz_iload 72 1 else dead
     else
      if pc < 78 then
       if pc < 74 then
        if pc = 72 then tz_iload 74 6 else dead
       else
        if pc < 75 then
         if pc = 74 then tz_const 75 (.int (nI 0)) else dead
        else
         if pc = 75 then tz_pureS 78 3 P_Mo_map f_Mo_map else dead
      else
       if pc < 80 then
        if pc < 79 then
         if pc = 78 then tz_iload 79 2 else dead
        else
         if pc = 79 then tz_iastore 80 else dead
       else
        if pc < 81 then
         if pc = 80 then tz_aload 81 0 else dead
        else
         if pc = 81 then tz_getf 84 7 1 1 else dead
  else
   if pc < 127 then
    if pc < 104 then
     if pc < 93 then
      if pc < 88 then
       if pc < 85 then
        if pc = 84 then tz_iload 85 1 else dead
       else
        if pc < 87 then
         if pc = 85 then tz_iload 87 6 else dead
        else
         if pc = 87 then tz_const 88 (.int (nI 1)) else dead
      else
       if pc < 91 then
        if pc = 88 then tz_pureS 91 3 P_Mo_map f_Mo_map else dead
       else
        if pc < 92 then
         if pc = 91 then tz_iload 92 3 else dead
        else
         if pc = 92 then tz_iastore 93 else dead
     else
      if pc < 98 then
       if pc < 94 then
        if pc = 93 then tz_aload 94 0 else dead
       else
        if pc < 97 then
         if pc = 94 then tz_getf 97 7 1 1 else dead
        else
         if pc = 97 then tz_iload 98 1 else dead
      else
       if pc < 100 then
        if pc = 98 then tz_iload 100 6 else dead
       else
        if pc < 101 then
         if pc = 100 then tz_const 101 (.int (nI 2)) else dead
        else
         if pc = 101 then tz_pureS 104 3 P_Mo_map f_Mo_map else dead
    else
     if pc < 114 then
      if pc < 108 then
       if pc < 106 then
        if pc = 104 then tz_iload 106 7 else dead
       else
        if pc < 107 then
         if pc = 106 then tz_iastore 107 else dead
        else
         if pc = 107 then tz_aload 108 0 else dead
      else
       if pc < 111 then
        if pc = 108 then tz_getf 111 7 1 1 else dead
       else
        if pc < 112 then
         if pc = 111 then tz_iload 112 1 else dead
        else
         if pc = 112 then tz_iload 114 6 else dead
     else
      if pc < 120 then
       if pc < 115 then
        if pc = 114 then tz_const 115 (.int (nI 3)) else dead
       else
        if pc < 118 then
         if pc = 115 then tz_pureS 118 3 P_Mo_map f_Mo_map else dead
        else
         if pc = 118 then tz_iload 120 8 else dead
      else
       if pc < 123 then
        if pc = 120 then tz_if 123 127 (fun a => ¬ a = 0) else dead
       else
        if pc < 124 then
         if pc = 123 then tz_const 124 (.int (nN)) else dead
        else
         if pc = 124 then tz_goto 129 else dead
   else
    if pc < 148 then
     if pc < 137 then
      if pc < 131 then
       if pc < 129 then
        if pc = 127 then tz_iload 129 4 else dead
       else
        if pc < 130 then
         if pc = 129 then tz_iastore 130 else dead
        else
         if pc = 130 then tz_aload 131 0 else dead
      else
       if pc < 134 then
        if pc = 131 then tz_getf 134 7 1 1 else dead
       else
        if pc < 135 then
         if pc = 134 then tz_iload 135 1 else dead
        else
         if pc = 135 then tz_iload 137 6 else dead
     else
      if pc < 143 then
       if pc < 138 then
        if pc = 137 then tz_const 138 (.int (nI 4)) else dead
       else
        if pc < 141 then
         if pc = 138 then tz_pureS 141 3 P_Mo_map f_Mo_map else dead
        else
         if pc = 141 then tz_iload 143 8 else dead
      else
       if pc < 144 then
        if pc = 143 then tz_const 144 (.int (nI 2)) else dead
       else
        if pc < 147 then
         if pc = 144 then tz_icmp 147 151 (fun a b => b ≤ a) else dead
        else
         if pc = 147 then tz_const 148 (.int (nN)) else dead
    else
     if pc < 159 then
      if pc < 154 then
       if pc < 151 then
        if pc = 148 then tz_goto 153 else dead
       else
        if pc < 153 then
         if pc = 151 then tz_iload 153 5 else dead
        else
         if pc = 153 then tz_iastore 154 else dead
      else
       if pc < 155 then
        if pc = 154 then tz_aload 155 0 else dead
       else
        if pc < 158 then
         if pc = 155 then tz_getf 158 7 1 1 else dead
        else
         if pc = 158 then tz_iload 159 1 else dead
     else
      if pc < 166 then
       if pc < 161 then
        if pc = 159 then tz_iload 161 6 else dead
       else
        if pc < 163 then
         if pc = 161 then tz_const 163 (.int (nI 6)) else dead
        else
         if pc = 163 then tz_pureS 166 3 P_Mo_map f_Mo_map else dead
      else
       if pc < 168 then
        if pc < 167 then
         if pc = 166 then tz_const 167 (.int (nI 0)) else dead
        else
         if pc = 167 then tz_iastore 168 else dead
       else
        if pc < 170 then
         if pc = 168 then tz_iload 170 6 else dead
        else
         if pc = 170 then tz_iret else dead
set_option maxRecDepth 100000 in
theorem T_Mo_make (l : Launch) (G : Gc) : TabOK l G M_Mo_make (k_Mo_make l G) := by
  intro pc
  unfold k_Mo_make
  exact
   (sd_br
    (sd_br
     (sd_br
      (sd_br
       (sd_br
        (sd_br
         (sd_lf (sd_aload_n (k := 0) (by decide +kernel : decode prog_9_method_39_code 0 = .ok (.aload_n 0, 1))))
         (sd_br
          (sd_lf (sd_getf (q := (RX7, TX7, 16)) (by decide +kernel : decode prog_9_method_39_code 1 = .ok (.getfield 7, 3)) rfl (by decide +kernel) (gm 913 (by decide +kernel) rfl)))
          (sd_lf (sd_iload_n (k := 1) (by decide +kernel : decode prog_9_method_39_code 4 = .ok (.iload_n 1, 1))))))
        (sd_br
         (sd_lf (sd_bipush (by decide +kernel : decode prog_9_method_39_code 5 = .ok (.bipush 11, 2)) (by decide +kernel)))
         (sd_br
          (sd_lf (sd_pureS (sd_callS (by decide +kernel : decode prog_9_method_39_code 7 = .ok (.invokestatic 44, 3)) ok_Mo_at (gm 993 (by decide +kernel) rfl) (gm 994 (by decide +kernel) rfl) (by decide +kernel) rfl rfl) c_Mo_at))
          (sd_lf (sd_iaload (by decide +kernel : decode prog_9_method_39_code 10 = .ok (.iaload, 1)))))))
       (sd_br
        (sd_br
         (sd_lf (sd_istore (by decide +kernel : decode prog_9_method_39_code 11 = .ok (.istore 6, 2))))
         (sd_br
          (sd_lf (sd_iload (by decide +kernel : decode prog_9_method_39_code 13 = .ok (.iload 6, 2))))
          (sd_lf (sd_bipush (by decide +kernel : decode prog_9_method_39_code 15 = .ok (.bipush 8, 2)) (by decide +kernel)))))
        (sd_br
         (sd_lf (sd_icmp_ne (by decide +kernel : decode prog_9_method_39_code 17 = .ok (.if_icmp .ne 7, 3)) (by decide +kernel)))
         (sd_br
          (sd_lf (sd_iconst (by decide +kernel : decode prog_9_method_39_code 20 = .ok (.iconst (-1), 1)) (by decide +kernel)))
          (sd_lf (sd_goto (by decide +kernel : decode prog_9_method_39_code 21 = .ok (.goto 9, 3)) (by decide +kernel)))))))
      (sd_br
       (sd_br
        (sd_br
         (sd_lf (sd_aload_n (k := 0) (by decide +kernel : decode prog_9_method_39_code 24 = .ok (.aload_n 0, 1))))
         (sd_br
          (sd_lf (sd_iload_n (k := 1) (by decide +kernel : decode prog_9_method_39_code 25 = .ok (.iload_n 1, 1))))
          (sd_lf (sd_iload_n (k := 3) (by decide +kernel : decode prog_9_method_39_code 26 = .ok (.iload_n 3, 1))))))
        (sd_br
         (sd_lf (sd_callV (q := (RX7, TX7, 16)) (by decide +kernel : decode prog_9_method_39_code 27 = .ok (.invokevirtual 130, 3)) ok_Mo_freshPort (gm 1110 (by decide +kernel) rfl) (gm 1112 (by decide +kernel) rfl) (gm 48 (by decide +kernel) rfl) rfl rfl (by decide +kernel) rfl rfl))
         (sd_br
          (sd_lf (sd_istore (by decide +kernel : decode prog_9_method_39_code 30 = .ok (.istore 7, 2))))
          (sd_lf (sd_iload (by decide +kernel : decode prog_9_method_39_code 32 = .ok (.iload 7, 2)))))))
       (sd_br
        (sd_br
         (sd_lf (sd_iconst (by decide +kernel : decode prog_9_method_39_code 34 = .ok (.iconst (-1), 1)) (by decide +kernel)))
         (sd_br
          (sd_lf (sd_icmp_ne (by decide +kernel : decode prog_9_method_39_code 35 = .ok (.if_icmp .ne 5, 3)) (by decide +kernel)))
          (sd_lf (sd_iconst (by decide +kernel : decode prog_9_method_39_code 38 = .ok (.iconst (-1), 1)) (by decide +kernel)))))
        (sd_br
         (sd_lf (sd_iret (by decide +kernel : decode prog_9_method_39_code 39 = .ok (.ireturn, 1)) rfl))
         (sd_br
          (sd_lf (sd_aload_n (k := 0) (by decide +kernel : decode prog_9_method_39_code 40 = .ok (.aload_n 0, 1))))
          (sd_lf (sd_getf (q := (RX7, TX7, 16)) (by decide +kernel : decode prog_9_method_39_code 41 = .ok (.getfield 7, 3)) rfl (by decide +kernel) (gm 913 (by decide +kernel) rfl))))))))
     (sd_br
      (sd_br
       (sd_br
        (sd_br
         (sd_lf (sd_iload_n (k := 1) (by decide +kernel : decode prog_9_method_39_code 44 = .ok (.iload_n 1, 1))))
         (sd_br
          (sd_lf (sd_iconst (by decide +kernel : decode prog_9_method_39_code 45 = .ok (.iconst 2, 1)) (by decide +kernel)))
          (sd_lf (sd_pureS (sd_callS (by decide +kernel : decode prog_9_method_39_code 46 = .ok (.invokestatic 44, 3)) ok_Mo_at (gm 993 (by decide +kernel) rfl) (gm 994 (by decide +kernel) rfl) (by decide +kernel) rfl rfl) c_Mo_at))))
        (sd_br
         (sd_lf (sd_iaload (by decide +kernel : decode prog_9_method_39_code 49 = .ok (.iaload, 1))))
         (sd_br
          (sd_lf (sd_istore (by decide +kernel : decode prog_9_method_39_code 50 = .ok (.istore 8, 2))))
          (sd_lf (sd_aload_n (k := 0) (by decide +kernel : decode prog_9_method_39_code 52 = .ok (.aload_n 0, 1)))))))
       (sd_br
        (sd_br
         (sd_lf (sd_getf (q := (RX7, TX7, 16)) (by decide +kernel : decode prog_9_method_39_code 53 = .ok (.getfield 7, 3)) rfl (by decide +kernel) (gm 913 (by decide +kernel) rfl)))
         (sd_br
          (sd_lf (sd_iload_n (k := 1) (by decide +kernel : decode prog_9_method_39_code 56 = .ok (.iload_n 1, 1))))
          (sd_lf (sd_bipush (by decide +kernel : decode prog_9_method_39_code 57 = .ok (.bipush 11, 2)) (by decide +kernel)))))
        (sd_br
         (sd_lf (sd_pureS (sd_callS (by decide +kernel : decode prog_9_method_39_code 59 = .ok (.invokestatic 44, 3)) ok_Mo_at (gm 993 (by decide +kernel) rfl) (gm 994 (by decide +kernel) rfl) (by decide +kernel) rfl rfl) c_Mo_at))
         (sd_br
          (sd_lf (sd_dup2 (by decide +kernel : decode prog_9_method_39_code 62 = .ok (.dup2, 1))))
          (sd_lf (sd_iaload (by decide +kernel : decode prog_9_method_39_code 63 = .ok (.iaload, 1))))))))
      (sd_br
       (sd_br
        (sd_br
         (sd_lf (sd_iconst (by decide +kernel : decode prog_9_method_39_code 64 = .ok (.iconst 1, 1)) (by decide +kernel)))
         (sd_br
          (sd_lf (sd_iadd (by decide +kernel : decode prog_9_method_39_code 65 = .ok (.iadd, 1))))
          (sd_lf (sd_iastore (by decide +kernel : decode prog_9_method_39_code 66 = .ok (.iastore, 1))))))
        (sd_br
         (sd_lf (sd_aload_n (k := 0) (by decide +kernel : decode prog_9_method_39_code 67 = .ok (.aload_n 0, 1))))
         (sd_br
          (sd_lf (sd_getf (q := (RX7, TX7, 16)) (by decide +kernel : decode prog_9_method_39_code 68 = .ok (.getfield 7, 3)) rfl (by decide +kernel) (gm 913 (by decide +kernel) rfl)))
          (sd_lf (sd_iload_n (k := 1) (by decide +kernel : decode prog_9_method_39_code 71 = .ok (.iload_n 1, 1)))))))
       (sd_br
        (sd_br
         (sd_lf (sd_iload (by decide +kernel : decode prog_9_method_39_code 72 = .ok (.iload 6, 2))))
         (sd_br
          (sd_lf (sd_iconst (by decide +kernel : decode prog_9_method_39_code 74 = .ok (.iconst 0, 1)) (by decide +kernel)))
          (sd_lf (sd_pureS (sd_callS (by decide +kernel : decode prog_9_method_39_code 75 = .ok (.invokestatic 73, 3)) ok_Mo_map (gm 1020 (by decide +kernel) rfl) (gm 1021 (by decide +kernel) rfl) (by decide +kernel) rfl rfl) c_Mo_map))))
        (sd_br
         (sd_br
          (sd_lf (sd_iload_n (k := 2) (by decide +kernel : decode prog_9_method_39_code 78 = .ok (.iload_n 2, 1))))
          (sd_lf (sd_iastore (by decide +kernel : decode prog_9_method_39_code 79 = .ok (.iastore, 1)))))
         (sd_br
          (sd_lf (sd_aload_n (k := 0) (by decide +kernel : decode prog_9_method_39_code 80 = .ok (.aload_n 0, 1))))
          (sd_lf (sd_getf (q := (RX7, TX7, 16)) (by decide +kernel : decode prog_9_method_39_code 81 = .ok (.getfield 7, 3)) rfl (by decide +kernel) (gm 913 (by decide +kernel) rfl)))))))))
    (sd_br
     (sd_br
      (sd_br
       (sd_br
        (sd_br
         (sd_lf (sd_iload_n (k := 1) (by decide +kernel : decode prog_9_method_39_code 84 = .ok (.iload_n 1, 1))))
         (sd_br
          (sd_lf (sd_iload (by decide +kernel : decode prog_9_method_39_code 85 = .ok (.iload 6, 2))))
          (sd_lf (sd_iconst (by decide +kernel : decode prog_9_method_39_code 87 = .ok (.iconst 1, 1)) (by decide +kernel)))))
        (sd_br
         (sd_lf (sd_pureS (sd_callS (by decide +kernel : decode prog_9_method_39_code 88 = .ok (.invokestatic 73, 3)) ok_Mo_map (gm 1020 (by decide +kernel) rfl) (gm 1021 (by decide +kernel) rfl) (by decide +kernel) rfl rfl) c_Mo_map))
         (sd_br
          (sd_lf (sd_iload_n (k := 3) (by decide +kernel : decode prog_9_method_39_code 91 = .ok (.iload_n 3, 1))))
          (sd_lf (sd_iastore (by decide +kernel : decode prog_9_method_39_code 92 = .ok (.iastore, 1)))))))
       (sd_br
        (sd_br
         (sd_lf (sd_aload_n (k := 0) (by decide +kernel : decode prog_9_method_39_code 93 = .ok (.aload_n 0, 1))))
         (sd_br
          (sd_lf (sd_getf (q := (RX7, TX7, 16)) (by decide +kernel : decode prog_9_method_39_code 94 = .ok (.getfield 7, 3)) rfl (by decide +kernel) (gm 913 (by decide +kernel) rfl)))
          (sd_lf (sd_iload_n (k := 1) (by decide +kernel : decode prog_9_method_39_code 97 = .ok (.iload_n 1, 1))))))
        (sd_br
         (sd_lf (sd_iload (by decide +kernel : decode prog_9_method_39_code 98 = .ok (.iload 6, 2))))
         (sd_br
          (sd_lf (sd_iconst (by decide +kernel : decode prog_9_method_39_code 100 = .ok (.iconst 2, 1)) (by decide +kernel)))
          (sd_lf (sd_pureS (sd_callS (by decide +kernel : decode prog_9_method_39_code 101 = .ok (.invokestatic 73, 3)) ok_Mo_map (gm 1020 (by decide +kernel) rfl) (gm 1021 (by decide +kernel) rfl) (by decide +kernel) rfl rfl) c_Mo_map))))))
      (sd_br
       (sd_br
        (sd_br
         (sd_lf (sd_iload (by decide +kernel : decode prog_9_method_39_code 104 = .ok (.iload 7, 2))))
         (sd_br
          (sd_lf (sd_iastore (by decide +kernel : decode prog_9_method_39_code 106 = .ok (.iastore, 1))))
          (sd_lf (sd_aload_n (k := 0) (by decide +kernel : decode prog_9_method_39_code 107 = .ok (.aload_n 0, 1))))))
        (sd_br
         (sd_lf (sd_getf (q := (RX7, TX7, 16)) (by decide +kernel : decode prog_9_method_39_code 108 = .ok (.getfield 7, 3)) rfl (by decide +kernel) (gm 913 (by decide +kernel) rfl)))
         (sd_br
          (sd_lf (sd_iload_n (k := 1) (by decide +kernel : decode prog_9_method_39_code 111 = .ok (.iload_n 1, 1))))
          (sd_lf (sd_iload (by decide +kernel : decode prog_9_method_39_code 112 = .ok (.iload 6, 2)))))))
       (sd_br
        (sd_br
         (sd_lf (sd_iconst (by decide +kernel : decode prog_9_method_39_code 114 = .ok (.iconst 3, 1)) (by decide +kernel)))
         (sd_br
          (sd_lf (sd_pureS (sd_callS (by decide +kernel : decode prog_9_method_39_code 115 = .ok (.invokestatic 73, 3)) ok_Mo_map (gm 1020 (by decide +kernel) rfl) (gm 1021 (by decide +kernel) rfl) (by decide +kernel) rfl rfl) c_Mo_map))
          (sd_lf (sd_iload (by decide +kernel : decode prog_9_method_39_code 118 = .ok (.iload 8, 2))))))
        (sd_br
         (sd_lf (sd_if_ne (by decide +kernel : decode prog_9_method_39_code 120 = .ok (.ifCond .ne 7, 3)) (by decide +kernel)))
         (sd_br
          (sd_lf (sd_iconst (by decide +kernel : decode prog_9_method_39_code 123 = .ok (.iconst (-1), 1)) (by decide +kernel)))
          (sd_lf (sd_goto (by decide +kernel : decode prog_9_method_39_code 124 = .ok (.goto 5, 3)) (by decide +kernel))))))))
     (sd_br
      (sd_br
       (sd_br
        (sd_br
         (sd_lf (sd_iload (by decide +kernel : decode prog_9_method_39_code 127 = .ok (.iload 4, 2))))
         (sd_br
          (sd_lf (sd_iastore (by decide +kernel : decode prog_9_method_39_code 129 = .ok (.iastore, 1))))
          (sd_lf (sd_aload_n (k := 0) (by decide +kernel : decode prog_9_method_39_code 130 = .ok (.aload_n 0, 1))))))
        (sd_br
         (sd_lf (sd_getf (q := (RX7, TX7, 16)) (by decide +kernel : decode prog_9_method_39_code 131 = .ok (.getfield 7, 3)) rfl (by decide +kernel) (gm 913 (by decide +kernel) rfl)))
         (sd_br
          (sd_lf (sd_iload_n (k := 1) (by decide +kernel : decode prog_9_method_39_code 134 = .ok (.iload_n 1, 1))))
          (sd_lf (sd_iload (by decide +kernel : decode prog_9_method_39_code 135 = .ok (.iload 6, 2)))))))
       (sd_br
        (sd_br
         (sd_lf (sd_iconst (by decide +kernel : decode prog_9_method_39_code 137 = .ok (.iconst 4, 1)) (by decide +kernel)))
         (sd_br
          (sd_lf (sd_pureS (sd_callS (by decide +kernel : decode prog_9_method_39_code 138 = .ok (.invokestatic 73, 3)) ok_Mo_map (gm 1020 (by decide +kernel) rfl) (gm 1021 (by decide +kernel) rfl) (by decide +kernel) rfl rfl) c_Mo_map))
          (sd_lf (sd_iload (by decide +kernel : decode prog_9_method_39_code 141 = .ok (.iload 8, 2))))))
        (sd_br
         (sd_lf (sd_iconst (by decide +kernel : decode prog_9_method_39_code 143 = .ok (.iconst 2, 1)) (by decide +kernel)))
         (sd_br
          (sd_lf (sd_icmp_ge (by decide +kernel : decode prog_9_method_39_code 144 = .ok (.if_icmp .ge 7, 3)) (by decide +kernel)))
          (sd_lf (sd_iconst (by decide +kernel : decode prog_9_method_39_code 147 = .ok (.iconst (-1), 1)) (by decide +kernel)))))))
      (sd_br
       (sd_br
        (sd_br
         (sd_lf (sd_goto (by decide +kernel : decode prog_9_method_39_code 148 = .ok (.goto 5, 3)) (by decide +kernel)))
         (sd_br
          (sd_lf (sd_iload (by decide +kernel : decode prog_9_method_39_code 151 = .ok (.iload 5, 2))))
          (sd_lf (sd_iastore (by decide +kernel : decode prog_9_method_39_code 153 = .ok (.iastore, 1))))))
        (sd_br
         (sd_lf (sd_aload_n (k := 0) (by decide +kernel : decode prog_9_method_39_code 154 = .ok (.aload_n 0, 1))))
         (sd_br
          (sd_lf (sd_getf (q := (RX7, TX7, 16)) (by decide +kernel : decode prog_9_method_39_code 155 = .ok (.getfield 7, 3)) rfl (by decide +kernel) (gm 913 (by decide +kernel) rfl)))
          (sd_lf (sd_iload_n (k := 1) (by decide +kernel : decode prog_9_method_39_code 158 = .ok (.iload_n 1, 1)))))))
       (sd_br
        (sd_br
         (sd_lf (sd_iload (by decide +kernel : decode prog_9_method_39_code 159 = .ok (.iload 6, 2))))
         (sd_br
          (sd_lf (sd_bipush (by decide +kernel : decode prog_9_method_39_code 161 = .ok (.bipush 6, 2)) (by decide +kernel)))
          (sd_lf (sd_pureS (sd_callS (by decide +kernel : decode prog_9_method_39_code 163 = .ok (.invokestatic 73, 3)) ok_Mo_map (gm 1020 (by decide +kernel) rfl) (gm 1021 (by decide +kernel) rfl) (by decide +kernel) rfl rfl) c_Mo_map))))
        (sd_br
         (sd_br
          (sd_lf (sd_iconst (by decide +kernel : decode prog_9_method_39_code 166 = .ok (.iconst 0, 1)) (by decide +kernel)))
          (sd_lf (sd_iastore (by decide +kernel : decode prog_9_method_39_code 167 = .ok (.iastore, 1)))))
         (sd_br
          (sd_lf (sd_iload (by decide +kernel : decode prog_9_method_39_code 168 = .ok (.iload 6, 2))))
          (sd_lf (sd_iret (by decide +kernel : decode prog_9_method_39_code 170 = .ok (.ireturn, 1)) rfl)))))))))
/-- where contact k of mapping m of t lies -/
abbrev cA (t m k : Nat) : Nat := 816 + 2 * (8 * (8 * t + m) + k)
/-- the contacts from the r-th on, but (n, p), moved down to the w-th -/
def cmp0 (t m : Nat) (n p : Int32) : Nat → Nat → Nat → (Nat → Int32) → (Nat → Int32) × Nat
  | 0, _, w, z => (z, w)
  | f + 1, r, w, z => if z (cA t m r) = n ∧ z (cA t m r + 1) = p then cmp0 t m n p f (r + 1) w z else cmp0 t m n p f (r + 1) (w + 1) (upd (upd z (cA t m w) (z (cA t m r))) (cA t m w + 1) (z (cA t m r + 1)))
theorem cmp0_le {t m : Nat} {n p : Int32} : ∀ (f r w : Nat) (z : Nat → Int32), (cmp0 t m n p f r w z).2 ≤ w + f := by
  intro f
  induction f with
  | zero => exact fun r w z => Nat.le_refl _
  | succ f ih =>
    intro r w z
    rw [cmp0]
    split
    · have := ih (r + 1) w z
      omega
    · have := ih (r + 1) (w + 1) (upd (upd z (cA t m w) (z (cA t m r))) (cA t m w + 1) (z (cA t m r + 1)))
      omega
/-- the contacts moved down by one, from word k on -/
def shl0 (z : Nat → Int32) (t m k j : Nat) : Int32 := if cA t m 0 + k ≤ j + 2 ∧ j < cA t m 0 + 14 then z (j + 2) else z j
theorem shl_end (z : Nat → Int32) (t m : Nat) : shl0 z t m 16 = z := by
  funext j
  unfold shl0
  rw [if_neg (by omega)]
theorem shl_step (z : Nat → Int32) {t m k q p : Nat} (hk : k < 16) (hk2 : 2 ≤ k) (hq : q = cA t m 0 + k - 2) (hp : p = cA t m 0 + k) : shl0 (upd z q (z p)) t m (k + 1) = shl0 z t m k := by
  subst hq hp
  funext j
  unfold shl0
  by_cases e : j = cA t m 0 + k - 2
  · subst e
    rw [if_neg (by omega), if_pos (by omega), upd_eq rfl]
    exact congrArg z (by omega)
  · by_cases c : cA t m 0 + k ≤ j + 2 ∧ j < cA t m 0 + 14
    · rw [if_pos c, if_pos (by omega), upd_ne (by omega)]
    · rw [if_neg c, if_neg (by omega), upd_ne e]
/-- the contact (n, p) put down as the w-th, and counted -/
def putC (z : Nat → Int32) (t m w : Nat) (n p : Int32) : Nat → Int32 := upd (upd (upd z (cA t m w) n) (cA t m w + 1) p) (176 + 8 * (8 * t + m) + 6) (nI (w + 1))
def meeZ (z : Nat → Int32) (t m c : Nat) (n p : Int32) : Nat → Int32 :=
  if (cmp0 t m n p c 0 0 z).2 = 8 then putC (shl0 (cmp0 t m n p c 0 0 z).1 t m 2) t m 7 n p else putC (cmp0 t m n p c 0 0 z).1 t m (cmp0 t m n p c 0 0 z).2 n p
section
variable {l : Launch} {G : Gc}
theorem lp_meet1 {a zr t m c : Nat} {n p : Int32} {h : AH} {Q : Po} (hm : MoS h a zr) (ht : t < 10) (hmm : m < 8) (hc : c ≤ 8) : ∀ (f r w : Nat) (g : Nat → Int32) (v8 v9 v10 v11 : Option Value), r + f = c → w ≤ r → (∀ v8 v9 v10 v11 : Option Value, AWp l G M_Mo_meet 119 [some (.ref a), some (.int (nI t)), some (.int (nI m)), some (.int n), some (.int p), some (.int (nI c)), some (.int (nI (cmp0 t m n p f r w g).2)), some (.int (nI c)), v8, v9, v10, v11] [] (zw h zr (cmp0 t m n p f r w g).1) Q) → AWp l G M_Mo_meet 20 [some (.ref a), some (.int (nI t)), some (.int (nI m)), some (.int n), some (.int p), some (.int (nI c)), some (.int (nI w)), some (.int (nI r)), v8, v9, v10, v11] [] (zw h zr g) Q := by
  obtain ⟨h1, h2, h3, h4⟩ := id hm
  intro f
  induction f with
  | zero =>
    intro r w g v8 v9 v10 v11 e hw hQ
    have ec : c = r := by omega
    subst ec
    (obtain ⟨W9, hW9, hgo9⟩ := wp_ex (T_Mo_meet l G) [20, 119] _; refine hgo9 200 _ _ _ _ ?_; simp -implicitDefEqProofs (disch := omega) only [hW9, inl, gate, Xq, tz_const, tz_iload, tz_lload, tz_dload, tz_aload, tz_istore, tz_astore, tz_lstore, tz_dstore, tz_iinc, tz_i1, tz_i2, tz_i2z, tz_l2, tz_l2z, tz_i2l, tz_l2i, tz_lcmp, tz_i2d, tz_d2, tz_dcmp, tz_dup, tz_dup2, tz_pop, tz_if, tz_icmp, tz_null, tz_goto, tz_sw, tz_getf, tz_puti, tz_putz, tz_putr, tz_putl, tz_iaload, tz_baload, tz_laload, tz_aaload, tz_iastore, tz_bastore, tz_lastore, tz_aastore, tz_alen, tz_new, tz_newa, tz_oinit, tz_iret, tz_zret, tz_lret, tz_dret, tz_aret, tz_vret, tz_throw, tz_callS, tz_callV, tz_callI, tz_callR, tz_pureS, tz_pureV, tz_callVH, lg, lset, lkill, lst1, lst2, entL, isRf, is1, vl, va_rf_none, va_rf_some, isRf_rf, is1_rf, i0, i1, bI_eq0, bI_eq1, nm_em, nI_eqP, nI_leP, nI_ltP, nN_e1, nN_e2, nN_l1, nN_l2, nN_l3, nN_l4, nI_add, pk_mul, vp_inN, nI_cl, n01, n10, P_i, P_ii, P_iii, f_Mo_at, f_Mo_map, f_Mo_contact, f_Mo_within, f_Mo_isPort, f_Hp_endpoint, f_Hp_nodeOf, f_Hp_portOf, f_Ma_max, f_Ma_min, f_Hp_isSetting, popN, rok, a1, noX, swc, mL, if_true, if_false, ↓reduceIte, cond_true, cond_false, true_and, and_true, List.length_cons, List.length_nil, List.nil_append, List.cons_append, List.append_nil, Option.toList, Nat.reduceEqDiff, Bool.false_eq_true, reduceCtorEq, Nat.reduceAdd, Nat.reduceLT, Nat.reduceLeDiff, Nat.reduceSub, List.replicate, Nat.zero_add, Nat.lt_add_one, Nat.le_refl, Nat.zero_le, Nat.succ_ne_zero, not_false_eq_true, not_true_eq_false, false_implies, true_implies, forall_const, imp_self, true_or, or_true, eq_self, sI_zw, zw_zw, hI_zw, tg_zw, ln_zw, hR_zw, hL_zw, hN_zw, hM_zw, upd_s, upd_u, upd_ne, Classical.not_not, k_Mo_meet, h1, h2, h3, h4]; try clear hgo9 hW9)
    exact hQ _ _ _ _
  | succ f ih =>
    intro r w g v8 v9 v10 v11 e hw hQ
    have hn : ¬ c ≤ r := by omega
    have keep : ∀ v8 v9 v10 v11 : Option Value, ¬ (g (cA t m r) = n ∧ g (cA t m r + 1) = p) → v8 = some (.int (nI (816 + 2 * (8 * (8 * t + m) + r)))) → AWp l G M_Mo_meet 61 [some (.ref a), some (.int (nI t)), some (.int (nI m)), some (.int n), some (.int p), some (.int (nI c)), some (.int (nI w)), some (.int (nI r)), v8, v9, v10, v11] [] (zw h zr g) Q := by
      intro v8 v9 v10 v11 c1 e8
      subst e8
      (obtain ⟨W9, hW9, hgo9⟩ := wp_ex (T_Mo_meet l G) [20, 99, 119] _; refine hgo9 200 _ _ _ _ ?_; simp -implicitDefEqProofs (disch := omega) only [hW9, inl, gate, Xq, tz_const, tz_iload, tz_lload, tz_dload, tz_aload, tz_istore, tz_astore, tz_lstore, tz_dstore, tz_iinc, tz_i1, tz_i2, tz_i2z, tz_l2, tz_l2z, tz_i2l, tz_l2i, tz_lcmp, tz_i2d, tz_d2, tz_dcmp, tz_dup, tz_dup2, tz_pop, tz_if, tz_icmp, tz_null, tz_goto, tz_sw, tz_getf, tz_puti, tz_putz, tz_putr, tz_putl, tz_iaload, tz_baload, tz_laload, tz_aaload, tz_iastore, tz_bastore, tz_lastore, tz_aastore, tz_alen, tz_new, tz_newa, tz_oinit, tz_iret, tz_zret, tz_lret, tz_dret, tz_aret, tz_vret, tz_throw, tz_callS, tz_callV, tz_callI, tz_callR, tz_pureS, tz_pureV, tz_callVH, lg, lset, lkill, lst1, lst2, entL, isRf, is1, vl, va_rf_none, va_rf_some, isRf_rf, is1_rf, i0, i1, bI_eq0, bI_eq1, nm_em, nI_eqP, nI_leP, nI_ltP, nN_e1, nN_e2, nN_l1, nN_l2, nN_l3, nN_l4, nI_add, pk_mul, vp_inN, nI_cl, n01, n10, P_i, P_ii, P_iii, f_Mo_at, f_Mo_map, f_Mo_contact, f_Mo_within, f_Mo_isPort, f_Hp_endpoint, f_Hp_nodeOf, f_Hp_portOf, f_Ma_max, f_Ma_min, f_Hp_isSetting, popN, rok, a1, noX, swc, mL, if_true, if_false, ↓reduceIte, cond_true, cond_false, true_and, and_true, List.length_cons, List.length_nil, List.nil_append, List.cons_append, List.append_nil, Option.toList, Nat.reduceEqDiff, Bool.false_eq_true, reduceCtorEq, Nat.reduceAdd, Nat.reduceLT, Nat.reduceLeDiff, Nat.reduceSub, List.replicate, Nat.zero_add, Nat.lt_add_one, Nat.le_refl, Nat.zero_le, Nat.succ_ne_zero, not_false_eq_true, not_true_eq_false, false_implies, true_implies, forall_const, imp_self, true_or, or_true, eq_self, sI_zw, zw_zw, hI_zw, tg_zw, ln_zw, hR_zw, hL_zw, hN_zw, hM_zw, upd_s, upd_u, upd_ne, Classical.not_not, k_Mo_meet, h1, h2, h3, h4]; try clear hgo9 hW9)
      (obtain ⟨W9, hW9, hgo9⟩ := wp_ex (T_Mo_meet l G) [20, 119] _; refine hgo9 200 _ _ _ _ ?_; simp -implicitDefEqProofs (disch := omega) only [hW9, inl, gate, Xq, tz_const, tz_iload, tz_lload, tz_dload, tz_aload, tz_istore, tz_astore, tz_lstore, tz_dstore, tz_iinc, tz_i1, tz_i2, tz_i2z, tz_l2, tz_l2z, tz_i2l, tz_l2i, tz_lcmp, tz_i2d, tz_d2, tz_dcmp, tz_dup, tz_dup2, tz_pop, tz_if, tz_icmp, tz_null, tz_goto, tz_sw, tz_getf, tz_puti, tz_putz, tz_putr, tz_putl, tz_iaload, tz_baload, tz_laload, tz_aaload, tz_iastore, tz_bastore, tz_lastore, tz_aastore, tz_alen, tz_new, tz_newa, tz_oinit, tz_iret, tz_zret, tz_lret, tz_dret, tz_aret, tz_vret, tz_throw, tz_callS, tz_callV, tz_callI, tz_callR, tz_pureS, tz_pureV, tz_callVH, lg, lset, lkill, lst1, lst2, entL, isRf, is1, vl, va_rf_none, va_rf_some, isRf_rf, is1_rf, i0, i1, bI_eq0, bI_eq1, nm_em, nI_eqP, nI_leP, nI_ltP, nN_e1, nN_e2, nN_l1, nN_l2, nN_l3, nN_l4, nI_add, pk_mul, vp_inN, nI_cl, n01, n10, P_i, P_ii, P_iii, f_Mo_at, f_Mo_map, f_Mo_contact, f_Mo_within, f_Mo_isPort, f_Hp_endpoint, f_Hp_nodeOf, f_Hp_portOf, f_Ma_max, f_Ma_min, f_Hp_isSetting, popN, rok, a1, noX, swc, mL, if_true, if_false, ↓reduceIte, cond_true, cond_false, true_and, and_true, List.length_cons, List.length_nil, List.nil_append, List.cons_append, List.append_nil, Option.toList, Nat.reduceEqDiff, Bool.false_eq_true, reduceCtorEq, Nat.reduceAdd, Nat.reduceLT, Nat.reduceLeDiff, Nat.reduceSub, List.replicate, Nat.zero_add, Nat.lt_add_one, Nat.le_refl, Nat.zero_le, Nat.succ_ne_zero, not_false_eq_true, not_true_eq_false, false_implies, true_implies, forall_const, imp_self, true_or, or_true, eq_self, sI_zw, zw_zw, hI_zw, tg_zw, ln_zw, hR_zw, hL_zw, hN_zw, hM_zw, upd_s, upd_u, upd_ne, Classical.not_not, k_Mo_meet, h1, h2, h3, h4]; try clear hgo9 hW9)
      refine ih (r + 1) (w + 1) _ _ _ _ _ (by omega) (by omega) ?_
      rw [cmp0, if_neg c1] at hQ
      exact hQ
    ((obtain ⟨W9, hW9, hgo9⟩ := wp_ex (T_Mo_meet l G) [20, 119, 61] _; refine hgo9 200 _ _ _ _ ?_; simp -implicitDefEqProofs (disch := omega) only [hW9, inl, gate, Xq, tz_const, tz_iload, tz_lload, tz_dload, tz_aload, tz_istore, tz_astore, tz_lstore, tz_dstore, tz_iinc, tz_i1, tz_i2, tz_i2z, tz_l2, tz_l2z, tz_i2l, tz_l2i, tz_lcmp, tz_i2d, tz_d2, tz_dcmp, tz_dup, tz_dup2, tz_pop, tz_if, tz_icmp, tz_null, tz_goto, tz_sw, tz_getf, tz_puti, tz_putz, tz_putr, tz_putl, tz_iaload, tz_baload, tz_laload, tz_aaload, tz_iastore, tz_bastore, tz_lastore, tz_aastore, tz_alen, tz_new, tz_newa, tz_oinit, tz_iret, tz_zret, tz_lret, tz_dret, tz_aret, tz_vret, tz_throw, tz_callS, tz_callV, tz_callI, tz_callR, tz_pureS, tz_pureV, tz_callVH, lg, lset, lkill, lst1, lst2, entL, isRf, is1, vl, va_rf_none, va_rf_some, isRf_rf, is1_rf, i0, i1, bI_eq0, bI_eq1, nm_em, nI_eqP, nI_leP, nI_ltP, nN_e1, nN_e2, nN_l1, nN_l2, nN_l3, nN_l4, nI_add, pk_mul, vp_inN, nI_cl, n01, n10, P_i, P_ii, P_iii, f_Mo_at, f_Mo_map, f_Mo_contact, f_Mo_within, f_Mo_isPort, f_Hp_endpoint, f_Hp_nodeOf, f_Hp_portOf, f_Ma_max, f_Ma_min, f_Hp_isSetting, popN, rok, a1, noX, swc, mL, if_true, if_false, ↓reduceIte, cond_true, cond_false, true_and, and_true, List.length_cons, List.length_nil, List.nil_append, List.cons_append, List.append_nil, Option.toList, Nat.reduceEqDiff, Bool.false_eq_true, reduceCtorEq, Nat.reduceAdd, Nat.reduceLT, Nat.reduceLeDiff, Nat.reduceSub, List.replicate, Nat.zero_add, Nat.lt_add_one, Nat.le_refl, Nat.zero_le, Nat.succ_ne_zero, not_false_eq_true, not_true_eq_false, false_implies, true_implies, forall_const, imp_self, true_or, or_true, eq_self, sI_zw, zw_zw, hI_zw, tg_zw, ln_zw, hR_zw, hL_zw, hN_zw, hM_zw, upd_s, upd_u, upd_ne, Classical.not_not, k_Mo_meet, h1, h2, h3, h4, hn]; try clear hgo9 hW9); try (obtain ⟨W9, hW9, hgo9⟩ := wp_ex (T_Mo_meet l G) [20, 119, 61] _; refine hgo9 200 _ _ _ _ ?_; simp -implicitDefEqProofs (disch := omega) only [hW9, inl, gate, Xq, tz_const, tz_iload, tz_lload, tz_dload, tz_aload, tz_istore, tz_astore, tz_lstore, tz_dstore, tz_iinc, tz_i1, tz_i2, tz_i2z, tz_l2, tz_l2z, tz_i2l, tz_l2i, tz_lcmp, tz_i2d, tz_d2, tz_dcmp, tz_dup, tz_dup2, tz_pop, tz_if, tz_icmp, tz_null, tz_goto, tz_sw, tz_getf, tz_puti, tz_putz, tz_putr, tz_putl, tz_iaload, tz_baload, tz_laload, tz_aaload, tz_iastore, tz_bastore, tz_lastore, tz_aastore, tz_alen, tz_new, tz_newa, tz_oinit, tz_iret, tz_zret, tz_lret, tz_dret, tz_aret, tz_vret, tz_throw, tz_callS, tz_callV, tz_callI, tz_callR, tz_pureS, tz_pureV, tz_callVH, lg, lset, lkill, lst1, lst2, entL, isRf, is1, vl, va_rf_none, va_rf_some, isRf_rf, is1_rf, i0, i1, bI_eq0, bI_eq1, nm_em, nI_eqP, nI_leP, nI_ltP, nN_e1, nN_e2, nN_l1, nN_l2, nN_l3, nN_l4, nI_add, pk_mul, vp_inN, nI_cl, n01, n10, P_i, P_ii, P_iii, f_Mo_at, f_Mo_map, f_Mo_contact, f_Mo_within, f_Mo_isPort, f_Hp_endpoint, f_Hp_nodeOf, f_Hp_portOf, f_Ma_max, f_Ma_min, f_Hp_isSetting, popN, rok, a1, noX, swc, mL, if_true, if_false, ↓reduceIte, cond_true, cond_false, true_and, and_true, List.length_cons, List.length_nil, List.nil_append, List.cons_append, List.append_nil, Option.toList, Nat.reduceEqDiff, Bool.false_eq_true, reduceCtorEq, Nat.reduceAdd, Nat.reduceLT, Nat.reduceLeDiff, Nat.reduceSub, List.replicate, Nat.zero_add, Nat.lt_add_one, Nat.le_refl, Nat.zero_le, Nat.succ_ne_zero, not_false_eq_true, not_true_eq_false, false_implies, true_implies, forall_const, imp_self, true_or, or_true, eq_self, sI_zw, zw_zw, hI_zw, tg_zw, ln_zw, hR_zw, hL_zw, hN_zw, hM_zw, upd_s, upd_u, upd_ne, Classical.not_not, k_Mo_meet, h1, h2, h3, h4, hn]; try clear hgo9 hW9))
    refine ⟨fun c1 => ?_, fun c1 => ?_⟩
    · exact keep _ _ _ _ (fun q => c1 q.1) rfl
    · (obtain ⟨W9, hW9, hgo9⟩ := wp_ex (T_Mo_meet l G) [20, 119, 61] _; refine hgo9 200 _ _ _ _ ?_; simp -implicitDefEqProofs (disch := omega) only [hW9, inl, gate, Xq, tz_const, tz_iload, tz_lload, tz_dload, tz_aload, tz_istore, tz_astore, tz_lstore, tz_dstore, tz_iinc, tz_i1, tz_i2, tz_i2z, tz_l2, tz_l2z, tz_i2l, tz_l2i, tz_lcmp, tz_i2d, tz_d2, tz_dcmp, tz_dup, tz_dup2, tz_pop, tz_if, tz_icmp, tz_null, tz_goto, tz_sw, tz_getf, tz_puti, tz_putz, tz_putr, tz_putl, tz_iaload, tz_baload, tz_laload, tz_aaload, tz_iastore, tz_bastore, tz_lastore, tz_aastore, tz_alen, tz_new, tz_newa, tz_oinit, tz_iret, tz_zret, tz_lret, tz_dret, tz_aret, tz_vret, tz_throw, tz_callS, tz_callV, tz_callI, tz_callR, tz_pureS, tz_pureV, tz_callVH, lg, lset, lkill, lst1, lst2, entL, isRf, is1, vl, va_rf_none, va_rf_some, isRf_rf, is1_rf, i0, i1, bI_eq0, bI_eq1, nm_em, nI_eqP, nI_leP, nI_ltP, nN_e1, nN_e2, nN_l1, nN_l2, nN_l3, nN_l4, nI_add, pk_mul, vp_inN, nI_cl, n01, n10, P_i, P_ii, P_iii, f_Mo_at, f_Mo_map, f_Mo_contact, f_Mo_within, f_Mo_isPort, f_Hp_endpoint, f_Hp_nodeOf, f_Hp_portOf, f_Ma_max, f_Ma_min, f_Hp_isSetting, popN, rok, a1, noX, swc, mL, if_true, if_false, ↓reduceIte, cond_true, cond_false, true_and, and_true, List.length_cons, List.length_nil, List.nil_append, List.cons_append, List.append_nil, Option.toList, Nat.reduceEqDiff, Bool.false_eq_true, reduceCtorEq, Nat.reduceAdd, Nat.reduceLT, Nat.reduceLeDiff, Nat.reduceSub, List.replicate, Nat.zero_add, Nat.lt_add_one, Nat.le_refl, Nat.zero_le, Nat.succ_ne_zero, not_false_eq_true, not_true_eq_false, false_implies, true_implies, forall_const, imp_self, true_or, or_true, eq_self, sI_zw, zw_zw, hI_zw, tg_zw, ln_zw, hR_zw, hL_zw, hN_zw, hM_zw, upd_s, upd_u, upd_ne, Classical.not_not, k_Mo_meet, h1, h2, h3, h4]; try clear hgo9 hW9)
      refine ⟨fun c2 => ?_, fun c2 => ?_⟩
      · (obtain ⟨W9, hW9, hgo9⟩ := wp_ex (T_Mo_meet l G) [20, 119, 61] _; refine hgo9 200 _ _ _ _ ?_; simp -implicitDefEqProofs (disch := omega) only [hW9, inl, gate, Xq, tz_const, tz_iload, tz_lload, tz_dload, tz_aload, tz_istore, tz_astore, tz_lstore, tz_dstore, tz_iinc, tz_i1, tz_i2, tz_i2z, tz_l2, tz_l2z, tz_i2l, tz_l2i, tz_lcmp, tz_i2d, tz_d2, tz_dcmp, tz_dup, tz_dup2, tz_pop, tz_if, tz_icmp, tz_null, tz_goto, tz_sw, tz_getf, tz_puti, tz_putz, tz_putr, tz_putl, tz_iaload, tz_baload, tz_laload, tz_aaload, tz_iastore, tz_bastore, tz_lastore, tz_aastore, tz_alen, tz_new, tz_newa, tz_oinit, tz_iret, tz_zret, tz_lret, tz_dret, tz_aret, tz_vret, tz_throw, tz_callS, tz_callV, tz_callI, tz_callR, tz_pureS, tz_pureV, tz_callVH, lg, lset, lkill, lst1, lst2, entL, isRf, is1, vl, va_rf_none, va_rf_some, isRf_rf, is1_rf, i0, i1, bI_eq0, bI_eq1, nm_em, nI_eqP, nI_leP, nI_ltP, nN_e1, nN_e2, nN_l1, nN_l2, nN_l3, nN_l4, nI_add, pk_mul, vp_inN, nI_cl, n01, n10, P_i, P_ii, P_iii, f_Mo_at, f_Mo_map, f_Mo_contact, f_Mo_within, f_Mo_isPort, f_Hp_endpoint, f_Hp_nodeOf, f_Hp_portOf, f_Ma_max, f_Ma_min, f_Hp_isSetting, popN, rok, a1, noX, swc, mL, if_true, if_false, ↓reduceIte, cond_true, cond_false, true_and, and_true, List.length_cons, List.length_nil, List.nil_append, List.cons_append, List.append_nil, Option.toList, Nat.reduceEqDiff, Bool.false_eq_true, reduceCtorEq, Nat.reduceAdd, Nat.reduceLT, Nat.reduceLeDiff, Nat.reduceSub, List.replicate, Nat.zero_add, Nat.lt_add_one, Nat.le_refl, Nat.zero_le, Nat.succ_ne_zero, not_false_eq_true, not_true_eq_false, false_implies, true_implies, forall_const, imp_self, true_or, or_true, eq_self, sI_zw, zw_zw, hI_zw, tg_zw, ln_zw, hR_zw, hL_zw, hN_zw, hM_zw, upd_s, upd_u, upd_ne, Classical.not_not, k_Mo_meet, h1, h2, h3, h4]; try clear hgo9 hW9)
        refine ih (r + 1) w _ _ _ _ _ (by omega) (by omega) ?_
        rw [cmp0, if_pos ⟨c1, c2⟩] at hQ
        exact hQ
      · exact keep _ _ _ _ (fun q => c2 q.2) rfl
theorem lp_meet2 {a zr t m : Nat} {n p x5 : Int32} {w : Nat} {v8 v9 v10 v11 : Option Value} {h : AH} {Q : Po} (hm : MoS h a zr) (ht : t < 10) (hmm : m < 8) : ∀ (d k : Nat) (g : Nat → Int32), k + d = 16 → 2 ≤ k → AWp l G M_Mo_meet 172 [some (.ref a), some (.int (nI t)), some (.int (nI m)), some (.int n), some (.int p), some (.int x5), some (.int (nI w)), some (.int (nI 16)), v8, v9, v10, v11] [] (zw h zr (shl0 g t m k)) Q → AWp l G M_Mo_meet 129 [some (.ref a), some (.int (nI t)), some (.int (nI m)), some (.int n), some (.int p), some (.int x5), some (.int (nI w)), some (.int (nI k)), v8, v9, v10, v11] [] (zw h zr g) Q := by
  obtain ⟨h1, h2, h3, h4⟩ := id hm
  intro d
  induction d with
  | zero =>
    intro k g e hk hQ
    have ek : k = 16 := by omega
    subst ek
    rw [shl_end] at hQ
    (obtain ⟨W9, hW9, hgo9⟩ := wp_ex (T_Mo_meet l G) [129, 172] _; refine hgo9 200 _ _ _ _ ?_; simp -implicitDefEqProofs (disch := omega) only [hW9, inl, gate, Xq, tz_const, tz_iload, tz_lload, tz_dload, tz_aload, tz_istore, tz_astore, tz_lstore, tz_dstore, tz_iinc, tz_i1, tz_i2, tz_i2z, tz_l2, tz_l2z, tz_i2l, tz_l2i, tz_lcmp, tz_i2d, tz_d2, tz_dcmp, tz_dup, tz_dup2, tz_pop, tz_if, tz_icmp, tz_null, tz_goto, tz_sw, tz_getf, tz_puti, tz_putz, tz_putr, tz_putl, tz_iaload, tz_baload, tz_laload, tz_aaload, tz_iastore, tz_bastore, tz_lastore, tz_aastore, tz_alen, tz_new, tz_newa, tz_oinit, tz_iret, tz_zret, tz_lret, tz_dret, tz_aret, tz_vret, tz_throw, tz_callS, tz_callV, tz_callI, tz_callR, tz_pureS, tz_pureV, tz_callVH, lg, lset, lkill, lst1, lst2, entL, isRf, is1, vl, va_rf_none, va_rf_some, isRf_rf, is1_rf, i0, i1, bI_eq0, bI_eq1, nm_em, nI_eqP, nI_leP, nI_ltP, nN_e1, nN_e2, nN_l1, nN_l2, nN_l3, nN_l4, nI_add, pk_mul, vp_inN, nI_cl, n01, n10, P_i, P_ii, P_iii, f_Mo_at, f_Mo_map, f_Mo_contact, f_Mo_within, f_Mo_isPort, f_Hp_endpoint, f_Hp_nodeOf, f_Hp_portOf, f_Ma_max, f_Ma_min, f_Hp_isSetting, popN, rok, a1, noX, swc, mL, if_true, if_false, ↓reduceIte, cond_true, cond_false, true_and, and_true, List.length_cons, List.length_nil, List.nil_append, List.cons_append, List.append_nil, Option.toList, Nat.reduceEqDiff, Bool.false_eq_true, reduceCtorEq, Nat.reduceAdd, Nat.reduceLT, Nat.reduceLeDiff, Nat.reduceSub, List.replicate, Nat.zero_add, Nat.lt_add_one, Nat.le_refl, Nat.zero_le, Nat.succ_ne_zero, not_false_eq_true, not_true_eq_false, false_implies, true_implies, forall_const, imp_self, true_or, or_true, eq_self, sI_zw, zw_zw, hI_zw, tg_zw, ln_zw, hR_zw, hL_zw, hN_zw, hM_zw, upd_s, upd_u, upd_ne, Classical.not_not, k_Mo_meet, h1, h2, h3, h4]; try clear hgo9 hW9)
    exact hQ
  | succ d ih =>
    intro k g e hk hQ
    have hn : ¬ 16 ≤ k := by omega
    ((obtain ⟨W9, hW9, hgo9⟩ := wp_ex (T_Mo_meet l G) [129, 172] _; refine hgo9 200 _ _ _ _ ?_; simp -implicitDefEqProofs (disch := omega) only [hW9, inl, gate, Xq, tz_const, tz_iload, tz_lload, tz_dload, tz_aload, tz_istore, tz_astore, tz_lstore, tz_dstore, tz_iinc, tz_i1, tz_i2, tz_i2z, tz_l2, tz_l2z, tz_i2l, tz_l2i, tz_lcmp, tz_i2d, tz_d2, tz_dcmp, tz_dup, tz_dup2, tz_pop, tz_if, tz_icmp, tz_null, tz_goto, tz_sw, tz_getf, tz_puti, tz_putz, tz_putr, tz_putl, tz_iaload, tz_baload, tz_laload, tz_aaload, tz_iastore, tz_bastore, tz_lastore, tz_aastore, tz_alen, tz_new, tz_newa, tz_oinit, tz_iret, tz_zret, tz_lret, tz_dret, tz_aret, tz_vret, tz_throw, tz_callS, tz_callV, tz_callI, tz_callR, tz_pureS, tz_pureV, tz_callVH, lg, lset, lkill, lst1, lst2, entL, isRf, is1, vl, va_rf_none, va_rf_some, isRf_rf, is1_rf, i0, i1, bI_eq0, bI_eq1, nm_em, nI_eqP, nI_leP, nI_ltP, nN_e1, nN_e2, nN_l1, nN_l2, nN_l3, nN_l4, nI_add, pk_mul, vp_inN, nI_cl, n01, n10, P_i, P_ii, P_iii, f_Mo_at, f_Mo_map, f_Mo_contact, f_Mo_within, f_Mo_isPort, f_Hp_endpoint, f_Hp_nodeOf, f_Hp_portOf, f_Ma_max, f_Ma_min, f_Hp_isSetting, popN, rok, a1, noX, swc, mL, if_true, if_false, ↓reduceIte, cond_true, cond_false, true_and, and_true, List.length_cons, List.length_nil, List.nil_append, List.cons_append, List.append_nil, Option.toList, Nat.reduceEqDiff, Bool.false_eq_true, reduceCtorEq, Nat.reduceAdd, Nat.reduceLT, Nat.reduceLeDiff, Nat.reduceSub, List.replicate, Nat.zero_add, Nat.lt_add_one, Nat.le_refl, Nat.zero_le, Nat.succ_ne_zero, not_false_eq_true, not_true_eq_false, false_implies, true_implies, forall_const, imp_self, true_or, or_true, eq_self, sI_zw, zw_zw, hI_zw, tg_zw, ln_zw, hR_zw, hL_zw, hN_zw, hM_zw, upd_s, upd_u, upd_ne, Classical.not_not, k_Mo_meet, h1, h2, h3, h4, hn, pk_sub]; try clear hgo9 hW9); try (obtain ⟨W9, hW9, hgo9⟩ := wp_ex (T_Mo_meet l G) [129, 172] _; refine hgo9 200 _ _ _ _ ?_; simp -implicitDefEqProofs (disch := omega) only [hW9, inl, gate, Xq, tz_const, tz_iload, tz_lload, tz_dload, tz_aload, tz_istore, tz_astore, tz_lstore, tz_dstore, tz_iinc, tz_i1, tz_i2, tz_i2z, tz_l2, tz_l2z, tz_i2l, tz_l2i, tz_lcmp, tz_i2d, tz_d2, tz_dcmp, tz_dup, tz_dup2, tz_pop, tz_if, tz_icmp, tz_null, tz_goto, tz_sw, tz_getf, tz_puti, tz_putz, tz_putr, tz_putl, tz_iaload, tz_baload, tz_laload, tz_aaload, tz_iastore, tz_bastore, tz_lastore, tz_aastore, tz_alen, tz_new, tz_newa, tz_oinit, tz_iret, tz_zret, tz_lret, tz_dret, tz_aret, tz_vret, tz_throw, tz_callS, tz_callV, tz_callI, tz_callR, tz_pureS, tz_pureV, tz_callVH, lg, lset, lkill, lst1, lst2, entL, isRf, is1, vl, va_rf_none, va_rf_some, isRf_rf, is1_rf, i0, i1, bI_eq0, bI_eq1, nm_em, nI_eqP, nI_leP, nI_ltP, nN_e1, nN_e2, nN_l1, nN_l2, nN_l3, nN_l4, nI_add, pk_mul, vp_inN, nI_cl, n01, n10, P_i, P_ii, P_iii, f_Mo_at, f_Mo_map, f_Mo_contact, f_Mo_within, f_Mo_isPort, f_Hp_endpoint, f_Hp_nodeOf, f_Hp_portOf, f_Ma_max, f_Ma_min, f_Hp_isSetting, popN, rok, a1, noX, swc, mL, if_true, if_false, ↓reduceIte, cond_true, cond_false, true_and, and_true, List.length_cons, List.length_nil, List.nil_append, List.cons_append, List.append_nil, Option.toList, Nat.reduceEqDiff, Bool.false_eq_true, reduceCtorEq, Nat.reduceAdd, Nat.reduceLT, Nat.reduceLeDiff, Nat.reduceSub, List.replicate, Nat.zero_add, Nat.lt_add_one, Nat.le_refl, Nat.zero_le, Nat.succ_ne_zero, not_false_eq_true, not_true_eq_false, false_implies, true_implies, forall_const, imp_self, true_or, or_true, eq_self, sI_zw, zw_zw, hI_zw, tg_zw, ln_zw, hR_zw, hL_zw, hN_zw, hM_zw, upd_s, upd_u, upd_ne, Classical.not_not, k_Mo_meet, h1, h2, h3, h4, hn, pk_sub]; try clear hgo9 hW9))
    refine ih (k + 1) _ (by omega) (by omega) ?_
    rw [shl_step g (by omega) hk rfl rfl]
    exact hQ
theorem c_Mo_meet (a zr t m c : Nat) (n p : Int32) (h : AH) (Q : Po) (hm : MoS h a zr) (ht : t < 10) (hmm : m < 8) (hc : hI h zr (176 + 8 * (8 * t + m) + 6) = nI c) (hc8 : c ≤ 8) (hQ : Q (.inl none) (zw h zr (meeZ (hI h zr) t m c n p))) : Call l G M_Mo_meet [.ref a, .int (nI t), .int (nI m), .int n, .int p] h Q := by
  obtain ⟨h1, h2, h3, h4⟩ := id hm
  refine call_of rfl rfl (Nat.le_of_ble_eq_true rfl) ?_
  (obtain ⟨W9, hW9, hgo9⟩ := wp_ex (T_Mo_meet l G) [20] _; refine hgo9 200 _ _ _ _ ?_; simp -implicitDefEqProofs (disch := omega) only [hW9, inl, gate, Xq, tz_const, tz_iload, tz_lload, tz_dload, tz_aload, tz_istore, tz_astore, tz_lstore, tz_dstore, tz_iinc, tz_i1, tz_i2, tz_i2z, tz_l2, tz_l2z, tz_i2l, tz_l2i, tz_lcmp, tz_i2d, tz_d2, tz_dcmp, tz_dup, tz_dup2, tz_pop, tz_if, tz_icmp, tz_null, tz_goto, tz_sw, tz_getf, tz_puti, tz_putz, tz_putr, tz_putl, tz_iaload, tz_baload, tz_laload, tz_aaload, tz_iastore, tz_bastore, tz_lastore, tz_aastore, tz_alen, tz_new, tz_newa, tz_oinit, tz_iret, tz_zret, tz_lret, tz_dret, tz_aret, tz_vret, tz_throw, tz_callS, tz_callV, tz_callI, tz_callR, tz_pureS, tz_pureV, tz_callVH, lg, lset, lkill, lst1, lst2, entL, isRf, is1, vl, va_rf_none, va_rf_some, isRf_rf, is1_rf, i0, i1, bI_eq0, bI_eq1, nm_em, nI_eqP, nI_leP, nI_ltP, nN_e1, nN_e2, nN_l1, nN_l2, nN_l3, nN_l4, nI_add, pk_mul, vp_inN, nI_cl, n01, n10, P_i, P_ii, P_iii, f_Mo_at, f_Mo_map, f_Mo_contact, f_Mo_within, f_Mo_isPort, f_Hp_endpoint, f_Hp_nodeOf, f_Hp_portOf, f_Ma_max, f_Ma_min, f_Hp_isSetting, popN, rok, a1, noX, swc, mL, if_true, if_false, ↓reduceIte, cond_true, cond_false, true_and, and_true, List.length_cons, List.length_nil, List.nil_append, List.cons_append, List.append_nil, Option.toList, Nat.reduceEqDiff, Bool.false_eq_true, reduceCtorEq, Nat.reduceAdd, Nat.reduceLT, Nat.reduceLeDiff, Nat.reduceSub, List.replicate, Nat.zero_add, Nat.lt_add_one, Nat.le_refl, Nat.zero_le, Nat.succ_ne_zero, not_false_eq_true, not_true_eq_false, false_implies, true_implies, forall_const, imp_self, true_or, or_true, eq_self, sI_zw, zw_zw, hI_zw, tg_zw, ln_zw, hR_zw, hL_zw, hN_zw, hM_zw, upd_s, upd_u, upd_ne, Classical.not_not, k_Mo_meet, h1, h2, h3, h4, hc]; try clear hgo9 hW9)
  have := lp_meet1 (l := l) (G := G) (Q := Q) (n := n) (p := p) hm ht hmm hc8 c 0 0 (hI h zr) none none none none (by omega) (Nat.le_refl _)
  rw [zw_self] at this
  refine this ?_
  clear this
  intro v8 v9 v10 v11
  have hw := cmp0_le (t := t) (m := m) (n := n) (p := p) c 0 0 (hI h zr)
  unfold meeZ at hQ
  revert hQ hw
  generalize cmp0 t m n p c 0 0 (hI h zr) = y
  obtain ⟨g, w⟩ := y
  intro hQ hw
  replace hw : w ≤ 0 + c := hw
  simp only at hQ ⊢
  by_cases e : w = 8
  · subst e
    rw [if_pos rfl] at hQ
    ((obtain ⟨W9, hW9, hgo9⟩ := wp_ex (T_Mo_meet l G) [129, 175] _; refine hgo9 200 _ _ _ _ ?_; simp -implicitDefEqProofs (disch := omega) only [hW9, inl, gate, Xq, tz_const, tz_iload, tz_lload, tz_dload, tz_aload, tz_istore, tz_astore, tz_lstore, tz_dstore, tz_iinc, tz_i1, tz_i2, tz_i2z, tz_l2, tz_l2z, tz_i2l, tz_l2i, tz_lcmp, tz_i2d, tz_d2, tz_dcmp, tz_dup, tz_dup2, tz_pop, tz_if, tz_icmp, tz_null, tz_goto, tz_sw, tz_getf, tz_puti, tz_putz, tz_putr, tz_putl, tz_iaload, tz_baload, tz_laload, tz_aaload, tz_iastore, tz_bastore, tz_lastore, tz_aastore, tz_alen, tz_new, tz_newa, tz_oinit, tz_iret, tz_zret, tz_lret, tz_dret, tz_aret, tz_vret, tz_throw, tz_callS, tz_callV, tz_callI, tz_callR, tz_pureS, tz_pureV, tz_callVH, lg, lset, lkill, lst1, lst2, entL, isRf, is1, vl, va_rf_none, va_rf_some, isRf_rf, is1_rf, i0, i1, bI_eq0, bI_eq1, nm_em, nI_eqP, nI_leP, nI_ltP, nN_e1, nN_e2, nN_l1, nN_l2, nN_l3, nN_l4, nI_add, pk_mul, vp_inN, nI_cl, n01, n10, P_i, P_ii, P_iii, f_Mo_at, f_Mo_map, f_Mo_contact, f_Mo_within, f_Mo_isPort, f_Hp_endpoint, f_Hp_nodeOf, f_Hp_portOf, f_Ma_max, f_Ma_min, f_Hp_isSetting, popN, rok, a1, noX, swc, mL, if_true, if_false, ↓reduceIte, cond_true, cond_false, true_and, and_true, List.length_cons, List.length_nil, List.nil_append, List.cons_append, List.append_nil, Option.toList, Nat.reduceEqDiff, Bool.false_eq_true, reduceCtorEq, Nat.reduceAdd, Nat.reduceLT, Nat.reduceLeDiff, Nat.reduceSub, List.replicate, Nat.zero_add, Nat.lt_add_one, Nat.le_refl, Nat.zero_le, Nat.succ_ne_zero, not_false_eq_true, not_true_eq_false, false_implies, true_implies, forall_const, imp_self, true_or, or_true, eq_self, sI_zw, zw_zw, hI_zw, tg_zw, ln_zw, hR_zw, hL_zw, hN_zw, hM_zw, upd_s, upd_u, upd_ne, Classical.not_not, k_Mo_meet, h1, h2, h3, h4]; try clear hgo9 hW9); try (obtain ⟨W9, hW9, hgo9⟩ := wp_ex (T_Mo_meet l G) [129, 175] _; refine hgo9 200 _ _ _ _ ?_; simp -implicitDefEqProofs (disch := omega) only [hW9, inl, gate, Xq, tz_const, tz_iload, tz_lload, tz_dload, tz_aload, tz_istore, tz_astore, tz_lstore, tz_dstore, tz_iinc, tz_i1, tz_i2, tz_i2z, tz_l2, tz_l2z, tz_i2l, tz_l2i, tz_lcmp, tz_i2d, tz_d2, tz_dcmp, tz_dup, tz_dup2, tz_pop, tz_if, tz_icmp, tz_null, tz_goto, tz_sw, tz_getf, tz_puti, tz_putz, tz_putr, tz_putl, tz_iaload, tz_baload, tz_laload, tz_aaload, tz_iastore, tz_bastore, tz_lastore, tz_aastore, tz_alen, tz_new, tz_newa, tz_oinit, tz_iret, tz_zret, tz_lret, tz_dret, tz_aret, tz_vret, tz_throw, tz_callS, tz_callV, tz_callI, tz_callR, tz_pureS, tz_pureV, tz_callVH, lg, lset, lkill, lst1, lst2, entL, isRf, is1, vl, va_rf_none, va_rf_some, isRf_rf, is1_rf, i0, i1, bI_eq0, bI_eq1, nm_em, nI_eqP, nI_leP, nI_ltP, nN_e1, nN_e2, nN_l1, nN_l2, nN_l3, nN_l4, nI_add, pk_mul, vp_inN, nI_cl, n01, n10, P_i, P_ii, P_iii, f_Mo_at, f_Mo_map, f_Mo_contact, f_Mo_within, f_Mo_isPort, f_Hp_endpoint, f_Hp_nodeOf, f_Hp_portOf, f_Ma_max, f_Ma_min, f_Hp_isSetting, popN, rok, a1, noX, swc, mL, if_true, if_false, ↓reduceIte, cond_true, cond_false, true_and, and_true, List.length_cons, List.length_nil, List.nil_append, List.cons_append, List.append_nil, Option.toList, Nat.reduceEqDiff, Bool.false_eq_true, reduceCtorEq, Nat.reduceAdd, Nat.reduceLT, Nat.reduceLeDiff, Nat.reduceSub, List.replicate, Nat.zero_add, Nat.lt_add_one, Nat.le_refl, Nat.zero_le, Nat.succ_ne_zero, not_false_eq_true, not_true_eq_false, false_implies, true_implies, forall_const, imp_self, true_or, or_true, eq_self, sI_zw, zw_zw, hI_zw, tg_zw, ln_zw, hR_zw, hL_zw, hN_zw, hM_zw, upd_s, upd_u, upd_ne, Classical.not_not, k_Mo_meet, h1, h2, h3, h4]; try clear hgo9 hW9))
    refine lp_meet2 hm ht hmm 14 2 g rfl (Nat.le_refl _) ?_
    rw [show (nI 8 : Int32) = nI 7 + nI 1 from rfl]
    (obtain ⟨W9, hW9, hgo9⟩ := wp_ex (T_Mo_meet l G) [188] _; refine hgo9 200 _ _ _ _ ?_; simp -implicitDefEqProofs (disch := omega) only [hW9, inl, gate, Xq, tz_const, tz_iload, tz_lload, tz_dload, tz_aload, tz_istore, tz_astore, tz_lstore, tz_dstore, tz_iinc, tz_i1, tz_i2, tz_i2z, tz_l2, tz_l2z, tz_i2l, tz_l2i, tz_lcmp, tz_i2d, tz_d2, tz_dcmp, tz_dup, tz_dup2, tz_pop, tz_if, tz_icmp, tz_null, tz_goto, tz_sw, tz_getf, tz_puti, tz_putz, tz_putr, tz_putl, tz_iaload, tz_baload, tz_laload, tz_aaload, tz_iastore, tz_bastore, tz_lastore, tz_aastore, tz_alen, tz_new, tz_newa, tz_oinit, tz_iret, tz_zret, tz_lret, tz_dret, tz_aret, tz_vret, tz_throw, tz_callS, tz_callV, tz_callI, tz_callR, tz_pureS, tz_pureV, tz_callVH, lg, lset, lkill, lst1, lst2, entL, isRf, is1, vl, va_rf_none, va_rf_some, isRf_rf, is1_rf, i0, i1, bI_eq0, bI_eq1, nm_em, nI_eqP, nI_leP, nI_ltP, nN_e1, nN_e2, nN_l1, nN_l2, nN_l3, nN_l4, nI_add, pk_mul, vp_inN, nI_cl, n01, n10, P_i, P_ii, P_iii, f_Mo_at, f_Mo_map, f_Mo_contact, f_Mo_within, f_Mo_isPort, f_Hp_endpoint, f_Hp_nodeOf, f_Hp_portOf, f_Ma_max, f_Ma_min, f_Hp_isSetting, popN, rok, a1, noX, swc, mL, if_true, if_false, ↓reduceIte, cond_true, cond_false, true_and, and_true, List.length_cons, List.length_nil, List.nil_append, List.cons_append, List.append_nil, Option.toList, Nat.reduceEqDiff, Bool.false_eq_true, reduceCtorEq, Nat.reduceAdd, Nat.reduceLT, Nat.reduceLeDiff, Nat.reduceSub, List.replicate, Nat.zero_add, Nat.lt_add_one, Nat.le_refl, Nat.zero_le, Nat.succ_ne_zero, not_false_eq_true, not_true_eq_false, false_implies, true_implies, forall_const, imp_self, true_or, or_true, eq_self, sI_zw, zw_zw, hI_zw, tg_zw, ln_zw, hR_zw, hL_zw, hN_zw, hM_zw, upd_s, upd_u, upd_ne, Classical.not_not, k_Mo_meet, h1, h2, h3, h4, addN, pk_sub]; try clear hgo9 hW9)
    (obtain ⟨W9, hW9, hgo9⟩ := wp_ex (T_Mo_meet l G) [] _; refine hgo9 200 _ _ _ _ ?_; simp -implicitDefEqProofs (disch := omega) only [hW9, inl, gate, Xq, tz_const, tz_iload, tz_lload, tz_dload, tz_aload, tz_istore, tz_astore, tz_lstore, tz_dstore, tz_iinc, tz_i1, tz_i2, tz_i2z, tz_l2, tz_l2z, tz_i2l, tz_l2i, tz_lcmp, tz_i2d, tz_d2, tz_dcmp, tz_dup, tz_dup2, tz_pop, tz_if, tz_icmp, tz_null, tz_goto, tz_sw, tz_getf, tz_puti, tz_putz, tz_putr, tz_putl, tz_iaload, tz_baload, tz_laload, tz_aaload, tz_iastore, tz_bastore, tz_lastore, tz_aastore, tz_alen, tz_new, tz_newa, tz_oinit, tz_iret, tz_zret, tz_lret, tz_dret, tz_aret, tz_vret, tz_throw, tz_callS, tz_callV, tz_callI, tz_callR, tz_pureS, tz_pureV, tz_callVH, lg, lset, lkill, lst1, lst2, entL, isRf, is1, vl, va_rf_none, va_rf_some, isRf_rf, is1_rf, i0, i1, bI_eq0, bI_eq1, nm_em, nI_eqP, nI_leP, nI_ltP, nN_e1, nN_e2, nN_l1, nN_l2, nN_l3, nN_l4, nI_add, pk_mul, vp_inN, nI_cl, n01, n10, P_i, P_ii, P_iii, f_Mo_at, f_Mo_map, f_Mo_contact, f_Mo_within, f_Mo_isPort, f_Hp_endpoint, f_Hp_nodeOf, f_Hp_portOf, f_Ma_max, f_Ma_min, f_Hp_isSetting, popN, rok, a1, noX, swc, mL, if_true, if_false, ↓reduceIte, cond_true, cond_false, true_and, and_true, List.length_cons, List.length_nil, List.nil_append, List.cons_append, List.append_nil, Option.toList, Nat.reduceEqDiff, Bool.false_eq_true, reduceCtorEq, Nat.reduceAdd, Nat.reduceLT, Nat.reduceLeDiff, Nat.reduceSub, List.replicate, Nat.zero_add, Nat.lt_add_one, Nat.le_refl, Nat.zero_le, Nat.succ_ne_zero, not_false_eq_true, not_true_eq_false, false_implies, true_implies, forall_const, imp_self, true_or, or_true, eq_self, sI_zw, zw_zw, hI_zw, tg_zw, ln_zw, hR_zw, hL_zw, hN_zw, hM_zw, upd_s, upd_u, upd_ne, Classical.not_not, k_Mo_meet, h1, h2, h3, h4, addN, pk_sub]; try clear hgo9 hW9)
    exact hQ
  · rw [if_neg e] at hQ
    ((obtain ⟨W9, hW9, hgo9⟩ := wp_ex (T_Mo_meet l G) [129, 188] _; refine hgo9 200 _ _ _ _ ?_; simp -implicitDefEqProofs (disch := omega) only [hW9, inl, gate, Xq, tz_const, tz_iload, tz_lload, tz_dload, tz_aload, tz_istore, tz_astore, tz_lstore, tz_dstore, tz_iinc, tz_i1, tz_i2, tz_i2z, tz_l2, tz_l2z, tz_i2l, tz_l2i, tz_lcmp, tz_i2d, tz_d2, tz_dcmp, tz_dup, tz_dup2, tz_pop, tz_if, tz_icmp, tz_null, tz_goto, tz_sw, tz_getf, tz_puti, tz_putz, tz_putr, tz_putl, tz_iaload, tz_baload, tz_laload, tz_aaload, tz_iastore, tz_bastore, tz_lastore, tz_aastore, tz_alen, tz_new, tz_newa, tz_oinit, tz_iret, tz_zret, tz_lret, tz_dret, tz_aret, tz_vret, tz_throw, tz_callS, tz_callV, tz_callI, tz_callR, tz_pureS, tz_pureV, tz_callVH, lg, lset, lkill, lst1, lst2, entL, isRf, is1, vl, va_rf_none, va_rf_some, isRf_rf, is1_rf, i0, i1, bI_eq0, bI_eq1, nm_em, nI_eqP, nI_leP, nI_ltP, nN_e1, nN_e2, nN_l1, nN_l2, nN_l3, nN_l4, nI_add, pk_mul, vp_inN, nI_cl, n01, n10, P_i, P_ii, P_iii, f_Mo_at, f_Mo_map, f_Mo_contact, f_Mo_within, f_Mo_isPort, f_Hp_endpoint, f_Hp_nodeOf, f_Hp_portOf, f_Ma_max, f_Ma_min, f_Hp_isSetting, popN, rok, a1, noX, swc, mL, if_true, if_false, ↓reduceIte, cond_true, cond_false, true_and, and_true, List.length_cons, List.length_nil, List.nil_append, List.cons_append, List.append_nil, Option.toList, Nat.reduceEqDiff, Bool.false_eq_true, reduceCtorEq, Nat.reduceAdd, Nat.reduceLT, Nat.reduceLeDiff, Nat.reduceSub, List.replicate, Nat.zero_add, Nat.lt_add_one, Nat.le_refl, Nat.zero_le, Nat.succ_ne_zero, not_false_eq_true, not_true_eq_false, false_implies, true_implies, forall_const, imp_self, true_or, or_true, eq_self, sI_zw, zw_zw, hI_zw, tg_zw, ln_zw, hR_zw, hL_zw, hN_zw, hM_zw, upd_s, upd_u, upd_ne, Classical.not_not, k_Mo_meet, h1, h2, h3, h4, e]; try clear hgo9 hW9); try (obtain ⟨W9, hW9, hgo9⟩ := wp_ex (T_Mo_meet l G) [129, 188] _; refine hgo9 200 _ _ _ _ ?_; simp -implicitDefEqProofs (disch := omega) only [hW9, inl, gate, Xq, tz_const, tz_iload, tz_lload, tz_dload, tz_aload, tz_istore, tz_astore, tz_lstore, tz_dstore, tz_iinc, tz_i1, tz_i2, tz_i2z, tz_l2, tz_l2z, tz_i2l, tz_l2i, tz_lcmp, tz_i2d, tz_d2, tz_dcmp, tz_dup, tz_dup2, tz_pop, tz_if, tz_icmp, tz_null, tz_goto, tz_sw, tz_getf, tz_puti, tz_putz, tz_putr, tz_putl, tz_iaload, tz_baload, tz_laload, tz_aaload, tz_iastore, tz_bastore, tz_lastore, tz_aastore, tz_alen, tz_new, tz_newa, tz_oinit, tz_iret, tz_zret, tz_lret, tz_dret, tz_aret, tz_vret, tz_throw, tz_callS, tz_callV, tz_callI, tz_callR, tz_pureS, tz_pureV, tz_callVH, lg, lset, lkill, lst1, lst2, entL, isRf, is1, vl, va_rf_none, va_rf_some, isRf_rf, is1_rf, i0, i1, bI_eq0, bI_eq1, nm_em, nI_eqP, nI_leP, nI_ltP, nN_e1, nN_e2, nN_l1, nN_l2, nN_l3, nN_l4, nI_add, pk_mul, vp_inN, nI_cl, n01, n10, P_i, P_ii, P_iii, f_Mo_at, f_Mo_map, f_Mo_contact, f_Mo_within, f_Mo_isPort, f_Hp_endpoint, f_Hp_nodeOf, f_Hp_portOf, f_Ma_max, f_Ma_min, f_Hp_isSetting, popN, rok, a1, noX, swc, mL, if_true, if_false, ↓reduceIte, cond_true, cond_false, true_and, and_true, List.length_cons, List.length_nil, List.nil_append, List.cons_append, List.append_nil, Option.toList, Nat.reduceEqDiff, Bool.false_eq_true, reduceCtorEq, Nat.reduceAdd, Nat.reduceLT, Nat.reduceLeDiff, Nat.reduceSub, List.replicate, Nat.zero_add, Nat.lt_add_one, Nat.le_refl, Nat.zero_le, Nat.succ_ne_zero, not_false_eq_true, not_true_eq_false, false_implies, true_implies, forall_const, imp_self, true_or, or_true, eq_self, sI_zw, zw_zw, hI_zw, tg_zw, ln_zw, hR_zw, hL_zw, hN_zw, hM_zw, upd_s, upd_u, upd_ne, Classical.not_not, k_Mo_meet, h1, h2, h3, h4, e]; try clear hgo9 hW9))
    (obtain ⟨W9, hW9, hgo9⟩ := wp_ex (T_Mo_meet l G) [] _; refine hgo9 200 _ _ _ _ ?_; simp -implicitDefEqProofs (disch := omega) only [hW9, inl, gate, Xq, tz_const, tz_iload, tz_lload, tz_dload, tz_aload, tz_istore, tz_astore, tz_lstore, tz_dstore, tz_iinc, tz_i1, tz_i2, tz_i2z, tz_l2, tz_l2z, tz_i2l, tz_l2i, tz_lcmp, tz_i2d, tz_d2, tz_dcmp, tz_dup, tz_dup2, tz_pop, tz_if, tz_icmp, tz_null, tz_goto, tz_sw, tz_getf, tz_puti, tz_putz, tz_putr, tz_putl, tz_iaload, tz_baload, tz_laload, tz_aaload, tz_iastore, tz_bastore, tz_lastore, tz_aastore, tz_alen, tz_new, tz_newa, tz_oinit, tz_iret, tz_zret, tz_lret, tz_dret, tz_aret, tz_vret, tz_throw, tz_callS, tz_callV, tz_callI, tz_callR, tz_pureS, tz_pureV, tz_callVH, lg, lset, lkill, lst1, lst2, entL, isRf, is1, vl, va_rf_none, va_rf_some, isRf_rf, is1_rf, i0, i1, bI_eq0, bI_eq1, nm_em, nI_eqP, nI_leP, nI_ltP, nN_e1, nN_e2, nN_l1, nN_l2, nN_l3, nN_l4, nI_add, pk_mul, vp_inN, nI_cl, n01, n10, P_i, P_ii, P_iii, f_Mo_at, f_Mo_map, f_Mo_contact, f_Mo_within, f_Mo_isPort, f_Hp_endpoint, f_Hp_nodeOf, f_Hp_portOf, f_Ma_max, f_Ma_min, f_Hp_isSetting, popN, rok, a1, noX, swc, mL, if_true, if_false, ↓reduceIte, cond_true, cond_false, true_and, and_true, List.length_cons, List.length_nil, List.nil_append, List.cons_append, List.append_nil, Option.toList, Nat.reduceEqDiff, Bool.false_eq_true, reduceCtorEq, Nat.reduceAdd, Nat.reduceLT, Nat.reduceLeDiff, Nat.reduceSub, List.replicate, Nat.zero_add, Nat.lt_add_one, Nat.le_refl, Nat.zero_le, Nat.succ_ne_zero, not_false_eq_true, not_true_eq_false, false_implies, true_implies, forall_const, imp_self, true_or, or_true, eq_self, sI_zw, zw_zw, hI_zw, tg_zw, ln_zw, hR_zw, hL_zw, hN_zw, hM_zw, upd_s, upd_u, upd_ne, Classical.not_not, k_Mo_meet, h1, h2, h3, h4]; try clear hgo9 hW9)
    exact hQ
/-- a mapping put down as the i-th of t -/
def makZ (z : Nat → Int32) (t i : Nat) (n p r kn kp : Int32) : Nat → Int32 :=
  upd (upd (upd (upd (upd (upd (upd z (16 + 16 * t + 11) (nI (i + 1))) (176 + 8 * (8 * t + i) + 0) n) (176 + 8 * (8 * t + i) + 1) p) (176 + 8 * (8 * t + i) + 2) r)
    (176 + 8 * (8 * t + i) + 3) (if z (16 + 16 * t + 2) = nI 0 then nN else kn))
    (176 + 8 * (8 * t + i) + 4) (if nI 2 ≤ z (16 + 16 * t + 2) then kp else nN))
    (176 + 8 * (8 * t + i) + 6) (nI 0)
theorem mk_tail {a zr t i : Nat} {n p r kn kp x8 : Int32} {g : Nat → Int32} {h : AH} {Q : Po} (hm : MoS h a zr) (ht : t < 10) (hi : i < 8) (hx : x8 = g (16 + 16 * t + 2)) (ho : g (16 + 16 * t + 11) = nI i)
    (hQ : Q (.inl (some (.int (nI i)))) (zw h zr (makZ g t i n p r kn kp))) : AWp l G M_Mo_make 52 [some (.ref a), some (.int (nI t)), some (.int n), some (.int p), some (.int kn), some (.int kp), some (.int (nI i)), some (.int r), some (.int x8)] [] (zw h zr g) Q := by
  obtain ⟨h1, h2, h3, h4⟩ := id hm
  subst hx
  unfold makZ at hQ
  (obtain ⟨W9, hW9, hgo9⟩ := wp_ex (T_Mo_make l G) [80] _; refine hgo9 200 _ _ _ _ ?_; simp -implicitDefEqProofs (disch := omega) only [hW9, inl, gate, Xq, tz_const, tz_iload, tz_lload, tz_dload, tz_aload, tz_istore, tz_astore, tz_lstore, tz_dstore, tz_iinc, tz_i1, tz_i2, tz_i2z, tz_l2, tz_l2z, tz_i2l, tz_l2i, tz_lcmp, tz_i2d, tz_d2, tz_dcmp, tz_dup, tz_dup2, tz_pop, tz_if, tz_icmp, tz_null, tz_goto, tz_sw, tz_getf, tz_puti, tz_putz, tz_putr, tz_putl, tz_iaload, tz_baload, tz_laload, tz_aaload, tz_iastore, tz_bastore, tz_lastore, tz_aastore, tz_alen, tz_new, tz_newa, tz_oinit, tz_iret, tz_zret, tz_lret, tz_dret, tz_aret, tz_vret, tz_throw, tz_callS, tz_callV, tz_callI, tz_callR, tz_pureS, tz_pureV, tz_callVH, lg, lset, lkill, lst1, lst2, entL, isRf, is1, vl, va_rf_none, va_rf_some, isRf_rf, is1_rf, i0, i1, bI_eq0, bI_eq1, nm_em, nI_eqP, nI_leP, nI_ltP, nN_e1, nN_e2, nN_l1, nN_l2, nN_l3, nN_l4, nI_add, pk_mul, vp_inN, nI_cl, n01, n10, P_i, P_ii, P_iii, f_Mo_at, f_Mo_map, f_Mo_contact, f_Mo_within, f_Mo_isPort, f_Hp_endpoint, f_Hp_nodeOf, f_Hp_portOf, f_Ma_max, f_Ma_min, f_Hp_isSetting, popN, rok, a1, noX, swc, mL, if_true, if_false, ↓reduceIte, cond_true, cond_false, true_and, and_true, List.length_cons, List.length_nil, List.nil_append, List.cons_append, List.append_nil, Option.toList, Nat.reduceEqDiff, Bool.false_eq_true, reduceCtorEq, Nat.reduceAdd, Nat.reduceLT, Nat.reduceLeDiff, Nat.reduceSub, List.replicate, Nat.zero_add, Nat.lt_add_one, Nat.le_refl, Nat.zero_le, Nat.succ_ne_zero, not_false_eq_true, not_true_eq_false, false_implies, true_implies, forall_const, imp_self, true_or, or_true, eq_self, sI_zw, zw_zw, hI_zw, tg_zw, ln_zw, hR_zw, hL_zw, hN_zw, hM_zw, upd_s, upd_u, upd_ne, Classical.not_not, k_Mo_make, h1, h2, h3, h4, ho]; try clear hgo9 hW9)
  (obtain ⟨W9, hW9, hgo9⟩ := wp_ex (T_Mo_make l G) [107] _; refine hgo9 200 _ _ _ _ ?_; simp -implicitDefEqProofs (disch := omega) only [hW9, inl, gate, Xq, tz_const, tz_iload, tz_lload, tz_dload, tz_aload, tz_istore, tz_astore, tz_lstore, tz_dstore, tz_iinc, tz_i1, tz_i2, tz_i2z, tz_l2, tz_l2z, tz_i2l, tz_l2i, tz_lcmp, tz_i2d, tz_d2, tz_dcmp, tz_dup, tz_dup2, tz_pop, tz_if, tz_icmp, tz_null, tz_goto, tz_sw, tz_getf, tz_puti, tz_putz, tz_putr, tz_putl, tz_iaload, tz_baload, tz_laload, tz_aaload, tz_iastore, tz_bastore, tz_lastore, tz_aastore, tz_alen, tz_new, tz_newa, tz_oinit, tz_iret, tz_zret, tz_lret, tz_dret, tz_aret, tz_vret, tz_throw, tz_callS, tz_callV, tz_callI, tz_callR, tz_pureS, tz_pureV, tz_callVH, lg, lset, lkill, lst1, lst2, entL, isRf, is1, vl, va_rf_none, va_rf_some, isRf_rf, is1_rf, i0, i1, bI_eq0, bI_eq1, nm_em, nI_eqP, nI_leP, nI_ltP, nN_e1, nN_e2, nN_l1, nN_l2, nN_l3, nN_l4, nI_add, pk_mul, vp_inN, nI_cl, n01, n10, P_i, P_ii, P_iii, f_Mo_at, f_Mo_map, f_Mo_contact, f_Mo_within, f_Mo_isPort, f_Hp_endpoint, f_Hp_nodeOf, f_Hp_portOf, f_Ma_max, f_Ma_min, f_Hp_isSetting, popN, rok, a1, noX, swc, mL, if_true, if_false, ↓reduceIte, cond_true, cond_false, true_and, and_true, List.length_cons, List.length_nil, List.nil_append, List.cons_append, List.append_nil, Option.toList, Nat.reduceEqDiff, Bool.false_eq_true, reduceCtorEq, Nat.reduceAdd, Nat.reduceLT, Nat.reduceLeDiff, Nat.reduceSub, List.replicate, Nat.zero_add, Nat.lt_add_one, Nat.le_refl, Nat.zero_le, Nat.succ_ne_zero, not_false_eq_true, not_true_eq_false, false_implies, true_implies, forall_const, imp_self, true_or, or_true, eq_self, sI_zw, zw_zw, hI_zw, tg_zw, ln_zw, hR_zw, hL_zw, hN_zw, hM_zw, upd_s, upd_u, upd_ne, Classical.not_not, k_Mo_make, h1, h2, h3, h4]; try clear hgo9 hW9)
  (obtain ⟨W9, hW9, hgo9⟩ := wp_ex (T_Mo_make l G) [] _; refine hgo9 200 _ _ _ _ ?_; simp -implicitDefEqProofs (disch := omega) only [hW9, inl, gate, Xq, tz_const, tz_iload, tz_lload, tz_dload, tz_aload, tz_istore, tz_astore, tz_lstore, tz_dstore, tz_iinc, tz_i1, tz_i2, tz_i2z, tz_l2, tz_l2z, tz_i2l, tz_l2i, tz_lcmp, tz_i2d, tz_d2, tz_dcmp, tz_dup, tz_dup2, tz_pop, tz_if, tz_icmp, tz_null, tz_goto, tz_sw, tz_getf, tz_puti, tz_putz, tz_putr, tz_putl, tz_iaload, tz_baload, tz_laload, tz_aaload, tz_iastore, tz_bastore, tz_lastore, tz_aastore, tz_alen, tz_new, tz_newa, tz_oinit, tz_iret, tz_zret, tz_lret, tz_dret, tz_aret, tz_vret, tz_throw, tz_callS, tz_callV, tz_callI, tz_callR, tz_pureS, tz_pureV, tz_callVH, lg, lset, lkill, lst1, lst2, entL, isRf, is1, vl, va_rf_none, va_rf_some, isRf_rf, is1_rf, i0, i1, bI_eq0, bI_eq1, nm_em, nI_eqP, nI_leP, nI_ltP, nN_e1, nN_e2, nN_l1, nN_l2, nN_l3, nN_l4, nI_add, pk_mul, vp_inN, nI_cl, n01, n10, P_i, P_ii, P_iii, f_Mo_at, f_Mo_map, f_Mo_contact, f_Mo_within, f_Mo_isPort, f_Hp_endpoint, f_Hp_nodeOf, f_Hp_portOf, f_Ma_max, f_Ma_min, f_Hp_isSetting, popN, rok, a1, noX, swc, mL, if_true, if_false, ↓reduceIte, cond_true, cond_false, true_and, and_true, List.length_cons, List.length_nil, List.nil_append, List.cons_append, List.append_nil, Option.toList, Nat.reduceEqDiff, Bool.false_eq_true, reduceCtorEq, Nat.reduceAdd, Nat.reduceLT, Nat.reduceLeDiff, Nat.reduceSub, List.replicate, Nat.zero_add, Nat.lt_add_one, Nat.le_refl, Nat.zero_le, Nat.succ_ne_zero, not_false_eq_true, not_true_eq_false, false_implies, true_implies, forall_const, imp_self, true_or, or_true, eq_self, sI_zw, zw_zw, hI_zw, tg_zw, ln_zw, hR_zw, hL_zw, hN_zw, hM_zw, upd_s, upd_u, upd_ne, Classical.not_not, k_Mo_make, h1, h2, h3, h4]; try clear hgo9 hW9)
  refine ⟨fun c => ?_, fun c => ?_⟩
  · rw [if_neg c] at hQ
    (obtain ⟨W9, hW9, hgo9⟩ := wp_ex (T_Mo_make l G) [] _; refine hgo9 200 _ _ _ _ ?_; simp -implicitDefEqProofs (disch := omega) only [hW9, inl, gate, Xq, tz_const, tz_iload, tz_lload, tz_dload, tz_aload, tz_istore, tz_astore, tz_lstore, tz_dstore, tz_iinc, tz_i1, tz_i2, tz_i2z, tz_l2, tz_l2z, tz_i2l, tz_l2i, tz_lcmp, tz_i2d, tz_d2, tz_dcmp, tz_dup, tz_dup2, tz_pop, tz_if, tz_icmp, tz_null, tz_goto, tz_sw, tz_getf, tz_puti, tz_putz, tz_putr, tz_putl, tz_iaload, tz_baload, tz_laload, tz_aaload, tz_iastore, tz_bastore, tz_lastore, tz_aastore, tz_alen, tz_new, tz_newa, tz_oinit, tz_iret, tz_zret, tz_lret, tz_dret, tz_aret, tz_vret, tz_throw, tz_callS, tz_callV, tz_callI, tz_callR, tz_pureS, tz_pureV, tz_callVH, lg, lset, lkill, lst1, lst2, entL, isRf, is1, vl, va_rf_none, va_rf_some, isRf_rf, is1_rf, i0, i1, bI_eq0, bI_eq1, nm_em, nI_eqP, nI_leP, nI_ltP, nN_e1, nN_e2, nN_l1, nN_l2, nN_l3, nN_l4, nI_add, pk_mul, vp_inN, nI_cl, n01, n10, P_i, P_ii, P_iii, f_Mo_at, f_Mo_map, f_Mo_contact, f_Mo_within, f_Mo_isPort, f_Hp_endpoint, f_Hp_nodeOf, f_Hp_portOf, f_Ma_max, f_Ma_min, f_Hp_isSetting, popN, rok, a1, noX, swc, mL, if_true, if_false, ↓reduceIte, cond_true, cond_false, true_and, and_true, List.length_cons, List.length_nil, List.nil_append, List.cons_append, List.append_nil, Option.toList, Nat.reduceEqDiff, Bool.false_eq_true, reduceCtorEq, Nat.reduceAdd, Nat.reduceLT, Nat.reduceLeDiff, Nat.reduceSub, List.replicate, Nat.zero_add, Nat.lt_add_one, Nat.le_refl, Nat.zero_le, Nat.succ_ne_zero, not_false_eq_true, not_true_eq_false, false_implies, true_implies, forall_const, imp_self, true_or, or_true, eq_self, sI_zw, zw_zw, hI_zw, tg_zw, ln_zw, hR_zw, hL_zw, hN_zw, hM_zw, upd_s, upd_u, upd_ne, Classical.not_not, k_Mo_make, h1, h2, h3, h4]; try clear hgo9 hW9)
    refine ⟨fun d => ?_, fun d => ?_⟩
    · rw [if_pos d] at hQ
      (obtain ⟨W9, hW9, hgo9⟩ := wp_ex (T_Mo_make l G) [] _; refine hgo9 200 _ _ _ _ ?_; simp -implicitDefEqProofs (disch := omega) only [hW9, inl, gate, Xq, tz_const, tz_iload, tz_lload, tz_dload, tz_aload, tz_istore, tz_astore, tz_lstore, tz_dstore, tz_iinc, tz_i1, tz_i2, tz_i2z, tz_l2, tz_l2z, tz_i2l, tz_l2i, tz_lcmp, tz_i2d, tz_d2, tz_dcmp, tz_dup, tz_dup2, tz_pop, tz_if, tz_icmp, tz_null, tz_goto, tz_sw, tz_getf, tz_puti, tz_putz, tz_putr, tz_putl, tz_iaload, tz_baload, tz_laload, tz_aaload, tz_iastore, tz_bastore, tz_lastore, tz_aastore, tz_alen, tz_new, tz_newa, tz_oinit, tz_iret, tz_zret, tz_lret, tz_dret, tz_aret, tz_vret, tz_throw, tz_callS, tz_callV, tz_callI, tz_callR, tz_pureS, tz_pureV, tz_callVH, lg, lset, lkill, lst1, lst2, entL, isRf, is1, vl, va_rf_none, va_rf_some, isRf_rf, is1_rf, i0, i1, bI_eq0, bI_eq1, nm_em, nI_eqP, nI_leP, nI_ltP, nN_e1, nN_e2, nN_l1, nN_l2, nN_l3, nN_l4, nI_add, pk_mul, vp_inN, nI_cl, n01, n10, P_i, P_ii, P_iii, f_Mo_at, f_Mo_map, f_Mo_contact, f_Mo_within, f_Mo_isPort, f_Hp_endpoint, f_Hp_nodeOf, f_Hp_portOf, f_Ma_max, f_Ma_min, f_Hp_isSetting, popN, rok, a1, noX, swc, mL, if_true, if_false, ↓reduceIte, cond_true, cond_false, true_and, and_true, List.length_cons, List.length_nil, List.nil_append, List.cons_append, List.append_nil, Option.toList, Nat.reduceEqDiff, Bool.false_eq_true, reduceCtorEq, Nat.reduceAdd, Nat.reduceLT, Nat.reduceLeDiff, Nat.reduceSub, List.replicate, Nat.zero_add, Nat.lt_add_one, Nat.le_refl, Nat.zero_le, Nat.succ_ne_zero, not_false_eq_true, not_true_eq_false, false_implies, true_implies, forall_const, imp_self, true_or, or_true, eq_self, sI_zw, zw_zw, hI_zw, tg_zw, ln_zw, hR_zw, hL_zw, hN_zw, hM_zw, upd_s, upd_u, upd_ne, Classical.not_not, k_Mo_make, h1, h2, h3, h4]; try clear hgo9 hW9)
      exact hQ
    · rw [if_neg d] at hQ
      (obtain ⟨W9, hW9, hgo9⟩ := wp_ex (T_Mo_make l G) [] _; refine hgo9 200 _ _ _ _ ?_; simp -implicitDefEqProofs (disch := omega) only [hW9, inl, gate, Xq, tz_const, tz_iload, tz_lload, tz_dload, tz_aload, tz_istore, tz_astore, tz_lstore, tz_dstore, tz_iinc, tz_i1, tz_i2, tz_i2z, tz_l2, tz_l2z, tz_i2l, tz_l2i, tz_lcmp, tz_i2d, tz_d2, tz_dcmp, tz_dup, tz_dup2, tz_pop, tz_if, tz_icmp, tz_null, tz_goto, tz_sw, tz_getf, tz_puti, tz_putz, tz_putr, tz_putl, tz_iaload, tz_baload, tz_laload, tz_aaload, tz_iastore, tz_bastore, tz_lastore, tz_aastore, tz_alen, tz_new, tz_newa, tz_oinit, tz_iret, tz_zret, tz_lret, tz_dret, tz_aret, tz_vret, tz_throw, tz_callS, tz_callV, tz_callI, tz_callR, tz_pureS, tz_pureV, tz_callVH, lg, lset, lkill, lst1, lst2, entL, isRf, is1, vl, va_rf_none, va_rf_some, isRf_rf, is1_rf, i0, i1, bI_eq0, bI_eq1, nm_em, nI_eqP, nI_leP, nI_ltP, nN_e1, nN_e2, nN_l1, nN_l2, nN_l3, nN_l4, nI_add, pk_mul, vp_inN, nI_cl, n01, n10, P_i, P_ii, P_iii, f_Mo_at, f_Mo_map, f_Mo_contact, f_Mo_within, f_Mo_isPort, f_Hp_endpoint, f_Hp_nodeOf, f_Hp_portOf, f_Ma_max, f_Ma_min, f_Hp_isSetting, popN, rok, a1, noX, swc, mL, if_true, if_false, ↓reduceIte, cond_true, cond_false, true_and, and_true, List.length_cons, List.length_nil, List.nil_append, List.cons_append, List.append_nil, Option.toList, Nat.reduceEqDiff, Bool.false_eq_true, reduceCtorEq, Nat.reduceAdd, Nat.reduceLT, Nat.reduceLeDiff, Nat.reduceSub, List.replicate, Nat.zero_add, Nat.lt_add_one, Nat.le_refl, Nat.zero_le, Nat.succ_ne_zero, not_false_eq_true, not_true_eq_false, false_implies, true_implies, forall_const, imp_self, true_or, or_true, eq_self, sI_zw, zw_zw, hI_zw, tg_zw, ln_zw, hR_zw, hL_zw, hN_zw, hM_zw, upd_s, upd_u, upd_ne, Classical.not_not, k_Mo_make, h1, h2, h3, h4]; try clear hgo9 hW9)
      exact hQ
  · have d : ¬ nI 2 ≤ nI 0 := by decide
    rw [if_pos c, c, if_neg d] at hQ
    (obtain ⟨W9, hW9, hgo9⟩ := wp_ex (T_Mo_make l G) [] _; refine hgo9 200 _ _ _ _ ?_; simp -implicitDefEqProofs (disch := omega) only [hW9, inl, gate, Xq, tz_const, tz_iload, tz_lload, tz_dload, tz_aload, tz_istore, tz_astore, tz_lstore, tz_dstore, tz_iinc, tz_i1, tz_i2, tz_i2z, tz_l2, tz_l2z, tz_i2l, tz_l2i, tz_lcmp, tz_i2d, tz_d2, tz_dcmp, tz_dup, tz_dup2, tz_pop, tz_if, tz_icmp, tz_null, tz_goto, tz_sw, tz_getf, tz_puti, tz_putz, tz_putr, tz_putl, tz_iaload, tz_baload, tz_laload, tz_aaload, tz_iastore, tz_bastore, tz_lastore, tz_aastore, tz_alen, tz_new, tz_newa, tz_oinit, tz_iret, tz_zret, tz_lret, tz_dret, tz_aret, tz_vret, tz_throw, tz_callS, tz_callV, tz_callI, tz_callR, tz_pureS, tz_pureV, tz_callVH, lg, lset, lkill, lst1, lst2, entL, isRf, is1, vl, va_rf_none, va_rf_some, isRf_rf, is1_rf, i0, i1, bI_eq0, bI_eq1, nm_em, nI_eqP, nI_leP, nI_ltP, nN_e1, nN_e2, nN_l1, nN_l2, nN_l3, nN_l4, nI_add, pk_mul, vp_inN, nI_cl, n01, n10, P_i, P_ii, P_iii, f_Mo_at, f_Mo_map, f_Mo_contact, f_Mo_within, f_Mo_isPort, f_Hp_endpoint, f_Hp_nodeOf, f_Hp_portOf, f_Ma_max, f_Ma_min, f_Hp_isSetting, popN, rok, a1, noX, swc, mL, if_true, if_false, ↓reduceIte, cond_true, cond_false, true_and, and_true, List.length_cons, List.length_nil, List.nil_append, List.cons_append, List.append_nil, Option.toList, Nat.reduceEqDiff, Bool.false_eq_true, reduceCtorEq, Nat.reduceAdd, Nat.reduceLT, Nat.reduceLeDiff, Nat.reduceSub, List.replicate, Nat.zero_add, Nat.lt_add_one, Nat.le_refl, Nat.zero_le, Nat.succ_ne_zero, not_false_eq_true, not_true_eq_false, false_implies, true_implies, forall_const, imp_self, true_or, or_true, eq_self, sI_zw, zw_zw, hI_zw, tg_zw, ln_zw, hR_zw, hL_zw, hN_zw, hM_zw, upd_s, upd_u, upd_ne, Classical.not_not, k_Mo_make, h1, h2, h3, h4, c]; try clear hgo9 hW9)
    try (obtain ⟨W9, hW9, hgo9⟩ := wp_ex (T_Mo_make l G) [] _; refine hgo9 200 _ _ _ _ ?_; simp -implicitDefEqProofs (disch := omega) only [hW9, inl, gate, Xq, tz_const, tz_iload, tz_lload, tz_dload, tz_aload, tz_istore, tz_astore, tz_lstore, tz_dstore, tz_iinc, tz_i1, tz_i2, tz_i2z, tz_l2, tz_l2z, tz_i2l, tz_l2i, tz_lcmp, tz_i2d, tz_d2, tz_dcmp, tz_dup, tz_dup2, tz_pop, tz_if, tz_icmp, tz_null, tz_goto, tz_sw, tz_getf, tz_puti, tz_putz, tz_putr, tz_putl, tz_iaload, tz_baload, tz_laload, tz_aaload, tz_iastore, tz_bastore, tz_lastore, tz_aastore, tz_alen, tz_new, tz_newa, tz_oinit, tz_iret, tz_zret, tz_lret, tz_dret, tz_aret, tz_vret, tz_throw, tz_callS, tz_callV, tz_callI, tz_callR, tz_pureS, tz_pureV, tz_callVH, lg, lset, lkill, lst1, lst2, entL, isRf, is1, vl, va_rf_none, va_rf_some, isRf_rf, is1_rf, i0, i1, bI_eq0, bI_eq1, nm_em, nI_eqP, nI_leP, nI_ltP, nN_e1, nN_e2, nN_l1, nN_l2, nN_l3, nN_l4, nI_add, pk_mul, vp_inN, nI_cl, n01, n10, P_i, P_ii, P_iii, f_Mo_at, f_Mo_map, f_Mo_contact, f_Mo_within, f_Mo_isPort, f_Hp_endpoint, f_Hp_nodeOf, f_Hp_portOf, f_Ma_max, f_Ma_min, f_Hp_isSetting, popN, rok, a1, noX, swc, mL, if_true, if_false, ↓reduceIte, cond_true, cond_false, true_and, and_true, List.length_cons, List.length_nil, List.nil_append, List.cons_append, List.append_nil, Option.toList, Nat.reduceEqDiff, Bool.false_eq_true, reduceCtorEq, Nat.reduceAdd, Nat.reduceLT, Nat.reduceLeDiff, Nat.reduceSub, List.replicate, Nat.zero_add, Nat.lt_add_one, Nat.le_refl, Nat.zero_le, Nat.succ_ne_zero, not_false_eq_true, not_true_eq_false, false_implies, true_implies, forall_const, imp_self, true_or, or_true, eq_self, sI_zw, zw_zw, hI_zw, tg_zw, ln_zw, hR_zw, hL_zw, hN_zw, hM_zw, upd_s, upd_u, upd_ne, Classical.not_not, k_Mo_make, h1, h2, h3, h4, c]; try clear hgo9 hW9)
    exact hQ
theorem FpR.low {z z' : Nat → Int32} {t : Nat} {p r : Int32} (k : FpR z t p r z') {j : Nat} (h9 : j ≠ 16 + 16 * t + 9) (h10 : j ≠ 16 + 16 * t + 10) : z' j = z j := by
  rcases k with ⟨-, e, -⟩ | ⟨-, n, -, -, e⟩ | ⟨-, -, n, -, -, e⟩
  · rw [e]
  · rw [e, upd_ne h9]
  · rw [e, upd_ne h10]
/-- what make answers, and the numbers after it -/
def MakR (z : Nat → Int32) (t : Nat) (n p kn kp res : Int32) (z2 : Nat → Int32) : Prop :=
  (own z t = 8 ∧ res = nN ∧ z2 = z) ∨ (own z t < 8 ∧ ∃ r z', FpR z t p r z' ∧ ((r = nN ∧ res = nN ∧ z2 = z') ∨ (¬ r = nN ∧ res = nI (own z t) ∧ z2 = makZ z' t (own z t) n p r kn kp)))
theorem c_Mo_make (a zr t : Nat) (n p kn kp res : Int32) (z2 : Nat → Int32) (h : AH) (Q : Po) (hm : MoS h a zr) (ht : t < 10) (ho : OwnOK (hI h zr) t) (hr : MakR (hI h zr) t n p kn kp res z2) (hQ : Q (.inl (some (.int res))) (zw h zr z2)) : Call l G M_Mo_make [.ref a, .int (nI t), .int n, .int p, .int kn, .int kp] h Q := by
  obtain ⟨h1, h2, h3, h4⟩ := id hm
  obtain ⟨o1, o2⟩ := id ho
  refine call_of rfl rfl (Nat.le_of_ble_eq_true rfl) ?_
  rcases hr with ⟨e8, rfl, rfl⟩ | ⟨e8, r, z', hf, hr⟩
  · rw [e8] at o1
    rw [zw_self] at hQ
    ((obtain ⟨W9, hW9, hgo9⟩ := wp_ex (T_Mo_make l G) [] _; refine hgo9 200 _ _ _ _ ?_; simp -implicitDefEqProofs (disch := omega) only [hW9, inl, gate, Xq, tz_const, tz_iload, tz_lload, tz_dload, tz_aload, tz_istore, tz_astore, tz_lstore, tz_dstore, tz_iinc, tz_i1, tz_i2, tz_i2z, tz_l2, tz_l2z, tz_i2l, tz_l2i, tz_lcmp, tz_i2d, tz_d2, tz_dcmp, tz_dup, tz_dup2, tz_pop, tz_if, tz_icmp, tz_null, tz_goto, tz_sw, tz_getf, tz_puti, tz_putz, tz_putr, tz_putl, tz_iaload, tz_baload, tz_laload, tz_aaload, tz_iastore, tz_bastore, tz_lastore, tz_aastore, tz_alen, tz_new, tz_newa, tz_oinit, tz_iret, tz_zret, tz_lret, tz_dret, tz_aret, tz_vret, tz_throw, tz_callS, tz_callV, tz_callI, tz_callR, tz_pureS, tz_pureV, tz_callVH, lg, lset, lkill, lst1, lst2, entL, isRf, is1, vl, va_rf_none, va_rf_some, isRf_rf, is1_rf, i0, i1, bI_eq0, bI_eq1, nm_em, nI_eqP, nI_leP, nI_ltP, nN_e1, nN_e2, nN_l1, nN_l2, nN_l3, nN_l4, nI_add, pk_mul, vp_inN, nI_cl, n01, n10, P_i, P_ii, P_iii, f_Mo_at, f_Mo_map, f_Mo_contact, f_Mo_within, f_Mo_isPort, f_Hp_endpoint, f_Hp_nodeOf, f_Hp_portOf, f_Ma_max, f_Ma_min, f_Hp_isSetting, popN, rok, a1, noX, swc, mL, if_true, if_false, ↓reduceIte, cond_true, cond_false, true_and, and_true, List.length_cons, List.length_nil, List.nil_append, List.cons_append, List.append_nil, Option.toList, Nat.reduceEqDiff, Bool.false_eq_true, reduceCtorEq, Nat.reduceAdd, Nat.reduceLT, Nat.reduceLeDiff, Nat.reduceSub, List.replicate, Nat.zero_add, Nat.lt_add_one, Nat.le_refl, Nat.zero_le, Nat.succ_ne_zero, not_false_eq_true, not_true_eq_false, false_implies, true_implies, forall_const, imp_self, true_or, or_true, eq_self, sI_zw, zw_zw, hI_zw, tg_zw, ln_zw, hR_zw, hL_zw, hN_zw, hM_zw, upd_s, upd_u, upd_ne, Classical.not_not, k_Mo_make, h1, h2, h3, h4, o1]; try clear hgo9 hW9); try (obtain ⟨W9, hW9, hgo9⟩ := wp_ex (T_Mo_make l G) [] _; refine hgo9 200 _ _ _ _ ?_; simp -implicitDefEqProofs (disch := omega) only [hW9, inl, gate, Xq, tz_const, tz_iload, tz_lload, tz_dload, tz_aload, tz_istore, tz_astore, tz_lstore, tz_dstore, tz_iinc, tz_i1, tz_i2, tz_i2z, tz_l2, tz_l2z, tz_i2l, tz_l2i, tz_lcmp, tz_i2d, tz_d2, tz_dcmp, tz_dup, tz_dup2, tz_pop, tz_if, tz_icmp, tz_null, tz_goto, tz_sw, tz_getf, tz_puti, tz_putz, tz_putr, tz_putl, tz_iaload, tz_baload, tz_laload, tz_aaload, tz_iastore, tz_bastore, tz_lastore, tz_aastore, tz_alen, tz_new, tz_newa, tz_oinit, tz_iret, tz_zret, tz_lret, tz_dret, tz_aret, tz_vret, tz_throw, tz_callS, tz_callV, tz_callI, tz_callR, tz_pureS, tz_pureV, tz_callVH, lg, lset, lkill, lst1, lst2, entL, isRf, is1, vl, va_rf_none, va_rf_some, isRf_rf, is1_rf, i0, i1, bI_eq0, bI_eq1, nm_em, nI_eqP, nI_leP, nI_ltP, nN_e1, nN_e2, nN_l1, nN_l2, nN_l3, nN_l4, nI_add, pk_mul, vp_inN, nI_cl, n01, n10, P_i, P_ii, P_iii, f_Mo_at, f_Mo_map, f_Mo_contact, f_Mo_within, f_Mo_isPort, f_Hp_endpoint, f_Hp_nodeOf, f_Hp_portOf, f_Ma_max, f_Ma_min, f_Hp_isSetting, popN, rok, a1, noX, swc, mL, if_true, if_false, ↓reduceIte, cond_true, cond_false, true_and, and_true, List.length_cons, List.length_nil, List.nil_append, List.cons_append, List.append_nil, Option.toList, Nat.reduceEqDiff, Bool.false_eq_true, reduceCtorEq, Nat.reduceAdd, Nat.reduceLT, Nat.reduceLeDiff, Nat.reduceSub, List.replicate, Nat.zero_add, Nat.lt_add_one, Nat.le_refl, Nat.zero_le, Nat.succ_ne_zero, not_false_eq_true, not_true_eq_false, false_implies, true_implies, forall_const, imp_self, true_or, or_true, eq_self, sI_zw, zw_zw, hI_zw, tg_zw, ln_zw, hR_zw, hL_zw, hN_zw, hM_zw, upd_s, upd_u, upd_ne, Classical.not_not, k_Mo_make, h1, h2, h3, h4, o1]; try clear hgo9 hW9); try (obtain ⟨W9, hW9, hgo9⟩ := wp_ex (T_Mo_make l G) [] _; refine hgo9 200 _ _ _ _ ?_; simp -implicitDefEqProofs (disch := omega) only [hW9, inl, gate, Xq, tz_const, tz_iload, tz_lload, tz_dload, tz_aload, tz_istore, tz_astore, tz_lstore, tz_dstore, tz_iinc, tz_i1, tz_i2, tz_i2z, tz_l2, tz_l2z, tz_i2l, tz_l2i, tz_lcmp, tz_i2d, tz_d2, tz_dcmp, tz_dup, tz_dup2, tz_pop, tz_if, tz_icmp, tz_null, tz_goto, tz_sw, tz_getf, tz_puti, tz_putz, tz_putr, tz_putl, tz_iaload, tz_baload, tz_laload, tz_aaload, tz_iastore, tz_bastore, tz_lastore, tz_aastore, tz_alen, tz_new, tz_newa, tz_oinit, tz_iret, tz_zret, tz_lret, tz_dret, tz_aret, tz_vret, tz_throw, tz_callS, tz_callV, tz_callI, tz_callR, tz_pureS, tz_pureV, tz_callVH, lg, lset, lkill, lst1, lst2, entL, isRf, is1, vl, va_rf_none, va_rf_some, isRf_rf, is1_rf, i0, i1, bI_eq0, bI_eq1, nm_em, nI_eqP, nI_leP, nI_ltP, nN_e1, nN_e2, nN_l1, nN_l2, nN_l3, nN_l4, nI_add, pk_mul, vp_inN, nI_cl, n01, n10, P_i, P_ii, P_iii, f_Mo_at, f_Mo_map, f_Mo_contact, f_Mo_within, f_Mo_isPort, f_Hp_endpoint, f_Hp_nodeOf, f_Hp_portOf, f_Ma_max, f_Ma_min, f_Hp_isSetting, popN, rok, a1, noX, swc, mL, if_true, if_false, ↓reduceIte, cond_true, cond_false, true_and, and_true, List.length_cons, List.length_nil, List.nil_append, List.cons_append, List.append_nil, Option.toList, Nat.reduceEqDiff, Bool.false_eq_true, reduceCtorEq, Nat.reduceAdd, Nat.reduceLT, Nat.reduceLeDiff, Nat.reduceSub, List.replicate, Nat.zero_add, Nat.lt_add_one, Nat.le_refl, Nat.zero_le, Nat.succ_ne_zero, not_false_eq_true, not_true_eq_false, false_implies, true_implies, forall_const, imp_self, true_or, or_true, eq_self, sI_zw, zw_zw, hI_zw, tg_zw, ln_zw, hR_zw, hL_zw, hN_zw, hM_zw, upd_s, upd_u, upd_ne, Classical.not_not, k_Mo_make, h1, h2, h3, h4, o1]; try clear hgo9 hW9))
    exact hQ
  · have n8 : ¬ own (hI h zr) t = 8 := by omega
    ((obtain ⟨W9, hW9, hgo9⟩ := wp_ex (T_Mo_make l G) [] _; refine hgo9 200 _ _ _ _ ?_; simp -implicitDefEqProofs (disch := omega) only [hW9, inl, gate, Xq, tz_const, tz_iload, tz_lload, tz_dload, tz_aload, tz_istore, tz_astore, tz_lstore, tz_dstore, tz_iinc, tz_i1, tz_i2, tz_i2z, tz_l2, tz_l2z, tz_i2l, tz_l2i, tz_lcmp, tz_i2d, tz_d2, tz_dcmp, tz_dup, tz_dup2, tz_pop, tz_if, tz_icmp, tz_null, tz_goto, tz_sw, tz_getf, tz_puti, tz_putz, tz_putr, tz_putl, tz_iaload, tz_baload, tz_laload, tz_aaload, tz_iastore, tz_bastore, tz_lastore, tz_aastore, tz_alen, tz_new, tz_newa, tz_oinit, tz_iret, tz_zret, tz_lret, tz_dret, tz_aret, tz_vret, tz_throw, tz_callS, tz_callV, tz_callI, tz_callR, tz_pureS, tz_pureV, tz_callVH, lg, lset, lkill, lst1, lst2, entL, isRf, is1, vl, va_rf_none, va_rf_some, isRf_rf, is1_rf, i0, i1, bI_eq0, bI_eq1, nm_em, nI_eqP, nI_leP, nI_ltP, nN_e1, nN_e2, nN_l1, nN_l2, nN_l3, nN_l4, nI_add, pk_mul, vp_inN, nI_cl, n01, n10, P_i, P_ii, P_iii, f_Mo_at, f_Mo_map, f_Mo_contact, f_Mo_within, f_Mo_isPort, f_Hp_endpoint, f_Hp_nodeOf, f_Hp_portOf, f_Ma_max, f_Ma_min, f_Hp_isSetting, popN, rok, a1, noX, swc, mL, if_true, if_false, ↓reduceIte, cond_true, cond_false, true_and, and_true, List.length_cons, List.length_nil, List.nil_append, List.cons_append, List.append_nil, Option.toList, Nat.reduceEqDiff, Bool.false_eq_true, reduceCtorEq, Nat.reduceAdd, Nat.reduceLT, Nat.reduceLeDiff, Nat.reduceSub, List.replicate, Nat.zero_add, Nat.lt_add_one, Nat.le_refl, Nat.zero_le, Nat.succ_ne_zero, not_false_eq_true, not_true_eq_false, false_implies, true_implies, forall_const, imp_self, true_or, or_true, eq_self, sI_zw, zw_zw, hI_zw, tg_zw, ln_zw, hR_zw, hL_zw, hN_zw, hM_zw, upd_s, upd_u, upd_ne, Classical.not_not, k_Mo_make, h1, h2, h3, h4, o1, n8]; try clear hgo9 hW9); try (obtain ⟨W9, hW9, hgo9⟩ := wp_ex (T_Mo_make l G) [] _; refine hgo9 200 _ _ _ _ ?_; simp -implicitDefEqProofs (disch := omega) only [hW9, inl, gate, Xq, tz_const, tz_iload, tz_lload, tz_dload, tz_aload, tz_istore, tz_astore, tz_lstore, tz_dstore, tz_iinc, tz_i1, tz_i2, tz_i2z, tz_l2, tz_l2z, tz_i2l, tz_l2i, tz_lcmp, tz_i2d, tz_d2, tz_dcmp, tz_dup, tz_dup2, tz_pop, tz_if, tz_icmp, tz_null, tz_goto, tz_sw, tz_getf, tz_puti, tz_putz, tz_putr, tz_putl, tz_iaload, tz_baload, tz_laload, tz_aaload, tz_iastore, tz_bastore, tz_lastore, tz_aastore, tz_alen, tz_new, tz_newa, tz_oinit, tz_iret, tz_zret, tz_lret, tz_dret, tz_aret, tz_vret, tz_throw, tz_callS, tz_callV, tz_callI, tz_callR, tz_pureS, tz_pureV, tz_callVH, lg, lset, lkill, lst1, lst2, entL, isRf, is1, vl, va_rf_none, va_rf_some, isRf_rf, is1_rf, i0, i1, bI_eq0, bI_eq1, nm_em, nI_eqP, nI_leP, nI_ltP, nN_e1, nN_e2, nN_l1, nN_l2, nN_l3, nN_l4, nI_add, pk_mul, vp_inN, nI_cl, n01, n10, P_i, P_ii, P_iii, f_Mo_at, f_Mo_map, f_Mo_contact, f_Mo_within, f_Mo_isPort, f_Hp_endpoint, f_Hp_nodeOf, f_Hp_portOf, f_Ma_max, f_Ma_min, f_Hp_isSetting, popN, rok, a1, noX, swc, mL, if_true, if_false, ↓reduceIte, cond_true, cond_false, true_and, and_true, List.length_cons, List.length_nil, List.nil_append, List.cons_append, List.append_nil, Option.toList, Nat.reduceEqDiff, Bool.false_eq_true, reduceCtorEq, Nat.reduceAdd, Nat.reduceLT, Nat.reduceLeDiff, Nat.reduceSub, List.replicate, Nat.zero_add, Nat.lt_add_one, Nat.le_refl, Nat.zero_le, Nat.succ_ne_zero, not_false_eq_true, not_true_eq_false, false_implies, true_implies, forall_const, imp_self, true_or, or_true, eq_self, sI_zw, zw_zw, hI_zw, tg_zw, ln_zw, hR_zw, hL_zw, hN_zw, hM_zw, upd_s, upd_u, upd_ne, Classical.not_not, k_Mo_make, h1, h2, h3, h4, o1, n8]; try clear hgo9 hW9))
    refine c_Mo_freshPort a zr t p r z' _ _ hm ht ho hf ?_
    simp only [aft]
    rcases hr with ⟨rfl, rfl, rfl⟩ | ⟨hn, rfl, rfl⟩
    · ((obtain ⟨W9, hW9, hgo9⟩ := wp_ex (T_Mo_make l G) [] _; refine hgo9 200 _ _ _ _ ?_; simp -implicitDefEqProofs (disch := omega) only [hW9, inl, gate, Xq, tz_const, tz_iload, tz_lload, tz_dload, tz_aload, tz_istore, tz_astore, tz_lstore, tz_dstore, tz_iinc, tz_i1, tz_i2, tz_i2z, tz_l2, tz_l2z, tz_i2l, tz_l2i, tz_lcmp, tz_i2d, tz_d2, tz_dcmp, tz_dup, tz_dup2, tz_pop, tz_if, tz_icmp, tz_null, tz_goto, tz_sw, tz_getf, tz_puti, tz_putz, tz_putr, tz_putl, tz_iaload, tz_baload, tz_laload, tz_aaload, tz_iastore, tz_bastore, tz_lastore, tz_aastore, tz_alen, tz_new, tz_newa, tz_oinit, tz_iret, tz_zret, tz_lret, tz_dret, tz_aret, tz_vret, tz_throw, tz_callS, tz_callV, tz_callI, tz_callR, tz_pureS, tz_pureV, tz_callVH, lg, lset, lkill, lst1, lst2, entL, isRf, is1, vl, va_rf_none, va_rf_some, isRf_rf, is1_rf, i0, i1, bI_eq0, bI_eq1, nm_em, nI_eqP, nI_leP, nI_ltP, nN_e1, nN_e2, nN_l1, nN_l2, nN_l3, nN_l4, nI_add, pk_mul, vp_inN, nI_cl, n01, n10, P_i, P_ii, P_iii, f_Mo_at, f_Mo_map, f_Mo_contact, f_Mo_within, f_Mo_isPort, f_Hp_endpoint, f_Hp_nodeOf, f_Hp_portOf, f_Ma_max, f_Ma_min, f_Hp_isSetting, popN, rok, a1, noX, swc, mL, if_true, if_false, ↓reduceIte, cond_true, cond_false, true_and, and_true, List.length_cons, List.length_nil, List.nil_append, List.cons_append, List.append_nil, Option.toList, Nat.reduceEqDiff, Bool.false_eq_true, reduceCtorEq, Nat.reduceAdd, Nat.reduceLT, Nat.reduceLeDiff, Nat.reduceSub, List.replicate, Nat.zero_add, Nat.lt_add_one, Nat.le_refl, Nat.zero_le, Nat.succ_ne_zero, not_false_eq_true, not_true_eq_false, false_implies, true_implies, forall_const, imp_self, true_or, or_true, eq_self, sI_zw, zw_zw, hI_zw, tg_zw, ln_zw, hR_zw, hL_zw, hN_zw, hM_zw, upd_s, upd_u, upd_ne, Classical.not_not, k_Mo_make, h1, h2, h3, h4]; try clear hgo9 hW9); try (obtain ⟨W9, hW9, hgo9⟩ := wp_ex (T_Mo_make l G) [] _; refine hgo9 200 _ _ _ _ ?_; simp -implicitDefEqProofs (disch := omega) only [hW9, inl, gate, Xq, tz_const, tz_iload, tz_lload, tz_dload, tz_aload, tz_istore, tz_astore, tz_lstore, tz_dstore, tz_iinc, tz_i1, tz_i2, tz_i2z, tz_l2, tz_l2z, tz_i2l, tz_l2i, tz_lcmp, tz_i2d, tz_d2, tz_dcmp, tz_dup, tz_dup2, tz_pop, tz_if, tz_icmp, tz_null, tz_goto, tz_sw, tz_getf, tz_puti, tz_putz, tz_putr, tz_putl, tz_iaload, tz_baload, tz_laload, tz_aaload, tz_iastore, tz_bastore, tz_lastore, tz_aastore, tz_alen, tz_new, tz_newa, tz_oinit, tz_iret, tz_zret, tz_lret, tz_dret, tz_aret, tz_vret, tz_throw, tz_callS, tz_callV, tz_callI, tz_callR, tz_pureS, tz_pureV, tz_callVH, lg, lset, lkill, lst1, lst2, entL, isRf, is1, vl, va_rf_none, va_rf_some, isRf_rf, is1_rf, i0, i1, bI_eq0, bI_eq1, nm_em, nI_eqP, nI_leP, nI_ltP, nN_e1, nN_e2, nN_l1, nN_l2, nN_l3, nN_l4, nI_add, pk_mul, vp_inN, nI_cl, n01, n10, P_i, P_ii, P_iii, f_Mo_at, f_Mo_map, f_Mo_contact, f_Mo_within, f_Mo_isPort, f_Hp_endpoint, f_Hp_nodeOf, f_Hp_portOf, f_Ma_max, f_Ma_min, f_Hp_isSetting, popN, rok, a1, noX, swc, mL, if_true, if_false, ↓reduceIte, cond_true, cond_false, true_and, and_true, List.length_cons, List.length_nil, List.nil_append, List.cons_append, List.append_nil, Option.toList, Nat.reduceEqDiff, Bool.false_eq_true, reduceCtorEq, Nat.reduceAdd, Nat.reduceLT, Nat.reduceLeDiff, Nat.reduceSub, List.replicate, Nat.zero_add, Nat.lt_add_one, Nat.le_refl, Nat.zero_le, Nat.succ_ne_zero, not_false_eq_true, not_true_eq_false, false_implies, true_implies, forall_const, imp_self, true_or, or_true, eq_self, sI_zw, zw_zw, hI_zw, tg_zw, ln_zw, hR_zw, hL_zw, hN_zw, hM_zw, upd_s, upd_u, upd_ne, Classical.not_not, k_Mo_make, h1, h2, h3, h4]; try clear hgo9 hW9))
      exact hQ
    · ((obtain ⟨W9, hW9, hgo9⟩ := wp_ex (T_Mo_make l G) [52] _; refine hgo9 200 _ _ _ _ ?_; simp -implicitDefEqProofs (disch := omega) only [hW9, inl, gate, Xq, tz_const, tz_iload, tz_lload, tz_dload, tz_aload, tz_istore, tz_astore, tz_lstore, tz_dstore, tz_iinc, tz_i1, tz_i2, tz_i2z, tz_l2, tz_l2z, tz_i2l, tz_l2i, tz_lcmp, tz_i2d, tz_d2, tz_dcmp, tz_dup, tz_dup2, tz_pop, tz_if, tz_icmp, tz_null, tz_goto, tz_sw, tz_getf, tz_puti, tz_putz, tz_putr, tz_putl, tz_iaload, tz_baload, tz_laload, tz_aaload, tz_iastore, tz_bastore, tz_lastore, tz_aastore, tz_alen, tz_new, tz_newa, tz_oinit, tz_iret, tz_zret, tz_lret, tz_dret, tz_aret, tz_vret, tz_throw, tz_callS, tz_callV, tz_callI, tz_callR, tz_pureS, tz_pureV, tz_callVH, lg, lset, lkill, lst1, lst2, entL, isRf, is1, vl, va_rf_none, va_rf_some, isRf_rf, is1_rf, i0, i1, bI_eq0, bI_eq1, nm_em, nI_eqP, nI_leP, nI_ltP, nN_e1, nN_e2, nN_l1, nN_l2, nN_l3, nN_l4, nI_add, pk_mul, vp_inN, nI_cl, n01, n10, P_i, P_ii, P_iii, f_Mo_at, f_Mo_map, f_Mo_contact, f_Mo_within, f_Mo_isPort, f_Hp_endpoint, f_Hp_nodeOf, f_Hp_portOf, f_Ma_max, f_Ma_min, f_Hp_isSetting, popN, rok, a1, noX, swc, mL, if_true, if_false, ↓reduceIte, cond_true, cond_false, true_and, and_true, List.length_cons, List.length_nil, List.nil_append, List.cons_append, List.append_nil, Option.toList, Nat.reduceEqDiff, Bool.false_eq_true, reduceCtorEq, Nat.reduceAdd, Nat.reduceLT, Nat.reduceLeDiff, Nat.reduceSub, List.replicate, Nat.zero_add, Nat.lt_add_one, Nat.le_refl, Nat.zero_le, Nat.succ_ne_zero, not_false_eq_true, not_true_eq_false, false_implies, true_implies, forall_const, imp_self, true_or, or_true, eq_self, sI_zw, zw_zw, hI_zw, tg_zw, ln_zw, hR_zw, hL_zw, hN_zw, hM_zw, upd_s, upd_u, upd_ne, Classical.not_not, k_Mo_make, h1, h2, h3, h4, hn]; try clear hgo9 hW9); try (obtain ⟨W9, hW9, hgo9⟩ := wp_ex (T_Mo_make l G) [52] _; refine hgo9 200 _ _ _ _ ?_; simp -implicitDefEqProofs (disch := omega) only [hW9, inl, gate, Xq, tz_const, tz_iload, tz_lload, tz_dload, tz_aload, tz_istore, tz_astore, tz_lstore, tz_dstore, tz_iinc, tz_i1, tz_i2, tz_i2z, tz_l2, tz_l2z, tz_i2l, tz_l2i, tz_lcmp, tz_i2d, tz_d2, tz_dcmp, tz_dup, tz_dup2, tz_pop, tz_if, tz_icmp, tz_null, tz_goto, tz_sw, tz_getf, tz_puti, tz_putz, tz_putr, tz_putl, tz_iaload, tz_baload, tz_laload, tz_aaload, tz_iastore, tz_bastore, tz_lastore, tz_aastore, tz_alen, tz_new, tz_newa, tz_oinit, tz_iret, tz_zret, tz_lret, tz_dret, tz_aret, tz_vret, tz_throw, tz_callS, tz_callV, tz_callI, tz_callR, tz_pureS, tz_pureV, tz_callVH, lg, lset, lkill, lst1, lst2, entL, isRf, is1, vl, va_rf_none, va_rf_some, isRf_rf, is1_rf, i0, i1, bI_eq0, bI_eq1, nm_em, nI_eqP, nI_leP, nI_ltP, nN_e1, nN_e2, nN_l1, nN_l2, nN_l3, nN_l4, nI_add, pk_mul, vp_inN, nI_cl, n01, n10, P_i, P_ii, P_iii, f_Mo_at, f_Mo_map, f_Mo_contact, f_Mo_within, f_Mo_isPort, f_Hp_endpoint, f_Hp_nodeOf, f_Hp_portOf, f_Ma_max, f_Ma_min, f_Hp_isSetting, popN, rok, a1, noX, swc, mL, if_true, if_false, ↓reduceIte, cond_true, cond_false, true_and, and_true, List.length_cons, List.length_nil, List.nil_append, List.cons_append, List.append_nil, Option.toList, Nat.reduceEqDiff, Bool.false_eq_true, reduceCtorEq, Nat.reduceAdd, Nat.reduceLT, Nat.reduceLeDiff, Nat.reduceSub, List.replicate, Nat.zero_add, Nat.lt_add_one, Nat.le_refl, Nat.zero_le, Nat.succ_ne_zero, not_false_eq_true, not_true_eq_false, false_implies, true_implies, forall_const, imp_self, true_or, or_true, eq_self, sI_zw, zw_zw, hI_zw, tg_zw, ln_zw, hR_zw, hL_zw, hN_zw, hM_zw, upd_s, upd_u, upd_ne, Classical.not_not, k_Mo_make, h1, h2, h3, h4, hn]; try clear hgo9 hW9))
      exact mk_tail hm ht e8 rfl ((hf.low (by omega) (by omega)).trans o1) hQ
end
