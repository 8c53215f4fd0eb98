/-! THE LAW: its body, case by case (written by a program) -/
abbrev M_Lw_law : Md := (x, code, 9, some (.boolean), 12, 502, [])
def kl_h (l : Launch) (G : Gc) (pc : Nat) : Tr :=
  if pc < 21 then
   if pc < 12 then
    if pc < 7 then
     if pc < 3 then
      if pc = 0 then tz_new 3 6 7 else dead
     else
      if pc < 4 then
       if pc = 3 then tz_dup 4 else dead
      else
       if pc = 4 then tz_callI l G 7 M_Hp_init 0 6 else dead
    else
     if pc < 8 then
      if pc = 7 then tz_astore 8 1 else dead
     else
      if pc < 11 then
       if pc = 8 then tz_new 11 7 16 else dead
      else
       if pc = 11 then tz_dup 12 else dead
   else
    if pc < 17 then
     if pc < 15 then
      if pc = 12 then tz_callI l G 15 M_Mo_init 0 7 else dead
     else
      if pc < 16 then
       if pc = 15 then tz_astore 16 2 else dead
      else
       if pc = 16 then tz_const 17 (.int (nI 1)) else dead
    else
     if pc < 19 then
      if pc = 17 then tz_newa 19 12 else dead
     else
      if pc < 20 then
       if pc = 19 then tz_astore 20 3 else dead
      else
       if pc = 20 then tz_const 21 (.int (nI 0)) else dead
  else
   if pc < 30 then
    if pc < 26 then
     if pc < 23 then
      if pc = 21 then tz_istore 23 4 else dead
     else
      if pc < 25 then
       if pc = 23 then tz_iload 25 4 else dead
      else
       if pc = 25 then tz_aload 26 0 else dead
    else
     if pc < 27 then
      if pc = 26 then tz_alen 27 else dead
     else
      if pc < 29 then
       if pc = 27 then tz_const 29 (.int (nI 7)) else dead
      else
       if pc = 29 then tz_i2 30 (fun a b => a - b) else dead
   else
    if pc < 36 then
     if pc < 33 then
      if pc = 30 then tz_icmp 33 1591 (fun a b => b < a) else dead
     else
      if pc < 34 then
       if pc = 33 then tz_aload 34 0 else dead
      else
       if pc = 34 then tz_iload 36 4 else dead
    else
     if pc < 39 then
      if pc < 37 then
       if pc = 36 then tz_iaload 37 else dead
      else
       if pc = 37 then tz_const 39 (.int (nI 31)) else dead
     else
      if pc < 40 then
       if pc = 39 then tz_i2 40 (fun a b => a &&& b) else dead
      else
       if pc = 40 then tz_sw [(nI 0, 152), (nI 1, 165), (nI 2, 221), (nI 3, 313), (nI 4, 393), (nI 5, 449), (nI 6, 462), (nI 7, 506), (nI 8, 562), (nI 9, 575), (nI 10, 588), (nI 11, 632), (nI 12, 724), (nI 13, 780), (nI 14, 898), (nI 15, 1006), (nI 16, 1098), (nI 17, 1154), (nI 18, 1222), (nI 19, 1290), (nI 20, 1370), (nI 21, 1462), (nI 22, 1530), (nI 23, 1571)] 1585 else dead
set_option maxRecDepth 100000 in
theorem tl_h (l : Launch) (G : Gc) : TabOK l G M_Lw_law (kl_h l G) := by
  intro pc
  unfold kl_h
  exact
   (sd_br
    (sd_br
     (sd_br
      (sd_br
       (sd_lf (sd_new (q := (RX6, TX6, 7)) (by decide +kernel : decode code 0 = .ok (.new 8, 3)) rfl (gm 88 (by decide +kernel) rfl)))
       (sd_br
        (sd_lf (sd_dup (by decide +kernel : decode code 3 = .ok (.dup, 1))))
        (sd_lf (sd_callI (by decide +kernel : decode code 4 = .ok (.invokespecial 76, 3)) ok_Hp_init (gm 90 (by decide +kernel) rfl) (gm 91 (by decide +kernel) rfl) rfl rfl (by decide +kernel) rfl rfl))))
      (sd_br
       (sd_lf (sd_astore_n (k := 1) (by decide +kernel : decode code 7 = .ok (.astore_n 1, 1))))
       (sd_br
        (sd_lf (sd_new (q := (RX7, TX7, 16)) (by decide +kernel : decode code 8 = .ok (.new 77, 3)) rfl (gm 906 (by decide +kernel) rfl)))
        (sd_lf (sd_dup (by decide +kernel : decode code 11 = .ok (.dup, 1)))))))
     (sd_br
      (sd_br
       (sd_lf (sd_callI (by decide +kernel : decode code 12 = .ok (.invokespecial 79, 3)) ok_Mo_init (gm 908 (by decide +kernel) rfl) (gm 909 (by decide +kernel) rfl) rfl rfl (by decide +kernel) rfl rfl))
       (sd_br
        (sd_lf (sd_astore_n (k := 2) (by decide +kernel : decode code 15 = .ok (.astore_n 2, 1))))
        (sd_lf (sd_iconst (by decide +kernel : decode code 16 = .ok (.iconst 1, 1)) (by decide +kernel)))))
      (sd_br
       (sd_lf (sd_newa (ty := .long) (by decide +kernel : decode code 17 = .ok (.newarray .long, 2)) rfl rfl (fun _ _ z => z) rfl (by decide +kernel) (gm 1261 (by decide +kernel) rfl)))
       (sd_br
        (sd_lf (sd_astore_n (k := 3) (by decide +kernel : decode code 19 = .ok (.astore_n 3, 1))))
        (sd_lf (sd_iconst (by decide +kernel : decode code 20 = .ok (.iconst 0, 1)) (by decide +kernel)))))))
    (sd_br
     (sd_br
      (sd_br
       (sd_lf (sd_istore (by decide +kernel : decode code 21 = .ok (.istore 4, 2))))
       (sd_br
        (sd_lf (sd_iload (by decide +kernel : decode code 23 = .ok (.iload 4, 2))))
        (sd_lf (sd_aload_n (k := 0) (by decide +kernel : decode code 25 = .ok (.aload_n 0, 1))))))
      (sd_br
       (sd_lf (sd_alen (by decide +kernel : decode code 26 = .ok (.arraylength, 1))))
       (sd_br
        (sd_lf (sd_bipush (by decide +kernel : decode code 27 = .ok (.bipush 7, 2)) (by decide +kernel)))
        (sd_lf (sd_isub (by decide +kernel : decode code 29 = .ok (.isub, 1)))))))
     (sd_br
      (sd_br
       (sd_lf (sd_icmp_gt (by decide +kernel : decode code 30 = .ok (.if_icmp .gt 1561, 3)) (by decide +kernel)))
       (sd_br
        (sd_lf (sd_aload_n (k := 0) (by decide +kernel : decode code 33 = .ok (.aload_n 0, 1))))
        (sd_lf (sd_iload (by decide +kernel : decode code 34 = .ok (.iload 4, 2))))))
      (sd_br
       (sd_br
        (sd_lf (sd_iaload (by decide +kernel : decode code 36 = .ok (.iaload, 1))))
        (sd_lf (sd_bipush (by decide +kernel : decode code 37 = .ok (.bipush 31, 2)) (by decide +kernel))))
       (sd_br
        (sd_lf (sd_iand (by decide +kernel : decode code 39 = .ok (.iand, 1))))
        (sd_lf (sd_tsw (by decide +kernel : decode code 40 = .ok (.tableswitch 1545 0 23 #[112, 125, 181, 273, 353, 409, 422, 466, 522, 535, 548, 592, 684, 740, 858, 966, 1058, 1114, 1182, 1250, 1330, 1422, 1490, 1531], 112)) (by decide +kernel) (by decide +kernel) (by decide +kernel))))))))
def kl_0 (l : Launch) (G : Gc) (pc : Nat) : Tr :=
  if pc < 157 then
   if pc < 153 then
    if pc = 152 then tz_aload 153 1 else dead
   else
    if pc < 156 then
     if pc = 153 then tz_callV l G 156 M_Hp_begin 0 6 else dead
    else
     if pc = 156 then tz_aload 157 2 else dead
  else
   if pc < 163 then
    if pc < 160 then
     if pc = 157 then tz_callV l G 160 M_Mo_begin 0 7 else dead
    else
     if pc = 160 then tz_icmp 163 1585 (fun a b => a = b) else dead
   else
    if pc < 164 then
     if pc = 163 then tz_const 164 (.int (nI 0)) else dead
    else
     if pc = 164 then tz_zret else dead
set_option maxRecDepth 100000 in
theorem tl_0 (l : Launch) (G : Gc) : TabOK l G M_Lw_law (kl_0 l G) := by
  intro pc
  unfold kl_0
  exact
   (sd_br
    (sd_br
     (sd_lf (sd_aload_n (k := 1) (by decide +kernel : decode code 152 = .ok (.aload_n 1, 1))))
     (sd_br
      (sd_lf (sd_callV (q := (RX6, TX6, 7)) (by decide +kernel : decode code 153 = .ok (.invokevirtual 80, 3)) ok_Hp_begin (gm 176 (by decide +kernel) rfl) (gm 177 (by decide +kernel) rfl) (gm 178 (by decide +kernel) rfl) rfl rfl (by decide +kernel) rfl rfl))
      (sd_lf (sd_aload_n (k := 2) (by decide +kernel : decode code 156 = .ok (.aload_n 2, 1))))))
    (sd_br
     (sd_br
      (sd_lf (sd_callV (q := (RX7, TX7, 16)) (by decide +kernel : decode code 157 = .ok (.invokevirtual 83, 3)) ok_Mo_begin (gm 966 (by decide +kernel) rfl) (gm 967 (by decide +kernel) rfl) (gm 968 (by decide +kernel) rfl) rfl rfl (by decide +kernel) rfl rfl))
      (sd_lf (sd_icmp_eq (by decide +kernel : decode code 160 = .ok (.if_icmp .eq 1425, 3)) (by decide +kernel))))
     (sd_br
      (sd_lf (sd_iconst (by decide +kernel : decode code 163 = .ok (.iconst 0, 1)) (by decide +kernel)))
      (sd_lf (sd_zret (by decide +kernel : decode code 164 = .ok (.ireturn, 1)) rfl)))))
def kl_1 (l : Launch) (G : Gc) (pc : Nat) : Tr :=
  if pc < 190 then
   if pc < 176 then
    if pc < 170 then
     if pc < 167 then
      if pc < 166 then
       if pc = 165 then tz_aload 166 1 else dead
      else
       if pc = 166 then tz_aload 167 0 else dead
     else
      if pc < 169 then
       if pc = 167 then tz_iload 169 4 else dead
      else
       if pc = 169 then tz_const 170 (.int (nI 1)) else dead
    else
     if pc < 172 then
      if pc < 171 then
       if pc = 170 then tz_i2 171 (fun a b => a + b) else dead
      else
       if pc = 171 then tz_iaload 172 else dead
     else
      if pc < 173 then
       if pc = 172 then tz_aload 173 3 else dead
      else
       if pc = 173 then tz_callR l G 176 M_Lw_addHost 3 else dead
   else
    if pc < 182 then
     if pc < 179 then
      if pc < 178 then
       if pc = 176 then tz_istore 178 5 else dead
      else
       if pc = 178 then tz_aload 179 2 else dead
     else
      if pc < 180 then
       if pc = 179 then tz_aload 180 0 else dead
      else
       if pc = 180 then tz_iload 182 4 else dead
    else
     if pc < 184 then
      if pc < 183 then
       if pc = 182 then tz_const 183 (.int (nI 1)) else dead
      else
       if pc = 183 then tz_i2 184 (fun a b => a + b) else dead
     else
      if pc < 185 then
       if pc = 184 then tz_iaload 185 else dead
      else
       if pc < 188 then
        if pc = 185 then tz_callV l G 188 M_Mo_addHost 1 7 else dead
       else
        if pc = 188 then tz_istore 190 6 else dead
  else
   if pc < 207 then
    if pc < 199 then
     if pc < 194 then
      if pc < 191 then
       if pc = 190 then tz_aload 191 2 else dead
      else
       if pc = 191 then tz_pureV 194 0 7 P_Mo_thrown f_Mo_thrown else dead
     else
      if pc < 196 then
       if pc = 194 then tz_iload 196 5 else dead
      else
       if pc = 196 then tz_icmp 199 201 (fun a b => a = b) else dead
    else
     if pc < 201 then
      if pc < 200 then
       if pc = 199 then tz_const 200 (.int (nI 0)) else dead
      else
       if pc = 200 then tz_zret else dead
     else
      if pc < 203 then
       if pc = 201 then tz_iload 203 5 else dead
      else
       if pc < 206 then
        if pc = 203 then tz_if 206 218 (fun a => ¬ a = 0) else dead
       else
        if pc = 206 then tz_aload 207 3 else dead
   else
    if pc < 212 then
     if pc < 209 then
      if pc < 208 then
       if pc = 207 then tz_const 208 (.int (nI 0)) else dead
      else
       if pc = 208 then tz_laload 209 else dead
     else
      if pc < 211 then
       if pc = 209 then tz_iload 211 6 else dead
      else
       if pc = 211 then tz_i2l 212 else dead
    else
     if pc < 216 then
      if pc < 213 then
       if pc = 212 then tz_lcmp 213 else dead
      else
       if pc = 213 then tz_if 216 218 (fun a => a = 0) else dead
     else
      if pc < 217 then
       if pc = 216 then tz_const 217 (.int (nI 0)) else dead
      else
       if pc < 218 then
        if pc = 217 then tz_zret else dead
       else
        if pc = 218 then tz_goto 1585 else dead
set_option maxRecDepth 100000 in
theorem tl_1 (l : Launch) (G : Gc) : TabOK l G M_Lw_law (kl_1 l G) := by
  intro pc
  unfold kl_1
  exact
   (sd_br
    (sd_br
     (sd_br
      (sd_br
       (sd_br
        (sd_lf (sd_aload_n (k := 1) (by decide +kernel : decode code 165 = .ok (.aload_n 1, 1))))
        (sd_lf (sd_aload_n (k := 0) (by decide +kernel : decode code 166 = .ok (.aload_n 0, 1)))))
       (sd_br
        (sd_lf (sd_iload (by decide +kernel : decode code 167 = .ok (.iload 4, 2))))
        (sd_lf (sd_iconst (by decide +kernel : decode code 169 = .ok (.iconst 1, 1)) (by decide +kernel)))))
      (sd_br
       (sd_br
        (sd_lf (sd_iadd (by decide +kernel : decode code 170 = .ok (.iadd, 1))))
        (sd_lf (sd_iaload (by decide +kernel : decode code 171 = .ok (.iaload, 1)))))
       (sd_br
        (sd_lf (sd_aload_n (k := 3) (by decide +kernel : decode code 172 = .ok (.aload_n 3, 1))))
        (sd_lf (sd_callSH (by decide +kernel : decode code 173 = .ok (.invokestatic 84, 3)) ok_Lw_addHost (gm 481 (by decide +kernel) rfl) (gm 482 (by decide +kernel) rfl) (by decide +kernel) rfl)))))
     (sd_br
      (sd_br
       (sd_br
        (sd_lf (sd_istore (by decide +kernel : decode code 176 = .ok (.istore 5, 2))))
        (sd_lf (sd_aload_n (k := 2) (by decide +kernel : decode code 178 = .ok (.aload_n 2, 1)))))
       (sd_br
        (sd_lf (sd_aload_n (k := 0) (by decide +kernel : decode code 179 = .ok (.aload_n 0, 1))))
        (sd_lf (sd_iload (by decide +kernel : decode code 180 = .ok (.iload 4, 2))))))
      (sd_br
       (sd_br
        (sd_lf (sd_iconst (by decide +kernel : decode code 182 = .ok (.iconst 1, 1)) (by decide +kernel)))
        (sd_lf (sd_iadd (by decide +kernel : decode code 183 = .ok (.iadd, 1)))))
       (sd_br
        (sd_lf (sd_iaload (by decide +kernel : decode code 184 = .ok (.iaload, 1))))
        (sd_br
         (sd_lf (sd_callV (q := (RX7, TX7, 16)) (by decide +kernel : decode code 185 = .ok (.invokevirtual 89, 3)) ok_Mo_addHost (gm 974 (by decide +kernel) rfl) (gm 975 (by decide +kernel) rfl) (gm 976 (by decide +kernel) rfl) rfl rfl (by decide +kernel) rfl rfl))
         (sd_lf (sd_istore (by decide +kernel : decode code 188 = .ok (.istore 6, 2)))))))))
    (sd_br
     (sd_br
      (sd_br
       (sd_br
        (sd_lf (sd_aload_n (k := 2) (by decide +kernel : decode code 190 = .ok (.aload_n 2, 1))))
        (sd_lf (sd_pureV (sd_callV (q := (RX7, TX7, 16)) (by decide +kernel : decode code 191 = .ok (.invokevirtual 90, 3)) ok_Mo_thrown (gm 962 (by decide +kernel) rfl) (gm 963 (by decide +kernel) rfl) (gm 964 (by decide +kernel) rfl) rfl rfl (by decide +kernel) rfl rfl) c_Mo_thrown)))
       (sd_br
        (sd_lf (sd_iload (by decide +kernel : decode code 194 = .ok (.iload 5, 2))))
        (sd_lf (sd_icmp_eq (by decide +kernel : decode code 196 = .ok (.if_icmp .eq 5, 3)) (by decide +kernel)))))
      (sd_br
       (sd_br
        (sd_lf (sd_iconst (by decide +kernel : decode code 199 = .ok (.iconst 0, 1)) (by decide +kernel)))
        (sd_lf (sd_zret (by decide +kernel : decode code 200 = .ok (.ireturn, 1)) rfl)))
       (sd_br
        (sd_lf (sd_iload (by decide +kernel : decode code 201 = .ok (.iload 5, 2))))
        (sd_br
         (sd_lf (sd_if_ne (by decide +kernel : decode code 203 = .ok (.ifCond .ne 15, 3)) (by decide +kernel)))
         (sd_lf (sd_aload_n (k := 3) (by decide +kernel : decode code 206 = .ok (.aload_n 3, 1))))))))
     (sd_br
      (sd_br
       (sd_br
        (sd_lf (sd_iconst (by decide +kernel : decode code 207 = .ok (.iconst 0, 1)) (by decide +kernel)))
        (sd_lf (sd_laload (by decide +kernel : decode code 208 = .ok (.laload, 1)))))
       (sd_br
        (sd_lf (sd_iload (by decide +kernel : decode code 209 = .ok (.iload 6, 2))))
        (sd_lf (sd_i2l (by decide +kernel : decode code 211 = .ok (.i2l, 1))))))
      (sd_br
       (sd_br
        (sd_lf (sd_lcmp (by decide +kernel : decode code 212 = .ok (.lcmp, 1))))
        (sd_lf (sd_if_eq (by decide +kernel : decode code 213 = .ok (.ifCond .eq 5, 3)) (by decide +kernel))))
       (sd_br
        (sd_lf (sd_iconst (by decide +kernel : decode code 216 = .ok (.iconst 0, 1)) (by decide +kernel)))
        (sd_br
         (sd_lf (sd_zret (by decide +kernel : decode code 217 = .ok (.ireturn, 1)) rfl))
         (sd_lf (sd_goto (by decide +kernel : decode code 218 = .ok (.goto 1367, 3)) (by decide +kernel)))))))))
def kl_2 (l : Launch) (G : Gc) (pc : Nat) : Tr :=
  if pc < 262 then
   if pc < 240 then
    if pc < 231 then
     if pc < 226 then
      if pc < 223 then
       if pc < 222 then
        if pc = 221 then tz_aload 222 1 else dead
       else
        if pc = 222 then tz_aload 223 0 else dead
      else
       if pc < 225 then
        if pc = 223 then tz_iload 225 4 else dead
       else
        if pc = 225 then tz_const 226 (.int (nI 1)) else dead
     else
      if pc < 228 then
       if pc < 227 then
        if pc = 226 then tz_i2 227 (fun a b => a + b) else dead
       else
        if pc = 227 then tz_iaload 228 else dead
      else
       if pc < 229 then
        if pc = 228 then tz_aload 229 0 else dead
       else
        if pc = 229 then tz_iload 231 4 else dead
    else
     if pc < 235 then
      if pc < 233 then
       if pc < 232 then
        if pc = 231 then tz_const 232 (.int (nI 2)) else dead
       else
        if pc = 232 then tz_i2 233 (fun a b => a + b) else dead
      else
       if pc < 234 then
        if pc = 233 then tz_iaload 234 else dead
       else
        if pc = 234 then tz_aload 235 0 else dead
     else
      if pc < 238 then
       if pc < 237 then
        if pc = 235 then tz_iload 237 4 else dead
       else
        if pc = 237 then tz_const 238 (.int (nI 3)) else dead
      else
       if pc < 239 then
        if pc = 238 then tz_i2 239 (fun a b => a + b) else dead
       else
        if pc = 239 then tz_iaload 240 else dead
   else
    if pc < 252 then
     if pc < 245 then
      if pc < 243 then
       if pc < 241 then
        if pc = 240 then tz_aload 241 0 else dead
       else
        if pc = 241 then tz_iload 243 4 else dead
      else
       if pc < 244 then
        if pc = 243 then tz_const 244 (.int (nI 4)) else dead
       else
        if pc = 244 then tz_i2 245 (fun a b => a + b) else dead
     else
      if pc < 247 then
       if pc < 246 then
        if pc = 245 then tz_iaload 246 else dead
       else
        if pc = 246 then tz_aload 247 3 else dead
      else
       if pc < 250 then
        if pc = 247 then tz_callR l G 250 M_Lw_addTranslator 6 else dead
       else
        if pc = 250 then tz_istore 252 5 else dead
    else
     if pc < 257 then
      if pc < 254 then
       if pc < 253 then
        if pc = 252 then tz_aload 253 2 else dead
       else
        if pc = 253 then tz_aload 254 0 else dead
      else
       if pc < 256 then
        if pc = 254 then tz_iload 256 4 else dead
       else
        if pc = 256 then tz_const 257 (.int (nI 1)) else dead
     else
      if pc < 259 then
       if pc < 258 then
        if pc = 257 then tz_i2 258 (fun a b => a + b) else dead
       else
        if pc = 258 then tz_iaload 259 else dead
      else
       if pc < 260 then
        if pc = 259 then tz_aload 260 0 else dead
       else
        if pc = 260 then tz_iload 262 4 else dead
  else
   if pc < 283 then
    if pc < 271 then
     if pc < 266 then
      if pc < 264 then
       if pc < 263 then
        if pc = 262 then tz_const 263 (.int (nI 2)) else dead
       else
        if pc = 263 then tz_i2 264 (fun a b => a + b) else dead
      else
       if pc < 265 then
        if pc = 264 then tz_iaload 265 else dead
       else
        if pc = 265 then tz_aload 266 0 else dead
     else
      if pc < 269 then
       if pc < 268 then
        if pc = 266 then tz_iload 268 4 else dead
       else
        if pc = 268 then tz_const 269 (.int (nI 3)) else dead
      else
       if pc < 270 then
        if pc = 269 then tz_i2 270 (fun a b => a + b) else dead
       else
        if pc = 270 then tz_iaload 271 else dead
    else
     if pc < 276 then
      if pc < 274 then
       if pc < 272 then
        if pc = 271 then tz_aload 272 0 else dead
       else
        if pc = 272 then tz_iload 274 4 else dead
      else
       if pc < 275 then
        if pc = 274 then tz_const 275 (.int (nI 4)) else dead
       else
        if pc = 275 then tz_i2 276 (fun a b => a + b) else dead
     else
      if pc < 280 then
       if pc < 277 then
        if pc = 276 then tz_iaload 277 else dead
       else
        if pc = 277 then tz_callV l G 280 M_Mo_addTranslator 4 7 else dead
      else
       if pc < 282 then
        if pc = 280 then tz_istore 282 6 else dead
       else
        if pc = 282 then tz_aload 283 2 else dead
   else
    if pc < 299 then
     if pc < 292 then
      if pc < 288 then
       if pc < 286 then
        if pc = 283 then tz_pureV 286 0 7 P_Mo_thrown f_Mo_thrown else dead
       else
        if pc = 286 then tz_iload 288 5 else dead
      else
       if pc < 291 then
        if pc = 288 then tz_icmp 291 293 (fun a b => a = b) else dead
       else
        if pc = 291 then tz_const 292 (.int (nI 0)) else dead
     else
      if pc < 295 then
       if pc < 293 then
        if pc = 292 then tz_zret else dead
       else
        if pc = 293 then tz_iload 295 5 else dead
      else
       if pc < 298 then
        if pc = 295 then tz_if 298 310 (fun a => ¬ a = 0) else dead
       else
        if pc = 298 then tz_aload 299 3 else dead
    else
     if pc < 304 then
      if pc < 301 then
       if pc < 300 then
        if pc = 299 then tz_const 300 (.int (nI 0)) else dead
       else
        if pc = 300 then tz_laload 301 else dead
      else
       if pc < 303 then
        if pc = 301 then tz_iload 303 6 else dead
       else
        if pc = 303 then tz_i2l 304 else dead
     else
      if pc < 308 then
       if pc < 305 then
        if pc = 304 then tz_lcmp 305 else dead
       else
        if pc = 305 then tz_if 308 310 (fun a => a = 0) else dead
      else
       if pc < 309 then
        if pc = 308 then tz_const 309 (.int (nI 0)) else dead
       else
        if pc < 310 then
         if pc = 309 then tz_zret else dead
        else
         if pc = 310 then tz_goto 1585 else dead
set_option maxRecDepth 100000 in
theorem tl_2 (l : Launch) (G : Gc) : TabOK l G M_Lw_law (kl_2 l G) := by
  intro pc
  unfold kl_2
  exact
   (sd_br
    (sd_br
     (sd_br
      (sd_br
       (sd_br
        (sd_br
         (sd_lf (sd_aload_n (k := 1) (by decide +kernel : decode code 221 = .ok (.aload_n 1, 1))))
         (sd_lf (sd_aload_n (k := 0) (by decide +kernel : decode code 222 = .ok (.aload_n 0, 1)))))
        (sd_br
         (sd_lf (sd_iload (by decide +kernel : decode code 223 = .ok (.iload 4, 2))))
         (sd_lf (sd_iconst (by decide +kernel : decode code 225 = .ok (.iconst 1, 1)) (by decide +kernel)))))
       (sd_br
        (sd_br
         (sd_lf (sd_iadd (by decide +kernel : decode code 226 = .ok (.iadd, 1))))
         (sd_lf (sd_iaload (by decide +kernel : decode code 227 = .ok (.iaload, 1)))))
        (sd_br
         (sd_lf (sd_aload_n (k := 0) (by decide +kernel : decode code 228 = .ok (.aload_n 0, 1))))
         (sd_lf (sd_iload (by decide +kernel : decode code 229 = .ok (.iload 4, 2)))))))
      (sd_br
       (sd_br
        (sd_br
         (sd_lf (sd_iconst (by decide +kernel : decode code 231 = .ok (.iconst 2, 1)) (by decide +kernel)))
         (sd_lf (sd_iadd (by decide +kernel : decode code 232 = .ok (.iadd, 1)))))
        (sd_br
         (sd_lf (sd_iaload (by decide +kernel : decode code 233 = .ok (.iaload, 1))))
         (sd_lf (sd_aload_n (k := 0) (by decide +kernel : decode code 234 = .ok (.aload_n 0, 1))))))
       (sd_br
        (sd_br
         (sd_lf (sd_iload (by decide +kernel : decode code 235 = .ok (.iload 4, 2))))
         (sd_lf (sd_iconst (by decide +kernel : decode code 237 = .ok (.iconst 3, 1)) (by decide +kernel))))
        (sd_br
         (sd_lf (sd_iadd (by decide +kernel : decode code 238 = .ok (.iadd, 1))))
         (sd_lf (sd_iaload (by decide +kernel : decode code 239 = .ok (.iaload, 1))))))))
     (sd_br
      (sd_br
       (sd_br
        (sd_br
         (sd_lf (sd_aload_n (k := 0) (by decide +kernel : decode code 240 = .ok (.aload_n 0, 1))))
         (sd_lf (sd_iload (by decide +kernel : decode code 241 = .ok (.iload 4, 2)))))
        (sd_br
         (sd_lf (sd_iconst (by decide +kernel : decode code 243 = .ok (.iconst 4, 1)) (by decide +kernel)))
         (sd_lf (sd_iadd (by decide +kernel : decode code 244 = .ok (.iadd, 1))))))
       (sd_br
        (sd_br
         (sd_lf (sd_iaload (by decide +kernel : decode code 245 = .ok (.iaload, 1))))
         (sd_lf (sd_aload_n (k := 3) (by decide +kernel : decode code 246 = .ok (.aload_n 3, 1)))))
        (sd_br
         (sd_lf (sd_callSH (by decide +kernel : decode code 247 = .ok (.invokestatic 93, 3)) ok_Lw_addTranslator (gm 580 (by decide +kernel) rfl) (gm 581 (by decide +kernel) rfl) (by decide +kernel) rfl))
         (sd_lf (sd_istore (by decide +kernel : decode code 250 = .ok (.istore 5, 2)))))))
      (sd_br
       (sd_br
        (sd_br
         (sd_lf (sd_aload_n (k := 2) (by decide +kernel : decode code 252 = .ok (.aload_n 2, 1))))
         (sd_lf (sd_aload_n (k := 0) (by decide +kernel : decode code 253 = .ok (.aload_n 0, 1)))))
        (sd_br
         (sd_lf (sd_iload (by decide +kernel : decode code 254 = .ok (.iload 4, 2))))
         (sd_lf (sd_iconst (by decide +kernel : decode code 256 = .ok (.iconst 1, 1)) (by decide +kernel)))))
       (sd_br
        (sd_br
         (sd_lf (sd_iadd (by decide +kernel : decode code 257 = .ok (.iadd, 1))))
         (sd_lf (sd_iaload (by decide +kernel : decode code 258 = .ok (.iaload, 1)))))
        (sd_br
         (sd_lf (sd_aload_n (k := 0) (by decide +kernel : decode code 259 = .ok (.aload_n 0, 1))))
         (sd_lf (sd_iload (by decide +kernel : decode code 260 = .ok (.iload 4, 2)))))))))
    (sd_br
     (sd_br
      (sd_br
       (sd_br
        (sd_br
         (sd_lf (sd_iconst (by decide +kernel : decode code 262 = .ok (.iconst 2, 1)) (by decide +kernel)))
         (sd_lf (sd_iadd (by decide +kernel : decode code 263 = .ok (.iadd, 1)))))
        (sd_br
         (sd_lf (sd_iaload (by decide +kernel : decode code 264 = .ok (.iaload, 1))))
         (sd_lf (sd_aload_n (k := 0) (by decide +kernel : decode code 265 = .ok (.aload_n 0, 1))))))
       (sd_br
        (sd_br
         (sd_lf (sd_iload (by decide +kernel : decode code 266 = .ok (.iload 4, 2))))
         (sd_lf (sd_iconst (by decide +kernel : decode code 268 = .ok (.iconst 3, 1)) (by decide +kernel))))
        (sd_br
         (sd_lf (sd_iadd (by decide +kernel : decode code 269 = .ok (.iadd, 1))))
         (sd_lf (sd_iaload (by decide +kernel : decode code 270 = .ok (.iaload, 1)))))))
      (sd_br
       (sd_br
        (sd_br
         (sd_lf (sd_aload_n (k := 0) (by decide +kernel : decode code 271 = .ok (.aload_n 0, 1))))
         (sd_lf (sd_iload (by decide +kernel : decode code 272 = .ok (.iload 4, 2)))))
        (sd_br
         (sd_lf (sd_iconst (by decide +kernel : decode code 274 = .ok (.iconst 4, 1)) (by decide +kernel)))
         (sd_lf (sd_iadd (by decide +kernel : decode code 275 = .ok (.iadd, 1))))))
       (sd_br
        (sd_br
         (sd_lf (sd_iaload (by decide +kernel : decode code 276 = .ok (.iaload, 1))))
         (sd_lf (sd_callV (q := (RX7, TX7, 16)) (by decide +kernel : decode code 277 = .ok (.invokevirtual 96, 3)) ok_Mo_addTranslator (gm 1000 (by decide +kernel) rfl) (gm 1001 (by decide +kernel) rfl) (gm 1002 (by decide +kernel) rfl) rfl rfl (by decide +kernel) rfl rfl)))
        (sd_br
         (sd_lf (sd_istore (by decide +kernel : decode code 280 = .ok (.istore 6, 2))))
         (sd_lf (sd_aload_n (k := 2) (by decide +kernel : decode code 282 = .ok (.aload_n 2, 1))))))))
     (sd_br
      (sd_br
       (sd_br
        (sd_br
         (sd_lf (sd_pureV (sd_callV (q := (RX7, TX7, 16)) (by decide +kernel : decode code 283 = .ok (.invokevirtual 90, 3)) ok_Mo_thrown (gm 962 (by decide +kernel) rfl) (gm 963 (by decide +kernel) rfl) (gm 964 (by decide +kernel) rfl) rfl rfl (by decide +kernel) rfl rfl) c_Mo_thrown))
         (sd_lf (sd_iload (by decide +kernel : decode code 286 = .ok (.iload 5, 2)))))
        (sd_br
         (sd_lf (sd_icmp_eq (by decide +kernel : decode code 288 = .ok (.if_icmp .eq 5, 3)) (by decide +kernel)))
         (sd_lf (sd_iconst (by decide +kernel : decode code 291 = .ok (.iconst 0, 1)) (by decide +kernel)))))
       (sd_br
        (sd_br
         (sd_lf (sd_zret (by decide +kernel : decode code 292 = .ok (.ireturn, 1)) rfl))
         (sd_lf (sd_iload (by decide +kernel : decode code 293 = .ok (.iload 5, 2)))))
        (sd_br
         (sd_lf (sd_if_ne (by decide +kernel : decode code 295 = .ok (.ifCond .ne 15, 3)) (by decide +kernel)))
         (sd_lf (sd_aload_n (k := 3) (by decide +kernel : decode code 298 = .ok (.aload_n 3, 1)))))))
      (sd_br
       (sd_br
        (sd_br
         (sd_lf (sd_iconst (by decide +kernel : decode code 299 = .ok (.iconst 0, 1)) (by decide +kernel)))
         (sd_lf (sd_laload (by decide +kernel : decode code 300 = .ok (.laload, 1)))))
        (sd_br
         (sd_lf (sd_iload (by decide +kernel : decode code 301 = .ok (.iload 6, 2))))
         (sd_lf (sd_i2l (by decide +kernel : decode code 303 = .ok (.i2l, 1))))))
       (sd_br
        (sd_br
         (sd_lf (sd_lcmp (by decide +kernel : decode code 304 = .ok (.lcmp, 1))))
         (sd_lf (sd_if_eq (by decide +kernel : decode code 305 = .ok (.ifCond .eq 5, 3)) (by decide +kernel))))
        (sd_br
         (sd_lf (sd_iconst (by decide +kernel : decode code 308 = .ok (.iconst 0, 1)) (by decide +kernel)))
         (sd_br
          (sd_lf (sd_zret (by decide +kernel : decode code 309 = .ok (.ireturn, 1)) rfl))
          (sd_lf (sd_goto (by decide +kernel : decode code 310 = .ok (.goto 1275, 3)) (by decide +kernel))))))))))
def kl_3 (l : Launch) (G : Gc) (pc : Nat) : Tr :=
  if pc < 348 then
   if pc < 329 then
    if pc < 320 then
     if pc < 317 then
      if pc < 314 then
       if pc = 313 then tz_aload 314 1 else dead
      else
       if pc < 315 then
        if pc = 314 then tz_aload 315 0 else dead
       else
        if pc = 315 then tz_iload 317 4 else dead
     else
      if pc < 318 then
       if pc = 317 then tz_const 318 (.int (nI 1)) else dead
      else
       if pc < 319 then
        if pc = 318 then tz_i2 319 (fun a b => a + b) else dead
       else
        if pc = 319 then tz_iaload 320 else dead
    else
     if pc < 324 then
      if pc < 321 then
       if pc = 320 then tz_aload 321 0 else dead
      else
       if pc < 323 then
        if pc = 321 then tz_iload 323 4 else dead
       else
        if pc = 323 then tz_const 324 (.int (nI 2)) else dead
     else
      if pc < 326 then
       if pc < 325 then
        if pc = 324 then tz_i2 325 (fun a b => a + b) else dead
       else
        if pc = 325 then tz_iaload 326 else dead
      else
       if pc < 327 then
        if pc = 326 then tz_aload 327 0 else dead
       else
        if pc = 327 then tz_iload 329 4 else dead
   else
    if pc < 339 then
     if pc < 332 then
      if pc < 330 then
       if pc = 329 then tz_const 330 (.int (nI 3)) else dead
      else
       if pc < 331 then
        if pc = 330 then tz_i2 331 (fun a b => a + b) else dead
       else
        if pc = 331 then tz_iaload 332 else dead
     else
      if pc < 336 then
       if pc < 333 then
        if pc = 332 then tz_aload 333 3 else dead
       else
        if pc = 333 then tz_callR l G 336 M_Lw_setNumber 5 else dead
      else
       if pc < 338 then
        if pc = 336 then tz_istore 338 5 else dead
       else
        if pc = 338 then tz_aload 339 2 else dead
    else
     if pc < 343 then
      if pc < 340 then
       if pc = 339 then tz_aload 340 0 else dead
      else
       if pc < 342 then
        if pc = 340 then tz_iload 342 4 else dead
       else
        if pc = 342 then tz_const 343 (.int (nI 1)) else dead
     else
      if pc < 345 then
       if pc < 344 then
        if pc = 343 then tz_i2 344 (fun a b => a + b) else dead
       else
        if pc = 344 then tz_iaload 345 else dead
      else
       if pc < 346 then
        if pc = 345 then tz_aload 346 0 else dead
       else
        if pc = 346 then tz_iload 348 4 else dead
  else
   if pc < 371 then
    if pc < 356 then
     if pc < 351 then
      if pc < 349 then
       if pc = 348 then tz_const 349 (.int (nI 2)) else dead
      else
       if pc < 350 then
        if pc = 349 then tz_i2 350 (fun a b => a + b) else dead
       else
        if pc = 350 then tz_iaload 351 else dead
     else
      if pc < 354 then
       if pc < 352 then
        if pc = 351 then tz_aload 352 0 else dead
       else
        if pc = 352 then tz_iload 354 4 else dead
      else
       if pc < 355 then
        if pc = 354 then tz_const 355 (.int (nI 3)) else dead
       else
        if pc = 355 then tz_i2 356 (fun a b => a + b) else dead
    else
     if pc < 362 then
      if pc < 357 then
       if pc = 356 then tz_iaload 357 else dead
      else
       if pc < 360 then
        if pc = 357 then tz_callV l G 360 M_Mo_setNumber 3 7 else dead
       else
        if pc = 360 then tz_istore 362 6 else dead
     else
      if pc < 366 then
       if pc < 363 then
        if pc = 362 then tz_aload 363 2 else dead
       else
        if pc = 363 then tz_pureV 366 0 7 P_Mo_thrown f_Mo_thrown else dead
      else
       if pc < 368 then
        if pc = 366 then tz_iload 368 5 else dead
       else
        if pc = 368 then tz_icmp 371 373 (fun a b => a = b) else dead
   else
    if pc < 381 then
     if pc < 375 then
      if pc < 372 then
       if pc = 371 then tz_const 372 (.int (nI 0)) else dead
      else
       if pc < 373 then
        if pc = 372 then tz_zret else dead
       else
        if pc = 373 then tz_iload 375 5 else dead
     else
      if pc < 379 then
       if pc < 378 then
        if pc = 375 then tz_if 378 390 (fun a => ¬ a = 0) else dead
       else
        if pc = 378 then tz_aload 379 3 else dead
      else
       if pc < 380 then
        if pc = 379 then tz_const 380 (.int (nI 0)) else dead
       else
        if pc = 380 then tz_laload 381 else dead
    else
     if pc < 385 then
      if pc < 383 then
       if pc = 381 then tz_iload 383 6 else dead
      else
       if pc < 384 then
        if pc = 383 then tz_i2l 384 else dead
       else
        if pc = 384 then tz_lcmp 385 else dead
     else
      if pc < 389 then
       if pc < 388 then
        if pc = 385 then tz_if 388 390 (fun a => a = 0) else dead
       else
        if pc = 388 then tz_const 389 (.int (nI 0)) else dead
      else
       if pc < 390 then
        if pc = 389 then tz_zret else dead
       else
        if pc = 390 then tz_goto 1585 else dead
set_option maxRecDepth 100000 in
theorem tl_3 (l : Launch) (G : Gc) : TabOK l G M_Lw_law (kl_3 l G) := by
  intro pc
  unfold kl_3
  exact
   (sd_br
    (sd_br
     (sd_br
      (sd_br
       (sd_br
        (sd_lf (sd_aload_n (k := 1) (by decide +kernel : decode code 313 = .ok (.aload_n 1, 1))))
        (sd_br
         (sd_lf (sd_aload_n (k := 0) (by decide +kernel : decode code 314 = .ok (.aload_n 0, 1))))
         (sd_lf (sd_iload (by decide +kernel : decode code 315 = .ok (.iload 4, 2))))))
       (sd_br
        (sd_lf (sd_iconst (by decide +kernel : decode code 317 = .ok (.iconst 1, 1)) (by decide +kernel)))
        (sd_br
         (sd_lf (sd_iadd (by decide +kernel : decode code 318 = .ok (.iadd, 1))))
         (sd_lf (sd_iaload (by decide +kernel : decode code 319 = .ok (.iaload, 1)))))))
      (sd_br
       (sd_br
        (sd_lf (sd_aload_n (k := 0) (by decide +kernel : decode code 320 = .ok (.aload_n 0, 1))))
        (sd_br
         (sd_lf (sd_iload (by decide +kernel : decode code 321 = .ok (.iload 4, 2))))
         (sd_lf (sd_iconst (by decide +kernel : decode code 323 = .ok (.iconst 2, 1)) (by decide +kernel)))))
       (sd_br
        (sd_br
         (sd_lf (sd_iadd (by decide +kernel : decode code 324 = .ok (.iadd, 1))))
         (sd_lf (sd_iaload (by decide +kernel : decode code 325 = .ok (.iaload, 1)))))
        (sd_br
         (sd_lf (sd_aload_n (k := 0) (by decide +kernel : decode code 326 = .ok (.aload_n 0, 1))))
         (sd_lf (sd_iload (by decide +kernel : decode code 327 = .ok (.iload 4, 2))))))))
     (sd_br
      (sd_br
       (sd_br
        (sd_lf (sd_iconst (by decide +kernel : decode code 329 = .ok (.iconst 3, 1)) (by decide +kernel)))
        (sd_br
         (sd_lf (sd_iadd (by decide +kernel : decode code 330 = .ok (.iadd, 1))))
         (sd_lf (sd_iaload (by decide +kernel : decode code 331 = .ok (.iaload, 1))))))
       (sd_br
        (sd_br
         (sd_lf (sd_aload_n (k := 3) (by decide +kernel : decode code 332 = .ok (.aload_n 3, 1))))
         (sd_lf (sd_callSH (by decide +kernel : decode code 333 = .ok (.invokestatic 97, 3)) ok_Lw_setNumber (gm 608 (by decide +kernel) rfl) (gm 609 (by decide +kernel) rfl) (by decide +kernel) rfl)))
        (sd_br
         (sd_lf (sd_istore (by decide +kernel : decode code 336 = .ok (.istore 5, 2))))
         (sd_lf (sd_aload_n (k := 2) (by decide +kernel : decode code 338 = .ok (.aload_n 2, 1)))))))
      (sd_br
       (sd_br
        (sd_lf (sd_aload_n (k := 0) (by decide +kernel : decode code 339 = .ok (.aload_n 0, 1))))
        (sd_br
         (sd_lf (sd_iload (by decide +kernel : decode code 340 = .ok (.iload 4, 2))))
         (sd_lf (sd_iconst (by decide +kernel : decode code 342 = .ok (.iconst 1, 1)) (by decide +kernel)))))
       (sd_br
        (sd_br
         (sd_lf (sd_iadd (by decide +kernel : decode code 343 = .ok (.iadd, 1))))
         (sd_lf (sd_iaload (by decide +kernel : decode code 344 = .ok (.iaload, 1)))))
        (sd_br
         (sd_lf (sd_aload_n (k := 0) (by decide +kernel : decode code 345 = .ok (.aload_n 0, 1))))
         (sd_lf (sd_iload (by decide +kernel : decode code 346 = .ok (.iload 4, 2)))))))))
    (sd_br
     (sd_br
      (sd_br
       (sd_br
        (sd_lf (sd_iconst (by decide +kernel : decode code 348 = .ok (.iconst 2, 1)) (by decide +kernel)))
        (sd_br
         (sd_lf (sd_iadd (by decide +kernel : decode code 349 = .ok (.iadd, 1))))
         (sd_lf (sd_iaload (by decide +kernel : decode code 350 = .ok (.iaload, 1))))))
       (sd_br
        (sd_br
         (sd_lf (sd_aload_n (k := 0) (by decide +kernel : decode code 351 = .ok (.aload_n 0, 1))))
         (sd_lf (sd_iload (by decide +kernel : decode code 352 = .ok (.iload 4, 2)))))
        (sd_br
         (sd_lf (sd_iconst (by decide +kernel : decode code 354 = .ok (.iconst 3, 1)) (by decide +kernel)))
         (sd_lf (sd_iadd (by decide +kernel : decode code 355 = .ok (.iadd, 1)))))))
      (sd_br
       (sd_br
        (sd_lf (sd_iaload (by decide +kernel : decode code 356 = .ok (.iaload, 1))))
        (sd_br
         (sd_lf (sd_callV (q := (RX7, TX7, 16)) (by decide +kernel : decode code 357 = .ok (.invokevirtual 100, 3)) ok_Mo_setNumber (gm 1008 (by decide +kernel) rfl) (gm 1009 (by decide +kernel) rfl) (gm 1010 (by decide +kernel) rfl) rfl rfl (by decide +kernel) rfl rfl))
         (sd_lf (sd_istore (by decide +kernel : decode code 360 = .ok (.istore 6, 2))))))
       (sd_br
        (sd_br
         (sd_lf (sd_aload_n (k := 2) (by decide +kernel : decode code 362 = .ok (.aload_n 2, 1))))
         (sd_lf (sd_pureV (sd_callV (q := (RX7, TX7, 16)) (by decide +kernel : decode code 363 = .ok (.invokevirtual 90, 3)) ok_Mo_thrown (gm 962 (by decide +kernel) rfl) (gm 963 (by decide +kernel) rfl) (gm 964 (by decide +kernel) rfl) rfl rfl (by decide +kernel) rfl rfl) c_Mo_thrown)))
        (sd_br
         (sd_lf (sd_iload (by decide +kernel : decode code 366 = .ok (.iload 5, 2))))
         (sd_lf (sd_icmp_eq (by decide +kernel : decode code 368 = .ok (.if_icmp .eq 5, 3)) (by decide +kernel)))))))
     (sd_br
      (sd_br
       (sd_br
        (sd_lf (sd_iconst (by decide +kernel : decode code 371 = .ok (.iconst 0, 1)) (by decide +kernel)))
        (sd_br
         (sd_lf (sd_zret (by decide +kernel : decode code 372 = .ok (.ireturn, 1)) rfl))
         (sd_lf (sd_iload (by decide +kernel : decode code 373 = .ok (.iload 5, 2))))))
       (sd_br
        (sd_br
         (sd_lf (sd_if_ne (by decide +kernel : decode code 375 = .ok (.ifCond .ne 15, 3)) (by decide +kernel)))
         (sd_lf (sd_aload_n (k := 3) (by decide +kernel : decode code 378 = .ok (.aload_n 3, 1)))))
        (sd_br
         (sd_lf (sd_iconst (by decide +kernel : decode code 379 = .ok (.iconst 0, 1)) (by decide +kernel)))
         (sd_lf (sd_laload (by decide +kernel : decode code 380 = .ok (.laload, 1)))))))
      (sd_br
       (sd_br
        (sd_lf (sd_iload (by decide +kernel : decode code 381 = .ok (.iload 6, 2))))
        (sd_br
         (sd_lf (sd_i2l (by decide +kernel : decode code 383 = .ok (.i2l, 1))))
         (sd_lf (sd_lcmp (by decide +kernel : decode code 384 = .ok (.lcmp, 1))))))
       (sd_br
        (sd_br
         (sd_lf (sd_if_eq (by decide +kernel : decode code 385 = .ok (.ifCond .eq 5, 3)) (by decide +kernel)))
         (sd_lf (sd_iconst (by decide +kernel : decode code 388 = .ok (.iconst 0, 1)) (by decide +kernel))))
        (sd_br
         (sd_lf (sd_zret (by decide +kernel : decode code 389 = .ok (.ireturn, 1)) rfl))
         (sd_lf (sd_goto (by decide +kernel : decode code 390 = .ok (.goto 1195, 3)) (by decide +kernel)))))))))
def kl_4 (l : Launch) (G : Gc) (pc : Nat) : Tr :=
  if pc < 418 then
   if pc < 404 then
    if pc < 398 then
     if pc < 395 then
      if pc < 394 then
       if pc = 393 then tz_aload 394 1 else dead
      else
       if pc = 394 then tz_aload 395 0 else dead
     else
      if pc < 397 then
       if pc = 395 then tz_iload 397 4 else dead
      else
       if pc = 397 then tz_const 398 (.int (nI 1)) else dead
    else
     if pc < 400 then
      if pc < 399 then
       if pc = 398 then tz_i2 399 (fun a b => a + b) else dead
      else
       if pc = 399 then tz_iaload 400 else dead
     else
      if pc < 401 then
       if pc = 400 then tz_aload 401 3 else dead
      else
       if pc = 401 then tz_callR l G 404 M_Lw_pass 3 else dead
   else
    if pc < 410 then
     if pc < 407 then
      if pc < 406 then
       if pc = 404 then tz_istore 406 5 else dead
      else
       if pc = 406 then tz_aload 407 2 else dead
     else
      if pc < 408 then
       if pc = 407 then tz_aload 408 0 else dead
      else
       if pc = 408 then tz_iload 410 4 else dead
    else
     if pc < 412 then
      if pc < 411 then
       if pc = 410 then tz_const 411 (.int (nI 1)) else dead
      else
       if pc = 411 then tz_i2 412 (fun a b => a + b) else dead
     else
      if pc < 413 then
       if pc = 412 then tz_iaload 413 else dead
      else
       if pc < 416 then
        if pc = 413 then tz_callV l G 416 M_Mo_pass 1 7 else dead
       else
        if pc = 416 then tz_istore 418 6 else dead
  else
   if pc < 435 then
    if pc < 427 then
     if pc < 422 then
      if pc < 419 then
       if pc = 418 then tz_aload 419 2 else dead
      else
       if pc = 419 then tz_pureV 422 0 7 P_Mo_thrown f_Mo_thrown else dead
     else
      if pc < 424 then
       if pc = 422 then tz_iload 424 5 else dead
      else
       if pc = 424 then tz_icmp 427 429 (fun a b => a = b) else dead
    else
     if pc < 429 then
      if pc < 428 then
       if pc = 427 then tz_const 428 (.int (nI 0)) else dead
      else
       if pc = 428 then tz_zret else dead
     else
      if pc < 431 then
       if pc = 429 then tz_iload 431 5 else dead
      else
       if pc < 434 then
        if pc = 431 then tz_if 434 446 (fun a => ¬ a = 0) else dead
       else
        if pc = 434 then tz_aload 435 3 else dead
   else
    if pc < 440 then
     if pc < 437 then
      if pc < 436 then
       if pc = 435 then tz_const 436 (.int (nI 0)) else dead
      else
       if pc = 436 then tz_laload 437 else dead
     else
      if pc < 439 then
       if pc = 437 then tz_iload 439 6 else dead
      else
       if pc = 439 then tz_i2l 440 else dead
    else
     if pc < 444 then
      if pc < 441 then
       if pc = 440 then tz_lcmp 441 else dead
      else
       if pc = 441 then tz_if 444 446 (fun a => a = 0) else dead
     else
      if pc < 445 then
       if pc = 444 then tz_const 445 (.int (nI 0)) else dead
      else
       if pc < 446 then
        if pc = 445 then tz_zret else dead
       else
        if pc = 446 then tz_goto 1585 else dead
set_option maxRecDepth 100000 in
theorem tl_4 (l : Launch) (G : Gc) : TabOK l G M_Lw_law (kl_4 l G) := by
  intro pc
  unfold kl_4
  exact
   (sd_br
    (sd_br
     (sd_br
      (sd_br
       (sd_br
        (sd_lf (sd_aload_n (k := 1) (by decide +kernel : decode code 393 = .ok (.aload_n 1, 1))))
        (sd_lf (sd_aload_n (k := 0) (by decide +kernel : decode code 394 = .ok (.aload_n 0, 1)))))
       (sd_br
        (sd_lf (sd_iload (by decide +kernel : decode code 395 = .ok (.iload 4, 2))))
        (sd_lf (sd_iconst (by decide +kernel : decode code 397 = .ok (.iconst 1, 1)) (by decide +kernel)))))
      (sd_br
       (sd_br
        (sd_lf (sd_iadd (by decide +kernel : decode code 398 = .ok (.iadd, 1))))
        (sd_lf (sd_iaload (by decide +kernel : decode code 399 = .ok (.iaload, 1)))))
       (sd_br
        (sd_lf (sd_aload_n (k := 3) (by decide +kernel : decode code 400 = .ok (.aload_n 3, 1))))
        (sd_lf (sd_callSH (by decide +kernel : decode code 401 = .ok (.invokestatic 101, 3)) ok_Lw_pass (gm 630 (by decide +kernel) rfl) (gm 631 (by decide +kernel) rfl) (by decide +kernel) rfl)))))
     (sd_br
      (sd_br
       (sd_br
        (sd_lf (sd_istore (by decide +kernel : decode code 404 = .ok (.istore 5, 2))))
        (sd_lf (sd_aload_n (k := 2) (by decide +kernel : decode code 406 = .ok (.aload_n 2, 1)))))
       (sd_br
        (sd_lf (sd_aload_n (k := 0) (by decide +kernel : decode code 407 = .ok (.aload_n 0, 1))))
        (sd_lf (sd_iload (by decide +kernel : decode code 408 = .ok (.iload 4, 2))))))
      (sd_br
       (sd_br
        (sd_lf (sd_iconst (by decide +kernel : decode code 410 = .ok (.iconst 1, 1)) (by decide +kernel)))
        (sd_lf (sd_iadd (by decide +kernel : decode code 411 = .ok (.iadd, 1)))))
       (sd_br
        (sd_lf (sd_iaload (by decide +kernel : decode code 412 = .ok (.iaload, 1))))
        (sd_br
         (sd_lf (sd_callV (q := (RX7, TX7, 16)) (by decide +kernel : decode code 413 = .ok (.invokevirtual 103, 3)) ok_Mo_pass (gm 1030 (by decide +kernel) rfl) (gm 1031 (by decide +kernel) rfl) (gm 1032 (by decide +kernel) rfl) rfl rfl (by decide +kernel) rfl rfl))
         (sd_lf (sd_istore (by decide +kernel : decode code 416 = .ok (.istore 6, 2)))))))))
    (sd_br
     (sd_br
      (sd_br
       (sd_br
        (sd_lf (sd_aload_n (k := 2) (by decide +kernel : decode code 418 = .ok (.aload_n 2, 1))))
        (sd_lf (sd_pureV (sd_callV (q := (RX7, TX7, 16)) (by decide +kernel : decode code 419 = .ok (.invokevirtual 90, 3)) ok_Mo_thrown (gm 962 (by decide +kernel) rfl) (gm 963 (by decide +kernel) rfl) (gm 964 (by decide +kernel) rfl) rfl rfl (by decide +kernel) rfl rfl) c_Mo_thrown)))
       (sd_br
        (sd_lf (sd_iload (by decide +kernel : decode code 422 = .ok (.iload 5, 2))))
        (sd_lf (sd_icmp_eq (by decide +kernel : decode code 424 = .ok (.if_icmp .eq 5, 3)) (by decide +kernel)))))
      (sd_br
       (sd_br
        (sd_lf (sd_iconst (by decide +kernel : decode code 427 = .ok (.iconst 0, 1)) (by decide +kernel)))
        (sd_lf (sd_zret (by decide +kernel : decode code 428 = .ok (.ireturn, 1)) rfl)))
       (sd_br
        (sd_lf (sd_iload (by decide +kernel : decode code 429 = .ok (.iload 5, 2))))
        (sd_br
         (sd_lf (sd_if_ne (by decide +kernel : decode code 431 = .ok (.ifCond .ne 15, 3)) (by decide +kernel)))
         (sd_lf (sd_aload_n (k := 3) (by decide +kernel : decode code 434 = .ok (.aload_n 3, 1))))))))
     (sd_br
      (sd_br
       (sd_br
        (sd_lf (sd_iconst (by decide +kernel : decode code 435 = .ok (.iconst 0, 1)) (by decide +kernel)))
        (sd_lf (sd_laload (by decide +kernel : decode code 436 = .ok (.laload, 1)))))
       (sd_br
        (sd_lf (sd_iload (by decide +kernel : decode code 437 = .ok (.iload 6, 2))))
        (sd_lf (sd_i2l (by decide +kernel : decode code 439 = .ok (.i2l, 1))))))
      (sd_br
       (sd_br
        (sd_lf (sd_lcmp (by decide +kernel : decode code 440 = .ok (.lcmp, 1))))
        (sd_lf (sd_if_eq (by decide +kernel : decode code 441 = .ok (.ifCond .eq 5, 3)) (by decide +kernel))))
       (sd_br
        (sd_lf (sd_iconst (by decide +kernel : decode code 444 = .ok (.iconst 0, 1)) (by decide +kernel)))
        (sd_br
         (sd_lf (sd_zret (by decide +kernel : decode code 445 = .ok (.ireturn, 1)) rfl))
         (sd_lf (sd_goto (by decide +kernel : decode code 446 = .ok (.goto 1139, 3)) (by decide +kernel)))))))))
def kl_5 (l : Launch) (G : Gc) (pc : Nat) : Tr :=
  if pc < 454 then
   if pc < 450 then
    if pc = 449 then tz_aload 450 1 else dead
   else
    if pc < 453 then
     if pc = 450 then tz_callV l G 453 M_Hp_save 0 6 else dead
    else
     if pc = 453 then tz_aload 454 2 else dead
  else
   if pc < 460 then
    if pc < 457 then
     if pc = 454 then tz_callV l G 457 M_Mo_save 0 7 else dead
    else
     if pc = 457 then tz_icmp 460 1585 (fun a b => a = b) else dead
   else
    if pc < 461 then
     if pc = 460 then tz_const 461 (.int (nI 0)) else dead
    else
     if pc = 461 then tz_zret else dead
set_option maxRecDepth 100000 in
theorem tl_5 (l : Launch) (G : Gc) : TabOK l G M_Lw_law (kl_5 l G) := by
  intro pc
  unfold kl_5
  exact
   (sd_br
    (sd_br
     (sd_lf (sd_aload_n (k := 1) (by decide +kernel : decode code 449 = .ok (.aload_n 1, 1))))
     (sd_br
      (sd_lf (sd_callV (q := (RX6, TX6, 7)) (by decide +kernel : decode code 450 = .ok (.invokevirtual 104, 3)) ok_Hp_save (gm 184 (by decide +kernel) rfl) (gm 185 (by decide +kernel) rfl) (gm 186 (by decide +kernel) rfl) rfl rfl (by decide +kernel) rfl rfl))
      (sd_lf (sd_aload_n (k := 2) (by decide +kernel : decode code 453 = .ok (.aload_n 2, 1))))))
    (sd_br
     (sd_br
      (sd_lf (sd_callV (q := (RX7, TX7, 16)) (by decide +kernel : decode code 454 = .ok (.invokevirtual 107, 3)) ok_Mo_save (gm 1039 (by decide +kernel) rfl) (gm 1040 (by decide +kernel) rfl) (gm 1041 (by decide +kernel) rfl) rfl rfl (by decide +kernel) rfl rfl))
      (sd_lf (sd_icmp_eq (by decide +kernel : decode code 457 = .ok (.if_icmp .eq 1128, 3)) (by decide +kernel))))
     (sd_br
      (sd_lf (sd_iconst (by decide +kernel : decode code 460 = .ok (.iconst 0, 1)) (by decide +kernel)))
      (sd_lf (sd_zret (by decide +kernel : decode code 461 = .ok (.ireturn, 1)) rfl)))))
def kl_6 (l : Launch) (G : Gc) (pc : Nat) : Tr :=
  if pc < 485 then
   if pc < 473 then
    if pc < 467 then
     if pc < 463 then
      if pc = 462 then tz_aload 463 1 else dead
     else
      if pc < 464 then
       if pc = 463 then tz_aload 464 3 else dead
      else
       if pc = 464 then tz_callR l G 467 M_Lw_restore 2 else dead
    else
     if pc < 469 then
      if pc = 467 then tz_istore 469 5 else dead
     else
      if pc < 470 then
       if pc = 469 then tz_aload 470 2 else dead
      else
       if pc = 470 then tz_callV l G 473 M_Mo_restore 0 7 else dead
   else
    if pc < 479 then
     if pc < 475 then
      if pc = 473 then tz_istore 475 6 else dead
     else
      if pc < 476 then
       if pc = 475 then tz_aload 476 2 else dead
      else
       if pc = 476 then tz_pureV 479 0 7 P_Mo_thrown f_Mo_thrown else dead
    else
     if pc < 481 then
      if pc = 479 then tz_iload 481 5 else dead
     else
      if pc < 484 then
       if pc = 481 then tz_icmp 484 486 (fun a b => a = b) else dead
      else
       if pc = 484 then tz_const 485 (.int (nI 0)) else dead
  else
   if pc < 494 then
    if pc < 491 then
     if pc < 486 then
      if pc = 485 then tz_zret else dead
     else
      if pc < 488 then
       if pc = 486 then tz_iload 488 5 else dead
      else
       if pc = 488 then tz_if 491 503 (fun a => ¬ a = 0) else dead
    else
     if pc < 492 then
      if pc = 491 then tz_aload 492 3 else dead
     else
      if pc < 493 then
       if pc = 492 then tz_const 493 (.int (nI 0)) else dead
      else
       if pc = 493 then tz_laload 494 else dead
   else
    if pc < 498 then
     if pc < 496 then
      if pc = 494 then tz_iload 496 6 else dead
     else
      if pc < 497 then
       if pc = 496 then tz_i2l 497 else dead
      else
       if pc = 497 then tz_lcmp 498 else dead
    else
     if pc < 502 then
      if pc < 501 then
       if pc = 498 then tz_if 501 503 (fun a => a = 0) else dead
      else
       if pc = 501 then tz_const 502 (.int (nI 0)) else dead
     else
      if pc < 503 then
       if pc = 502 then tz_zret else dead
      else
       if pc = 503 then tz_goto 1585 else dead
set_option maxRecDepth 100000 in
theorem tl_6 (l : Launch) (G : Gc) : TabOK l G M_Lw_law (kl_6 l G) := by
  intro pc
  unfold kl_6
  exact
   (sd_br
    (sd_br
     (sd_br
      (sd_br
       (sd_lf (sd_aload_n (k := 1) (by decide +kernel : decode code 462 = .ok (.aload_n 1, 1))))
       (sd_br
        (sd_lf (sd_aload_n (k := 3) (by decide +kernel : decode code 463 = .ok (.aload_n 3, 1))))
        (sd_lf (sd_callSH (by decide +kernel : decode code 464 = .ok (.invokestatic 108, 3)) ok_Lw_restore (gm 645 (by decide +kernel) rfl) (gm 646 (by decide +kernel) rfl) (by decide +kernel) rfl))))
      (sd_br
       (sd_lf (sd_istore (by decide +kernel : decode code 467 = .ok (.istore 5, 2))))
       (sd_br
        (sd_lf (sd_aload_n (k := 2) (by decide +kernel : decode code 469 = .ok (.aload_n 2, 1))))
        (sd_lf (sd_callV (q := (RX7, TX7, 16)) (by decide +kernel : decode code 470 = .ok (.invokevirtual 111, 3)) ok_Mo_restore (gm 1043 (by decide +kernel) rfl) (gm 1044 (by decide +kernel) rfl) (gm 1045 (by decide +kernel) rfl) rfl rfl (by decide +kernel) rfl rfl)))))
     (sd_br
      (sd_br
       (sd_lf (sd_istore (by decide +kernel : decode code 473 = .ok (.istore 6, 2))))
       (sd_br
        (sd_lf (sd_aload_n (k := 2) (by decide +kernel : decode code 475 = .ok (.aload_n 2, 1))))
        (sd_lf (sd_pureV (sd_callV (q := (RX7, TX7, 16)) (by decide +kernel : decode code 476 = .ok (.invokevirtual 90, 3)) ok_Mo_thrown (gm 962 (by decide +kernel) rfl) (gm 963 (by decide +kernel) rfl) (gm 964 (by decide +kernel) rfl) rfl rfl (by decide +kernel) rfl rfl) c_Mo_thrown))))
      (sd_br
       (sd_lf (sd_iload (by decide +kernel : decode code 479 = .ok (.iload 5, 2))))
       (sd_br
        (sd_lf (sd_icmp_eq (by decide +kernel : decode code 481 = .ok (.if_icmp .eq 5, 3)) (by decide +kernel)))
        (sd_lf (sd_iconst (by decide +kernel : decode code 484 = .ok (.iconst 0, 1)) (by decide +kernel)))))))
    (sd_br
     (sd_br
      (sd_br
       (sd_lf (sd_zret (by decide +kernel : decode code 485 = .ok (.ireturn, 1)) rfl))
       (sd_br
        (sd_lf (sd_iload (by decide +kernel : decode code 486 = .ok (.iload 5, 2))))
        (sd_lf (sd_if_ne (by decide +kernel : decode code 488 = .ok (.ifCond .ne 15, 3)) (by decide +kernel)))))
      (sd_br
       (sd_lf (sd_aload_n (k := 3) (by decide +kernel : decode code 491 = .ok (.aload_n 3, 1))))
       (sd_br
        (sd_lf (sd_iconst (by decide +kernel : decode code 492 = .ok (.iconst 0, 1)) (by decide +kernel)))
        (sd_lf (sd_laload (by decide +kernel : decode code 493 = .ok (.laload, 1)))))))
     (sd_br
      (sd_br
       (sd_lf (sd_iload (by decide +kernel : decode code 494 = .ok (.iload 6, 2))))
       (sd_br
        (sd_lf (sd_i2l (by decide +kernel : decode code 496 = .ok (.i2l, 1))))
        (sd_lf (sd_lcmp (by decide +kernel : decode code 497 = .ok (.lcmp, 1))))))
      (sd_br
       (sd_br
        (sd_lf (sd_if_eq (by decide +kernel : decode code 498 = .ok (.ifCond .eq 5, 3)) (by decide +kernel)))
        (sd_lf (sd_iconst (by decide +kernel : decode code 501 = .ok (.iconst 0, 1)) (by decide +kernel))))
       (sd_br
        (sd_lf (sd_zret (by decide +kernel : decode code 502 = .ok (.ireturn, 1)) rfl))
        (sd_lf (sd_goto (by decide +kernel : decode code 503 = .ok (.goto 1082, 3)) (by decide +kernel))))))))
def kl_7 (l : Launch) (G : Gc) (pc : Nat) : Tr :=
  if pc < 531 then
   if pc < 517 then
    if pc < 511 then
     if pc < 508 then
      if pc < 507 then
       if pc = 506 then tz_aload 507 1 else dead
      else
       if pc = 507 then tz_aload 508 0 else dead
     else
      if pc < 510 then
       if pc = 508 then tz_iload 510 4 else dead
      else
       if pc = 510 then tz_const 511 (.int (nI 1)) else dead
    else
     if pc < 513 then
      if pc < 512 then
       if pc = 511 then tz_i2 512 (fun a b => a + b) else dead
      else
       if pc = 512 then tz_iaload 513 else dead
     else
      if pc < 514 then
       if pc = 513 then tz_aload 514 3 else dead
      else
       if pc = 514 then tz_callR l G 517 M_Lw_append 3 else dead
   else
    if pc < 523 then
     if pc < 520 then
      if pc < 519 then
       if pc = 517 then tz_istore 519 5 else dead
      else
       if pc = 519 then tz_aload 520 2 else dead
     else
      if pc < 521 then
       if pc = 520 then tz_aload 521 0 else dead
      else
       if pc = 521 then tz_iload 523 4 else dead
    else
     if pc < 525 then
      if pc < 524 then
       if pc = 523 then tz_const 524 (.int (nI 1)) else dead
      else
       if pc = 524 then tz_i2 525 (fun a b => a + b) else dead
     else
      if pc < 526 then
       if pc = 525 then tz_iaload 526 else dead
      else
       if pc < 529 then
        if pc = 526 then tz_callV l G 529 M_Mo_append 1 7 else dead
       else
        if pc = 529 then tz_istore 531 6 else dead
  else
   if pc < 548 then
    if pc < 540 then
     if pc < 535 then
      if pc < 532 then
       if pc = 531 then tz_aload 532 2 else dead
      else
       if pc = 532 then tz_pureV 535 0 7 P_Mo_thrown f_Mo_thrown else dead
     else
      if pc < 537 then
       if pc = 535 then tz_iload 537 5 else dead
      else
       if pc = 537 then tz_icmp 540 542 (fun a b => a = b) else dead
    else
     if pc < 542 then
      if pc < 541 then
       if pc = 540 then tz_const 541 (.int (nI 0)) else dead
      else
       if pc = 541 then tz_zret else dead
     else
      if pc < 544 then
       if pc = 542 then tz_iload 544 5 else dead
      else
       if pc < 547 then
        if pc = 544 then tz_if 547 559 (fun a => ¬ a = 0) else dead
       else
        if pc = 547 then tz_aload 548 3 else dead
   else
    if pc < 553 then
     if pc < 550 then
      if pc < 549 then
       if pc = 548 then tz_const 549 (.int (nI 0)) else dead
      else
       if pc = 549 then tz_laload 550 else dead
     else
      if pc < 552 then
       if pc = 550 then tz_iload 552 6 else dead
      else
       if pc = 552 then tz_i2l 553 else dead
    else
     if pc < 557 then
      if pc < 554 then
       if pc = 553 then tz_lcmp 554 else dead
      else
       if pc = 554 then tz_if 557 559 (fun a => a = 0) else dead
     else
      if pc < 558 then
       if pc = 557 then tz_const 558 (.int (nI 0)) else dead
      else
       if pc < 559 then
        if pc = 558 then tz_zret else dead
       else
        if pc = 559 then tz_goto 1585 else dead
set_option maxRecDepth 100000 in
theorem tl_7 (l : Launch) (G : Gc) : TabOK l G M_Lw_law (kl_7 l G) := by
  intro pc
  unfold kl_7
  exact
   (sd_br
    (sd_br
     (sd_br
      (sd_br
       (sd_br
        (sd_lf (sd_aload_n (k := 1) (by decide +kernel : decode code 506 = .ok (.aload_n 1, 1))))
        (sd_lf (sd_aload_n (k := 0) (by decide +kernel : decode code 507 = .ok (.aload_n 0, 1)))))
       (sd_br
        (sd_lf (sd_iload (by decide +kernel : decode code 508 = .ok (.iload 4, 2))))
        (sd_lf (sd_iconst (by decide +kernel : decode code 510 = .ok (.iconst 1, 1)) (by decide +kernel)))))
      (sd_br
       (sd_br
        (sd_lf (sd_iadd (by decide +kernel : decode code 511 = .ok (.iadd, 1))))
        (sd_lf (sd_iaload (by decide +kernel : decode code 512 = .ok (.iaload, 1)))))
       (sd_br
        (sd_lf (sd_aload_n (k := 3) (by decide +kernel : decode code 513 = .ok (.aload_n 3, 1))))
        (sd_lf (sd_callSH (by decide +kernel : decode code 514 = .ok (.invokestatic 112, 3)) ok_Lw_append (gm 653 (by decide +kernel) rfl) (gm 654 (by decide +kernel) rfl) (by decide +kernel) rfl)))))
     (sd_br
      (sd_br
       (sd_br
        (sd_lf (sd_istore (by decide +kernel : decode code 517 = .ok (.istore 5, 2))))
        (sd_lf (sd_aload_n (k := 2) (by decide +kernel : decode code 519 = .ok (.aload_n 2, 1)))))
       (sd_br
        (sd_lf (sd_aload_n (k := 0) (by decide +kernel : decode code 520 = .ok (.aload_n 0, 1))))
        (sd_lf (sd_iload (by decide +kernel : decode code 521 = .ok (.iload 4, 2))))))
      (sd_br
       (sd_br
        (sd_lf (sd_iconst (by decide +kernel : decode code 523 = .ok (.iconst 1, 1)) (by decide +kernel)))
        (sd_lf (sd_iadd (by decide +kernel : decode code 524 = .ok (.iadd, 1)))))
       (sd_br
        (sd_lf (sd_iaload (by decide +kernel : decode code 525 = .ok (.iaload, 1))))
        (sd_br
         (sd_lf (sd_callV (q := (RX7, TX7, 16)) (by decide +kernel : decode code 526 = .ok (.invokevirtual 114, 3)) ok_Mo_append (gm 1047 (by decide +kernel) rfl) (gm 1048 (by decide +kernel) rfl) (gm 1049 (by decide +kernel) rfl) rfl rfl (by decide +kernel) rfl rfl))
         (sd_lf (sd_istore (by decide +kernel : decode code 529 = .ok (.istore 6, 2)))))))))
    (sd_br
     (sd_br
      (sd_br
       (sd_br
        (sd_lf (sd_aload_n (k := 2) (by decide +kernel : decode code 531 = .ok (.aload_n 2, 1))))
        (sd_lf (sd_pureV (sd_callV (q := (RX7, TX7, 16)) (by decide +kernel : decode code 532 = .ok (.invokevirtual 90, 3)) ok_Mo_thrown (gm 962 (by decide +kernel) rfl) (gm 963 (by decide +kernel) rfl) (gm 964 (by decide +kernel) rfl) rfl rfl (by decide +kernel) rfl rfl) c_Mo_thrown)))
       (sd_br
        (sd_lf (sd_iload (by decide +kernel : decode code 535 = .ok (.iload 5, 2))))
        (sd_lf (sd_icmp_eq (by decide +kernel : decode code 537 = .ok (.if_icmp .eq 5, 3)) (by decide +kernel)))))
      (sd_br
       (sd_br
        (sd_lf (sd_iconst (by decide +kernel : decode code 540 = .ok (.iconst 0, 1)) (by decide +kernel)))
        (sd_lf (sd_zret (by decide +kernel : decode code 541 = .ok (.ireturn, 1)) rfl)))
       (sd_br
        (sd_lf (sd_iload (by decide +kernel : decode code 542 = .ok (.iload 5, 2))))
        (sd_br
         (sd_lf (sd_if_ne (by decide +kernel : decode code 544 = .ok (.ifCond .ne 15, 3)) (by decide +kernel)))
         (sd_lf (sd_aload_n (k := 3) (by decide +kernel : decode code 547 = .ok (.aload_n 3, 1))))))))
     (sd_br
      (sd_br
       (sd_br
        (sd_lf (sd_iconst (by decide +kernel : decode code 548 = .ok (.iconst 0, 1)) (by decide +kernel)))
        (sd_lf (sd_laload (by decide +kernel : decode code 549 = .ok (.laload, 1)))))
       (sd_br
        (sd_lf (sd_iload (by decide +kernel : decode code 550 = .ok (.iload 6, 2))))
        (sd_lf (sd_i2l (by decide +kernel : decode code 552 = .ok (.i2l, 1))))))
      (sd_br
       (sd_br
        (sd_lf (sd_lcmp (by decide +kernel : decode code 553 = .ok (.lcmp, 1))))
        (sd_lf (sd_if_eq (by decide +kernel : decode code 554 = .ok (.ifCond .eq 5, 3)) (by decide +kernel))))
       (sd_br
        (sd_lf (sd_iconst (by decide +kernel : decode code 557 = .ok (.iconst 0, 1)) (by decide +kernel)))
        (sd_br
         (sd_lf (sd_zret (by decide +kernel : decode code 558 = .ok (.ireturn, 1)) rfl))
         (sd_lf (sd_goto (by decide +kernel : decode code 559 = .ok (.goto 1026, 3)) (by decide +kernel)))))))))
def kl_8 (l : Launch) (G : Gc) (pc : Nat) : Tr :=
  if pc < 567 then
   if pc < 563 then
    if pc = 562 then tz_aload 563 1 else dead
   else
    if pc < 566 then
     if pc = 563 then tz_callV l G 566 M_Hp_clearBuffer 0 6 else dead
    else
     if pc = 566 then tz_aload 567 2 else dead
  else
   if pc < 573 then
    if pc < 570 then
     if pc = 567 then tz_callV l G 570 M_Mo_clearBuffer 0 7 else dead
    else
     if pc = 570 then tz_icmp 573 1585 (fun a b => a = b) else dead
   else
    if pc < 574 then
     if pc = 573 then tz_const 574 (.int (nI 0)) else dead
    else
     if pc = 574 then tz_zret else dead
set_option maxRecDepth 100000 in
theorem tl_8 (l : Launch) (G : Gc) : TabOK l G M_Lw_law (kl_8 l G) := by
  intro pc
  unfold kl_8
  exact
   (sd_br
    (sd_br
     (sd_lf (sd_aload_n (k := 1) (by decide +kernel : decode code 562 = .ok (.aload_n 1, 1))))
     (sd_br
      (sd_lf (sd_callV (q := (RX6, TX6, 7)) (by decide +kernel : decode code 563 = .ok (.invokevirtual 115, 3)) ok_Hp_clearBuffer (gm 338 (by decide +kernel) rfl) (gm 339 (by decide +kernel) rfl) (gm 340 (by decide +kernel) rfl) rfl rfl (by decide +kernel) rfl rfl))
      (sd_lf (sd_aload_n (k := 2) (by decide +kernel : decode code 566 = .ok (.aload_n 2, 1))))))
    (sd_br
     (sd_br
      (sd_lf (sd_callV (q := (RX7, TX7, 16)) (by decide +kernel : decode code 567 = .ok (.invokevirtual 118, 3)) ok_Mo_clearBuffer (gm 1051 (by decide +kernel) rfl) (gm 1052 (by decide +kernel) rfl) (gm 1053 (by decide +kernel) rfl) rfl rfl (by decide +kernel) rfl rfl))
      (sd_lf (sd_icmp_eq (by decide +kernel : decode code 570 = .ok (.if_icmp .eq 1015, 3)) (by decide +kernel))))
     (sd_br
      (sd_lf (sd_iconst (by decide +kernel : decode code 573 = .ok (.iconst 0, 1)) (by decide +kernel)))
      (sd_lf (sd_zret (by decide +kernel : decode code 574 = .ok (.ireturn, 1)) rfl)))))
def kl_9 (l : Launch) (G : Gc) (pc : Nat) : Tr :=
  if pc < 580 then
   if pc < 576 then
    if pc = 575 then tz_aload 576 1 else dead
   else
    if pc < 579 then
     if pc = 576 then tz_callV l G 579 M_Hp_firstError 0 6 else dead
    else
     if pc = 579 then tz_aload 580 2 else dead
  else
   if pc < 586 then
    if pc < 583 then
     if pc = 580 then tz_callV l G 583 M_Mo_firstError 0 7 else dead
    else
     if pc = 583 then tz_icmp 586 1585 (fun a b => a = b) else dead
   else
    if pc < 587 then
     if pc = 586 then tz_const 587 (.int (nI 0)) else dead
    else
     if pc = 587 then tz_zret else dead
set_option maxRecDepth 100000 in
theorem tl_9 (l : Launch) (G : Gc) : TabOK l G M_Lw_law (kl_9 l G) := by
  intro pc
  unfold kl_9
  exact
   (sd_br
    (sd_br
     (sd_lf (sd_aload_n (k := 1) (by decide +kernel : decode code 575 = .ok (.aload_n 1, 1))))
     (sd_br
      (sd_lf (sd_callV (q := (RX6, TX6, 7)) (by decide +kernel : decode code 576 = .ok (.invokevirtual 119, 3)) ok_Hp_firstError (gm 342 (by decide +kernel) rfl) (gm 343 (by decide +kernel) rfl) (gm 344 (by decide +kernel) rfl) rfl rfl (by decide +kernel) rfl rfl))
      (sd_lf (sd_aload_n (k := 2) (by decide +kernel : decode code 579 = .ok (.aload_n 2, 1))))))
    (sd_br
     (sd_br
      (sd_lf (sd_callV (q := (RX7, TX7, 16)) (by decide +kernel : decode code 580 = .ok (.invokevirtual 122, 3)) ok_Mo_firstError (gm 1055 (by decide +kernel) rfl) (gm 1056 (by decide +kernel) rfl) (gm 1057 (by decide +kernel) rfl) rfl rfl (by decide +kernel) rfl rfl))
      (sd_lf (sd_icmp_eq (by decide +kernel : decode code 583 = .ok (.if_icmp .eq 1002, 3)) (by decide +kernel))))
     (sd_br
      (sd_lf (sd_iconst (by decide +kernel : decode code 586 = .ok (.iconst 0, 1)) (by decide +kernel)))
      (sd_lf (sd_zret (by decide +kernel : decode code 587 = .ok (.ireturn, 1)) rfl)))))
def kl_10 (l : Launch) (G : Gc) (pc : Nat) : Tr :=
  if pc < 611 then
   if pc < 599 then
    if pc < 593 then
     if pc < 589 then
      if pc = 588 then tz_aload 589 1 else dead
     else
      if pc < 590 then
       if pc = 589 then tz_aload 590 3 else dead
      else
       if pc = 590 then tz_callR l G 593 M_Lw_load 2 else dead
    else
     if pc < 595 then
      if pc = 593 then tz_istore 595 5 else dead
     else
      if pc < 596 then
       if pc = 595 then tz_aload 596 2 else dead
      else
       if pc = 596 then tz_callV l G 599 M_Mo_load 0 7 else dead
   else
    if pc < 605 then
     if pc < 601 then
      if pc = 599 then tz_istore 601 6 else dead
     else
      if pc < 602 then
       if pc = 601 then tz_aload 602 2 else dead
      else
       if pc = 602 then tz_pureV 605 0 7 P_Mo_thrown f_Mo_thrown else dead
    else
     if pc < 607 then
      if pc = 605 then tz_iload 607 5 else dead
     else
      if pc < 610 then
       if pc = 607 then tz_icmp 610 612 (fun a b => a = b) else dead
      else
       if pc = 610 then tz_const 611 (.int (nI 0)) else dead
  else
   if pc < 620 then
    if pc < 617 then
     if pc < 612 then
      if pc = 611 then tz_zret else dead
     else
      if pc < 614 then
       if pc = 612 then tz_iload 614 5 else dead
      else
       if pc = 614 then tz_if 617 629 (fun a => ¬ a = 0) else dead
    else
     if pc < 618 then
      if pc = 617 then tz_aload 618 3 else dead
     else
      if pc < 619 then
       if pc = 618 then tz_const 619 (.int (nI 0)) else dead
      else
       if pc = 619 then tz_laload 620 else dead
   else
    if pc < 624 then
     if pc < 622 then
      if pc = 620 then tz_iload 622 6 else dead
     else
      if pc < 623 then
       if pc = 622 then tz_i2l 623 else dead
      else
       if pc = 623 then tz_lcmp 624 else dead
    else
     if pc < 628 then
      if pc < 627 then
       if pc = 624 then tz_if 627 629 (fun a => a = 0) else dead
      else
       if pc = 627 then tz_const 628 (.int (nI 0)) else dead
     else
      if pc < 629 then
       if pc = 628 then tz_zret else dead
      else
       if pc = 629 then tz_goto 1585 else dead
set_option maxRecDepth 100000 in
theorem tl_10 (l : Launch) (G : Gc) : TabOK l G M_Lw_law (kl_10 l G) := by
  intro pc
  unfold kl_10
  exact
   (sd_br
    (sd_br
     (sd_br
      (sd_br
       (sd_lf (sd_aload_n (k := 1) (by decide +kernel : decode code 588 = .ok (.aload_n 1, 1))))
       (sd_br
        (sd_lf (sd_aload_n (k := 3) (by decide +kernel : decode code 589 = .ok (.aload_n 3, 1))))
        (sd_lf (sd_callSH (by decide +kernel : decode code 590 = .ok (.invokestatic 123, 3)) ok_Lw_load (gm 662 (by decide +kernel) rfl) (gm 663 (by decide +kernel) rfl) (by decide +kernel) rfl))))
      (sd_br
       (sd_lf (sd_istore (by decide +kernel : decode code 593 = .ok (.istore 5, 2))))
       (sd_br
        (sd_lf (sd_aload_n (k := 2) (by decide +kernel : decode code 595 = .ok (.aload_n 2, 1))))
        (sd_lf (sd_callV (q := (RX7, TX7, 16)) (by decide +kernel : decode code 596 = .ok (.invokevirtual 125, 3)) ok_Mo_load (gm 1067 (by decide +kernel) rfl) (gm 1068 (by decide +kernel) rfl) (gm 1069 (by decide +kernel) rfl) rfl rfl (by decide +kernel) rfl rfl)))))
     (sd_br
      (sd_br
       (sd_lf (sd_istore (by decide +kernel : decode code 599 = .ok (.istore 6, 2))))
       (sd_br
        (sd_lf (sd_aload_n (k := 2) (by decide +kernel : decode code 601 = .ok (.aload_n 2, 1))))
        (sd_lf (sd_pureV (sd_callV (q := (RX7, TX7, 16)) (by decide +kernel : decode code 602 = .ok (.invokevirtual 90, 3)) ok_Mo_thrown (gm 962 (by decide +kernel) rfl) (gm 963 (by decide +kernel) rfl) (gm 964 (by decide +kernel) rfl) rfl rfl (by decide +kernel) rfl rfl) c_Mo_thrown))))
      (sd_br
       (sd_lf (sd_iload (by decide +kernel : decode code 605 = .ok (.iload 5, 2))))
       (sd_br
        (sd_lf (sd_icmp_eq (by decide +kernel : decode code 607 = .ok (.if_icmp .eq 5, 3)) (by decide +kernel)))
        (sd_lf (sd_iconst (by decide +kernel : decode code 610 = .ok (.iconst 0, 1)) (by decide +kernel)))))))
    (sd_br
     (sd_br
      (sd_br
       (sd_lf (sd_zret (by decide +kernel : decode code 611 = .ok (.ireturn, 1)) rfl))
       (sd_br
        (sd_lf (sd_iload (by decide +kernel : decode code 612 = .ok (.iload 5, 2))))
        (sd_lf (sd_if_ne (by decide +kernel : decode code 614 = .ok (.ifCond .ne 15, 3)) (by decide +kernel)))))
      (sd_br
       (sd_lf (sd_aload_n (k := 3) (by decide +kernel : decode code 617 = .ok (.aload_n 3, 1))))
       (sd_br
        (sd_lf (sd_iconst (by decide +kernel : decode code 618 = .ok (.iconst 0, 1)) (by decide +kernel)))
        (sd_lf (sd_laload (by decide +kernel : decode code 619 = .ok (.laload, 1)))))))
     (sd_br
      (sd_br
       (sd_lf (sd_iload (by decide +kernel : decode code 620 = .ok (.iload 6, 2))))
       (sd_br
        (sd_lf (sd_i2l (by decide +kernel : decode code 622 = .ok (.i2l, 1))))
        (sd_lf (sd_lcmp (by decide +kernel : decode code 623 = .ok (.lcmp, 1))))))
      (sd_br
       (sd_br
        (sd_lf (sd_if_eq (by decide +kernel : decode code 624 = .ok (.ifCond .eq 5, 3)) (by decide +kernel)))
        (sd_lf (sd_iconst (by decide +kernel : decode code 627 = .ok (.iconst 0, 1)) (by decide +kernel))))
       (sd_br
        (sd_lf (sd_zret (by decide +kernel : decode code 628 = .ok (.ireturn, 1)) rfl))
        (sd_lf (sd_goto (by decide +kernel : decode code 629 = .ok (.goto 956, 3)) (by decide +kernel))))))))
def kl_11 (l : Launch) (G : Gc) (pc : Nat) : Tr :=
  if pc < 673 then
   if pc < 651 then
    if pc < 642 then
     if pc < 637 then
      if pc < 634 then
       if pc < 633 then
        if pc = 632 then tz_aload 633 1 else dead
       else
        if pc = 633 then tz_aload 634 0 else dead
      else
       if pc < 636 then
        if pc = 634 then tz_iload 636 4 else dead
       else
        if pc = 636 then tz_const 637 (.int (nI 1)) else dead
     else
      if pc < 639 then
       if pc < 638 then
        if pc = 637 then tz_i2 638 (fun a b => a + b) else dead
       else
        if pc = 638 then tz_iaload 639 else dead
      else
       if pc < 640 then
        if pc = 639 then tz_aload 640 0 else dead
       else
        if pc = 640 then tz_iload 642 4 else dead
    else
     if pc < 646 then
      if pc < 644 then
       if pc < 643 then
        if pc = 642 then tz_const 643 (.int (nI 2)) else dead
       else
        if pc = 643 then tz_i2 644 (fun a b => a + b) else dead
      else
       if pc < 645 then
        if pc = 644 then tz_iaload 645 else dead
       else
        if pc = 645 then tz_aload 646 0 else dead
     else
      if pc < 649 then
       if pc < 648 then
        if pc = 646 then tz_iload 648 4 else dead
       else
        if pc = 648 then tz_const 649 (.int (nI 3)) else dead
      else
       if pc < 650 then
        if pc = 649 then tz_i2 650 (fun a b => a + b) else dead
       else
        if pc = 650 then tz_iaload 651 else dead
   else
    if pc < 663 then
     if pc < 656 then
      if pc < 654 then
       if pc < 652 then
        if pc = 651 then tz_aload 652 0 else dead
       else
        if pc = 652 then tz_iload 654 4 else dead
      else
       if pc < 655 then
        if pc = 654 then tz_const 655 (.int (nI 4)) else dead
       else
        if pc = 655 then tz_i2 656 (fun a b => a + b) else dead
     else
      if pc < 658 then
       if pc < 657 then
        if pc = 656 then tz_iaload 657 else dead
       else
        if pc = 657 then tz_aload 658 3 else dead
      else
       if pc < 661 then
        if pc = 658 then tz_callR l G 661 M_Lw_send 6 else dead
       else
        if pc = 661 then tz_istore 663 5 else dead
    else
     if pc < 668 then
      if pc < 665 then
       if pc < 664 then
        if pc = 663 then tz_aload 664 2 else dead
       else
        if pc = 664 then tz_aload 665 0 else dead
      else
       if pc < 667 then
        if pc = 665 then tz_iload 667 4 else dead
       else
        if pc = 667 then tz_const 668 (.int (nI 1)) else dead
     else
      if pc < 670 then
       if pc < 669 then
        if pc = 668 then tz_i2 669 (fun a b => a + b) else dead
       else
        if pc = 669 then tz_iaload 670 else dead
      else
       if pc < 671 then
        if pc = 670 then tz_aload 671 0 else dead
       else
        if pc = 671 then tz_iload 673 4 else dead
  else
   if pc < 694 then
    if pc < 682 then
     if pc < 677 then
      if pc < 675 then
       if pc < 674 then
        if pc = 673 then tz_const 674 (.int (nI 2)) else dead
       else
        if pc = 674 then tz_i2 675 (fun a b => a + b) else dead
      else
       if pc < 676 then
        if pc = 675 then tz_iaload 676 else dead
       else
        if pc = 676 then tz_aload 677 0 else dead
     else
      if pc < 680 then
       if pc < 679 then
        if pc = 677 then tz_iload 679 4 else dead
       else
        if pc = 679 then tz_const 680 (.int (nI 3)) else dead
      else
       if pc < 681 then
        if pc = 680 then tz_i2 681 (fun a b => a + b) else dead
       else
        if pc = 681 then tz_iaload 682 else dead
    else
     if pc < 687 then
      if pc < 685 then
       if pc < 683 then
        if pc = 682 then tz_aload 683 0 else dead
       else
        if pc = 683 then tz_iload 685 4 else dead
      else
       if pc < 686 then
        if pc = 685 then tz_const 686 (.int (nI 4)) else dead
       else
        if pc = 686 then tz_i2 687 (fun a b => a + b) else dead
     else
      if pc < 691 then
       if pc < 688 then
        if pc = 687 then tz_iaload 688 else dead
       else
        if pc = 688 then tz_callV l G 691 M_Mo_send 4 7 else dead
      else
       if pc < 693 then
        if pc = 691 then tz_istore 693 6 else dead
       else
        if pc = 693 then tz_aload 694 2 else dead
   else
    if pc < 710 then
     if pc < 703 then
      if pc < 699 then
       if pc < 697 then
        if pc = 694 then tz_pureV 697 0 7 P_Mo_thrown f_Mo_thrown else dead
       else
        if pc = 697 then tz_iload 699 5 else dead
      else
       if pc < 702 then
        if pc = 699 then tz_icmp 702 704 (fun a b => a = b) else dead
       else
        if pc = 702 then tz_const 703 (.int (nI 0)) else dead
     else
      if pc < 706 then
       if pc < 704 then
        if pc = 703 then tz_zret else dead
       else
        if pc = 704 then tz_iload 706 5 else dead
      else
       if pc < 709 then
        if pc = 706 then tz_if 709 721 (fun a => ¬ a = 0) else dead
       else
        if pc = 709 then tz_aload 710 3 else dead
    else
     if pc < 715 then
      if pc < 712 then
       if pc < 711 then
        if pc = 710 then tz_const 711 (.int (nI 0)) else dead
       else
        if pc = 711 then tz_laload 712 else dead
      else
       if pc < 714 then
        if pc = 712 then tz_iload 714 6 else dead
       else
        if pc = 714 then tz_i2l 715 else dead
     else
      if pc < 719 then
       if pc < 716 then
        if pc = 715 then tz_lcmp 716 else dead
       else
        if pc = 716 then tz_if 719 721 (fun a => a = 0) else dead
      else
       if pc < 720 then
        if pc = 719 then tz_const 720 (.int (nI 0)) else dead
       else
        if pc < 721 then
         if pc = 720 then tz_zret else dead
        else
         if pc = 721 then tz_goto 1585 else dead
set_option maxRecDepth 100000 in
theorem tl_11 (l : Launch) (G : Gc) : TabOK l G M_Lw_law (kl_11 l G) := by
  intro pc
  unfold kl_11
  exact
   (sd_br
    (sd_br
     (sd_br
      (sd_br
       (sd_br
        (sd_br
         (sd_lf (sd_aload_n (k := 1) (by decide +kernel : decode code 632 = .ok (.aload_n 1, 1))))
         (sd_lf (sd_aload_n (k := 0) (by decide +kernel : decode code 633 = .ok (.aload_n 0, 1)))))
        (sd_br
         (sd_lf (sd_iload (by decide +kernel : decode code 634 = .ok (.iload 4, 2))))
         (sd_lf (sd_iconst (by decide +kernel : decode code 636 = .ok (.iconst 1, 1)) (by decide +kernel)))))
       (sd_br
        (sd_br
         (sd_lf (sd_iadd (by decide +kernel : decode code 637 = .ok (.iadd, 1))))
         (sd_lf (sd_iaload (by decide +kernel : decode code 638 = .ok (.iaload, 1)))))
        (sd_br
         (sd_lf (sd_aload_n (k := 0) (by decide +kernel : decode code 639 = .ok (.aload_n 0, 1))))
         (sd_lf (sd_iload (by decide +kernel : decode code 640 = .ok (.iload 4, 2)))))))
      (sd_br
       (sd_br
        (sd_br
         (sd_lf (sd_iconst (by decide +kernel : decode code 642 = .ok (.iconst 2, 1)) (by decide +kernel)))
         (sd_lf (sd_iadd (by decide +kernel : decode code 643 = .ok (.iadd, 1)))))
        (sd_br
         (sd_lf (sd_iaload (by decide +kernel : decode code 644 = .ok (.iaload, 1))))
         (sd_lf (sd_aload_n (k := 0) (by decide +kernel : decode code 645 = .ok (.aload_n 0, 1))))))
       (sd_br
        (sd_br
         (sd_lf (sd_iload (by decide +kernel : decode code 646 = .ok (.iload 4, 2))))
         (sd_lf (sd_iconst (by decide +kernel : decode code 648 = .ok (.iconst 3, 1)) (by decide +kernel))))
        (sd_br
         (sd_lf (sd_iadd (by decide +kernel : decode code 649 = .ok (.iadd, 1))))
         (sd_lf (sd_iaload (by decide +kernel : decode code 650 = .ok (.iaload, 1))))))))
     (sd_br
      (sd_br
       (sd_br
        (sd_br
         (sd_lf (sd_aload_n (k := 0) (by decide +kernel : decode code 651 = .ok (.aload_n 0, 1))))
         (sd_lf (sd_iload (by decide +kernel : decode code 652 = .ok (.iload 4, 2)))))
        (sd_br
         (sd_lf (sd_iconst (by decide +kernel : decode code 654 = .ok (.iconst 4, 1)) (by decide +kernel)))
         (sd_lf (sd_iadd (by decide +kernel : decode code 655 = .ok (.iadd, 1))))))
       (sd_br
        (sd_br
         (sd_lf (sd_iaload (by decide +kernel : decode code 656 = .ok (.iaload, 1))))
         (sd_lf (sd_aload_n (k := 3) (by decide +kernel : decode code 657 = .ok (.aload_n 3, 1)))))
        (sd_br
         (sd_lf (sd_callSH (by decide +kernel : decode code 658 = .ok (.invokestatic 126, 3)) ok_Lw_send (gm 674 (by decide +kernel) rfl) (gm 675 (by decide +kernel) rfl) (by decide +kernel) rfl))
         (sd_lf (sd_istore (by decide +kernel : decode code 661 = .ok (.istore 5, 2)))))))
      (sd_br
       (sd_br
        (sd_br
         (sd_lf (sd_aload_n (k := 2) (by decide +kernel : decode code 663 = .ok (.aload_n 2, 1))))
         (sd_lf (sd_aload_n (k := 0) (by decide +kernel : decode code 664 = .ok (.aload_n 0, 1)))))
        (sd_br
         (sd_lf (sd_iload (by decide +kernel : decode code 665 = .ok (.iload 4, 2))))
         (sd_lf (sd_iconst (by decide +kernel : decode code 667 = .ok (.iconst 1, 1)) (by decide +kernel)))))
       (sd_br
        (sd_br
         (sd_lf (sd_iadd (by decide +kernel : decode code 668 = .ok (.iadd, 1))))
         (sd_lf (sd_iaload (by decide +kernel : decode code 669 = .ok (.iaload, 1)))))
        (sd_br
         (sd_lf (sd_aload_n (k := 0) (by decide +kernel : decode code 670 = .ok (.aload_n 0, 1))))
         (sd_lf (sd_iload (by decide +kernel : decode code 671 = .ok (.iload 4, 2)))))))))
    (sd_br
     (sd_br
      (sd_br
       (sd_br
        (sd_br
         (sd_lf (sd_iconst (by decide +kernel : decode code 673 = .ok (.iconst 2, 1)) (by decide +kernel)))
         (sd_lf (sd_iadd (by decide +kernel : decode code 674 = .ok (.iadd, 1)))))
        (sd_br
         (sd_lf (sd_iaload (by decide +kernel : decode code 675 = .ok (.iaload, 1))))
         (sd_lf (sd_aload_n (k := 0) (by decide +kernel : decode code 676 = .ok (.aload_n 0, 1))))))
       (sd_br
        (sd_br
         (sd_lf (sd_iload (by decide +kernel : decode code 677 = .ok (.iload 4, 2))))
         (sd_lf (sd_iconst (by decide +kernel : decode code 679 = .ok (.iconst 3, 1)) (by decide +kernel))))
        (sd_br
         (sd_lf (sd_iadd (by decide +kernel : decode code 680 = .ok (.iadd, 1))))
         (sd_lf (sd_iaload (by decide +kernel : decode code 681 = .ok (.iaload, 1)))))))
      (sd_br
       (sd_br
        (sd_br
         (sd_lf (sd_aload_n (k := 0) (by decide +kernel : decode code 682 = .ok (.aload_n 0, 1))))
         (sd_lf (sd_iload (by decide +kernel : decode code 683 = .ok (.iload 4, 2)))))
        (sd_br
         (sd_lf (sd_iconst (by decide +kernel : decode code 685 = .ok (.iconst 4, 1)) (by decide +kernel)))
         (sd_lf (sd_iadd (by decide +kernel : decode code 686 = .ok (.iadd, 1))))))
       (sd_br
        (sd_br
         (sd_lf (sd_iaload (by decide +kernel : decode code 687 = .ok (.iaload, 1))))
         (sd_lf (sd_callV (q := (RX7, TX7, 16)) (by decide +kernel : decode code 688 = .ok (.invokevirtual 128, 3)) ok_Mo_send (gm 1075 (by decide +kernel) rfl) (gm 1076 (by decide +kernel) rfl) (gm 1077 (by decide +kernel) rfl) rfl rfl (by decide +kernel) rfl rfl)))
        (sd_br
         (sd_lf (sd_istore (by decide +kernel : decode code 691 = .ok (.istore 6, 2))))
         (sd_lf (sd_aload_n (k := 2) (by decide +kernel : decode code 693 = .ok (.aload_n 2, 1))))))))
     (sd_br
      (sd_br
       (sd_br
        (sd_br
         (sd_lf (sd_pureV (sd_callV (q := (RX7, TX7, 16)) (by decide +kernel : decode code 694 = .ok (.invokevirtual 90, 3)) ok_Mo_thrown (gm 962 (by decide +kernel) rfl) (gm 963 (by decide +kernel) rfl) (gm 964 (by decide +kernel) rfl) rfl rfl (by decide +kernel) rfl rfl) c_Mo_thrown))
         (sd_lf (sd_iload (by decide +kernel : decode code 697 = .ok (.iload 5, 2)))))
        (sd_br
         (sd_lf (sd_icmp_eq (by decide +kernel : decode code 699 = .ok (.if_icmp .eq 5, 3)) (by decide +kernel)))
         (sd_lf (sd_iconst (by decide +kernel : decode code 702 = .ok (.iconst 0, 1)) (by decide +kernel)))))
       (sd_br
        (sd_br
         (sd_lf (sd_zret (by decide +kernel : decode code 703 = .ok (.ireturn, 1)) rfl))
         (sd_lf (sd_iload (by decide +kernel : decode code 704 = .ok (.iload 5, 2)))))
        (sd_br
         (sd_lf (sd_if_ne (by decide +kernel : decode code 706 = .ok (.ifCond .ne 15, 3)) (by decide +kernel)))
         (sd_lf (sd_aload_n (k := 3) (by decide +kernel : decode code 709 = .ok (.aload_n 3, 1)))))))
      (sd_br
       (sd_br
        (sd_br
         (sd_lf (sd_iconst (by decide +kernel : decode code 710 = .ok (.iconst 0, 1)) (by decide +kernel)))
         (sd_lf (sd_laload (by decide +kernel : decode code 711 = .ok (.laload, 1)))))
        (sd_br
         (sd_lf (sd_iload (by decide +kernel : decode code 712 = .ok (.iload 6, 2))))
         (sd_lf (sd_i2l (by decide +kernel : decode code 714 = .ok (.i2l, 1))))))
       (sd_br
        (sd_br
         (sd_lf (sd_lcmp (by decide +kernel : decode code 715 = .ok (.lcmp, 1))))
         (sd_lf (sd_if_eq (by decide +kernel : decode code 716 = .ok (.ifCond .eq 5, 3)) (by decide +kernel))))
        (sd_br
         (sd_lf (sd_iconst (by decide +kernel : decode code 719 = .ok (.iconst 0, 1)) (by decide +kernel)))
         (sd_br
          (sd_lf (sd_zret (by decide +kernel : decode code 720 = .ok (.ireturn, 1)) rfl))
          (sd_lf (sd_goto (by decide +kernel : decode code 721 = .ok (.goto 864, 3)) (by decide +kernel))))))))))
