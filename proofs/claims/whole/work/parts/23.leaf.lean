theorem i0 : (0 : Int32) = nI 0 := rfl
theorem i1 : (1 : Int32) = nI 1 := rfl
theorem va_rf_none : va_rf none = Value.null := rfl
theorem va_rf_some (a : Nat) : va_rf (some a) = Value.ref a := rfl
theorem isRf_rf (r : Option Nat) : isRf (va_rf r) = True := by cases r <;> simp [va_rf, isRf]
theorem is1_rf (r : Option Nat) : is1 (va_rf r) = True := by cases r <;> simp [va_rf, is1]
noncomputable def bI (c : Prop) : Int32 := @ite _ c (Classical.propDecidable c) (nI 1) (nI 0)
theorem bI_t {c : Prop} (h : c) : bI c = nI 1 := by unfold bI; rw [if_pos h]
theorem bI_f {c : Prop} (h : ¬ c) : bI c = nI 0 := by unfold bI; rw [if_neg h]
theorem bI_eq0 (c : Prop) : (bI c = nI 0) = ¬ c := by
  by_cases h : c
  · rw [bI_t h]; simp [h]; decide
  · rw [bI_f h]; simp [h]
theorem bI_eq1 (c : Prop) : (bI c = nI 1) = c := by
  by_cases h : c
  · rw [bI_t h]; simp [h]
  · rw [bI_f h]; simp [h]; decide
theorem nm_em (p : Prop) : (¬ p ∨ p) = True := by
  by_cases h : p <;> simp [h]
theorem vp_inN {k n : Nat} (h : k < n) (h2 : n < 2147483648) : vp_in (nI k) n = True := eq_true (vp_in_nI h h2)
theorem nI_cl {k : Nat} (h : k < 2147483648) : (nI k).toNatClampNeg = k := nI_clamp h
theorem nI_eqP {a b : Nat} (ha : a < 2147483648) (hb : b < 2147483648) : (nI a = nI b) = (a = b) := propext (nI_eq ha hb)
theorem nI_leP {a b : Nat} (ha : a < 2147483648) (hb : b < 2147483648) : (nI a ≤ nI b) = (a ≤ b) := propext (nI_leI ha hb)
theorem nI_ltP {a b : Nat} (ha : a < 2147483648) (hb : b < 2147483648) : (nI a < nI b) = (a < b) := propext (nI_ltI ha hb)
theorem bI_01 (c : Prop) : (bI c = nI 0 ∨ bI c = nI 1) = True := by
  by_cases h : c
  · rw [bI_t h]; simp
  · rw [bI_f h]; simp
theorem ne10k : (nI 10000 = nI 0) = False := by decide
theorem n01 : (nI 0 = nI 1) = False := by decide
theorem n10 : (nI 1 = nI 0) = False := by decide
def k_Mo_at (l : Launch) (G : Gc) (pc : Nat) : Tr :=
  if pc < 6 then
   if pc < 4 then
    if pc < 2 then
     if pc = 0 then tz_const 2 (.int (nI 16)) else dead
    else
     if pc = 2 then tz_const 4 (.int (nI 16)) else dead
   else
    if pc < 5 then
     if pc = 4 then tz_iload 5 0 else dead
    else
     if pc = 5 then tz_i2 6 (fun a b => a * b) else dead
  else
   if pc < 8 then
    if pc < 7 then
     if pc = 6 then tz_i2 7 (fun a b => a + b) else dead
    else
     if pc = 7 then tz_iload 8 1 else dead
   else
    if pc < 9 then
     if pc = 8 then tz_i2 9 (fun a b => a + b) else dead
    else
     if pc = 9 then tz_iret else dead
set_option maxRecDepth 100000 in
theorem T_Mo_at (l : Launch) (G : Gc) : TabOK l G M_Mo_at (k_Mo_at l G) := by
  intro pc
  unfold k_Mo_at
  exact
   (sd_br
    (sd_br
     (sd_br
      (sd_lf (sd_bipush (by decide +kernel : decode prog_9_method_4_code 0 = .ok (.bipush 16, 2)) (by decide +kernel)))
      (sd_lf (sd_bipush (by decide +kernel : decode prog_9_method_4_code 2 = .ok (.bipush 16, 2)) (by decide +kernel))))
     (sd_br
      (sd_lf (sd_iload_n (k := 0) (by decide +kernel : decode prog_9_method_4_code 4 = .ok (.iload_n 0, 1))))
      (sd_lf (sd_imul (by decide +kernel : decode prog_9_method_4_code 5 = .ok (.imul, 1))))))
    (sd_br
     (sd_br
      (sd_lf (sd_iadd (by decide +kernel : decode prog_9_method_4_code 6 = .ok (.iadd, 1))))
      (sd_lf (sd_iload_n (k := 1) (by decide +kernel : decode prog_9_method_4_code 7 = .ok (.iload_n 1, 1)))))
     (sd_br
      (sd_lf (sd_iadd (by decide +kernel : decode prog_9_method_4_code 8 = .ok (.iadd, 1))))
      (sd_lf (sd_iret (by decide +kernel : decode prog_9_method_4_code 9 = .ok (.ireturn, 1)) rfl)))))
def k_Mo_map (l : Launch) (G : Gc) (pc : Nat) : Tr :=
  if pc < 10 then
   if pc < 7 then
    if pc < 3 then
     if pc = 0 then tz_const 3 (.int (nI 176)) else dead
    else
     if pc < 5 then
      if pc = 3 then tz_const 5 (.int (nI 8)) else dead
     else
      if pc = 5 then tz_const 7 (.int (nI 8)) else dead
   else
    if pc < 8 then
     if pc = 7 then tz_iload 8 0 else dead
    else
     if pc < 9 then
      if pc = 8 then tz_i2 9 (fun a b => a * b) else dead
     else
      if pc = 9 then tz_iload 10 1 else dead
  else
   if pc < 13 then
    if pc < 11 then
     if pc = 10 then tz_i2 11 (fun a b => a + b) else dead
    else
     if pc < 12 then
      if pc = 11 then tz_i2 12 (fun a b => a * b) else dead
     else
      if pc = 12 then tz_i2 13 (fun a b => a + b) else dead
   else
    if pc < 14 then
     if pc = 13 then tz_iload 14 2 else dead
    else
     if pc < 15 then
      if pc = 14 then tz_i2 15 (fun a b => a + b) else dead
     else
      if pc = 15 then tz_iret else dead
set_option maxRecDepth 100000 in
theorem T_Mo_map (l : Launch) (G : Gc) : TabOK l G M_Mo_map (k_Mo_map l G) := by
  intro pc
  unfold k_Mo_map
  exact
   (sd_br
    (sd_br
     (sd_br
      (sd_lf (sd_sipush (by decide +kernel : decode prog_9_method_5_code 0 = .ok (.sipush 176, 3)) (by decide +kernel)))
      (sd_br
       (sd_lf (sd_bipush (by decide +kernel : decode prog_9_method_5_code 3 = .ok (.bipush 8, 2)) (by decide +kernel)))
       (sd_lf (sd_bipush (by decide +kernel : decode prog_9_method_5_code 5 = .ok (.bipush 8, 2)) (by decide +kernel)))))
     (sd_br
      (sd_lf (sd_iload_n (k := 0) (by decide +kernel : decode prog_9_method_5_code 7 = .ok (.iload_n 0, 1))))
      (sd_br
       (sd_lf (sd_imul (by decide +kernel : decode prog_9_method_5_code 8 = .ok (.imul, 1))))
       (sd_lf (sd_iload_n (k := 1) (by decide +kernel : decode prog_9_method_5_code 9 = .ok (.iload_n 1, 1)))))))
    (sd_br
     (sd_br
      (sd_lf (sd_iadd (by decide +kernel : decode prog_9_method_5_code 10 = .ok (.iadd, 1))))
      (sd_br
       (sd_lf (sd_imul (by decide +kernel : decode prog_9_method_5_code 11 = .ok (.imul, 1))))
       (sd_lf (sd_iadd (by decide +kernel : decode prog_9_method_5_code 12 = .ok (.iadd, 1))))))
     (sd_br
      (sd_lf (sd_iload_n (k := 2) (by decide +kernel : decode prog_9_method_5_code 13 = .ok (.iload_n 2, 1))))
      (sd_br
       (sd_lf (sd_iadd (by decide +kernel : decode prog_9_method_5_code 14 = .ok (.iadd, 1))))
       (sd_lf (sd_iret (by decide +kernel : decode prog_9_method_5_code 15 = .ok (.ireturn, 1)) rfl))))))
def k_Mo_contact (l : Launch) (G : Gc) (pc : Nat) : Tr :=
  if pc < 11 then
   if pc < 6 then
    if pc < 3 then
     if pc = 0 then tz_const 3 (.int (nI 816)) else dead
    else
     if pc < 4 then
      if pc = 3 then tz_const 4 (.int (nI 2)) else dead
     else
      if pc = 4 then tz_const 6 (.int (nI 8)) else dead
   else
    if pc < 9 then
     if pc < 8 then
      if pc = 6 then tz_const 8 (.int (nI 8)) else dead
     else
      if pc = 8 then tz_iload 9 0 else dead
    else
     if pc < 10 then
      if pc = 9 then tz_i2 10 (fun a b => a * b) else dead
     else
      if pc = 10 then tz_iload 11 1 else dead
  else
   if pc < 14 then
    if pc < 12 then
     if pc = 11 then tz_i2 12 (fun a b => a + b) else dead
    else
     if pc < 13 then
      if pc = 12 then tz_i2 13 (fun a b => a * b) else dead
     else
      if pc = 13 then tz_iload 14 2 else dead
   else
    if pc < 16 then
     if pc < 15 then
      if pc = 14 then tz_i2 15 (fun a b => a + b) else dead
     else
      if pc = 15 then tz_i2 16 (fun a b => a * b) else dead
    else
     if pc < 17 then
      if pc = 16 then tz_i2 17 (fun a b => a + b) else dead
     else
      if pc = 17 then tz_iret else dead
set_option maxRecDepth 100000 in
theorem T_Mo_contact (l : Launch) (G : Gc) : TabOK l G M_Mo_contact (k_Mo_contact l G) := by
  intro pc
  unfold k_Mo_contact
  exact
   (sd_br
    (sd_br
     (sd_br
      (sd_lf (sd_sipush (by decide +kernel : decode prog_9_method_6_code 0 = .ok (.sipush 816, 3)) (by decide +kernel)))
      (sd_br
       (sd_lf (sd_iconst (by decide +kernel : decode prog_9_method_6_code 3 = .ok (.iconst 2, 1)) (by decide +kernel)))
       (sd_lf (sd_bipush (by decide +kernel : decode prog_9_method_6_code 4 = .ok (.bipush 8, 2)) (by decide +kernel)))))
     (sd_br
      (sd_br
       (sd_lf (sd_bipush (by decide +kernel : decode prog_9_method_6_code 6 = .ok (.bipush 8, 2)) (by decide +kernel)))
       (sd_lf (sd_iload_n (k := 0) (by decide +kernel : decode prog_9_method_6_code 8 = .ok (.iload_n 0, 1)))))
      (sd_br
       (sd_lf (sd_imul (by decide +kernel : decode prog_9_method_6_code 9 = .ok (.imul, 1))))
       (sd_lf (sd_iload_n (k := 1) (by decide +kernel : decode prog_9_method_6_code 10 = .ok (.iload_n 1, 1)))))))
    (sd_br
     (sd_br
      (sd_lf (sd_iadd (by decide +kernel : decode prog_9_method_6_code 11 = .ok (.iadd, 1))))
      (sd_br
       (sd_lf (sd_imul (by decide +kernel : decode prog_9_method_6_code 12 = .ok (.imul, 1))))
       (sd_lf (sd_iload_n (k := 2) (by decide +kernel : decode prog_9_method_6_code 13 = .ok (.iload_n 2, 1))))))
     (sd_br
      (sd_br
       (sd_lf (sd_iadd (by decide +kernel : decode prog_9_method_6_code 14 = .ok (.iadd, 1))))
       (sd_lf (sd_imul (by decide +kernel : decode prog_9_method_6_code 15 = .ok (.imul, 1)))))
      (sd_br
       (sd_lf (sd_iadd (by decide +kernel : decode prog_9_method_6_code 16 = .ok (.iadd, 1))))
       (sd_lf (sd_iret (by decide +kernel : decode prog_9_method_6_code 17 = .ok (.ireturn, 1)) rfl))))))
def k_Mo_within (l : Launch) (G : Gc) (pc : Nat) : Tr :=
  if pc < 7 then
   if pc < 2 then
    if pc < 1 then
     if pc = 0 then tz_iload 1 0 else dead
    else
     if pc = 1 then tz_iload 2 1 else dead
   else
    if pc < 5 then
     if pc = 2 then tz_icmp 5 14 (fun a b => a < b) else dead
    else
     if pc < 6 then
      if pc = 5 then tz_iload 6 0 else dead
     else
      if pc = 6 then tz_iload 7 2 else dead
  else
   if pc < 11 then
    if pc < 10 then
     if pc = 7 then tz_icmp 10 14 (fun a b => b < a) else dead
    else
     if pc = 10 then tz_const 11 (.int (nI 1)) else dead
   else
    if pc < 14 then
     if pc = 11 then tz_goto 15 else dead
    else
     if pc < 15 then
      if pc = 14 then tz_const 15 (.int (nI 0)) else dead
     else
      if pc = 15 then tz_zret else dead
set_option maxRecDepth 100000 in
theorem T_Mo_within (l : Launch) (G : Gc) : TabOK l G M_Mo_within (k_Mo_within l G) := by
  intro pc
  unfold k_Mo_within
  exact
   (sd_br
    (sd_br
     (sd_br
      (sd_lf (sd_iload_n (k := 0) (by decide +kernel : decode prog_9_method_3_code 0 = .ok (.iload_n 0, 1))))
      (sd_lf (sd_iload_n (k := 1) (by decide +kernel : decode prog_9_method_3_code 1 = .ok (.iload_n 1, 1)))))
     (sd_br
      (sd_lf (sd_icmp_lt (by decide +kernel : decode prog_9_method_3_code 2 = .ok (.if_icmp .lt 12, 3)) (by decide +kernel)))
      (sd_br
       (sd_lf (sd_iload_n (k := 0) (by decide +kernel : decode prog_9_method_3_code 5 = .ok (.iload_n 0, 1))))
       (sd_lf (sd_iload_n (k := 2) (by decide +kernel : decode prog_9_method_3_code 6 = .ok (.iload_n 2, 1)))))))
    (sd_br
     (sd_br
      (sd_lf (sd_icmp_gt (by decide +kernel : decode prog_9_method_3_code 7 = .ok (.if_icmp .gt 7, 3)) (by decide +kernel)))
      (sd_lf (sd_iconst (by decide +kernel : decode prog_9_method_3_code 10 = .ok (.iconst 1, 1)) (by decide +kernel))))
     (sd_br
      (sd_lf (sd_goto (by decide +kernel : decode prog_9_method_3_code 11 = .ok (.goto 4, 3)) (by decide +kernel)))
      (sd_br
       (sd_lf (sd_iconst (by decide +kernel : decode prog_9_method_3_code 14 = .ok (.iconst 0, 1)) (by decide +kernel)))
       (sd_lf (sd_zret (by decide +kernel : decode prog_9_method_3_code 15 = .ok (.ireturn, 1)) rfl))))))
def k_Hp_isWithin (l : Launch) (G : Gc) (pc : Nat) : Tr :=
  if pc < 7 then
   if pc < 2 then
    if pc < 1 then
     if pc = 0 then tz_iload 1 0 else dead
    else
     if pc = 1 then tz_iload 2 1 else dead
   else
    if pc < 5 then
     if pc = 2 then tz_icmp 5 14 (fun a b => a < b) else dead
    else
     if pc < 6 then
      if pc = 5 then tz_iload 6 0 else dead
     else
      if pc = 6 then tz_iload 7 2 else dead
  else
   if pc < 11 then
    if pc < 10 then
     if pc = 7 then tz_icmp 10 14 (fun a b => b < a) else dead
    else
     if pc = 10 then tz_const 11 (.int (nI 1)) else dead
   else
    if pc < 14 then
     if pc = 11 then tz_goto 15 else dead
    else
     if pc < 15 then
      if pc = 14 then tz_const 15 (.int (nI 0)) else dead
     else
      if pc = 15 then tz_zret else dead
set_option maxRecDepth 100000 in
theorem T_Hp_isWithin (l : Launch) (G : Gc) : TabOK l G M_Hp_isWithin (k_Hp_isWithin l G) := by
  intro pc
  unfold k_Hp_isWithin
  exact
   (sd_br
    (sd_br
     (sd_br
      (sd_lf (sd_iload_n (k := 0) (by decide +kernel : decode prog_1_method_37_code 0 = .ok (.iload_n 0, 1))))
      (sd_lf (sd_iload_n (k := 1) (by decide +kernel : decode prog_1_method_37_code 1 = .ok (.iload_n 1, 1)))))
     (sd_br
      (sd_lf (sd_icmp_lt (by decide +kernel : decode prog_1_method_37_code 2 = .ok (.if_icmp .lt 12, 3)) (by decide +kernel)))
      (sd_br
       (sd_lf (sd_iload_n (k := 0) (by decide +kernel : decode prog_1_method_37_code 5 = .ok (.iload_n 0, 1))))
       (sd_lf (sd_iload_n (k := 2) (by decide +kernel : decode prog_1_method_37_code 6 = .ok (.iload_n 2, 1)))))))
    (sd_br
     (sd_br
      (sd_lf (sd_icmp_gt (by decide +kernel : decode prog_1_method_37_code 7 = .ok (.if_icmp .gt 7, 3)) (by decide +kernel)))
      (sd_lf (sd_iconst (by decide +kernel : decode prog_1_method_37_code 10 = .ok (.iconst 1, 1)) (by decide +kernel))))
     (sd_br
      (sd_lf (sd_goto (by decide +kernel : decode prog_1_method_37_code 11 = .ok (.goto 4, 3)) (by decide +kernel)))
      (sd_br
       (sd_lf (sd_iconst (by decide +kernel : decode prog_1_method_37_code 14 = .ok (.iconst 0, 1)) (by decide +kernel)))
       (sd_lf (sd_zret (by decide +kernel : decode prog_1_method_37_code 15 = .ok (.ireturn, 1)) rfl))))))
def k_Hp_isPort (l : Launch) (G : Gc) (pc : Nat) : Tr :=
  if pc < 9 then
   if pc < 2 then
    if pc < 1 then
     if pc = 0 then tz_iload 1 0 else dead
    else
     if pc = 1 then tz_const 2 (.int (nI 1)) else dead
   else
    if pc < 5 then
     if pc = 2 then tz_icmp 5 16 (fun a b => a < b) else dead
    else
     if pc < 6 then
      if pc = 5 then tz_iload 6 0 else dead
     else
      if pc = 6 then tz_const 9 (.int (nI 9999)) else dead
  else
   if pc < 13 then
    if pc < 12 then
     if pc = 9 then tz_icmp 12 16 (fun a b => b < a) else dead
    else
     if pc = 12 then tz_const 13 (.int (nI 1)) else dead
   else
    if pc < 16 then
     if pc = 13 then tz_goto 17 else dead
    else
     if pc < 17 then
      if pc = 16 then tz_const 17 (.int (nI 0)) else dead
     else
      if pc = 17 then tz_zret else dead
set_option maxRecDepth 100000 in
theorem T_Hp_isPort (l : Launch) (G : Gc) : TabOK l G M_Hp_isPort (k_Hp_isPort l G) := by
  intro pc
  unfold k_Hp_isPort
  exact
   (sd_br
    (sd_br
     (sd_br
      (sd_lf (sd_iload_n (k := 0) (by decide +kernel : decode prog_1_method_38_code 0 = .ok (.iload_n 0, 1))))
      (sd_lf (sd_iconst (by decide +kernel : decode prog_1_method_38_code 1 = .ok (.iconst 1, 1)) (by decide +kernel))))
     (sd_br
      (sd_lf (sd_icmp_lt (by decide +kernel : decode prog_1_method_38_code 2 = .ok (.if_icmp .lt 14, 3)) (by decide +kernel)))
      (sd_br
       (sd_lf (sd_iload_n (k := 0) (by decide +kernel : decode prog_1_method_38_code 5 = .ok (.iload_n 0, 1))))
       (sd_lf (sd_sipush (by decide +kernel : decode prog_1_method_38_code 6 = .ok (.sipush 9999, 3)) (by decide +kernel))))))
    (sd_br
     (sd_br
      (sd_lf (sd_icmp_gt (by decide +kernel : decode prog_1_method_38_code 9 = .ok (.if_icmp .gt 7, 3)) (by decide +kernel)))
      (sd_lf (sd_iconst (by decide +kernel : decode prog_1_method_38_code 12 = .ok (.iconst 1, 1)) (by decide +kernel))))
     (sd_br
      (sd_lf (sd_goto (by decide +kernel : decode prog_1_method_38_code 13 = .ok (.goto 4, 3)) (by decide +kernel)))
      (sd_br
       (sd_lf (sd_iconst (by decide +kernel : decode prog_1_method_38_code 16 = .ok (.iconst 0, 1)) (by decide +kernel)))
       (sd_lf (sd_zret (by decide +kernel : decode prog_1_method_38_code 17 = .ok (.ireturn, 1)) rfl))))))
def k_Hp_endpoint (l : Launch) (G : Gc) (pc : Nat) : Tr :=
  if pc < 5 then
   if pc < 1 then
    if pc = 0 then tz_iload 1 0 else dead
   else
    if pc < 4 then
     if pc = 1 then tz_const 4 (.int (nI 10000)) else dead
    else
     if pc = 4 then tz_i2 5 (fun a b => a * b) else dead
  else
   if pc < 6 then
    if pc = 5 then tz_iload 6 1 else dead
   else
    if pc < 7 then
     if pc = 6 then tz_i2 7 (fun a b => a + b) else dead
    else
     if pc = 7 then tz_iret else dead
set_option maxRecDepth 100000 in
theorem T_Hp_endpoint (l : Launch) (G : Gc) : TabOK l G M_Hp_endpoint (k_Hp_endpoint l G) := by
  intro pc
  unfold k_Hp_endpoint
  exact
   (sd_br
    (sd_br
     (sd_lf (sd_iload_n (k := 0) (by decide +kernel : decode prog_1_method_39_code 0 = .ok (.iload_n 0, 1))))
     (sd_br
      (sd_lf (sd_sipush (by decide +kernel : decode prog_1_method_39_code 1 = .ok (.sipush 10000, 3)) (by decide +kernel)))
      (sd_lf (sd_imul (by decide +kernel : decode prog_1_method_39_code 4 = .ok (.imul, 1))))))
    (sd_br
     (sd_lf (sd_iload_n (k := 1) (by decide +kernel : decode prog_1_method_39_code 5 = .ok (.iload_n 1, 1))))
     (sd_br
      (sd_lf (sd_iadd (by decide +kernel : decode prog_1_method_39_code 6 = .ok (.iadd, 1))))
      (sd_lf (sd_iret (by decide +kernel : decode prog_1_method_39_code 7 = .ok (.ireturn, 1)) rfl)))))
def k_Hp_nodeOf (l : Launch) (G : Gc) (pc : Nat) : Tr :=
  if pc < 4 then
   if pc < 1 then
    if pc = 0 then tz_iload 1 0 else dead
   else
    if pc = 1 then tz_const 4 (.int (nI 10000)) else dead
  else
   if pc < 5 then
    if pc = 4 then tz_i2z 5 (fun a b => a / b) else dead
   else
    if pc = 5 then tz_iret else dead
set_option maxRecDepth 100000 in
theorem T_Hp_nodeOf (l : Launch) (G : Gc) : TabOK l G M_Hp_nodeOf (k_Hp_nodeOf l G) := by
  intro pc
  unfold k_Hp_nodeOf
  exact
   (sd_br
    (sd_br
     (sd_lf (sd_iload_n (k := 0) (by decide +kernel : decode prog_1_method_40_code 0 = .ok (.iload_n 0, 1))))
     (sd_lf (sd_sipush (by decide +kernel : decode prog_1_method_40_code 1 = .ok (.sipush 10000, 3)) (by decide +kernel))))
    (sd_br
     (sd_lf (sd_idiv (by decide +kernel : decode prog_1_method_40_code 4 = .ok (.idiv, 1))))
     (sd_lf (sd_iret (by decide +kernel : decode prog_1_method_40_code 5 = .ok (.ireturn, 1)) rfl))))
def k_Hp_portOf (l : Launch) (G : Gc) (pc : Nat) : Tr :=
  if pc < 4 then
   if pc < 1 then
    if pc = 0 then tz_iload 1 0 else dead
   else
    if pc = 1 then tz_const 4 (.int (nI 10000)) else dead
  else
   if pc < 5 then
    if pc = 4 then tz_i2z 5 (fun a b => a - a / b * b) else dead
   else
    if pc = 5 then tz_iret else dead
set_option maxRecDepth 100000 in
theorem T_Hp_portOf (l : Launch) (G : Gc) : TabOK l G M_Hp_portOf (k_Hp_portOf l G) := by
  intro pc
  unfold k_Hp_portOf
  exact
   (sd_br
    (sd_br
     (sd_lf (sd_iload_n (k := 0) (by decide +kernel : decode prog_1_method_41_code 0 = .ok (.iload_n 0, 1))))
     (sd_lf (sd_sipush (by decide +kernel : decode prog_1_method_41_code 1 = .ok (.sipush 10000, 3)) (by decide +kernel))))
    (sd_br
     (sd_lf (sd_irem (by decide +kernel : decode prog_1_method_41_code 4 = .ok (.irem, 1))))
     (sd_lf (sd_iret (by decide +kernel : decode prog_1_method_41_code 5 = .ok (.ireturn, 1)) rfl))))
def P_ii : List Value → AH → Prop
  | [.int _, .int _], _ => True
  | _, _ => False
def P_iii : List Value → AH → Prop
  | [.int _, .int _, .int _], _ => True
  | _, _ => False
def P_i : List Value → AH → Prop
  | [.int _], _ => True
  | _, _ => False
abbrev P_Mo_at := P_ii
abbrev P_Mo_map := P_iii
abbrev P_Mo_contact := P_iii
abbrev P_Mo_within := P_iii
abbrev P_Mo_isPort := P_i
abbrev P_Hp_isWithin := P_iii
abbrev P_Hp_isPort := P_i
abbrev P_Hp_endpoint := P_ii
abbrev P_Hp_nodeOf := P_i
abbrev P_Hp_portOf := P_i
abbrev P_Ma_max := P_ii
abbrev P_Ma_min := P_ii
abbrev P_Hp_isSetting := P_ii
def f_Mo_at : List Value → AH → Value
  | [.int a, .int b], _ => .int (nI 16 + nI 16 * a + b)
  | _, _ => .null
def f_Mo_map : List Value → AH → Value
  | [.int t, .int m, .int w], _ => .int (nI 176 + nI 8 * (nI 8 * t + m) + w)
  | _, _ => .null
def f_Mo_contact : List Value → AH → Value
  | [.int t, .int m, .int k], _ => .int (nI 816 + nI 2 * (nI 8 * (nI 8 * t + m) + k))
  | _, _ => .null
noncomputable def f_Mo_within : List Value → AH → Value
  | [.int v, .int lo, .int hi], _ => .int (bI (lo ≤ v ∧ v ≤ hi))
  | _, _ => .null
noncomputable def f_Mo_isPort : List Value → AH → Value
  | [.int v], _ => .int (bI (nI 1 ≤ v ∧ v ≤ nI 9999))
  | _, _ => .null
noncomputable abbrev f_Hp_isWithin := f_Mo_within
noncomputable abbrev f_Hp_isPort := f_Mo_isPort
def f_Hp_endpoint : List Value → AH → Value
  | [.int a, .int b], _ => .int (a * nI 10000 + b)
  | _, _ => .null
def f_Hp_nodeOf : List Value → AH → Value
  | [.int a], _ => .int (a / nI 10000)
  | _, _ => .null
def f_Hp_portOf : List Value → AH → Value
  | [.int a], _ => .int (a - a / nI 10000 * nI 10000)
  | _, _ => .null
def f_Ma_max : List Value → AH → Value
  | [.int a, .int b], _ => .int (if a < b then b else a)
  | _, _ => .null
def f_Ma_min : List Value → AH → Value
  | [.int a, .int b], _ => .int (if b < a then b else a)
  | _, _ => .null
noncomputable def f_Hp_isSetting : List Value → AH → Value
  | [.int w, .int v], _ => .int (bI ((w = nI 0 ∧ nI 1 ≤ v ∧ v ≤ nI 9) ∨ (w = nI 1 ∧ nI 1 ≤ v ∧ v ≤ nI 1000) ∨ ((w = nI 2 ∨ w = nI 3) ∧ nI 0 ≤ v ∧ v ≤ nI 1)))
  | _, _ => .null
section
variable {l : Launch} {G : Gc} {M : Md} {pc : Nat}
theorem sd_mmax {idx : Nat} (hd : decode (mC M) pc = .ok (.invokestatic idx, 3)) (h1 : Cond.methodLink (mY M).cls idx Lib.Math.max.name ∈ gtbl) (h2 : Cond.static Lib.Math.max.name ∈ gtbl) (h3 : Cond.initialized "java/lang/Math" ∈ gtbl) (h4 : Cond.code Lib.Math.max.name Lib.Math.max.code 2 (some .int) ∈ gtbl) (hf : 1 ≤ mF M) (ho : 21 ≤ mO M) : Sd l G M pc (tz_pureS (pc + 3) 2 P_ii f_Ma_max) := by
  intro Q K L st h hK hT
  unfold tz_pureS at hT
  split at hT
  · rename_i as r hpop
    obtain ⟨rfl, hlen⟩ := popN_spec 2 st hpop
    obtain ⟨hr, hP, hT⟩ := hT
    match as, hP, hT with
    | [.int a, .int b], _, hT =>
      refine AWp.of (by exact Nat.le_refl _) (by exact Nat.le_refl _) ?_ (hK _ _ _ _ hT)
      intro p e R s m args below meth c h0 hf' H locs cells slots QF ls hcx hp hn1 hm1 hl kk
      obtain ⟨hx, hb, hml, hown, hts, -, -, -, -, hR9, hKn, -⟩ := hcx
      have hc8 := hr.le
      have hap : ([] : List Value).append r = r := rfl
      exact va_mmax hx hb (by rw [hml, hl.1]) hown (hts _ h1) (hts _ h2) (hts _ h3) (hts _ h4) (by rw [hR9]; exact hf) (by rw [hR9]; show (List.map (fun v => v.category) r).sum + 13 ≤ mO M; omega) (by rw [hR9, hp.2.2.1]; show _ ≤ hN hf' - hN h0; omega) (by rw [hR9, hp.2.2.2.1]; show _ ≤ hM hf' - hM h0; omega) hd (kk _ _ _ _ _ hp hl)
  · exact hT.elim
theorem sd_mmin {idx : Nat} (hd : decode (mC M) pc = .ok (.invokestatic idx, 3)) (h1 : Cond.methodLink (mY M).cls idx Lib.Math.min.name ∈ gtbl) (h2 : Cond.static Lib.Math.min.name ∈ gtbl) (h3 : Cond.initialized "java/lang/Math" ∈ gtbl) (h4 : Cond.code Lib.Math.min.name Lib.Math.min.code 2 (some .int) ∈ gtbl) (hf : 1 ≤ mF M) (ho : 21 ≤ mO M) : Sd l G M pc (tz_pureS (pc + 3) 2 P_ii f_Ma_min) := by
  intro Q K L st h hK hT
  unfold tz_pureS at hT
  split at hT
  · rename_i as r hpop
    obtain ⟨rfl, hlen⟩ := popN_spec 2 st hpop
    obtain ⟨hr, hP, hT⟩ := hT
    match as, hP, hT with
    | [.int a, .int b], _, hT =>
      refine AWp.of (by exact Nat.le_refl _) (by exact Nat.le_refl _) ?_ (hK _ _ _ _ hT)
      intro p e R s m args below meth c h0 hf' H locs cells slots QF ls hcx hp hn1 hm1 hl kk
      obtain ⟨hx, hb, hml, hown, hts, -, -, -, -, hR9, hKn, -⟩ := hcx
      have hc8 := hr.le
      have hap : ([] : List Value).append r = r := rfl
      exact va_mmin hx hb (by rw [hml, hl.1]) hown (hts _ h1) (hts _ h2) (hts _ h3) (hts _ h4) (by rw [hR9]; exact hf) (by rw [hR9]; show (List.map (fun v => v.category) r).sum + 13 ≤ mO M; omega) (by rw [hR9, hp.2.2.1]; show _ ≤ hN hf' - hN h0; omega) (by rw [hR9, hp.2.2.2.1]; show _ ≤ hM hf' - hM h0; omega) hd (kk _ _ _ _ _ hp hl)
  · exact hT.elim
end
section
variable {l : Launch} {G : Gc}
theorem c_Mo_at (as : List Value) (h : AH) (Q : Po) (hl : as.length = 2) (hP : P_Mo_at as h) (hQ : Q (.inl (some (f_Mo_at as h))) h) : Call l G M_Mo_at as h Q := by
  match as, hP, hQ with
  | [.int a, .int b], _, hQ =>
    refine call_of rfl rfl (Nat.le_of_ble_eq_true rfl) ?_
    (obtain ⟨W9, hW9, hgo9⟩ := wp_ex (T_Mo_at l G) [] _; refine hgo9 200 _ _ _ _ ?_; simp -implicitDefEqProofs (disch := omega) only [hW9, inl, gate, Xq, tz_const, tz_iload, tz_lload, tz_dload, tz_aload, tz_istore, tz_astore, tz_lstore, tz_dstore, tz_iinc, tz_i1, tz_i2, tz_i2z, tz_l2, tz_l2z, tz_i2l, tz_l2i, tz_lcmp, tz_i2d, tz_d2, tz_dcmp, tz_dup, tz_dup2, tz_pop, tz_if, tz_icmp, tz_null, tz_goto, tz_sw, tz_getf, tz_puti, tz_putz, tz_putr, tz_putl, tz_iaload, tz_baload, tz_laload, tz_aaload, tz_iastore, tz_bastore, tz_lastore, tz_aastore, tz_alen, tz_new, tz_newa, tz_oinit, tz_iret, tz_zret, tz_lret, tz_dret, tz_aret, tz_vret, tz_throw, tz_callS, tz_callV, tz_callI, tz_callR, tz_pureS, tz_pureV, tz_callVH, lg, lset, lkill, lst1, lst2, entL, isRf, is1, vl, va_rf_none, va_rf_some, isRf_rf, is1_rf, i0, i1, bI_eq0, bI_eq1, nm_em, nI_eqP, nI_leP, nI_ltP, nN_e1, nN_e2, nN_l1, nN_l2, nN_l3, nN_l4, nI_add, pk_mul, vp_inN, nI_cl, n01, n10, P_i, P_ii, P_iii, f_Mo_at, f_Mo_map, f_Mo_contact, f_Mo_within, f_Mo_isPort, f_Hp_endpoint, f_Hp_nodeOf, f_Hp_portOf, f_Ma_max, f_Ma_min, f_Hp_isSetting, popN, rok, a1, noX, swc, mL, if_true, if_false, ↓reduceIte, cond_true, cond_false, true_and, and_true, List.length_cons, List.length_nil, List.nil_append, List.cons_append, List.append_nil, Option.toList, Nat.reduceEqDiff, Bool.false_eq_true, reduceCtorEq, Nat.reduceAdd, Nat.reduceLT, Nat.reduceLeDiff, Nat.reduceSub, List.replicate, Nat.zero_add, Nat.lt_add_one, Nat.le_refl, Nat.zero_le, Nat.succ_ne_zero, not_false_eq_true, not_true_eq_false, false_implies, true_implies, forall_const, imp_self, true_or, or_true, eq_self, k_Mo_at]; try clear hgo9 hW9)
    exact hQ
theorem c_Mo_map (as : List Value) (h : AH) (Q : Po) (hl : as.length = 3) (hP : P_Mo_map as h) (hQ : Q (.inl (some (f_Mo_map as h))) h) : Call l G M_Mo_map as h Q := by
  match as, hP, hQ with
  | [.int a, .int b, .int c], _, hQ =>
    refine call_of rfl rfl (Nat.le_of_ble_eq_true rfl) ?_
    (obtain ⟨W9, hW9, hgo9⟩ := wp_ex (T_Mo_map l G) [] _; refine hgo9 200 _ _ _ _ ?_; simp -implicitDefEqProofs (disch := omega) only [hW9, inl, gate, Xq, tz_const, tz_iload, tz_lload, tz_dload, tz_aload, tz_istore, tz_astore, tz_lstore, tz_dstore, tz_iinc, tz_i1, tz_i2, tz_i2z, tz_l2, tz_l2z, tz_i2l, tz_l2i, tz_lcmp, tz_i2d, tz_d2, tz_dcmp, tz_dup, tz_dup2, tz_pop, tz_if, tz_icmp, tz_null, tz_goto, tz_sw, tz_getf, tz_puti, tz_putz, tz_putr, tz_putl, tz_iaload, tz_baload, tz_laload, tz_aaload, tz_iastore, tz_bastore, tz_lastore, tz_aastore, tz_alen, tz_new, tz_newa, tz_oinit, tz_iret, tz_zret, tz_lret, tz_dret, tz_aret, tz_vret, tz_throw, tz_callS, tz_callV, tz_callI, tz_callR, tz_pureS, tz_pureV, tz_callVH, lg, lset, lkill, lst1, lst2, entL, isRf, is1, vl, va_rf_none, va_rf_some, isRf_rf, is1_rf, i0, i1, bI_eq0, bI_eq1, nm_em, nI_eqP, nI_leP, nI_ltP, nN_e1, nN_e2, nN_l1, nN_l2, nN_l3, nN_l4, nI_add, pk_mul, vp_inN, nI_cl, n01, n10, P_i, P_ii, P_iii, f_Mo_at, f_Mo_map, f_Mo_contact, f_Mo_within, f_Mo_isPort, f_Hp_endpoint, f_Hp_nodeOf, f_Hp_portOf, f_Ma_max, f_Ma_min, f_Hp_isSetting, popN, rok, a1, noX, swc, mL, if_true, if_false, ↓reduceIte, cond_true, cond_false, true_and, and_true, List.length_cons, List.length_nil, List.nil_append, List.cons_append, List.append_nil, Option.toList, Nat.reduceEqDiff, Bool.false_eq_true, reduceCtorEq, Nat.reduceAdd, Nat.reduceLT, Nat.reduceLeDiff, Nat.reduceSub, List.replicate, Nat.zero_add, Nat.lt_add_one, Nat.le_refl, Nat.zero_le, Nat.succ_ne_zero, not_false_eq_true, not_true_eq_false, false_implies, true_implies, forall_const, imp_self, true_or, or_true, eq_self, k_Mo_map]; try clear hgo9 hW9)
    exact hQ
theorem c_Mo_contact (as : List Value) (h : AH) (Q : Po) (hl : as.length = 3) (hP : P_Mo_contact as h) (hQ : Q (.inl (some (f_Mo_contact as h))) h) : Call l G M_Mo_contact as h Q := by
  match as, hP, hQ with
  | [.int a, .int b, .int c], _, hQ =>
    refine call_of rfl rfl (Nat.le_of_ble_eq_true rfl) ?_
    (obtain ⟨W9, hW9, hgo9⟩ := wp_ex (T_Mo_contact l G) [] _; refine hgo9 200 _ _ _ _ ?_; simp -implicitDefEqProofs (disch := omega) only [hW9, inl, gate, Xq, tz_const, tz_iload, tz_lload, tz_dload, tz_aload, tz_istore, tz_astore, tz_lstore, tz_dstore, tz_iinc, tz_i1, tz_i2, tz_i2z, tz_l2, tz_l2z, tz_i2l, tz_l2i, tz_lcmp, tz_i2d, tz_d2, tz_dcmp, tz_dup, tz_dup2, tz_pop, tz_if, tz_icmp, tz_null, tz_goto, tz_sw, tz_getf, tz_puti, tz_putz, tz_putr, tz_putl, tz_iaload, tz_baload, tz_laload, tz_aaload, tz_iastore, tz_bastore, tz_lastore, tz_aastore, tz_alen, tz_new, tz_newa, tz_oinit, tz_iret, tz_zret, tz_lret, tz_dret, tz_aret, tz_vret, tz_throw, tz_callS, tz_callV, tz_callI, tz_callR, tz_pureS, tz_pureV, tz_callVH, lg, lset, lkill, lst1, lst2, entL, isRf, is1, vl, va_rf_none, va_rf_some, isRf_rf, is1_rf, i0, i1, bI_eq0, bI_eq1, nm_em, nI_eqP, nI_leP, nI_ltP, nN_e1, nN_e2, nN_l1, nN_l2, nN_l3, nN_l4, nI_add, pk_mul, vp_inN, nI_cl, n01, n10, P_i, P_ii, P_iii, f_Mo_at, f_Mo_map, f_Mo_contact, f_Mo_within, f_Mo_isPort, f_Hp_endpoint, f_Hp_nodeOf, f_Hp_portOf, f_Ma_max, f_Ma_min, f_Hp_isSetting, popN, rok, a1, noX, swc, mL, if_true, if_false, ↓reduceIte, cond_true, cond_false, true_and, and_true, List.length_cons, List.length_nil, List.nil_append, List.cons_append, List.append_nil, Option.toList, Nat.reduceEqDiff, Bool.false_eq_true, reduceCtorEq, Nat.reduceAdd, Nat.reduceLT, Nat.reduceLeDiff, Nat.reduceSub, List.replicate, Nat.zero_add, Nat.lt_add_one, Nat.le_refl, Nat.zero_le, Nat.succ_ne_zero, not_false_eq_true, not_true_eq_false, false_implies, true_implies, forall_const, imp_self, true_or, or_true, eq_self, k_Mo_contact]; try clear hgo9 hW9)
    exact hQ
theorem c_Hp_endpoint (as : List Value) (h : AH) (Q : Po) (hl : as.length = 2) (hP : P_Hp_endpoint as h) (hQ : Q (.inl (some (f_Hp_endpoint as h))) h) : Call l G M_Hp_endpoint as h Q := by
  match as, hP, hQ with
  | [.int a, .int b], _, hQ =>
    refine call_of rfl rfl (Nat.le_of_ble_eq_true rfl) ?_
    (obtain ⟨W9, hW9, hgo9⟩ := wp_ex (T_Hp_endpoint l G) [] _; refine hgo9 200 _ _ _ _ ?_; simp -implicitDefEqProofs (disch := omega) only [hW9, inl, gate, Xq, tz_const, tz_iload, tz_lload, tz_dload, tz_aload, tz_istore, tz_astore, tz_lstore, tz_dstore, tz_iinc, tz_i1, tz_i2, tz_i2z, tz_l2, tz_l2z, tz_i2l, tz_l2i, tz_lcmp, tz_i2d, tz_d2, tz_dcmp, tz_dup, tz_dup2, tz_pop, tz_if, tz_icmp, tz_null, tz_goto, tz_sw, tz_getf, tz_puti, tz_putz, tz_putr, tz_putl, tz_iaload, tz_baload, tz_laload, tz_aaload, tz_iastore, tz_bastore, tz_lastore, tz_aastore, tz_alen, tz_new, tz_newa, tz_oinit, tz_iret, tz_zret, tz_lret, tz_dret, tz_aret, tz_vret, tz_throw, tz_callS, tz_callV, tz_callI, tz_callR, tz_pureS, tz_pureV, tz_callVH, lg, lset, lkill, lst1, lst2, entL, isRf, is1, vl, va_rf_none, va_rf_some, isRf_rf, is1_rf, i0, i1, bI_eq0, bI_eq1, nm_em, nI_eqP, nI_leP, nI_ltP, nN_e1, nN_e2, nN_l1, nN_l2, nN_l3, nN_l4, nI_add, pk_mul, vp_inN, nI_cl, n01, n10, P_i, P_ii, P_iii, f_Mo_at, f_Mo_map, f_Mo_contact, f_Mo_within, f_Mo_isPort, f_Hp_endpoint, f_Hp_nodeOf, f_Hp_portOf, f_Ma_max, f_Ma_min, f_Hp_isSetting, popN, rok, a1, noX, swc, mL, if_true, if_false, ↓reduceIte, cond_true, cond_false, true_and, and_true, List.length_cons, List.length_nil, List.nil_append, List.cons_append, List.append_nil, Option.toList, Nat.reduceEqDiff, Bool.false_eq_true, reduceCtorEq, Nat.reduceAdd, Nat.reduceLT, Nat.reduceLeDiff, Nat.reduceSub, List.replicate, Nat.zero_add, Nat.lt_add_one, Nat.le_refl, Nat.zero_le, Nat.succ_ne_zero, not_false_eq_true, not_true_eq_false, false_implies, true_implies, forall_const, imp_self, true_or, or_true, eq_self, k_Hp_endpoint]; try clear hgo9 hW9)
    exact hQ
theorem c_Hp_nodeOf (as : List Value) (h : AH) (Q : Po) (hl : as.length = 1) (hP : P_Hp_nodeOf as h) (hQ : Q (.inl (some (f_Hp_nodeOf as h))) h) : Call l G M_Hp_nodeOf as h Q := by
  match as, hP, hQ with
  | [.int a], _, hQ =>
    refine call_of rfl rfl (Nat.le_of_ble_eq_true rfl) ?_
    (obtain ⟨W9, hW9, hgo9⟩ := wp_ex (T_Hp_nodeOf l G) [] _; refine hgo9 200 _ _ _ _ ?_; simp -implicitDefEqProofs (disch := omega) only [hW9, inl, gate, Xq, tz_const, tz_iload, tz_lload, tz_dload, tz_aload, tz_istore, tz_astore, tz_lstore, tz_dstore, tz_iinc, tz_i1, tz_i2, tz_i2z, tz_l2, tz_l2z, tz_i2l, tz_l2i, tz_lcmp, tz_i2d, tz_d2, tz_dcmp, tz_dup, tz_dup2, tz_pop, tz_if, tz_icmp, tz_null, tz_goto, tz_sw, tz_getf, tz_puti, tz_putz, tz_putr, tz_putl, tz_iaload, tz_baload, tz_laload, tz_aaload, tz_iastore, tz_bastore, tz_lastore, tz_aastore, tz_alen, tz_new, tz_newa, tz_oinit, tz_iret, tz_zret, tz_lret, tz_dret, tz_aret, tz_vret, tz_throw, tz_callS, tz_callV, tz_callI, tz_callR, tz_pureS, tz_pureV, tz_callVH, lg, lset, lkill, lst1, lst2, entL, isRf, is1, vl, va_rf_none, va_rf_some, isRf_rf, is1_rf, i0, i1, bI_eq0, bI_eq1, nm_em, nI_eqP, nI_leP, nI_ltP, nN_e1, nN_e2, nN_l1, nN_l2, nN_l3, nN_l4, nI_add, pk_mul, vp_inN, nI_cl, n01, n10, P_i, P_ii, P_iii, f_Mo_at, f_Mo_map, f_Mo_contact, f_Mo_within, f_Mo_isPort, f_Hp_endpoint, f_Hp_nodeOf, f_Hp_portOf, f_Ma_max, f_Ma_min, f_Hp_isSetting, popN, rok, a1, noX, swc, mL, if_true, if_false, ↓reduceIte, cond_true, cond_false, true_and, and_true, List.length_cons, List.length_nil, List.nil_append, List.cons_append, List.append_nil, Option.toList, Nat.reduceEqDiff, Bool.false_eq_true, reduceCtorEq, Nat.reduceAdd, Nat.reduceLT, Nat.reduceLeDiff, Nat.reduceSub, List.replicate, Nat.zero_add, Nat.lt_add_one, Nat.le_refl, Nat.zero_le, Nat.succ_ne_zero, not_false_eq_true, not_true_eq_false, false_implies, true_implies, forall_const, imp_self, true_or, or_true, eq_self, k_Hp_nodeOf, ne10k]; try clear hgo9 hW9)
    exact hQ
theorem c_Hp_portOf (as : List Value) (h : AH) (Q : Po) (hl : as.length = 1) (hP : P_Hp_portOf as h) (hQ : Q (.inl (some (f_Hp_portOf as h))) h) : Call l G M_Hp_portOf as h Q := by
  match as, hP, hQ with
  | [.int a], _, hQ =>
    refine call_of rfl rfl (Nat.le_of_ble_eq_true rfl) ?_
    (obtain ⟨W9, hW9, hgo9⟩ := wp_ex (T_Hp_portOf l G) [] _; refine hgo9 200 _ _ _ _ ?_; simp -implicitDefEqProofs (disch := omega) only [hW9, inl, gate, Xq, tz_const, tz_iload, tz_lload, tz_dload, tz_aload, tz_istore, tz_astore, tz_lstore, tz_dstore, tz_iinc, tz_i1, tz_i2, tz_i2z, tz_l2, tz_l2z, tz_i2l, tz_l2i, tz_lcmp, tz_i2d, tz_d2, tz_dcmp, tz_dup, tz_dup2, tz_pop, tz_if, tz_icmp, tz_null, tz_goto, tz_sw, tz_getf, tz_puti, tz_putz, tz_putr, tz_putl, tz_iaload, tz_baload, tz_laload, tz_aaload, tz_iastore, tz_bastore, tz_lastore, tz_aastore, tz_alen, tz_new, tz_newa, tz_oinit, tz_iret, tz_zret, tz_lret, tz_dret, tz_aret, tz_vret, tz_throw, tz_callS, tz_callV, tz_callI, tz_callR, tz_pureS, tz_pureV, tz_callVH, lg, lset, lkill, lst1, lst2, entL, isRf, is1, vl, va_rf_none, va_rf_some, isRf_rf, is1_rf, i0, i1, bI_eq0, bI_eq1, nm_em, nI_eqP, nI_leP, nI_ltP, nN_e1, nN_e2, nN_l1, nN_l2, nN_l3, nN_l4, nI_add, pk_mul, vp_inN, nI_cl, n01, n10, P_i, P_ii, P_iii, f_Mo_at, f_Mo_map, f_Mo_contact, f_Mo_within, f_Mo_isPort, f_Hp_endpoint, f_Hp_nodeOf, f_Hp_portOf, f_Ma_max, f_Ma_min, f_Hp_isSetting, popN, rok, a1, noX, swc, mL, if_true, if_false, ↓reduceIte, cond_true, cond_false, true_and, and_true, List.length_cons, List.length_nil, List.nil_append, List.cons_append, List.append_nil, Option.toList, Nat.reduceEqDiff, Bool.false_eq_true, reduceCtorEq, Nat.reduceAdd, Nat.reduceLT, Nat.reduceLeDiff, Nat.reduceSub, List.replicate, Nat.zero_add, Nat.lt_add_one, Nat.le_refl, Nat.zero_le, Nat.succ_ne_zero, not_false_eq_true, not_true_eq_false, false_implies, true_implies, forall_const, imp_self, true_or, or_true, eq_self, k_Hp_portOf, ne10k]; try clear hgo9 hW9)
    exact hQ
theorem c_Mo_within (as : List Value) (h : AH) (Q : Po) (hl : as.length = 3) (hP : P_Mo_within as h) (hQ : Q (.inl (some (f_Mo_within as h))) h) : Call l G M_Mo_within as h Q := by
  match as, hP, hQ with
  | [.int v, .int lo, .int hi], _, hQ =>
    refine call_of rfl rfl (Nat.le_of_ble_eq_true rfl) ?_
    (obtain ⟨W9, hW9, hgo9⟩ := wp_ex (T_Mo_within l G) [] _; refine hgo9 200 _ _ _ _ ?_; simp -implicitDefEqProofs (disch := omega) only [hW9, inl, gate, Xq, tz_const, tz_iload, tz_lload, tz_dload, tz_aload, tz_istore, tz_astore, tz_lstore, tz_dstore, tz_iinc, tz_i1, tz_i2, tz_i2z, tz_l2, tz_l2z, tz_i2l, tz_l2i, tz_lcmp, tz_i2d, tz_d2, tz_dcmp, tz_dup, tz_dup2, tz_pop, tz_if, tz_icmp, tz_null, tz_goto, tz_sw, tz_getf, tz_puti, tz_putz, tz_putr, tz_putl, tz_iaload, tz_baload, tz_laload, tz_aaload, tz_iastore, tz_bastore, tz_lastore, tz_aastore, tz_alen, tz_new, tz_newa, tz_oinit, tz_iret, tz_zret, tz_lret, tz_dret, tz_aret, tz_vret, tz_throw, tz_callS, tz_callV, tz_callI, tz_callR, tz_pureS, tz_pureV, tz_callVH, lg, lset, lkill, lst1, lst2, entL, isRf, is1, vl, va_rf_none, va_rf_some, isRf_rf, is1_rf, i0, i1, bI_eq0, bI_eq1, nm_em, nI_eqP, nI_leP, nI_ltP, nN_e1, nN_e2, nN_l1, nN_l2, nN_l3, nN_l4, nI_add, pk_mul, vp_inN, nI_cl, n01, n10, P_i, P_ii, P_iii, f_Mo_at, f_Mo_map, f_Mo_contact, f_Mo_within, f_Mo_isPort, f_Hp_endpoint, f_Hp_nodeOf, f_Hp_portOf, f_Ma_max, f_Ma_min, f_Hp_isSetting, popN, rok, a1, noX, swc, mL, if_true, if_false, ↓reduceIte, cond_true, cond_false, true_and, and_true, List.length_cons, List.length_nil, List.nil_append, List.cons_append, List.append_nil, Option.toList, Nat.reduceEqDiff, Bool.false_eq_true, reduceCtorEq, Nat.reduceAdd, Nat.reduceLT, Nat.reduceLeDiff, Nat.reduceSub, List.replicate, Nat.zero_add, Nat.lt_add_one, Nat.le_refl, Nat.zero_le, Nat.succ_ne_zero, not_false_eq_true, not_true_eq_false, false_implies, true_implies, forall_const, imp_self, true_or, or_true, eq_self, k_Mo_within]; try clear hgo9 hW9)
    simp only [f_Mo_within] at hQ
    refine ⟨fun c => ?_, fun c => ?_⟩
    · (obtain ⟨W9, hW9, hgo9⟩ := wp_ex (T_Mo_within l G) [] _; refine hgo9 200 _ _ _ _ ?_; simp -implicitDefEqProofs (disch := omega) only [hW9, inl, gate, Xq, tz_const, tz_iload, tz_lload, tz_dload, tz_aload, tz_istore, tz_astore, tz_lstore, tz_dstore, tz_iinc, tz_i1, tz_i2, tz_i2z, tz_l2, tz_l2z, tz_i2l, tz_l2i, tz_lcmp, tz_i2d, tz_d2, tz_dcmp, tz_dup, tz_dup2, tz_pop, tz_if, tz_icmp, tz_null, tz_goto, tz_sw, tz_getf, tz_puti, tz_putz, tz_putr, tz_putl, tz_iaload, tz_baload, tz_laload, tz_aaload, tz_iastore, tz_bastore, tz_lastore, tz_aastore, tz_alen, tz_new, tz_newa, tz_oinit, tz_iret, tz_zret, tz_lret, tz_dret, tz_aret, tz_vret, tz_throw, tz_callS, tz_callV, tz_callI, tz_callR, tz_pureS, tz_pureV, tz_callVH, lg, lset, lkill, lst1, lst2, entL, isRf, is1, vl, va_rf_none, va_rf_some, isRf_rf, is1_rf, i0, i1, bI_eq0, bI_eq1, nm_em, nI_eqP, nI_leP, nI_ltP, nN_e1, nN_e2, nN_l1, nN_l2, nN_l3, nN_l4, nI_add, pk_mul, vp_inN, nI_cl, n01, n10, P_i, P_ii, P_iii, f_Mo_at, f_Mo_map, f_Mo_contact, f_Mo_within, f_Mo_isPort, f_Hp_endpoint, f_Hp_nodeOf, f_Hp_portOf, f_Ma_max, f_Ma_min, f_Hp_isSetting, popN, rok, a1, noX, swc, mL, if_true, if_false, ↓reduceIte, cond_true, cond_false, true_and, and_true, List.length_cons, List.length_nil, List.nil_append, List.cons_append, List.append_nil, Option.toList, Nat.reduceEqDiff, Bool.false_eq_true, reduceCtorEq, Nat.reduceAdd, Nat.reduceLT, Nat.reduceLeDiff, Nat.reduceSub, List.replicate, Nat.zero_add, Nat.lt_add_one, Nat.le_refl, Nat.zero_le, Nat.succ_ne_zero, not_false_eq_true, not_true_eq_false, false_implies, true_implies, forall_const, imp_self, true_or, or_true, eq_self, k_Mo_within]; try clear hgo9 hW9)
      rwa [bI_f (fun q => by simp only [Int32.lt_iff_toInt_lt, Int32.le_iff_toInt_le] at c q; omega)] at hQ
    · (obtain ⟨W9, hW9, hgo9⟩ := wp_ex (T_Mo_within l G) [] _; refine hgo9 200 _ _ _ _ ?_; simp -implicitDefEqProofs (disch := omega) only [hW9, inl, gate, Xq, tz_const, tz_iload, tz_lload, tz_dload, tz_aload, tz_istore, tz_astore, tz_lstore, tz_dstore, tz_iinc, tz_i1, tz_i2, tz_i2z, tz_l2, tz_l2z, tz_i2l, tz_l2i, tz_lcmp, tz_i2d, tz_d2, tz_dcmp, tz_dup, tz_dup2, tz_pop, tz_if, tz_icmp, tz_null, tz_goto, tz_sw, tz_getf, tz_puti, tz_putz, tz_putr, tz_putl, tz_iaload, tz_baload, tz_laload, tz_aaload, tz_iastore, tz_bastore, tz_lastore, tz_aastore, tz_alen, tz_new, tz_newa, tz_oinit, tz_iret, tz_zret, tz_lret, tz_dret, tz_aret, tz_vret, tz_throw, tz_callS, tz_callV, tz_callI, tz_callR, tz_pureS, tz_pureV, tz_callVH, lg, lset, lkill, lst1, lst2, entL, isRf, is1, vl, va_rf_none, va_rf_some, isRf_rf, is1_rf, i0, i1, bI_eq0, bI_eq1, nm_em, nI_eqP, nI_leP, nI_ltP, nN_e1, nN_e2, nN_l1, nN_l2, nN_l3, nN_l4, nI_add, pk_mul, vp_inN, nI_cl, n01, n10, P_i, P_ii, P_iii, f_Mo_at, f_Mo_map, f_Mo_contact, f_Mo_within, f_Mo_isPort, f_Hp_endpoint, f_Hp_nodeOf, f_Hp_portOf, f_Ma_max, f_Ma_min, f_Hp_isSetting, popN, rok, a1, noX, swc, mL, if_true, if_false, ↓reduceIte, cond_true, cond_false, true_and, and_true, List.length_cons, List.length_nil, List.nil_append, List.cons_append, List.append_nil, Option.toList, Nat.reduceEqDiff, Bool.false_eq_true, reduceCtorEq, Nat.reduceAdd, Nat.reduceLT, Nat.reduceLeDiff, Nat.reduceSub, List.replicate, Nat.zero_add, Nat.lt_add_one, Nat.le_refl, Nat.zero_le, Nat.succ_ne_zero, not_false_eq_true, not_true_eq_false, false_implies, true_implies, forall_const, imp_self, true_or, or_true, eq_self, k_Mo_within]; try clear hgo9 hW9)
      refine ⟨fun c2 => ?_, fun c2 => ?_⟩
      · (obtain ⟨W9, hW9, hgo9⟩ := wp_ex (T_Mo_within l G) [] _; refine hgo9 200 _ _ _ _ ?_; simp -implicitDefEqProofs (disch := omega) only [hW9, inl, gate, Xq, tz_const, tz_iload, tz_lload, tz_dload, tz_aload, tz_istore, tz_astore, tz_lstore, tz_dstore, tz_iinc, tz_i1, tz_i2, tz_i2z, tz_l2, tz_l2z, tz_i2l, tz_l2i, tz_lcmp, tz_i2d, tz_d2, tz_dcmp, tz_dup, tz_dup2, tz_pop, tz_if, tz_icmp, tz_null, tz_goto, tz_sw, tz_getf, tz_puti, tz_putz, tz_putr, tz_putl, tz_iaload, tz_baload, tz_laload, tz_aaload, tz_iastore, tz_bastore, tz_lastore, tz_aastore, tz_alen, tz_new, tz_newa, tz_oinit, tz_iret, tz_zret, tz_lret, tz_dret, tz_aret, tz_vret, tz_throw, tz_callS, tz_callV, tz_callI, tz_callR, tz_pureS, tz_pureV, tz_callVH, lg, lset, lkill, lst1, lst2, entL, isRf, is1, vl, va_rf_none, va_rf_some, isRf_rf, is1_rf, i0, i1, bI_eq0, bI_eq1, nm_em, nI_eqP, nI_leP, nI_ltP, nN_e1, nN_e2, nN_l1, nN_l2, nN_l3, nN_l4, nI_add, pk_mul, vp_inN, nI_cl, n01, n10, P_i, P_ii, P_iii, f_Mo_at, f_Mo_map, f_Mo_contact, f_Mo_within, f_Mo_isPort, f_Hp_endpoint, f_Hp_nodeOf, f_Hp_portOf, f_Ma_max, f_Ma_min, f_Hp_isSetting, popN, rok, a1, noX, swc, mL, if_true, if_false, ↓reduceIte, cond_true, cond_false, true_and, and_true, List.length_cons, List.length_nil, List.nil_append, List.cons_append, List.append_nil, Option.toList, Nat.reduceEqDiff, Bool.false_eq_true, reduceCtorEq, Nat.reduceAdd, Nat.reduceLT, Nat.reduceLeDiff, Nat.reduceSub, List.replicate, Nat.zero_add, Nat.lt_add_one, Nat.le_refl, Nat.zero_le, Nat.succ_ne_zero, not_false_eq_true, not_true_eq_false, false_implies, true_implies, forall_const, imp_self, true_or, or_true, eq_self, k_Mo_within]; try clear hgo9 hW9)
        rwa [bI_f (fun q => by simp only [Int32.lt_iff_toInt_lt, Int32.le_iff_toInt_le] at c2 q; omega)] at hQ
      · (obtain ⟨W9, hW9, hgo9⟩ := wp_ex (T_Mo_within l G) [] _; refine hgo9 200 _ _ _ _ ?_; simp -implicitDefEqProofs (disch := omega) only [hW9, inl, gate, Xq, tz_const, tz_iload, tz_lload, tz_dload, tz_aload, tz_istore, tz_astore, tz_lstore, tz_dstore, tz_iinc, tz_i1, tz_i2, tz_i2z, tz_l2, tz_l2z, tz_i2l, tz_l2i, tz_lcmp, tz_i2d, tz_d2, tz_dcmp, tz_dup, tz_dup2, tz_pop, tz_if, tz_icmp, tz_null, tz_goto, tz_sw, tz_getf, tz_puti, tz_putz, tz_putr, tz_putl, tz_iaload, tz_baload, tz_laload, tz_aaload, tz_iastore, tz_bastore, tz_lastore, tz_aastore, tz_alen, tz_new, tz_newa, tz_oinit, tz_iret, tz_zret, tz_lret, tz_dret, tz_aret, tz_vret, tz_throw, tz_callS, tz_callV, tz_callI, tz_callR, tz_pureS, tz_pureV, tz_callVH, lg, lset, lkill, lst1, lst2, entL, isRf, is1, vl, va_rf_none, va_rf_some, isRf_rf, is1_rf, i0, i1, bI_eq0, bI_eq1, nm_em, nI_eqP, nI_leP, nI_ltP, nN_e1, nN_e2, nN_l1, nN_l2, nN_l3, nN_l4, nI_add, pk_mul, vp_inN, nI_cl, n01, n10, P_i, P_ii, P_iii, f_Mo_at, f_Mo_map, f_Mo_contact, f_Mo_within, f_Mo_isPort, f_Hp_endpoint, f_Hp_nodeOf, f_Hp_portOf, f_Ma_max, f_Ma_min, f_Hp_isSetting, popN, rok, a1, noX, swc, mL, if_true, if_false, ↓reduceIte, cond_true, cond_false, true_and, and_true, List.length_cons, List.length_nil, List.nil_append, List.cons_append, List.append_nil, Option.toList, Nat.reduceEqDiff, Bool.false_eq_true, reduceCtorEq, Nat.reduceAdd, Nat.reduceLT, Nat.reduceLeDiff, Nat.reduceSub, List.replicate, Nat.zero_add, Nat.lt_add_one, Nat.le_refl, Nat.zero_le, Nat.succ_ne_zero, not_false_eq_true, not_true_eq_false, false_implies, true_implies, forall_const, imp_self, true_or, or_true, eq_self, k_Mo_within]; try clear hgo9 hW9)
        rwa [bI_t (by simp only [Int32.lt_iff_toInt_lt, Int32.le_iff_toInt_le] at c c2 ⊢; omega)] at hQ
theorem c_Hp_isWithin (as : List Value) (h : AH) (Q : Po) (hl : as.length = 3) (hP : P_Hp_isWithin as h) (hQ : Q (.inl (some (f_Hp_isWithin as h))) h) : Call l G M_Hp_isWithin as h Q := by
  match as, hP, hQ with
  | [.int v, .int lo, .int hi], _, hQ =>
    refine call_of rfl rfl (Nat.le_of_ble_eq_true rfl) ?_
    (obtain ⟨W9, hW9, hgo9⟩ := wp_ex (T_Hp_isWithin l G) [] _; refine hgo9 200 _ _ _ _ ?_; simp -implicitDefEqProofs (disch := omega) only [hW9, inl, gate, Xq, tz_const, tz_iload, tz_lload, tz_dload, tz_aload, tz_istore, tz_astore, tz_lstore, tz_dstore, tz_iinc, tz_i1, tz_i2, tz_i2z, tz_l2, tz_l2z, tz_i2l, tz_l2i, tz_lcmp, tz_i2d, tz_d2, tz_dcmp, tz_dup, tz_dup2, tz_pop, tz_if, tz_icmp, tz_null, tz_goto, tz_sw, tz_getf, tz_puti, tz_putz, tz_putr, tz_putl, tz_iaload, tz_baload, tz_laload, tz_aaload, tz_iastore, tz_bastore, tz_lastore, tz_aastore, tz_alen, tz_new, tz_newa, tz_oinit, tz_iret, tz_zret, tz_lret, tz_dret, tz_aret, tz_vret, tz_throw, tz_callS, tz_callV, tz_callI, tz_callR, tz_pureS, tz_pureV, tz_callVH, lg, lset, lkill, lst1, lst2, entL, isRf, is1, vl, va_rf_none, va_rf_some, isRf_rf, is1_rf, i0, i1, bI_eq0, bI_eq1, nm_em, nI_eqP, nI_leP, nI_ltP, nN_e1, nN_e2, nN_l1, nN_l2, nN_l3, nN_l4, nI_add, pk_mul, vp_inN, nI_cl, n01, n10, P_i, P_ii, P_iii, f_Mo_at, f_Mo_map, f_Mo_contact, f_Mo_within, f_Mo_isPort, f_Hp_endpoint, f_Hp_nodeOf, f_Hp_portOf, f_Ma_max, f_Ma_min, f_Hp_isSetting, popN, rok, a1, noX, swc, mL, if_true, if_false, ↓reduceIte, cond_true, cond_false, true_and, and_true, List.length_cons, List.length_nil, List.nil_append, List.cons_append, List.append_nil, Option.toList, Nat.reduceEqDiff, Bool.false_eq_true, reduceCtorEq, Nat.reduceAdd, Nat.reduceLT, Nat.reduceLeDiff, Nat.reduceSub, List.replicate, Nat.zero_add, Nat.lt_add_one, Nat.le_refl, Nat.zero_le, Nat.succ_ne_zero, not_false_eq_true, not_true_eq_false, false_implies, true_implies, forall_const, imp_self, true_or, or_true, eq_self, k_Hp_isWithin]; try clear hgo9 hW9)
    simp only [f_Hp_isWithin, f_Mo_within] at hQ
    refine ⟨fun c => ?_, fun c => ?_⟩
    · (obtain ⟨W9, hW9, hgo9⟩ := wp_ex (T_Hp_isWithin l G) [] _; refine hgo9 200 _ _ _ _ ?_; simp -implicitDefEqProofs (disch := omega) only [hW9, inl, gate, Xq, tz_const, tz_iload, tz_lload, tz_dload, tz_aload, tz_istore, tz_astore, tz_lstore, tz_dstore, tz_iinc, tz_i1, tz_i2, tz_i2z, tz_l2, tz_l2z, tz_i2l, tz_l2i, tz_lcmp, tz_i2d, tz_d2, tz_dcmp, tz_dup, tz_dup2, tz_pop, tz_if, tz_icmp, tz_null, tz_goto, tz_sw, tz_getf, tz_puti, tz_putz, tz_putr, tz_putl, tz_iaload, tz_baload, tz_laload, tz_aaload, tz_iastore, tz_bastore, tz_lastore, tz_aastore, tz_alen, tz_new, tz_newa, tz_oinit, tz_iret, tz_zret, tz_lret, tz_dret, tz_aret, tz_vret, tz_throw, tz_callS, tz_callV, tz_callI, tz_callR, tz_pureS, tz_pureV, tz_callVH, lg, lset, lkill, lst1, lst2, entL, isRf, is1, vl, va_rf_none, va_rf_some, isRf_rf, is1_rf, i0, i1, bI_eq0, bI_eq1, nm_em, nI_eqP, nI_leP, nI_ltP, nN_e1, nN_e2, nN_l1, nN_l2, nN_l3, nN_l4, nI_add, pk_mul, vp_inN, nI_cl, n01, n10, P_i, P_ii, P_iii, f_Mo_at, f_Mo_map, f_Mo_contact, f_Mo_within, f_Mo_isPort, f_Hp_endpoint, f_Hp_nodeOf, f_Hp_portOf, f_Ma_max, f_Ma_min, f_Hp_isSetting, popN, rok, a1, noX, swc, mL, if_true, if_false, ↓reduceIte, cond_true, cond_false, true_and, and_true, List.length_cons, List.length_nil, List.nil_append, List.cons_append, List.append_nil, Option.toList, Nat.reduceEqDiff, Bool.false_eq_true, reduceCtorEq, Nat.reduceAdd, Nat.reduceLT, Nat.reduceLeDiff, Nat.reduceSub, List.replicate, Nat.zero_add, Nat.lt_add_one, Nat.le_refl, Nat.zero_le, Nat.succ_ne_zero, not_false_eq_true, not_true_eq_false, false_implies, true_implies, forall_const, imp_self, true_or, or_true, eq_self, k_Hp_isWithin]; try clear hgo9 hW9)
      rwa [bI_f (fun q => by simp only [Int32.lt_iff_toInt_lt, Int32.le_iff_toInt_le] at c q; omega)] at hQ
    · (obtain ⟨W9, hW9, hgo9⟩ := wp_ex (T_Hp_isWithin l G) [] _; refine hgo9 200 _ _ _ _ ?_; simp -implicitDefEqProofs (disch := omega) only [hW9, inl, gate, Xq, tz_const, tz_iload, tz_lload, tz_dload, tz_aload, tz_istore, tz_astore, tz_lstore, tz_dstore, tz_iinc, tz_i1, tz_i2, tz_i2z, tz_l2, tz_l2z, tz_i2l, tz_l2i, tz_lcmp, tz_i2d, tz_d2, tz_dcmp, tz_dup, tz_dup2, tz_pop, tz_if, tz_icmp, tz_null, tz_goto, tz_sw, tz_getf, tz_puti, tz_putz, tz_putr, tz_putl, tz_iaload, tz_baload, tz_laload, tz_aaload, tz_iastore, tz_bastore, tz_lastore, tz_aastore, tz_alen, tz_new, tz_newa, tz_oinit, tz_iret, tz_zret, tz_lret, tz_dret, tz_aret, tz_vret, tz_throw, tz_callS, tz_callV, tz_callI, tz_callR, tz_pureS, tz_pureV, tz_callVH, lg, lset, lkill, lst1, lst2, entL, isRf, is1, vl, va_rf_none, va_rf_some, isRf_rf, is1_rf, i0, i1, bI_eq0, bI_eq1, nm_em, nI_eqP, nI_leP, nI_ltP, nN_e1, nN_e2, nN_l1, nN_l2, nN_l3, nN_l4, nI_add, pk_mul, vp_inN, nI_cl, n01, n10, P_i, P_ii, P_iii, f_Mo_at, f_Mo_map, f_Mo_contact, f_Mo_within, f_Mo_isPort, f_Hp_endpoint, f_Hp_nodeOf, f_Hp_portOf, f_Ma_max, f_Ma_min, f_Hp_isSetting, popN, rok, a1, noX, swc, mL, if_true, if_false, ↓reduceIte, cond_true, cond_false, true_and, and_true, List.length_cons, List.length_nil, List.nil_append, List.cons_append, List.append_nil, Option.toList, Nat.reduceEqDiff, Bool.false_eq_true, reduceCtorEq, Nat.reduceAdd, Nat.reduceLT, Nat.reduceLeDiff, Nat.reduceSub, List.replicate, Nat.zero_add, Nat.lt_add_one, Nat.le_refl, Nat.zero_le, Nat.succ_ne_zero, not_false_eq_true, not_true_eq_false, false_implies, true_implies, forall_const, imp_self, true_or, or_true, eq_self, k_Hp_isWithin]; try clear hgo9 hW9)
      refine ⟨fun c2 => ?_, fun c2 => ?_⟩
      · (obtain ⟨W9, hW9, hgo9⟩ := wp_ex (T_Hp_isWithin l G) [] _; refine hgo9 200 _ _ _ _ ?_; simp -implicitDefEqProofs (disch := omega) only [hW9, inl, gate, Xq, tz_const, tz_iload, tz_lload, tz_dload, tz_aload, tz_istore, tz_astore, tz_lstore, tz_dstore, tz_iinc, tz_i1, tz_i2, tz_i2z, tz_l2, tz_l2z, tz_i2l, tz_l2i, tz_lcmp, tz_i2d, tz_d2, tz_dcmp, tz_dup, tz_dup2, tz_pop, tz_if, tz_icmp, tz_null, tz_goto, tz_sw, tz_getf, tz_puti, tz_putz, tz_putr, tz_putl, tz_iaload, tz_baload, tz_laload, tz_aaload, tz_iastore, tz_bastore, tz_lastore, tz_aastore, tz_alen, tz_new, tz_newa, tz_oinit, tz_iret, tz_zret, tz_lret, tz_dret, tz_aret, tz_vret, tz_throw, tz_callS, tz_callV, tz_callI, tz_callR, tz_pureS, tz_pureV, tz_callVH, lg, lset, lkill, lst1, lst2, entL, isRf, is1, vl, va_rf_none, va_rf_some, isRf_rf, is1_rf, i0, i1, bI_eq0, bI_eq1, nm_em, nI_eqP, nI_leP, nI_ltP, nN_e1, nN_e2, nN_l1, nN_l2, nN_l3, nN_l4, nI_add, pk_mul, vp_inN, nI_cl, n01, n10, P_i, P_ii, P_iii, f_Mo_at, f_Mo_map, f_Mo_contact, f_Mo_within, f_Mo_isPort, f_Hp_endpoint, f_Hp_nodeOf, f_Hp_portOf, f_Ma_max, f_Ma_min, f_Hp_isSetting, popN, rok, a1, noX, swc, mL, if_true, if_false, ↓reduceIte, cond_true, cond_false, true_and, and_true, List.length_cons, List.length_nil, List.nil_append, List.cons_append, List.append_nil, Option.toList, Nat.reduceEqDiff, Bool.false_eq_true, reduceCtorEq, Nat.reduceAdd, Nat.reduceLT, Nat.reduceLeDiff, Nat.reduceSub, List.replicate, Nat.zero_add, Nat.lt_add_one, Nat.le_refl, Nat.zero_le, Nat.succ_ne_zero, not_false_eq_true, not_true_eq_false, false_implies, true_implies, forall_const, imp_self, true_or, or_true, eq_self, k_Hp_isWithin]; try clear hgo9 hW9)
        rwa [bI_f (fun q => by simp only [Int32.lt_iff_toInt_lt, Int32.le_iff_toInt_le] at c2 q; omega)] at hQ
      · (obtain ⟨W9, hW9, hgo9⟩ := wp_ex (T_Hp_isWithin l G) [] _; refine hgo9 200 _ _ _ _ ?_; simp -implicitDefEqProofs (disch := omega) only [hW9, inl, gate, Xq, tz_const, tz_iload, tz_lload, tz_dload, tz_aload, tz_istore, tz_astore, tz_lstore, tz_dstore, tz_iinc, tz_i1, tz_i2, tz_i2z, tz_l2, tz_l2z, tz_i2l, tz_l2i, tz_lcmp, tz_i2d, tz_d2, tz_dcmp, tz_dup, tz_dup2, tz_pop, tz_if, tz_icmp, tz_null, tz_goto, tz_sw, tz_getf, tz_puti, tz_putz, tz_putr, tz_putl, tz_iaload, tz_baload, tz_laload, tz_aaload, tz_iastore, tz_bastore, tz_lastore, tz_aastore, tz_alen, tz_new, tz_newa, tz_oinit, tz_iret, tz_zret, tz_lret, tz_dret, tz_aret, tz_vret, tz_throw, tz_callS, tz_callV, tz_callI, tz_callR, tz_pureS, tz_pureV, tz_callVH, lg, lset, lkill, lst1, lst2, entL, isRf, is1, vl, va_rf_none, va_rf_some, isRf_rf, is1_rf, i0, i1, bI_eq0, bI_eq1, nm_em, nI_eqP, nI_leP, nI_ltP, nN_e1, nN_e2, nN_l1, nN_l2, nN_l3, nN_l4, nI_add, pk_mul, vp_inN, nI_cl, n01, n10, P_i, P_ii, P_iii, f_Mo_at, f_Mo_map, f_Mo_contact, f_Mo_within, f_Mo_isPort, f_Hp_endpoint, f_Hp_nodeOf, f_Hp_portOf, f_Ma_max, f_Ma_min, f_Hp_isSetting, popN, rok, a1, noX, swc, mL, if_true, if_false, ↓reduceIte, cond_true, cond_false, true_and, and_true, List.length_cons, List.length_nil, List.nil_append, List.cons_append, List.append_nil, Option.toList, Nat.reduceEqDiff, Bool.false_eq_true, reduceCtorEq, Nat.reduceAdd, Nat.reduceLT, Nat.reduceLeDiff, Nat.reduceSub, List.replicate, Nat.zero_add, Nat.lt_add_one, Nat.le_refl, Nat.zero_le, Nat.succ_ne_zero, not_false_eq_true, not_true_eq_false, false_implies, true_implies, forall_const, imp_self, true_or, or_true, eq_self, k_Hp_isWithin]; try clear hgo9 hW9)
        rwa [bI_t (by simp only [Int32.lt_iff_toInt_lt, Int32.le_iff_toInt_le] at c c2 ⊢; omega)] at hQ
theorem c_Hp_isPort (as : List Value) (h : AH) (Q : Po) (hl : as.length = 1) (hP : P_Hp_isPort as h) (hQ : Q (.inl (some (f_Hp_isPort as h))) h) : Call l G M_Hp_isPort as h Q := by
  match as, hP, hQ with
  | [.int v], _, hQ =>
    refine call_of rfl rfl (Nat.le_of_ble_eq_true rfl) ?_
    (obtain ⟨W9, hW9, hgo9⟩ := wp_ex (T_Hp_isPort l G) [] _; refine hgo9 200 _ _ _ _ ?_; simp -implicitDefEqProofs (disch := omega) only [hW9, inl, gate, Xq, tz_const, tz_iload, tz_lload, tz_dload, tz_aload, tz_istore, tz_astore, tz_lstore, tz_dstore, tz_iinc, tz_i1, tz_i2, tz_i2z, tz_l2, tz_l2z, tz_i2l, tz_l2i, tz_lcmp, tz_i2d, tz_d2, tz_dcmp, tz_dup, tz_dup2, tz_pop, tz_if, tz_icmp, tz_null, tz_goto, tz_sw, tz_getf, tz_puti, tz_putz, tz_putr, tz_putl, tz_iaload, tz_baload, tz_laload, tz_aaload, tz_iastore, tz_bastore, tz_lastore, tz_aastore, tz_alen, tz_new, tz_newa, tz_oinit, tz_iret, tz_zret, tz_lret, tz_dret, tz_aret, tz_vret, tz_throw, tz_callS, tz_callV, tz_callI, tz_callR, tz_pureS, tz_pureV, tz_callVH, lg, lset, lkill, lst1, lst2, entL, isRf, is1, vl, va_rf_none, va_rf_some, isRf_rf, is1_rf, i0, i1, bI_eq0, bI_eq1, nm_em, nI_eqP, nI_leP, nI_ltP, nN_e1, nN_e2, nN_l1, nN_l2, nN_l3, nN_l4, nI_add, pk_mul, vp_inN, nI_cl, n01, n10, P_i, P_ii, P_iii, f_Mo_at, f_Mo_map, f_Mo_contact, f_Mo_within, f_Mo_isPort, f_Hp_endpoint, f_Hp_nodeOf, f_Hp_portOf, f_Ma_max, f_Ma_min, f_Hp_isSetting, popN, rok, a1, noX, swc, mL, if_true, if_false, ↓reduceIte, cond_true, cond_false, true_and, and_true, List.length_cons, List.length_nil, List.nil_append, List.cons_append, List.append_nil, Option.toList, Nat.reduceEqDiff, Bool.false_eq_true, reduceCtorEq, Nat.reduceAdd, Nat.reduceLT, Nat.reduceLeDiff, Nat.reduceSub, List.replicate, Nat.zero_add, Nat.lt_add_one, Nat.le_refl, Nat.zero_le, Nat.succ_ne_zero, not_false_eq_true, not_true_eq_false, false_implies, true_implies, forall_const, imp_self, true_or, or_true, eq_self, k_Hp_isPort]; try clear hgo9 hW9)
    simp only [f_Hp_isPort, f_Mo_isPort] at hQ
    refine ⟨fun c => ?_, fun c => ?_⟩
    · (obtain ⟨W9, hW9, hgo9⟩ := wp_ex (T_Hp_isPort l G) [] _; refine hgo9 200 _ _ _ _ ?_; simp -implicitDefEqProofs (disch := omega) only [hW9, inl, gate, Xq, tz_const, tz_iload, tz_lload, tz_dload, tz_aload, tz_istore, tz_astore, tz_lstore, tz_dstore, tz_iinc, tz_i1, tz_i2, tz_i2z, tz_l2, tz_l2z, tz_i2l, tz_l2i, tz_lcmp, tz_i2d, tz_d2, tz_dcmp, tz_dup, tz_dup2, tz_pop, tz_if, tz_icmp, tz_null, tz_goto, tz_sw, tz_getf, tz_puti, tz_putz, tz_putr, tz_putl, tz_iaload, tz_baload, tz_laload, tz_aaload, tz_iastore, tz_bastore, tz_lastore, tz_aastore, tz_alen, tz_new, tz_newa, tz_oinit, tz_iret, tz_zret, tz_lret, tz_dret, tz_aret, tz_vret, tz_throw, tz_callS, tz_callV, tz_callI, tz_callR, tz_pureS, tz_pureV, tz_callVH, lg, lset, lkill, lst1, lst2, entL, isRf, is1, vl, va_rf_none, va_rf_some, isRf_rf, is1_rf, i0, i1, bI_eq0, bI_eq1, nm_em, nI_eqP, nI_leP, nI_ltP, nN_e1, nN_e2, nN_l1, nN_l2, nN_l3, nN_l4, nI_add, pk_mul, vp_inN, nI_cl, n01, n10, P_i, P_ii, P_iii, f_Mo_at, f_Mo_map, f_Mo_contact, f_Mo_within, f_Mo_isPort, f_Hp_endpoint, f_Hp_nodeOf, f_Hp_portOf, f_Ma_max, f_Ma_min, f_Hp_isSetting, popN, rok, a1, noX, swc, mL, if_true, if_false, ↓reduceIte, cond_true, cond_false, true_and, and_true, List.length_cons, List.length_nil, List.nil_append, List.cons_append, List.append_nil, Option.toList, Nat.reduceEqDiff, Bool.false_eq_true, reduceCtorEq, Nat.reduceAdd, Nat.reduceLT, Nat.reduceLeDiff, Nat.reduceSub, List.replicate, Nat.zero_add, Nat.lt_add_one, Nat.le_refl, Nat.zero_le, Nat.succ_ne_zero, not_false_eq_true, not_true_eq_false, false_implies, true_implies, forall_const, imp_self, true_or, or_true, eq_self, k_Hp_isPort]; try clear hgo9 hW9)
      rwa [bI_f (fun q => by simp only [Int32.lt_iff_toInt_lt, Int32.le_iff_toInt_le] at c q; omega)] at hQ
    · (obtain ⟨W9, hW9, hgo9⟩ := wp_ex (T_Hp_isPort l G) [] _; refine hgo9 200 _ _ _ _ ?_; simp -implicitDefEqProofs (disch := omega) only [hW9, inl, gate, Xq, tz_const, tz_iload, tz_lload, tz_dload, tz_aload, tz_istore, tz_astore, tz_lstore, tz_dstore, tz_iinc, tz_i1, tz_i2, tz_i2z, tz_l2, tz_l2z, tz_i2l, tz_l2i, tz_lcmp, tz_i2d, tz_d2, tz_dcmp, tz_dup, tz_dup2, tz_pop, tz_if, tz_icmp, tz_null, tz_goto, tz_sw, tz_getf, tz_puti, tz_putz, tz_putr, tz_putl, tz_iaload, tz_baload, tz_laload, tz_aaload, tz_iastore, tz_bastore, tz_lastore, tz_aastore, tz_alen, tz_new, tz_newa, tz_oinit, tz_iret, tz_zret, tz_lret, tz_dret, tz_aret, tz_vret, tz_throw, tz_callS, tz_callV, tz_callI, tz_callR, tz_pureS, tz_pureV, tz_callVH, lg, lset, lkill, lst1, lst2, entL, isRf, is1, vl, va_rf_none, va_rf_some, isRf_rf, is1_rf, i0, i1, bI_eq0, bI_eq1, nm_em, nI_eqP, nI_leP, nI_ltP, nN_e1, nN_e2, nN_l1, nN_l2, nN_l3, nN_l4, nI_add, pk_mul, vp_inN, nI_cl, n01, n10, P_i, P_ii, P_iii, f_Mo_at, f_Mo_map, f_Mo_contact, f_Mo_within, f_Mo_isPort, f_Hp_endpoint, f_Hp_nodeOf, f_Hp_portOf, f_Ma_max, f_Ma_min, f_Hp_isSetting, popN, rok, a1, noX, swc, mL, if_true, if_false, ↓reduceIte, cond_true, cond_false, true_and, and_true, List.length_cons, List.length_nil, List.nil_append, List.cons_append, List.append_nil, Option.toList, Nat.reduceEqDiff, Bool.false_eq_true, reduceCtorEq, Nat.reduceAdd, Nat.reduceLT, Nat.reduceLeDiff, Nat.reduceSub, List.replicate, Nat.zero_add, Nat.lt_add_one, Nat.le_refl, Nat.zero_le, Nat.succ_ne_zero, not_false_eq_true, not_true_eq_false, false_implies, true_implies, forall_const, imp_self, true_or, or_true, eq_self, k_Hp_isPort]; try clear hgo9 hW9)
      refine ⟨fun c2 => ?_, fun c2 => ?_⟩
      · (obtain ⟨W9, hW9, hgo9⟩ := wp_ex (T_Hp_isPort l G) [] _; refine hgo9 200 _ _ _ _ ?_; simp -implicitDefEqProofs (disch := omega) only [hW9, inl, gate, Xq, tz_const, tz_iload, tz_lload, tz_dload, tz_aload, tz_istore, tz_astore, tz_lstore, tz_dstore, tz_iinc, tz_i1, tz_i2, tz_i2z, tz_l2, tz_l2z, tz_i2l, tz_l2i, tz_lcmp, tz_i2d, tz_d2, tz_dcmp, tz_dup, tz_dup2, tz_pop, tz_if, tz_icmp, tz_null, tz_goto, tz_sw, tz_getf, tz_puti, tz_putz, tz_putr, tz_putl, tz_iaload, tz_baload, tz_laload, tz_aaload, tz_iastore, tz_bastore, tz_lastore, tz_aastore, tz_alen, tz_new, tz_newa, tz_oinit, tz_iret, tz_zret, tz_lret, tz_dret, tz_aret, tz_vret, tz_throw, tz_callS, tz_callV, tz_callI, tz_callR, tz_pureS, tz_pureV, tz_callVH, lg, lset, lkill, lst1, lst2, entL, isRf, is1, vl, va_rf_none, va_rf_some, isRf_rf, is1_rf, i0, i1, bI_eq0, bI_eq1, nm_em, nI_eqP, nI_leP, nI_ltP, nN_e1, nN_e2, nN_l1, nN_l2, nN_l3, nN_l4, nI_add, pk_mul, vp_inN, nI_cl, n01, n10, P_i, P_ii, P_iii, f_Mo_at, f_Mo_map, f_Mo_contact, f_Mo_within, f_Mo_isPort, f_Hp_endpoint, f_Hp_nodeOf, f_Hp_portOf, f_Ma_max, f_Ma_min, f_Hp_isSetting, popN, rok, a1, noX, swc, mL, if_true, if_false, ↓reduceIte, cond_true, cond_false, true_and, and_true, List.length_cons, List.length_nil, List.nil_append, List.cons_append, List.append_nil, Option.toList, Nat.reduceEqDiff, Bool.false_eq_true, reduceCtorEq, Nat.reduceAdd, Nat.reduceLT, Nat.reduceLeDiff, Nat.reduceSub, List.replicate, Nat.zero_add, Nat.lt_add_one, Nat.le_refl, Nat.zero_le, Nat.succ_ne_zero, not_false_eq_true, not_true_eq_false, false_implies, true_implies, forall_const, imp_self, true_or, or_true, eq_self, k_Hp_isPort]; try clear hgo9 hW9)
        rwa [bI_f (fun q => by simp only [Int32.lt_iff_toInt_lt, Int32.le_iff_toInt_le] at c2 q; omega)] at hQ
      · (obtain ⟨W9, hW9, hgo9⟩ := wp_ex (T_Hp_isPort l G) [] _; refine hgo9 200 _ _ _ _ ?_; simp -implicitDefEqProofs (disch := omega) only [hW9, inl, gate, Xq, tz_const, tz_iload, tz_lload, tz_dload, tz_aload, tz_istore, tz_astore, tz_lstore, tz_dstore, tz_iinc, tz_i1, tz_i2, tz_i2z, tz_l2, tz_l2z, tz_i2l, tz_l2i, tz_lcmp, tz_i2d, tz_d2, tz_dcmp, tz_dup, tz_dup2, tz_pop, tz_if, tz_icmp, tz_null, tz_goto, tz_sw, tz_getf, tz_puti, tz_putz, tz_putr, tz_putl, tz_iaload, tz_baload, tz_laload, tz_aaload, tz_iastore, tz_bastore, tz_lastore, tz_aastore, tz_alen, tz_new, tz_newa, tz_oinit, tz_iret, tz_zret, tz_lret, tz_dret, tz_aret, tz_vret, tz_throw, tz_callS, tz_callV, tz_callI, tz_callR, tz_pureS, tz_pureV, tz_callVH, lg, lset, lkill, lst1, lst2, entL, isRf, is1, vl, va_rf_none, va_rf_some, isRf_rf, is1_rf, i0, i1, bI_eq0, bI_eq1, nm_em, nI_eqP, nI_leP, nI_ltP, nN_e1, nN_e2, nN_l1, nN_l2, nN_l3, nN_l4, nI_add, pk_mul, vp_inN, nI_cl, n01, n10, P_i, P_ii, P_iii, f_Mo_at, f_Mo_map, f_Mo_contact, f_Mo_within, f_Mo_isPort, f_Hp_endpoint, f_Hp_nodeOf, f_Hp_portOf, f_Ma_max, f_Ma_min, f_Hp_isSetting, popN, rok, a1, noX, swc, mL, if_true, if_false, ↓reduceIte, cond_true, cond_false, true_and, and_true, List.length_cons, List.length_nil, List.nil_append, List.cons_append, List.append_nil, Option.toList, Nat.reduceEqDiff, Bool.false_eq_true, reduceCtorEq, Nat.reduceAdd, Nat.reduceLT, Nat.reduceLeDiff, Nat.reduceSub, List.replicate, Nat.zero_add, Nat.lt_add_one, Nat.le_refl, Nat.zero_le, Nat.succ_ne_zero, not_false_eq_true, not_true_eq_false, false_implies, true_implies, forall_const, imp_self, true_or, or_true, eq_self, k_Hp_isPort]; try clear hgo9 hW9)
        rwa [bI_t (by simp only [Int32.lt_iff_toInt_lt, Int32.le_iff_toInt_le] at c c2 ⊢; omega)] at hQ
end
