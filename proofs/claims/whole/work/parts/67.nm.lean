/-! THE CLASS: a new mapping -/
def k_Tl_newMapping (l : Launch) (G : Gc) (pc : Nat) : Tr :=
  if pc < 64 then
   if pc < 18 then
    if pc < 9 then
     if pc < 4 then
      if pc < 1 then
       if pc = 0 then tz_aload 1 0 else dead
      else
       if pc = 1 then tz_getf 4 5 10 0 else dead
     else
      if pc < 5 then
       if pc = 4 then tz_aload 5 0 else dead
      else
       if pc < 8 then
        if pc = 5 then tz_getf 8 5 9 1 else dead
       else
        if pc = 8 then tz_alen 9 else dead
    else
     if pc < 13 then
      if pc < 12 then
       if pc = 9 then tz_icmp 12 14 (fun a b => a < b) else dead
      else
       if pc = 12 then tz_const 13 .null else dead
     else
      if pc < 14 then
       if pc = 13 then tz_aret else dead
      else
       if pc < 15 then
        if pc = 14 then tz_aload 15 0 else dead
       else
        if pc = 15 then tz_getf 18 5 2 0 else dead
   else
    if pc < 52 then
     if pc < 45 then
      if pc < 44 then
       if pc = 18 then tz_sw [(nI 0, 44), (nI 1, 56)] 64 else dead
      else
       if pc = 44 then tz_aload 45 0 else dead
     else
      if pc < 46 then
       if pc = 45 then tz_iload 46 1 else dead
      else
       if pc < 49 then
        if pc = 46 then tz_pureS 49 1 P_Hp_portOf f_Hp_portOf else dead
       else
        if pc = 49 then tz_callV l G 52 M_Tl_keptPort 1 5 else dead
    else
     if pc < 57 then
      if pc < 53 then
       if pc = 52 then tz_istore 53 3 else dead
      else
       if pc < 56 then
        if pc = 53 then tz_goto 69 else dead
       else
        if pc = 56 then tz_aload 57 0 else dead
     else
      if pc < 60 then
       if pc = 57 then tz_callV l G 60 M_Tl_countedPort 0 5 else dead
      else
       if pc < 61 then
        if pc = 60 then tz_istore 61 3 else dead
       else
        if pc = 61 then tz_goto 69 else dead
  else
   if pc < 84 then
    if pc < 71 then
     if pc < 68 then
      if pc < 65 then
       if pc = 64 then tz_aload 65 0 else dead
      else
       if pc = 65 then tz_callV l G 68 M_Tl_randomPort 0 5 else dead
     else
      if pc < 69 then
       if pc = 68 then tz_istore 69 3 else dead
      else
       if pc < 70 then
        if pc = 69 then tz_iload 70 3 else dead
       else
        if pc = 70 then tz_const 71 (.int (nN)) else dead
    else
     if pc < 78 then
      if pc < 74 then
       if pc = 71 then tz_icmp 74 78 (fun a b => ¬ a = b) else dead
      else
       if pc < 75 then
        if pc = 74 then tz_const 75 .null else dead
       else
        if pc = 75 then tz_goto 82 else dead
     else
      if pc < 79 then
       if pc = 78 then tz_aload 79 0 else dead
      else
       if pc < 82 then
        if pc = 79 then tz_callV l G 82 M_Tl_nextMapping 0 5 else dead
       else
        if pc = 82 then tz_astore 84 4 else dead
   else
    if pc < 93 then
     if pc < 89 then
      if pc < 86 then
       if pc = 84 then tz_aload 86 4 else dead
      else
       if pc = 86 then tz_null 101 89 else dead
     else
      if pc < 91 then
       if pc = 89 then tz_aload 91 4 else dead
      else
       if pc < 92 then
        if pc = 91 then tz_iload 92 1 else dead
       else
        if pc = 92 then tz_iload 93 3 else dead
    else
     if pc < 98 then
      if pc < 94 then
       if pc = 93 then tz_aload 94 0 else dead
      else
       if pc < 95 then
        if pc = 94 then tz_iload 95 2 else dead
       else
        if pc = 95 then tz_pureV 98 1 5 P_Tl_keyFor f_Tl_keyFor else dead
     else
      if pc < 101 then
       if pc = 98 then tz_callV l G 101 M_Mp_reset 3 0 else dead
      else
       if pc < 103 then
        if pc = 101 then tz_aload 103 4 else dead
       else
        if pc = 103 then tz_aret else dead
set_option maxRecDepth 100000 in
theorem T_Tl_newMapping (l : Launch) (G : Gc) : TabOK l G M_Tl_newMapping (k_Tl_newMapping l G) := by
  intro pc
  unfold k_Tl_newMapping
  exact
   (sd_br
    (sd_br
     (sd_br
      (sd_br
       (sd_br
        (sd_lf (sd_aload_n (k := 0) (by decide +kernel : decode prog_7_method_7_code 0 = .ok (.aload_n 0, 1))))
        (sd_lf (sd_getf (q := (RX5, TX5, 11)) (by decide +kernel : decode prog_7_method_7_code 1 = .ok (.getfield 17, 3)) rfl (by decide +kernel) (gm 261 (by decide +kernel) rfl))))
       (sd_br
        (sd_lf (sd_aload_n (k := 0) (by decide +kernel : decode prog_7_method_7_code 4 = .ok (.aload_n 0, 1))))
        (sd_br
         (sd_lf (sd_getf (q := (RX5, TX5, 11)) (by decide +kernel : decode prog_7_method_7_code 5 = .ok (.getfield 11, 3)) rfl (by decide +kernel) (gm 260 (by decide +kernel) rfl)))
         (sd_lf (sd_alen (by decide +kernel : decode prog_7_method_7_code 8 = .ok (.arraylength, 1)))))))
      (sd_br
       (sd_br
        (sd_lf (sd_icmp_lt (by decide +kernel : decode prog_7_method_7_code 9 = .ok (.if_icmp .lt 5, 3)) (by decide +kernel)))
        (sd_lf (sd_null (by decide +kernel : decode prog_7_method_7_code 12 = .ok (.aconst_null, 1)))))
       (sd_br
        (sd_lf (sd_aret (by decide +kernel : decode prog_7_method_7_code 13 = .ok (.areturn, 1)) rfl (Or.inl ⟨_, rfl⟩)))
        (sd_br
         (sd_lf (sd_aload_n (k := 0) (by decide +kernel : decode prog_7_method_7_code 14 = .ok (.aload_n 0, 1))))
         (sd_lf (sd_getf (q := (RX5, TX5, 11)) (by decide +kernel : decode prog_7_method_7_code 15 = .ok (.getfield 27, 3)) rfl (by decide +kernel) (gm 251 (by decide +kernel) rfl)))))))
     (sd_br
      (sd_br
       (sd_br
        (sd_lf (sd_lsw (by decide +kernel : decode prog_7_method_7_code 18 = .ok (.lookupswitch 46 #[(0, 26), (1, 38)], 26)) (by decide +kernel) (by decide +kernel) (by decide +kernel)))
        (sd_lf (sd_aload_n (k := 0) (by decide +kernel : decode prog_7_method_7_code 44 = .ok (.aload_n 0, 1)))))
       (sd_br
        (sd_lf (sd_iload_n (k := 1) (by decide +kernel : decode prog_7_method_7_code 45 = .ok (.iload_n 1, 1))))
        (sd_br
         (sd_lf (sd_pureSN (sd_callSN (host := "HolePuncher") (by decide +kernel : decode prog_7_method_7_code 46 = .ok (.invokestatic 75, 3)) ok_Hp_portOf (List.mem_of_getElem? (i := 645) (by decide +kernel)) (gm 452 (by decide +kernel) rfl) (by decide +kernel) rfl rfl) c_Hp_portOf))
         (sd_lf (sd_callV (q := (RX5, TX5, 11)) (by decide +kernel : decode prog_7_method_7_code 49 = .ok (.invokevirtual 78, 3)) ok_Tl_keptPort (gm 718 (by decide +kernel) rfl) (gm 720 (by decide +kernel) rfl) (gm 19 (by decide +kernel) rfl) rfl rfl (by decide +kernel) rfl rfl)))))
      (sd_br
       (sd_br
        (sd_lf (sd_istore_n (k := 3) (by decide +kernel : decode prog_7_method_7_code 52 = .ok (.istore_n 3, 1))))
        (sd_br
         (sd_lf (sd_goto (by decide +kernel : decode prog_7_method_7_code 53 = .ok (.goto 16, 3)) (by decide +kernel)))
         (sd_lf (sd_aload_n (k := 0) (by decide +kernel : decode prog_7_method_7_code 56 = .ok (.aload_n 0, 1))))))
       (sd_br
        (sd_lf (sd_callV (q := (RX5, TX5, 11)) (by decide +kernel : decode prog_7_method_7_code 57 = .ok (.invokevirtual 81, 3)) ok_Tl_countedPort (gm 726 (by decide +kernel) rfl) (gm 728 (by decide +kernel) rfl) (gm 20 (by decide +kernel) rfl) rfl rfl (by decide +kernel) rfl rfl))
        (sd_br
         (sd_lf (sd_istore_n (k := 3) (by decide +kernel : decode prog_7_method_7_code 60 = .ok (.istore_n 3, 1))))
         (sd_lf (sd_goto (by decide +kernel : decode prog_7_method_7_code 61 = .ok (.goto 8, 3)) (by decide +kernel))))))))
    (sd_br
     (sd_br
      (sd_br
       (sd_br
        (sd_lf (sd_aload_n (k := 0) (by decide +kernel : decode prog_7_method_7_code 64 = .ok (.aload_n 0, 1))))
        (sd_lf (sd_callV (q := (RX5, TX5, 11)) (by decide +kernel : decode prog_7_method_7_code 65 = .ok (.invokevirtual 85, 3)) ok_Tl_randomPort (gm 730 (by decide +kernel) rfl) (gm 732 (by decide +kernel) rfl) (gm 21 (by decide +kernel) rfl) rfl rfl (by decide +kernel) rfl rfl)))
       (sd_br
        (sd_lf (sd_istore_n (k := 3) (by decide +kernel : decode prog_7_method_7_code 68 = .ok (.istore_n 3, 1))))
        (sd_br
         (sd_lf (sd_iload_n (k := 3) (by decide +kernel : decode prog_7_method_7_code 69 = .ok (.iload_n 3, 1))))
         (sd_lf (sd_iconst (by decide +kernel : decode prog_7_method_7_code 70 = .ok (.iconst (-1), 1)) (by decide +kernel))))))
      (sd_br
       (sd_br
        (sd_lf (sd_icmp_ne (by decide +kernel : decode prog_7_method_7_code 71 = .ok (.if_icmp .ne 7, 3)) (by decide +kernel)))
        (sd_br
         (sd_lf (sd_null (by decide +kernel : decode prog_7_method_7_code 74 = .ok (.aconst_null, 1))))
         (sd_lf (sd_goto (by decide +kernel : decode prog_7_method_7_code 75 = .ok (.goto 7, 3)) (by decide +kernel)))))
       (sd_br
        (sd_lf (sd_aload_n (k := 0) (by decide +kernel : decode prog_7_method_7_code 78 = .ok (.aload_n 0, 1))))
        (sd_br
         (sd_lf (sd_callV (q := (RX5, TX5, 11)) (by decide +kernel : decode prog_7_method_7_code 79 = .ok (.invokevirtual 54, 3)) ok_Tl_nextMapping (gm 295 (by decide +kernel) rfl) (gm 297 (by decide +kernel) rfl) (gm 1 (by decide +kernel) rfl) rfl rfl (by decide +kernel) rfl rfl))
         (sd_lf (sd_astore (by decide +kernel : decode prog_7_method_7_code 82 = .ok (.astore 4, 2))))))))
     (sd_br
      (sd_br
       (sd_br
        (sd_lf (sd_aload (by decide +kernel : decode prog_7_method_7_code 84 = .ok (.aload 4, 2))))
        (sd_lf (sd_ifnull (by decide +kernel : decode prog_7_method_7_code 86 = .ok (.ifnull 15, 3)) (by decide +kernel))))
       (sd_br
        (sd_lf (sd_aload (by decide +kernel : decode prog_7_method_7_code 89 = .ok (.aload 4, 2))))
        (sd_br
         (sd_lf (sd_iload_n (k := 1) (by decide +kernel : decode prog_7_method_7_code 91 = .ok (.iload_n 1, 1))))
         (sd_lf (sd_iload_n (k := 3) (by decide +kernel : decode prog_7_method_7_code 92 = .ok (.iload_n 3, 1)))))))
      (sd_br
       (sd_br
        (sd_lf (sd_aload_n (k := 0) (by decide +kernel : decode prog_7_method_7_code 93 = .ok (.aload_n 0, 1))))
        (sd_br
         (sd_lf (sd_iload_n (k := 2) (by decide +kernel : decode prog_7_method_7_code 94 = .ok (.iload_n 2, 1))))
         (sd_lf (sd_pureV (sd_callV (q := (RX5, TX5, 11)) (by decide +kernel : decode prog_7_method_7_code 95 = .ok (.invokevirtual 62, 3)) ok_Tl_keyFor (gm 707 (by decide +kernel) rfl) (gm 709 (by decide +kernel) rfl) (gm 18 (by decide +kernel) rfl) rfl rfl (by decide +kernel) rfl rfl) c_Tl_keyFor))))
       (sd_br
        (sd_lf (sd_callV (q := (RX0, TX0, 6)) (by decide +kernel : decode prog_7_method_7_code 98 = .ok (.invokevirtual 88, 3)) ok_Mp_reset (gm 740 (by decide +kernel) rfl) (gm 335 (by decide +kernel) rfl) (gm 336 (by decide +kernel) rfl) rfl rfl (by decide +kernel) rfl rfl))
        (sd_br
         (sd_lf (sd_aload (by decide +kernel : decode prog_7_method_7_code 101 = .ok (.aload 4, 2))))
         (sd_lf (sd_aret (by decide +kernel : decode prog_7_method_7_code 103 = .ok (.areturn, 1)) rfl (Or.inl ⟨_, rfl⟩)))))))))
/-- as MpV, but for the latest use -/
def MpV0 (h : AH) (m : Nat) (z : Nat → Int32) (i j : Nat) : Prop := (hI h m 0 = enc (z (mA i j + 0)) (z (mA i j + 1)) ∧ hI h m 1 = z (mA i j + 2) ∧ hI h m 2 = encK (z (mA i j + 3)) (z (mA i j + 4)) ∧ hI h m 5 = z (mA i j + 6)) ∧ ∀ k, k < knw z i j → hI h (cC h m) k = enc (z (cA i j k)) (z (cA i j k + 1))
theorem MpV.to0 {h : AH} {m : Nat} {z : Nat → Int32} {i j : Nat} (k : MpV h m z i j) : MpV0 h m z i j := ⟨⟨k.1.1, k.1.2.1, k.1.2.2.1, k.1.2.2.2.2⟩, k.2⟩
/-- all s mappings of t are right, but of slot j (m) the latest use is not told -/
def TlE (h : AH) (t : Nat) (z : Nat → Int32) (i s j m : Nat) : Prop := TlV h t z i s ∧ (∀ j', j' < s → j' ≠ j → ∃ m', hR h (mM h t) j' = some m' ∧ MpV h m' z i j') ∧ hR h (mM h t) j = some m ∧ MpV0 h m z i j
section
variable {h h' : AH} {wn i t : Nat} {z z' : Nat → Int32}
theorem ShM.congr {m : Nat} (e1 : hT h' = hT h) (e2 : hR h' = hR h) (k : ShM h wn i m) : ShM h' wn i m := by
  simp only [ShM, cC, tg, ln, gh, e1, e2] at k ⊢
  exact k
theorem ShT.congr (e1 : hT h' = hT h) (e2 : hR h' = hR h) (k : ShT h wn i t) : ShT h' wn i t := by
  simp only [ShT, TlK, ShM, mM, cC, tg, ln, gh, e1, e2] at k ⊢
  exact k
theorem TlG.SlK {c : Nat} (sh : ShT h wn i t) (k : TlG h t z i c c) (hc : c ≤ 8) : SlK h t c := by
  refine ⟨sh.1, k.1.2.2, hc, fun j hj => ?_⟩
  obtain ⟨m, m1, m2⟩ := k.2 j hj
  have e : mpO h t j = m := by unfold mpO; rw [m1]; rfl
  rw [e]
  exact ⟨m1, (sh.2.2.2.1 j m (by omega) m1).1⟩
theorem TlG.slot {s c j : Nat} (k : TlG h t z i s c) (hj : j < c) : hR h (mM h t) j = some (mpO h t j) ∧ MpV h (mpO h t j) z i j := by
  obtain ⟨m, m1, m2⟩ := k.2 j hj
  have e : mpO h t j = m := by unfold mpO; rw [m1]; rfl
  rw [e]
  exact ⟨m1, m2⟩
theorem TlG.PoK (sh : ShT h wn i t) (k : TlG h t z i (own z i) (own z i)) (hc : own z i ≤ 8) : PoK h t z i := ⟨k.SlK sh hc, fun j hj => (k.slot hj).2.1.2.1⟩
/-- numbers of the translator alone have changed -/
theorem TlG.zt {s s' c : Nat} (sh : ShT h wn i t) (k : TlG h t z i s c) (e1 : hT h' = hT h) (e2 : hR h' = hR h) (ho : ∀ b, b ≠ t → hI h' b = hI h b ∧ hL h' b = hL h b) (tv : TlV h' t z' i s') (em : eqM z z' i) (hc : c ≤ 8) (hkn : ∀ j, j < c → knw z i j ≤ 8) : TlG h' t z' i s' c := by
  refine ⟨tv, fun j hj => ?_⟩
  obtain ⟨m, m1, m2⟩ := k.2 j hj
  have g := sh.2.2.2.1 j m (by omega) m1
  have n1 : m ≠ t := ne_tg (by rw [g.1, sh.1.1]; decide)
  have n2 : cC h m ≠ t := ne_tg (by rw [g.2.2.2.1, sh.1.1]; decide)
  have eM : mM h' t = mM h t := by unfold mM; rw [e2]
  refine ⟨m, by rw [eM, e2]; exact m1, m2.keep ⟨by rw [e1], (ho m n1).1, by rw [e2], (ho m n1).2⟩ ⟨by rw [e1], (ho _ n2).1, by rw [e2], (ho _ n2).2⟩ (fun w hw => em.mr (by omega) hw) (fun e he => em.cr (by omega) he) (hkn j hj)⟩
end
theorem enc_N (a p : Nat) : enc (nI a) (nI p) = nI (a * 10000 + p) := by unfold enc; rw [pk_mul, nI_add]
theorem enc_node {a p : Nat} (ha : a < 100) (hp : p < 10000) : nI (a * 10000 + p) / nI 10000 = nI a := by
  rw [pk_div (by omega) (by omega) (by omega)]
  congr 1
  omega
theorem enc_port {a p : Nat} (ha : a < 100) (hp : p < 10000) : nI (a * 10000 + p) - nI (a * 10000 + p) / nI 10000 * nI 10000 = nI p := by
  rw [pk_rem (by omega) (by omega) (by omega)]
  congr 1
  omega
/-- the class's key for a remote endpoint is the reference's -/
theorem key_ok {r : Int32} {b d : Nat} (hr : in1 r 0 2) (hb : b < 100) (hd1 : 1 ≤ d) (hd : d ≤ 9999) : kyF r (nI (b * 10000 + d)) = encK (if r = nI 0 then nN else nI b) (if nI 2 ≤ r then nI d else nN) := by
  obtain ⟨k, -, k2, rfl⟩ := hr
  have cs : k = 0 ∨ k = 1 ∨ k = 2 := by omega
  unfold kyF encK
  rcases cs with rfl | rfl | rfl
  · rw [if_pos rfl, if_pos rfl, if_pos rfl]
  · have n1 : ¬ nI 1 = nI 0 := by decide
    have n2 : ¬ nI 2 ≤ nI 1 := by decide
    rw [if_neg n1, if_pos rfl, if_neg n1, if_neg n2, if_neg (by rw [nN_e2 (by omega)]; exact id), if_pos rfl, enc_node hb (by omega)]
    rfl
  · have n1 : ¬ nI 2 = nI 0 := by decide
    have n2 : ¬ nI 2 = nI 1 := by decide
    have n3 : nI 2 ≤ nI 2 := by decide
    rw [if_neg n1, if_neg n2, if_neg n1, if_pos n3, if_neg (by rw [nN_e2 (by omega)]; exact id), if_neg (by rw [nN_e2 (by omega)]; exact id), enc_N]
section
variable {l : Launch} {G : Gc}
theorem c_Tl_newMapping (wn i t a p b d : Nat) (res : Int32) (z z2 : Nat → Int32) (h : AH) (Q : Po) (hw : WF h) (sh : ShT h wn i t) (k : TlG h t z i (own z i) (own z i)) (ho : OwnOK z i) (hi : i < 10) (htr : TrI z i) (hkn : ∀ j, j < own z i → knw z i j ≤ 8) (ha : a < 100) (hp : 1 ≤ p ∧ p ≤ 9999) (hb : b < 100) (hd : 1 ≤ d ∧ d ≤ 9999) (hr : MakR z i (nI a) (nI p) (nI b) (nI d) res z2)
    (q1 : res = nN → ∀ h', TlG h' t z2 i (own z i) (own z i) → ShT h' wn i t → Fr wn 2 h h' → Lt wn i h h' → Q (.inl (some .null)) h')
    (q2 : res = nI (own z i) → own z i < 8 → ∀ h' m, TlE h' t z2 i (own z i + 1) (own z i) m → ShT h' wn i t → Fr wn 2 h h' → Lt wn i h h' → Q (.inl (some (.ref m))) h') : Call l G M_Tl_newMapping [.ref t, .int (nI (a * 10000 + p)), .int (nI (b * 10000 + d))] h Q := by
  obtain ⟨⟨h1, h2, h3, h4⟩, a5, a6, a7, a8⟩ := id sh
  obtain ⟨o1, o2⟩ := id ho
  have hsz := k.1.2.2
  refine call_of rfl rfl (Nat.le_of_ble_eq_true rfl) ?_
  rcases hr with ⟨e8, er, ez⟩ | ⟨e8, r, z', hf, hr⟩
  · subst ez
    rw [e8] at hsz
    have n8 : ¬ nI 8 < nI 8 := by decide
    ((obtain ⟨W9, hW9, hgo9⟩ := wp_ex (T_Tl_newMapping l G) [69] _; refine hgo9 200 _ _ _ _ ?_; simp -implicitDefEqProofs (disch := omega) only [hW9, inl, gate, Xq, tz_const, tz_iload, tz_lload, tz_dload, tz_aload, tz_istore, tz_astore, tz_lstore, tz_dstore, tz_iinc, tz_i1, tz_i2, tz_i2z, tz_l2, tz_l2z, tz_i2l, tz_l2i, tz_lcmp, tz_i2d, tz_d2, tz_dcmp, tz_dup, tz_dup2, tz_pop, tz_if, tz_icmp, tz_null, tz_goto, tz_sw, tz_getf, tz_puti, tz_putz, tz_putr, tz_putl, tz_iaload, tz_baload, tz_laload, tz_aaload, tz_iastore, tz_bastore, tz_lastore, tz_aastore, tz_alen, tz_new, tz_newa, tz_oinit, tz_iret, tz_zret, tz_lret, tz_dret, tz_aret, tz_vret, tz_throw, tz_callS, tz_callV, tz_callI, tz_callR, tz_pureS, tz_pureV, tz_callVH, lg, lset, lkill, lst1, lst2, entL, isRf, is1, vl, va_rf_none, va_rf_some, isRf_rf, is1_rf, i0, i1, bI_eq0, bI_eq1, nm_em, nI_eqP, nI_leP, nI_ltP, nN_e1, nN_e2, nN_l1, nN_l2, nN_l3, nN_l4, nI_add, pk_mul, vp_inN, nI_cl, n01, n10, P_i, P_ii, P_iii, f_Mo_at, f_Mo_map, f_Mo_contact, f_Mo_within, f_Mo_isPort, f_Hp_endpoint, f_Hp_nodeOf, f_Hp_portOf, f_Ma_max, f_Ma_min, f_Hp_isSetting, popN, rok, a1, noX, swc, mL, if_true, if_false, ↓reduceIte, cond_true, cond_false, true_and, and_true, List.length_cons, List.length_nil, List.nil_append, List.cons_append, List.append_nil, Option.toList, Nat.reduceEqDiff, Bool.false_eq_true, reduceCtorEq, Nat.reduceAdd, Nat.reduceLT, Nat.reduceLeDiff, Nat.reduceSub, List.replicate, Nat.zero_add, Nat.lt_add_one, Nat.le_refl, Nat.zero_le, Nat.succ_ne_zero, not_false_eq_true, not_true_eq_false, false_implies, true_implies, forall_const, imp_self, true_or, or_true, eq_self, sI_zw, zw_zw, hI_zw, tg_zw, ln_zw, hR_zw, hL_zw, hN_zw, hM_zw, upd_s, upd_u, upd_ne, Classical.not_not, k_Tl_newMapping, h1, h2, h3, h4, hsz, n8]; try clear hgo9 hW9); try (obtain ⟨W9, hW9, hgo9⟩ := wp_ex (T_Tl_newMapping l G) [69] _; refine hgo9 200 _ _ _ _ ?_; simp -implicitDefEqProofs (disch := omega) only [hW9, inl, gate, Xq, tz_const, tz_iload, tz_lload, tz_dload, tz_aload, tz_istore, tz_astore, tz_lstore, tz_dstore, tz_iinc, tz_i1, tz_i2, tz_i2z, tz_l2, tz_l2z, tz_i2l, tz_l2i, tz_lcmp, tz_i2d, tz_d2, tz_dcmp, tz_dup, tz_dup2, tz_pop, tz_if, tz_icmp, tz_null, tz_goto, tz_sw, tz_getf, tz_puti, tz_putz, tz_putr, tz_putl, tz_iaload, tz_baload, tz_laload, tz_aaload, tz_iastore, tz_bastore, tz_lastore, tz_aastore, tz_alen, tz_new, tz_newa, tz_oinit, tz_iret, tz_zret, tz_lret, tz_dret, tz_aret, tz_vret, tz_throw, tz_callS, tz_callV, tz_callI, tz_callR, tz_pureS, tz_pureV, tz_callVH, lg, lset, lkill, lst1, lst2, entL, isRf, is1, vl, va_rf_none, va_rf_some, isRf_rf, is1_rf, i0, i1, bI_eq0, bI_eq1, nm_em, nI_eqP, nI_leP, nI_ltP, nN_e1, nN_e2, nN_l1, nN_l2, nN_l3, nN_l4, nI_add, pk_mul, vp_inN, nI_cl, n01, n10, P_i, P_ii, P_iii, f_Mo_at, f_Mo_map, f_Mo_contact, f_Mo_within, f_Mo_isPort, f_Hp_endpoint, f_Hp_nodeOf, f_Hp_portOf, f_Ma_max, f_Ma_min, f_Hp_isSetting, popN, rok, a1, noX, swc, mL, if_true, if_false, ↓reduceIte, cond_true, cond_false, true_and, and_true, List.length_cons, List.length_nil, List.nil_append, List.cons_append, List.append_nil, Option.toList, Nat.reduceEqDiff, Bool.false_eq_true, reduceCtorEq, Nat.reduceAdd, Nat.reduceLT, Nat.reduceLeDiff, Nat.reduceSub, List.replicate, Nat.zero_add, Nat.lt_add_one, Nat.le_refl, Nat.zero_le, Nat.succ_ne_zero, not_false_eq_true, not_true_eq_false, false_implies, true_implies, forall_const, imp_self, true_or, or_true, eq_self, sI_zw, zw_zw, hI_zw, tg_zw, ln_zw, hR_zw, hL_zw, hN_zw, hM_zw, upd_s, upd_u, upd_ne, Classical.not_not, k_Tl_newMapping, h1, h2, h3, h4, hsz, n8]; try clear hgo9 hW9))
    exact q1 er h k sh ((Fr.rf hw).mono (by omega)) Lt.rf
  · have hX := hf.to e8 htr ⟨p, hp.1, hp.2, rfl⟩
    have stage2 : ∀ h1, TlG h1 t z' i (own z i) (own z i) → ShT h1 wn i t → WF h1 → Fr wn 0 h h1 → Lt wn i h h1 → ∀ v4, AWp l G M_Tl_newMapping 69 [some (.ref t), some (.int (nI (a * 10000 + p))), some (.int (nI (b * 10000 + d))), some (.int r), v4] [] h1 Q := by
      intro h1 k1 sh1 hw1 fr1 lt1 v4
      have g1 := sh1.1.1
      rcases hr with ⟨er, eres, ez⟩ | ⟨er, eres, ez⟩
      · subst er ez
        ((obtain ⟨W9, hW9, hgo9⟩ := wp_ex (T_Tl_newMapping l G) [] _; refine hgo9 200 _ _ _ _ ?_; simp -implicitDefEqProofs (disch := omega) only [hW9, inl, gate, Xq, tz_const, tz_iload, tz_lload, tz_dload, tz_aload, tz_istore, tz_astore, tz_lstore, tz_dstore, tz_iinc, tz_i1, tz_i2, tz_i2z, tz_l2, tz_l2z, tz_i2l, tz_l2i, tz_lcmp, tz_i2d, tz_d2, tz_dcmp, tz_dup, tz_dup2, tz_pop, tz_if, tz_icmp, tz_null, tz_goto, tz_sw, tz_getf, tz_puti, tz_putz, tz_putr, tz_putl, tz_iaload, tz_baload, tz_laload, tz_aaload, tz_iastore, tz_bastore, tz_lastore, tz_aastore, tz_alen, tz_new, tz_newa, tz_oinit, tz_iret, tz_zret, tz_lret, tz_dret, tz_aret, tz_vret, tz_throw, tz_callS, tz_callV, tz_callI, tz_callR, tz_pureS, tz_pureV, tz_callVH, lg, lset, lkill, lst1, lst2, entL, isRf, is1, vl, va_rf_none, va_rf_some, isRf_rf, is1_rf, i0, i1, bI_eq0, bI_eq1, nm_em, nI_eqP, nI_leP, nI_ltP, nN_e1, nN_e2, nN_l1, nN_l2, nN_l3, nN_l4, nI_add, pk_mul, vp_inN, nI_cl, n01, n10, P_i, P_ii, P_iii, f_Mo_at, f_Mo_map, f_Mo_contact, f_Mo_within, f_Mo_isPort, f_Hp_endpoint, f_Hp_nodeOf, f_Hp_portOf, f_Ma_max, f_Ma_min, f_Hp_isSetting, popN, rok, a1, noX, swc, mL, if_true, if_false, ↓reduceIte, cond_true, cond_false, true_and, and_true, List.length_cons, List.length_nil, List.nil_append, List.cons_append, List.append_nil, Option.toList, Nat.reduceEqDiff, Bool.false_eq_true, reduceCtorEq, Nat.reduceAdd, Nat.reduceLT, Nat.reduceLeDiff, Nat.reduceSub, List.replicate, Nat.zero_add, Nat.lt_add_one, Nat.le_refl, Nat.zero_le, Nat.succ_ne_zero, not_false_eq_true, not_true_eq_false, false_implies, true_implies, forall_const, imp_self, true_or, or_true, eq_self, sI_zw, zw_zw, hI_zw, tg_zw, ln_zw, hR_zw, hL_zw, hN_zw, hM_zw, upd_s, upd_u, upd_ne, Classical.not_not, k_Tl_newMapping, g1]; try clear hgo9 hW9); try (obtain ⟨W9, hW9, hgo9⟩ := wp_ex (T_Tl_newMapping l G) [] _; refine hgo9 200 _ _ _ _ ?_; simp -implicitDefEqProofs (disch := omega) only [hW9, inl, gate, Xq, tz_const, tz_iload, tz_lload, tz_dload, tz_aload, tz_istore, tz_astore, tz_lstore, tz_dstore, tz_iinc, tz_i1, tz_i2, tz_i2z, tz_l2, tz_l2z, tz_i2l, tz_l2i, tz_lcmp, tz_i2d, tz_d2, tz_dcmp, tz_dup, tz_dup2, tz_pop, tz_if, tz_icmp, tz_null, tz_goto, tz_sw, tz_getf, tz_puti, tz_putz, tz_putr, tz_putl, tz_iaload, tz_baload, tz_laload, tz_aaload, tz_iastore, tz_bastore, tz_lastore, tz_aastore, tz_alen, tz_new, tz_newa, tz_oinit, tz_iret, tz_zret, tz_lret, tz_dret, tz_aret, tz_vret, tz_throw, tz_callS, tz_callV, tz_callI, tz_callR, tz_pureS, tz_pureV, tz_callVH, lg, lset, lkill, lst1, lst2, entL, isRf, is1, vl, va_rf_none, va_rf_some, isRf_rf, is1_rf, i0, i1, bI_eq0, bI_eq1, nm_em, nI_eqP, nI_leP, nI_ltP, nN_e1, nN_e2, nN_l1, nN_l2, nN_l3, nN_l4, nI_add, pk_mul, vp_inN, nI_cl, n01, n10, P_i, P_ii, P_iii, f_Mo_at, f_Mo_map, f_Mo_contact, f_Mo_within, f_Mo_isPort, f_Hp_endpoint, f_Hp_nodeOf, f_Hp_portOf, f_Ma_max, f_Ma_min, f_Hp_isSetting, popN, rok, a1, noX, swc, mL, if_true, if_false, ↓reduceIte, cond_true, cond_false, true_and, and_true, List.length_cons, List.length_nil, List.nil_append, List.cons_append, List.append_nil, Option.toList, Nat.reduceEqDiff, Bool.false_eq_true, reduceCtorEq, Nat.reduceAdd, Nat.reduceLT, Nat.reduceLeDiff, Nat.reduceSub, List.replicate, Nat.zero_add, Nat.lt_add_one, Nat.le_refl, Nat.zero_le, Nat.succ_ne_zero, not_false_eq_true, not_true_eq_false, false_implies, true_implies, forall_const, imp_self, true_or, or_true, eq_self, sI_zw, zw_zw, hI_zw, tg_zw, ln_zw, hR_zw, hL_zw, hN_zw, hM_zw, upd_s, upd_u, upd_ne, Classical.not_not, k_Tl_newMapping, g1]; try clear hgo9 hW9))
        exact q1 eres h1 k1 sh1 (fr1.mono (by omega)) lt1
      · ((obtain ⟨W9, hW9, hgo9⟩ := wp_ex (T_Tl_newMapping l G) [] _; refine hgo9 200 _ _ _ _ ?_; simp -implicitDefEqProofs (disch := omega) only [hW9, inl, gate, Xq, tz_const, tz_iload, tz_lload, tz_dload, tz_aload, tz_istore, tz_astore, tz_lstore, tz_dstore, tz_iinc, tz_i1, tz_i2, tz_i2z, tz_l2, tz_l2z, tz_i2l, tz_l2i, tz_lcmp, tz_i2d, tz_d2, tz_dcmp, tz_dup, tz_dup2, tz_pop, tz_if, tz_icmp, tz_null, tz_goto, tz_sw, tz_getf, tz_puti, tz_putz, tz_putr, tz_putl, tz_iaload, tz_baload, tz_laload, tz_aaload, tz_iastore, tz_bastore, tz_lastore, tz_aastore, tz_alen, tz_new, tz_newa, tz_oinit, tz_iret, tz_zret, tz_lret, tz_dret, tz_aret, tz_vret, tz_throw, tz_callS, tz_callV, tz_callI, tz_callR, tz_pureS, tz_pureV, tz_callVH, lg, lset, lkill, lst1, lst2, entL, isRf, is1, vl, va_rf_none, va_rf_some, isRf_rf, is1_rf, i0, i1, bI_eq0, bI_eq1, nm_em, nI_eqP, nI_leP, nI_ltP, nN_e1, nN_e2, nN_l1, nN_l2, nN_l3, nN_l4, nI_add, pk_mul, vp_inN, nI_cl, n01, n10, P_i, P_ii, P_iii, f_Mo_at, f_Mo_map, f_Mo_contact, f_Mo_within, f_Mo_isPort, f_Hp_endpoint, f_Hp_nodeOf, f_Hp_portOf, f_Ma_max, f_Ma_min, f_Hp_isSetting, popN, rok, a1, noX, swc, mL, if_true, if_false, ↓reduceIte, cond_true, cond_false, true_and, and_true, List.length_cons, List.length_nil, List.nil_append, List.cons_append, List.append_nil, Option.toList, Nat.reduceEqDiff, Bool.false_eq_true, reduceCtorEq, Nat.reduceAdd, Nat.reduceLT, Nat.reduceLeDiff, Nat.reduceSub, List.replicate, Nat.zero_add, Nat.lt_add_one, Nat.le_refl, Nat.zero_le, Nat.succ_ne_zero, not_false_eq_true, not_true_eq_false, false_implies, true_implies, forall_const, imp_self, true_or, or_true, eq_self, sI_zw, zw_zw, hI_zw, tg_zw, ln_zw, hR_zw, hL_zw, hN_zw, hM_zw, upd_s, upd_u, upd_ne, Classical.not_not, k_Tl_newMapping, g1, er]; try clear hgo9 hW9); try (obtain ⟨W9, hW9, hgo9⟩ := wp_ex (T_Tl_newMapping l G) [] _; refine hgo9 200 _ _ _ _ ?_; simp -implicitDefEqProofs (disch := omega) only [hW9, inl, gate, Xq, tz_const, tz_iload, tz_lload, tz_dload, tz_aload, tz_istore, tz_astore, tz_lstore, tz_dstore, tz_iinc, tz_i1, tz_i2, tz_i2z, tz_l2, tz_l2z, tz_i2l, tz_l2i, tz_lcmp, tz_i2d, tz_d2, tz_dcmp, tz_dup, tz_dup2, tz_pop, tz_if, tz_icmp, tz_null, tz_goto, tz_sw, tz_getf, tz_puti, tz_putz, tz_putr, tz_putl, tz_iaload, tz_baload, tz_laload, tz_aaload, tz_iastore, tz_bastore, tz_lastore, tz_aastore, tz_alen, tz_new, tz_newa, tz_oinit, tz_iret, tz_zret, tz_lret, tz_dret, tz_aret, tz_vret, tz_throw, tz_callS, tz_callV, tz_callI, tz_callR, tz_pureS, tz_pureV, tz_callVH, lg, lset, lkill, lst1, lst2, entL, isRf, is1, vl, va_rf_none, va_rf_some, isRf_rf, is1_rf, i0, i1, bI_eq0, bI_eq1, nm_em, nI_eqP, nI_leP, nI_ltP, nN_e1, nN_e2, nN_l1, nN_l2, nN_l3, nN_l4, nI_add, pk_mul, vp_inN, nI_cl, n01, n10, P_i, P_ii, P_iii, f_Mo_at, f_Mo_map, f_Mo_contact, f_Mo_within, f_Mo_isPort, f_Hp_endpoint, f_Hp_nodeOf, f_Hp_portOf, f_Ma_max, f_Ma_min, f_Hp_isSetting, popN, rok, a1, noX, swc, mL, if_true, if_false, ↓reduceIte, cond_true, cond_false, true_and, and_true, List.length_cons, List.length_nil, List.nil_append, List.cons_append, List.append_nil, Option.toList, Nat.reduceEqDiff, Bool.false_eq_true, reduceCtorEq, Nat.reduceAdd, Nat.reduceLT, Nat.reduceLeDiff, Nat.reduceSub, List.replicate, Nat.zero_add, Nat.lt_add_one, Nat.le_refl, Nat.zero_le, Nat.succ_ne_zero, not_false_eq_true, not_true_eq_false, false_implies, true_implies, forall_const, imp_self, true_or, or_true, eq_self, sI_zw, zw_zw, hI_zw, tg_zw, ln_zw, hR_zw, hL_zw, hN_zw, hM_zw, upd_s, upd_u, upd_ne, Classical.not_not, k_Tl_newMapping, g1, er]; try clear hgo9 hW9))
        refine c_Tl_nextMapping wn i t (own z i) h1 _ hw1 sh1 k1.1.2.2 e8 (fun h2 m nx => ?_)
        simp only [aft]
        have sh2 := nx.shT hw1 sh1 e8
        have g2 := sh2.1.1
        have eM := nx.eM
        have lt2 := nx.lt sh1
        obtain ⟨f, ⟨x1, x2, x3⟩, ⟨y1, y2⟩, o, sm, ne⟩ := nx
        have hP : P_Tl_keyFor [.ref t, .int (nI (b * 10000 + d))] h2 := trivial
        have m0 := sm.1
        have rule : hI h2 t 0 = z (16 + 16 * i + 2) := by
          rw [x1, upd_ne (by omega), k1.1.1.1, hf.low (by omega) (by omega)]
        have ek := key_ok (r := z (16 + 16 * i + 2)) htr.1 hb hd.1 hd.2
        have hf2 : f_Tl_keyFor [.ref t, .int (nI (b * 10000 + d))] h2 = .int (encK (if z (16 + 16 * i + 2) = nI 0 then nN else nI b) (if nI 2 ≤ z (16 + 16 * i + 2) then nI d else nN)) := by
          simp only [f_Tl_keyFor, rule, ek]
        (obtain ⟨W9, hW9, hgo9⟩ := wp_ex (T_Tl_newMapping l G) [] _; refine hgo9 200 _ _ _ _ ?_; simp -implicitDefEqProofs (disch := omega) only [hW9, inl, gate, Xq, tz_const, tz_iload, tz_lload, tz_dload, tz_aload, tz_istore, tz_astore, tz_lstore, tz_dstore, tz_iinc, tz_i1, tz_i2, tz_i2z, tz_l2, tz_l2z, tz_i2l, tz_l2i, tz_lcmp, tz_i2d, tz_d2, tz_dcmp, tz_dup, tz_dup2, tz_pop, tz_if, tz_icmp, tz_null, tz_goto, tz_sw, tz_getf, tz_puti, tz_putz, tz_putr, tz_putl, tz_iaload, tz_baload, tz_laload, tz_aaload, tz_iastore, tz_bastore, tz_lastore, tz_aastore, tz_alen, tz_new, tz_newa, tz_oinit, tz_iret, tz_zret, tz_lret, tz_dret, tz_aret, tz_vret, tz_throw, tz_callS, tz_callV, tz_callI, tz_callR, tz_pureS, tz_pureV, tz_callVH, lg, lset, lkill, lst1, lst2, entL, isRf, is1, vl, va_rf_none, va_rf_some, isRf_rf, is1_rf, i0, i1, bI_eq0, bI_eq1, nm_em, nI_eqP, nI_leP, nI_ltP, nN_e1, nN_e2, nN_l1, nN_l2, nN_l3, nN_l4, nI_add, pk_mul, vp_inN, nI_cl, n01, n10, P_i, P_ii, P_iii, f_Mo_at, f_Mo_map, f_Mo_contact, f_Mo_within, f_Mo_isPort, f_Hp_endpoint, f_Hp_nodeOf, f_Hp_portOf, f_Ma_max, f_Ma_min, f_Hp_isSetting, popN, rok, a1, noX, swc, mL, if_true, if_false, ↓reduceIte, cond_true, cond_false, true_and, and_true, List.length_cons, List.length_nil, List.nil_append, List.cons_append, List.append_nil, Option.toList, Nat.reduceEqDiff, Bool.false_eq_true, reduceCtorEq, Nat.reduceAdd, Nat.reduceLT, Nat.reduceLeDiff, Nat.reduceSub, List.replicate, Nat.zero_add, Nat.lt_add_one, Nat.le_refl, Nat.zero_le, Nat.succ_ne_zero, not_false_eq_true, not_true_eq_false, false_implies, true_implies, forall_const, imp_self, true_or, or_true, eq_self, sI_zw, zw_zw, hI_zw, tg_zw, ln_zw, hR_zw, hL_zw, hN_zw, hM_zw, upd_s, upd_u, upd_ne, Classical.not_not, k_Tl_newMapping, g2, hP, hf2, m0]; try clear hgo9 hW9)
        refine c_Mp_reset m _ _ _ h2 _ m0 ?_
        simp only [aft]
        (obtain ⟨W9, hW9, hgo9⟩ := wp_ex (T_Tl_newMapping l G) [] _; refine hgo9 200 _ _ _ _ ?_; simp -implicitDefEqProofs (disch := omega) only [hW9, inl, gate, Xq, tz_const, tz_iload, tz_lload, tz_dload, tz_aload, tz_istore, tz_astore, tz_lstore, tz_dstore, tz_iinc, tz_i1, tz_i2, tz_i2z, tz_l2, tz_l2z, tz_i2l, tz_l2i, tz_lcmp, tz_i2d, tz_d2, tz_dcmp, tz_dup, tz_dup2, tz_pop, tz_if, tz_icmp, tz_null, tz_goto, tz_sw, tz_getf, tz_puti, tz_putz, tz_putr, tz_putl, tz_iaload, tz_baload, tz_laload, tz_aaload, tz_iastore, tz_bastore, tz_lastore, tz_aastore, tz_alen, tz_new, tz_newa, tz_oinit, tz_iret, tz_zret, tz_lret, tz_dret, tz_aret, tz_vret, tz_throw, tz_callS, tz_callV, tz_callI, tz_callR, tz_pureS, tz_pureV, tz_callVH, lg, lset, lkill, lst1, lst2, entL, isRf, is1, vl, va_rf_none, va_rf_some, isRf_rf, is1_rf, i0, i1, bI_eq0, bI_eq1, nm_em, nI_eqP, nI_leP, nI_ltP, nN_e1, nN_e2, nN_l1, nN_l2, nN_l3, nN_l4, nI_add, pk_mul, vp_inN, nI_cl, n01, n10, P_i, P_ii, P_iii, f_Mo_at, f_Mo_map, f_Mo_contact, f_Mo_within, f_Mo_isPort, f_Hp_endpoint, f_Hp_nodeOf, f_Hp_portOf, f_Ma_max, f_Ma_min, f_Hp_isSetting, popN, rok, a1, noX, swc, mL, if_true, if_false, ↓reduceIte, cond_true, cond_false, true_and, and_true, List.length_cons, List.length_nil, List.nil_append, List.cons_append, List.append_nil, Option.toList, Nat.reduceEqDiff, Bool.false_eq_true, reduceCtorEq, Nat.reduceAdd, Nat.reduceLT, Nat.reduceLeDiff, Nat.reduceSub, List.replicate, Nat.zero_add, Nat.lt_add_one, Nat.le_refl, Nat.zero_le, Nat.succ_ne_zero, not_false_eq_true, not_true_eq_false, false_implies, true_implies, forall_const, imp_self, true_or, or_true, eq_self, sI_zw, zw_zw, hI_zw, tg_zw, ln_zw, hR_zw, hL_zw, hN_zw, hM_zw, upd_s, upd_u, upd_ne, Classical.not_not, k_Tl_newMapping, g2]; try clear hgo9 hW9)
        have hw2 : WF h2 := f.2.2.2.2
        have rm : rt h2 m = some wn := rt_gh sm.2.1
        have nmt : t ≠ m := ne_tg (by rw [g2, m0]; decide)
        have nmc : cC h2 m ≠ m := ne_tg (by rw [m0, sm.2.2.2.1]; decide)
        have fz : Fr wn 0 h2 (zw h2 m (upd (upd (upd (upd (hI h2 m) 0 (nI (a * 10000 + p))) 1 r) 2 (encK (if z (16 + 16 * i + 2) = nI 0 then nN else nI b) (if nI 2 ≤ z (16 + 16 * i + 2) then nI d else nN))) 5 (nI 0))) := Fr.zw hw2 rm
        have lz : Lt wn i h2 (zw h2 m (upd (upd (upd (upd (hI h2 m) 0 (nI (a * 10000 + p))) 1 r) 2 (encK (if z (16 + 16 * i + 2) = nI 0 then nN else nI b) (if nI 2 ≤ z (16 + 16 * i + 2) then nI d else nN))) 5 (nI 0))) := fun b' hb' hc => ⟨rfl, hI_zw_ne _ (fun e => hc (by rw [e]; exact ⟨6, [], sm.2.1, by omega⟩)), rfl, rfl⟩
        have ezl : ∀ j, j ≠ 16 + 16 * i + 11 → (j < 176 + 8 * (8 * i + own z i) ∨ 176 + 8 * (8 * i + own z i) + 7 ≤ j) → z2 j = z' j := by
          intro j c1 c2
          rw [ez]
          unfold makZ
          rw [upd_ne (by omega), upd_ne (by omega), upd_ne (by omega), upd_ne (by omega), upd_ne (by omega), upd_ne (by omega), upd_ne c1]
        have ezm : z2 (176 + 8 * (8 * i + own z i) + 0) = nI a ∧ z2 (176 + 8 * (8 * i + own z i) + 1) = nI p ∧ z2 (176 + 8 * (8 * i + own z i) + 2) = r ∧ z2 (176 + 8 * (8 * i + own z i) + 3) = (if z (16 + 16 * i + 2) = nI 0 then nN else nI b) ∧ z2 (176 + 8 * (8 * i + own z i) + 4) = (if nI 2 ≤ z (16 + 16 * i + 2) then nI d else nN) ∧ z2 (176 + 8 * (8 * i + own z i) + 6) = nI 0 := by
          have e2 : z' (16 + 16 * i + 2) = z (16 + 16 * i + 2) := hf.low (by omega) (by omega)
          rw [ez]
          unfold makZ
          rw [e2]
          refine ⟨?_, ?_, ?_, ?_, ?_, ?_⟩
          · rw [upd_ne (by omega), upd_ne (by omega), upd_ne (by omega), upd_ne (by omega), upd_ne (by omega), upd_s]
          · rw [upd_ne (by omega), upd_ne (by omega), upd_ne (by omega), upd_ne (by omega), upd_s]
          · rw [upd_ne (by omega), upd_ne (by omega), upd_ne (by omega), upd_s]
          · rw [upd_ne (by omega), upd_ne (by omega), upd_s]
          · rw [upd_ne (by omega), upd_s]
          · rw [upd_s]
        refine q2 eres e8 _ m ⟨⟨⟨?_, ?_, ?_, ?_, ?_, ?_, ?_, ?_⟩, ?_, ?_⟩, fun j hj hjn => ?_, ?_, ⟨⟨?_, ?_, ?_, ?_⟩, fun k' hk' => ?_⟩⟩ (sh2.congr rfl rfl) (((fr1.tr f).tr fz).mono (by omega)) ((lt1.tr fr1 lt2).tr (fr1.tr f) lz)
        · rw [hI_zw_ne _ nmt, x1, upd_ne (by omega), k1.1.1.1, ezl _ (by omega) (by omega)]
        · rw [hI_zw_ne _ nmt, x1, upd_ne (by omega), k1.1.1.2.1, ezl _ (by omega) (by omega)]
        · rw [hI_zw_ne _ nmt, x1, upd_ne (by omega), k1.1.1.2.2.1, ezl _ (by omega) (by omega)]
        · rw [hI_zw_ne _ nmt, x1, upd_ne (by omega), k1.1.1.2.2.2.1, ezl _ (by omega) (by omega)]
        · rw [hI_zw_ne _ nmt, x1, upd_ne (by omega), k1.1.1.2.2.2.2.1, ezl _ (by omega) (by omega)]
        · rw [hI_zw_ne _ nmt, x1, upd_ne (by omega), k1.1.1.2.2.2.2.2.1, ezl _ (by omega) (by omega)]
        · rw [hI_zw_ne _ nmt, x1, upd_ne (by omega), k1.1.1.2.2.2.2.2.2.1, ezl _ (by omega) (by omega)]
        · rw [hI_zw_ne _ nmt, x1, upd_ne (by omega), k1.1.1.2.2.2.2.2.2.2, ezl _ (by omega) (by omega)]
        · show hL h2 t 8 = _
          rw [x3, k1.1.2.1, ezl _ (by omega) (by omega)]
        · rw [hI_zw_ne _ nmt, x1, upd_s]
        · obtain ⟨m', m1, m2⟩ := k1.2 j (by omega)
          have g := sh1.2.2.2.1 j m' (by omega) m1
          have n1 : m' ≠ t := ne_tg (by rw [g.1, g1]; decide)
          have n2 : cC h1 m' ≠ t := ne_tg (by rw [g.2.2.2.1, g1]; decide)
          have n3 : m' ≠ mM h1 t := ne_tg (by rw [g.1, sh1.1.2.2.1]; decide)
          have n4 : cC h1 m' ≠ mM h1 t := ne_tg (by rw [g.2.2.2.1, sh1.1.2.2.1]; decide)
          have s1 := o m' (hw1.lt (by rw [g.1]; decide)) n1 n3
          have s2 := o (cC h1 m') (hw1.lt (by rw [g.2.2.2.1]; decide)) n2 n4
          have n5 : m' ≠ m := fun e => ne j (by omega) hjn (by rw [m1, e])
          have n6 : cC h1 m' ≠ m := fun e => by
            have q9 := s2.tg
            rw [e, m0, ← e, g.2.2.2.1] at q9
            exact absurd q9 (by decide)
          refine ⟨m', ?_, m2.keep (s1.tr ⟨rfl, hI_zw_ne _ n5, rfl, rfl⟩) (s2.tr ⟨rfl, hI_zw_ne _ n6, rfl, rfl⟩) (fun w hw' => ?_) (fun e he => ?_) ?_⟩
          · show hR h2 (mM h2 t) j = _
            rw [eM, y1 j hjn]
            exact m1
          · exact ezl _ (by unfold mA; omega) (by unfold mA; omega)
          · exact ezl _ (by unfold cA; omega) (by unfold cA; omega)
          · have : knw z' i j = knw z i j := by
              unfold knw
              rw [hf.low (by omega) (by omega)]
            rw [this]
            exact hkn j (by omega)
        · show hR h2 (mM h2 t) _ = _
          rw [eM]
          exact y2
        · rw [hI_zw, upd_ne (by omega), upd_ne (by omega), upd_ne (by omega), upd_s]
          show _ = enc (z2 (176 + 8 * (8 * i + own z i) + 0)) (z2 (176 + 8 * (8 * i + own z i) + 1))
          rw [ezm.1, ezm.2.1, enc_N]
        · rw [hI_zw, upd_ne (by omega), upd_ne (by omega), upd_s]
          exact ezm.2.2.1.symm
        · rw [hI_zw, upd_ne (by omega), upd_s]
          show _ = encK (z2 (176 + 8 * (8 * i + own z i) + 3)) (z2 (176 + 8 * (8 * i + own z i) + 4))
          rw [ezm.2.2.2.1, ezm.2.2.2.2.1]
        · rw [hI_zw, upd_s]
          exact ezm.2.2.2.2.2.symm
        · exfalso
          unfold knw at hk'
          rw [ezm.2.2.2.2.2] at hk'
          exact absurd hk' (by simp [nI_clamp (show (0 : Nat) < 2 ^ 31 by omega)])
    have eP := enc_port ha (show p < 10000 by omega)
    have l8 : nI (own z i) < nI 8 := by rw [nI_ltP (by omega) (by omega)]; omega
    have has := k.1.1.2.2.1
    rcases id hX with ⟨as, ez, n, pp, hn, pp1, pp2, epp, hfst, err⟩ | ⟨as, n, s, c, hn, hs, hc, es, ec, hfst, err, ez⟩ | ⟨as, n, s, hn, hs, es, hfst, err, ez⟩
    · rw [nI_eq (by omega) (by omega)] at epp
      subst epp ez
      rw [as] at has
      ((obtain ⟨W9, hW9, hgo9⟩ := wp_ex (T_Tl_newMapping l G) [69] _; refine hgo9 200 _ _ _ _ ?_; simp -implicitDefEqProofs (disch := omega) only [hW9, inl, gate, Xq, tz_const, tz_iload, tz_lload, tz_dload, tz_aload, tz_istore, tz_astore, tz_lstore, tz_dstore, tz_iinc, tz_i1, tz_i2, tz_i2z, tz_l2, tz_l2z, tz_i2l, tz_l2i, tz_lcmp, tz_i2d, tz_d2, tz_dcmp, tz_dup, tz_dup2, tz_pop, tz_if, tz_icmp, tz_null, tz_goto, tz_sw, tz_getf, tz_puti, tz_putz, tz_putr, tz_putl, tz_iaload, tz_baload, tz_laload, tz_aaload, tz_iastore, tz_bastore, tz_lastore, tz_aastore, tz_alen, tz_new, tz_newa, tz_oinit, tz_iret, tz_zret, tz_lret, tz_dret, tz_aret, tz_vret, tz_throw, tz_callS, tz_callV, tz_callI, tz_callR, tz_pureS, tz_pureV, tz_callVH, lg, lset, lkill, lst1, lst2, entL, isRf, is1, vl, va_rf_none, va_rf_some, isRf_rf, is1_rf, i0, i1, bI_eq0, bI_eq1, nm_em, nI_eqP, nI_leP, nI_ltP, nN_e1, nN_e2, nN_l1, nN_l2, nN_l3, nN_l4, nI_add, pk_mul, vp_inN, nI_cl, n01, n10, P_i, P_ii, P_iii, f_Mo_at, f_Mo_map, f_Mo_contact, f_Mo_within, f_Mo_isPort, f_Hp_endpoint, f_Hp_nodeOf, f_Hp_portOf, f_Ma_max, f_Ma_min, f_Hp_isSetting, popN, rok, a1, noX, swc, mL, if_true, if_false, ↓reduceIte, cond_true, cond_false, true_and, and_true, List.length_cons, List.length_nil, List.nil_append, List.cons_append, List.append_nil, Option.toList, Nat.reduceEqDiff, Bool.false_eq_true, reduceCtorEq, Nat.reduceAdd, Nat.reduceLT, Nat.reduceLeDiff, Nat.reduceSub, List.replicate, Nat.zero_add, Nat.lt_add_one, Nat.le_refl, Nat.zero_le, Nat.succ_ne_zero, not_false_eq_true, not_true_eq_false, false_implies, true_implies, forall_const, imp_self, true_or, or_true, eq_self, sI_zw, zw_zw, hI_zw, tg_zw, ln_zw, hR_zw, hL_zw, hN_zw, hM_zw, upd_s, upd_u, upd_ne, Classical.not_not, k_Tl_newMapping, h1, h2, h3, h4, hsz, l8, has, eP]; try clear hgo9 hW9); try (obtain ⟨W9, hW9, hgo9⟩ := wp_ex (T_Tl_newMapping l G) [69] _; refine hgo9 200 _ _ _ _ ?_; simp -implicitDefEqProofs (disch := omega) only [hW9, inl, gate, Xq, tz_const, tz_iload, tz_lload, tz_dload, tz_aload, tz_istore, tz_astore, tz_lstore, tz_dstore, tz_iinc, tz_i1, tz_i2, tz_i2z, tz_l2, tz_l2z, tz_i2l, tz_l2i, tz_lcmp, tz_i2d, tz_d2, tz_dcmp, tz_dup, tz_dup2, tz_pop, tz_if, tz_icmp, tz_null, tz_goto, tz_sw, tz_getf, tz_puti, tz_putz, tz_putr, tz_putl, tz_iaload, tz_baload, tz_laload, tz_aaload, tz_iastore, tz_bastore, tz_lastore, tz_aastore, tz_alen, tz_new, tz_newa, tz_oinit, tz_iret, tz_zret, tz_lret, tz_dret, tz_aret, tz_vret, tz_throw, tz_callS, tz_callV, tz_callI, tz_callR, tz_pureS, tz_pureV, tz_callVH, lg, lset, lkill, lst1, lst2, entL, isRf, is1, vl, va_rf_none, va_rf_some, isRf_rf, is1_rf, i0, i1, bI_eq0, bI_eq1, nm_em, nI_eqP, nI_leP, nI_ltP, nN_e1, nN_e2, nN_l1, nN_l2, nN_l3, nN_l4, nI_add, pk_mul, vp_inN, nI_cl, n01, n10, P_i, P_ii, P_iii, f_Mo_at, f_Mo_map, f_Mo_contact, f_Mo_within, f_Mo_isPort, f_Hp_endpoint, f_Hp_nodeOf, f_Hp_portOf, f_Ma_max, f_Ma_min, f_Hp_isSetting, popN, rok, a1, noX, swc, mL, if_true, if_false, ↓reduceIte, cond_true, cond_false, true_and, and_true, List.length_cons, List.length_nil, List.nil_append, List.cons_append, List.append_nil, Option.toList, Nat.reduceEqDiff, Bool.false_eq_true, reduceCtorEq, Nat.reduceAdd, Nat.reduceLT, Nat.reduceLeDiff, Nat.reduceSub, List.replicate, Nat.zero_add, Nat.lt_add_one, Nat.le_refl, Nat.zero_le, Nat.succ_ne_zero, not_false_eq_true, not_true_eq_false, false_implies, true_implies, forall_const, imp_self, true_or, or_true, eq_self, sI_zw, zw_zw, hI_zw, tg_zw, ln_zw, hR_zw, hL_zw, hN_zw, hM_zw, upd_s, upd_u, upd_ne, Classical.not_not, k_Tl_newMapping, h1, h2, h3, h4, hsz, l8, has, eP]; try clear hgo9 hW9); try (obtain ⟨W9, hW9, hgo9⟩ := wp_ex (T_Tl_newMapping l G) [69] _; refine hgo9 200 _ _ _ _ ?_; simp -implicitDefEqProofs (disch := omega) only [hW9, inl, gate, Xq, tz_const, tz_iload, tz_lload, tz_dload, tz_aload, tz_istore, tz_astore, tz_lstore, tz_dstore, tz_iinc, tz_i1, tz_i2, tz_i2z, tz_l2, tz_l2z, tz_i2l, tz_l2i, tz_lcmp, tz_i2d, tz_d2, tz_dcmp, tz_dup, tz_dup2, tz_pop, tz_if, tz_icmp, tz_null, tz_goto, tz_sw, tz_getf, tz_puti, tz_putz, tz_putr, tz_putl, tz_iaload, tz_baload, tz_laload, tz_aaload, tz_iastore, tz_bastore, tz_lastore, tz_aastore, tz_alen, tz_new, tz_newa, tz_oinit, tz_iret, tz_zret, tz_lret, tz_dret, tz_aret, tz_vret, tz_throw, tz_callS, tz_callV, tz_callI, tz_callR, tz_pureS, tz_pureV, tz_callVH, lg, lset, lkill, lst1, lst2, entL, isRf, is1, vl, va_rf_none, va_rf_some, isRf_rf, is1_rf, i0, i1, bI_eq0, bI_eq1, nm_em, nI_eqP, nI_leP, nI_ltP, nN_e1, nN_e2, nN_l1, nN_l2, nN_l3, nN_l4, nI_add, pk_mul, vp_inN, nI_cl, n01, n10, P_i, P_ii, P_iii, f_Mo_at, f_Mo_map, f_Mo_contact, f_Mo_within, f_Mo_isPort, f_Hp_endpoint, f_Hp_nodeOf, f_Hp_portOf, f_Ma_max, f_Ma_min, f_Hp_isSetting, popN, rok, a1, noX, swc, mL, if_true, if_false, ↓reduceIte, cond_true, cond_false, true_and, and_true, List.length_cons, List.length_nil, List.nil_append, List.cons_append, List.append_nil, Option.toList, Nat.reduceEqDiff, Bool.false_eq_true, reduceCtorEq, Nat.reduceAdd, Nat.reduceLT, Nat.reduceLeDiff, Nat.reduceSub, List.replicate, Nat.zero_add, Nat.lt_add_one, Nat.le_refl, Nat.zero_le, Nat.succ_ne_zero, not_false_eq_true, not_true_eq_false, false_implies, true_implies, forall_const, imp_self, true_or, or_true, eq_self, sI_zw, zw_zw, hI_zw, tg_zw, ln_zw, hR_zw, hL_zw, hN_zw, hM_zw, upd_s, upd_u, upd_ne, Classical.not_not, k_Tl_newMapping, h1, h2, h3, h4, hsz, l8, has, eP]; try clear hgo9 hW9))
      refine c_Tl_keptPort t i n p z' h _ (k.PoK sh o2) hp.2 hfst (by omega) ?_
      simp only [aft]
      rw [← err]
      (obtain ⟨W9, hW9, hgo9⟩ := wp_ex (T_Tl_newMapping l G) [69] _; refine hgo9 200 _ _ _ _ ?_; simp -implicitDefEqProofs (disch := omega) only [hW9, inl, gate, Xq, tz_const, tz_iload, tz_lload, tz_dload, tz_aload, tz_istore, tz_astore, tz_lstore, tz_dstore, tz_iinc, tz_i1, tz_i2, tz_i2z, tz_l2, tz_l2z, tz_i2l, tz_l2i, tz_lcmp, tz_i2d, tz_d2, tz_dcmp, tz_dup, tz_dup2, tz_pop, tz_if, tz_icmp, tz_null, tz_goto, tz_sw, tz_getf, tz_puti, tz_putz, tz_putr, tz_putl, tz_iaload, tz_baload, tz_laload, tz_aaload, tz_iastore, tz_bastore, tz_lastore, tz_aastore, tz_alen, tz_new, tz_newa, tz_oinit, tz_iret, tz_zret, tz_lret, tz_dret, tz_aret, tz_vret, tz_throw, tz_callS, tz_callV, tz_callI, tz_callR, tz_pureS, tz_pureV, tz_callVH, lg, lset, lkill, lst1, lst2, entL, isRf, is1, vl, va_rf_none, va_rf_some, isRf_rf, is1_rf, i0, i1, bI_eq0, bI_eq1, nm_em, nI_eqP, nI_leP, nI_ltP, nN_e1, nN_e2, nN_l1, nN_l2, nN_l3, nN_l4, nI_add, pk_mul, vp_inN, nI_cl, n01, n10, P_i, P_ii, P_iii, f_Mo_at, f_Mo_map, f_Mo_contact, f_Mo_within, f_Mo_isPort, f_Hp_endpoint, f_Hp_nodeOf, f_Hp_portOf, f_Ma_max, f_Ma_min, f_Hp_isSetting, popN, rok, a1, noX, swc, mL, if_true, if_false, ↓reduceIte, cond_true, cond_false, true_and, and_true, List.length_cons, List.length_nil, List.nil_append, List.cons_append, List.append_nil, Option.toList, Nat.reduceEqDiff, Bool.false_eq_true, reduceCtorEq, Nat.reduceAdd, Nat.reduceLT, Nat.reduceLeDiff, Nat.reduceSub, List.replicate, Nat.zero_add, Nat.lt_add_one, Nat.le_refl, Nat.zero_le, Nat.succ_ne_zero, not_false_eq_true, not_true_eq_false, false_implies, true_implies, forall_const, imp_self, true_or, or_true, eq_self, sI_zw, zw_zw, hI_zw, tg_zw, ln_zw, hR_zw, hL_zw, hN_zw, hM_zw, upd_s, upd_u, upd_ne, Classical.not_not, k_Tl_newMapping, h1]; try clear hgo9 hW9)
      exact stage2 h k sh hw (Fr.rf hw) Lt.rf _
    · rw [as] at has
      ((obtain ⟨W9, hW9, hgo9⟩ := wp_ex (T_Tl_newMapping l G) [69] _; refine hgo9 200 _ _ _ _ ?_; simp -implicitDefEqProofs (disch := omega) only [hW9, inl, gate, Xq, tz_const, tz_iload, tz_lload, tz_dload, tz_aload, tz_istore, tz_astore, tz_lstore, tz_dstore, tz_iinc, tz_i1, tz_i2, tz_i2z, tz_l2, tz_l2z, tz_i2l, tz_l2i, tz_lcmp, tz_i2d, tz_d2, tz_dcmp, tz_dup, tz_dup2, tz_pop, tz_if, tz_icmp, tz_null, tz_goto, tz_sw, tz_getf, tz_puti, tz_putz, tz_putr, tz_putl, tz_iaload, tz_baload, tz_laload, tz_aaload, tz_iastore, tz_bastore, tz_lastore, tz_aastore, tz_alen, tz_new, tz_newa, tz_oinit, tz_iret, tz_zret, tz_lret, tz_dret, tz_aret, tz_vret, tz_throw, tz_callS, tz_callV, tz_callI, tz_callR, tz_pureS, tz_pureV, tz_callVH, lg, lset, lkill, lst1, lst2, entL, isRf, is1, vl, va_rf_none, va_rf_some, isRf_rf, is1_rf, i0, i1, bI_eq0, bI_eq1, nm_em, nI_eqP, nI_leP, nI_ltP, nN_e1, nN_e2, nN_l1, nN_l2, nN_l3, nN_l4, nI_add, pk_mul, vp_inN, nI_cl, n01, n10, P_i, P_ii, P_iii, f_Mo_at, f_Mo_map, f_Mo_contact, f_Mo_within, f_Mo_isPort, f_Hp_endpoint, f_Hp_nodeOf, f_Hp_portOf, f_Ma_max, f_Ma_min, f_Hp_isSetting, popN, rok, a1, noX, swc, mL, if_true, if_false, ↓reduceIte, cond_true, cond_false, true_and, and_true, List.length_cons, List.length_nil, List.nil_append, List.cons_append, List.append_nil, Option.toList, Nat.reduceEqDiff, Bool.false_eq_true, reduceCtorEq, Nat.reduceAdd, Nat.reduceLT, Nat.reduceLeDiff, Nat.reduceSub, List.replicate, Nat.zero_add, Nat.lt_add_one, Nat.le_refl, Nat.zero_le, Nat.succ_ne_zero, not_false_eq_true, not_true_eq_false, false_implies, true_implies, forall_const, imp_self, true_or, or_true, eq_self, sI_zw, zw_zw, hI_zw, tg_zw, ln_zw, hR_zw, hL_zw, hN_zw, hM_zw, upd_s, upd_u, upd_ne, Classical.not_not, k_Tl_newMapping, h1, h2, h3, h4, hsz, l8, has]; try clear hgo9 hW9); try (obtain ⟨W9, hW9, hgo9⟩ := wp_ex (T_Tl_newMapping l G) [69] _; refine hgo9 200 _ _ _ _ ?_; simp -implicitDefEqProofs (disch := omega) only [hW9, inl, gate, Xq, tz_const, tz_iload, tz_lload, tz_dload, tz_aload, tz_istore, tz_astore, tz_lstore, tz_dstore, tz_iinc, tz_i1, tz_i2, tz_i2z, tz_l2, tz_l2z, tz_i2l, tz_l2i, tz_lcmp, tz_i2d, tz_d2, tz_dcmp, tz_dup, tz_dup2, tz_pop, tz_if, tz_icmp, tz_null, tz_goto, tz_sw, tz_getf, tz_puti, tz_putz, tz_putr, tz_putl, tz_iaload, tz_baload, tz_laload, tz_aaload, tz_iastore, tz_bastore, tz_lastore, tz_aastore, tz_alen, tz_new, tz_newa, tz_oinit, tz_iret, tz_zret, tz_lret, tz_dret, tz_aret, tz_vret, tz_throw, tz_callS, tz_callV, tz_callI, tz_callR, tz_pureS, tz_pureV, tz_callVH, lg, lset, lkill, lst1, lst2, entL, isRf, is1, vl, va_rf_none, va_rf_some, isRf_rf, is1_rf, i0, i1, bI_eq0, bI_eq1, nm_em, nI_eqP, nI_leP, nI_ltP, nN_e1, nN_e2, nN_l1, nN_l2, nN_l3, nN_l4, nI_add, pk_mul, vp_inN, nI_cl, n01, n10, P_i, P_ii, P_iii, f_Mo_at, f_Mo_map, f_Mo_contact, f_Mo_within, f_Mo_isPort, f_Hp_endpoint, f_Hp_nodeOf, f_Hp_portOf, f_Ma_max, f_Ma_min, f_Hp_isSetting, popN, rok, a1, noX, swc, mL, if_true, if_false, ↓reduceIte, cond_true, cond_false, true_and, and_true, List.length_cons, List.length_nil, List.nil_append, List.cons_append, List.append_nil, Option.toList, Nat.reduceEqDiff, Bool.false_eq_true, reduceCtorEq, Nat.reduceAdd, Nat.reduceLT, Nat.reduceLeDiff, Nat.reduceSub, List.replicate, Nat.zero_add, Nat.lt_add_one, Nat.le_refl, Nat.zero_le, Nat.succ_ne_zero, not_false_eq_true, not_true_eq_false, false_implies, true_implies, forall_const, imp_self, true_or, or_true, eq_self, sI_zw, zw_zw, hI_zw, tg_zw, ln_zw, hR_zw, hL_zw, hN_zw, hM_zw, upd_s, upd_u, upd_ne, Classical.not_not, k_Tl_newMapping, h1, h2, h3, h4, hsz, l8, has]; try clear hgo9 hW9); try (obtain ⟨W9, hW9, hgo9⟩ := wp_ex (T_Tl_newMapping l G) [69] _; refine hgo9 200 _ _ _ _ ?_; simp -implicitDefEqProofs (disch := omega) only [hW9, inl, gate, Xq, tz_const, tz_iload, tz_lload, tz_dload, tz_aload, tz_istore, tz_astore, tz_lstore, tz_dstore, tz_iinc, tz_i1, tz_i2, tz_i2z, tz_l2, tz_l2z, tz_i2l, tz_l2i, tz_lcmp, tz_i2d, tz_d2, tz_dcmp, tz_dup, tz_dup2, tz_pop, tz_if, tz_icmp, tz_null, tz_goto, tz_sw, tz_getf, tz_puti, tz_putz, tz_putr, tz_putl, tz_iaload, tz_baload, tz_laload, tz_aaload, tz_iastore, tz_bastore, tz_lastore, tz_aastore, tz_alen, tz_new, tz_newa, tz_oinit, tz_iret, tz_zret, tz_lret, tz_dret, tz_aret, tz_vret, tz_throw, tz_callS, tz_callV, tz_callI, tz_callR, tz_pureS, tz_pureV, tz_callVH, lg, lset, lkill, lst1, lst2, entL, isRf, is1, vl, va_rf_none, va_rf_some, isRf_rf, is1_rf, i0, i1, bI_eq0, bI_eq1, nm_em, nI_eqP, nI_leP, nI_ltP, nN_e1, nN_e2, nN_l1, nN_l2, nN_l3, nN_l4, nI_add, pk_mul, vp_inN, nI_cl, n01, n10, P_i, P_ii, P_iii, f_Mo_at, f_Mo_map, f_Mo_contact, f_Mo_within, f_Mo_isPort, f_Hp_endpoint, f_Hp_nodeOf, f_Hp_portOf, f_Ma_max, f_Ma_min, f_Hp_isSetting, popN, rok, a1, noX, swc, mL, if_true, if_false, ↓reduceIte, cond_true, cond_false, true_and, and_true, List.length_cons, List.length_nil, List.nil_append, List.cons_append, List.append_nil, Option.toList, Nat.reduceEqDiff, Bool.false_eq_true, reduceCtorEq, Nat.reduceAdd, Nat.reduceLT, Nat.reduceLeDiff, Nat.reduceSub, List.replicate, Nat.zero_add, Nat.lt_add_one, Nat.le_refl, Nat.zero_le, Nat.succ_ne_zero, not_false_eq_true, not_true_eq_false, false_implies, true_implies, forall_const, imp_self, true_or, or_true, eq_self, sI_zw, zw_zw, hI_zw, tg_zw, ln_zw, hR_zw, hL_zw, hN_zw, hM_zw, upd_s, upd_u, upd_ne, Classical.not_not, k_Tl_newMapping, h1, h2, h3, h4, hsz, l8, has]; try clear hgo9 hW9))
      refine c_Tl_countedPort t i n (nI s) (nI c) z h _ (k.PoK sh o2) (by rw [k.1.1.2.2.2.1]; exact es) (by rw [k.1.1.2.2.2.2.2.2.2]; exact ec) hfst (by omega) ?_
      simp only [aft]
      rw [← err]
      (obtain ⟨W9, hW9, hgo9⟩ := wp_ex (T_Tl_newMapping l G) [69] _; refine hgo9 200 _ _ _ _ ?_; simp -implicitDefEqProofs (disch := omega) only [hW9, inl, gate, Xq, tz_const, tz_iload, tz_lload, tz_dload, tz_aload, tz_istore, tz_astore, tz_lstore, tz_dstore, tz_iinc, tz_i1, tz_i2, tz_i2z, tz_l2, tz_l2z, tz_i2l, tz_l2i, tz_lcmp, tz_i2d, tz_d2, tz_dcmp, tz_dup, tz_dup2, tz_pop, tz_if, tz_icmp, tz_null, tz_goto, tz_sw, tz_getf, tz_puti, tz_putz, tz_putr, tz_putl, tz_iaload, tz_baload, tz_laload, tz_aaload, tz_iastore, tz_bastore, tz_lastore, tz_aastore, tz_alen, tz_new, tz_newa, tz_oinit, tz_iret, tz_zret, tz_lret, tz_dret, tz_aret, tz_vret, tz_throw, tz_callS, tz_callV, tz_callI, tz_callR, tz_pureS, tz_pureV, tz_callVH, lg, lset, lkill, lst1, lst2, entL, isRf, is1, vl, va_rf_none, va_rf_some, isRf_rf, is1_rf, i0, i1, bI_eq0, bI_eq1, nm_em, nI_eqP, nI_leP, nI_ltP, nN_e1, nN_e2, nN_l1, nN_l2, nN_l3, nN_l4, nI_add, pk_mul, vp_inN, nI_cl, n01, n10, P_i, P_ii, P_iii, f_Mo_at, f_Mo_map, f_Mo_contact, f_Mo_within, f_Mo_isPort, f_Hp_endpoint, f_Hp_nodeOf, f_Hp_portOf, f_Ma_max, f_Ma_min, f_Hp_isSetting, popN, rok, a1, noX, swc, mL, if_true, if_false, ↓reduceIte, cond_true, cond_false, true_and, and_true, List.length_cons, List.length_nil, List.nil_append, List.cons_append, List.append_nil, Option.toList, Nat.reduceEqDiff, Bool.false_eq_true, reduceCtorEq, Nat.reduceAdd, Nat.reduceLT, Nat.reduceLeDiff, Nat.reduceSub, List.replicate, Nat.zero_add, Nat.lt_add_one, Nat.le_refl, Nat.zero_le, Nat.succ_ne_zero, not_false_eq_true, not_true_eq_false, false_implies, true_implies, forall_const, imp_self, true_or, or_true, eq_self, sI_zw, zw_zw, hI_zw, tg_zw, ln_zw, hR_zw, hL_zw, hN_zw, hM_zw, upd_s, upd_u, upd_ne, Classical.not_not, k_Tl_newMapping, h1]; try clear hgo9 hW9)
      refine stage2 (zw h t (upd (hI h t) 7 (itr (nxC (nI s)) (n + 1) (nI c)))) (k.zt sh rfl rfl (fun b' hb' => ⟨hI_zw_ne _ hb', rfl⟩) ⟨⟨?_, ?_, ?_, ?_, ?_, ?_, ?_, ?_⟩, ?_, ?_⟩ ⟨fun e he => ?_, fun e he => ?_⟩ o2 hkn) (sh.congr rfl rfl) (Fr.zw hw (rt_gh a5)).2.2.2.2 (Fr.zw hw (rt_gh a5)) (fun b' hb' hc => ⟨rfl, hI_zw_ne _ (fun e => hc (by rw [e]; exact ⟨4, [], a5, by omega⟩)), rfl, rfl⟩) _
      · rw [hI_zw, upd_ne (by omega), ez, upd_ne (by omega)]; exact k.1.1.1
      · rw [hI_zw, upd_ne (by omega), ez, upd_ne (by omega)]; exact k.1.1.2.1
      · rw [hI_zw, upd_ne (by omega), ez, upd_ne (by omega)]; exact k.1.1.2.2.1
      · rw [hI_zw, upd_ne (by omega), ez, upd_ne (by omega)]; exact k.1.1.2.2.2.1
      · rw [hI_zw, upd_ne (by omega), ez, upd_ne (by omega)]; exact k.1.1.2.2.2.2.1
      · rw [hI_zw, upd_ne (by omega), ez, upd_ne (by omega)]; exact k.1.1.2.2.2.2.2.1
      · rw [hI_zw, upd_ne (by omega), ez, upd_ne (by omega)]; exact k.1.1.2.2.2.2.2.2.1
      · rw [hI_zw, upd_s, ez, upd_s]
      · show hL h t 8 = _
        rw [ez, upd_ne (by omega)]; exact k.1.2.1
      · rw [hI_zw, upd_ne (by omega)]; exact hsz
      · rw [ez, upd_ne (by unfold mA; omega)]
      · rw [ez, upd_ne (by unfold cA; omega)]
    · rw [as] at has
      have n20 : (nI 2 = nI 0) = False := by decide
      have n21 : (nI 2 = nI 1) = False := by decide
      ((obtain ⟨W9, hW9, hgo9⟩ := wp_ex (T_Tl_newMapping l G) [69] _; refine hgo9 200 _ _ _ _ ?_; simp -implicitDefEqProofs (disch := omega) only [hW9, inl, gate, Xq, tz_const, tz_iload, tz_lload, tz_dload, tz_aload, tz_istore, tz_astore, tz_lstore, tz_dstore, tz_iinc, tz_i1, tz_i2, tz_i2z, tz_l2, tz_l2z, tz_i2l, tz_l2i, tz_lcmp, tz_i2d, tz_d2, tz_dcmp, tz_dup, tz_dup2, tz_pop, tz_if, tz_icmp, tz_null, tz_goto, tz_sw, tz_getf, tz_puti, tz_putz, tz_putr, tz_putl, tz_iaload, tz_baload, tz_laload, tz_aaload, tz_iastore, tz_bastore, tz_lastore, tz_aastore, tz_alen, tz_new, tz_newa, tz_oinit, tz_iret, tz_zret, tz_lret, tz_dret, tz_aret, tz_vret, tz_throw, tz_callS, tz_callV, tz_callI, tz_callR, tz_pureS, tz_pureV, tz_callVH, lg, lset, lkill, lst1, lst2, entL, isRf, is1, vl, va_rf_none, va_rf_some, isRf_rf, is1_rf, i0, i1, bI_eq0, bI_eq1, nm_em, nI_eqP, nI_leP, nI_ltP, nN_e1, nN_e2, nN_l1, nN_l2, nN_l3, nN_l4, nI_add, pk_mul, vp_inN, nI_cl, n01, n10, P_i, P_ii, P_iii, f_Mo_at, f_Mo_map, f_Mo_contact, f_Mo_within, f_Mo_isPort, f_Hp_endpoint, f_Hp_nodeOf, f_Hp_portOf, f_Ma_max, f_Ma_min, f_Hp_isSetting, popN, rok, a1, noX, swc, mL, if_true, if_false, ↓reduceIte, cond_true, cond_false, true_and, and_true, List.length_cons, List.length_nil, List.nil_append, List.cons_append, List.append_nil, Option.toList, Nat.reduceEqDiff, Bool.false_eq_true, reduceCtorEq, Nat.reduceAdd, Nat.reduceLT, Nat.reduceLeDiff, Nat.reduceSub, List.replicate, Nat.zero_add, Nat.lt_add_one, Nat.le_refl, Nat.zero_le, Nat.succ_ne_zero, not_false_eq_true, not_true_eq_false, false_implies, true_implies, forall_const, imp_self, true_or, or_true, eq_self, sI_zw, zw_zw, hI_zw, tg_zw, ln_zw, hR_zw, hL_zw, hN_zw, hM_zw, upd_s, upd_u, upd_ne, Classical.not_not, k_Tl_newMapping, h1, h2, h3, h4, hsz, l8, has, n20, n21]; try clear hgo9 hW9); try (obtain ⟨W9, hW9, hgo9⟩ := wp_ex (T_Tl_newMapping l G) [69] _; refine hgo9 200 _ _ _ _ ?_; simp -implicitDefEqProofs (disch := omega) only [hW9, inl, gate, Xq, tz_const, tz_iload, tz_lload, tz_dload, tz_aload, tz_istore, tz_astore, tz_lstore, tz_dstore, tz_iinc, tz_i1, tz_i2, tz_i2z, tz_l2, tz_l2z, tz_i2l, tz_l2i, tz_lcmp, tz_i2d, tz_d2, tz_dcmp, tz_dup, tz_dup2, tz_pop, tz_if, tz_icmp, tz_null, tz_goto, tz_sw, tz_getf, tz_puti, tz_putz, tz_putr, tz_putl, tz_iaload, tz_baload, tz_laload, tz_aaload, tz_iastore, tz_bastore, tz_lastore, tz_aastore, tz_alen, tz_new, tz_newa, tz_oinit, tz_iret, tz_zret, tz_lret, tz_dret, tz_aret, tz_vret, tz_throw, tz_callS, tz_callV, tz_callI, tz_callR, tz_pureS, tz_pureV, tz_callVH, lg, lset, lkill, lst1, lst2, entL, isRf, is1, vl, va_rf_none, va_rf_some, isRf_rf, is1_rf, i0, i1, bI_eq0, bI_eq1, nm_em, nI_eqP, nI_leP, nI_ltP, nN_e1, nN_e2, nN_l1, nN_l2, nN_l3, nN_l4, nI_add, pk_mul, vp_inN, nI_cl, n01, n10, P_i, P_ii, P_iii, f_Mo_at, f_Mo_map, f_Mo_contact, f_Mo_within, f_Mo_isPort, f_Hp_endpoint, f_Hp_nodeOf, f_Hp_portOf, f_Ma_max, f_Ma_min, f_Hp_isSetting, popN, rok, a1, noX, swc, mL, if_true, if_false, ↓reduceIte, cond_true, cond_false, true_and, and_true, List.length_cons, List.length_nil, List.nil_append, List.cons_append, List.append_nil, Option.toList, Nat.reduceEqDiff, Bool.false_eq_true, reduceCtorEq, Nat.reduceAdd, Nat.reduceLT, Nat.reduceLeDiff, Nat.reduceSub, List.replicate, Nat.zero_add, Nat.lt_add_one, Nat.le_refl, Nat.zero_le, Nat.succ_ne_zero, not_false_eq_true, not_true_eq_false, false_implies, true_implies, forall_const, imp_self, true_or, or_true, eq_self, sI_zw, zw_zw, hI_zw, tg_zw, ln_zw, hR_zw, hL_zw, hN_zw, hM_zw, upd_s, upd_u, upd_ne, Classical.not_not, k_Tl_newMapping, h1, h2, h3, h4, hsz, l8, has, n20, n21]; try clear hgo9 hW9); try (obtain ⟨W9, hW9, hgo9⟩ := wp_ex (T_Tl_newMapping l G) [69] _; refine hgo9 200 _ _ _ _ ?_; simp -implicitDefEqProofs (disch := omega) only [hW9, inl, gate, Xq, tz_const, tz_iload, tz_lload, tz_dload, tz_aload, tz_istore, tz_astore, tz_lstore, tz_dstore, tz_iinc, tz_i1, tz_i2, tz_i2z, tz_l2, tz_l2z, tz_i2l, tz_l2i, tz_lcmp, tz_i2d, tz_d2, tz_dcmp, tz_dup, tz_dup2, tz_pop, tz_if, tz_icmp, tz_null, tz_goto, tz_sw, tz_getf, tz_puti, tz_putz, tz_putr, tz_putl, tz_iaload, tz_baload, tz_laload, tz_aaload, tz_iastore, tz_bastore, tz_lastore, tz_aastore, tz_alen, tz_new, tz_newa, tz_oinit, tz_iret, tz_zret, tz_lret, tz_dret, tz_aret, tz_vret, tz_throw, tz_callS, tz_callV, tz_callI, tz_callR, tz_pureS, tz_pureV, tz_callVH, lg, lset, lkill, lst1, lst2, entL, isRf, is1, vl, va_rf_none, va_rf_some, isRf_rf, is1_rf, i0, i1, bI_eq0, bI_eq1, nm_em, nI_eqP, nI_leP, nI_ltP, nN_e1, nN_e2, nN_l1, nN_l2, nN_l3, nN_l4, nI_add, pk_mul, vp_inN, nI_cl, n01, n10, P_i, P_ii, P_iii, f_Mo_at, f_Mo_map, f_Mo_contact, f_Mo_within, f_Mo_isPort, f_Hp_endpoint, f_Hp_nodeOf, f_Hp_portOf, f_Ma_max, f_Ma_min, f_Hp_isSetting, popN, rok, a1, noX, swc, mL, if_true, if_false, ↓reduceIte, cond_true, cond_false, true_and, and_true, List.length_cons, List.length_nil, List.nil_append, List.cons_append, List.append_nil, Option.toList, Nat.reduceEqDiff, Bool.false_eq_true, reduceCtorEq, Nat.reduceAdd, Nat.reduceLT, Nat.reduceLeDiff, Nat.reduceSub, List.replicate, Nat.zero_add, Nat.lt_add_one, Nat.le_refl, Nat.zero_le, Nat.succ_ne_zero, not_false_eq_true, not_true_eq_false, false_implies, true_implies, forall_const, imp_self, true_or, or_true, eq_self, sI_zw, zw_zw, hI_zw, tg_zw, ln_zw, hR_zw, hL_zw, hN_zw, hM_zw, upd_s, upd_u, upd_ne, Classical.not_not, k_Tl_newMapping, h1, h2, h3, h4, hsz, l8, has, n20, n21]; try clear hgo9 hW9))
      refine c_Tl_randomPort t i n s z h _ (k.PoK sh o2) (by rw [k.1.2.1, es]) hs hfst (by omega) ?_
      simp only [aft]
      rw [← err]
      (obtain ⟨W9, hW9, hgo9⟩ := wp_ex (T_Tl_newMapping l G) [69] _; refine hgo9 200 _ _ _ _ ?_; simp -implicitDefEqProofs (disch := omega) only [hW9, inl, gate, Xq, tz_const, tz_iload, tz_lload, tz_dload, tz_aload, tz_istore, tz_astore, tz_lstore, tz_dstore, tz_iinc, tz_i1, tz_i2, tz_i2z, tz_l2, tz_l2z, tz_i2l, tz_l2i, tz_lcmp, tz_i2d, tz_d2, tz_dcmp, tz_dup, tz_dup2, tz_pop, tz_if, tz_icmp, tz_null, tz_goto, tz_sw, tz_getf, tz_puti, tz_putz, tz_putr, tz_putl, tz_iaload, tz_baload, tz_laload, tz_aaload, tz_iastore, tz_bastore, tz_lastore, tz_aastore, tz_alen, tz_new, tz_newa, tz_oinit, tz_iret, tz_zret, tz_lret, tz_dret, tz_aret, tz_vret, tz_throw, tz_callS, tz_callV, tz_callI, tz_callR, tz_pureS, tz_pureV, tz_callVH, lg, lset, lkill, lst1, lst2, entL, isRf, is1, vl, va_rf_none, va_rf_some, isRf_rf, is1_rf, i0, i1, bI_eq0, bI_eq1, nm_em, nI_eqP, nI_leP, nI_ltP, nN_e1, nN_e2, nN_l1, nN_l2, nN_l3, nN_l4, nI_add, pk_mul, vp_inN, nI_cl, n01, n10, P_i, P_ii, P_iii, f_Mo_at, f_Mo_map, f_Mo_contact, f_Mo_within, f_Mo_isPort, f_Hp_endpoint, f_Hp_nodeOf, f_Hp_portOf, f_Ma_max, f_Ma_min, f_Hp_isSetting, popN, rok, a1, noX, swc, mL, if_true, if_false, ↓reduceIte, cond_true, cond_false, true_and, and_true, List.length_cons, List.length_nil, List.nil_append, List.cons_append, List.append_nil, Option.toList, Nat.reduceEqDiff, Bool.false_eq_true, reduceCtorEq, Nat.reduceAdd, Nat.reduceLT, Nat.reduceLeDiff, Nat.reduceSub, List.replicate, Nat.zero_add, Nat.lt_add_one, Nat.le_refl, Nat.zero_le, Nat.succ_ne_zero, not_false_eq_true, not_true_eq_false, false_implies, true_implies, forall_const, imp_self, true_or, or_true, eq_self, sI_zw, zw_zw, hI_zw, tg_zw, ln_zw, hR_zw, hL_zw, hN_zw, hM_zw, upd_s, upd_u, upd_ne, Classical.not_not, k_Tl_newMapping, h1, tg_sL]; try clear hgo9 hW9)
      have frL : Fr wn 0 h (sL h t 8 (itr rnd (n + 1) (nI s)).toInt64) := Fr.ints hw rfl rfl rfl (fun b' hb' => ⟨rfl, rfl, hL_sLo (fun e => hb' (by rw [e]; exact rt_gh a5))⟩)
      refine stage2 (sL h t 8 (itr rnd (n + 1) (nI s)).toInt64) (k.zt sh rfl rfl (fun b' hb' => ⟨rfl, hL_sLo hb'⟩) ⟨⟨?_, ?_, ?_, ?_, ?_, ?_, ?_, ?_⟩, ?_, ?_⟩ ⟨fun e he => ?_, fun e he => ?_⟩ o2 hkn) (sh.congr rfl rfl) frL.2.2.2.2 frL (fun b' hb' hc => ⟨rfl, rfl, rfl, hL_sLo (fun e => hc (by rw [e]; exact ⟨4, [], a5, by omega⟩))⟩) _
      · rw [ez, upd_ne (by omega)]; exact k.1.1.1
      · rw [ez, upd_ne (by omega)]; exact k.1.1.2.1
      · rw [ez, upd_ne (by omega)]; exact k.1.1.2.2.1
      · rw [ez, upd_ne (by omega)]; exact k.1.1.2.2.2.1
      · rw [ez, upd_ne (by omega)]; exact k.1.1.2.2.2.2.1
      · rw [ez, upd_ne (by omega)]; exact k.1.1.2.2.2.2.2.1
      · rw [ez, upd_ne (by omega)]; exact k.1.1.2.2.2.2.2.2.1
      · rw [ez, upd_ne (by omega)]; exact k.1.1.2.2.2.2.2.2.2
      · rw [hL_sL, ez, upd_s]
      · exact hsz
      · rw [ez, upd_ne (by unfold mA; omega)]
      · rw [ez, upd_ne (by unfold cA; omega)]
end
