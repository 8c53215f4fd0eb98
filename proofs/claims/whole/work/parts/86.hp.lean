/-! THE CLASS: HolePuncher. A: 0 itself, 1 network, 2 saved, 3 trial, 4 reader, 5 its network, 6 its digits, 7 buffer -/
def FrX (c : Nat) (h h' : AH) : Prop := (hN h ≤ hN h' ∧ hN h' ≤ hN h + c ∧ hM h' + 12 * hN h ≤ hM h + 12 * hN h' ∧ hM h ≤ hM h') ∧ (∀ b, b < hN h → hT h' b = hT h b) ∧ (∀ b, b < hN h → rt h b = none → same1 h h' b) ∧ WF h'
theorem FrX.rf {h : AH} (k : WF h) : FrX 0 h h := ⟨⟨Nat.le_refl _, Nat.le_refl _, Nat.le_refl _, Nat.le_refl _⟩, fun _ _ => rfl, fun b _ _ => same1.rf h b, k⟩
theorem FrX.tr {c d : Nat} {h h' h'' : AH} (x : FrX c h h') (y : FrX d h' h'') : FrX (c + d) h h'' := by
  obtain ⟨⟨a1, a2, a3, a4⟩, b1, c1, -⟩ := x
  obtain ⟨⟨a5, a6, a7, a8⟩, b2, c2, w⟩ := y
  exact ⟨⟨by omega, by omega, by omega, by omega⟩, fun b hb => (b2 b (by omega)).trans (b1 b hb), fun b hb hr => (c1 b hb hr).tr (c2 b (by omega) (by rw [rt_eq (b1 b hb)]; exact hr)), w⟩
theorem FrX.mono {c d : Nat} {h h' : AH} (x : FrX c h h') (e : c ≤ d) : FrX d h h' := ⟨⟨x.1.1, by have := x.1.2.1; omega, x.1.2.2⟩, x.2⟩
theorem Fr.X {w c : Nat} {h h' : AH} (f : Fr w c h h') : FrX c h h' := ⟨f.1, f.2.1, fun b hb hr => f.2.2.1 b hb (by rw [hr]; intro e; cases e), f.2.2.2.2⟩
theorem nx_X {h : AH} (k : WF h) : FrX 1 h (nx h) := ⟨⟨by show hN h ≤ hN h + 1; omega, Nat.le_refl _, by show hM h + 6 + 12 * hN h ≤ hM h + 12 * (hN h + 1); omega, by show hM h ≤ hM h + 6; omega⟩, fun _ _ => rfl, fun b _ _ => ⟨rfl, rfl, rfl, rfl⟩, fun b hb => k b (by have hb' : hN h + 1 ≤ b := hb; omega)⟩
def HpA (h : AH) (A : Nat → Nat) : Prop := (tg h (A 0) = 6 ∧ gh h (A 0) = [0]) ∧ (hR h (A 0) 0 = some (A 1) ∧ hR h (A 0) 1 = some (A 2) ∧ hR h (A 0) 2 = some (A 3) ∧ hR h (A 0) 3 = some (A 4) ∧ hR h (A 0) 4 = some (A 7)) ∧ (tg h (A 7) = 8 ∧ ln h (A 7) = 40 ∧ gh h (A 7) = [0]) ∧ (tg h (A 4) = 2 ∧ gh h (A 4) = [0] ∧ hR h (A 4) 0 = some (A 5) ∧ hR h (A 4) 1 = some (A 6)) ∧ (tg h (A 6) = 8 ∧ ln h (A 6) = 3 ∧ gh h (A 6) = [0]) ∧ (∀ i j, 1 ≤ i → i ≤ 5 → i ≠ 4 → 1 ≤ j → j ≤ 5 → j ≠ 4 → i ≠ j → A i ≠ A j) ∧ (∀ i, 1 ≤ i → i ≤ 5 → i ≠ 4 → A i ≠ 0) ∧ WF h
/-- the class holds z, and zs if something is saved, and the n characters t -/
def HpR (h : AH) (A : Nat → Nat) (z zs t : Nat → Int32) (n : Nat) : Prop := HpA h A ∧ NwR h (A 1) z ∧ ShN h (A 2) ∧ (hI h (A 0) 6 = nI 1 → NwR h (A 2) zs) ∧ (hI h (A 0) 6 = nI 0 ∨ hI h (A 0) 6 = nI 1) ∧ ShN h (A 3) ∧ ShN h (A 5) ∧ hI h (A 0) 5 = nI n ∧ n ≤ 40 ∧ ∀ k, k < n → hI h (A 7) k = t k
section
variable {h h' : AH} {A : Nat → Nat} {z zs t : Nat → Int32} {n : Nat}
/-- the class's own cells, when a network has changed -/
theorem HpA.own {w c : Nat} (k : HpA h A) (f : Fr w c h h') (w0 : w ≠ 0) : HpA h' A ∧ hI h' (A 0) = hI h (A 0) ∧ hI h' (A 7) = hI h (A 7) ∧ hI h' (A 4) = hI h (A 4) ∧ hI h' (A 6) = hI h (A 6) := by
  obtain ⟨⟨a1, a2⟩, b, ⟨c1, c2, c3⟩, ⟨d1, d2, d3, d4⟩, ⟨e1, e2, e3⟩, g, g0, hw⟩ := k
  have s0 := f.oth (fun q => w0 q.symm) (hw.lt (show tg h (A 0) ≠ 99 by rw [a1]; decide)) (rt_gh a2)
  have s7 := f.oth (fun q => w0 q.symm) (hw.lt (show tg h (A 7) ≠ 99 by rw [c1]; decide)) (rt_gh c3)
  have s4 := f.oth (fun q => w0 q.symm) (hw.lt (show tg h (A 4) ≠ 99 by rw [d1]; decide)) (rt_gh d2)
  have s6 := f.oth (fun q => w0 q.symm) (hw.lt (show tg h (A 6) ≠ 99 by rw [e1]; decide)) (rt_gh e3)
  refine ⟨⟨⟨s0.tg.trans a1, s0.gh.trans a2⟩, by rw [s0.2.2.1]; exact b, ⟨s7.tg.trans c1, s7.ln.trans c2, s7.gh.trans c3⟩, ⟨s4.tg.trans d1, s4.gh.trans d2, by rw [s4.2.2.1]; exact d3, by rw [s4.2.2.1]; exact d4⟩, ⟨s6.tg.trans e1, s6.ln.trans e2, s6.gh.trans e3⟩, g, g0, f.2.2.2.2⟩, s0.2.1, s7.2.1, s4.2.1, s6.2.1⟩
/-- the network has changed -/
theorem HpR.net {c : Nat} {z' : Nat → Int32} (k : HpR h A z zs t n) (is : hI h (A 0) 6 = nI 1 → Inv zs) (f : Fr (A 1) c h h') (k' : NwR h' (A 1) z') : HpR h' A z' zs t n := by
  obtain ⟨a, k1, k2, k3, k4, k5, k6, k7, k8, k9⟩ := k
  obtain ⟨a', e0, e7, -, -⟩ := a.own f (a.2.2.2.2.2.2.1 1 (by omega) (by omega) (by omega))
  have hw := a.2.2.2.2.2.2.2
  have g := a.2.2.2.2.2.1
  refine ⟨a', k', k2.frame hw f (g 2 1 (by omega) (by omega) (by omega) (by omega) (by omega) (by omega) (by omega)), fun q => ?_, by rw [e0]; exact k4, k5.frame hw f (g 3 1 (by omega) (by omega) (by omega) (by omega) (by omega) (by omega) (by omega)), k6.frame hw f (g 5 1 (by omega) (by omega) (by omega) (by omega) (by omega) (by omega) (by omega)), by rw [e0]; exact k7, k8, fun q hq => by rw [e7]; exact k9 q hq⟩
  rw [e0] at q
  exact (k3 q).frame hw (is q).1 f (g 2 1 (by omega) (by omega) (by omega) (by omega) (by omega) (by omega) (by omega))
/-- the trial network has changed -/
theorem HpR.tri {c : Nat} (k : HpR h A z zs t n) (iv : Inv z) (is : hI h (A 0) 6 = nI 1 → Inv zs) (f : Fr (A 3) c h h') (k' : ShN h' (A 3)) : HpR h' A z zs t n := by
  obtain ⟨a, k1, k2, k3, k4, k5, k6, k7, k8, k9⟩ := k
  obtain ⟨a', e0, e7, -, -⟩ := a.own f (a.2.2.2.2.2.2.1 3 (by omega) (by omega) (by omega))
  have hw := a.2.2.2.2.2.2.2
  have g := a.2.2.2.2.2.1
  refine ⟨a', k1.frame hw iv.1 f (g 1 3 (by omega) (by omega) (by omega) (by omega) (by omega) (by omega) (by omega)), k2.frame hw f (g 2 3 (by omega) (by omega) (by omega) (by omega) (by omega) (by omega) (by omega)), fun q => ?_, by rw [e0]; exact k4, k', k6.frame hw f (g 5 3 (by omega) (by omega) (by omega) (by omega) (by omega) (by omega) (by omega)), by rw [e0]; exact k7, k8, fun q hq => by rw [e7]; exact k9 q hq⟩
  rw [e0] at q
  exact (k3 q).frame hw (is q).1 f (g 2 3 (by omega) (by omega) (by omega) (by omega) (by omega) (by omega) (by omega))
/-- numbers of cells of the class itself -/
theorem HpR.own0 {f : Nat → Int32} {n' : Nat} {t' zs' : Nat → Int32} {b : Nat} (k : HpR h A z zs t n) (iv : Inv z) (hb : b = A 0 ∨ b = A 7) (is : hI (zw h b f) (A 0) 6 = nI 1 → NwR h (A 2) zs' ∧ Inv zs') (h6 : hI (zw h b f) (A 0) 6 = nI 0 ∨ hI (zw h b f) (A 0) 6 = nI 1) (h5 : hI (zw h b f) (A 0) 5 = nI n') (hn : n' ≤ 40) (ht : ∀ k, k < n' → hI (zw h b f) (A 7) k = t' k) : HpR (zw h b f) A z zs' t' n' ∧ FrX 0 h (zw h b f) := by
  obtain ⟨a, k1, k2, k3, k4, k5, k6, k7, k8, k9⟩ := k
  have hw := a.2.2.2.2.2.2.2
  have g0 := a.2.2.2.2.2.2.1
  have rb : rt h b = some 0 := by
    rcases hb with q | q
    · rw [q]; exact rt_gh a.1.2
    · rw [q]; exact rt_gh a.2.2.1.2.2
  have fz : Fr 0 0 h (zw h b f) := Fr.zw hw rb
  exact ⟨⟨a, k1.frame hw iv.1 fz (g0 1 (by omega) (by omega) (by omega)), k2.congr rfl rfl, fun q => (is q).1.frame hw (is q).2.1 fz (g0 2 (by omega) (by omega) (by omega)), h6, k5.congr rfl rfl, k6.congr rfl rfl, h5, hn, ht⟩, fz.X⟩
theorem HpR.ne07 (k : HpA h A) : A 0 ≠ A 7 := ne_tg (by rw [k.1.1, k.2.2.1.1]; decide)
end
def k_Hp_begin (l : Launch) (G : Gc) (pc : Nat) : Tr :=
  if pc < 12 then
   if pc < 7 then
    if pc < 1 then
     if pc = 0 then tz_aload 1 0 else dead
    else
     if pc < 4 then
      if pc = 1 then tz_getf 4 6 0 1 else dead
     else
      if pc = 4 then tz_getf 7 1 2 0 else dead
   else
    if pc < 8 then
     if pc = 7 then tz_istore 8 1 else dead
    else
     if pc < 9 then
      if pc = 8 then tz_aload 9 0 else dead
     else
      if pc = 9 then tz_getf 12 6 0 1 else dead
  else
   if pc < 17 then
    if pc < 15 then
     if pc = 12 then tz_callV l G 15 M_Nw_reset 0 1 else dead
    else
     if pc < 16 then
      if pc = 15 then tz_aload 16 0 else dead
     else
      if pc = 16 then tz_const 17 (.int (nI 0)) else dead
   else
    if pc < 20 then
     if pc = 17 then tz_putz 20 6 6 else dead
    else
     if pc < 21 then
      if pc = 20 then tz_iload 21 1 else dead
     else
      if pc = 21 then tz_iret else dead
set_option maxRecDepth 100000 in
theorem T_Hp_begin (l : Launch) (G : Gc) : TabOK l G M_Hp_begin (k_Hp_begin l G) := by
  intro pc
  unfold k_Hp_begin
  exact
   (sd_br
    (sd_br
     (sd_br
      (sd_lf (sd_aload_n (k := 0) (by decide +kernel : decode prog_1_method_2_code 0 = .ok (.aload_n 0, 1))))
      (sd_br
       (sd_lf (sd_getf (q := (RX6, TX6, 7)) (by decide +kernel : decode prog_1_method_2_code 1 = .ok (.getfield 12, 3)) rfl (by decide +kernel) (gm 154 (by decide +kernel) rfl)))
       (sd_lf (sd_getf (q := (RX1, TX1, 6)) (by decide +kernel : decode prog_1_method_2_code 4 = .ok (.getfield 41, 3)) rfl (by decide +kernel) (gm 107 (by decide +kernel) rfl)))))
     (sd_br
      (sd_lf (sd_istore_n (k := 1) (by decide +kernel : decode prog_1_method_2_code 7 = .ok (.istore_n 1, 1))))
      (sd_br
       (sd_lf (sd_aload_n (k := 0) (by decide +kernel : decode prog_1_method_2_code 8 = .ok (.aload_n 0, 1))))
       (sd_lf (sd_getf (q := (RX6, TX6, 7)) (by decide +kernel : decode prog_1_method_2_code 9 = .ok (.getfield 12, 3)) rfl (by decide +kernel) (gm 154 (by decide +kernel) rfl))))))
    (sd_br
     (sd_br
      (sd_lf (sd_callV (q := (RX1, TX1, 6)) (by decide +kernel : decode prog_1_method_2_code 12 = .ok (.invokevirtual 44, 3)) ok_Nw_reset (gm 180 (by decide +kernel) rfl) (gm 181 (by decide +kernel) rfl) (gm 182 (by decide +kernel) rfl) rfl rfl (by decide +kernel) rfl rfl))
      (sd_br
       (sd_lf (sd_aload_n (k := 0) (by decide +kernel : decode prog_1_method_2_code 15 = .ok (.aload_n 0, 1))))
       (sd_lf (sd_iconst (by decide +kernel : decode prog_1_method_2_code 16 = .ok (.iconst 0, 1)) (by decide +kernel)))))
     (sd_br
      (sd_lf (sd_putz (q := (RX6, TX6, 7)) (by decide +kernel : decode prog_1_method_2_code 17 = .ok (.putfield 37, 3)) rfl (by decide +kernel) (gm 160 (by decide +kernel) rfl) rfl rfl (Or.inl rfl)))
      (sd_br
       (sd_lf (sd_iload_n (k := 1) (by decide +kernel : decode prog_1_method_2_code 20 = .ok (.iload_n 1, 1))))
       (sd_lf (sd_iret (by decide +kernel : decode prog_1_method_2_code 21 = .ok (.ireturn, 1)) rfl))))))
def k_Hp_checkNet (l : Launch) (G : Gc) (pc : Nat) : Tr :=
  if pc < 9 then
   if pc < 2 then
    if pc < 1 then
     if pc = 0 then tz_iload 1 1 else dead
    else
     if pc = 1 then tz_const 2 (.int (nN)) else dead
   else
    if pc < 5 then
     if pc = 2 then tz_icmp 5 27 (fun a b => a = b) else dead
    else
     if pc < 6 then
      if pc = 5 then tz_aload 6 0 else dead
     else
      if pc = 6 then tz_getf 9 6 0 1 else dead
  else
   if pc < 13 then
    if pc < 10 then
     if pc = 9 then tz_iload 10 1 else dead
    else
     if pc = 10 then tz_pureV 13 1 1 P_Nw_translatorAt f_Nw_translatorAt else dead
   else
    if pc < 16 then
     if pc = 13 then tz_null 16 27 else dead
    else
     if pc < 27 then
      if pc = 16 then tz_throw "java/lang/IndexOutOfBoundsException" else dead
     else
      if pc = 27 then tz_vret else dead
set_option maxRecDepth 100000 in
theorem T_Hp_checkNet (l : Launch) (G : Gc) : TabOK l G M_Hp_checkNet (k_Hp_checkNet l G) := by
  intro pc
  unfold k_Hp_checkNet
  exact
   (sd_br
    (sd_br
     (sd_br
      (sd_lf (sd_iload_n (k := 1) (by decide +kernel : decode prog_1_method_34_code 0 = .ok (.iload_n 1, 1))))
      (sd_lf (sd_iconst (by decide +kernel : decode prog_1_method_34_code 1 = .ok (.iconst (-1), 1)) (by decide +kernel))))
     (sd_br
      (sd_lf (sd_icmp_eq (by decide +kernel : decode prog_1_method_34_code 2 = .ok (.if_icmp .eq 25, 3)) (by decide +kernel)))
      (sd_br
       (sd_lf (sd_aload_n (k := 0) (by decide +kernel : decode prog_1_method_34_code 5 = .ok (.aload_n 0, 1))))
       (sd_lf (sd_getf (q := (RX6, TX6, 7)) (by decide +kernel : decode prog_1_method_34_code 6 = .ok (.getfield 12, 3)) rfl (by decide +kernel) (gm 154 (by decide +kernel) rfl))))))
    (sd_br
     (sd_br
      (sd_lf (sd_iload_n (k := 1) (by decide +kernel : decode prog_1_method_34_code 9 = .ok (.iload_n 1, 1))))
      (sd_lf (sd_pureV (sd_callV (q := (RX1, TX1, 6)) (by decide +kernel : decode prog_1_method_34_code 10 = .ok (.invokevirtual 79, 3)) ok_Nw_translatorAt (gm 454 (by decide +kernel) rfl) (gm 429 (by decide +kernel) rfl) (gm 430 (by decide +kernel) rfl) rfl rfl (by decide +kernel) rfl rfl) c_Nw_translatorAt)))
     (sd_br
      (sd_lf (sd_ifnonnull (by decide +kernel : decode prog_1_method_34_code 13 = .ok (.ifnonnull 14, 3)) (by decide +kernel)))
      (sd_br
       (sd_lf (sd_throwSW (text := "net is neither NONE nor a translator") (by decide +kernel) (by decide +kernel) (gm 494 (by decide +kernel) rfl) (gm 80 (by decide +kernel) rfl) (List.mem_of_getElem? (i := 463) (by decide +kernel)) thA_IOE thG_IOE (by decide +kernel : decode prog_1_method_34_code 16 = .ok (.new 83, 3)) (by decide +kernel : decode prog_1_method_34_code 19 = .ok (.dup, 1)) (by decide +kernel : decode prog_1_method_34_code 20 = .ok (.ldc_w 288, 3)) (by decide +kernel : decode prog_1_method_34_code 23 = .ok (.invokespecial 87, 3)) (by decide +kernel : decode prog_1_method_34_code 26 = .ok (.athrow, 1)) rfl (by decide +kernel) (by decide +kernel)))
       (sd_lf (sd_vret (by decide +kernel : decode prog_1_method_34_code 27 = .ok (.return_, 1)) rfl))))))
def k_Hp_addHost (l : Launch) (G : Gc) (pc : Nat) : Tr :=
  if pc < 12 then
   if pc < 5 then
    if pc < 1 then
     if pc = 0 then tz_aload 1 0 else dead
    else
     if pc < 2 then
      if pc = 1 then tz_iload 2 1 else dead
     else
      if pc = 2 then tz_callV l G 5 M_Hp_checkNet 1 6 else dead
   else
    if pc < 6 then
     if pc = 5 then tz_aload 6 0 else dead
    else
     if pc < 9 then
      if pc = 6 then tz_getf 9 6 0 1 else dead
     else
      if pc = 9 then tz_pureV 12 0 1 P_Nw_isFull f_Nw_isFull else dead
  else
   if pc < 26 then
    if pc < 15 then
     if pc = 12 then tz_if 15 25 (fun a => a = 0) else dead
    else
     if pc < 25 then
      if pc = 15 then tz_throw "java/lang/IllegalStateException" else dead
     else
      if pc = 25 then tz_aload 26 0 else dead
   else
    if pc < 30 then
     if pc < 29 then
      if pc = 26 then tz_getf 29 6 0 1 else dead
     else
      if pc = 29 then tz_iload 30 1 else dead
    else
     if pc < 33 then
      if pc = 30 then tz_callV l G 33 M_Nw_newHost 1 1 else dead
     else
      if pc = 33 then tz_iret else dead
set_option maxRecDepth 100000 in
theorem T_Hp_addHost (l : Launch) (G : Gc) : TabOK l G M_Hp_addHost (k_Hp_addHost l G) := by
  intro pc
  unfold k_Hp_addHost
  exact
   (sd_br
    (sd_br
     (sd_br
      (sd_lf (sd_aload_n (k := 0) (by decide +kernel : decode prog_1_method_3_code 0 = .ok (.aload_n 0, 1))))
      (sd_br
       (sd_lf (sd_iload_n (k := 1) (by decide +kernel : decode prog_1_method_3_code 1 = .ok (.iload_n 1, 1))))
       (sd_lf (sd_callV (q := (RX6, TX6, 7)) (by decide +kernel : decode prog_1_method_3_code 2 = .ok (.invokevirtual 47, 3)) ok_Hp_checkNet (gm 490 (by decide +kernel) rfl) (gm 492 (by decide +kernel) rfl) (gm 14 (by decide +kernel) rfl) rfl rfl (by decide +kernel) rfl rfl))))
     (sd_br
      (sd_lf (sd_aload_n (k := 0) (by decide +kernel : decode prog_1_method_3_code 5 = .ok (.aload_n 0, 1))))
      (sd_br
       (sd_lf (sd_getf (q := (RX6, TX6, 7)) (by decide +kernel : decode prog_1_method_3_code 6 = .ok (.getfield 12, 3)) rfl (by decide +kernel) (gm 154 (by decide +kernel) rfl)))
       (sd_lf (sd_pureV (sd_callV (q := (RX1, TX1, 6)) (by decide +kernel : decode prog_1_method_3_code 9 = .ok (.invokevirtual 51, 3)) ok_Nw_isFull (gm 562 (by decide +kernel) rfl) (gm 365 (by decide +kernel) rfl) (gm 366 (by decide +kernel) rfl) rfl rfl (by decide +kernel) rfl rfl) c_Nw_isFull)))))
    (sd_br
     (sd_br
      (sd_lf (sd_if_eq (by decide +kernel : decode prog_1_method_3_code 12 = .ok (.ifCond .eq 13, 3)) (by decide +kernel)))
      (sd_br
       (sd_lf (sd_throwS (text := "there are 10 nodes") (by decide +kernel) (by decide +kernel) (gm 563 (by decide +kernel) rfl) (gm 81 (by decide +kernel) rfl) (List.mem_of_getElem? (i := 500) (by decide +kernel)) thA_ISE thG_ISE (by decide +kernel : decode prog_1_method_3_code 15 = .ok (.new 55, 3)) (by decide +kernel : decode prog_1_method_3_code 18 = .ok (.dup, 1)) (by decide +kernel : decode prog_1_method_3_code 19 = .ok (.ldc 57, 2)) (by decide +kernel : decode prog_1_method_3_code 21 = .ok (.invokespecial 59, 3)) (by decide +kernel : decode prog_1_method_3_code 24 = .ok (.athrow, 1)) rfl (by decide +kernel) (by decide +kernel)))
       (sd_lf (sd_aload_n (k := 0) (by decide +kernel : decode prog_1_method_3_code 25 = .ok (.aload_n 0, 1))))))
     (sd_br
      (sd_br
       (sd_lf (sd_getf (q := (RX6, TX6, 7)) (by decide +kernel : decode prog_1_method_3_code 26 = .ok (.getfield 12, 3)) rfl (by decide +kernel) (gm 154 (by decide +kernel) rfl)))
       (sd_lf (sd_iload_n (k := 1) (by decide +kernel : decode prog_1_method_3_code 29 = .ok (.iload_n 1, 1)))))
      (sd_br
       (sd_lf (sd_callV (q := (RX1, TX1, 6)) (by decide +kernel : decode prog_1_method_3_code 30 = .ok (.invokevirtual 62, 3)) ok_Nw_newHost (gm 579 (by decide +kernel) rfl) (gm 360 (by decide +kernel) rfl) (gm 361 (by decide +kernel) rfl) rfl rfl (by decide +kernel) rfl rfl))
       (sd_lf (sd_iret (by decide +kernel : decode prog_1_method_3_code 33 = .ok (.ireturn, 1)) rfl))))))
def k_Hp_addTranslator (l : Launch) (G : Gc) (pc : Nat) : Tr :=
  if pc < 27 then
   if pc < 14 then
    if pc < 6 then
     if pc < 2 then
      if pc < 1 then
       if pc = 0 then tz_aload 1 0 else dead
      else
       if pc = 1 then tz_iload 2 1 else dead
     else
      if pc < 5 then
       if pc = 2 then tz_callV l G 5 M_Hp_checkNet 1 6 else dead
      else
       if pc = 5 then tz_iload 6 2 else dead
    else
     if pc < 8 then
      if pc < 7 then
       if pc = 6 then tz_const 7 (.int (nI 0)) else dead
      else
       if pc = 7 then tz_const 8 (.int (nI 2)) else dead
     else
      if pc < 11 then
       if pc = 8 then tz_pureS 11 3 P_Hp_isWithin f_Hp_isWithin else dead
      else
       if pc = 11 then tz_if 14 33 (fun a => a = 0) else dead
   else
    if pc < 20 then
     if pc < 16 then
      if pc < 15 then
       if pc = 14 then tz_iload 15 3 else dead
      else
       if pc = 15 then tz_const 16 (.int (nI 0)) else dead
     else
      if pc < 17 then
       if pc = 16 then tz_const 17 (.int (nI 2)) else dead
      else
       if pc = 17 then tz_pureS 20 3 P_Hp_isWithin f_Hp_isWithin else dead
    else
     if pc < 25 then
      if pc < 23 then
       if pc = 20 then tz_if 23 33 (fun a => a = 0) else dead
      else
       if pc = 23 then tz_iload 25 4 else dead
     else
      if pc < 26 then
       if pc = 25 then tz_const 26 (.int (nI 0)) else dead
      else
       if pc = 26 then tz_const 27 (.int (nI 2)) else dead
  else
   if pc < 63 then
    if pc < 44 then
     if pc < 33 then
      if pc < 30 then
       if pc = 27 then tz_pureS 30 3 P_Hp_isWithin f_Hp_isWithin else dead
      else
       if pc = 30 then tz_if 33 43 (fun a => ¬ a = 0) else dead
     else
      if pc < 43 then
       if pc = 33 then tz_throw "java/lang/IllegalArgumentException" else dead
      else
       if pc = 43 then tz_aload 44 0 else dead
    else
     if pc < 50 then
      if pc < 47 then
       if pc = 44 then tz_getf 47 6 0 1 else dead
      else
       if pc = 47 then tz_pureV 50 0 1 P_Nw_isFull f_Nw_isFull else dead
     else
      if pc < 53 then
       if pc = 50 then tz_if 53 63 (fun a => a = 0) else dead
      else
       if pc = 53 then tz_throw "java/lang/IllegalStateException" else dead
   else
    if pc < 69 then
     if pc < 67 then
      if pc < 64 then
       if pc = 63 then tz_aload 64 0 else dead
      else
       if pc = 64 then tz_getf 67 6 0 1 else dead
     else
      if pc < 68 then
       if pc = 67 then tz_iload 68 1 else dead
      else
       if pc = 68 then tz_iload 69 2 else dead
    else
     if pc < 72 then
      if pc < 70 then
       if pc = 69 then tz_iload 70 3 else dead
      else
       if pc = 70 then tz_iload 72 4 else dead
     else
      if pc < 75 then
       if pc = 72 then tz_callV l G 75 M_Nw_newTranslator 4 1 else dead
      else
       if pc = 75 then tz_iret else dead
set_option maxRecDepth 100000 in
theorem T_Hp_addTranslator (l : Launch) (G : Gc) : TabOK l G M_Hp_addTranslator (k_Hp_addTranslator l G) := by
  intro pc
  unfold k_Hp_addTranslator
  exact
   (sd_br
    (sd_br
     (sd_br
      (sd_br
       (sd_br
        (sd_lf (sd_aload_n (k := 0) (by decide +kernel : decode prog_1_method_4_code 0 = .ok (.aload_n 0, 1))))
        (sd_lf (sd_iload_n (k := 1) (by decide +kernel : decode prog_1_method_4_code 1 = .ok (.iload_n 1, 1)))))
       (sd_br
        (sd_lf (sd_callV (q := (RX6, TX6, 7)) (by decide +kernel : decode prog_1_method_4_code 2 = .ok (.invokevirtual 47, 3)) ok_Hp_checkNet (gm 490 (by decide +kernel) rfl) (gm 492 (by decide +kernel) rfl) (gm 14 (by decide +kernel) rfl) rfl rfl (by decide +kernel) rfl rfl))
        (sd_lf (sd_iload_n (k := 2) (by decide +kernel : decode prog_1_method_4_code 5 = .ok (.iload_n 2, 1))))))
      (sd_br
       (sd_br
        (sd_lf (sd_iconst (by decide +kernel : decode prog_1_method_4_code 6 = .ok (.iconst 0, 1)) (by decide +kernel)))
        (sd_lf (sd_iconst (by decide +kernel : decode prog_1_method_4_code 7 = .ok (.iconst 2, 1)) (by decide +kernel))))
       (sd_br
        (sd_lf (sd_pureS (sd_callS (by decide +kernel : decode prog_1_method_4_code 8 = .ok (.invokestatic 66, 3)) ok_Hp_isWithin (gm 588 (by decide +kernel) rfl) (gm 589 (by decide +kernel) rfl) (by decide +kernel) rfl rfl) c_Hp_isWithin))
        (sd_lf (sd_if_eq (by decide +kernel : decode prog_1_method_4_code 11 = .ok (.ifCond .eq 22, 3)) (by decide +kernel))))))
     (sd_br
      (sd_br
       (sd_br
        (sd_lf (sd_iload_n (k := 3) (by decide +kernel : decode prog_1_method_4_code 14 = .ok (.iload_n 3, 1))))
        (sd_lf (sd_iconst (by decide +kernel : decode prog_1_method_4_code 15 = .ok (.iconst 0, 1)) (by decide +kernel))))
       (sd_br
        (sd_lf (sd_iconst (by decide +kernel : decode prog_1_method_4_code 16 = .ok (.iconst 2, 1)) (by decide +kernel)))
        (sd_lf (sd_pureS (sd_callS (by decide +kernel : decode prog_1_method_4_code 17 = .ok (.invokestatic 66, 3)) ok_Hp_isWithin (gm 588 (by decide +kernel) rfl) (gm 589 (by decide +kernel) rfl) (by decide +kernel) rfl rfl) c_Hp_isWithin))))
      (sd_br
       (sd_br
        (sd_lf (sd_if_eq (by decide +kernel : decode prog_1_method_4_code 20 = .ok (.ifCond .eq 13, 3)) (by decide +kernel)))
        (sd_lf (sd_iload (by decide +kernel : decode prog_1_method_4_code 23 = .ok (.iload 4, 2)))))
       (sd_br
        (sd_lf (sd_iconst (by decide +kernel : decode prog_1_method_4_code 25 = .ok (.iconst 0, 1)) (by decide +kernel)))
        (sd_lf (sd_iconst (by decide +kernel : decode prog_1_method_4_code 26 = .ok (.iconst 2, 1)) (by decide +kernel)))))))
    (sd_br
     (sd_br
      (sd_br
       (sd_br
        (sd_lf (sd_pureS (sd_callS (by decide +kernel : decode prog_1_method_4_code 27 = .ok (.invokestatic 66, 3)) ok_Hp_isWithin (gm 588 (by decide +kernel) rfl) (gm 589 (by decide +kernel) rfl) (by decide +kernel) rfl rfl) c_Hp_isWithin))
        (sd_lf (sd_if_ne (by decide +kernel : decode prog_1_method_4_code 30 = .ok (.ifCond .ne 13, 3)) (by decide +kernel))))
       (sd_br
        (sd_lf (sd_throwS (text := "a rule or the assignment is not 0 to 2") (by decide +kernel) (by decide +kernel) (gm 591 (by decide +kernel) rfl) (gm 83 (by decide +kernel) rfl) (List.mem_of_getElem? (i := 528) (by decide +kernel)) thA_IAE thG_IAE (by decide +kernel : decode prog_1_method_4_code 33 = .ok (.new 70, 3)) (by decide +kernel : decode prog_1_method_4_code 36 = .ok (.dup, 1)) (by decide +kernel : decode prog_1_method_4_code 37 = .ok (.ldc 72, 2)) (by decide +kernel : decode prog_1_method_4_code 39 = .ok (.invokespecial 74, 3)) (by decide +kernel : decode prog_1_method_4_code 42 = .ok (.athrow, 1)) rfl (by decide +kernel) (by decide +kernel)))
        (sd_lf (sd_aload_n (k := 0) (by decide +kernel : decode prog_1_method_4_code 43 = .ok (.aload_n 0, 1))))))
      (sd_br
       (sd_br
        (sd_lf (sd_getf (q := (RX6, TX6, 7)) (by decide +kernel : decode prog_1_method_4_code 44 = .ok (.getfield 12, 3)) rfl (by decide +kernel) (gm 154 (by decide +kernel) rfl)))
        (sd_lf (sd_pureV (sd_callV (q := (RX1, TX1, 6)) (by decide +kernel : decode prog_1_method_4_code 47 = .ok (.invokevirtual 51, 3)) ok_Nw_isFull (gm 562 (by decide +kernel) rfl) (gm 365 (by decide +kernel) rfl) (gm 366 (by decide +kernel) rfl) rfl rfl (by decide +kernel) rfl rfl) c_Nw_isFull)))
       (sd_br
        (sd_lf (sd_if_eq (by decide +kernel : decode prog_1_method_4_code 50 = .ok (.ifCond .eq 13, 3)) (by decide +kernel)))
        (sd_lf (sd_throwS (text := "there are 10 nodes") (by decide +kernel) (by decide +kernel) (gm 563 (by decide +kernel) rfl) (gm 81 (by decide +kernel) rfl) (List.mem_of_getElem? (i := 500) (by decide +kernel)) thA_ISE thG_ISE (by decide +kernel : decode prog_1_method_4_code 53 = .ok (.new 55, 3)) (by decide +kernel : decode prog_1_method_4_code 56 = .ok (.dup, 1)) (by decide +kernel : decode prog_1_method_4_code 57 = .ok (.ldc 57, 2)) (by decide +kernel : decode prog_1_method_4_code 59 = .ok (.invokespecial 59, 3)) (by decide +kernel : decode prog_1_method_4_code 62 = .ok (.athrow, 1)) rfl (by decide +kernel) (by decide +kernel))))))
     (sd_br
      (sd_br
       (sd_br
        (sd_lf (sd_aload_n (k := 0) (by decide +kernel : decode prog_1_method_4_code 63 = .ok (.aload_n 0, 1))))
        (sd_lf (sd_getf (q := (RX6, TX6, 7)) (by decide +kernel : decode prog_1_method_4_code 64 = .ok (.getfield 12, 3)) rfl (by decide +kernel) (gm 154 (by decide +kernel) rfl))))
       (sd_br
        (sd_lf (sd_iload_n (k := 1) (by decide +kernel : decode prog_1_method_4_code 67 = .ok (.iload_n 1, 1))))
        (sd_lf (sd_iload_n (k := 2) (by decide +kernel : decode prog_1_method_4_code 68 = .ok (.iload_n 2, 1))))))
      (sd_br
       (sd_br
        (sd_lf (sd_iload_n (k := 3) (by decide +kernel : decode prog_1_method_4_code 69 = .ok (.iload_n 3, 1))))
        (sd_lf (sd_iload (by decide +kernel : decode prog_1_method_4_code 70 = .ok (.iload 4, 2)))))
       (sd_br
        (sd_lf (sd_callV (q := (RX1, TX1, 6)) (by decide +kernel : decode prog_1_method_4_code 72 = .ok (.invokevirtual 75, 3)) ok_Nw_newTranslator (gm 607 (by decide +kernel) rfl) (gm 385 (by decide +kernel) rfl) (gm 386 (by decide +kernel) rfl) rfl rfl (by decide +kernel) rfl rfl))
        (sd_lf (sd_iret (by decide +kernel : decode prog_1_method_4_code 75 = .ok (.ireturn, 1)) rfl)))))))
def k_Hp_pass (l : Launch) (G : Gc) (pc : Nat) : Tr :=
  if pc < 28 then
   if pc < 8 then
    if pc < 2 then
     if pc < 1 then
      if pc = 0 then tz_iload 1 1 else dead
     else
      if pc = 1 then tz_const 2 (.int (nI 1)) else dead
    else
     if pc < 5 then
      if pc = 2 then tz_const 5 (.int (nI 1000)) else dead
     else
      if pc = 5 then tz_pureS 8 3 P_Hp_isWithin f_Hp_isWithin else dead
   else
    if pc < 21 then
     if pc < 11 then
      if pc = 8 then tz_if 11 21 (fun a => ¬ a = 0) else dead
     else
      if pc = 11 then tz_throw "java/lang/IllegalArgumentException" else dead
    else
     if pc < 22 then
      if pc = 21 then tz_aload 22 0 else dead
     else
      if pc < 25 then
       if pc = 22 then tz_getf 25 6 0 1 else dead
      else
       if pc = 25 then tz_getf 28 1 3 0 else dead
  else
   if pc < 45 then
    if pc < 30 then
     if pc < 29 then
      if pc = 28 then tz_iload 29 1 else dead
     else
      if pc = 29 then tz_i2 30 (fun a b => a + b) else dead
    else
     if pc < 32 then
      if pc = 30 then tz_const 32 (.int (nI 100000)) else dead
     else
      if pc < 35 then
       if pc = 32 then tz_icmp 35 45 (fun a b => a ≤ b) else dead
      else
       if pc = 35 then tz_throw "java/lang/IllegalStateException" else dead
   else
    if pc < 49 then
     if pc < 46 then
      if pc = 45 then tz_aload 46 0 else dead
     else
      if pc = 46 then tz_getf 49 6 0 1 else dead
    else
     if pc < 50 then
      if pc = 49 then tz_iload 50 1 else dead
     else
      if pc < 53 then
       if pc = 50 then tz_callV l G 53 M_Nw_advance 1 1 else dead
      else
       if pc = 53 then tz_iret else dead
set_option maxRecDepth 100000 in
theorem T_Hp_pass (l : Launch) (G : Gc) : TabOK l G M_Hp_pass (k_Hp_pass l G) := by
  intro pc
  unfold k_Hp_pass
  exact
   (sd_br
    (sd_br
     (sd_br
      (sd_br
       (sd_lf (sd_iload_n (k := 1) (by decide +kernel : decode prog_1_method_6_code 0 = .ok (.iload_n 1, 1))))
       (sd_lf (sd_iconst (by decide +kernel : decode prog_1_method_6_code 1 = .ok (.iconst 1, 1)) (by decide +kernel))))
      (sd_br
       (sd_lf (sd_sipush (by decide +kernel : decode prog_1_method_6_code 2 = .ok (.sipush 1000, 3)) (by decide +kernel)))
       (sd_lf (sd_pureS (sd_callS (by decide +kernel : decode prog_1_method_6_code 5 = .ok (.invokestatic 66, 3)) ok_Hp_isWithin (gm 588 (by decide +kernel) rfl) (gm 589 (by decide +kernel) rfl) (by decide +kernel) rfl rfl) c_Hp_isWithin))))
     (sd_br
      (sd_br
       (sd_lf (sd_if_ne (by decide +kernel : decode prog_1_method_6_code 8 = .ok (.ifCond .ne 13, 3)) (by decide +kernel)))
       (sd_lf (sd_throwS (text := "ticks is not 1 to 1000") (by decide +kernel) (by decide +kernel) (gm 591 (by decide +kernel) rfl) (gm 83 (by decide +kernel) rfl) (List.mem_of_getElem? (i := 565) (by decide +kernel)) thA_IAE thG_IAE (by decide +kernel : decode prog_1_method_6_code 11 = .ok (.new 70, 3)) (by decide +kernel : decode prog_1_method_6_code 14 = .ok (.dup, 1)) (by decide +kernel : decode prog_1_method_6_code 15 = .ok (.ldc 109, 2)) (by decide +kernel : decode prog_1_method_6_code 17 = .ok (.invokespecial 74, 3)) (by decide +kernel : decode prog_1_method_6_code 20 = .ok (.athrow, 1)) rfl (by decide +kernel) (by decide +kernel))))
      (sd_br
       (sd_lf (sd_aload_n (k := 0) (by decide +kernel : decode prog_1_method_6_code 21 = .ok (.aload_n 0, 1))))
       (sd_br
        (sd_lf (sd_getf (q := (RX6, TX6, 7)) (by decide +kernel : decode prog_1_method_6_code 22 = .ok (.getfield 12, 3)) rfl (by decide +kernel) (gm 154 (by decide +kernel) rfl)))
        (sd_lf (sd_getf (q := (RX1, TX1, 6)) (by decide +kernel : decode prog_1_method_6_code 25 = .ok (.getfield 103, 3)) rfl (by decide +kernel) (gm 110 (by decide +kernel) rfl)))))))
    (sd_br
     (sd_br
      (sd_br
       (sd_lf (sd_iload_n (k := 1) (by decide +kernel : decode prog_1_method_6_code 28 = .ok (.iload_n 1, 1))))
       (sd_lf (sd_iadd (by decide +kernel : decode prog_1_method_6_code 29 = .ok (.iadd, 1)))))
      (sd_br
       (sd_lf (sd_ldc (by decide +kernel : decode prog_1_method_6_code 30 = .ok (.ldc 111, 2)) (gm 638 (by decide +kernel) rfl)))
       (sd_br
        (sd_lf (sd_icmp_le (by decide +kernel : decode prog_1_method_6_code 32 = .ok (.if_icmp .le 13, 3)) (by decide +kernel)))
        (sd_lf (sd_throwS (text := "the tick would be greater than 100000") (by decide +kernel) (by decide +kernel) (gm 563 (by decide +kernel) rfl) (gm 81 (by decide +kernel) rfl) (List.mem_of_getElem? (i := 567) (by decide +kernel)) thA_ISE thG_ISE (by decide +kernel : decode prog_1_method_6_code 35 = .ok (.new 55, 3)) (by decide +kernel : decode prog_1_method_6_code 38 = .ok (.dup, 1)) (by decide +kernel : decode prog_1_method_6_code 39 = .ok (.ldc 112, 2)) (by decide +kernel : decode prog_1_method_6_code 41 = .ok (.invokespecial 59, 3)) (by decide +kernel : decode prog_1_method_6_code 44 = .ok (.athrow, 1)) rfl (by decide +kernel) (by decide +kernel))))))
     (sd_br
      (sd_br
       (sd_lf (sd_aload_n (k := 0) (by decide +kernel : decode prog_1_method_6_code 45 = .ok (.aload_n 0, 1))))
       (sd_lf (sd_getf (q := (RX6, TX6, 7)) (by decide +kernel : decode prog_1_method_6_code 46 = .ok (.getfield 12, 3)) rfl (by decide +kernel) (gm 154 (by decide +kernel) rfl))))
      (sd_br
       (sd_lf (sd_iload_n (k := 1) (by decide +kernel : decode prog_1_method_6_code 49 = .ok (.iload_n 1, 1))))
       (sd_br
        (sd_lf (sd_callV (q := (RX1, TX1, 6)) (by decide +kernel : decode prog_1_method_6_code 50 = .ok (.invokevirtual 114, 3)) ok_Nw_advance (gm 640 (by decide +kernel) rfl) (gm 641 (by decide +kernel) rfl) (gm 642 (by decide +kernel) rfl) rfl rfl (by decide +kernel) rfl rfl))
        (sd_lf (sd_iret (by decide +kernel : decode prog_1_method_6_code 53 = .ok (.ireturn, 1)) rfl)))))))
def k_Hp_save (l : Launch) (G : Gc) (pc : Nat) : Tr :=
  if pc < 12 then
   if pc < 5 then
    if pc < 1 then
     if pc = 0 then tz_aload 1 0 else dead
    else
     if pc < 4 then
      if pc = 1 then tz_getf 4 6 1 1 else dead
     else
      if pc = 4 then tz_aload 5 0 else dead
   else
    if pc < 8 then
     if pc = 5 then tz_getf 8 6 0 1 else dead
    else
     if pc < 11 then
      if pc = 8 then tz_callV l G 11 M_Nw_copyFrom 1 1 else dead
     else
      if pc = 11 then tz_aload 12 0 else dead
  else
   if pc < 17 then
    if pc < 13 then
     if pc = 12 then tz_const 13 (.int (nI 1)) else dead
    else
     if pc < 16 then
      if pc = 13 then tz_putz 16 6 6 else dead
     else
      if pc = 16 then tz_aload 17 0 else dead
   else
    if pc < 20 then
     if pc = 17 then tz_getf 20 6 0 1 else dead
    else
     if pc < 23 then
      if pc = 20 then tz_getf 23 1 3 0 else dead
     else
      if pc = 23 then tz_iret else dead
set_option maxRecDepth 100000 in
theorem T_Hp_save (l : Launch) (G : Gc) : TabOK l G M_Hp_save (k_Hp_save l G) := by
  intro pc
  unfold k_Hp_save
  exact
   (sd_br
    (sd_br
     (sd_br
      (sd_lf (sd_aload_n (k := 0) (by decide +kernel : decode prog_1_method_7_code 0 = .ok (.aload_n 0, 1))))
      (sd_br
       (sd_lf (sd_getf (q := (RX6, TX6, 7)) (by decide +kernel : decode prog_1_method_7_code 1 = .ok (.getfield 16, 3)) rfl (by decide +kernel) (gm 155 (by decide +kernel) rfl)))
       (sd_lf (sd_aload_n (k := 0) (by decide +kernel : decode prog_1_method_7_code 4 = .ok (.aload_n 0, 1))))))
     (sd_br
      (sd_lf (sd_getf (q := (RX6, TX6, 7)) (by decide +kernel : decode prog_1_method_7_code 5 = .ok (.getfield 12, 3)) rfl (by decide +kernel) (gm 154 (by decide +kernel) rfl)))
      (sd_br
       (sd_lf (sd_callV (q := (RX1, TX1, 6)) (by decide +kernel : decode prog_1_method_7_code 8 = .ok (.invokevirtual 117, 3)) ok_Nw_copyFrom (gm 188 (by decide +kernel) rfl) (gm 189 (by decide +kernel) rfl) (gm 190 (by decide +kernel) rfl) rfl rfl (by decide +kernel) rfl rfl))
       (sd_lf (sd_aload_n (k := 0) (by decide +kernel : decode prog_1_method_7_code 11 = .ok (.aload_n 0, 1)))))))
    (sd_br
     (sd_br
      (sd_lf (sd_iconst (by decide +kernel : decode prog_1_method_7_code 12 = .ok (.iconst 1, 1)) (by decide +kernel)))
      (sd_br
       (sd_lf (sd_putz (q := (RX6, TX6, 7)) (by decide +kernel : decode prog_1_method_7_code 13 = .ok (.putfield 37, 3)) rfl (by decide +kernel) (gm 160 (by decide +kernel) rfl) rfl rfl (Or.inl rfl)))
       (sd_lf (sd_aload_n (k := 0) (by decide +kernel : decode prog_1_method_7_code 16 = .ok (.aload_n 0, 1))))))
     (sd_br
      (sd_lf (sd_getf (q := (RX6, TX6, 7)) (by decide +kernel : decode prog_1_method_7_code 17 = .ok (.getfield 12, 3)) rfl (by decide +kernel) (gm 154 (by decide +kernel) rfl)))
      (sd_br
       (sd_lf (sd_getf (q := (RX1, TX1, 6)) (by decide +kernel : decode prog_1_method_7_code 20 = .ok (.getfield 103, 3)) rfl (by decide +kernel) (gm 110 (by decide +kernel) rfl)))
       (sd_lf (sd_iret (by decide +kernel : decode prog_1_method_7_code 23 = .ok (.ireturn, 1)) rfl))))))
def k_Hp_restore (l : Launch) (G : Gc) (pc : Nat) : Tr :=
  if pc < 21 then
   if pc < 7 then
    if pc < 1 then
     if pc = 0 then tz_aload 1 0 else dead
    else
     if pc < 4 then
      if pc = 1 then tz_getf 4 6 6 0 else dead
     else
      if pc = 4 then tz_if 7 17 (fun a => ¬ a = 0) else dead
   else
    if pc < 17 then
     if pc = 7 then tz_throw "java/lang/IllegalStateException" else dead
    else
     if pc < 18 then
      if pc = 17 then tz_aload 18 0 else dead
     else
      if pc = 18 then tz_getf 21 6 0 1 else dead
  else
   if pc < 28 then
    if pc < 22 then
     if pc = 21 then tz_aload 22 0 else dead
    else
     if pc < 25 then
      if pc = 22 then tz_getf 25 6 1 1 else dead
     else
      if pc = 25 then tz_callV l G 28 M_Nw_copyFrom 1 1 else dead
   else
    if pc < 32 then
     if pc < 29 then
      if pc = 28 then tz_aload 29 0 else dead
     else
      if pc = 29 then tz_getf 32 6 0 1 else dead
    else
     if pc < 35 then
      if pc = 32 then tz_getf 35 1 3 0 else dead
     else
      if pc = 35 then tz_iret else dead
set_option maxRecDepth 100000 in
theorem T_Hp_restore (l : Launch) (G : Gc) : TabOK l G M_Hp_restore (k_Hp_restore l G) := by
  intro pc
  unfold k_Hp_restore
  exact
   (sd_br
    (sd_br
     (sd_br
      (sd_lf (sd_aload_n (k := 0) (by decide +kernel : decode prog_1_method_8_code 0 = .ok (.aload_n 0, 1))))
      (sd_br
       (sd_lf (sd_getf (q := (RX6, TX6, 7)) (by decide +kernel : decode prog_1_method_8_code 1 = .ok (.getfield 37, 3)) rfl (by decide +kernel) (gm 160 (by decide +kernel) rfl)))
       (sd_lf (sd_if_ne (by decide +kernel : decode prog_1_method_8_code 4 = .ok (.ifCond .ne 13, 3)) (by decide +kernel)))))
     (sd_br
      (sd_lf (sd_throwS (text := "no state is saved") (by decide +kernel) (by decide +kernel) (gm 563 (by decide +kernel) rfl) (gm 81 (by decide +kernel) rfl) (List.mem_of_getElem? (i := 580) (by decide +kernel)) thA_ISE thG_ISE (by decide +kernel : decode prog_1_method_8_code 7 = .ok (.new 55, 3)) (by decide +kernel : decode prog_1_method_8_code 10 = .ok (.dup, 1)) (by decide +kernel : decode prog_1_method_8_code 11 = .ok (.ldc 121, 2)) (by decide +kernel : decode prog_1_method_8_code 13 = .ok (.invokespecial 59, 3)) (by decide +kernel : decode prog_1_method_8_code 16 = .ok (.athrow, 1)) rfl (by decide +kernel) (by decide +kernel)))
      (sd_br
       (sd_lf (sd_aload_n (k := 0) (by decide +kernel : decode prog_1_method_8_code 17 = .ok (.aload_n 0, 1))))
       (sd_lf (sd_getf (q := (RX6, TX6, 7)) (by decide +kernel : decode prog_1_method_8_code 18 = .ok (.getfield 12, 3)) rfl (by decide +kernel) (gm 154 (by decide +kernel) rfl))))))
    (sd_br
     (sd_br
      (sd_lf (sd_aload_n (k := 0) (by decide +kernel : decode prog_1_method_8_code 21 = .ok (.aload_n 0, 1))))
      (sd_br
       (sd_lf (sd_getf (q := (RX6, TX6, 7)) (by decide +kernel : decode prog_1_method_8_code 22 = .ok (.getfield 16, 3)) rfl (by decide +kernel) (gm 155 (by decide +kernel) rfl)))
       (sd_lf (sd_callV (q := (RX1, TX1, 6)) (by decide +kernel : decode prog_1_method_8_code 25 = .ok (.invokevirtual 117, 3)) ok_Nw_copyFrom (gm 188 (by decide +kernel) rfl) (gm 189 (by decide +kernel) rfl) (gm 190 (by decide +kernel) rfl) rfl rfl (by decide +kernel) rfl rfl))))
     (sd_br
      (sd_br
       (sd_lf (sd_aload_n (k := 0) (by decide +kernel : decode prog_1_method_8_code 28 = .ok (.aload_n 0, 1))))
       (sd_lf (sd_getf (q := (RX6, TX6, 7)) (by decide +kernel : decode prog_1_method_8_code 29 = .ok (.getfield 12, 3)) rfl (by decide +kernel) (gm 154 (by decide +kernel) rfl))))
      (sd_br
       (sd_lf (sd_getf (q := (RX1, TX1, 6)) (by decide +kernel : decode prog_1_method_8_code 32 = .ok (.getfield 103, 3)) rfl (by decide +kernel) (gm 110 (by decide +kernel) rfl)))
       (sd_lf (sd_iret (by decide +kernel : decode prog_1_method_8_code 35 = .ok (.ireturn, 1)) rfl))))))
def k_Hp_append (l : Launch) (G : Gc) (pc : Nat) : Tr :=
  if pc < 40 then
   if pc < 22 then
    if pc < 5 then
     if pc < 1 then
      if pc = 0 then tz_iload 1 1 else dead
     else
      if pc < 3 then
       if pc = 1 then tz_const 3 (.int (nI 33)) else dead
      else
       if pc = 3 then tz_const 5 (.int (nI 126)) else dead
    else
     if pc < 11 then
      if pc < 8 then
       if pc = 5 then tz_pureS 8 3 P_Hp_isWithin f_Hp_isWithin else dead
      else
       if pc = 8 then tz_if 11 21 (fun a => ¬ a = 0) else dead
     else
      if pc < 21 then
       if pc = 11 then tz_throw "java/lang/IllegalArgumentException" else dead
      else
       if pc = 21 then tz_aload 22 0 else dead
   else
    if pc < 32 then
     if pc < 28 then
      if pc < 25 then
       if pc = 22 then tz_getf 25 6 5 0 else dead
      else
       if pc = 25 then tz_if 28 40 (fun a => a < 0) else dead
     else
      if pc < 29 then
       if pc = 28 then tz_aload 29 0 else dead
      else
       if pc = 29 then tz_getf 32 6 5 0 else dead
    else
     if pc < 36 then
      if pc < 33 then
       if pc = 32 then tz_aload 33 0 else dead
      else
       if pc = 33 then tz_getf 36 6 4 1 else dead
     else
      if pc < 37 then
       if pc = 36 then tz_alen 37 else dead
      else
       if pc = 37 then tz_icmp 40 50 (fun a b => a < b) else dead
  else
   if pc < 61 then
    if pc < 55 then
     if pc < 51 then
      if pc < 50 then
       if pc = 40 then tz_throw "java/lang/IllegalStateException" else dead
      else
       if pc = 50 then tz_aload 51 0 else dead
     else
      if pc < 54 then
       if pc = 51 then tz_getf 54 6 4 1 else dead
      else
       if pc = 54 then tz_aload 55 0 else dead
    else
     if pc < 59 then
      if pc < 58 then
       if pc = 55 then tz_getf 58 6 5 0 else dead
      else
       if pc = 58 then tz_iload 59 1 else dead
     else
      if pc < 60 then
       if pc = 59 then tz_iastore 60 else dead
      else
       if pc = 60 then tz_aload 61 0 else dead
   else
    if pc < 67 then
     if pc < 65 then
      if pc < 62 then
       if pc = 61 then tz_dup 62 else dead
      else
       if pc = 62 then tz_getf 65 6 5 0 else dead
     else
      if pc < 66 then
       if pc = 65 then tz_const 66 (.int (nI 1)) else dead
      else
       if pc = 66 then tz_i2 67 (fun a b => a + b) else dead
    else
     if pc < 71 then
      if pc < 70 then
       if pc = 67 then tz_puti 70 6 5 else dead
      else
       if pc = 70 then tz_aload 71 0 else dead
     else
      if pc < 74 then
       if pc = 71 then tz_getf 74 6 5 0 else dead
      else
       if pc = 74 then tz_iret else dead
set_option maxRecDepth 100000 in
theorem T_Hp_append (l : Launch) (G : Gc) : TabOK l G M_Hp_append (k_Hp_append l G) := by
  intro pc
  unfold k_Hp_append
  exact
   (sd_br
    (sd_br
     (sd_br
      (sd_br
       (sd_lf (sd_iload_n (k := 1) (by decide +kernel : decode prog_1_method_9_code 0 = .ok (.iload_n 1, 1))))
       (sd_br
        (sd_lf (sd_bipush (by decide +kernel : decode prog_1_method_9_code 1 = .ok (.bipush 33, 2)) (by decide +kernel)))
        (sd_lf (sd_bipush (by decide +kernel : decode prog_1_method_9_code 3 = .ok (.bipush 126, 2)) (by decide +kernel)))))
      (sd_br
       (sd_br
        (sd_lf (sd_pureS (sd_callS (by decide +kernel : decode prog_1_method_9_code 5 = .ok (.invokestatic 66, 3)) ok_Hp_isWithin (gm 588 (by decide +kernel) rfl) (gm 589 (by decide +kernel) rfl) (by decide +kernel) rfl rfl) c_Hp_isWithin))
        (sd_lf (sd_if_ne (by decide +kernel : decode prog_1_method_9_code 8 = .ok (.ifCond .ne 13, 3)) (by decide +kernel))))
       (sd_br
        (sd_lf (sd_throwS (text := "code is not 33 to 126") (by decide +kernel) (by decide +kernel) (gm 591 (by decide +kernel) rfl) (gm 83 (by decide +kernel) rfl) (List.mem_of_getElem? (i := 588) (by decide +kernel)) thA_IAE thG_IAE (by decide +kernel : decode prog_1_method_9_code 11 = .ok (.new 70, 3)) (by decide +kernel : decode prog_1_method_9_code 14 = .ok (.dup, 1)) (by decide +kernel : decode prog_1_method_9_code 15 = .ok (.ldc 123, 2)) (by decide +kernel : decode prog_1_method_9_code 17 = .ok (.invokespecial 74, 3)) (by decide +kernel : decode prog_1_method_9_code 20 = .ok (.athrow, 1)) rfl (by decide +kernel) (by decide +kernel)))
        (sd_lf (sd_aload_n (k := 0) (by decide +kernel : decode prog_1_method_9_code 21 = .ok (.aload_n 0, 1)))))))
     (sd_br
      (sd_br
       (sd_br
        (sd_lf (sd_getf (q := (RX6, TX6, 7)) (by decide +kernel : decode prog_1_method_9_code 22 = .ok (.getfield 33, 3)) rfl (by decide +kernel) (gm 159 (by decide +kernel) rfl)))
        (sd_lf (sd_if_lt (by decide +kernel : decode prog_1_method_9_code 25 = .ok (.ifCond .lt 15, 3)) (by decide +kernel))))
       (sd_br
        (sd_lf (sd_aload_n (k := 0) (by decide +kernel : decode prog_1_method_9_code 28 = .ok (.aload_n 0, 1))))
        (sd_lf (sd_getf (q := (RX6, TX6, 7)) (by decide +kernel : decode prog_1_method_9_code 29 = .ok (.getfield 33, 3)) rfl (by decide +kernel) (gm 159 (by decide +kernel) rfl)))))
      (sd_br
       (sd_br
        (sd_lf (sd_aload_n (k := 0) (by decide +kernel : decode prog_1_method_9_code 32 = .ok (.aload_n 0, 1))))
        (sd_lf (sd_getf (q := (RX6, TX6, 7)) (by decide +kernel : decode prog_1_method_9_code 33 = .ok (.getfield 29, 3)) rfl (by decide +kernel) (gm 158 (by decide +kernel) rfl))))
       (sd_br
        (sd_lf (sd_alen (by decide +kernel : decode prog_1_method_9_code 36 = .ok (.arraylength, 1))))
        (sd_lf (sd_icmp_lt (by decide +kernel : decode prog_1_method_9_code 37 = .ok (.if_icmp .lt 13, 3)) (by decide +kernel)))))))
    (sd_br
     (sd_br
      (sd_br
       (sd_br
        (sd_lf (sd_throwS (text := "the buffer has 40 characters") (by decide +kernel) (by decide +kernel) (gm 563 (by decide +kernel) rfl) (gm 81 (by decide +kernel) rfl) (List.mem_of_getElem? (i := 589) (by decide +kernel)) thA_ISE thG_ISE (by decide +kernel : decode prog_1_method_9_code 40 = .ok (.new 55, 3)) (by decide +kernel : decode prog_1_method_9_code 43 = .ok (.dup, 1)) (by decide +kernel : decode prog_1_method_9_code 44 = .ok (.ldc 125, 2)) (by decide +kernel : decode prog_1_method_9_code 46 = .ok (.invokespecial 59, 3)) (by decide +kernel : decode prog_1_method_9_code 49 = .ok (.athrow, 1)) rfl (by decide +kernel) (by decide +kernel)))
        (sd_lf (sd_aload_n (k := 0) (by decide +kernel : decode prog_1_method_9_code 50 = .ok (.aload_n 0, 1)))))
       (sd_br
        (sd_lf (sd_getf (q := (RX6, TX6, 7)) (by decide +kernel : decode prog_1_method_9_code 51 = .ok (.getfield 29, 3)) rfl (by decide +kernel) (gm 158 (by decide +kernel) rfl)))
        (sd_lf (sd_aload_n (k := 0) (by decide +kernel : decode prog_1_method_9_code 54 = .ok (.aload_n 0, 1))))))
      (sd_br
       (sd_br
        (sd_lf (sd_getf (q := (RX6, TX6, 7)) (by decide +kernel : decode prog_1_method_9_code 55 = .ok (.getfield 33, 3)) rfl (by decide +kernel) (gm 159 (by decide +kernel) rfl)))
        (sd_lf (sd_iload_n (k := 1) (by decide +kernel : decode prog_1_method_9_code 58 = .ok (.iload_n 1, 1)))))
       (sd_br
        (sd_lf (sd_iastore (by decide +kernel : decode prog_1_method_9_code 59 = .ok (.iastore, 1))))
        (sd_lf (sd_aload_n (k := 0) (by decide +kernel : decode prog_1_method_9_code 60 = .ok (.aload_n 0, 1)))))))
     (sd_br
      (sd_br
       (sd_br
        (sd_lf (sd_dup (by decide +kernel : decode prog_1_method_9_code 61 = .ok (.dup, 1))))
        (sd_lf (sd_getf (q := (RX6, TX6, 7)) (by decide +kernel : decode prog_1_method_9_code 62 = .ok (.getfield 33, 3)) rfl (by decide +kernel) (gm 159 (by decide +kernel) rfl))))
       (sd_br
        (sd_lf (sd_iconst (by decide +kernel : decode prog_1_method_9_code 65 = .ok (.iconst 1, 1)) (by decide +kernel)))
        (sd_lf (sd_iadd (by decide +kernel : decode prog_1_method_9_code 66 = .ok (.iadd, 1))))))
      (sd_br
       (sd_br
        (sd_lf (sd_puti (q := (RX6, TX6, 7)) (by decide +kernel : decode prog_1_method_9_code 67 = .ok (.putfield 33, 3)) rfl (by decide +kernel) (gm 159 (by decide +kernel) rfl) rfl rfl (Or.inl rfl)))
        (sd_lf (sd_aload_n (k := 0) (by decide +kernel : decode prog_1_method_9_code 70 = .ok (.aload_n 0, 1)))))
       (sd_br
        (sd_lf (sd_getf (q := (RX6, TX6, 7)) (by decide +kernel : decode prog_1_method_9_code 71 = .ok (.getfield 33, 3)) rfl (by decide +kernel) (gm 159 (by decide +kernel) rfl)))
        (sd_lf (sd_iret (by decide +kernel : decode prog_1_method_9_code 74 = .ok (.ireturn, 1)) rfl)))))))
def k_Hp_clearBuffer (l : Launch) (G : Gc) (pc : Nat) : Tr :=
  if pc < 6 then
   if pc < 4 then
    if pc < 1 then
     if pc = 0 then tz_aload 1 0 else dead
    else
     if pc = 1 then tz_getf 4 6 5 0 else dead
   else
    if pc < 5 then
     if pc = 4 then tz_istore 5 1 else dead
    else
     if pc = 5 then tz_aload 6 0 else dead
  else
   if pc < 10 then
    if pc < 7 then
     if pc = 6 then tz_const 7 (.int (nI 0)) else dead
    else
     if pc = 7 then tz_puti 10 6 5 else dead
   else
    if pc < 11 then
     if pc = 10 then tz_iload 11 1 else dead
    else
     if pc = 11 then tz_iret else dead
set_option maxRecDepth 100000 in
theorem T_Hp_clearBuffer (l : Launch) (G : Gc) : TabOK l G M_Hp_clearBuffer (k_Hp_clearBuffer l G) := by
  intro pc
  unfold k_Hp_clearBuffer
  exact
   (sd_br
    (sd_br
     (sd_br
      (sd_lf (sd_aload_n (k := 0) (by decide +kernel : decode prog_1_method_10_code 0 = .ok (.aload_n 0, 1))))
      (sd_lf (sd_getf (q := (RX6, TX6, 7)) (by decide +kernel : decode prog_1_method_10_code 1 = .ok (.getfield 33, 3)) rfl (by decide +kernel) (gm 159 (by decide +kernel) rfl))))
     (sd_br
      (sd_lf (sd_istore_n (k := 1) (by decide +kernel : decode prog_1_method_10_code 4 = .ok (.istore_n 1, 1))))
      (sd_lf (sd_aload_n (k := 0) (by decide +kernel : decode prog_1_method_10_code 5 = .ok (.aload_n 0, 1))))))
    (sd_br
     (sd_br
      (sd_lf (sd_iconst (by decide +kernel : decode prog_1_method_10_code 6 = .ok (.iconst 0, 1)) (by decide +kernel)))
      (sd_lf (sd_puti (q := (RX6, TX6, 7)) (by decide +kernel : decode prog_1_method_10_code 7 = .ok (.putfield 33, 3)) rfl (by decide +kernel) (gm 159 (by decide +kernel) rfl) rfl rfl (Or.inl rfl))))
     (sd_br
      (sd_lf (sd_iload_n (k := 1) (by decide +kernel : decode prog_1_method_10_code 10 = .ok (.iload_n 1, 1))))
      (sd_lf (sd_iret (by decide +kernel : decode prog_1_method_10_code 11 = .ok (.ireturn, 1)) rfl)))))
def k_Hp_checkPacket (l : Launch) (G : Gc) (pc : Nat) : Tr :=
  if pc < 19 then
   if pc < 8 then
    if pc < 4 then
     if pc < 1 then
      if pc = 0 then tz_aload 1 0 else dead
     else
      if pc = 1 then tz_getf 4 6 0 1 else dead
    else
     if pc < 5 then
      if pc = 4 then tz_iload 5 1 else dead
     else
      if pc = 5 then tz_pureV 8 1 1 P_Nw_hostAt f_Nw_hostAt else dead
   else
    if pc < 12 then
     if pc < 11 then
      if pc = 8 then tz_null 22 11 else dead
     else
      if pc = 11 then tz_aload 12 0 else dead
    else
     if pc < 15 then
      if pc = 12 then tz_getf 15 6 0 1 else dead
     else
      if pc < 16 then
       if pc = 15 then tz_iload 16 3 else dead
      else
       if pc = 16 then tz_pureV 19 1 1 P_Nw_nodeAt f_Nw_nodeAt else dead
  else
   if pc < 40 then
    if pc < 33 then
     if pc < 22 then
      if pc = 19 then tz_null 22 33 else dead
     else
      if pc = 22 then tz_throw "java/lang/IndexOutOfBoundsException" else dead
    else
     if pc < 34 then
      if pc = 33 then tz_iload 34 2 else dead
     else
      if pc < 37 then
       if pc = 34 then tz_pureS 37 1 P_Hp_isPort f_Hp_isPort else dead
      else
       if pc = 37 then tz_if 40 48 (fun a => a = 0) else dead
   else
    if pc < 45 then
     if pc < 42 then
      if pc = 40 then tz_iload 42 4 else dead
     else
      if pc = 42 then tz_pureS 45 1 P_Hp_isPort f_Hp_isPort else dead
    else
     if pc < 48 then
      if pc = 45 then tz_if 48 59 (fun a => ¬ a = 0) else dead
     else
      if pc < 59 then
       if pc = 48 then tz_throw "java/lang/IllegalArgumentException" else dead
      else
       if pc = 59 then tz_vret else dead
set_option maxRecDepth 100000 in
theorem T_Hp_checkPacket (l : Launch) (G : Gc) : TabOK l G M_Hp_checkPacket (k_Hp_checkPacket l G) := by
  intro pc
  unfold k_Hp_checkPacket
  exact
   (sd_br
    (sd_br
     (sd_br
      (sd_br
       (sd_lf (sd_aload_n (k := 0) (by decide +kernel : decode prog_1_method_35_code 0 = .ok (.aload_n 0, 1))))
       (sd_lf (sd_getf (q := (RX6, TX6, 7)) (by decide +kernel : decode prog_1_method_35_code 1 = .ok (.getfield 12, 3)) rfl (by decide +kernel) (gm 154 (by decide +kernel) rfl))))
      (sd_br
       (sd_lf (sd_iload_n (k := 1) (by decide +kernel : decode prog_1_method_35_code 4 = .ok (.iload_n 1, 1))))
       (sd_lf (sd_pureV (sd_callV (q := (RX1, TX1, 6)) (by decide +kernel : decode prog_1_method_35_code 5 = .ok (.invokevirtual 150, 3)) ok_Nw_hostAt (gm 685 (by decide +kernel) rfl) (gm 416 (by decide +kernel) rfl) (gm 417 (by decide +kernel) rfl) rfl rfl (by decide +kernel) rfl rfl) c_Nw_hostAt))))
     (sd_br
      (sd_br
       (sd_lf (sd_ifnull (by decide +kernel : decode prog_1_method_35_code 8 = .ok (.ifnull 14, 3)) (by decide +kernel)))
       (sd_lf (sd_aload_n (k := 0) (by decide +kernel : decode prog_1_method_35_code 11 = .ok (.aload_n 0, 1)))))
      (sd_br
       (sd_lf (sd_getf (q := (RX6, TX6, 7)) (by decide +kernel : decode prog_1_method_35_code 12 = .ok (.getfield 12, 3)) rfl (by decide +kernel) (gm 154 (by decide +kernel) rfl)))
       (sd_br
        (sd_lf (sd_iload_n (k := 3) (by decide +kernel : decode prog_1_method_35_code 15 = .ok (.iload_n 3, 1))))
        (sd_lf (sd_pureV (sd_callV (q := (RX1, TX1, 6)) (by decide +kernel : decode prog_1_method_35_code 16 = .ok (.invokevirtual 227, 3)) ok_Nw_nodeAt (gm 686 (by decide +kernel) rfl) (gm 193 (by decide +kernel) rfl) (gm 194 (by decide +kernel) rfl) rfl rfl (by decide +kernel) rfl rfl) c_Nw_nodeAt))))))
    (sd_br
     (sd_br
      (sd_br
       (sd_lf (sd_ifnonnull (by decide +kernel : decode prog_1_method_35_code 19 = .ok (.ifnonnull 14, 3)) (by decide +kernel)))
       (sd_lf (sd_throwSW (text := "no such host, or no such node") (by decide +kernel) (by decide +kernel) (gm 494 (by decide +kernel) rfl) (gm 80 (by decide +kernel) rfl) (List.mem_of_getElem? (i := 615) (by decide +kernel)) thA_IOE thG_IOE (by decide +kernel : decode prog_1_method_35_code 22 = .ok (.new 83, 3)) (by decide +kernel : decode prog_1_method_35_code 25 = .ok (.dup, 1)) (by decide +kernel : decode prog_1_method_35_code 26 = .ok (.ldc_w 290, 3)) (by decide +kernel : decode prog_1_method_35_code 29 = .ok (.invokespecial 87, 3)) (by decide +kernel : decode prog_1_method_35_code 32 = .ok (.athrow, 1)) rfl (by decide +kernel) (by decide +kernel))))
      (sd_br
       (sd_lf (sd_iload_n (k := 2) (by decide +kernel : decode prog_1_method_35_code 33 = .ok (.iload_n 2, 1))))
       (sd_br
        (sd_lf (sd_pureS (sd_callS (by decide +kernel : decode prog_1_method_35_code 34 = .ok (.invokestatic 215, 3)) ok_Hp_isPort (gm 688 (by decide +kernel) rfl) (gm 689 (by decide +kernel) rfl) (by decide +kernel) rfl rfl) c_Hp_isPort))
        (sd_lf (sd_if_eq (by decide +kernel : decode prog_1_method_35_code 37 = .ok (.ifCond .eq 11, 3)) (by decide +kernel))))))
     (sd_br
      (sd_br
       (sd_lf (sd_iload (by decide +kernel : decode prog_1_method_35_code 40 = .ok (.iload 4, 2))))
       (sd_lf (sd_pureS (sd_callS (by decide +kernel : decode prog_1_method_35_code 42 = .ok (.invokestatic 215, 3)) ok_Hp_isPort (gm 688 (by decide +kernel) rfl) (gm 689 (by decide +kernel) rfl) (by decide +kernel) rfl rfl) c_Hp_isPort)))
      (sd_br
       (sd_lf (sd_if_ne (by decide +kernel : decode prog_1_method_35_code 45 = .ok (.ifCond .ne 14, 3)) (by decide +kernel)))
       (sd_br
        (sd_lf (sd_throwSW (text := "a port is not 1 to 9999") (by decide +kernel) (by decide +kernel) (gm 591 (by decide +kernel) rfl) (gm 83 (by decide +kernel) rfl) (List.mem_of_getElem? (i := 619) (by decide +kernel)) thA_IAE thG_IAE (by decide +kernel : decode prog_1_method_35_code 48 = .ok (.new 70, 3)) (by decide +kernel : decode prog_1_method_35_code 51 = .ok (.dup, 1)) (by decide +kernel : decode prog_1_method_35_code 52 = .ok (.ldc_w 292, 3)) (by decide +kernel : decode prog_1_method_35_code 55 = .ok (.invokespecial 74, 3)) (by decide +kernel : decode prog_1_method_35_code 58 = .ok (.athrow, 1)) rfl (by decide +kernel) (by decide +kernel)))
        (sd_lf (sd_vret (by decide +kernel : decode prog_1_method_35_code 59 = .ok (.return_, 1)) rfl)))))))
def k_Hp_send (l : Launch) (G : Gc) (pc : Nat) : Tr :=
  if pc < 13 then
   if pc < 4 then
    if pc < 2 then
     if pc < 1 then
      if pc = 0 then tz_aload 1 0 else dead
     else
      if pc = 1 then tz_iload 2 1 else dead
    else
     if pc < 3 then
      if pc = 2 then tz_iload 3 2 else dead
     else
      if pc = 3 then tz_iload 4 3 else dead
   else
    if pc < 9 then
     if pc < 6 then
      if pc = 4 then tz_iload 6 4 else dead
     else
      if pc = 6 then tz_callV l G 9 M_Hp_checkPacket 4 6 else dead
    else
     if pc < 10 then
      if pc = 9 then tz_aload 10 0 else dead
     else
      if pc = 10 then tz_getf 13 6 0 1 else dead
  else
   if pc < 19 then
    if pc < 15 then
     if pc < 14 then
      if pc = 13 then tz_iload 14 1 else dead
     else
      if pc = 14 then tz_iload 15 2 else dead
    else
     if pc < 18 then
      if pc = 15 then tz_pureS 18 2 P_Hp_endpoint f_Hp_endpoint else dead
     else
      if pc = 18 then tz_iload 19 3 else dead
   else
    if pc < 24 then
     if pc < 21 then
      if pc = 19 then tz_iload 21 4 else dead
     else
      if pc = 21 then tz_pureS 24 2 P_Hp_endpoint f_Hp_endpoint else dead
    else
     if pc < 27 then
      if pc = 24 then tz_callV l G 27 M_Nw_carry 2 1 else dead
     else
      if pc = 27 then tz_iret else dead
set_option maxRecDepth 100000 in
theorem T_Hp_send (l : Launch) (G : Gc) : TabOK l G M_Hp_send (k_Hp_send l G) := by
  intro pc
  unfold k_Hp_send
  exact
   (sd_br
    (sd_br
     (sd_br
      (sd_br
       (sd_lf (sd_aload_n (k := 0) (by decide +kernel : decode prog_1_method_13_code 0 = .ok (.aload_n 0, 1))))
       (sd_lf (sd_iload_n (k := 1) (by decide +kernel : decode prog_1_method_13_code 1 = .ok (.iload_n 1, 1)))))
      (sd_br
       (sd_lf (sd_iload_n (k := 2) (by decide +kernel : decode prog_1_method_13_code 2 = .ok (.iload_n 2, 1))))
       (sd_lf (sd_iload_n (k := 3) (by decide +kernel : decode prog_1_method_13_code 3 = .ok (.iload_n 3, 1))))))
     (sd_br
      (sd_br
       (sd_lf (sd_iload (by decide +kernel : decode prog_1_method_13_code 4 = .ok (.iload 4, 2))))
       (sd_lf (sd_callV (q := (RX6, TX6, 7)) (by decide +kernel : decode prog_1_method_13_code 6 = .ok (.invokevirtual 139, 3)) ok_Hp_checkPacket (gm 681 (by decide +kernel) rfl) (gm 683 (by decide +kernel) rfl) (gm 16 (by decide +kernel) rfl) rfl rfl (by decide +kernel) rfl rfl)))
      (sd_br
       (sd_lf (sd_aload_n (k := 0) (by decide +kernel : decode prog_1_method_13_code 9 = .ok (.aload_n 0, 1))))
       (sd_lf (sd_getf (q := (RX6, TX6, 7)) (by decide +kernel : decode prog_1_method_13_code 10 = .ok (.getfield 12, 3)) rfl (by decide +kernel) (gm 154 (by decide +kernel) rfl))))))
    (sd_br
     (sd_br
      (sd_br
       (sd_lf (sd_iload_n (k := 1) (by decide +kernel : decode prog_1_method_13_code 13 = .ok (.iload_n 1, 1))))
       (sd_lf (sd_iload_n (k := 2) (by decide +kernel : decode prog_1_method_13_code 14 = .ok (.iload_n 2, 1)))))
      (sd_br
       (sd_lf (sd_pureS (sd_callS (by decide +kernel : decode prog_1_method_13_code 15 = .ok (.invokestatic 143, 3)) ok_Hp_endpoint (gm 692 (by decide +kernel) rfl) (gm 693 (by decide +kernel) rfl) (by decide +kernel) rfl rfl) c_Hp_endpoint))
       (sd_lf (sd_iload_n (k := 3) (by decide +kernel : decode prog_1_method_13_code 18 = .ok (.iload_n 3, 1))))))
     (sd_br
      (sd_br
       (sd_lf (sd_iload (by decide +kernel : decode prog_1_method_13_code 19 = .ok (.iload 4, 2))))
       (sd_lf (sd_pureS (sd_callS (by decide +kernel : decode prog_1_method_13_code 21 = .ok (.invokestatic 143, 3)) ok_Hp_endpoint (gm 692 (by decide +kernel) rfl) (gm 693 (by decide +kernel) rfl) (by decide +kernel) rfl rfl) c_Hp_endpoint)))
      (sd_br
       (sd_lf (sd_callV (q := (RX1, TX1, 6)) (by decide +kernel : decode prog_1_method_13_code 24 = .ok (.invokevirtual 147, 3)) ok_Nw_carry (gm 695 (by decide +kernel) rfl) (gm 696 (by decide +kernel) rfl) (gm 697 (by decide +kernel) rfl) rfl rfl (by decide +kernel) rfl rfl))
       (sd_lf (sd_iret (by decide +kernel : decode prog_1_method_13_code 27 = .ok (.ireturn, 1)) rfl))))))
/-- translators as the class finds them -/
theorem trF_iff {h : AH} {wn : Nat} {z : Nat → Int32} (k : NwR h wn z) (inv : Inv0 z) (x : Int32) : (TrZ z x → ∃ t, trF h wn x = some t) ∧ (¬ TrZ z x → trF h wn x = none) := by
  have m10 := inv.1.at.2
  refine ⟨fun ⟨j, j1, j2, j3⟩ => ?_, fun no => ?_⟩
  · obtain ⟨d, t, e, -⟩ := k.tr m10 j1 j3
    rw [j2]
    exact ⟨t, e⟩
  · by_cases c : ∃ i, i < mny z ∧ x = nI i
    · obtain ⟨i, i1, rfl⟩ := c
      rcases (inv.2.2.2 i i1).1.1 with q | q
      · obtain ⟨d, e, -⟩ := k.ho m10 i1 q
        exact e
      · exact absurd ⟨i, i1, rfl, q⟩ no
    · unfold trF
      rw [ndF_no k.2.1.1 m10 c]
theorem hoF_iff {h : AH} {wn : Nat} {z : Nat → Int32} (k : NwR h wn z) (inv : Inv0 z) (x : Int32) : (HoZ z x → ∃ d, hoF h wn x = some d) ∧ (¬ HoZ z x → hoF h wn x = none) := by
  have m10 := inv.1.at.2
  refine ⟨fun ⟨j, j1, j2, j3⟩ => ?_, fun no => ?_⟩
  · obtain ⟨d, -, e, -⟩ := k.ho m10 j1 j3
    rw [j2]
    exact ⟨d, e⟩
  · by_cases c : ∃ i, i < mny z ∧ x = nI i
    · obtain ⟨i, i1, rfl⟩ := c
      rcases (inv.2.2.2 i i1).1.1 with q | q
      · exact absurd ⟨i, i1, rfl, q⟩ no
      · obtain ⟨d, t, -, e, -⟩ := k.tr m10 i1 q
        exact e
    · unfold hoF
      rw [ndF_no k.2.1.1 m10 c]
theorem ndF_iff {h : AH} {wn : Nat} {z : Nat → Int32} (k : NwR h wn z) (inv : Inv0 z) (x : Int32) : (NdZ z x → ∃ d, ndF h wn x = some d) ∧ (¬ NdZ z x → ndF h wn x = none) := by
  have m10 := inv.1.at.2
  refine ⟨fun ⟨j, j1, j2⟩ => ?_, fun no => ndF_no k.2.1.1 m10 no⟩
  obtain ⟨d, e, -⟩ := k.node m10 j1
  rw [j2]
  exact ⟨d, e⟩
def IOE : String := "java/lang/IndexOutOfBoundsException"
def IAE : String := "java/lang/IllegalArgumentException"
def ISE : String := "java/lang/IllegalStateException"
section
variable {l : Launch} {G : Gc}
theorem c_Hp_checkNet (A : Nat → Nat) (net : Int32) (z zs t : Nat → Int32) (n : Nat) (h : AH) (Q : Po) (k : HpR h A z zs t n) (iv : Inv z) (q1 : ¬ NeZ z net → Q (.inr IOE) (nx h)) (q2 : NeZ z net → Q (.inl none) h) : Call l G M_Hp_checkNet [.ref (A 0), .int net] h Q := by
  have x6 := k.1.1.1
  have x0 := k.1.2.1.1
  have w1 := k.2.1.1.1.1
  have hPt : P_Nw_translatorAt [.ref (A 1), .int net] h := k.2.1.1.NdK net
  refine call_of rfl rfl (Nat.le_of_ble_eq_true rfl) ?_
  (obtain ⟨W9, hW9, hgo9⟩ := wp_ex (T_Hp_checkNet l G) [] _; refine hgo9 200 _ _ _ _ ?_; simp -implicitDefEqProofs (disch := omega) only [hW9, inl, gate, Xq, tz_const, tz_iload, tz_lload, tz_dload, tz_aload, tz_istore, tz_astore, tz_lstore, tz_dstore, tz_iinc, tz_i1, tz_i2, tz_i2z, tz_l2, tz_l2z, tz_i2l, tz_l2i, tz_lcmp, tz_i2d, tz_d2, tz_dcmp, tz_dup, tz_dup2, tz_pop, tz_if, tz_icmp, tz_null, tz_goto, tz_sw, tz_getf, tz_puti, tz_putz, tz_putr, tz_putl, tz_iaload, tz_baload, tz_laload, tz_aaload, tz_iastore, tz_bastore, tz_lastore, tz_aastore, tz_alen, tz_new, tz_newa, tz_oinit, tz_iret, tz_zret, tz_lret, tz_dret, tz_aret, tz_vret, tz_throw, tz_callS, tz_callV, tz_callI, tz_callR, tz_pureS, tz_pureV, tz_callVH, lg, lset, lkill, lst1, lst2, entL, isRf, is1, vl, va_rf_none, va_rf_some, isRf_rf, is1_rf, i0, i1, bI_eq0, bI_eq1, nm_em, nI_eqP, nI_leP, nI_ltP, nN_e1, nN_e2, nN_l1, nN_l2, nN_l3, nN_l4, nI_add, pk_mul, vp_inN, nI_cl, n01, n10, P_i, P_ii, P_iii, f_Mo_at, f_Mo_map, f_Mo_contact, f_Mo_within, f_Mo_isPort, f_Hp_endpoint, f_Hp_nodeOf, f_Hp_portOf, f_Ma_max, f_Ma_min, f_Hp_isSetting, popN, rok, a1, noX, swc, mL, if_true, if_false, ↓reduceIte, cond_true, cond_false, true_and, and_true, List.length_cons, List.length_nil, List.nil_append, List.cons_append, List.append_nil, Option.toList, Nat.reduceEqDiff, Bool.false_eq_true, reduceCtorEq, Nat.reduceAdd, Nat.reduceLT, Nat.reduceLeDiff, Nat.reduceSub, List.replicate, Nat.zero_add, Nat.lt_add_one, Nat.le_refl, Nat.zero_le, Nat.succ_ne_zero, not_false_eq_true, not_true_eq_false, false_implies, true_implies, forall_const, imp_self, true_or, or_true, eq_self, sI_zw, zw_zw, hI_zw, tg_zw, ln_zw, hR_zw, hL_zw, hN_zw, hM_zw, upd_s, upd_u, upd_ne, Classical.not_not, k_Hp_checkNet, x6]; try clear hgo9 hW9)
  refine ⟨fun c => ?_, fun c => ?_⟩
  · (obtain ⟨W9, hW9, hgo9⟩ := wp_ex (T_Hp_checkNet l G) [] _; refine hgo9 200 _ _ _ _ ?_; simp -implicitDefEqProofs (disch := omega) only [hW9, inl, gate, Xq, tz_const, tz_iload, tz_lload, tz_dload, tz_aload, tz_istore, tz_astore, tz_lstore, tz_dstore, tz_iinc, tz_i1, tz_i2, tz_i2z, tz_l2, tz_l2z, tz_i2l, tz_l2i, tz_lcmp, tz_i2d, tz_d2, tz_dcmp, tz_dup, tz_dup2, tz_pop, tz_if, tz_icmp, tz_null, tz_goto, tz_sw, tz_getf, tz_puti, tz_putz, tz_putr, tz_putl, tz_iaload, tz_baload, tz_laload, tz_aaload, tz_iastore, tz_bastore, tz_lastore, tz_aastore, tz_alen, tz_new, tz_newa, tz_oinit, tz_iret, tz_zret, tz_lret, tz_dret, tz_aret, tz_vret, tz_throw, tz_callS, tz_callV, tz_callI, tz_callR, tz_pureS, tz_pureV, tz_callVH, lg, lset, lkill, lst1, lst2, entL, isRf, is1, vl, va_rf_none, va_rf_some, isRf_rf, is1_rf, i0, i1, bI_eq0, bI_eq1, nm_em, nI_eqP, nI_leP, nI_ltP, nN_e1, nN_e2, nN_l1, nN_l2, nN_l3, nN_l4, nI_add, pk_mul, vp_inN, nI_cl, n01, n10, P_i, P_ii, P_iii, f_Mo_at, f_Mo_map, f_Mo_contact, f_Mo_within, f_Mo_isPort, f_Hp_endpoint, f_Hp_nodeOf, f_Hp_portOf, f_Ma_max, f_Ma_min, f_Hp_isSetting, popN, rok, a1, noX, swc, mL, if_true, if_false, ↓reduceIte, cond_true, cond_false, true_and, and_true, List.length_cons, List.length_nil, List.nil_append, List.cons_append, List.append_nil, Option.toList, Nat.reduceEqDiff, Bool.false_eq_true, reduceCtorEq, Nat.reduceAdd, Nat.reduceLT, Nat.reduceLeDiff, Nat.reduceSub, List.replicate, Nat.zero_add, Nat.lt_add_one, Nat.le_refl, Nat.zero_le, Nat.succ_ne_zero, not_false_eq_true, not_true_eq_false, false_implies, true_implies, forall_const, imp_self, true_or, or_true, eq_self, sI_zw, zw_zw, hI_zw, tg_zw, ln_zw, hR_zw, hL_zw, hN_zw, hM_zw, upd_s, upd_u, upd_ne, Classical.not_not, k_Hp_checkNet, x6]; try clear hgo9 hW9)
    exact q2 (Or.inl c)
  · by_cases ct : TrZ z net
    · obtain ⟨tt, e⟩ := (trF_iff k.2.1 iv.1 net).1 ct
      (obtain ⟨W9, hW9, hgo9⟩ := wp_ex (T_Hp_checkNet l G) [] _; refine hgo9 200 _ _ _ _ ?_; simp -implicitDefEqProofs (disch := omega) only [hW9, inl, gate, Xq, tz_const, tz_iload, tz_lload, tz_dload, tz_aload, tz_istore, tz_astore, tz_lstore, tz_dstore, tz_iinc, tz_i1, tz_i2, tz_i2z, tz_l2, tz_l2z, tz_i2l, tz_l2i, tz_lcmp, tz_i2d, tz_d2, tz_dcmp, tz_dup, tz_dup2, tz_pop, tz_if, tz_icmp, tz_null, tz_goto, tz_sw, tz_getf, tz_puti, tz_putz, tz_putr, tz_putl, tz_iaload, tz_baload, tz_laload, tz_aaload, tz_iastore, tz_bastore, tz_lastore, tz_aastore, tz_alen, tz_new, tz_newa, tz_oinit, tz_iret, tz_zret, tz_lret, tz_dret, tz_aret, tz_vret, tz_throw, tz_callS, tz_callV, tz_callI, tz_callR, tz_pureS, tz_pureV, tz_callVH, lg, lset, lkill, lst1, lst2, entL, isRf, is1, vl, va_rf_none, va_rf_some, isRf_rf, is1_rf, i0, i1, bI_eq0, bI_eq1, nm_em, nI_eqP, nI_leP, nI_ltP, nN_e1, nN_e2, nN_l1, nN_l2, nN_l3, nN_l4, nI_add, pk_mul, vp_inN, nI_cl, n01, n10, P_i, P_ii, P_iii, f_Mo_at, f_Mo_map, f_Mo_contact, f_Mo_within, f_Mo_isPort, f_Hp_endpoint, f_Hp_nodeOf, f_Hp_portOf, f_Ma_max, f_Ma_min, f_Hp_isSetting, popN, rok, a1, noX, swc, mL, if_true, if_false, ↓reduceIte, cond_true, cond_false, true_and, and_true, List.length_cons, List.length_nil, List.nil_append, List.cons_append, List.append_nil, Option.toList, Nat.reduceEqDiff, Bool.false_eq_true, reduceCtorEq, Nat.reduceAdd, Nat.reduceLT, Nat.reduceLeDiff, Nat.reduceSub, List.replicate, Nat.zero_add, Nat.lt_add_one, Nat.le_refl, Nat.zero_le, Nat.succ_ne_zero, not_false_eq_true, not_true_eq_false, false_implies, true_implies, forall_const, imp_self, true_or, or_true, eq_self, sI_zw, zw_zw, hI_zw, tg_zw, ln_zw, hR_zw, hL_zw, hN_zw, hM_zw, upd_s, upd_u, upd_ne, Classical.not_not, k_Hp_checkNet, x6, x0, w1, hPt, f_Nw_translatorAt, e]; try clear hgo9 hW9)
      exact q2 (Or.inr ct)
    · have e := (trF_iff k.2.1 iv.1 net).2 ct
      (obtain ⟨W9, hW9, hgo9⟩ := wp_ex (T_Hp_checkNet l G) [] _; refine hgo9 200 _ _ _ _ ?_; simp -implicitDefEqProofs (disch := omega) only [hW9, inl, gate, Xq, tz_const, tz_iload, tz_lload, tz_dload, tz_aload, tz_istore, tz_astore, tz_lstore, tz_dstore, tz_iinc, tz_i1, tz_i2, tz_i2z, tz_l2, tz_l2z, tz_i2l, tz_l2i, tz_lcmp, tz_i2d, tz_d2, tz_dcmp, tz_dup, tz_dup2, tz_pop, tz_if, tz_icmp, tz_null, tz_goto, tz_sw, tz_getf, tz_puti, tz_putz, tz_putr, tz_putl, tz_iaload, tz_baload, tz_laload, tz_aaload, tz_iastore, tz_bastore, tz_lastore, tz_aastore, tz_alen, tz_new, tz_newa, tz_oinit, tz_iret, tz_zret, tz_lret, tz_dret, tz_aret, tz_vret, tz_throw, tz_callS, tz_callV, tz_callI, tz_callR, tz_pureS, tz_pureV, tz_callVH, lg, lset, lkill, lst1, lst2, entL, isRf, is1, vl, va_rf_none, va_rf_some, isRf_rf, is1_rf, i0, i1, bI_eq0, bI_eq1, nm_em, nI_eqP, nI_leP, nI_ltP, nN_e1, nN_e2, nN_l1, nN_l2, nN_l3, nN_l4, nI_add, pk_mul, vp_inN, nI_cl, n01, n10, P_i, P_ii, P_iii, f_Mo_at, f_Mo_map, f_Mo_contact, f_Mo_within, f_Mo_isPort, f_Hp_endpoint, f_Hp_nodeOf, f_Hp_portOf, f_Ma_max, f_Ma_min, f_Hp_isSetting, popN, rok, a1, noX, swc, mL, if_true, if_false, ↓reduceIte, cond_true, cond_false, true_and, and_true, List.length_cons, List.length_nil, List.nil_append, List.cons_append, List.append_nil, Option.toList, Nat.reduceEqDiff, Bool.false_eq_true, reduceCtorEq, Nat.reduceAdd, Nat.reduceLT, Nat.reduceLeDiff, Nat.reduceSub, List.replicate, Nat.zero_add, Nat.lt_add_one, Nat.le_refl, Nat.zero_le, Nat.succ_ne_zero, not_false_eq_true, not_true_eq_false, false_implies, true_implies, forall_const, imp_self, true_or, or_true, eq_self, sI_zw, zw_zw, hI_zw, tg_zw, ln_zw, hR_zw, hL_zw, hN_zw, hM_zw, upd_s, upd_u, upd_ne, Classical.not_not, k_Hp_checkNet, x6, x0, w1, hPt, f_Nw_translatorAt, e]; try clear hgo9 hW9)
      exact q1 (by rintro (q | q); exact c q; exact ct q)
theorem c_Hp_begin (A : Nat → Nat) (z zs t z0 : Nat → Int32) (n : Nat) (h : AH) (Q : Po) (k : HpR h A z zs t n) (iv : Inv z) (hz0 : ∀ q, q ≤ 8 → z0 q = nI 0) (i0' : Inv z0) (hQ : ∀ h', HpR h' A z0 zs t n → hI h' (A 0) 6 = nI 0 → FrX 0 h h' → Q (.inl (some (.int (nI (mny z))))) h') : Call l G M_Hp_begin [.ref (A 0)] h Q := by
  have x6 := k.1.1.1
  have x0 := k.1.2.1.1
  have w1 := k.2.1.1.1.1
  have w2 := k.2.1.2.1.1
  have hw := k.1.2.2.2.2.2.2.2
  refine call_of rfl rfl (Nat.le_of_ble_eq_true rfl) ?_
  (obtain ⟨W9, hW9, hgo9⟩ := wp_ex (T_Hp_begin l G) [] _; refine hgo9 200 _ _ _ _ ?_; simp -implicitDefEqProofs (disch := omega) only [hW9, inl, gate, Xq, tz_const, tz_iload, tz_lload, tz_dload, tz_aload, tz_istore, tz_astore, tz_lstore, tz_dstore, tz_iinc, tz_i1, tz_i2, tz_i2z, tz_l2, tz_l2z, tz_i2l, tz_l2i, tz_lcmp, tz_i2d, tz_d2, tz_dcmp, tz_dup, tz_dup2, tz_pop, tz_if, tz_icmp, tz_null, tz_goto, tz_sw, tz_getf, tz_puti, tz_putz, tz_putr, tz_putl, tz_iaload, tz_baload, tz_laload, tz_aaload, tz_iastore, tz_bastore, tz_lastore, tz_aastore, tz_alen, tz_new, tz_newa, tz_oinit, tz_iret, tz_zret, tz_lret, tz_dret, tz_aret, tz_vret, tz_throw, tz_callS, tz_callV, tz_callI, tz_callR, tz_pureS, tz_pureV, tz_callVH, lg, lset, lkill, lst1, lst2, entL, isRf, is1, vl, va_rf_none, va_rf_some, isRf_rf, is1_rf, i0, i1, bI_eq0, bI_eq1, nm_em, nI_eqP, nI_leP, nI_ltP, nN_e1, nN_e2, nN_l1, nN_l2, nN_l3, nN_l4, nI_add, pk_mul, vp_inN, nI_cl, n01, n10, P_i, P_ii, P_iii, f_Mo_at, f_Mo_map, f_Mo_contact, f_Mo_within, f_Mo_isPort, f_Hp_endpoint, f_Hp_nodeOf, f_Hp_portOf, f_Ma_max, f_Ma_min, f_Hp_isSetting, popN, rok, a1, noX, swc, mL, if_true, if_false, ↓reduceIte, cond_true, cond_false, true_and, and_true, List.length_cons, List.length_nil, List.nil_append, List.cons_append, List.append_nil, Option.toList, Nat.reduceEqDiff, Bool.false_eq_true, reduceCtorEq, Nat.reduceAdd, Nat.reduceLT, Nat.reduceLeDiff, Nat.reduceSub, List.replicate, Nat.zero_add, Nat.lt_add_one, Nat.le_refl, Nat.zero_le, Nat.succ_ne_zero, not_false_eq_true, not_true_eq_false, false_implies, true_implies, forall_const, imp_self, true_or, or_true, eq_self, sI_zw, zw_zw, hI_zw, tg_zw, ln_zw, hR_zw, hL_zw, hN_zw, hM_zw, upd_s, upd_u, upd_ne, Classical.not_not, k_Hp_begin, x6, x0, w1, w2]; try clear hgo9 hW9)
  refine c_Nw_reset (A 1) z0 h _ hw k.2.1.1 hz0 (fun h1 k1 f1 => ?_)
  simp only [aft]
  obtain ⟨a', e0, e7, -, -⟩ := k.1.own f1 (k.1.2.2.2.2.2.2.1 1 (by omega) (by omega) (by omega))
  have x61 := a'.1.1
  (obtain ⟨W9, hW9, hgo9⟩ := wp_ex (T_Hp_begin l G) [] _; refine hgo9 200 _ _ _ _ ?_; simp -implicitDefEqProofs (disch := omega) only [hW9, inl, gate, Xq, tz_const, tz_iload, tz_lload, tz_dload, tz_aload, tz_istore, tz_astore, tz_lstore, tz_dstore, tz_iinc, tz_i1, tz_i2, tz_i2z, tz_l2, tz_l2z, tz_i2l, tz_l2i, tz_lcmp, tz_i2d, tz_d2, tz_dcmp, tz_dup, tz_dup2, tz_pop, tz_if, tz_icmp, tz_null, tz_goto, tz_sw, tz_getf, tz_puti, tz_putz, tz_putr, tz_putl, tz_iaload, tz_baload, tz_laload, tz_aaload, tz_iastore, tz_bastore, tz_lastore, tz_aastore, tz_alen, tz_new, tz_newa, tz_oinit, tz_iret, tz_zret, tz_lret, tz_dret, tz_aret, tz_vret, tz_throw, tz_callS, tz_callV, tz_callI, tz_callR, tz_pureS, tz_pureV, tz_callVH, lg, lset, lkill, lst1, lst2, entL, isRf, is1, vl, va_rf_none, va_rf_some, isRf_rf, is1_rf, i0, i1, bI_eq0, bI_eq1, nm_em, nI_eqP, nI_leP, nI_ltP, nN_e1, nN_e2, nN_l1, nN_l2, nN_l3, nN_l4, nI_add, pk_mul, vp_inN, nI_cl, n01, n10, P_i, P_ii, P_iii, f_Mo_at, f_Mo_map, f_Mo_contact, f_Mo_within, f_Mo_isPort, f_Hp_endpoint, f_Hp_nodeOf, f_Hp_portOf, f_Ma_max, f_Ma_min, f_Hp_isSetting, popN, rok, a1, noX, swc, mL, if_true, if_false, ↓reduceIte, cond_true, cond_false, true_and, and_true, List.length_cons, List.length_nil, List.nil_append, List.cons_append, List.append_nil, Option.toList, Nat.reduceEqDiff, Bool.false_eq_true, reduceCtorEq, Nat.reduceAdd, Nat.reduceLT, Nat.reduceLeDiff, Nat.reduceSub, List.replicate, Nat.zero_add, Nat.lt_add_one, Nat.le_refl, Nat.zero_le, Nat.succ_ne_zero, not_false_eq_true, not_true_eq_false, false_implies, true_implies, forall_const, imp_self, true_or, or_true, eq_self, sI_zw, zw_zw, hI_zw, tg_zw, ln_zw, hR_zw, hL_zw, hN_zw, hM_zw, upd_s, upd_u, upd_ne, Classical.not_not, k_Hp_begin, x61]; try clear hgo9 hW9)
  have g := k.1.2.2.2.2.2.1
  have kk : HpR (zw h1 (A 0) (upd (hI h1 (A 0)) 6 (nI 0))) A z0 zs t n := by
    have fz : Fr 0 0 h1 (zw h1 (A 0) (upd (hI h1 (A 0)) 6 (nI 0))) := Fr.zw f1.2.2.2.2 (rt_gh a'.1.2)
    refine ⟨a', k1.frame f1.2.2.2.2 i0'.1 fz (a'.2.2.2.2.2.2.1 1 (by omega) (by omega) (by omega)), (k.2.2.1.frame hw f1 (g 2 1 (by omega) (by omega) (by omega) (by omega) (by omega) (by omega) (by omega))).congr rfl rfl, fun q => ?_, Or.inl ?_, (k.2.2.2.2.2.1.frame hw f1 (g 3 1 (by omega) (by omega) (by omega) (by omega) (by omega) (by omega) (by omega))).congr rfl rfl, (k.2.2.2.2.2.2.1.frame hw f1 (g 5 1 (by omega) (by omega) (by omega) (by omega) (by omega) (by omega) (by omega))).congr rfl rfl, ?_, k.2.2.2.2.2.2.2.2.1, fun q hq => ?_⟩
    · rw [hI_zw, upd_s] at q; exact absurd q (by decide)
    · rw [hI_zw, upd_s]
    · rw [hI_zw, upd_ne (by omega), e0]; exact k.2.2.2.2.2.2.2.1
    · rw [hI_zw_ne _ (HpR.ne07 a').symm, e7]; exact k.2.2.2.2.2.2.2.2.2 q hq
  exact hQ _ kk (by rw [hI_zw, upd_s]) (f1.X.tr (Fr.zw f1.2.2.2.2 (rt_gh a'.1.2)).X)
theorem c_Hp_addHost (A : Nat → Nat) (net : Int32) (z zs t : Nat → Int32) (n : Nat) (h : AH) (Q : Po) (k : HpR h A z zs t n) (iv : Inv z) (is : hI h (A 0) 6 = nI 1 → Inv zs)
    (q1 : ¬ NeZ z net → Q (.inr IOE) (nx h)) (q2 : NeZ z net → mny z = 10 → Q (.inr ISE) (nx h)) (q3 : NeZ z net → mny z < 10 → ∀ h', HpR h' A (addZ z net) zs t n → hI h' (A 0) 6 = hI h (A 0) 6 → FrX 1 h h' → Q (.inl (some (.int (nI (mny z))))) h') : Call l G M_Hp_addHost [.ref (A 0), .int net] h Q := by
  have x6 := k.1.1.1
  have x0 := k.1.2.1.1
  have w1 := k.2.1.1.1.1
  have w2 := k.2.1.2.1.1
  have hw := k.1.2.2.2.2.2.2.2
  have m10 := iv.1.1.at.2
  refine call_of rfl rfl (Nat.le_of_ble_eq_true rfl) ?_
  (obtain ⟨W9, hW9, hgo9⟩ := wp_ex (T_Hp_addHost l G) [] _; refine hgo9 200 _ _ _ _ ?_; simp -implicitDefEqProofs (disch := omega) only [hW9, inl, gate, Xq, tz_const, tz_iload, tz_lload, tz_dload, tz_aload, tz_istore, tz_astore, tz_lstore, tz_dstore, tz_iinc, tz_i1, tz_i2, tz_i2z, tz_l2, tz_l2z, tz_i2l, tz_l2i, tz_lcmp, tz_i2d, tz_d2, tz_dcmp, tz_dup, tz_dup2, tz_pop, tz_if, tz_icmp, tz_null, tz_goto, tz_sw, tz_getf, tz_puti, tz_putz, tz_putr, tz_putl, tz_iaload, tz_baload, tz_laload, tz_aaload, tz_iastore, tz_bastore, tz_lastore, tz_aastore, tz_alen, tz_new, tz_newa, tz_oinit, tz_iret, tz_zret, tz_lret, tz_dret, tz_aret, tz_vret, tz_throw, tz_callS, tz_callV, tz_callI, tz_callR, tz_pureS, tz_pureV, tz_callVH, lg, lset, lkill, lst1, lst2, entL, isRf, is1, vl, va_rf_none, va_rf_some, isRf_rf, is1_rf, i0, i1, bI_eq0, bI_eq1, nm_em, nI_eqP, nI_leP, nI_ltP, nN_e1, nN_e2, nN_l1, nN_l2, nN_l3, nN_l4, nI_add, pk_mul, vp_inN, nI_cl, n01, n10, P_i, P_ii, P_iii, f_Mo_at, f_Mo_map, f_Mo_contact, f_Mo_within, f_Mo_isPort, f_Hp_endpoint, f_Hp_nodeOf, f_Hp_portOf, f_Ma_max, f_Ma_min, f_Hp_isSetting, popN, rok, a1, noX, swc, mL, if_true, if_false, ↓reduceIte, cond_true, cond_false, true_and, and_true, List.length_cons, List.length_nil, List.nil_append, List.cons_append, List.append_nil, Option.toList, Nat.reduceEqDiff, Bool.false_eq_true, reduceCtorEq, Nat.reduceAdd, Nat.reduceLT, Nat.reduceLeDiff, Nat.reduceSub, List.replicate, Nat.zero_add, Nat.lt_add_one, Nat.le_refl, Nat.zero_le, Nat.succ_ne_zero, not_false_eq_true, not_true_eq_false, false_implies, true_implies, forall_const, imp_self, true_or, or_true, eq_self, sI_zw, zw_zw, hI_zw, tg_zw, ln_zw, hR_zw, hL_zw, hN_zw, hM_zw, upd_s, upd_u, upd_ne, Classical.not_not, k_Hp_addHost, x6]; try clear hgo9 hW9)
  refine c_Hp_checkNet A net z zs t n h _ k iv (fun c => ?_) (fun c => ?_)
  · simp only [aft]
    exact q1 c
  · simp only [aft]
    have hPf : P_Nw_isFull [.ref (A 1)] h := k.2.1.1.1
    by_cases f : mny z < 10
    · have e : f_Nw_isFull [.ref (A 1)] h = .int (nI 0) := by
        simp only [f_Nw_isFull]
        rw [w2, bI_f (fun q => q (by rw [nI_ltP (by omega) (by omega)]; exact f))]
      ((obtain ⟨W9, hW9, hgo9⟩ := wp_ex (T_Hp_addHost l G) [] _; refine hgo9 200 _ _ _ _ ?_; simp -implicitDefEqProofs (disch := omega) only [hW9, inl, gate, Xq, tz_const, tz_iload, tz_lload, tz_dload, tz_aload, tz_istore, tz_astore, tz_lstore, tz_dstore, tz_iinc, tz_i1, tz_i2, tz_i2z, tz_l2, tz_l2z, tz_i2l, tz_l2i, tz_lcmp, tz_i2d, tz_d2, tz_dcmp, tz_dup, tz_dup2, tz_pop, tz_if, tz_icmp, tz_null, tz_goto, tz_sw, tz_getf, tz_puti, tz_putz, tz_putr, tz_putl, tz_iaload, tz_baload, tz_laload, tz_aaload, tz_iastore, tz_bastore, tz_lastore, tz_aastore, tz_alen, tz_new, tz_newa, tz_oinit, tz_iret, tz_zret, tz_lret, tz_dret, tz_aret, tz_vret, tz_throw, tz_callS, tz_callV, tz_callI, tz_callR, tz_pureS, tz_pureV, tz_callVH, lg, lset, lkill, lst1, lst2, entL, isRf, is1, vl, va_rf_none, va_rf_some, isRf_rf, is1_rf, i0, i1, bI_eq0, bI_eq1, nm_em, nI_eqP, nI_leP, nI_ltP, nN_e1, nN_e2, nN_l1, nN_l2, nN_l3, nN_l4, nI_add, pk_mul, vp_inN, nI_cl, n01, n10, P_i, P_ii, P_iii, f_Mo_at, f_Mo_map, f_Mo_contact, f_Mo_within, f_Mo_isPort, f_Hp_endpoint, f_Hp_nodeOf, f_Hp_portOf, f_Ma_max, f_Ma_min, f_Hp_isSetting, popN, rok, a1, noX, swc, mL, if_true, if_false, ↓reduceIte, cond_true, cond_false, true_and, and_true, List.length_cons, List.length_nil, List.nil_append, List.cons_append, List.append_nil, Option.toList, Nat.reduceEqDiff, Bool.false_eq_true, reduceCtorEq, Nat.reduceAdd, Nat.reduceLT, Nat.reduceLeDiff, Nat.reduceSub, List.replicate, Nat.zero_add, Nat.lt_add_one, Nat.le_refl, Nat.zero_le, Nat.succ_ne_zero, not_false_eq_true, not_true_eq_false, false_implies, true_implies, forall_const, imp_self, true_or, or_true, eq_self, sI_zw, zw_zw, hI_zw, tg_zw, ln_zw, hR_zw, hL_zw, hN_zw, hM_zw, upd_s, upd_u, upd_ne, Classical.not_not, k_Hp_addHost, x6, x0, w1, hPf, e]; try clear hgo9 hW9); try (obtain ⟨W9, hW9, hgo9⟩ := wp_ex (T_Hp_addHost l G) [] _; refine hgo9 200 _ _ _ _ ?_; simp -implicitDefEqProofs (disch := omega) only [hW9, inl, gate, Xq, tz_const, tz_iload, tz_lload, tz_dload, tz_aload, tz_istore, tz_astore, tz_lstore, tz_dstore, tz_iinc, tz_i1, tz_i2, tz_i2z, tz_l2, tz_l2z, tz_i2l, tz_l2i, tz_lcmp, tz_i2d, tz_d2, tz_dcmp, tz_dup, tz_dup2, tz_pop, tz_if, tz_icmp, tz_null, tz_goto, tz_sw, tz_getf, tz_puti, tz_putz, tz_putr, tz_putl, tz_iaload, tz_baload, tz_laload, tz_aaload, tz_iastore, tz_bastore, tz_lastore, tz_aastore, tz_alen, tz_new, tz_newa, tz_oinit, tz_iret, tz_zret, tz_lret, tz_dret, tz_aret, tz_vret, tz_throw, tz_callS, tz_callV, tz_callI, tz_callR, tz_pureS, tz_pureV, tz_callVH, lg, lset, lkill, lst1, lst2, entL, isRf, is1, vl, va_rf_none, va_rf_some, isRf_rf, is1_rf, i0, i1, bI_eq0, bI_eq1, nm_em, nI_eqP, nI_leP, nI_ltP, nN_e1, nN_e2, nN_l1, nN_l2, nN_l3, nN_l4, nI_add, pk_mul, vp_inN, nI_cl, n01, n10, P_i, P_ii, P_iii, f_Mo_at, f_Mo_map, f_Mo_contact, f_Mo_within, f_Mo_isPort, f_Hp_endpoint, f_Hp_nodeOf, f_Hp_portOf, f_Ma_max, f_Ma_min, f_Hp_isSetting, popN, rok, a1, noX, swc, mL, if_true, if_false, ↓reduceIte, cond_true, cond_false, true_and, and_true, List.length_cons, List.length_nil, List.nil_append, List.cons_append, List.append_nil, Option.toList, Nat.reduceEqDiff, Bool.false_eq_true, reduceCtorEq, Nat.reduceAdd, Nat.reduceLT, Nat.reduceLeDiff, Nat.reduceSub, List.replicate, Nat.zero_add, Nat.lt_add_one, Nat.le_refl, Nat.zero_le, Nat.succ_ne_zero, not_false_eq_true, not_true_eq_false, false_implies, true_implies, forall_const, imp_self, true_or, or_true, eq_self, sI_zw, zw_zw, hI_zw, tg_zw, ln_zw, hR_zw, hL_zw, hN_zw, hM_zw, upd_s, upd_u, upd_ne, Classical.not_not, k_Hp_addHost, x6, x0, w1, hPf, e]; try clear hgo9 hW9))
      refine c_Nw_newHost (A 1) net z h _ hw iv.1 k.2.1 f (fun h1 k1 f1 => ?_)
      simp only [aft]
      have a' := (k.1.own f1 (k.1.2.2.2.2.2.2.1 1 (by omega) (by omega) (by omega)))
      have x61 := a'.1.1.1
      (obtain ⟨W9, hW9, hgo9⟩ := wp_ex (T_Hp_addHost l G) [] _; refine hgo9 200 _ _ _ _ ?_; simp -implicitDefEqProofs (disch := omega) only [hW9, inl, gate, Xq, tz_const, tz_iload, tz_lload, tz_dload, tz_aload, tz_istore, tz_astore, tz_lstore, tz_dstore, tz_iinc, tz_i1, tz_i2, tz_i2z, tz_l2, tz_l2z, tz_i2l, tz_l2i, tz_lcmp, tz_i2d, tz_d2, tz_dcmp, tz_dup, tz_dup2, tz_pop, tz_if, tz_icmp, tz_null, tz_goto, tz_sw, tz_getf, tz_puti, tz_putz, tz_putr, tz_putl, tz_iaload, tz_baload, tz_laload, tz_aaload, tz_iastore, tz_bastore, tz_lastore, tz_aastore, tz_alen, tz_new, tz_newa, tz_oinit, tz_iret, tz_zret, tz_lret, tz_dret, tz_aret, tz_vret, tz_throw, tz_callS, tz_callV, tz_callI, tz_callR, tz_pureS, tz_pureV, tz_callVH, lg, lset, lkill, lst1, lst2, entL, isRf, is1, vl, va_rf_none, va_rf_some, isRf_rf, is1_rf, i0, i1, bI_eq0, bI_eq1, nm_em, nI_eqP, nI_leP, nI_ltP, nN_e1, nN_e2, nN_l1, nN_l2, nN_l3, nN_l4, nI_add, pk_mul, vp_inN, nI_cl, n01, n10, P_i, P_ii, P_iii, f_Mo_at, f_Mo_map, f_Mo_contact, f_Mo_within, f_Mo_isPort, f_Hp_endpoint, f_Hp_nodeOf, f_Hp_portOf, f_Ma_max, f_Ma_min, f_Hp_isSetting, popN, rok, a1, noX, swc, mL, if_true, if_false, ↓reduceIte, cond_true, cond_false, true_and, and_true, List.length_cons, List.length_nil, List.nil_append, List.cons_append, List.append_nil, Option.toList, Nat.reduceEqDiff, Bool.false_eq_true, reduceCtorEq, Nat.reduceAdd, Nat.reduceLT, Nat.reduceLeDiff, Nat.reduceSub, List.replicate, Nat.zero_add, Nat.lt_add_one, Nat.le_refl, Nat.zero_le, Nat.succ_ne_zero, not_false_eq_true, not_true_eq_false, false_implies, true_implies, forall_const, imp_self, true_or, or_true, eq_self, sI_zw, zw_zw, hI_zw, tg_zw, ln_zw, hR_zw, hL_zw, hN_zw, hM_zw, upd_s, upd_u, upd_ne, Classical.not_not, k_Hp_addHost, x61]; try clear hgo9 hW9)
      exact q3 c f h1 (k.net is f1 k1) (by rw [a'.2.1]) f1.X
    · have e : f_Nw_isFull [.ref (A 1)] h = .int (nI 1) := by
        simp only [f_Nw_isFull]
        rw [w2, bI_t (by rw [nI_ltP (by omega) (by omega)]; exact f)]
      ((obtain ⟨W9, hW9, hgo9⟩ := wp_ex (T_Hp_addHost l G) [] _; refine hgo9 200 _ _ _ _ ?_; simp -implicitDefEqProofs (disch := omega) only [hW9, inl, gate, Xq, tz_const, tz_iload, tz_lload, tz_dload, tz_aload, tz_istore, tz_astore, tz_lstore, tz_dstore, tz_iinc, tz_i1, tz_i2, tz_i2z, tz_l2, tz_l2z, tz_i2l, tz_l2i, tz_lcmp, tz_i2d, tz_d2, tz_dcmp, tz_dup, tz_dup2, tz_pop, tz_if, tz_icmp, tz_null, tz_goto, tz_sw, tz_getf, tz_puti, tz_putz, tz_putr, tz_putl, tz_iaload, tz_baload, tz_laload, tz_aaload, tz_iastore, tz_bastore, tz_lastore, tz_aastore, tz_alen, tz_new, tz_newa, tz_oinit, tz_iret, tz_zret, tz_lret, tz_dret, tz_aret, tz_vret, tz_throw, tz_callS, tz_callV, tz_callI, tz_callR, tz_pureS, tz_pureV, tz_callVH, lg, lset, lkill, lst1, lst2, entL, isRf, is1, vl, va_rf_none, va_rf_some, isRf_rf, is1_rf, i0, i1, bI_eq0, bI_eq1, nm_em, nI_eqP, nI_leP, nI_ltP, nN_e1, nN_e2, nN_l1, nN_l2, nN_l3, nN_l4, nI_add, pk_mul, vp_inN, nI_cl, n01, n10, P_i, P_ii, P_iii, f_Mo_at, f_Mo_map, f_Mo_contact, f_Mo_within, f_Mo_isPort, f_Hp_endpoint, f_Hp_nodeOf, f_Hp_portOf, f_Ma_max, f_Ma_min, f_Hp_isSetting, popN, rok, a1, noX, swc, mL, if_true, if_false, ↓reduceIte, cond_true, cond_false, true_and, and_true, List.length_cons, List.length_nil, List.nil_append, List.cons_append, List.append_nil, Option.toList, Nat.reduceEqDiff, Bool.false_eq_true, reduceCtorEq, Nat.reduceAdd, Nat.reduceLT, Nat.reduceLeDiff, Nat.reduceSub, List.replicate, Nat.zero_add, Nat.lt_add_one, Nat.le_refl, Nat.zero_le, Nat.succ_ne_zero, not_false_eq_true, not_true_eq_false, false_implies, true_implies, forall_const, imp_self, true_or, or_true, eq_self, sI_zw, zw_zw, hI_zw, tg_zw, ln_zw, hR_zw, hL_zw, hN_zw, hM_zw, upd_s, upd_u, upd_ne, Classical.not_not, k_Hp_addHost, x6, x0, w1, hPf, e]; try clear hgo9 hW9); try (obtain ⟨W9, hW9, hgo9⟩ := wp_ex (T_Hp_addHost l G) [] _; refine hgo9 200 _ _ _ _ ?_; simp -implicitDefEqProofs (disch := omega) only [hW9, inl, gate, Xq, tz_const, tz_iload, tz_lload, tz_dload, tz_aload, tz_istore, tz_astore, tz_lstore, tz_dstore, tz_iinc, tz_i1, tz_i2, tz_i2z, tz_l2, tz_l2z, tz_i2l, tz_l2i, tz_lcmp, tz_i2d, tz_d2, tz_dcmp, tz_dup, tz_dup2, tz_pop, tz_if, tz_icmp, tz_null, tz_goto, tz_sw, tz_getf, tz_puti, tz_putz, tz_putr, tz_putl, tz_iaload, tz_baload, tz_laload, tz_aaload, tz_iastore, tz_bastore, tz_lastore, tz_aastore, tz_alen, tz_new, tz_newa, tz_oinit, tz_iret, tz_zret, tz_lret, tz_dret, tz_aret, tz_vret, tz_throw, tz_callS, tz_callV, tz_callI, tz_callR, tz_pureS, tz_pureV, tz_callVH, lg, lset, lkill, lst1, lst2, entL, isRf, is1, vl, va_rf_none, va_rf_some, isRf_rf, is1_rf, i0, i1, bI_eq0, bI_eq1, nm_em, nI_eqP, nI_leP, nI_ltP, nN_e1, nN_e2, nN_l1, nN_l2, nN_l3, nN_l4, nI_add, pk_mul, vp_inN, nI_cl, n01, n10, P_i, P_ii, P_iii, f_Mo_at, f_Mo_map, f_Mo_contact, f_Mo_within, f_Mo_isPort, f_Hp_endpoint, f_Hp_nodeOf, f_Hp_portOf, f_Ma_max, f_Ma_min, f_Hp_isSetting, popN, rok, a1, noX, swc, mL, if_true, if_false, ↓reduceIte, cond_true, cond_false, true_and, and_true, List.length_cons, List.length_nil, List.nil_append, List.cons_append, List.append_nil, Option.toList, Nat.reduceEqDiff, Bool.false_eq_true, reduceCtorEq, Nat.reduceAdd, Nat.reduceLT, Nat.reduceLeDiff, Nat.reduceSub, List.replicate, Nat.zero_add, Nat.lt_add_one, Nat.le_refl, Nat.zero_le, Nat.succ_ne_zero, not_false_eq_true, not_true_eq_false, false_implies, true_implies, forall_const, imp_self, true_or, or_true, eq_self, sI_zw, zw_zw, hI_zw, tg_zw, ln_zw, hR_zw, hL_zw, hN_zw, hM_zw, upd_s, upd_u, upd_ne, Classical.not_not, k_Hp_addHost, x6, x0, w1, hPf, e]; try clear hgo9 hW9))
      exact q2 c (by omega)
theorem c_Hp_addTranslator (A : Nat → Nat) (net a b c : Int32) (z zs t : Nat → Int32) (n : Nat) (h : AH) (Q : Po) (k : HpR h A z zs t n) (iv : Inv z) (is : hI h (A 0) 6 = nI 1 → Inv zs)
    (q1 : ¬ NeZ z net → Q (.inr IOE) (nx h)) (q2 : NeZ z net → ¬ (set3 a ∧ set3 b ∧ set3 c) → Q (.inr IAE) (nx h)) (q3 : NeZ z net → set3 a → set3 b → set3 c → mny z = 10 → Q (.inr ISE) (nx h)) (q4 : NeZ z net → set3 a → set3 b → set3 c → mny z < 10 → ∀ h', HpR h' A (addTZ z net a b c) zs t n → hI h' (A 0) 6 = hI h (A 0) 6 → FrX 3 h h' → Q (.inl (some (.int (nI (mny z))))) h') : Call l G M_Hp_addTranslator [.ref (A 0), .int net, .int a, .int b, .int c] h Q := by
  have x6 := k.1.1.1
  have x0 := k.1.2.1.1
  have w1 := k.2.1.1.1.1
  have w2 := k.2.1.2.1.1
  have hw := k.1.2.2.2.2.2.2.2
  have m10 := iv.1.1.at.2
  have hPw : ∀ a b c : Int32, P_Hp_isWithin [.int a, .int b, .int c] h := fun _ _ _ => trivial
  refine call_of rfl rfl (Nat.le_of_ble_eq_true rfl) ?_
  (obtain ⟨W9, hW9, hgo9⟩ := wp_ex (T_Hp_addTranslator l G) [] _; refine hgo9 200 _ _ _ _ ?_; simp -implicitDefEqProofs (disch := omega) only [hW9, inl, gate, Xq, tz_const, tz_iload, tz_lload, tz_dload, tz_aload, tz_istore, tz_astore, tz_lstore, tz_dstore, tz_iinc, tz_i1, tz_i2, tz_i2z, tz_l2, tz_l2z, tz_i2l, tz_l2i, tz_lcmp, tz_i2d, tz_d2, tz_dcmp, tz_dup, tz_dup2, tz_pop, tz_if, tz_icmp, tz_null, tz_goto, tz_sw, tz_getf, tz_puti, tz_putz, tz_putr, tz_putl, tz_iaload, tz_baload, tz_laload, tz_aaload, tz_iastore, tz_bastore, tz_lastore, tz_aastore, tz_alen, tz_new, tz_newa, tz_oinit, tz_iret, tz_zret, tz_lret, tz_dret, tz_aret, tz_vret, tz_throw, tz_callS, tz_callV, tz_callI, tz_callR, tz_pureS, tz_pureV, tz_callVH, lg, lset, lkill, lst1, lst2, entL, isRf, is1, vl, va_rf_none, va_rf_some, isRf_rf, is1_rf, i0, i1, bI_eq0, bI_eq1, nm_em, nI_eqP, nI_leP, nI_ltP, nN_e1, nN_e2, nN_l1, nN_l2, nN_l3, nN_l4, nI_add, pk_mul, vp_inN, nI_cl, n01, n10, P_i, P_ii, P_iii, f_Mo_at, f_Mo_map, f_Mo_contact, f_Mo_within, f_Mo_isPort, f_Hp_endpoint, f_Hp_nodeOf, f_Hp_portOf, f_Ma_max, f_Ma_min, f_Hp_isSetting, popN, rok, a1, noX, swc, mL, if_true, if_false, ↓reduceIte, cond_true, cond_false, true_and, and_true, List.length_cons, List.length_nil, List.nil_append, List.cons_append, List.append_nil, Option.toList, Nat.reduceEqDiff, Bool.false_eq_true, reduceCtorEq, Nat.reduceAdd, Nat.reduceLT, Nat.reduceLeDiff, Nat.reduceSub, List.replicate, Nat.zero_add, Nat.lt_add_one, Nat.le_refl, Nat.zero_le, Nat.succ_ne_zero, not_false_eq_true, not_true_eq_false, false_implies, true_implies, forall_const, imp_self, true_or, or_true, eq_self, sI_zw, zw_zw, hI_zw, tg_zw, ln_zw, hR_zw, hL_zw, hN_zw, hM_zw, upd_s, upd_u, upd_ne, Classical.not_not, k_Hp_addTranslator, x6]; try clear hgo9 hW9)
  refine c_Hp_checkNet A net z zs t n h _ k iv (fun c' => ?_) (fun cn => ?_)
  · simp only [aft]
    exact q1 c'
  · simp only [aft]
    have no : ¬ (set3 a ∧ set3 b ∧ set3 c) → AWp l G M_Hp_addTranslator 33 [some (.ref (A 0)), some (.int net), some (.int a), some (.int b), some (.int c)] [] h Q := by
      intro w
      (obtain ⟨W9, hW9, hgo9⟩ := wp_ex (T_Hp_addTranslator l G) [] _; refine hgo9 200 _ _ _ _ ?_; simp -implicitDefEqProofs (disch := omega) only [hW9, inl, gate, Xq, tz_const, tz_iload, tz_lload, tz_dload, tz_aload, tz_istore, tz_astore, tz_lstore, tz_dstore, tz_iinc, tz_i1, tz_i2, tz_i2z, tz_l2, tz_l2z, tz_i2l, tz_l2i, tz_lcmp, tz_i2d, tz_d2, tz_dcmp, tz_dup, tz_dup2, tz_pop, tz_if, tz_icmp, tz_null, tz_goto, tz_sw, tz_getf, tz_puti, tz_putz, tz_putr, tz_putl, tz_iaload, tz_baload, tz_laload, tz_aaload, tz_iastore, tz_bastore, tz_lastore, tz_aastore, tz_alen, tz_new, tz_newa, tz_oinit, tz_iret, tz_zret, tz_lret, tz_dret, tz_aret, tz_vret, tz_throw, tz_callS, tz_callV, tz_callI, tz_callR, tz_pureS, tz_pureV, tz_callVH, lg, lset, lkill, lst1, lst2, entL, isRf, is1, vl, va_rf_none, va_rf_some, isRf_rf, is1_rf, i0, i1, bI_eq0, bI_eq1, nm_em, nI_eqP, nI_leP, nI_ltP, nN_e1, nN_e2, nN_l1, nN_l2, nN_l3, nN_l4, nI_add, pk_mul, vp_inN, nI_cl, n01, n10, P_i, P_ii, P_iii, f_Mo_at, f_Mo_map, f_Mo_contact, f_Mo_within, f_Mo_isPort, f_Hp_endpoint, f_Hp_nodeOf, f_Hp_portOf, f_Ma_max, f_Ma_min, f_Hp_isSetting, popN, rok, a1, noX, swc, mL, if_true, if_false, ↓reduceIte, cond_true, cond_false, true_and, and_true, List.length_cons, List.length_nil, List.nil_append, List.cons_append, List.append_nil, Option.toList, Nat.reduceEqDiff, Bool.false_eq_true, reduceCtorEq, Nat.reduceAdd, Nat.reduceLT, Nat.reduceLeDiff, Nat.reduceSub, List.replicate, Nat.zero_add, Nat.lt_add_one, Nat.le_refl, Nat.zero_le, Nat.succ_ne_zero, not_false_eq_true, not_true_eq_false, false_implies, true_implies, forall_const, imp_self, true_or, or_true, eq_self, sI_zw, zw_zw, hI_zw, tg_zw, ln_zw, hR_zw, hL_zw, hN_zw, hM_zw, upd_s, upd_u, upd_ne, Classical.not_not, k_Hp_addTranslator, x6]; try clear hgo9 hW9)
      exact q2 cn w
    (obtain ⟨W9, hW9, hgo9⟩ := wp_ex (T_Hp_addTranslator l G) [33] _; refine hgo9 200 _ _ _ _ ?_; simp -implicitDefEqProofs (disch := omega) only [hW9, inl, gate, Xq, tz_const, tz_iload, tz_lload, tz_dload, tz_aload, tz_istore, tz_astore, tz_lstore, tz_dstore, tz_iinc, tz_i1, tz_i2, tz_i2z, tz_l2, tz_l2z, tz_i2l, tz_l2i, tz_lcmp, tz_i2d, tz_d2, tz_dcmp, tz_dup, tz_dup2, tz_pop, tz_if, tz_icmp, tz_null, tz_goto, tz_sw, tz_getf, tz_puti, tz_putz, tz_putr, tz_putl, tz_iaload, tz_baload, tz_laload, tz_aaload, tz_iastore, tz_bastore, tz_lastore, tz_aastore, tz_alen, tz_new, tz_newa, tz_oinit, tz_iret, tz_zret, tz_lret, tz_dret, tz_aret, tz_vret, tz_throw, tz_callS, tz_callV, tz_callI, tz_callR, tz_pureS, tz_pureV, tz_callVH, lg, lset, lkill, lst1, lst2, entL, isRf, is1, vl, va_rf_none, va_rf_some, isRf_rf, is1_rf, i0, i1, bI_eq0, bI_eq1, nm_em, nI_eqP, nI_leP, nI_ltP, nN_e1, nN_e2, nN_l1, nN_l2, nN_l3, nN_l4, nI_add, pk_mul, vp_inN, nI_cl, n01, n10, P_i, P_ii, P_iii, f_Mo_at, f_Mo_map, f_Mo_contact, f_Mo_within, f_Mo_isPort, f_Hp_endpoint, f_Hp_nodeOf, f_Hp_portOf, f_Ma_max, f_Ma_min, f_Hp_isSetting, popN, rok, a1, noX, swc, mL, if_true, if_false, ↓reduceIte, cond_true, cond_false, true_and, and_true, List.length_cons, List.length_nil, List.nil_append, List.cons_append, List.append_nil, Option.toList, Nat.reduceEqDiff, Bool.false_eq_true, reduceCtorEq, Nat.reduceAdd, Nat.reduceLT, Nat.reduceLeDiff, Nat.reduceSub, List.replicate, Nat.zero_add, Nat.lt_add_one, Nat.le_refl, Nat.zero_le, Nat.succ_ne_zero, not_false_eq_true, not_true_eq_false, false_implies, true_implies, forall_const, imp_self, true_or, or_true, eq_self, sI_zw, zw_zw, hI_zw, tg_zw, ln_zw, hR_zw, hL_zw, hN_zw, hM_zw, upd_s, upd_u, upd_ne, Classical.not_not, k_Hp_addTranslator, x6, f_Hp_isWithin]; try clear hgo9 hW9)
    refine ⟨fun c1 => no (fun q => c1 q.1), fun c1 => ?_⟩
    (obtain ⟨W9, hW9, hgo9⟩ := wp_ex (T_Hp_addTranslator l G) [33] _; refine hgo9 200 _ _ _ _ ?_; simp -implicitDefEqProofs (disch := omega) only [hW9, inl, gate, Xq, tz_const, tz_iload, tz_lload, tz_dload, tz_aload, tz_istore, tz_astore, tz_lstore, tz_dstore, tz_iinc, tz_i1, tz_i2, tz_i2z, tz_l2, tz_l2z, tz_i2l, tz_l2i, tz_lcmp, tz_i2d, tz_d2, tz_dcmp, tz_dup, tz_dup2, tz_pop, tz_if, tz_icmp, tz_null, tz_goto, tz_sw, tz_getf, tz_puti, tz_putz, tz_putr, tz_putl, tz_iaload, tz_baload, tz_laload, tz_aaload, tz_iastore, tz_bastore, tz_lastore, tz_aastore, tz_alen, tz_new, tz_newa, tz_oinit, tz_iret, tz_zret, tz_lret, tz_dret, tz_aret, tz_vret, tz_throw, tz_callS, tz_callV, tz_callI, tz_callR, tz_pureS, tz_pureV, tz_callVH, lg, lset, lkill, lst1, lst2, entL, isRf, is1, vl, va_rf_none, va_rf_some, isRf_rf, is1_rf, i0, i1, bI_eq0, bI_eq1, nm_em, nI_eqP, nI_leP, nI_ltP, nN_e1, nN_e2, nN_l1, nN_l2, nN_l3, nN_l4, nI_add, pk_mul, vp_inN, nI_cl, n01, n10, P_i, P_ii, P_iii, f_Mo_at, f_Mo_map, f_Mo_contact, f_Mo_within, f_Mo_isPort, f_Hp_endpoint, f_Hp_nodeOf, f_Hp_portOf, f_Ma_max, f_Ma_min, f_Hp_isSetting, popN, rok, a1, noX, swc, mL, if_true, if_false, ↓reduceIte, cond_true, cond_false, true_and, and_true, List.length_cons, List.length_nil, List.nil_append, List.cons_append, List.append_nil, Option.toList, Nat.reduceEqDiff, Bool.false_eq_true, reduceCtorEq, Nat.reduceAdd, Nat.reduceLT, Nat.reduceLeDiff, Nat.reduceSub, List.replicate, Nat.zero_add, Nat.lt_add_one, Nat.le_refl, Nat.zero_le, Nat.succ_ne_zero, not_false_eq_true, not_true_eq_false, false_implies, true_implies, forall_const, imp_self, true_or, or_true, eq_self, sI_zw, zw_zw, hI_zw, tg_zw, ln_zw, hR_zw, hL_zw, hN_zw, hM_zw, upd_s, upd_u, upd_ne, Classical.not_not, k_Hp_addTranslator, x6, f_Hp_isWithin]; try clear hgo9 hW9)
    refine ⟨fun c2 => no (fun q => c2 q.2.1), fun c2 => ?_⟩
    (obtain ⟨W9, hW9, hgo9⟩ := wp_ex (T_Hp_addTranslator l G) [33] _; refine hgo9 200 _ _ _ _ ?_; simp -implicitDefEqProofs (disch := omega) only [hW9, inl, gate, Xq, tz_const, tz_iload, tz_lload, tz_dload, tz_aload, tz_istore, tz_astore, tz_lstore, tz_dstore, tz_iinc, tz_i1, tz_i2, tz_i2z, tz_l2, tz_l2z, tz_i2l, tz_l2i, tz_lcmp, tz_i2d, tz_d2, tz_dcmp, tz_dup, tz_dup2, tz_pop, tz_if, tz_icmp, tz_null, tz_goto, tz_sw, tz_getf, tz_puti, tz_putz, tz_putr, tz_putl, tz_iaload, tz_baload, tz_laload, tz_aaload, tz_iastore, tz_bastore, tz_lastore, tz_aastore, tz_alen, tz_new, tz_newa, tz_oinit, tz_iret, tz_zret, tz_lret, tz_dret, tz_aret, tz_vret, tz_throw, tz_callS, tz_callV, tz_callI, tz_callR, tz_pureS, tz_pureV, tz_callVH, lg, lset, lkill, lst1, lst2, entL, isRf, is1, vl, va_rf_none, va_rf_some, isRf_rf, is1_rf, i0, i1, bI_eq0, bI_eq1, nm_em, nI_eqP, nI_leP, nI_ltP, nN_e1, nN_e2, nN_l1, nN_l2, nN_l3, nN_l4, nI_add, pk_mul, vp_inN, nI_cl, n01, n10, P_i, P_ii, P_iii, f_Mo_at, f_Mo_map, f_Mo_contact, f_Mo_within, f_Mo_isPort, f_Hp_endpoint, f_Hp_nodeOf, f_Hp_portOf, f_Ma_max, f_Ma_min, f_Hp_isSetting, popN, rok, a1, noX, swc, mL, if_true, if_false, ↓reduceIte, cond_true, cond_false, true_and, and_true, List.length_cons, List.length_nil, List.nil_append, List.cons_append, List.append_nil, Option.toList, Nat.reduceEqDiff, Bool.false_eq_true, reduceCtorEq, Nat.reduceAdd, Nat.reduceLT, Nat.reduceLeDiff, Nat.reduceSub, List.replicate, Nat.zero_add, Nat.lt_add_one, Nat.le_refl, Nat.zero_le, Nat.succ_ne_zero, not_false_eq_true, not_true_eq_false, false_implies, true_implies, forall_const, imp_self, true_or, or_true, eq_self, sI_zw, zw_zw, hI_zw, tg_zw, ln_zw, hR_zw, hL_zw, hN_zw, hM_zw, upd_s, upd_u, upd_ne, Classical.not_not, k_Hp_addTranslator, x6, f_Hp_isWithin]; try clear hgo9 hW9)
    refine ⟨fun c3 => ?_, fun c3 => no (fun q => c3 q.2.2)⟩
    have hPf : P_Nw_isFull [.ref (A 1)] h := k.2.1.1.1
    by_cases f : mny z < 10
    · have e : f_Nw_isFull [.ref (A 1)] h = .int (nI 0) := by
        simp only [f_Nw_isFull]
        rw [w2, bI_f (fun q => q (by rw [nI_ltP (by omega) (by omega)]; exact f))]
      ((obtain ⟨W9, hW9, hgo9⟩ := wp_ex (T_Hp_addTranslator l G) [] _; refine hgo9 200 _ _ _ _ ?_; simp -implicitDefEqProofs (disch := omega) only [hW9, inl, gate, Xq, tz_const, tz_iload, tz_lload, tz_dload, tz_aload, tz_istore, tz_astore, tz_lstore, tz_dstore, tz_iinc, tz_i1, tz_i2, tz_i2z, tz_l2, tz_l2z, tz_i2l, tz_l2i, tz_lcmp, tz_i2d, tz_d2, tz_dcmp, tz_dup, tz_dup2, tz_pop, tz_if, tz_icmp, tz_null, tz_goto, tz_sw, tz_getf, tz_puti, tz_putz, tz_putr, tz_putl, tz_iaload, tz_baload, tz_laload, tz_aaload, tz_iastore, tz_bastore, tz_lastore, tz_aastore, tz_alen, tz_new, tz_newa, tz_oinit, tz_iret, tz_zret, tz_lret, tz_dret, tz_aret, tz_vret, tz_throw, tz_callS, tz_callV, tz_callI, tz_callR, tz_pureS, tz_pureV, tz_callVH, lg, lset, lkill, lst1, lst2, entL, isRf, is1, vl, va_rf_none, va_rf_some, isRf_rf, is1_rf, i0, i1, bI_eq0, bI_eq1, nm_em, nI_eqP, nI_leP, nI_ltP, nN_e1, nN_e2, nN_l1, nN_l2, nN_l3, nN_l4, nI_add, pk_mul, vp_inN, nI_cl, n01, n10, P_i, P_ii, P_iii, f_Mo_at, f_Mo_map, f_Mo_contact, f_Mo_within, f_Mo_isPort, f_Hp_endpoint, f_Hp_nodeOf, f_Hp_portOf, f_Ma_max, f_Ma_min, f_Hp_isSetting, popN, rok, a1, noX, swc, mL, if_true, if_false, ↓reduceIte, cond_true, cond_false, true_and, and_true, List.length_cons, List.length_nil, List.nil_append, List.cons_append, List.append_nil, Option.toList, Nat.reduceEqDiff, Bool.false_eq_true, reduceCtorEq, Nat.reduceAdd, Nat.reduceLT, Nat.reduceLeDiff, Nat.reduceSub, List.replicate, Nat.zero_add, Nat.lt_add_one, Nat.le_refl, Nat.zero_le, Nat.succ_ne_zero, not_false_eq_true, not_true_eq_false, false_implies, true_implies, forall_const, imp_self, true_or, or_true, eq_self, sI_zw, zw_zw, hI_zw, tg_zw, ln_zw, hR_zw, hL_zw, hN_zw, hM_zw, upd_s, upd_u, upd_ne, Classical.not_not, k_Hp_addTranslator, x6, x0, w1, hPf, e]; try clear hgo9 hW9); try (obtain ⟨W9, hW9, hgo9⟩ := wp_ex (T_Hp_addTranslator l G) [] _; refine hgo9 200 _ _ _ _ ?_; simp -implicitDefEqProofs (disch := omega) only [hW9, inl, gate, Xq, tz_const, tz_iload, tz_lload, tz_dload, tz_aload, tz_istore, tz_astore, tz_lstore, tz_dstore, tz_iinc, tz_i1, tz_i2, tz_i2z, tz_l2, tz_l2z, tz_i2l, tz_l2i, tz_lcmp, tz_i2d, tz_d2, tz_dcmp, tz_dup, tz_dup2, tz_pop, tz_if, tz_icmp, tz_null, tz_goto, tz_sw, tz_getf, tz_puti, tz_putz, tz_putr, tz_putl, tz_iaload, tz_baload, tz_laload, tz_aaload, tz_iastore, tz_bastore, tz_lastore, tz_aastore, tz_alen, tz_new, tz_newa, tz_oinit, tz_iret, tz_zret, tz_lret, tz_dret, tz_aret, tz_vret, tz_throw, tz_callS, tz_callV, tz_callI, tz_callR, tz_pureS, tz_pureV, tz_callVH, lg, lset, lkill, lst1, lst2, entL, isRf, is1, vl, va_rf_none, va_rf_some, isRf_rf, is1_rf, i0, i1, bI_eq0, bI_eq1, nm_em, nI_eqP, nI_leP, nI_ltP, nN_e1, nN_e2, nN_l1, nN_l2, nN_l3, nN_l4, nI_add, pk_mul, vp_inN, nI_cl, n01, n10, P_i, P_ii, P_iii, f_Mo_at, f_Mo_map, f_Mo_contact, f_Mo_within, f_Mo_isPort, f_Hp_endpoint, f_Hp_nodeOf, f_Hp_portOf, f_Ma_max, f_Ma_min, f_Hp_isSetting, popN, rok, a1, noX, swc, mL, if_true, if_false, ↓reduceIte, cond_true, cond_false, true_and, and_true, List.length_cons, List.length_nil, List.nil_append, List.cons_append, List.append_nil, Option.toList, Nat.reduceEqDiff, Bool.false_eq_true, reduceCtorEq, Nat.reduceAdd, Nat.reduceLT, Nat.reduceLeDiff, Nat.reduceSub, List.replicate, Nat.zero_add, Nat.lt_add_one, Nat.le_refl, Nat.zero_le, Nat.succ_ne_zero, not_false_eq_true, not_true_eq_false, false_implies, true_implies, forall_const, imp_self, true_or, or_true, eq_self, sI_zw, zw_zw, hI_zw, tg_zw, ln_zw, hR_zw, hL_zw, hN_zw, hM_zw, upd_s, upd_u, upd_ne, Classical.not_not, k_Hp_addTranslator, x6, x0, w1, hPf, e]; try clear hgo9 hW9))
      refine c_Nw_newTranslator (A 1) net a b c z h _ hw iv.1 k.2.1 f (fun h1 k1 f1 => ?_)
      simp only [aft]
      have a' := (k.1.own f1 (k.1.2.2.2.2.2.2.1 1 (by omega) (by omega) (by omega)))
      have x61 := a'.1.1.1
      (obtain ⟨W9, hW9, hgo9⟩ := wp_ex (T_Hp_addTranslator l G) [] _; refine hgo9 200 _ _ _ _ ?_; simp -implicitDefEqProofs (disch := omega) only [hW9, inl, gate, Xq, tz_const, tz_iload, tz_lload, tz_dload, tz_aload, tz_istore, tz_astore, tz_lstore, tz_dstore, tz_iinc, tz_i1, tz_i2, tz_i2z, tz_l2, tz_l2z, tz_i2l, tz_l2i, tz_lcmp, tz_i2d, tz_d2, tz_dcmp, tz_dup, tz_dup2, tz_pop, tz_if, tz_icmp, tz_null, tz_goto, tz_sw, tz_getf, tz_puti, tz_putz, tz_putr, tz_putl, tz_iaload, tz_baload, tz_laload, tz_aaload, tz_iastore, tz_bastore, tz_lastore, tz_aastore, tz_alen, tz_new, tz_newa, tz_oinit, tz_iret, tz_zret, tz_lret, tz_dret, tz_aret, tz_vret, tz_throw, tz_callS, tz_callV, tz_callI, tz_callR, tz_pureS, tz_pureV, tz_callVH, lg, lset, lkill, lst1, lst2, entL, isRf, is1, vl, va_rf_none, va_rf_some, isRf_rf, is1_rf, i0, i1, bI_eq0, bI_eq1, nm_em, nI_eqP, nI_leP, nI_ltP, nN_e1, nN_e2, nN_l1, nN_l2, nN_l3, nN_l4, nI_add, pk_mul, vp_inN, nI_cl, n01, n10, P_i, P_ii, P_iii, f_Mo_at, f_Mo_map, f_Mo_contact, f_Mo_within, f_Mo_isPort, f_Hp_endpoint, f_Hp_nodeOf, f_Hp_portOf, f_Ma_max, f_Ma_min, f_Hp_isSetting, popN, rok, a1, noX, swc, mL, if_true, if_false, ↓reduceIte, cond_true, cond_false, true_and, and_true, List.length_cons, List.length_nil, List.nil_append, List.cons_append, List.append_nil, Option.toList, Nat.reduceEqDiff, Bool.false_eq_true, reduceCtorEq, Nat.reduceAdd, Nat.reduceLT, Nat.reduceLeDiff, Nat.reduceSub, List.replicate, Nat.zero_add, Nat.lt_add_one, Nat.le_refl, Nat.zero_le, Nat.succ_ne_zero, not_false_eq_true, not_true_eq_false, false_implies, true_implies, forall_const, imp_self, true_or, or_true, eq_self, sI_zw, zw_zw, hI_zw, tg_zw, ln_zw, hR_zw, hL_zw, hN_zw, hM_zw, upd_s, upd_u, upd_ne, Classical.not_not, k_Hp_addTranslator, x61]; try clear hgo9 hW9)
      exact q4 cn c1 c2 c3 f h1 (k.net is f1 k1) (by rw [a'.2.1]) f1.X
    · have e : f_Nw_isFull [.ref (A 1)] h = .int (nI 1) := by
        simp only [f_Nw_isFull]
        rw [w2, bI_t (by rw [nI_ltP (by omega) (by omega)]; exact f)]
      ((obtain ⟨W9, hW9, hgo9⟩ := wp_ex (T_Hp_addTranslator l G) [] _; refine hgo9 200 _ _ _ _ ?_; simp -implicitDefEqProofs (disch := omega) only [hW9, inl, gate, Xq, tz_const, tz_iload, tz_lload, tz_dload, tz_aload, tz_istore, tz_astore, tz_lstore, tz_dstore, tz_iinc, tz_i1, tz_i2, tz_i2z, tz_l2, tz_l2z, tz_i2l, tz_l2i, tz_lcmp, tz_i2d, tz_d2, tz_dcmp, tz_dup, tz_dup2, tz_pop, tz_if, tz_icmp, tz_null, tz_goto, tz_sw, tz_getf, tz_puti, tz_putz, tz_putr, tz_putl, tz_iaload, tz_baload, tz_laload, tz_aaload, tz_iastore, tz_bastore, tz_lastore, tz_aastore, tz_alen, tz_new, tz_newa, tz_oinit, tz_iret, tz_zret, tz_lret, tz_dret, tz_aret, tz_vret, tz_throw, tz_callS, tz_callV, tz_callI, tz_callR, tz_pureS, tz_pureV, tz_callVH, lg, lset, lkill, lst1, lst2, entL, isRf, is1, vl, va_rf_none, va_rf_some, isRf_rf, is1_rf, i0, i1, bI_eq0, bI_eq1, nm_em, nI_eqP, nI_leP, nI_ltP, nN_e1, nN_e2, nN_l1, nN_l2, nN_l3, nN_l4, nI_add, pk_mul, vp_inN, nI_cl, n01, n10, P_i, P_ii, P_iii, f_Mo_at, f_Mo_map, f_Mo_contact, f_Mo_within, f_Mo_isPort, f_Hp_endpoint, f_Hp_nodeOf, f_Hp_portOf, f_Ma_max, f_Ma_min, f_Hp_isSetting, popN, rok, a1, noX, swc, mL, if_true, if_false, ↓reduceIte, cond_true, cond_false, true_and, and_true, List.length_cons, List.length_nil, List.nil_append, List.cons_append, List.append_nil, Option.toList, Nat.reduceEqDiff, Bool.false_eq_true, reduceCtorEq, Nat.reduceAdd, Nat.reduceLT, Nat.reduceLeDiff, Nat.reduceSub, List.replicate, Nat.zero_add, Nat.lt_add_one, Nat.le_refl, Nat.zero_le, Nat.succ_ne_zero, not_false_eq_true, not_true_eq_false, false_implies, true_implies, forall_const, imp_self, true_or, or_true, eq_self, sI_zw, zw_zw, hI_zw, tg_zw, ln_zw, hR_zw, hL_zw, hN_zw, hM_zw, upd_s, upd_u, upd_ne, Classical.not_not, k_Hp_addTranslator, x6, x0, w1, hPf, e]; try clear hgo9 hW9); try (obtain ⟨W9, hW9, hgo9⟩ := wp_ex (T_Hp_addTranslator l G) [] _; refine hgo9 200 _ _ _ _ ?_; simp -implicitDefEqProofs (disch := omega) only [hW9, inl, gate, Xq, tz_const, tz_iload, tz_lload, tz_dload, tz_aload, tz_istore, tz_astore, tz_lstore, tz_dstore, tz_iinc, tz_i1, tz_i2, tz_i2z, tz_l2, tz_l2z, tz_i2l, tz_l2i, tz_lcmp, tz_i2d, tz_d2, tz_dcmp, tz_dup, tz_dup2, tz_pop, tz_if, tz_icmp, tz_null, tz_goto, tz_sw, tz_getf, tz_puti, tz_putz, tz_putr, tz_putl, tz_iaload, tz_baload, tz_laload, tz_aaload, tz_iastore, tz_bastore, tz_lastore, tz_aastore, tz_alen, tz_new, tz_newa, tz_oinit, tz_iret, tz_zret, tz_lret, tz_dret, tz_aret, tz_vret, tz_throw, tz_callS, tz_callV, tz_callI, tz_callR, tz_pureS, tz_pureV, tz_callVH, lg, lset, lkill, lst1, lst2, entL, isRf, is1, vl, va_rf_none, va_rf_some, isRf_rf, is1_rf, i0, i1, bI_eq0, bI_eq1, nm_em, nI_eqP, nI_leP, nI_ltP, nN_e1, nN_e2, nN_l1, nN_l2, nN_l3, nN_l4, nI_add, pk_mul, vp_inN, nI_cl, n01, n10, P_i, P_ii, P_iii, f_Mo_at, f_Mo_map, f_Mo_contact, f_Mo_within, f_Mo_isPort, f_Hp_endpoint, f_Hp_nodeOf, f_Hp_portOf, f_Ma_max, f_Ma_min, f_Hp_isSetting, popN, rok, a1, noX, swc, mL, if_true, if_false, ↓reduceIte, cond_true, cond_false, true_and, and_true, List.length_cons, List.length_nil, List.nil_append, List.cons_append, List.append_nil, Option.toList, Nat.reduceEqDiff, Bool.false_eq_true, reduceCtorEq, Nat.reduceAdd, Nat.reduceLT, Nat.reduceLeDiff, Nat.reduceSub, List.replicate, Nat.zero_add, Nat.lt_add_one, Nat.le_refl, Nat.zero_le, Nat.succ_ne_zero, not_false_eq_true, not_true_eq_false, false_implies, true_implies, forall_const, imp_self, true_or, or_true, eq_self, sI_zw, zw_zw, hI_zw, tg_zw, ln_zw, hR_zw, hL_zw, hN_zw, hM_zw, upd_s, upd_u, upd_ne, Classical.not_not, k_Hp_addTranslator, x6, x0, w1, hPf, e]; try clear hgo9 hW9))
      exact q3 cn c1 c2 c3 (by omega)
end
