/-! WHAT HOLDS OF THE NUMBERS BETWEEN CALLS -/
def in1 (x : Int32) (lo hi : Nat) : Prop := ∃ k, lo ≤ k ∧ k ≤ hi ∧ x = nI k
/-- node n: its kind, its net -/
def NodI (z : Nat → Int32) (n : Nat) : Prop := (z (16 + 16 * n) = nI 0 ∨ z (16 + 16 * n) = nI 1) ∧ (z (16 + 16 * n + 1) = nN ∨ ∃ j, j < n ∧ z (16 + 16 * n + 1) = nI j ∧ z (16 + 16 * j) = nI 1)
/-- its latest delivery -/
def DelI (z : Nat → Int32) (n : Nat) : Prop := (z (16 + 16 * n + 12) = nN ∧ z (16 + 16 * n + 13) = nN ∧ z (16 + 16 * n + 14) = nN) ∨ (z (16 + 16 * n) = nI 0 ∧ (∃ b, b < mny z ∧ z (16 + 16 * n + 12) = nI b) ∧ in1 (z (16 + 16 * n + 13)) 1 9999 ∧ in1 (z (16 + 16 * n + 14)) 1 9999)
/-- a translator's rules and numbers -/
def TrI (z : Nat → Int32) (t : Nat) : Prop := in1 (z (16 + 16 * t + 2)) 0 2 ∧ in1 (z (16 + 16 * t + 3)) 0 2 ∧ in1 (z (16 + 16 * t + 4)) 0 2 ∧ in1 (z (16 + 16 * t + 5)) 1 9 ∧ in1 (z (16 + 16 * t + 6)) 1 1000 ∧ in1 (z (16 + 16 * t + 7)) 0 1 ∧ in1 (z (16 + 16 * t + 8)) 0 1 ∧ in1 (z (16 + 16 * t + 9)) 1000 9999 ∧ in1 (z (16 + 16 * t + 10)) 0 2147483647
/-- where mapping j of t begins -/
abbrev mA (t j : Nat) : Nat := 176 + 8 * (8 * t + j)
/-- the key of mapping j of t, by the rule -/
def KeyI (z : Nat → Int32) (t j : Nat) : Prop := (z (16 + 16 * t + 2) = nI 0 → z (mA t j + 3) = nN) ∧ (¬ z (16 + 16 * t + 2) = nI 0 → ∃ b, b < mny z ∧ z (mA t j + 3) = nI b) ∧ (¬ z (16 + 16 * t + 2) = nI 2 → z (mA t j + 4) = nN) ∧ (z (16 + 16 * t + 2) = nI 2 → in1 (z (mA t j + 4)) 1 9999)
/-- contacts of mapping j of t -/
def ConI (z : Nat → Int32) (t j : Nat) : Prop := KnwOK z t j ∧ (∀ k, k < knw z t j → (∃ b, b < mny z ∧ z (cA t j k) = nI b) ∧ in1 (z (cA t j k + 1)) 1 9999) ∧ (∀ k k', k < k' → k' < knw z t j → ¬ (z (cA t j k) = z (cA t j k') ∧ z (cA t j k + 1) = z (cA t j k' + 1)))
def MapI (z : Nat → Int32) (t j : Nat) : Prop := (∃ i, i < mny z ∧ z (mA t j + 0) = nI i ∧ z (16 + 16 * i + 1) = nI t) ∧ in1 (z (mA t j + 1)) 1 9999 ∧ in1 (z (mA t j + 2)) 1 9999 ∧ KeyI z t j ∧ (∃ u T, u ≤ T ∧ T ≤ 100000 ∧ z (mA t j + 5) = nI u ∧ z 0 = nI T) ∧ ConI z t j
/-- no two mappings of t with the same inner endpoint and key -/
def PrI (z : Nat → Int32) (t : Nat) : Prop := ∀ j j', j < j' → j' < own z t → ¬ (z (mA t j + 0) = z (mA t j' + 0) ∧ z (mA t j + 1) = z (mA t j' + 1) ∧ z (mA t j + 3) = z (mA t j' + 3) ∧ z (mA t j + 4) = z (mA t j' + 4))
/-- none is dead -/
def LivI (z : Nat → Int32) : Prop := ∀ t j, t < mny z → j < own z t → nI 0 ≤ livZ z t j
/-- places of nodes to come -/
def FreI (z : Nat → Int32) : Prop := ∀ n, mny z ≤ n → n < 10 → z (16 + 16 * n) = nI 0 ∧ z (16 + 16 * n + 7) = nI 0 ∧ z (16 + 16 * n + 8) = nI 0 ∧ z (16 + 16 * n + 11) = nI 0
def TraI (z : Nat → Int32) (t : Nat) : Prop := OwnOK z t ∧ TrI z t ∧ (∀ j, j < own z t → MapI z t j) ∧ PrI z t
/-- all but that none is dead -/
def Inv0 (z : Nat → Int32) : Prop := Z10 z ∧ in1 (z 0) 0 100000 ∧ FreI z ∧ ∀ n, n < mny z → NodI z n ∧ DelI z n ∧ (z (16 + 16 * n) = nI 0 → z (16 + 16 * n + 11) = nI 0) ∧ (z (16 + 16 * n) = nI 1 → TraI z n)
def Inv (z : Nat → Int32) : Prop := Inv0 z ∧ LivI z
theorem own0 {z : Nat → Int32} {t : Nat} (h : z (16 + 16 * t + 11) = nI 0) : OwnOK z t ∧ own z t = 0 := by
  have e : own z t = 0 := by unfold own; rw [h]; rfl
  exact ⟨⟨by rw [e]; exact h, by omega⟩, e⟩
theorem Inv0.own {z : Nat → Int32} (h : Inv0 z) : Own10 z := by
  intro t ht
  obtain ⟨-, -, hf, hn⟩ := h
  by_cases c : t < mny z
  · obtain ⟨h1, -, h3, h4⟩ := hn t c
    rcases h1.1 with q | q
    · exact (own0 (h3 q)).1
    · exact (h4 q).1
  · exact (own0 (hf t (by omega) ht).2.2.2).1
theorem Inv0.net {z : Nat → Int32} (h : Inv0 z) : NetOK z := by
  intro n hn
  rcases (h.2.2.2 n hn).1.2 with q | ⟨j, j1, j2, -⟩
  · exact Or.inl q
  · exact Or.inr ⟨j, j1, j2⟩
theorem Inv0.ownA {z : Nat → Int32} (h : Inv0 z) : OwnAll z := fun t ht => h.own t (by have := h.1.at.2; omega)
/-- one packet of host n from port p to (b, d): the answer and the numbers after it -/
def SndR (z : Nat → Int32) (n : Nat) (p : Int32) (b : Nat) (d r : Int32) (z' : Nat → Int32) : Prop :=
  (Inv z ∧ Inv z' ∧ mny z' = mny z) ∧ (n < mny z ∧ z (16 + 16 * n) = nI 0 ∧ b < mny z ∧ in1 p 1 9999 ∧ in1 d 1 9999) ∧ ∃ f y s' q' k, TrvR b d f z (z (16 + 16 * n + 1)) nN (nI n) p r y s' q' ∧ anK r k ∧ z' = sndZ y k
section
variable {l : Launch} {G : Gc}
theorem m_sends (a zr n b : Nat) (p d r : Int32) (z' : Nat → Int32) (h : AH) (Q : Po) (hm : MoS h a zr) (hs : SndR (hI h zr) n p b d r z') (hQ : ∀ x y, Q (.inl (some (.int r))) (zw (zw h zr z') a (upd (upd (hI h a) 10 x) 11 y))) : Call l G M_Mo_sends [.ref a, .int (nI n), .int p, .int (nI b), .int d] h Q := by
  obtain ⟨⟨i1, i2, -⟩, ⟨n1, -, b1, -, -⟩, f, y, s', q', k, hr, hk, rfl⟩ := hs
  have hz := i1.1.1
  have := hz.at.2
  exact c_Mo_sends a zr n b f k p d r s' q' y h Q hm (by omega) (by omega) hz hr hk (hQ _ _)
end
/-- what is wrong with a packet is told by 0, 1 or 2 -/
theorem wpZ_012 (z : Nat → Int32) (n p b q : Int32) : wpZ z n p b q = nI 0 ∨ wpZ z n p b q = nI 1 ∨ wpZ z n p b q = nI 2 := by
  unfold wpZ
  repeat' split
  all_goals simp
theorem wpZ_0 {z : Nat → Int32} {n p b q : Int32} (h : wpZ z n p b q = nI 0) : (∃ j, j < mny z ∧ n = nI j ∧ z (16 + 16 * j) = nI 0) ∧ (∃ k, k < mny z ∧ b = nI k) ∧ in1 p 1 9999 ∧ in1 q 1 9999 := by
  have pt : ∀ {p : Int32}, nI 1 ≤ p → p ≤ nI 9999 → in1 p 1 9999 := by
    intro p h1 h2
    have h0 : ¬ p < 0 := by
      simp only [Int32.lt_iff_toInt_lt, Int32.le_iff_toInt_le] at h1 ⊢
      have e1 : (nI 1).toInt = 1 := rfl
      have e2 : (0 : Int32).toInt = 0 := rfl
      omega
    obtain ⟨j, hj, rfl⟩ := nI_of h0
    exact ⟨j, (nI_leI (by omega) hj).mp h1, (nI_leI hj (by omega)).mp h2, rfl⟩
  unfold wpZ at h
  split at h
  · rename_i c
    split at h
    · rename_i c2
      exact ⟨c.1, c.2, pt c2.1.1 c2.1.2, pt c2.2.1 c2.2.2⟩
    · exact absurd h (by decide)
  · exact absurd h (by decide)
def k_Mo_keepAlive (l : Launch) (G : Gc) (pc : Nat) : Tr :=
  if pc < 72 then
   if pc < 36 then
    if pc < 16 then
     if pc < 4 then
      if pc < 2 then
       if pc < 1 then
        if pc = 0 then tz_aload 1 0 else dead
       else
        if pc = 1 then tz_iload 2 1 else dead
      else
       if pc < 3 then
        if pc = 2 then tz_iload 3 2 else dead
       else
        if pc = 3 then tz_iload 4 3 else dead
     else
      if pc < 9 then
       if pc < 6 then
        if pc = 4 then tz_iload 6 4 else dead
       else
        if pc = 6 then tz_pureV 9 4 7 P_Mo_wrongPacket f_Mo_wrongPacket else dead
      else
       if pc < 11 then
        if pc = 9 then tz_istore 11 7 else dead
       else
        if pc < 13 then
         if pc = 11 then tz_iload 13 7 else dead
        else
         if pc = 13 then tz_if 16 43 (fun a => ¬ a = 0) else dead
    else
     if pc < 25 then
      if pc < 19 then
       if pc < 18 then
        if pc = 16 then tz_iload 18 5 else dead
       else
        if pc = 18 then tz_const 19 (.int (nI 1)) else dead
      else
       if pc < 22 then
        if pc = 19 then tz_const 22 (.int (nI 1000)) else dead
       else
        if pc = 22 then tz_pureS 25 3 P_Mo_within f_Mo_within else dead
     else
      if pc < 30 then
       if pc < 28 then
        if pc = 25 then tz_if 28 39 (fun a => a = 0) else dead
       else
        if pc = 28 then tz_iload 30 6 else dead
      else
       if pc < 31 then
        if pc = 30 then tz_const 31 (.int (nI 1)) else dead
       else
        if pc < 33 then
         if pc = 31 then tz_const 33 (.int (nI 20)) else dead
        else
         if pc = 33 then tz_pureS 36 3 P_Mo_within f_Mo_within else dead
   else
    if pc < 55 then
     if pc < 45 then
      if pc < 40 then
       if pc < 39 then
        if pc = 36 then tz_if 39 43 (fun a => ¬ a = 0) else dead
       else
        if pc = 39 then tz_const 40 (.int (nI 2)) else dead
      else
       if pc < 43 then
        if pc = 40 then tz_goto 45 else dead
       else
        if pc = 43 then tz_iload 45 7 else dead
     else
      if pc < 48 then
       if pc < 47 then
        if pc = 45 then tz_istore 47 7 else dead
       else
        if pc = 47 then tz_aload 48 0 else dead
      else
       if pc < 50 then
        if pc = 48 then tz_iload 50 7 else dead
       else
        if pc < 53 then
         if pc = 50 then tz_if 53 58 (fun a => a ≤ 0) else dead
        else
         if pc = 53 then tz_iload 55 7 else dead
    else
     if pc < 64 then
      if pc < 59 then
       if pc < 58 then
        if pc = 55 then tz_goto 80 else dead
       else
        if pc = 58 then tz_aload 59 0 else dead
      else
       if pc < 62 then
        if pc = 59 then tz_getf 62 7 1 1 else dead
       else
        if pc < 63 then
         if pc = 62 then tz_const 63 (.int (nI 0)) else dead
        else
         if pc = 63 then tz_iaload 64 else dead
     else
      if pc < 68 then
       if pc < 66 then
        if pc = 64 then tz_iload 66 5 else dead
       else
        if pc = 66 then tz_iload 68 6 else dead
      else
       if pc < 69 then
        if pc = 68 then tz_i2 69 (fun a b => a * b) else dead
       else
        if pc < 70 then
         if pc = 69 then tz_i2 70 (fun a b => a + b) else dead
        else
         if pc = 70 then tz_const 72 (.int (nI 100000)) else dead
  else
   if pc < 108 then
    if pc < 91 then
     if pc < 80 then
      if pc < 76 then
       if pc < 75 then
        if pc = 72 then tz_icmp 75 79 (fun a b => a ≤ b) else dead
       else
        if pc = 75 then tz_const 76 (.int (nI 3)) else dead
      else
       if pc < 79 then
        if pc = 76 then tz_goto 80 else dead
       else
        if pc = 79 then tz_const 80 (.int (nI 0)) else dead
     else
      if pc < 84 then
       if pc < 83 then
        if pc = 80 then tz_puti 83 7 0 else dead
       else
        if pc = 83 then tz_aload 84 0 else dead
      else
       if pc < 87 then
        if pc = 84 then tz_getf 87 7 0 0 else dead
       else
        if pc < 90 then
         if pc = 87 then tz_if 90 92 (fun a => a ≤ 0) else dead
        else
         if pc = 90 then tz_const 91 (.int (nI 0)) else dead
    else
     if pc < 98 then
      if pc < 93 then
       if pc < 92 then
        if pc = 91 then tz_iret else dead
       else
        if pc = 92 then tz_const 93 (.int (nI 0)) else dead
      else
       if pc < 95 then
        if pc = 93 then tz_istore 95 8 else dead
       else
        if pc < 96 then
         if pc = 95 then tz_const 96 (.int (nI 0)) else dead
        else
         if pc = 96 then tz_istore 98 9 else dead
     else
      if pc < 102 then
       if pc < 100 then
        if pc = 98 then tz_iload 100 9 else dead
       else
        if pc = 100 then tz_iload 102 6 else dead
      else
       if pc < 105 then
        if pc = 102 then tz_icmp 105 140 (fun a b => b ≤ a) else dead
       else
        if pc < 107 then
         if pc = 105 then tz_iload 107 8 else dead
        else
         if pc = 107 then tz_aload 108 0 else dead
   else
    if pc < 124 then
     if pc < 113 then
      if pc < 110 then
       if pc < 109 then
        if pc = 108 then tz_iload 109 1 else dead
       else
        if pc = 109 then tz_iload 110 2 else dead
      else
       if pc < 111 then
        if pc = 110 then tz_iload 111 3 else dead
       else
        if pc = 111 then tz_iload 113 4 else dead
     else
      if pc < 119 then
       if pc < 116 then
        if pc = 113 then tz_callV l G 116 M_Mo_sends 4 7 else dead
       else
        if pc = 116 then tz_if 119 123 (fun a => a < 0) else dead
      else
       if pc < 120 then
        if pc = 119 then tz_const 120 (.int (nI 1)) else dead
       else
        if pc < 123 then
         if pc = 120 then tz_goto 124 else dead
        else
         if pc = 123 then tz_const 124 (.int (nI 0)) else dead
    else
     if pc < 133 then
      if pc < 127 then
       if pc < 125 then
        if pc = 124 then tz_i2 125 (fun a b => a + b) else dead
       else
        if pc = 125 then tz_istore 127 8 else dead
      else
       if pc < 128 then
        if pc = 127 then tz_aload 128 0 else dead
       else
        if pc < 130 then
         if pc = 128 then tz_iload 130 5 else dead
        else
         if pc = 130 then tz_callV l G 133 M_Mo_passes 1 7 else dead
     else
      if pc < 137 then
       if pc < 134 then
        if pc = 133 then tz_pop 134 else dead
       else
        if pc = 134 then tz_iinc 137 9 (nI 1) else dead
      else
       if pc < 140 then
        if pc = 137 then tz_goto 98 else dead
       else
        if pc < 142 then
         if pc = 140 then tz_iload 142 8 else dead
        else
         if pc = 142 then tz_iret else dead
set_option maxRecDepth 100000 in
theorem T_Mo_keepAlive (l : Launch) (G : Gc) : TabOK l G M_Mo_keepAlive (k_Mo_keepAlive l G) := by
  intro pc
  unfold k_Mo_keepAlive
  exact
   (sd_br
    (sd_br
     (sd_br
      (sd_br
       (sd_br
        (sd_br
         (sd_lf (sd_aload_n (k := 0) (by decide +kernel : decode prog_9_method_49_code 0 = .ok (.aload_n 0, 1))))
         (sd_lf (sd_iload_n (k := 1) (by decide +kernel : decode prog_9_method_49_code 1 = .ok (.iload_n 1, 1)))))
        (sd_br
         (sd_lf (sd_iload_n (k := 2) (by decide +kernel : decode prog_9_method_49_code 2 = .ok (.iload_n 2, 1))))
         (sd_lf (sd_iload_n (k := 3) (by decide +kernel : decode prog_9_method_49_code 3 = .ok (.iload_n 3, 1))))))
       (sd_br
        (sd_br
         (sd_lf (sd_iload (by decide +kernel : decode prog_9_method_49_code 4 = .ok (.iload 4, 2))))
         (sd_lf (sd_pureV (sd_callV (q := (RX7, TX7, 16)) (by decide +kernel : decode prog_9_method_49_code 6 = .ok (.invokevirtual 171, 3)) ok_Mo_wrongPacket (gm 1079 (by decide +kernel) rfl) (gm 1081 (by decide +kernel) rfl) (gm 41 (by decide +kernel) rfl) rfl rfl (by decide +kernel) rfl rfl) c_Mo_wrongPacket)))
        (sd_br
         (sd_lf (sd_istore (by decide +kernel : decode prog_9_method_49_code 9 = .ok (.istore 7, 2))))
         (sd_br
          (sd_lf (sd_iload (by decide +kernel : decode prog_9_method_49_code 11 = .ok (.iload 7, 2))))
          (sd_lf (sd_if_ne (by decide +kernel : decode prog_9_method_49_code 13 = .ok (.ifCond .ne 30, 3)) (by decide +kernel)))))))
      (sd_br
       (sd_br
        (sd_br
         (sd_lf (sd_iload (by decide +kernel : decode prog_9_method_49_code 16 = .ok (.iload 5, 2))))
         (sd_lf (sd_iconst (by decide +kernel : decode prog_9_method_49_code 18 = .ok (.iconst 1, 1)) (by decide +kernel))))
        (sd_br
         (sd_lf (sd_sipush (by decide +kernel : decode prog_9_method_49_code 19 = .ok (.sipush 1000, 3)) (by decide +kernel)))
         (sd_lf (sd_pureS (sd_callS (by decide +kernel : decode prog_9_method_49_code 22 = .ok (.invokestatic 36, 3)) ok_Mo_within (gm 990 (by decide +kernel) rfl) (gm 991 (by decide +kernel) rfl) (by decide +kernel) rfl rfl) c_Mo_within))))
       (sd_br
        (sd_br
         (sd_lf (sd_if_eq (by decide +kernel : decode prog_9_method_49_code 25 = .ok (.ifCond .eq 14, 3)) (by decide +kernel)))
         (sd_lf (sd_iload (by decide +kernel : decode prog_9_method_49_code 28 = .ok (.iload 6, 2)))))
        (sd_br
         (sd_lf (sd_iconst (by decide +kernel : decode prog_9_method_49_code 30 = .ok (.iconst 1, 1)) (by decide +kernel)))
         (sd_br
          (sd_lf (sd_bipush (by decide +kernel : decode prog_9_method_49_code 31 = .ok (.bipush 20, 2)) (by decide +kernel)))
          (sd_lf (sd_pureS (sd_callS (by decide +kernel : decode prog_9_method_49_code 33 = .ok (.invokestatic 36, 3)) ok_Mo_within (gm 990 (by decide +kernel) rfl) (gm 991 (by decide +kernel) rfl) (by decide +kernel) rfl rfl) c_Mo_within)))))))
     (sd_br
      (sd_br
       (sd_br
        (sd_br
         (sd_lf (sd_if_ne (by decide +kernel : decode prog_9_method_49_code 36 = .ok (.ifCond .ne 7, 3)) (by decide +kernel)))
         (sd_lf (sd_iconst (by decide +kernel : decode prog_9_method_49_code 39 = .ok (.iconst 2, 1)) (by decide +kernel))))
        (sd_br
         (sd_lf (sd_goto (by decide +kernel : decode prog_9_method_49_code 40 = .ok (.goto 5, 3)) (by decide +kernel)))
         (sd_lf (sd_iload (by decide +kernel : decode prog_9_method_49_code 43 = .ok (.iload 7, 2))))))
       (sd_br
        (sd_br
         (sd_lf (sd_istore (by decide +kernel : decode prog_9_method_49_code 45 = .ok (.istore 7, 2))))
         (sd_lf (sd_aload_n (k := 0) (by decide +kernel : decode prog_9_method_49_code 47 = .ok (.aload_n 0, 1)))))
        (sd_br
         (sd_lf (sd_iload (by decide +kernel : decode prog_9_method_49_code 48 = .ok (.iload 7, 2))))
         (sd_br
          (sd_lf (sd_if_le (by decide +kernel : decode prog_9_method_49_code 50 = .ok (.ifCond .le 8, 3)) (by decide +kernel)))
          (sd_lf (sd_iload (by decide +kernel : decode prog_9_method_49_code 53 = .ok (.iload 7, 2))))))))
      (sd_br
       (sd_br
        (sd_br
         (sd_lf (sd_goto (by decide +kernel : decode prog_9_method_49_code 55 = .ok (.goto 25, 3)) (by decide +kernel)))
         (sd_lf (sd_aload_n (k := 0) (by decide +kernel : decode prog_9_method_49_code 58 = .ok (.aload_n 0, 1)))))
        (sd_br
         (sd_lf (sd_getf (q := (RX7, TX7, 16)) (by decide +kernel : decode prog_9_method_49_code 59 = .ok (.getfield 7, 3)) rfl (by decide +kernel) (gm 913 (by decide +kernel) rfl)))
         (sd_br
          (sd_lf (sd_iconst (by decide +kernel : decode prog_9_method_49_code 62 = .ok (.iconst 0, 1)) (by decide +kernel)))
          (sd_lf (sd_iaload (by decide +kernel : decode prog_9_method_49_code 63 = .ok (.iaload, 1)))))))
       (sd_br
        (sd_br
         (sd_lf (sd_iload (by decide +kernel : decode prog_9_method_49_code 64 = .ok (.iload 5, 2))))
         (sd_lf (sd_iload (by decide +kernel : decode prog_9_method_49_code 66 = .ok (.iload 6, 2)))))
        (sd_br
         (sd_lf (sd_imul (by decide +kernel : decode prog_9_method_49_code 68 = .ok (.imul, 1))))
         (sd_br
          (sd_lf (sd_iadd (by decide +kernel : decode prog_9_method_49_code 69 = .ok (.iadd, 1))))
          (sd_lf (sd_ldc (by decide +kernel : decode prog_9_method_49_code 70 = .ok (.ldc 87, 2)) (gm 1034 (by decide +kernel) rfl)))))))))
    (sd_br
     (sd_br
      (sd_br
       (sd_br
        (sd_br
         (sd_lf (sd_icmp_le (by decide +kernel : decode prog_9_method_49_code 72 = .ok (.if_icmp .le 7, 3)) (by decide +kernel)))
         (sd_lf (sd_iconst (by decide +kernel : decode prog_9_method_49_code 75 = .ok (.iconst 3, 1)) (by decide +kernel))))
        (sd_br
         (sd_lf (sd_goto (by decide +kernel : decode prog_9_method_49_code 76 = .ok (.goto 4, 3)) (by decide +kernel)))
         (sd_lf (sd_iconst (by decide +kernel : decode prog_9_method_49_code 79 = .ok (.iconst 0, 1)) (by decide +kernel)))))
       (sd_br
        (sd_br
         (sd_lf (sd_puti (q := (RX7, TX7, 16)) (by decide +kernel : decode prog_9_method_49_code 80 = .ok (.putfield 32, 3)) rfl (by decide +kernel) (gm 912 (by decide +kernel) rfl) rfl rfl (Or.inl rfl)))
         (sd_lf (sd_aload_n (k := 0) (by decide +kernel : decode prog_9_method_49_code 83 = .ok (.aload_n 0, 1)))))
        (sd_br
         (sd_lf (sd_getf (q := (RX7, TX7, 16)) (by decide +kernel : decode prog_9_method_49_code 84 = .ok (.getfield 32, 3)) rfl (by decide +kernel) (gm 912 (by decide +kernel) rfl)))
         (sd_br
          (sd_lf (sd_if_le (by decide +kernel : decode prog_9_method_49_code 87 = .ok (.ifCond .le 5, 3)) (by decide +kernel)))
          (sd_lf (sd_iconst (by decide +kernel : decode prog_9_method_49_code 90 = .ok (.iconst 0, 1)) (by decide +kernel)))))))
      (sd_br
       (sd_br
        (sd_br
         (sd_lf (sd_iret (by decide +kernel : decode prog_9_method_49_code 91 = .ok (.ireturn, 1)) rfl))
         (sd_lf (sd_iconst (by decide +kernel : decode prog_9_method_49_code 92 = .ok (.iconst 0, 1)) (by decide +kernel))))
        (sd_br
         (sd_lf (sd_istore (by decide +kernel : decode prog_9_method_49_code 93 = .ok (.istore 8, 2))))
         (sd_br
          (sd_lf (sd_iconst (by decide +kernel : decode prog_9_method_49_code 95 = .ok (.iconst 0, 1)) (by decide +kernel)))
          (sd_lf (sd_istore (by decide +kernel : decode prog_9_method_49_code 96 = .ok (.istore 9, 2)))))))
       (sd_br
        (sd_br
         (sd_lf (sd_iload (by decide +kernel : decode prog_9_method_49_code 98 = .ok (.iload 9, 2))))
         (sd_lf (sd_iload (by decide +kernel : decode prog_9_method_49_code 100 = .ok (.iload 6, 2)))))
        (sd_br
         (sd_lf (sd_icmp_ge (by decide +kernel : decode prog_9_method_49_code 102 = .ok (.if_icmp .ge 38, 3)) (by decide +kernel)))
         (sd_br
          (sd_lf (sd_iload (by decide +kernel : decode prog_9_method_49_code 105 = .ok (.iload 8, 2))))
          (sd_lf (sd_aload_n (k := 0) (by decide +kernel : decode prog_9_method_49_code 107 = .ok (.aload_n 0, 1)))))))))
     (sd_br
      (sd_br
       (sd_br
        (sd_br
         (sd_lf (sd_iload_n (k := 1) (by decide +kernel : decode prog_9_method_49_code 108 = .ok (.iload_n 1, 1))))
         (sd_lf (sd_iload_n (k := 2) (by decide +kernel : decode prog_9_method_49_code 109 = .ok (.iload_n 2, 1)))))
        (sd_br
         (sd_lf (sd_iload_n (k := 3) (by decide +kernel : decode prog_9_method_49_code 110 = .ok (.iload_n 3, 1))))
         (sd_lf (sd_iload (by decide +kernel : decode prog_9_method_49_code 111 = .ok (.iload 4, 2))))))
       (sd_br
        (sd_br
         (sd_lf (sd_callV (q := (RX7, TX7, 16)) (by decide +kernel : decode prog_9_method_49_code 113 = .ok (.invokevirtual 174, 3)) ok_Mo_sends (gm 1090 (by decide +kernel) rfl) (gm 1092 (by decide +kernel) rfl) (gm 43 (by decide +kernel) rfl) rfl rfl (by decide +kernel) rfl rfl))
         (sd_lf (sd_if_lt (by decide +kernel : decode prog_9_method_49_code 116 = .ok (.ifCond .lt 7, 3)) (by decide +kernel))))
        (sd_br
         (sd_lf (sd_iconst (by decide +kernel : decode prog_9_method_49_code 119 = .ok (.iconst 1, 1)) (by decide +kernel)))
         (sd_br
          (sd_lf (sd_goto (by decide +kernel : decode prog_9_method_49_code 120 = .ok (.goto 4, 3)) (by decide +kernel)))
          (sd_lf (sd_iconst (by decide +kernel : decode prog_9_method_49_code 123 = .ok (.iconst 0, 1)) (by decide +kernel)))))))
      (sd_br
       (sd_br
        (sd_br
         (sd_lf (sd_iadd (by decide +kernel : decode prog_9_method_49_code 124 = .ok (.iadd, 1))))
         (sd_lf (sd_istore (by decide +kernel : decode prog_9_method_49_code 125 = .ok (.istore 8, 2)))))
        (sd_br
         (sd_lf (sd_aload_n (k := 0) (by decide +kernel : decode prog_9_method_49_code 127 = .ok (.aload_n 0, 1))))
         (sd_br
          (sd_lf (sd_iload (by decide +kernel : decode prog_9_method_49_code 128 = .ok (.iload 5, 2))))
          (sd_lf (sd_callV (q := (RX7, TX7, 16)) (by decide +kernel : decode prog_9_method_49_code 130 = .ok (.invokevirtual 88, 3)) ok_Mo_passes (gm 1035 (by decide +kernel) rfl) (gm 1037 (by decide +kernel) rfl) (gm 37 (by decide +kernel) rfl) rfl rfl (by decide +kernel) rfl rfl)))))
       (sd_br
        (sd_br
         (sd_lf (sd_pop (by decide +kernel : decode prog_9_method_49_code 133 = .ok (.pop, 1))))
         (sd_lf (sd_iinc (by decide +kernel : decode prog_9_method_49_code 134 = .ok (.iinc 9 1, 3)) (by decide +kernel))))
        (sd_br
         (sd_lf (sd_goto (by decide +kernel : decode prog_9_method_49_code 137 = .ok (.goto (-39), 3)) (by decide +kernel)))
         (sd_br
          (sd_lf (sd_iload (by decide +kernel : decode prog_9_method_49_code 140 = .ok (.iload 8, 2))))
          (sd_lf (sd_iret (by decide +kernel : decode prog_9_method_49_code 142 = .ok (.ireturn, 1)) rfl)))))))))
def k_Mo_ifSent (l : Launch) (G : Gc) (pc : Nat) : Tr :=
  if pc < 47 then
   if pc < 22 then
    if pc < 7 then
     if pc < 3 then
      if pc < 1 then
       if pc = 0 then tz_aload 1 0 else dead
      else
       if pc < 2 then
        if pc = 1 then tz_aload 2 0 else dead
       else
        if pc = 2 then tz_iload 3 1 else dead
     else
      if pc < 4 then
       if pc = 3 then tz_iload 4 2 else dead
      else
       if pc < 5 then
        if pc = 4 then tz_iload 5 3 else dead
       else
        if pc = 5 then tz_iload 7 4 else dead
    else
     if pc < 14 then
      if pc < 10 then
       if pc = 7 then tz_pureV 10 4 7 P_Mo_wrongPacket f_Mo_wrongPacket else dead
      else
       if pc < 13 then
        if pc = 10 then tz_puti 13 7 0 else dead
       else
        if pc = 13 then tz_aload 14 0 else dead
     else
      if pc < 20 then
       if pc < 17 then
        if pc = 14 then tz_getf 17 7 0 0 else dead
       else
        if pc = 17 then tz_if 20 22 (fun a => a ≤ 0) else dead
      else
       if pc < 21 then
        if pc = 20 then tz_const 21 (.int (nI 0)) else dead
       else
        if pc = 21 then tz_iret else dead
   else
    if pc < 34 then
     if pc < 27 then
      if pc < 23 then
       if pc = 22 then tz_const 23 (.int (nI 0)) else dead
      else
       if pc < 25 then
        if pc = 23 then tz_istore 25 5 else dead
       else
        if pc = 25 then tz_iload 27 5 else dead
     else
      if pc < 30 then
       if pc = 27 then tz_const 30 (.int (nI 2096)) else dead
      else
       if pc < 33 then
        if pc = 30 then tz_icmp 33 53 (fun a b => b ≤ a) else dead
       else
        if pc = 33 then tz_aload 34 0 else dead
    else
     if pc < 40 then
      if pc < 37 then
       if pc = 34 then tz_getf 37 7 4 1 else dead
      else
       if pc < 39 then
        if pc = 37 then tz_iload 39 5 else dead
       else
        if pc = 39 then tz_aload 40 0 else dead
     else
      if pc < 45 then
       if pc < 43 then
        if pc = 40 then tz_getf 43 7 1 1 else dead
       else
        if pc = 43 then tz_iload 45 5 else dead
      else
       if pc < 46 then
        if pc = 45 then tz_iaload 46 else dead
       else
        if pc = 46 then tz_iastore 47 else dead
  else
   if pc < 72 then
    if pc < 57 then
     if pc < 54 then
      if pc < 50 then
       if pc = 47 then tz_iinc 50 5 (nI 1) else dead
      else
       if pc < 53 then
        if pc = 50 then tz_goto 25 else dead
       else
        if pc = 53 then tz_aload 54 0 else dead
     else
      if pc < 55 then
       if pc = 54 then tz_iload 55 1 else dead
      else
       if pc < 56 then
        if pc = 55 then tz_iload 56 2 else dead
       else
        if pc = 56 then tz_iload 57 3 else dead
    else
     if pc < 64 then
      if pc < 59 then
       if pc = 57 then tz_iload 59 4 else dead
      else
       if pc < 62 then
        if pc = 59 then tz_callV l G 62 M_Mo_travel 4 7 else dead
       else
        if pc = 62 then tz_istore 64 5 else dead
     else
      if pc < 67 then
       if pc < 65 then
        if pc = 64 then tz_const 65 (.int (nI 0)) else dead
       else
        if pc = 65 then tz_istore 67 6 else dead
      else
       if pc < 69 then
        if pc = 67 then tz_iload 69 6 else dead
       else
        if pc = 69 then tz_const 72 (.int (nI 2096)) else dead
   else
    if pc < 85 then
     if pc < 79 then
      if pc < 75 then
       if pc = 72 then tz_icmp 75 95 (fun a b => b ≤ a) else dead
      else
       if pc < 76 then
        if pc = 75 then tz_aload 76 0 else dead
       else
        if pc = 76 then tz_getf 79 7 1 1 else dead
     else
      if pc < 81 then
       if pc = 79 then tz_iload 81 6 else dead
      else
       if pc < 82 then
        if pc = 81 then tz_aload 82 0 else dead
       else
        if pc = 82 then tz_getf 85 7 4 1 else dead
    else
     if pc < 89 then
      if pc < 87 then
       if pc = 85 then tz_iload 87 6 else dead
      else
       if pc < 88 then
        if pc = 87 then tz_iaload 88 else dead
       else
        if pc = 88 then tz_iastore 89 else dead
     else
      if pc < 95 then
       if pc < 92 then
        if pc = 89 then tz_iinc 92 6 (nI 1) else dead
       else
        if pc = 92 then tz_goto 67 else dead
      else
       if pc < 97 then
        if pc = 95 then tz_iload 97 5 else dead
       else
        if pc = 97 then tz_iret else dead
set_option maxRecDepth 100000 in
theorem T_Mo_ifSent (l : Launch) (G : Gc) : TabOK l G M_Mo_ifSent (k_Mo_ifSent l G) := by
  intro pc
  unfold k_Mo_ifSent
  exact
   (sd_br
    (sd_br
     (sd_br
      (sd_br
       (sd_br
        (sd_lf (sd_aload_n (k := 0) (by decide +kernel : decode prog_9_method_54_code 0 = .ok (.aload_n 0, 1))))
        (sd_br
         (sd_lf (sd_aload_n (k := 0) (by decide +kernel : decode prog_9_method_54_code 1 = .ok (.aload_n 0, 1))))
         (sd_lf (sd_iload_n (k := 1) (by decide +kernel : decode prog_9_method_54_code 2 = .ok (.iload_n 1, 1))))))
       (sd_br
        (sd_lf (sd_iload_n (k := 2) (by decide +kernel : decode prog_9_method_54_code 3 = .ok (.iload_n 2, 1))))
        (sd_br
         (sd_lf (sd_iload_n (k := 3) (by decide +kernel : decode prog_9_method_54_code 4 = .ok (.iload_n 3, 1))))
         (sd_lf (sd_iload (by decide +kernel : decode prog_9_method_54_code 5 = .ok (.iload 4, 2)))))))
      (sd_br
       (sd_br
        (sd_lf (sd_pureV (sd_callV (q := (RX7, TX7, 16)) (by decide +kernel : decode prog_9_method_54_code 7 = .ok (.invokevirtual 171, 3)) ok_Mo_wrongPacket (gm 1079 (by decide +kernel) rfl) (gm 1081 (by decide +kernel) rfl) (gm 41 (by decide +kernel) rfl) rfl rfl (by decide +kernel) rfl rfl) c_Mo_wrongPacket))
        (sd_br
         (sd_lf (sd_puti (q := (RX7, TX7, 16)) (by decide +kernel : decode prog_9_method_54_code 10 = .ok (.putfield 32, 3)) rfl (by decide +kernel) (gm 912 (by decide +kernel) rfl) rfl rfl (Or.inl rfl)))
         (sd_lf (sd_aload_n (k := 0) (by decide +kernel : decode prog_9_method_54_code 13 = .ok (.aload_n 0, 1))))))
       (sd_br
        (sd_br
         (sd_lf (sd_getf (q := (RX7, TX7, 16)) (by decide +kernel : decode prog_9_method_54_code 14 = .ok (.getfield 32, 3)) rfl (by decide +kernel) (gm 912 (by decide +kernel) rfl)))
         (sd_lf (sd_if_le (by decide +kernel : decode prog_9_method_54_code 17 = .ok (.ifCond .le 5, 3)) (by decide +kernel))))
        (sd_br
         (sd_lf (sd_iconst (by decide +kernel : decode prog_9_method_54_code 20 = .ok (.iconst 0, 1)) (by decide +kernel)))
         (sd_lf (sd_iret (by decide +kernel : decode prog_9_method_54_code 21 = .ok (.ireturn, 1)) rfl))))))
     (sd_br
      (sd_br
       (sd_br
        (sd_lf (sd_iconst (by decide +kernel : decode prog_9_method_54_code 22 = .ok (.iconst 0, 1)) (by decide +kernel)))
        (sd_br
         (sd_lf (sd_istore (by decide +kernel : decode prog_9_method_54_code 23 = .ok (.istore 5, 2))))
         (sd_lf (sd_iload (by decide +kernel : decode prog_9_method_54_code 25 = .ok (.iload 5, 2))))))
       (sd_br
        (sd_lf (sd_sipush (by decide +kernel : decode prog_9_method_54_code 27 = .ok (.sipush 2096, 3)) (by decide +kernel)))
        (sd_br
         (sd_lf (sd_icmp_ge (by decide +kernel : decode prog_9_method_54_code 30 = .ok (.if_icmp .ge 23, 3)) (by decide +kernel)))
         (sd_lf (sd_aload_n (k := 0) (by decide +kernel : decode prog_9_method_54_code 33 = .ok (.aload_n 0, 1)))))))
      (sd_br
       (sd_br
        (sd_lf (sd_getf (q := (RX7, TX7, 16)) (by decide +kernel : decode prog_9_method_54_code 34 = .ok (.getfield 16, 3)) rfl (by decide +kernel) (gm 916 (by decide +kernel) rfl)))
        (sd_br
         (sd_lf (sd_iload (by decide +kernel : decode prog_9_method_54_code 37 = .ok (.iload 5, 2))))
         (sd_lf (sd_aload_n (k := 0) (by decide +kernel : decode prog_9_method_54_code 39 = .ok (.aload_n 0, 1))))))
       (sd_br
        (sd_br
         (sd_lf (sd_getf (q := (RX7, TX7, 16)) (by decide +kernel : decode prog_9_method_54_code 40 = .ok (.getfield 7, 3)) rfl (by decide +kernel) (gm 913 (by decide +kernel) rfl)))
         (sd_lf (sd_iload (by decide +kernel : decode prog_9_method_54_code 43 = .ok (.iload 5, 2)))))
        (sd_br
         (sd_lf (sd_iaload (by decide +kernel : decode prog_9_method_54_code 45 = .ok (.iaload, 1))))
         (sd_lf (sd_iastore (by decide +kernel : decode prog_9_method_54_code 46 = .ok (.iastore, 1)))))))))
    (sd_br
     (sd_br
      (sd_br
       (sd_br
        (sd_lf (sd_iinc (by decide +kernel : decode prog_9_method_54_code 47 = .ok (.iinc 5 1, 3)) (by decide +kernel)))
        (sd_br
         (sd_lf (sd_goto (by decide +kernel : decode prog_9_method_54_code 50 = .ok (.goto (-25), 3)) (by decide +kernel)))
         (sd_lf (sd_aload_n (k := 0) (by decide +kernel : decode prog_9_method_54_code 53 = .ok (.aload_n 0, 1))))))
       (sd_br
        (sd_lf (sd_iload_n (k := 1) (by decide +kernel : decode prog_9_method_54_code 54 = .ok (.iload_n 1, 1))))
        (sd_br
         (sd_lf (sd_iload_n (k := 2) (by decide +kernel : decode prog_9_method_54_code 55 = .ok (.iload_n 2, 1))))
         (sd_lf (sd_iload_n (k := 3) (by decide +kernel : decode prog_9_method_54_code 56 = .ok (.iload_n 3, 1)))))))
      (sd_br
       (sd_br
        (sd_lf (sd_iload (by decide +kernel : decode prog_9_method_54_code 57 = .ok (.iload 4, 2))))
        (sd_br
         (sd_lf (sd_callV (q := (RX7, TX7, 16)) (by decide +kernel : decode prog_9_method_54_code 59 = .ok (.invokevirtual 162, 3)) ok_Mo_travel (gm 1094 (by decide +kernel) rfl) (gm 1096 (by decide +kernel) rfl) (gm 44 (by decide +kernel) rfl) rfl rfl (by decide +kernel) rfl rfl))
         (sd_lf (sd_istore (by decide +kernel : decode prog_9_method_54_code 62 = .ok (.istore 5, 2))))))
       (sd_br
        (sd_br
         (sd_lf (sd_iconst (by decide +kernel : decode prog_9_method_54_code 64 = .ok (.iconst 0, 1)) (by decide +kernel)))
         (sd_lf (sd_istore (by decide +kernel : decode prog_9_method_54_code 65 = .ok (.istore 6, 2)))))
        (sd_br
         (sd_lf (sd_iload (by decide +kernel : decode prog_9_method_54_code 67 = .ok (.iload 6, 2))))
         (sd_lf (sd_sipush (by decide +kernel : decode prog_9_method_54_code 69 = .ok (.sipush 2096, 3)) (by decide +kernel)))))))
     (sd_br
      (sd_br
       (sd_br
        (sd_lf (sd_icmp_ge (by decide +kernel : decode prog_9_method_54_code 72 = .ok (.if_icmp .ge 23, 3)) (by decide +kernel)))
        (sd_br
         (sd_lf (sd_aload_n (k := 0) (by decide +kernel : decode prog_9_method_54_code 75 = .ok (.aload_n 0, 1))))
         (sd_lf (sd_getf (q := (RX7, TX7, 16)) (by decide +kernel : decode prog_9_method_54_code 76 = .ok (.getfield 7, 3)) rfl (by decide +kernel) (gm 913 (by decide +kernel) rfl)))))
       (sd_br
        (sd_lf (sd_iload (by decide +kernel : decode prog_9_method_54_code 79 = .ok (.iload 6, 2))))
        (sd_br
         (sd_lf (sd_aload_n (k := 0) (by decide +kernel : decode prog_9_method_54_code 81 = .ok (.aload_n 0, 1))))
         (sd_lf (sd_getf (q := (RX7, TX7, 16)) (by decide +kernel : decode prog_9_method_54_code 82 = .ok (.getfield 16, 3)) rfl (by decide +kernel) (gm 916 (by decide +kernel) rfl))))))
      (sd_br
       (sd_br
        (sd_lf (sd_iload (by decide +kernel : decode prog_9_method_54_code 85 = .ok (.iload 6, 2))))
        (sd_br
         (sd_lf (sd_iaload (by decide +kernel : decode prog_9_method_54_code 87 = .ok (.iaload, 1))))
         (sd_lf (sd_iastore (by decide +kernel : decode prog_9_method_54_code 88 = .ok (.iastore, 1))))))
       (sd_br
        (sd_br
         (sd_lf (sd_iinc (by decide +kernel : decode prog_9_method_54_code 89 = .ok (.iinc 6 1, 3)) (by decide +kernel)))
         (sd_lf (sd_goto (by decide +kernel : decode prog_9_method_54_code 92 = .ok (.goto (-25), 3)) (by decide +kernel))))
        (sd_br
         (sd_lf (sd_iload (by decide +kernel : decode prog_9_method_54_code 95 = .ok (.iload 5, 2))))
         (sd_lf (sd_iret (by decide +kernel : decode prog_9_method_54_code 97 = .ok (.ireturn, 1)) rfl))))))))
/-- k packets, iv ticks behind each: how many were delivered, the numbers after them -/
def KaR (n : Nat) (p : Int32) (b : Nat) (d iv : Int32) : Nat → (Nat → Int32) → Int32 → Int32 → (Nat → Int32) → Prop
  | 0, z, c, c', z' => c' = c ∧ z' = z
  | k + 1, z, c, c', z' => ∃ r z1, SndR z n p b d r z1 ∧ KaR n p b d iv k (ddZ (upd z1 0 (z1 0 + iv))).1 (c + (if r < nI 0 then nI 0 else nI 1)) c' z'
section
variable {l : Launch} {G : Gc}
theorem lp_ka {a zr n b m : Nat} {p d iv c' : Int32} {z' : Nat → Int32} {w7 : Int32} {h : AH} {Q : Po} (hm : MoS h a zr) (hm2 : m ≤ 20) (hQ : ∀ x y, Q (.inl (some (.int c'))) (zw (zw h zr z') a (upd (upd (hI h a) 10 x) 11 y))) :
    ∀ (k i : Nat) (g : Nat → Int32) (c x y : Int32), i + k = m → KaR n p b d iv k g c c' z' → AWp l G M_Mo_keepAlive 98 [some (.ref a), some (.int (nI n)), some (.int p), some (.int (nI b)), some (.int d), some (.int iv), some (.int (nI m)), some (.int w7), some (.int c), some (.int (nI i))] [] (zw (zw h zr g) a (upd (upd (hI h a) 10 x) 11 y)) Q := by
  have rz := rd_ne hm.ne
  have ra := rd_ne hm.ne'
  have cm := wr_cm hm.ne'
  obtain ⟨h1, h2, h3, h4⟩ := id hm
  intro k
  induction k with
  | zero =>
    intro i g c x y e hr
    have ei : i = m := by omega
    subst ei
    obtain ⟨rfl, rfl⟩ := hr
    ((obtain ⟨W9, hW9, hgo9⟩ := wp_ex (T_Mo_keepAlive l G) [98] _; refine hgo9 200 _ _ _ _ ?_; simp -implicitDefEqProofs (disch := omega) only [hW9, inl, gate, Xq, tz_const, tz_iload, tz_lload, tz_dload, tz_aload, tz_istore, tz_astore, tz_lstore, tz_dstore, tz_iinc, tz_i1, tz_i2, tz_i2z, tz_l2, tz_l2z, tz_i2l, tz_l2i, tz_lcmp, tz_i2d, tz_d2, tz_dcmp, tz_dup, tz_dup2, tz_pop, tz_if, tz_icmp, tz_null, tz_goto, tz_sw, tz_getf, tz_puti, tz_putz, tz_putr, tz_putl, tz_iaload, tz_baload, tz_laload, tz_aaload, tz_iastore, tz_bastore, tz_lastore, tz_aastore, tz_alen, tz_new, tz_newa, tz_oinit, tz_iret, tz_zret, tz_lret, tz_dret, tz_aret, tz_vret, tz_throw, tz_callS, tz_callV, tz_callI, tz_callR, tz_pureS, tz_pureV, tz_callVH, lg, lset, lkill, lst1, lst2, entL, isRf, is1, vl, va_rf_none, va_rf_some, isRf_rf, is1_rf, i0, i1, bI_eq0, bI_eq1, nm_em, nI_eqP, nI_leP, nI_ltP, nN_e1, nN_e2, nN_l1, nN_l2, nN_l3, nN_l4, nI_add, pk_mul, vp_inN, nI_cl, n01, n10, P_i, P_ii, P_iii, f_Mo_at, f_Mo_map, f_Mo_contact, f_Mo_within, f_Mo_isPort, f_Hp_endpoint, f_Hp_nodeOf, f_Hp_portOf, f_Ma_max, f_Ma_min, f_Hp_isSetting, popN, rok, a1, noX, swc, mL, if_true, if_false, ↓reduceIte, cond_true, cond_false, true_and, and_true, List.length_cons, List.length_nil, List.nil_append, List.cons_append, List.append_nil, Option.toList, Nat.reduceEqDiff, Bool.false_eq_true, reduceCtorEq, Nat.reduceAdd, Nat.reduceLT, Nat.reduceLeDiff, Nat.reduceSub, List.replicate, Nat.zero_add, Nat.lt_add_one, Nat.le_refl, Nat.zero_le, Nat.succ_ne_zero, not_false_eq_true, not_true_eq_false, false_implies, true_implies, forall_const, imp_self, true_or, or_true, eq_self, sI_zw, zw_zw, hI_zw, tg_zw, ln_zw, hR_zw, hL_zw, hN_zw, hM_zw, upd_s, upd_u, upd_ne, Classical.not_not, k_Mo_keepAlive, h1, h2, h3, h4]; try clear hgo9 hW9); try (obtain ⟨W9, hW9, hgo9⟩ := wp_ex (T_Mo_keepAlive l G) [98] _; refine hgo9 200 _ _ _ _ ?_; simp -implicitDefEqProofs (disch := omega) only [hW9, inl, gate, Xq, tz_const, tz_iload, tz_lload, tz_dload, tz_aload, tz_istore, tz_astore, tz_lstore, tz_dstore, tz_iinc, tz_i1, tz_i2, tz_i2z, tz_l2, tz_l2z, tz_i2l, tz_l2i, tz_lcmp, tz_i2d, tz_d2, tz_dcmp, tz_dup, tz_dup2, tz_pop, tz_if, tz_icmp, tz_null, tz_goto, tz_sw, tz_getf, tz_puti, tz_putz, tz_putr, tz_putl, tz_iaload, tz_baload, tz_laload, tz_aaload, tz_iastore, tz_bastore, tz_lastore, tz_aastore, tz_alen, tz_new, tz_newa, tz_oinit, tz_iret, tz_zret, tz_lret, tz_dret, tz_aret, tz_vret, tz_throw, tz_callS, tz_callV, tz_callI, tz_callR, tz_pureS, tz_pureV, tz_callVH, lg, lset, lkill, lst1, lst2, entL, isRf, is1, vl, va_rf_none, va_rf_some, isRf_rf, is1_rf, i0, i1, bI_eq0, bI_eq1, nm_em, nI_eqP, nI_leP, nI_ltP, nN_e1, nN_e2, nN_l1, nN_l2, nN_l3, nN_l4, nI_add, pk_mul, vp_inN, nI_cl, n01, n10, P_i, P_ii, P_iii, f_Mo_at, f_Mo_map, f_Mo_contact, f_Mo_within, f_Mo_isPort, f_Hp_endpoint, f_Hp_nodeOf, f_Hp_portOf, f_Ma_max, f_Ma_min, f_Hp_isSetting, popN, rok, a1, noX, swc, mL, if_true, if_false, ↓reduceIte, cond_true, cond_false, true_and, and_true, List.length_cons, List.length_nil, List.nil_append, List.cons_append, List.append_nil, Option.toList, Nat.reduceEqDiff, Bool.false_eq_true, reduceCtorEq, Nat.reduceAdd, Nat.reduceLT, Nat.reduceLeDiff, Nat.reduceSub, List.replicate, Nat.zero_add, Nat.lt_add_one, Nat.le_refl, Nat.zero_le, Nat.succ_ne_zero, not_false_eq_true, not_true_eq_false, false_implies, true_implies, forall_const, imp_self, true_or, or_true, eq_self, sI_zw, zw_zw, hI_zw, tg_zw, ln_zw, hR_zw, hL_zw, hN_zw, hM_zw, upd_s, upd_u, upd_ne, Classical.not_not, k_Mo_keepAlive, h1, h2, h3, h4]; try clear hgo9 hW9))
    exact hQ x y
  | succ k ih =>
    intro i g c x y e hr
    have hn : ¬ m ≤ i := by omega
    obtain ⟨r, z1, hs, hr⟩ := hr
    have i2 := hs.1.2.1.1
    ((obtain ⟨W9, hW9, hgo9⟩ := wp_ex (T_Mo_keepAlive l G) [98] _; refine hgo9 200 _ _ _ _ ?_; simp -implicitDefEqProofs (disch := omega) only [hW9, inl, gate, Xq, tz_const, tz_iload, tz_lload, tz_dload, tz_aload, tz_istore, tz_astore, tz_lstore, tz_dstore, tz_iinc, tz_i1, tz_i2, tz_i2z, tz_l2, tz_l2z, tz_i2l, tz_l2i, tz_lcmp, tz_i2d, tz_d2, tz_dcmp, tz_dup, tz_dup2, tz_pop, tz_if, tz_icmp, tz_null, tz_goto, tz_sw, tz_getf, tz_puti, tz_putz, tz_putr, tz_putl, tz_iaload, tz_baload, tz_laload, tz_aaload, tz_iastore, tz_bastore, tz_lastore, tz_aastore, tz_alen, tz_new, tz_newa, tz_oinit, tz_iret, tz_zret, tz_lret, tz_dret, tz_aret, tz_vret, tz_throw, tz_callS, tz_callV, tz_callI, tz_callR, tz_pureS, tz_pureV, tz_callVH, lg, lset, lkill, lst1, lst2, entL, isRf, is1, vl, va_rf_none, va_rf_some, isRf_rf, is1_rf, i0, i1, bI_eq0, bI_eq1, nm_em, nI_eqP, nI_leP, nI_ltP, nN_e1, nN_e2, nN_l1, nN_l2, nN_l3, nN_l4, nI_add, pk_mul, vp_inN, nI_cl, n01, n10, P_i, P_ii, P_iii, f_Mo_at, f_Mo_map, f_Mo_contact, f_Mo_within, f_Mo_isPort, f_Hp_endpoint, f_Hp_nodeOf, f_Hp_portOf, f_Ma_max, f_Ma_min, f_Hp_isSetting, popN, rok, a1, noX, swc, mL, if_true, if_false, ↓reduceIte, cond_true, cond_false, true_and, and_true, List.length_cons, List.length_nil, List.nil_append, List.cons_append, List.append_nil, Option.toList, Nat.reduceEqDiff, Bool.false_eq_true, reduceCtorEq, Nat.reduceAdd, Nat.reduceLT, Nat.reduceLeDiff, Nat.reduceSub, List.replicate, Nat.zero_add, Nat.lt_add_one, Nat.le_refl, Nat.zero_le, Nat.succ_ne_zero, not_false_eq_true, not_true_eq_false, false_implies, true_implies, forall_const, imp_self, true_or, or_true, eq_self, sI_zw, zw_zw, hI_zw, tg_zw, ln_zw, hR_zw, hL_zw, hN_zw, hM_zw, upd_s, upd_u, upd_ne, Classical.not_not, k_Mo_keepAlive, h1, h2, h3, h4, hn]; try clear hgo9 hW9); try (obtain ⟨W9, hW9, hgo9⟩ := wp_ex (T_Mo_keepAlive l G) [98] _; refine hgo9 200 _ _ _ _ ?_; simp -implicitDefEqProofs (disch := omega) only [hW9, inl, gate, Xq, tz_const, tz_iload, tz_lload, tz_dload, tz_aload, tz_istore, tz_astore, tz_lstore, tz_dstore, tz_iinc, tz_i1, tz_i2, tz_i2z, tz_l2, tz_l2z, tz_i2l, tz_l2i, tz_lcmp, tz_i2d, tz_d2, tz_dcmp, tz_dup, tz_dup2, tz_pop, tz_if, tz_icmp, tz_null, tz_goto, tz_sw, tz_getf, tz_puti, tz_putz, tz_putr, tz_putl, tz_iaload, tz_baload, tz_laload, tz_aaload, tz_iastore, tz_bastore, tz_lastore, tz_aastore, tz_alen, tz_new, tz_newa, tz_oinit, tz_iret, tz_zret, tz_lret, tz_dret, tz_aret, tz_vret, tz_throw, tz_callS, tz_callV, tz_callI, tz_callR, tz_pureS, tz_pureV, tz_callVH, lg, lset, lkill, lst1, lst2, entL, isRf, is1, vl, va_rf_none, va_rf_some, isRf_rf, is1_rf, i0, i1, bI_eq0, bI_eq1, nm_em, nI_eqP, nI_leP, nI_ltP, nN_e1, nN_e2, nN_l1, nN_l2, nN_l3, nN_l4, nI_add, pk_mul, vp_inN, nI_cl, n01, n10, P_i, P_ii, P_iii, f_Mo_at, f_Mo_map, f_Mo_contact, f_Mo_within, f_Mo_isPort, f_Hp_endpoint, f_Hp_nodeOf, f_Hp_portOf, f_Ma_max, f_Ma_min, f_Hp_isSetting, popN, rok, a1, noX, swc, mL, if_true, if_false, ↓reduceIte, cond_true, cond_false, true_and, and_true, List.length_cons, List.length_nil, List.nil_append, List.cons_append, List.append_nil, Option.toList, Nat.reduceEqDiff, Bool.false_eq_true, reduceCtorEq, Nat.reduceAdd, Nat.reduceLT, Nat.reduceLeDiff, Nat.reduceSub, List.replicate, Nat.zero_add, Nat.lt_add_one, Nat.le_refl, Nat.zero_le, Nat.succ_ne_zero, not_false_eq_true, not_true_eq_false, false_implies, true_implies, forall_const, imp_self, true_or, or_true, eq_self, sI_zw, zw_zw, hI_zw, tg_zw, ln_zw, hR_zw, hL_zw, hN_zw, hM_zw, upd_s, upd_u, upd_ne, Classical.not_not, k_Mo_keepAlive, h1, h2, h3, h4, hn]; try clear hgo9 hW9))
    refine m_sends a zr n b p d r z1 _ _ hm.zw.zw (by rw [rz, hI_zw]; exact hs) (fun x y => ?_)
    simp only [aft]
    have fin : ∀ w, w = (if r < nI 0 then nI 0 else nI 1) → AWp l G M_Mo_keepAlive 124 [some (.ref a), some (.int (nI n)), some (.int p), some (.int (nI b)), some (.int d), some (.int iv), some (.int (nI m)), some (.int w7), some (.int c), some (.int (nI i))] [.int w, .int c] (zw (zw h zr z1) a (upd (upd (hI h a) 10 x) 11 y)) Q := by
      intro w ew
      (obtain ⟨W9, hW9, hgo9⟩ := wp_ex (T_Mo_keepAlive l G) [98] _; refine hgo9 200 _ _ _ _ ?_; simp -implicitDefEqProofs (disch := omega) only [hW9, inl, gate, Xq, tz_const, tz_iload, tz_lload, tz_dload, tz_aload, tz_istore, tz_astore, tz_lstore, tz_dstore, tz_iinc, tz_i1, tz_i2, tz_i2z, tz_l2, tz_l2z, tz_i2l, tz_l2i, tz_lcmp, tz_i2d, tz_d2, tz_dcmp, tz_dup, tz_dup2, tz_pop, tz_if, tz_icmp, tz_null, tz_goto, tz_sw, tz_getf, tz_puti, tz_putz, tz_putr, tz_putl, tz_iaload, tz_baload, tz_laload, tz_aaload, tz_iastore, tz_bastore, tz_lastore, tz_aastore, tz_alen, tz_new, tz_newa, tz_oinit, tz_iret, tz_zret, tz_lret, tz_dret, tz_aret, tz_vret, tz_throw, tz_callS, tz_callV, tz_callI, tz_callR, tz_pureS, tz_pureV, tz_callVH, lg, lset, lkill, lst1, lst2, entL, isRf, is1, vl, va_rf_none, va_rf_some, isRf_rf, is1_rf, i0, i1, bI_eq0, bI_eq1, nm_em, nI_eqP, nI_leP, nI_ltP, nN_e1, nN_e2, nN_l1, nN_l2, nN_l3, nN_l4, nI_add, pk_mul, vp_inN, nI_cl, n01, n10, P_i, P_ii, P_iii, f_Mo_at, f_Mo_map, f_Mo_contact, f_Mo_within, f_Mo_isPort, f_Hp_endpoint, f_Hp_nodeOf, f_Hp_portOf, f_Ma_max, f_Ma_min, f_Hp_isSetting, popN, rok, a1, noX, swc, mL, if_true, if_false, ↓reduceIte, cond_true, cond_false, true_and, and_true, List.length_cons, List.length_nil, List.nil_append, List.cons_append, List.append_nil, Option.toList, Nat.reduceEqDiff, Bool.false_eq_true, reduceCtorEq, Nat.reduceAdd, Nat.reduceLT, Nat.reduceLeDiff, Nat.reduceSub, List.replicate, Nat.zero_add, Nat.lt_add_one, Nat.le_refl, Nat.zero_le, Nat.succ_ne_zero, not_false_eq_true, not_true_eq_false, false_implies, true_implies, forall_const, imp_self, true_or, or_true, eq_self, sI_zw, zw_zw, hI_zw, tg_zw, ln_zw, hR_zw, hL_zw, hN_zw, hM_zw, upd_s, upd_u, upd_ne, Classical.not_not, k_Mo_keepAlive, h1, h2, h3, h4, rz, ra, cm]; try clear hgo9 hW9)
      refine c_Mo_passes a zr _ (zw (zw h zr z1) a (upd (upd (hI h a) 10 x) 11 y)) _ hm.zw.zw (by rw [rz, hI_zw]; exact i2.1) (by rw [rz, hI_zw]; exact i2.own) ?_
      simp only [aft]
      (obtain ⟨W9, hW9, hgo9⟩ := wp_ex (T_Mo_keepAlive l G) [98] _; refine hgo9 200 _ _ _ _ ?_; simp -implicitDefEqProofs (disch := omega) only [hW9, inl, gate, Xq, tz_const, tz_iload, tz_lload, tz_dload, tz_aload, tz_istore, tz_astore, tz_lstore, tz_dstore, tz_iinc, tz_i1, tz_i2, tz_i2z, tz_l2, tz_l2z, tz_i2l, tz_l2i, tz_lcmp, tz_i2d, tz_d2, tz_dcmp, tz_dup, tz_dup2, tz_pop, tz_if, tz_icmp, tz_null, tz_goto, tz_sw, tz_getf, tz_puti, tz_putz, tz_putr, tz_putl, tz_iaload, tz_baload, tz_laload, tz_aaload, tz_iastore, tz_bastore, tz_lastore, tz_aastore, tz_alen, tz_new, tz_newa, tz_oinit, tz_iret, tz_zret, tz_lret, tz_dret, tz_aret, tz_vret, tz_throw, tz_callS, tz_callV, tz_callI, tz_callR, tz_pureS, tz_pureV, tz_callVH, lg, lset, lkill, lst1, lst2, entL, isRf, is1, vl, va_rf_none, va_rf_some, isRf_rf, is1_rf, i0, i1, bI_eq0, bI_eq1, nm_em, nI_eqP, nI_leP, nI_ltP, nN_e1, nN_e2, nN_l1, nN_l2, nN_l3, nN_l4, nI_add, pk_mul, vp_inN, nI_cl, n01, n10, P_i, P_ii, P_iii, f_Mo_at, f_Mo_map, f_Mo_contact, f_Mo_within, f_Mo_isPort, f_Hp_endpoint, f_Hp_nodeOf, f_Hp_portOf, f_Ma_max, f_Ma_min, f_Hp_isSetting, popN, rok, a1, noX, swc, mL, if_true, if_false, ↓reduceIte, cond_true, cond_false, true_and, and_true, List.length_cons, List.length_nil, List.nil_append, List.cons_append, List.append_nil, Option.toList, Nat.reduceEqDiff, Bool.false_eq_true, reduceCtorEq, Nat.reduceAdd, Nat.reduceLT, Nat.reduceLeDiff, Nat.reduceSub, List.replicate, Nat.zero_add, Nat.lt_add_one, Nat.le_refl, Nat.zero_le, Nat.succ_ne_zero, not_false_eq_true, not_true_eq_false, false_implies, true_implies, forall_const, imp_self, true_or, or_true, eq_self, sI_zw, zw_zw, hI_zw, tg_zw, ln_zw, hR_zw, hL_zw, hN_zw, hM_zw, upd_s, upd_u, upd_ne, Classical.not_not, k_Mo_keepAlive, h1, h2, h3, h4, rz, ra, cm]; try clear hgo9 hW9)
      rw [ew]
      exact ih (i + 1) _ _ x y (by omega) hr
    (obtain ⟨W9, hW9, hgo9⟩ := wp_ex (T_Mo_keepAlive l G) [98, 124] _; refine hgo9 200 _ _ _ _ ?_; simp -implicitDefEqProofs (disch := omega) only [hW9, inl, gate, Xq, tz_const, tz_iload, tz_lload, tz_dload, tz_aload, tz_istore, tz_astore, tz_lstore, tz_dstore, tz_iinc, tz_i1, tz_i2, tz_i2z, tz_l2, tz_l2z, tz_i2l, tz_l2i, tz_lcmp, tz_i2d, tz_d2, tz_dcmp, tz_dup, tz_dup2, tz_pop, tz_if, tz_icmp, tz_null, tz_goto, tz_sw, tz_getf, tz_puti, tz_putz, tz_putr, tz_putl, tz_iaload, tz_baload, tz_laload, tz_aaload, tz_iastore, tz_bastore, tz_lastore, tz_aastore, tz_alen, tz_new, tz_newa, tz_oinit, tz_iret, tz_zret, tz_lret, tz_dret, tz_aret, tz_vret, tz_throw, tz_callS, tz_callV, tz_callI, tz_callR, tz_pureS, tz_pureV, tz_callVH, lg, lset, lkill, lst1, lst2, entL, isRf, is1, vl, va_rf_none, va_rf_some, isRf_rf, is1_rf, i0, i1, bI_eq0, bI_eq1, nm_em, nI_eqP, nI_leP, nI_ltP, nN_e1, nN_e2, nN_l1, nN_l2, nN_l3, nN_l4, nI_add, pk_mul, vp_inN, nI_cl, n01, n10, P_i, P_ii, P_iii, f_Mo_at, f_Mo_map, f_Mo_contact, f_Mo_within, f_Mo_isPort, f_Hp_endpoint, f_Hp_nodeOf, f_Hp_portOf, f_Ma_max, f_Ma_min, f_Hp_isSetting, popN, rok, a1, noX, swc, mL, if_true, if_false, ↓reduceIte, cond_true, cond_false, true_and, and_true, List.length_cons, List.length_nil, List.nil_append, List.cons_append, List.append_nil, Option.toList, Nat.reduceEqDiff, Bool.false_eq_true, reduceCtorEq, Nat.reduceAdd, Nat.reduceLT, Nat.reduceLeDiff, Nat.reduceSub, List.replicate, Nat.zero_add, Nat.lt_add_one, Nat.le_refl, Nat.zero_le, Nat.succ_ne_zero, not_false_eq_true, not_true_eq_false, false_implies, true_implies, forall_const, imp_self, true_or, or_true, eq_self, sI_zw, zw_zw, hI_zw, tg_zw, ln_zw, hR_zw, hL_zw, hN_zw, hM_zw, upd_s, upd_u, upd_ne, Classical.not_not, k_Mo_keepAlive, h1, h2, h3, h4, rz, ra, cm, u1011]; try clear hgo9 hW9)
    refine ⟨fun c1 => ?_, fun c1 => ?_⟩
    · (obtain ⟨W9, hW9, hgo9⟩ := wp_ex (T_Mo_keepAlive l G) [98, 124] _; refine hgo9 200 _ _ _ _ ?_; simp -implicitDefEqProofs (disch := omega) only [hW9, inl, gate, Xq, tz_const, tz_iload, tz_lload, tz_dload, tz_aload, tz_istore, tz_astore, tz_lstore, tz_dstore, tz_iinc, tz_i1, tz_i2, tz_i2z, tz_l2, tz_l2z, tz_i2l, tz_l2i, tz_lcmp, tz_i2d, tz_d2, tz_dcmp, tz_dup, tz_dup2, tz_pop, tz_if, tz_icmp, tz_null, tz_goto, tz_sw, tz_getf, tz_puti, tz_putz, tz_putr, tz_putl, tz_iaload, tz_baload, tz_laload, tz_aaload, tz_iastore, tz_bastore, tz_lastore, tz_aastore, tz_alen, tz_new, tz_newa, tz_oinit, tz_iret, tz_zret, tz_lret, tz_dret, tz_aret, tz_vret, tz_throw, tz_callS, tz_callV, tz_callI, tz_callR, tz_pureS, tz_pureV, tz_callVH, lg, lset, lkill, lst1, lst2, entL, isRf, is1, vl, va_rf_none, va_rf_some, isRf_rf, is1_rf, i0, i1, bI_eq0, bI_eq1, nm_em, nI_eqP, nI_leP, nI_ltP, nN_e1, nN_e2, nN_l1, nN_l2, nN_l3, nN_l4, nI_add, pk_mul, vp_inN, nI_cl, n01, n10, P_i, P_ii, P_iii, f_Mo_at, f_Mo_map, f_Mo_contact, f_Mo_within, f_Mo_isPort, f_Hp_endpoint, f_Hp_nodeOf, f_Hp_portOf, f_Ma_max, f_Ma_min, f_Hp_isSetting, popN, rok, a1, noX, swc, mL, if_true, if_false, ↓reduceIte, cond_true, cond_false, true_and, and_true, List.length_cons, List.length_nil, List.nil_append, List.cons_append, List.append_nil, Option.toList, Nat.reduceEqDiff, Bool.false_eq_true, reduceCtorEq, Nat.reduceAdd, Nat.reduceLT, Nat.reduceLeDiff, Nat.reduceSub, List.replicate, Nat.zero_add, Nat.lt_add_one, Nat.le_refl, Nat.zero_le, Nat.succ_ne_zero, not_false_eq_true, not_true_eq_false, false_implies, true_implies, forall_const, imp_self, true_or, or_true, eq_self, sI_zw, zw_zw, hI_zw, tg_zw, ln_zw, hR_zw, hL_zw, hN_zw, hM_zw, upd_s, upd_u, upd_ne, Classical.not_not, k_Mo_keepAlive, h1]; try clear hgo9 hW9)
      exact fin _ (by rw [if_pos c1])
    · (obtain ⟨W9, hW9, hgo9⟩ := wp_ex (T_Mo_keepAlive l G) [98, 124] _; refine hgo9 200 _ _ _ _ ?_; simp -implicitDefEqProofs (disch := omega) only [hW9, inl, gate, Xq, tz_const, tz_iload, tz_lload, tz_dload, tz_aload, tz_istore, tz_astore, tz_lstore, tz_dstore, tz_iinc, tz_i1, tz_i2, tz_i2z, tz_l2, tz_l2z, tz_i2l, tz_l2i, tz_lcmp, tz_i2d, tz_d2, tz_dcmp, tz_dup, tz_dup2, tz_pop, tz_if, tz_icmp, tz_null, tz_goto, tz_sw, tz_getf, tz_puti, tz_putz, tz_putr, tz_putl, tz_iaload, tz_baload, tz_laload, tz_aaload, tz_iastore, tz_bastore, tz_lastore, tz_aastore, tz_alen, tz_new, tz_newa, tz_oinit, tz_iret, tz_zret, tz_lret, tz_dret, tz_aret, tz_vret, tz_throw, tz_callS, tz_callV, tz_callI, tz_callR, tz_pureS, tz_pureV, tz_callVH, lg, lset, lkill, lst1, lst2, entL, isRf, is1, vl, va_rf_none, va_rf_some, isRf_rf, is1_rf, i0, i1, bI_eq0, bI_eq1, nm_em, nI_eqP, nI_leP, nI_ltP, nN_e1, nN_e2, nN_l1, nN_l2, nN_l3, nN_l4, nI_add, pk_mul, vp_inN, nI_cl, n01, n10, P_i, P_ii, P_iii, f_Mo_at, f_Mo_map, f_Mo_contact, f_Mo_within, f_Mo_isPort, f_Hp_endpoint, f_Hp_nodeOf, f_Hp_portOf, f_Ma_max, f_Ma_min, f_Hp_isSetting, popN, rok, a1, noX, swc, mL, if_true, if_false, ↓reduceIte, cond_true, cond_false, true_and, and_true, List.length_cons, List.length_nil, List.nil_append, List.cons_append, List.append_nil, Option.toList, Nat.reduceEqDiff, Bool.false_eq_true, reduceCtorEq, Nat.reduceAdd, Nat.reduceLT, Nat.reduceLeDiff, Nat.reduceSub, List.replicate, Nat.zero_add, Nat.lt_add_one, Nat.le_refl, Nat.zero_le, Nat.succ_ne_zero, not_false_eq_true, not_true_eq_false, false_implies, true_implies, forall_const, imp_self, true_or, or_true, eq_self, sI_zw, zw_zw, hI_zw, tg_zw, ln_zw, hR_zw, hL_zw, hN_zw, hM_zw, upd_s, upd_u, upd_ne, Classical.not_not, k_Mo_keepAlive, h1]; try clear hgo9 hW9)
      exact fin _ (by rw [if_neg c1])
end
