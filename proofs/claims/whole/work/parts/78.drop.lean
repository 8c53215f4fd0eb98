/-! THE CLASS: dead mappings -/
def k_Tl_dropDead (l : Launch) (G : Gc) (pc : Nat) : Tr :=
  if pc < 44 then
   if pc < 19 then
    if pc < 8 then
     if pc < 5 then
      if pc < 1 then
       if pc = 0 then tz_aload 1 0 else dead
      else
       if pc < 4 then
        if pc = 1 then tz_getf 4 5 10 0 else dead
       else
        if pc = 4 then tz_istore 5 2 else dead
     else
      if pc < 6 then
       if pc = 5 then tz_const 6 (.int (nI 0)) else dead
      else
       if pc < 7 then
        if pc = 6 then tz_istore 7 3 else dead
       else
        if pc = 7 then tz_const 8 (.int (nI 0)) else dead
    else
     if pc < 13 then
      if pc < 10 then
       if pc = 8 then tz_istore 10 4 else dead
      else
       if pc < 12 then
        if pc = 10 then tz_iload 12 4 else dead
       else
        if pc = 12 then tz_iload 13 2 else dead
     else
      if pc < 16 then
       if pc = 13 then tz_icmp 16 80 (fun a b => b ≤ a) else dead
      else
       if pc < 18 then
        if pc = 16 then tz_iload 18 4 else dead
       else
        if pc = 18 then tz_aload 19 0 else dead
   else
    if pc < 32 then
     if pc < 26 then
      if pc < 22 then
       if pc = 19 then tz_getf 22 5 9 1 else dead
      else
       if pc < 23 then
        if pc = 22 then tz_alen 23 else dead
       else
        if pc = 23 then tz_icmp 26 80 (fun a b => b ≤ a) else dead
     else
      if pc < 27 then
       if pc = 26 then tz_aload 27 0 else dead
      else
       if pc < 30 then
        if pc = 27 then tz_getf 30 5 9 1 else dead
       else
        if pc = 30 then tz_iload 32 4 else dead
    else
     if pc < 37 then
      if pc < 33 then
       if pc = 32 then tz_aaload 33 else dead
      else
       if pc < 35 then
        if pc = 33 then tz_astore 35 5 else dead
       else
        if pc = 35 then tz_aload 37 5 else dead
     else
      if pc < 41 then
       if pc < 40 then
        if pc = 37 then tz_null 74 40 else dead
       else
        if pc = 40 then tz_aload 41 0 else dead
      else
       if pc < 43 then
        if pc = 41 then tz_aload 43 5 else dead
       else
        if pc = 43 then tz_iload 44 1 else dead
  else
   if pc < 67 then
    if pc < 57 then
     if pc < 51 then
      if pc < 47 then
       if pc = 44 then tz_pureV 47 2 5 P_Tl_ticksLeft f_Tl_ticksLeft else dead
      else
       if pc < 50 then
        if pc = 47 then tz_if 50 74 (fun a => a < 0) else dead
       else
        if pc = 50 then tz_aload 51 0 else dead
     else
      if pc < 54 then
       if pc = 51 then tz_getf 54 5 9 1 else dead
      else
       if pc < 56 then
        if pc = 54 then tz_iload 56 4 else dead
       else
        if pc = 56 then tz_aload 57 0 else dead
    else
     if pc < 62 then
      if pc < 60 then
       if pc = 57 then tz_getf 60 5 9 1 else dead
      else
       if pc < 61 then
        if pc = 60 then tz_iload 61 3 else dead
       else
        if pc = 61 then tz_aaload 62 else dead
     else
      if pc < 63 then
       if pc = 62 then tz_aastore 63 else dead
      else
       if pc < 64 then
        if pc = 63 then tz_aload 64 0 else dead
       else
        if pc = 64 then tz_getf 67 5 9 1 else dead
   else
    if pc < 80 then
     if pc < 71 then
      if pc < 68 then
       if pc = 67 then tz_iload 68 3 else dead
      else
       if pc < 70 then
        if pc = 68 then tz_aload 70 5 else dead
       else
        if pc = 70 then tz_aastore 71 else dead
     else
      if pc < 74 then
       if pc = 71 then tz_iinc 74 3 (nI 1) else dead
      else
       if pc < 77 then
        if pc = 74 then tz_iinc 77 4 (nI 1) else dead
       else
        if pc = 77 then tz_goto 10 else dead
    else
     if pc < 85 then
      if pc < 81 then
       if pc = 80 then tz_aload 81 0 else dead
      else
       if pc < 82 then
        if pc = 81 then tz_iload 82 3 else dead
       else
        if pc = 82 then tz_puti 85 5 10 else dead
     else
      if pc < 87 then
       if pc < 86 then
        if pc = 85 then tz_iload 86 2 else dead
       else
        if pc = 86 then tz_iload 87 3 else dead
      else
       if pc < 88 then
        if pc = 87 then tz_i2 88 (fun a b => a - b) else dead
       else
        if pc = 88 then tz_iret else dead
set_option maxRecDepth 100000 in
theorem T_Tl_dropDead (l : Launch) (G : Gc) : TabOK l G M_Tl_dropDead (k_Tl_dropDead l G) := by
  intro pc
  unfold k_Tl_dropDead
  exact
   (sd_br
    (sd_br
     (sd_br
      (sd_br
       (sd_br
        (sd_lf (sd_aload_n (k := 0) (by decide +kernel : decode prog_7_method_14_code 0 = .ok (.aload_n 0, 1))))
        (sd_br
         (sd_lf (sd_getf (q := (RX5, TX5, 11)) (by decide +kernel : decode prog_7_method_14_code 1 = .ok (.getfield 17, 3)) rfl (by decide +kernel) (gm 261 (by decide +kernel) rfl)))
         (sd_lf (sd_istore_n (k := 2) (by decide +kernel : decode prog_7_method_14_code 4 = .ok (.istore_n 2, 1))))))
       (sd_br
        (sd_lf (sd_iconst (by decide +kernel : decode prog_7_method_14_code 5 = .ok (.iconst 0, 1)) (by decide +kernel)))
        (sd_br
         (sd_lf (sd_istore_n (k := 3) (by decide +kernel : decode prog_7_method_14_code 6 = .ok (.istore_n 3, 1))))
         (sd_lf (sd_iconst (by decide +kernel : decode prog_7_method_14_code 7 = .ok (.iconst 0, 1)) (by decide +kernel))))))
      (sd_br
       (sd_br
        (sd_lf (sd_istore (by decide +kernel : decode prog_7_method_14_code 8 = .ok (.istore 4, 2))))
        (sd_br
         (sd_lf (sd_iload (by decide +kernel : decode prog_7_method_14_code 10 = .ok (.iload 4, 2))))
         (sd_lf (sd_iload_n (k := 2) (by decide +kernel : decode prog_7_method_14_code 12 = .ok (.iload_n 2, 1))))))
       (sd_br
        (sd_lf (sd_icmp_ge (by decide +kernel : decode prog_7_method_14_code 13 = .ok (.if_icmp .ge 67, 3)) (by decide +kernel)))
        (sd_br
         (sd_lf (sd_iload (by decide +kernel : decode prog_7_method_14_code 16 = .ok (.iload 4, 2))))
         (sd_lf (sd_aload_n (k := 0) (by decide +kernel : decode prog_7_method_14_code 18 = .ok (.aload_n 0, 1))))))))
     (sd_br
      (sd_br
       (sd_br
        (sd_lf (sd_getf (q := (RX5, TX5, 11)) (by decide +kernel : decode prog_7_method_14_code 19 = .ok (.getfield 11, 3)) rfl (by decide +kernel) (gm 260 (by decide +kernel) rfl)))
        (sd_br
         (sd_lf (sd_alen (by decide +kernel : decode prog_7_method_14_code 22 = .ok (.arraylength, 1))))
         (sd_lf (sd_icmp_ge (by decide +kernel : decode prog_7_method_14_code 23 = .ok (.if_icmp .ge 57, 3)) (by decide +kernel)))))
       (sd_br
        (sd_lf (sd_aload_n (k := 0) (by decide +kernel : decode prog_7_method_14_code 26 = .ok (.aload_n 0, 1))))
        (sd_br
         (sd_lf (sd_getf (q := (RX5, TX5, 11)) (by decide +kernel : decode prog_7_method_14_code 27 = .ok (.getfield 11, 3)) rfl (by decide +kernel) (gm 260 (by decide +kernel) rfl)))
         (sd_lf (sd_iload (by decide +kernel : decode prog_7_method_14_code 30 = .ok (.iload 4, 2)))))))
      (sd_br
       (sd_br
        (sd_lf (sd_aaload (by decide +kernel : decode prog_7_method_14_code 32 = .ok (.aaload, 1))))
        (sd_br
         (sd_lf (sd_astore (by decide +kernel : decode prog_7_method_14_code 33 = .ok (.astore 5, 2))))
         (sd_lf (sd_aload (by decide +kernel : decode prog_7_method_14_code 35 = .ok (.aload 5, 2))))))
       (sd_br
        (sd_br
         (sd_lf (sd_ifnull (by decide +kernel : decode prog_7_method_14_code 37 = .ok (.ifnull 37, 3)) (by decide +kernel)))
         (sd_lf (sd_aload_n (k := 0) (by decide +kernel : decode prog_7_method_14_code 40 = .ok (.aload_n 0, 1)))))
        (sd_br
         (sd_lf (sd_aload (by decide +kernel : decode prog_7_method_14_code 41 = .ok (.aload 5, 2))))
         (sd_lf (sd_iload_n (k := 1) (by decide +kernel : decode prog_7_method_14_code 43 = .ok (.iload_n 1, 1)))))))))
    (sd_br
     (sd_br
      (sd_br
       (sd_br
        (sd_lf (sd_pureV (sd_callV (q := (RX5, TX5, 11)) (by decide +kernel : decode prog_7_method_14_code 44 = .ok (.invokevirtual 117, 3)) ok_Tl_ticksLeft (gm 629 (by decide +kernel) rfl) (gm 469 (by decide +kernel) rfl) (gm 470 (by decide +kernel) rfl) rfl rfl (by decide +kernel) rfl rfl) c_Tl_ticksLeft))
        (sd_br
         (sd_lf (sd_if_lt (by decide +kernel : decode prog_7_method_14_code 47 = .ok (.ifCond .lt 27, 3)) (by decide +kernel)))
         (sd_lf (sd_aload_n (k := 0) (by decide +kernel : decode prog_7_method_14_code 50 = .ok (.aload_n 0, 1))))))
       (sd_br
        (sd_lf (sd_getf (q := (RX5, TX5, 11)) (by decide +kernel : decode prog_7_method_14_code 51 = .ok (.getfield 11, 3)) rfl (by decide +kernel) (gm 260 (by decide +kernel) rfl)))
        (sd_br
         (sd_lf (sd_iload (by decide +kernel : decode prog_7_method_14_code 54 = .ok (.iload 4, 2))))
         (sd_lf (sd_aload_n (k := 0) (by decide +kernel : decode prog_7_method_14_code 56 = .ok (.aload_n 0, 1)))))))
      (sd_br
       (sd_br
        (sd_lf (sd_getf (q := (RX5, TX5, 11)) (by decide +kernel : decode prog_7_method_14_code 57 = .ok (.getfield 11, 3)) rfl (by decide +kernel) (gm 260 (by decide +kernel) rfl)))
        (sd_br
         (sd_lf (sd_iload_n (k := 3) (by decide +kernel : decode prog_7_method_14_code 60 = .ok (.iload_n 3, 1))))
         (sd_lf (sd_aaload (by decide +kernel : decode prog_7_method_14_code 61 = .ok (.aaload, 1))))))
       (sd_br
        (sd_lf (sd_aastore (by decide +kernel : decode prog_7_method_14_code 62 = .ok (.aastore, 1))))
        (sd_br
         (sd_lf (sd_aload_n (k := 0) (by decide +kernel : decode prog_7_method_14_code 63 = .ok (.aload_n 0, 1))))
         (sd_lf (sd_getf (q := (RX5, TX5, 11)) (by decide +kernel : decode prog_7_method_14_code 64 = .ok (.getfield 11, 3)) rfl (by decide +kernel) (gm 260 (by decide +kernel) rfl)))))))
     (sd_br
      (sd_br
       (sd_br
        (sd_lf (sd_iload_n (k := 3) (by decide +kernel : decode prog_7_method_14_code 67 = .ok (.iload_n 3, 1))))
        (sd_br
         (sd_lf (sd_aload (by decide +kernel : decode prog_7_method_14_code 68 = .ok (.aload 5, 2))))
         (sd_lf (sd_aastore (by decide +kernel : decode prog_7_method_14_code 70 = .ok (.aastore, 1))))))
       (sd_br
        (sd_lf (sd_iinc (by decide +kernel : decode prog_7_method_14_code 71 = .ok (.iinc 3 1, 3)) (by decide +kernel)))
        (sd_br
         (sd_lf (sd_iinc (by decide +kernel : decode prog_7_method_14_code 74 = .ok (.iinc 4 1, 3)) (by decide +kernel)))
         (sd_lf (sd_goto (by decide +kernel : decode prog_7_method_14_code 77 = .ok (.goto (-67), 3)) (by decide +kernel))))))
      (sd_br
       (sd_br
        (sd_lf (sd_aload_n (k := 0) (by decide +kernel : decode prog_7_method_14_code 80 = .ok (.aload_n 0, 1))))
        (sd_br
         (sd_lf (sd_iload_n (k := 3) (by decide +kernel : decode prog_7_method_14_code 81 = .ok (.iload_n 3, 1))))
         (sd_lf (sd_puti (q := (RX5, TX5, 11)) (by decide +kernel : decode prog_7_method_14_code 82 = .ok (.putfield 17, 3)) rfl (by decide +kernel) (gm 261 (by decide +kernel) rfl) rfl rfl (Or.inl rfl)))))
       (sd_br
        (sd_br
         (sd_lf (sd_iload_n (k := 2) (by decide +kernel : decode prog_7_method_14_code 85 = .ok (.iload_n 2, 1))))
         (sd_lf (sd_iload_n (k := 3) (by decide +kernel : decode prog_7_method_14_code 86 = .ok (.iload_n 3, 1)))))
        (sd_br
         (sd_lf (sd_isub (by decide +kernel : decode prog_7_method_14_code 87 = .ok (.isub, 1))))
         (sd_lf (sd_iret (by decide +kernel : decode prog_7_method_14_code 88 = .ok (.ireturn, 1)) rfl))))))))
def updR (f : Nat → Option Nat) (k : Nat) (x : Option Nat) : Nat → Option Nat := fun j => if j = k then x else f j
/-- a row of references written as a whole -/
def aw (h : AH) (a : Nat) (g : Nat → Option Nat) : AH := (h.1, h.2.1, h.2.2.1, h.2.2.2.1, fun b => if b = a then g else h.2.2.2.2.1 b, h.2.2.2.2.2)
theorem sR_aw (h : AH) (a k : Nat) (x : Option Nat) : sR h a k x = aw h a (updR (hR h a) k x) := by
  unfold sR aw
  refine congrArg (fun q => (h.1, h.2.1, h.2.2.1, h.2.2.2.1, q, h.2.2.2.2.2)) ?_
  funext b j
  by_cases e : b = a
  · subst e; simp [u2, updR, hR]
  · simp [u2, e]
theorem aw_aw (h : AH) (a : Nat) (f g : Nat → Option Nat) : aw (aw h a f) a g = aw h a g := by
  unfold aw
  refine congrArg (fun q => (h.1, h.2.1, h.2.2.1, h.2.2.2.1, q, h.2.2.2.2.2)) ?_
  funext b
  by_cases e : b = a <;> simp [e]
theorem hR_aw (h : AH) (a : Nat) (g : Nat → Option Nat) : hR (aw h a g) a = g := by simp [hR, aw]
theorem hR_awo {h : AH} {a b : Nat} (g : Nat → Option Nat) (hne : b ≠ a) : hR (aw h a g) b = hR h b := by simp [hR, aw, hne]
theorem hI_aw (h : AH) (a : Nat) (g : Nat → Option Nat) : hI (aw h a g) = hI h := rfl
theorem hL_aw (h : AH) (a : Nat) (g : Nat → Option Nat) : hL (aw h a g) = hL h := rfl
theorem tg_aw (h : AH) (a : Nat) (g : Nat → Option Nat) (b : Nat) : tg (aw h a g) b = tg h b := rfl
theorem ln_aw (h : AH) (a : Nat) (g : Nat → Option Nat) (b : Nat) : ln (aw h a g) b = ln h b := rfl
theorem aw_self (h : AH) (a : Nat) : aw h a (hR h a) = h := by
  unfold aw
  have : (fun b => if b = a then hR h a else h.2.2.2.2.1 b) = h.2.2.2.2.1 := by
    funext b
    by_cases e : b = a
    · subst e; simp [hR]
    · simp [e]
  rw [this]
def swp (p : Nat → Nat) (i k : Nat) : Nat → Nat := fun q => if q = k then p i else if q = i then p k else p q
/-- how the slots stand: k of the first i live and come first -/
def Prm (z : Nat → Int32) (t : Nat) (p : Nat → Nat) (i k : Nat) : Prop := k ≤ i ∧ (∀ q, q < i → p q < i) ∧ (∀ q, i ≤ q → p q = q) ∧ (∀ q q', p q = p q' → q = q') ∧ k = (sel z t 0 i).length ∧ ∀ q j, (sel z t 0 i)[q]? = some j → p q = j
theorem sel_snoc (z : Nat → Int32) (t : Nat) : ∀ (n i : Nat), sel z t i (n + 1) = if nI 0 ≤ livZ z t (i + n) then sel z t i n ++ [i + n] else sel z t i n
  | 0, i => by simp [sel]
  | n + 1, i => by
    rw [sel, sel_snoc z t n (i + 1), sel, show i + 1 + n = i + (n + 1) by omega]
    split <;> split <;> simp
theorem Prm.go {z : Nat → Int32} {t i k : Nat} {p : Nat → Nat} (h : Prm z t p i k) (hl : nI 0 ≤ livZ z t i) : Prm z t (swp p i k) (i + 1) (k + 1) := by
  obtain ⟨h1, h2, h3, h4, h5, h6⟩ := h
  have ei : p i = i := h3 i (Nat.le_refl _)
  have es := sel_snoc z t i 0
  rw [Nat.zero_add, if_pos hl] at es
  refine ⟨by omega, fun q hq => ?_, fun q hq => ?_, fun q q' e => ?_, by rw [es, List.length_append, List.length_singleton, ← h5], fun q j hq => ?_⟩
  · unfold swp
    split
    · omega
    · split
      · by_cases c : k < i
        · have := h2 k c; omega
        · have : k = i := by omega
          rw [this, ei]; omega
      · by_cases c : q < i
        · have := h2 q c; omega
        · omega
  · unfold swp
    rw [if_neg (by omega), if_neg (by omega)]
    exact h3 q (by omega)
  · unfold swp at e
    repeat' split at e
    all_goals first
      | omega
      | (have := h4 _ _ e; omega)
  · rw [es] at hq
    have hle := List.getElem?_eq_some_iff.mp hq
    obtain ⟨hlt, -⟩ := hle
    rw [List.length_append, List.length_singleton, ← h5] at hlt
    by_cases c : q < k
    · rw [List.getElem?_append_left (by omega)] at hq
      have := h6 q j hq
      unfold swp
      rw [if_neg (by omega), if_neg (by omega)]
      exact this
    · have : q = k := by omega
      subst this
      rw [List.getElem?_append_right (by omega), ← h5, Nat.sub_self] at hq
      simp at hq
      subst hq
      unfold swp
      rw [if_pos rfl]
      exact ei
theorem Prm.stay {z : Nat → Int32} {t i k : Nat} {p : Nat → Nat} (h : Prm z t p i k) (hl : ¬ nI 0 ≤ livZ z t i) : Prm z t p (i + 1) k := by
  obtain ⟨h1, h2, h3, h4, h5, h6⟩ := h
  have es := sel_snoc z t i 0
  rw [Nat.zero_add, if_neg hl] at es
  refine ⟨by omega, fun q hq => ?_, fun q hq => h3 q (by omega), h4, by rw [es]; exact h5, fun q j hq => ?_⟩
  · by_cases c : q < i
    · have := h2 q c; omega
    · rw [h3 q (by omega)]; omega
  · rw [es] at hq
    exact h6 q j hq
section
variable {l : Launch} {G : Gc}
theorem lp_dr {t i o : Nat} {tick : Int32} {z : Nat → Int32} {h : AH} {Q : Po} (k : TlG h t z i o o) (slk : SlK h t o) (et : tick = z 0)
    (hQ : ∀ p q, Prm z i p o q → Q (.inl (some (.int (nI (o - q))))) (zw (aw h (mM h t) (fun s => hR h (mM h t) (p s))) t (upd (hI h t) 10 (nI q)))) :
    ∀ (d a q : Nat) (p : Nat → Nat) (v : Option Value), a + d = o → Prm z i p a q → AWp l G M_Tl_dropDead 10 [some (.ref t), some (.int tick), some (.int (nI o)), some (.int (nI q)), some (.int (nI a)), v] [] (aw h (mM h t) (fun s => hR h (mM h t) (p s))) Q := by
  obtain ⟨⟨h1, h2, h3, h4⟩, h5, h6, h7⟩ := id slk
  have nM : t ≠ mM h t := ne_tg (by rw [h1, h3]; decide)
  have ro : ∀ g, hR (aw h (mM h t) g) t = hR h t := fun g => hR_awo g nM
  have hn0 : ∀ x : Int32, (x < nI 0) = ¬ (nI 0 ≤ x) := by
    intro x
    rw [n0le, Classical.not_not]
  intro d
  induction d with
  | zero =>
    intro a q p v e hp
    have ea : a = o := by omega
    subst ea
    have q8 : q ≤ a := hp.1
    ((obtain ⟨W9, hW9, hgo9⟩ := wp_ex (T_Tl_dropDead l G) [10] _; refine hgo9 200 _ _ _ _ ?_; simp -implicitDefEqProofs (disch := omega) only [hW9, inl, gate, Xq, tz_const, tz_iload, tz_lload, tz_dload, tz_aload, tz_istore, tz_astore, tz_lstore, tz_dstore, tz_iinc, tz_i1, tz_i2, tz_i2z, tz_l2, tz_l2z, tz_i2l, tz_l2i, tz_lcmp, tz_i2d, tz_d2, tz_dcmp, tz_dup, tz_dup2, tz_pop, tz_if, tz_icmp, tz_null, tz_goto, tz_sw, tz_getf, tz_puti, tz_putz, tz_putr, tz_putl, tz_iaload, tz_baload, tz_laload, tz_aaload, tz_iastore, tz_bastore, tz_lastore, tz_aastore, tz_alen, tz_new, tz_newa, tz_oinit, tz_iret, tz_zret, tz_lret, tz_dret, tz_aret, tz_vret, tz_throw, tz_callS, tz_callV, tz_callI, tz_callR, tz_pureS, tz_pureV, tz_callVH, lg, lset, lkill, lst1, lst2, entL, isRf, is1, vl, va_rf_none, va_rf_some, isRf_rf, is1_rf, i0, i1, bI_eq0, bI_eq1, nm_em, nI_eqP, nI_leP, nI_ltP, nN_e1, nN_e2, nN_l1, nN_l2, nN_l3, nN_l4, nI_add, pk_mul, vp_inN, nI_cl, n01, n10, P_i, P_ii, P_iii, f_Mo_at, f_Mo_map, f_Mo_contact, f_Mo_within, f_Mo_isPort, f_Hp_endpoint, f_Hp_nodeOf, f_Hp_portOf, f_Ma_max, f_Ma_min, f_Hp_isSetting, popN, rok, a1, noX, swc, mL, if_true, if_false, ↓reduceIte, cond_true, cond_false, true_and, and_true, List.length_cons, List.length_nil, List.nil_append, List.cons_append, List.append_nil, Option.toList, Nat.reduceEqDiff, Bool.false_eq_true, reduceCtorEq, Nat.reduceAdd, Nat.reduceLT, Nat.reduceLeDiff, Nat.reduceSub, List.replicate, Nat.zero_add, Nat.lt_add_one, Nat.le_refl, Nat.zero_le, Nat.succ_ne_zero, not_false_eq_true, not_true_eq_false, false_implies, true_implies, forall_const, imp_self, true_or, or_true, eq_self, sI_zw, zw_zw, hI_zw, tg_zw, ln_zw, hR_zw, hL_zw, hN_zw, hM_zw, upd_s, upd_u, upd_ne, Classical.not_not, k_Tl_dropDead, h1, tg_aw, hI_aw, pk_sub]; try clear hgo9 hW9); try (obtain ⟨W9, hW9, hgo9⟩ := wp_ex (T_Tl_dropDead l G) [10] _; refine hgo9 200 _ _ _ _ ?_; simp -implicitDefEqProofs (disch := omega) only [hW9, inl, gate, Xq, tz_const, tz_iload, tz_lload, tz_dload, tz_aload, tz_istore, tz_astore, tz_lstore, tz_dstore, tz_iinc, tz_i1, tz_i2, tz_i2z, tz_l2, tz_l2z, tz_i2l, tz_l2i, tz_lcmp, tz_i2d, tz_d2, tz_dcmp, tz_dup, tz_dup2, tz_pop, tz_if, tz_icmp, tz_null, tz_goto, tz_sw, tz_getf, tz_puti, tz_putz, tz_putr, tz_putl, tz_iaload, tz_baload, tz_laload, tz_aaload, tz_iastore, tz_bastore, tz_lastore, tz_aastore, tz_alen, tz_new, tz_newa, tz_oinit, tz_iret, tz_zret, tz_lret, tz_dret, tz_aret, tz_vret, tz_throw, tz_callS, tz_callV, tz_callI, tz_callR, tz_pureS, tz_pureV, tz_callVH, lg, lset, lkill, lst1, lst2, entL, isRf, is1, vl, va_rf_none, va_rf_some, isRf_rf, is1_rf, i0, i1, bI_eq0, bI_eq1, nm_em, nI_eqP, nI_leP, nI_ltP, nN_e1, nN_e2, nN_l1, nN_l2, nN_l3, nN_l4, nI_add, pk_mul, vp_inN, nI_cl, n01, n10, P_i, P_ii, P_iii, f_Mo_at, f_Mo_map, f_Mo_contact, f_Mo_within, f_Mo_isPort, f_Hp_endpoint, f_Hp_nodeOf, f_Hp_portOf, f_Ma_max, f_Ma_min, f_Hp_isSetting, popN, rok, a1, noX, swc, mL, if_true, if_false, ↓reduceIte, cond_true, cond_false, true_and, and_true, List.length_cons, List.length_nil, List.nil_append, List.cons_append, List.append_nil, Option.toList, Nat.reduceEqDiff, Bool.false_eq_true, reduceCtorEq, Nat.reduceAdd, Nat.reduceLT, Nat.reduceLeDiff, Nat.reduceSub, List.replicate, Nat.zero_add, Nat.lt_add_one, Nat.le_refl, Nat.zero_le, Nat.succ_ne_zero, not_false_eq_true, not_true_eq_false, false_implies, true_implies, forall_const, imp_self, true_or, or_true, eq_self, sI_zw, zw_zw, hI_zw, tg_zw, ln_zw, hR_zw, hL_zw, hN_zw, hM_zw, upd_s, upd_u, upd_ne, Classical.not_not, k_Tl_dropDead, h1, tg_aw, hI_aw, pk_sub]; try clear hgo9 hW9); try (obtain ⟨W9, hW9, hgo9⟩ := wp_ex (T_Tl_dropDead l G) [10] _; refine hgo9 200 _ _ _ _ ?_; simp -implicitDefEqProofs (disch := omega) only [hW9, inl, gate, Xq, tz_const, tz_iload, tz_lload, tz_dload, tz_aload, tz_istore, tz_astore, tz_lstore, tz_dstore, tz_iinc, tz_i1, tz_i2, tz_i2z, tz_l2, tz_l2z, tz_i2l, tz_l2i, tz_lcmp, tz_i2d, tz_d2, tz_dcmp, tz_dup, tz_dup2, tz_pop, tz_if, tz_icmp, tz_null, tz_goto, tz_sw, tz_getf, tz_puti, tz_putz, tz_putr, tz_putl, tz_iaload, tz_baload, tz_laload, tz_aaload, tz_iastore, tz_bastore, tz_lastore, tz_aastore, tz_alen, tz_new, tz_newa, tz_oinit, tz_iret, tz_zret, tz_lret, tz_dret, tz_aret, tz_vret, tz_throw, tz_callS, tz_callV, tz_callI, tz_callR, tz_pureS, tz_pureV, tz_callVH, lg, lset, lkill, lst1, lst2, entL, isRf, is1, vl, va_rf_none, va_rf_some, isRf_rf, is1_rf, i0, i1, bI_eq0, bI_eq1, nm_em, nI_eqP, nI_leP, nI_ltP, nN_e1, nN_e2, nN_l1, nN_l2, nN_l3, nN_l4, nI_add, pk_mul, vp_inN, nI_cl, n01, n10, P_i, P_ii, P_iii, f_Mo_at, f_Mo_map, f_Mo_contact, f_Mo_within, f_Mo_isPort, f_Hp_endpoint, f_Hp_nodeOf, f_Hp_portOf, f_Ma_max, f_Ma_min, f_Hp_isSetting, popN, rok, a1, noX, swc, mL, if_true, if_false, ↓reduceIte, cond_true, cond_false, true_and, and_true, List.length_cons, List.length_nil, List.nil_append, List.cons_append, List.append_nil, Option.toList, Nat.reduceEqDiff, Bool.false_eq_true, reduceCtorEq, Nat.reduceAdd, Nat.reduceLT, Nat.reduceLeDiff, Nat.reduceSub, List.replicate, Nat.zero_add, Nat.lt_add_one, Nat.le_refl, Nat.zero_le, Nat.succ_ne_zero, not_false_eq_true, not_true_eq_false, false_implies, true_implies, forall_const, imp_self, true_or, or_true, eq_self, sI_zw, zw_zw, hI_zw, tg_zw, ln_zw, hR_zw, hL_zw, hN_zw, hM_zw, upd_s, upd_u, upd_ne, Classical.not_not, k_Tl_dropDead, h1, tg_aw, hI_aw, pk_sub]; try clear hgo9 hW9))
    exact hQ p q hp
  | succ d ih =>
    intro a q p v e hp
    have ea : ¬ o ≤ a := by omega
    have ea8 : ¬ 8 ≤ a := by omega
    obtain ⟨g1, g2⟩ := h7 a (by omega)
    have pa : p a = a := hp.2.2.1 a (Nat.le_refl _)
    have sa : hR h (mM h t) (p a) = some (mpO h t a) := by rw [pa]; exact g1
    have hP : ∀ g, P_Tl_ticksLeft [.ref t, .ref (mpO h t a), .int tick] (aw h (mM h t) g) := fun g => g2
    have hf : ∀ g, f_Tl_ticksLeft [.ref t, .ref (mpO h t a), .int tick] (aw h (mM h t) g) = .int (livZ z i a) := by
      intro g
      simp only [f_Tl_ticksLeft, hI_aw]
      rw [k.1.1.2.2.2.2.1, (k.slot (show a < o by omega)).2.1.2.2.2.1, et]
      rfl
    by_cases c : nI 0 ≤ livZ z i a
    · have lq : q ≤ a := hp.1
      have pq : p q < o := by
        by_cases w : q < a
        · have := hp.2.1 q w; omega
        · rw [hp.2.2.1 q (by omega)]; omega
      obtain ⟨g3, g4⟩ := h7 (p q) pq
      have e10 : ecl 10 = 0 := rfl
      ((obtain ⟨W9, hW9, hgo9⟩ := wp_ex (T_Tl_dropDead l G) [10, 50] _; refine hgo9 200 _ _ _ _ ?_; simp -implicitDefEqProofs (disch := omega) only [hW9, inl, gate, Xq, tz_const, tz_iload, tz_lload, tz_dload, tz_aload, tz_istore, tz_astore, tz_lstore, tz_dstore, tz_iinc, tz_i1, tz_i2, tz_i2z, tz_l2, tz_l2z, tz_i2l, tz_l2i, tz_lcmp, tz_i2d, tz_d2, tz_dcmp, tz_dup, tz_dup2, tz_pop, tz_if, tz_icmp, tz_null, tz_goto, tz_sw, tz_getf, tz_puti, tz_putz, tz_putr, tz_putl, tz_iaload, tz_baload, tz_laload, tz_aaload, tz_iastore, tz_bastore, tz_lastore, tz_aastore, tz_alen, tz_new, tz_newa, tz_oinit, tz_iret, tz_zret, tz_lret, tz_dret, tz_aret, tz_vret, tz_throw, tz_callS, tz_callV, tz_callI, tz_callR, tz_pureS, tz_pureV, tz_callVH, lg, lset, lkill, lst1, lst2, entL, isRf, is1, vl, va_rf_none, va_rf_some, isRf_rf, is1_rf, i0, i1, bI_eq0, bI_eq1, nm_em, nI_eqP, nI_leP, nI_ltP, nN_e1, nN_e2, nN_l1, nN_l2, nN_l3, nN_l4, nI_add, pk_mul, vp_inN, nI_cl, n01, n10, P_i, P_ii, P_iii, f_Mo_at, f_Mo_map, f_Mo_contact, f_Mo_within, f_Mo_isPort, f_Hp_endpoint, f_Hp_nodeOf, f_Hp_portOf, f_Ma_max, f_Ma_min, f_Hp_isSetting, popN, rok, a1, noX, swc, mL, if_true, if_false, ↓reduceIte, cond_true, cond_false, true_and, and_true, List.length_cons, List.length_nil, List.nil_append, List.cons_append, List.append_nil, Option.toList, Nat.reduceEqDiff, Bool.false_eq_true, reduceCtorEq, Nat.reduceAdd, Nat.reduceLT, Nat.reduceLeDiff, Nat.reduceSub, List.replicate, Nat.zero_add, Nat.lt_add_one, Nat.le_refl, Nat.zero_le, Nat.succ_ne_zero, not_false_eq_true, not_true_eq_false, false_implies, true_implies, forall_const, imp_self, true_or, or_true, eq_self, sI_zw, zw_zw, hI_zw, tg_zw, ln_zw, hR_zw, hL_zw, hN_zw, hM_zw, upd_s, upd_u, upd_ne, Classical.not_not, k_Tl_dropDead, h1, h2, h3, h4, tg_aw, ln_aw, hI_aw, hR_aw, ro, ea, ea8, sa, g2, hP, hf, hn0, c]; try clear hgo9 hW9); try (obtain ⟨W9, hW9, hgo9⟩ := wp_ex (T_Tl_dropDead l G) [10, 50] _; refine hgo9 200 _ _ _ _ ?_; simp -implicitDefEqProofs (disch := omega) only [hW9, inl, gate, Xq, tz_const, tz_iload, tz_lload, tz_dload, tz_aload, tz_istore, tz_astore, tz_lstore, tz_dstore, tz_iinc, tz_i1, tz_i2, tz_i2z, tz_l2, tz_l2z, tz_i2l, tz_l2i, tz_lcmp, tz_i2d, tz_d2, tz_dcmp, tz_dup, tz_dup2, tz_pop, tz_if, tz_icmp, tz_null, tz_goto, tz_sw, tz_getf, tz_puti, tz_putz, tz_putr, tz_putl, tz_iaload, tz_baload, tz_laload, tz_aaload, tz_iastore, tz_bastore, tz_lastore, tz_aastore, tz_alen, tz_new, tz_newa, tz_oinit, tz_iret, tz_zret, tz_lret, tz_dret, tz_aret, tz_vret, tz_throw, tz_callS, tz_callV, tz_callI, tz_callR, tz_pureS, tz_pureV, tz_callVH, lg, lset, lkill, lst1, lst2, entL, isRf, is1, vl, va_rf_none, va_rf_some, isRf_rf, is1_rf, i0, i1, bI_eq0, bI_eq1, nm_em, nI_eqP, nI_leP, nI_ltP, nN_e1, nN_e2, nN_l1, nN_l2, nN_l3, nN_l4, nI_add, pk_mul, vp_inN, nI_cl, n01, n10, P_i, P_ii, P_iii, f_Mo_at, f_Mo_map, f_Mo_contact, f_Mo_within, f_Mo_isPort, f_Hp_endpoint, f_Hp_nodeOf, f_Hp_portOf, f_Ma_max, f_Ma_min, f_Hp_isSetting, popN, rok, a1, noX, swc, mL, if_true, if_false, ↓reduceIte, cond_true, cond_false, true_and, and_true, List.length_cons, List.length_nil, List.nil_append, List.cons_append, List.append_nil, Option.toList, Nat.reduceEqDiff, Bool.false_eq_true, reduceCtorEq, Nat.reduceAdd, Nat.reduceLT, Nat.reduceLeDiff, Nat.reduceSub, List.replicate, Nat.zero_add, Nat.lt_add_one, Nat.le_refl, Nat.zero_le, Nat.succ_ne_zero, not_false_eq_true, not_true_eq_false, false_implies, true_implies, forall_const, imp_self, true_or, or_true, eq_self, sI_zw, zw_zw, hI_zw, tg_zw, ln_zw, hR_zw, hL_zw, hN_zw, hM_zw, upd_s, upd_u, upd_ne, Classical.not_not, k_Tl_dropDead, h1, h2, h3, h4, tg_aw, ln_aw, hI_aw, hR_aw, ro, ea, ea8, sa, g2, hP, hf, hn0, c]; try clear hgo9 hW9); try (obtain ⟨W9, hW9, hgo9⟩ := wp_ex (T_Tl_dropDead l G) [10, 50] _; refine hgo9 200 _ _ _ _ ?_; simp -implicitDefEqProofs (disch := omega) only [hW9, inl, gate, Xq, tz_const, tz_iload, tz_lload, tz_dload, tz_aload, tz_istore, tz_astore, tz_lstore, tz_dstore, tz_iinc, tz_i1, tz_i2, tz_i2z, tz_l2, tz_l2z, tz_i2l, tz_l2i, tz_lcmp, tz_i2d, tz_d2, tz_dcmp, tz_dup, tz_dup2, tz_pop, tz_if, tz_icmp, tz_null, tz_goto, tz_sw, tz_getf, tz_puti, tz_putz, tz_putr, tz_putl, tz_iaload, tz_baload, tz_laload, tz_aaload, tz_iastore, tz_bastore, tz_lastore, tz_aastore, tz_alen, tz_new, tz_newa, tz_oinit, tz_iret, tz_zret, tz_lret, tz_dret, tz_aret, tz_vret, tz_throw, tz_callS, tz_callV, tz_callI, tz_callR, tz_pureS, tz_pureV, tz_callVH, lg, lset, lkill, lst1, lst2, entL, isRf, is1, vl, va_rf_none, va_rf_some, isRf_rf, is1_rf, i0, i1, bI_eq0, bI_eq1, nm_em, nI_eqP, nI_leP, nI_ltP, nN_e1, nN_e2, nN_l1, nN_l2, nN_l3, nN_l4, nI_add, pk_mul, vp_inN, nI_cl, n01, n10, P_i, P_ii, P_iii, f_Mo_at, f_Mo_map, f_Mo_contact, f_Mo_within, f_Mo_isPort, f_Hp_endpoint, f_Hp_nodeOf, f_Hp_portOf, f_Ma_max, f_Ma_min, f_Hp_isSetting, popN, rok, a1, noX, swc, mL, if_true, if_false, ↓reduceIte, cond_true, cond_false, true_and, and_true, List.length_cons, List.length_nil, List.nil_append, List.cons_append, List.append_nil, Option.toList, Nat.reduceEqDiff, Bool.false_eq_true, reduceCtorEq, Nat.reduceAdd, Nat.reduceLT, Nat.reduceLeDiff, Nat.reduceSub, List.replicate, Nat.zero_add, Nat.lt_add_one, Nat.le_refl, Nat.zero_le, Nat.succ_ne_zero, not_false_eq_true, not_true_eq_false, false_implies, true_implies, forall_const, imp_self, true_or, or_true, eq_self, sI_zw, zw_zw, hI_zw, tg_zw, ln_zw, hR_zw, hL_zw, hN_zw, hM_zw, upd_s, upd_u, upd_ne, Classical.not_not, k_Tl_dropDead, h1, h2, h3, h4, tg_aw, ln_aw, hI_aw, hR_aw, ro, ea, ea8, sa, g2, hP, hf, hn0, c]; try clear hgo9 hW9))
      (obtain ⟨W9, hW9, hgo9⟩ := wp_ex (T_Tl_dropDead l G) [10] _; refine hgo9 200 _ _ _ _ ?_; simp -implicitDefEqProofs (disch := omega) only [hW9, inl, gate, Xq, tz_const, tz_iload, tz_lload, tz_dload, tz_aload, tz_istore, tz_astore, tz_lstore, tz_dstore, tz_iinc, tz_i1, tz_i2, tz_i2z, tz_l2, tz_l2z, tz_i2l, tz_l2i, tz_lcmp, tz_i2d, tz_d2, tz_dcmp, tz_dup, tz_dup2, tz_pop, tz_if, tz_icmp, tz_null, tz_goto, tz_sw, tz_getf, tz_puti, tz_putz, tz_putr, tz_putl, tz_iaload, tz_baload, tz_laload, tz_aaload, tz_iastore, tz_bastore, tz_lastore, tz_aastore, tz_alen, tz_new, tz_newa, tz_oinit, tz_iret, tz_zret, tz_lret, tz_dret, tz_aret, tz_vret, tz_throw, tz_callS, tz_callV, tz_callI, tz_callR, tz_pureS, tz_pureV, tz_callVH, lg, lset, lkill, lst1, lst2, entL, isRf, is1, vl, va_rf_none, va_rf_some, isRf_rf, is1_rf, i0, i1, bI_eq0, bI_eq1, nm_em, nI_eqP, nI_leP, nI_ltP, nN_e1, nN_e2, nN_l1, nN_l2, nN_l3, nN_l4, nI_add, pk_mul, vp_inN, nI_cl, n01, n10, P_i, P_ii, P_iii, f_Mo_at, f_Mo_map, f_Mo_contact, f_Mo_within, f_Mo_isPort, f_Hp_endpoint, f_Hp_nodeOf, f_Hp_portOf, f_Ma_max, f_Ma_min, f_Hp_isSetting, popN, rok, a1, noX, swc, mL, if_true, if_false, ↓reduceIte, cond_true, cond_false, true_and, and_true, List.length_cons, List.length_nil, List.nil_append, List.cons_append, List.append_nil, Option.toList, Nat.reduceEqDiff, Bool.false_eq_true, reduceCtorEq, Nat.reduceAdd, Nat.reduceLT, Nat.reduceLeDiff, Nat.reduceSub, List.replicate, Nat.zero_add, Nat.lt_add_one, Nat.le_refl, Nat.zero_le, Nat.succ_ne_zero, not_false_eq_true, not_true_eq_false, false_implies, true_implies, forall_const, imp_self, true_or, or_true, eq_self, sI_zw, zw_zw, hI_zw, tg_zw, ln_zw, hR_zw, hL_zw, hN_zw, hM_zw, upd_s, upd_u, upd_ne, Classical.not_not, k_Tl_dropDead, h1, h2, h3, h4, tg_aw, ln_aw, hI_aw, hR_aw, sR_aw, aw_aw, ro, g3, g4, g2, e10]; try clear hgo9 hW9)
      have eg : updR (updR (fun s => hR h (mM h t) (p s)) a (some (mpO h t (p q)))) q (some (mpO h t a)) = fun s => hR h (mM h t) (swp p a q s) := by
        funext s
        unfold updR swp
        by_cases w1 : s = q
        · rw [if_pos w1, if_pos w1, sa]
        · rw [if_neg w1, if_neg w1]
          by_cases w2 : s = a
          · rw [if_pos w2, if_pos w2, g3]
          · rw [if_neg w2, if_neg w2]
      rw [eg]
      exact ih (a + 1) (q + 1) _ _ (by omega) (hp.go c)
    · ((obtain ⟨W9, hW9, hgo9⟩ := wp_ex (T_Tl_dropDead l G) [10, 50] _; refine hgo9 200 _ _ _ _ ?_; simp -implicitDefEqProofs (disch := omega) only [hW9, inl, gate, Xq, tz_const, tz_iload, tz_lload, tz_dload, tz_aload, tz_istore, tz_astore, tz_lstore, tz_dstore, tz_iinc, tz_i1, tz_i2, tz_i2z, tz_l2, tz_l2z, tz_i2l, tz_l2i, tz_lcmp, tz_i2d, tz_d2, tz_dcmp, tz_dup, tz_dup2, tz_pop, tz_if, tz_icmp, tz_null, tz_goto, tz_sw, tz_getf, tz_puti, tz_putz, tz_putr, tz_putl, tz_iaload, tz_baload, tz_laload, tz_aaload, tz_iastore, tz_bastore, tz_lastore, tz_aastore, tz_alen, tz_new, tz_newa, tz_oinit, tz_iret, tz_zret, tz_lret, tz_dret, tz_aret, tz_vret, tz_throw, tz_callS, tz_callV, tz_callI, tz_callR, tz_pureS, tz_pureV, tz_callVH, lg, lset, lkill, lst1, lst2, entL, isRf, is1, vl, va_rf_none, va_rf_some, isRf_rf, is1_rf, i0, i1, bI_eq0, bI_eq1, nm_em, nI_eqP, nI_leP, nI_ltP, nN_e1, nN_e2, nN_l1, nN_l2, nN_l3, nN_l4, nI_add, pk_mul, vp_inN, nI_cl, n01, n10, P_i, P_ii, P_iii, f_Mo_at, f_Mo_map, f_Mo_contact, f_Mo_within, f_Mo_isPort, f_Hp_endpoint, f_Hp_nodeOf, f_Hp_portOf, f_Ma_max, f_Ma_min, f_Hp_isSetting, popN, rok, a1, noX, swc, mL, if_true, if_false, ↓reduceIte, cond_true, cond_false, true_and, and_true, List.length_cons, List.length_nil, List.nil_append, List.cons_append, List.append_nil, Option.toList, Nat.reduceEqDiff, Bool.false_eq_true, reduceCtorEq, Nat.reduceAdd, Nat.reduceLT, Nat.reduceLeDiff, Nat.reduceSub, List.replicate, Nat.zero_add, Nat.lt_add_one, Nat.le_refl, Nat.zero_le, Nat.succ_ne_zero, not_false_eq_true, not_true_eq_false, false_implies, true_implies, forall_const, imp_self, true_or, or_true, eq_self, sI_zw, zw_zw, hI_zw, tg_zw, ln_zw, hR_zw, hL_zw, hN_zw, hM_zw, upd_s, upd_u, upd_ne, Classical.not_not, k_Tl_dropDead, h1, h2, h3, h4, tg_aw, ln_aw, hI_aw, hR_aw, ro, ea, ea8, sa, g2, hP, hf, hn0, c]; try clear hgo9 hW9); try (obtain ⟨W9, hW9, hgo9⟩ := wp_ex (T_Tl_dropDead l G) [10, 50] _; refine hgo9 200 _ _ _ _ ?_; simp -implicitDefEqProofs (disch := omega) only [hW9, inl, gate, Xq, tz_const, tz_iload, tz_lload, tz_dload, tz_aload, tz_istore, tz_astore, tz_lstore, tz_dstore, tz_iinc, tz_i1, tz_i2, tz_i2z, tz_l2, tz_l2z, tz_i2l, tz_l2i, tz_lcmp, tz_i2d, tz_d2, tz_dcmp, tz_dup, tz_dup2, tz_pop, tz_if, tz_icmp, tz_null, tz_goto, tz_sw, tz_getf, tz_puti, tz_putz, tz_putr, tz_putl, tz_iaload, tz_baload, tz_laload, tz_aaload, tz_iastore, tz_bastore, tz_lastore, tz_aastore, tz_alen, tz_new, tz_newa, tz_oinit, tz_iret, tz_zret, tz_lret, tz_dret, tz_aret, tz_vret, tz_throw, tz_callS, tz_callV, tz_callI, tz_callR, tz_pureS, tz_pureV, tz_callVH, lg, lset, lkill, lst1, lst2, entL, isRf, is1, vl, va_rf_none, va_rf_some, isRf_rf, is1_rf, i0, i1, bI_eq0, bI_eq1, nm_em, nI_eqP, nI_leP, nI_ltP, nN_e1, nN_e2, nN_l1, nN_l2, nN_l3, nN_l4, nI_add, pk_mul, vp_inN, nI_cl, n01, n10, P_i, P_ii, P_iii, f_Mo_at, f_Mo_map, f_Mo_contact, f_Mo_within, f_Mo_isPort, f_Hp_endpoint, f_Hp_nodeOf, f_Hp_portOf, f_Ma_max, f_Ma_min, f_Hp_isSetting, popN, rok, a1, noX, swc, mL, if_true, if_false, ↓reduceIte, cond_true, cond_false, true_and, and_true, List.length_cons, List.length_nil, List.nil_append, List.cons_append, List.append_nil, Option.toList, Nat.reduceEqDiff, Bool.false_eq_true, reduceCtorEq, Nat.reduceAdd, Nat.reduceLT, Nat.reduceLeDiff, Nat.reduceSub, List.replicate, Nat.zero_add, Nat.lt_add_one, Nat.le_refl, Nat.zero_le, Nat.succ_ne_zero, not_false_eq_true, not_true_eq_false, false_implies, true_implies, forall_const, imp_self, true_or, or_true, eq_self, sI_zw, zw_zw, hI_zw, tg_zw, ln_zw, hR_zw, hL_zw, hN_zw, hM_zw, upd_s, upd_u, upd_ne, Classical.not_not, k_Tl_dropDead, h1, h2, h3, h4, tg_aw, ln_aw, hI_aw, hR_aw, ro, ea, ea8, sa, g2, hP, hf, hn0, c]; try clear hgo9 hW9); try (obtain ⟨W9, hW9, hgo9⟩ := wp_ex (T_Tl_dropDead l G) [10, 50] _; refine hgo9 200 _ _ _ _ ?_; simp -implicitDefEqProofs (disch := omega) only [hW9, inl, gate, Xq, tz_const, tz_iload, tz_lload, tz_dload, tz_aload, tz_istore, tz_astore, tz_lstore, tz_dstore, tz_iinc, tz_i1, tz_i2, tz_i2z, tz_l2, tz_l2z, tz_i2l, tz_l2i, tz_lcmp, tz_i2d, tz_d2, tz_dcmp, tz_dup, tz_dup2, tz_pop, tz_if, tz_icmp, tz_null, tz_goto, tz_sw, tz_getf, tz_puti, tz_putz, tz_putr, tz_putl, tz_iaload, tz_baload, tz_laload, tz_aaload, tz_iastore, tz_bastore, tz_lastore, tz_aastore, tz_alen, tz_new, tz_newa, tz_oinit, tz_iret, tz_zret, tz_lret, tz_dret, tz_aret, tz_vret, tz_throw, tz_callS, tz_callV, tz_callI, tz_callR, tz_pureS, tz_pureV, tz_callVH, lg, lset, lkill, lst1, lst2, entL, isRf, is1, vl, va_rf_none, va_rf_some, isRf_rf, is1_rf, i0, i1, bI_eq0, bI_eq1, nm_em, nI_eqP, nI_leP, nI_ltP, nN_e1, nN_e2, nN_l1, nN_l2, nN_l3, nN_l4, nI_add, pk_mul, vp_inN, nI_cl, n01, n10, P_i, P_ii, P_iii, f_Mo_at, f_Mo_map, f_Mo_contact, f_Mo_within, f_Mo_isPort, f_Hp_endpoint, f_Hp_nodeOf, f_Hp_portOf, f_Ma_max, f_Ma_min, f_Hp_isSetting, popN, rok, a1, noX, swc, mL, if_true, if_false, ↓reduceIte, cond_true, cond_false, true_and, and_true, List.length_cons, List.length_nil, List.nil_append, List.cons_append, List.append_nil, Option.toList, Nat.reduceEqDiff, Bool.false_eq_true, reduceCtorEq, Nat.reduceAdd, Nat.reduceLT, Nat.reduceLeDiff, Nat.reduceSub, List.replicate, Nat.zero_add, Nat.lt_add_one, Nat.le_refl, Nat.zero_le, Nat.succ_ne_zero, not_false_eq_true, not_true_eq_false, false_implies, true_implies, forall_const, imp_self, true_or, or_true, eq_self, sI_zw, zw_zw, hI_zw, tg_zw, ln_zw, hR_zw, hL_zw, hN_zw, hM_zw, upd_s, upd_u, upd_ne, Classical.not_not, k_Tl_dropDead, h1, h2, h3, h4, tg_aw, ln_aw, hI_aw, hR_aw, ro, ea, ea8, sa, g2, hP, hf, hn0, c]; try clear hgo9 hW9); try (obtain ⟨W9, hW9, hgo9⟩ := wp_ex (T_Tl_dropDead l G) [10, 50] _; refine hgo9 200 _ _ _ _ ?_; simp -implicitDefEqProofs (disch := omega) only [hW9, inl, gate, Xq, tz_const, tz_iload, tz_lload, tz_dload, tz_aload, tz_istore, tz_astore, tz_lstore, tz_dstore, tz_iinc, tz_i1, tz_i2, tz_i2z, tz_l2, tz_l2z, tz_i2l, tz_l2i, tz_lcmp, tz_i2d, tz_d2, tz_dcmp, tz_dup, tz_dup2, tz_pop, tz_if, tz_icmp, tz_null, tz_goto, tz_sw, tz_getf, tz_puti, tz_putz, tz_putr, tz_putl, tz_iaload, tz_baload, tz_laload, tz_aaload, tz_iastore, tz_bastore, tz_lastore, tz_aastore, tz_alen, tz_new, tz_newa, tz_oinit, tz_iret, tz_zret, tz_lret, tz_dret, tz_aret, tz_vret, tz_throw, tz_callS, tz_callV, tz_callI, tz_callR, tz_pureS, tz_pureV, tz_callVH, lg, lset, lkill, lst1, lst2, entL, isRf, is1, vl, va_rf_none, va_rf_some, isRf_rf, is1_rf, i0, i1, bI_eq0, bI_eq1, nm_em, nI_eqP, nI_leP, nI_ltP, nN_e1, nN_e2, nN_l1, nN_l2, nN_l3, nN_l4, nI_add, pk_mul, vp_inN, nI_cl, n01, n10, P_i, P_ii, P_iii, f_Mo_at, f_Mo_map, f_Mo_contact, f_Mo_within, f_Mo_isPort, f_Hp_endpoint, f_Hp_nodeOf, f_Hp_portOf, f_Ma_max, f_Ma_min, f_Hp_isSetting, popN, rok, a1, noX, swc, mL, if_true, if_false, ↓reduceIte, cond_true, cond_false, true_and, and_true, List.length_cons, List.length_nil, List.nil_append, List.cons_append, List.append_nil, Option.toList, Nat.reduceEqDiff, Bool.false_eq_true, reduceCtorEq, Nat.reduceAdd, Nat.reduceLT, Nat.reduceLeDiff, Nat.reduceSub, List.replicate, Nat.zero_add, Nat.lt_add_one, Nat.le_refl, Nat.zero_le, Nat.succ_ne_zero, not_false_eq_true, not_true_eq_false, false_implies, true_implies, forall_const, imp_self, true_or, or_true, eq_self, sI_zw, zw_zw, hI_zw, tg_zw, ln_zw, hR_zw, hL_zw, hN_zw, hM_zw, upd_s, upd_u, upd_ne, Classical.not_not, k_Tl_dropDead, h1, h2, h3, h4, tg_aw, ln_aw, hI_aw, hR_aw, ro, ea, ea8, sa, g2, hP, hf, hn0, c]; try clear hgo9 hW9))
      exact ih (a + 1) q p _ (by omega) (hp.stay c)
theorem MpV.move {h h' : AH} {m t q j : Nat} {z y : Nat → Int32} (v : MpV h m z t j) (x : same1 h h' m) (y' : same1 h h' (cC h m)) (r : rowE y z t q j) (hk : knw z t j ≤ 8) : MpV h' m y t q := by
  obtain ⟨⟨a0, a1, a2, a3, a5⟩, a6⟩ := v
  have e := cC_same x
  have en : knw y t q = knw z t j := by
    unfold knw
    exact congrArg Int32.toNatClampNeg (r.1 6 (by omega))
  refine ⟨⟨?_, ?_, ?_, ?_, ?_⟩, fun k hk2 => ?_⟩
  · rw [x.2.1, r.1 0 (by omega), r.1 1 (by omega)]; exact a0
  · rw [x.2.1, r.1 2 (by omega)]; exact a1
  · rw [x.2.1, r.1 3 (by omega), r.1 4 (by omega)]; exact a2
  · rw [x.2.1, r.1 5 (by omega)]; exact a3
  · rw [x.2.1, r.1 6 (by omega)]; exact a5
  · rw [en] at hk2
    have q1 := r.2 (2 * k) (by omega)
    have q2 := r.2 (2 * k + 1) (by omega)
    rw [show cA t q 0 + 2 * k = cA t q k by unfold cA; omega, show cA t j 0 + 2 * k = cA t j k by unfold cA; omega] at q1
    rw [show cA t q 0 + (2 * k + 1) = cA t q k + 1 by unfold cA; omega, show cA t j 0 + (2 * k + 1) = cA t j k + 1 by unfold cA; omega] at q2
    rw [e, y'.2.1, q1, q2]
    exact a6 k hk2
theorem c_Tl_dropDead (wn t i c : Nat) (tick : Int32) (z : Nat → Int32) (h : AH) (Q : Po) (hw : WF h) (sh : ShT h wn i t) (k : TlG h t z i (own z i) (own z i)) (ho : OwnOK z i) (hi : i < 10) (hkn : ∀ j, j < own z i → knw z i j ≤ 8) (et : tick = z 0)
    (hQ : ∀ h' n, n + c = (ddT i (own z i) z c).2 → TlG h' t (ddT i (own z i) z c).1 i (own (ddT i (own z i) z c).1 i) (own (ddT i (own z i) z c).1 i) → ShT h' wn i t → Fr wn 0 h h' → Lt wn i h h' → Q (.inl (some (.int (nI n)))) h') : Call l G M_Tl_dropDead [.ref t, .int tick] h Q := by
  obtain ⟨⟨h1, h2, h3, h4⟩, a5, a6, a7, a8⟩ := id sh
  have nM : t ≠ mM h t := ne_tg (by rw [h1, h3]; decide)
  have slk := k.SlK sh ho.2
  have hsz := k.1.2.2
  obtain ⟨⟨e1, e2⟩, e3, e4, e5⟩ := ddT_ends hi ho c
  have ow8 := ho.2
  refine call_of rfl rfl (Nat.le_of_ble_eq_true rfl) ?_
  (obtain ⟨W9, hW9, hgo9⟩ := wp_ex (T_Tl_dropDead l G) [10] _; refine hgo9 200 _ _ _ _ ?_; simp -implicitDefEqProofs (disch := omega) only [hW9, inl, gate, Xq, tz_const, tz_iload, tz_lload, tz_dload, tz_aload, tz_istore, tz_astore, tz_lstore, tz_dstore, tz_iinc, tz_i1, tz_i2, tz_i2z, tz_l2, tz_l2z, tz_i2l, tz_l2i, tz_lcmp, tz_i2d, tz_d2, tz_dcmp, tz_dup, tz_dup2, tz_pop, tz_if, tz_icmp, tz_null, tz_goto, tz_sw, tz_getf, tz_puti, tz_putz, tz_putr, tz_putl, tz_iaload, tz_baload, tz_laload, tz_aaload, tz_iastore, tz_bastore, tz_lastore, tz_aastore, tz_alen, tz_new, tz_newa, tz_oinit, tz_iret, tz_zret, tz_lret, tz_dret, tz_aret, tz_vret, tz_throw, tz_callS, tz_callV, tz_callI, tz_callR, tz_pureS, tz_pureV, tz_callVH, lg, lset, lkill, lst1, lst2, entL, isRf, is1, vl, va_rf_none, va_rf_some, isRf_rf, is1_rf, i0, i1, bI_eq0, bI_eq1, nm_em, nI_eqP, nI_leP, nI_ltP, nN_e1, nN_e2, nN_l1, nN_l2, nN_l3, nN_l4, nI_add, pk_mul, vp_inN, nI_cl, n01, n10, P_i, P_ii, P_iii, f_Mo_at, f_Mo_map, f_Mo_contact, f_Mo_within, f_Mo_isPort, f_Hp_endpoint, f_Hp_nodeOf, f_Hp_portOf, f_Ma_max, f_Ma_min, f_Hp_isSetting, popN, rok, a1, noX, swc, mL, if_true, if_false, ↓reduceIte, cond_true, cond_false, true_and, and_true, List.length_cons, List.length_nil, List.nil_append, List.cons_append, List.append_nil, Option.toList, Nat.reduceEqDiff, Bool.false_eq_true, reduceCtorEq, Nat.reduceAdd, Nat.reduceLT, Nat.reduceLeDiff, Nat.reduceSub, List.replicate, Nat.zero_add, Nat.lt_add_one, Nat.le_refl, Nat.zero_le, Nat.succ_ne_zero, not_false_eq_true, not_true_eq_false, false_implies, true_implies, forall_const, imp_self, true_or, or_true, eq_self, sI_zw, zw_zw, hI_zw, tg_zw, ln_zw, hR_zw, hL_zw, hN_zw, hM_zw, upd_s, upd_u, upd_ne, Classical.not_not, k_Tl_dropDead, h1, hsz]; try clear hgo9 hW9)
  have := lp_dr (l := l) (G := G) (Q := Q) k slk et (fun p q hp => ?_) (own z i) 0 0 (fun s => s) none (by omega) ⟨by omega, fun q hq => by omega, fun q _ => rfl, fun q q' e => e, rfl, fun q j hq => by simp [sel] at hq⟩
  · rw [aw_self] at this
    exact this
  · obtain ⟨p1, p2, p3, p4, p5, p6⟩ := hp
    have lM : Lt wn i h (zw (aw h (mM h t) (fun s => hR h (mM h t) (p s))) t (upd (hI h t) 10 (nI q))) := by
      intro b hb hc
      have n1 : b ≠ t := fun e => hc (by rw [e]; exact ⟨4, [], a5, by omega⟩)
      have n2 : b ≠ mM h t := fun e => hc (by rw [e]; exact ⟨5, [], a6, by omega⟩)
      exact ⟨rfl, hI_zw_ne _ n1, hR_awo _ n2, rfl⟩
    have fr : Fr wn 0 h (zw (aw h (mM h t) (fun s => hR h (mM h t) (p s))) t (upd (hI h t) 10 (nI q))) := Fr.ints hw rfl rfl rfl (fun b hb => by
      have n1 : b ≠ t := fun e => hb (by rw [e]; exact rt_gh a5)
      have n2 : b ≠ mM h t := fun e => hb (by rw [e]; exact rt_gh a6)
      exact ⟨hI_zw_ne _ n1, hR_awo _ n2, rfl⟩)
    have eM : mM (zw (aw h (mM h t) (fun s => hR h (mM h t) (p s))) t (upd (hI h t) 10 (nI q))) t = mM h t := by
      show (hR (aw h (mM h t) _) t 9).getD 0 = (hR h t 9).getD 0
      rw [hR_awo _ nM]
    have sam : ∀ j m, j < 8 → hR h (mM h t) j = some m → same1 h (zw (aw h (mM h t) (fun s => hR h (mM h t) (p s))) t (upd (hI h t) 10 (nI q))) m ∧ same1 h (zw (aw h (mM h t) (fun s => hR h (mM h t) (p s))) t (upd (hI h t) 10 (nI q))) (cC h m) := by
      intro j m hj hm
      have g := a7 j m hj hm
      have n1 : m ≠ t := ne_tg (by rw [g.1, h1]; decide)
      have n2 : m ≠ mM h t := ne_tg (by rw [g.1, h3]; decide)
      have n3 : cC h m ≠ t := ne_tg (by rw [g.2.2.2.1, h1]; decide)
      have n4 : cC h m ≠ mM h t := ne_tg (by rw [g.2.2.2.1, h3]; decide)
      exact ⟨⟨rfl, hI_zw_ne _ n1, hR_awo _ n2, rfl⟩, ⟨rfl, hI_zw_ne _ n3, hR_awo _ n4, rfl⟩⟩
    have p8 : ∀ s, s < 8 → p s < 8 := by
      intro s hs
      by_cases w : s < own z i
      · have := p2 s w; omega
      · rw [p3 s (by omega)]; exact hs
    refine hQ _ _ ?_ ⟨⟨⟨?_, ?_, ?_, ?_, ?_, ?_, ?_, ?_⟩, ?_, ?_⟩, fun s hs => ?_⟩ ⟨⟨?_, ?_, ?_, ?_⟩, ?_, ?_, fun j m hj hm => ?_, fun j j' m hj hj' q1 q2 => ?_⟩ fr lM
    · rw [← p5] at e5; omega
    · rw [hI_zw, upd_ne (by omega), e4 _ (by unfold dPl mA cA; omega)]; exact k.1.1.1
    · rw [hI_zw, upd_ne (by omega), e4 _ (by unfold dPl mA cA; omega)]; exact k.1.1.2.1
    · rw [hI_zw, upd_ne (by omega), e4 _ (by unfold dPl mA cA; omega)]; exact k.1.1.2.2.1
    · rw [hI_zw, upd_ne (by omega), e4 _ (by unfold dPl mA cA; omega)]; exact k.1.1.2.2.2.1
    · rw [hI_zw, upd_ne (by omega), e4 _ (by unfold dPl mA cA; omega)]; exact k.1.1.2.2.2.2.1
    · rw [hI_zw, upd_ne (by omega), e4 _ (by unfold dPl mA cA; omega)]; exact k.1.1.2.2.2.2.2.1
    · rw [hI_zw, upd_ne (by omega), e4 _ (by unfold dPl mA cA; omega)]; exact k.1.1.2.2.2.2.2.2.1
    · rw [hI_zw, upd_ne (by omega), e4 _ (by unfold dPl mA cA; omega)]; exact k.1.1.2.2.2.2.2.2.2
    · rw [e4 _ (by unfold dPl mA cA; omega)]; exact k.1.2.1
    · rw [hI_zw, upd_s, e2, p5]
    · rw [e2] at hs
      have hg := List.getElem?_eq_getElem hs
      have pj := p6 s _ hg
      have mem := sel_mem z i _ _ _ _ hg
      obtain ⟨s1, s2⟩ := k.slot (j := (sel z i 0 (own z i))[s]) (by omega)
      refine ⟨mpO h t ((sel z i 0 (own z i))[s]), ?_, ?_⟩
      · rw [eM]
        show hR (aw h (mM h t) _) (mM h t) s = _
        rw [hR_aw, pj]
        exact s1
      · obtain ⟨x, y⟩ := sam _ _ (by omega) s1
        exact s2.move x y (e3 s _ hg) (hkn _ (by omega))
    · exact h1
    · rw [eM]
      show hR (aw h _ _) t 9 = _
      rw [hR_awo _ nM]; exact h2
    · rw [eM]; exact h3
    · rw [eM]; exact h4
    · exact a5
    · rw [eM]; exact a6
    · rw [eM] at hm
      have hm' : hR h (mM h t) (p j) = some m := by
        have : hR (aw h (mM h t) (fun s => hR h (mM h t) (p s))) (mM h t) j = some m := hm
        rw [hR_aw] at this
        exact this
      obtain ⟨x, y⟩ := sam _ _ (p8 j hj) hm'
      exact (a7 _ m (p8 j hj) hm').keep x y
    · rw [eM] at q1 q2
      have q1' : hR h (mM h t) (p j) = some m := by
        have : hR (aw h (mM h t) (fun s => hR h (mM h t) (p s))) (mM h t) j = some m := q1
        rw [hR_aw] at this
        exact this
      have q2' : hR h (mM h t) (p j') = some m := by
        have : hR (aw h (mM h t) (fun s => hR h (mM h t) (p s))) (mM h t) j' = some m := q2
        rw [hR_aw] at this
        exact this
      exact p4 _ _ (a8 _ _ m (p8 j hj) (p8 j' hj') q1' q2')
end
