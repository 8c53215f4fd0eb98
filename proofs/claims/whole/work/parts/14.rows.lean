/-- a transformer is right for the instruction at pc -/
def Sd (l : Launch) (G : Gc) (M : Md) (pc : Nat) (T : Tr) : Prop := ∀ (Q : Po) (K : Ct) (L : Lo) (st : List Value) (h : AH), (∀ pc' L' st' h', K pc' L' st' h' → AWp l G M pc' L' st' h' Q) → T Q (fun pc L st h => AWp l G M pc L st h Q) K L st h → AWp l G M pc L st h Q
section
variable {l : Launch} {G : Gc} {M : Md} {pc : Nat}
theorem sd_iconst {n : Int} {v : Int32} (hd : decode (mC M) pc = .ok (.iconst n, 1)) (hv : Int32.ofInt n = v) : Sd l G M pc (tz_const (pc + 1) (.int v)) := by
  intro Q K L st h hK hT
  exact AWp.pure (fun hx hb _ _ hl k => lv_iconst hx hb hd hv (k _ hl)) (hK _ _ _ _ hT)
theorem sd_bipush {n : Int} {v : Int32} (hd : decode (mC M) pc = .ok (.bipush n, 2)) (hv : (Int8.ofInt n).toInt32 = v) : Sd l G M pc (tz_const (pc + 2) (.int v)) := by
  intro Q K L st h hK hT
  exact AWp.pure (fun hx hb _ _ hl k => lv_bipush hx hb hd hv (k _ hl)) (hK _ _ _ _ hT)
theorem sd_sipush {n : Int} {v : Int32} (hd : decode (mC M) pc = .ok (.sipush n, 3)) (hv : (Int16.ofInt n).toInt32 = v) : Sd l G M pc (tz_const (pc + 3) (.int v)) := by
  intro Q K L st h hK hT
  exact AWp.pure (fun hx hb _ _ hl k => lv_sipush hx hb hd hv (k _ hl)) (hK _ _ _ _ hT)
theorem sd_ldc {i : Nat} {v : Int32} (hd : decode (mC M) pc = .ok (.ldc i, 2)) (hw : Cond.constant (mY M).cls i v ∈ gtbl) : Sd l G M pc (tz_const (pc + 2) (.int v)) := by
  intro Q K L st h hK hT
  exact AWp.pure (fun hx hb ho ht hl k => lv_ldc hx hb ho (ht _ hw) hd (k _ hl)) (hK _ _ _ _ hT)
theorem sd_ldcw {i : Nat} {v : Int32} (hd : decode (mC M) pc = .ok (.ldc_w i, 3)) (hw : Cond.constant (mY M).cls i v ∈ gtbl) : Sd l G M pc (tz_const (pc + 3) (.int v)) := by
  intro Q K L st h hK hT
  exact AWp.pure (fun hx hb ho ht hl k => lv_ldcw hx hb ho (ht _ hw) hd (k _ hl)) (hK _ _ _ _ hT)
theorem sd_ldc2 {i : Nat} {v : Int64} (hd : decode (mC M) pc = .ok (.ldc2_w i, 3)) (hw : Cond.constantLong (mY M).cls i v ∈ gtbl) : Sd l G M pc (tz_const (pc + 3) (.long v)) := by
  intro Q K L st h hK hT
  exact AWp.pure (fun hx hb ho ht hl k => lv_ldc2 hx hb ho (ht _ hw) hd (k _ hl)) (hK _ _ _ _ hT)
theorem sd_lconst {n : Fin 2} {v : Int64} (hd : decode (mC M) pc = .ok (.lconst n, 1)) (hv : Int64.ofNat (n : Nat) = v) : Sd l G M pc (tz_const (pc + 1) (.long v)) := by
  intro Q K L st h hK hT
  exact AWp.pure (fun hx hb _ _ hl k => lv_lconst hx hb hd hv (k _ hl)) (hK _ _ _ _ hT)
theorem sd_dconst0 (hd : decode (mC M) pc = .ok (.dconst 0, 1)) : Sd l G M pc (tz_const (pc + 1) (.double FP.dconst0)) := by
  intro Q K L st h hK hT
  exact AWp.pure (fun hx hb _ _ hl k => lv_dconst0 hx hb hd (k _ hl)) (hK _ _ _ _ hT)
theorem sd_dconst1 (hd : decode (mC M) pc = .ok (.dconst 1, 1)) : Sd l G M pc (tz_const (pc + 1) (.double FP.dconst1)) := by
  intro Q K L st h hK hT
  exact AWp.pure (fun hx hb _ _ hl k => lv_dconst1 hx hb hd (k _ hl)) (hK _ _ _ _ hT)
theorem sd_null (hd : decode (mC M) pc = .ok (.aconst_null, 1)) : Sd l G M pc (tz_const (pc + 1) .null) := by
  intro Q K L st h hK hT
  exact AWp.pure (fun hx hb _ _ hl k => lv_null hx hb hd (k _ hl)) (hK _ _ _ _ hT)
theorem sd_iload {i : Nat} (hd : decode (mC M) pc = .ok (.iload i, 2)) : Sd l G M pc (tz_iload (pc + 2) i) := by
  intro Q K L st h hK hT
  unfold tz_iload at hT
  split at hT
  · rename_i x hx0
    exact AWp.pure (fun hx hb _ _ hl k => lv_iload hx hb hd (hl.2.2.2 _ _ hx0) (k _ hl)) (hK _ _ _ _ hT)
  · exact hT.elim
theorem sd_iload_n {k : Fin 4} (hd : decode (mC M) pc = .ok (.iload_n k, 1)) : Sd l G M pc (tz_iload (pc + 1) k) := by
  intro Q K L st h hK hT
  unfold tz_iload at hT
  split at hT
  · rename_i x hx0
    exact AWp.pure (fun hx hb _ _ hl k => lv_iload_n hx hb hd rfl (hl.2.2.2 _ _ hx0) (k _ hl)) (hK _ _ _ _ hT)
  · exact hT.elim
theorem sd_lload {i : Nat} (hd : decode (mC M) pc = .ok (.lload i, 2)) : Sd l G M pc (tz_lload (pc + 2) i) := by
  intro Q K L st h hK hT
  unfold tz_lload at hT
  split at hT
  · rename_i x hx0
    exact AWp.pure (fun hx hb _ _ hl k => lv_lload hx hb hd (hl.2.2.2 _ _ hx0) (k _ hl)) (hK _ _ _ _ hT)
  · exact hT.elim
theorem sd_lload_n {k : Fin 4} (hd : decode (mC M) pc = .ok (.lload_n k, 1)) : Sd l G M pc (tz_lload (pc + 1) k) := by
  intro Q K L st h hK hT
  unfold tz_lload at hT
  split at hT
  · rename_i x hx0
    exact AWp.pure (fun hx hb _ _ hl k => lv_lload_n hx hb hd rfl (hl.2.2.2 _ _ hx0) (k _ hl)) (hK _ _ _ _ hT)
  · exact hT.elim
theorem sd_dload {i : Nat} (hd : decode (mC M) pc = .ok (.dload i, 2)) : Sd l G M pc (tz_dload (pc + 2) i) := by
  intro Q K L st h hK hT
  unfold tz_dload at hT
  split at hT
  · rename_i x hx0
    exact AWp.pure (fun hx hb _ _ hl k => lv_dload hx hb hd (hl.2.2.2 _ _ hx0) (k _ hl)) (hK _ _ _ _ hT)
  · exact hT.elim
theorem sd_aload {i : Nat} (hd : decode (mC M) pc = .ok (.aload i, 2)) : Sd l G M pc (tz_aload (pc + 2) i) := by
  intro Q K L st h hK hT
  unfold tz_aload at hT
  split at hT
  · rename_i v hx0
    obtain ⟨hr, hT⟩ := hT
    cases v <;> first | (exact hr.elim) | (exact AWp.pure (fun hx hb _ _ hl k => lv_aload hx hb hd (hl.2.2.2 _ _ hx0) (k _ hl)) (hK _ _ _ _ hT)) | (exact AWp.pure (fun hx hb _ _ hl k => lv_aloadN hx hb hd (hl.2.2.2 _ _ hx0) (k _ hl)) (hK _ _ _ _ hT))
  · exact hT.elim
theorem sd_aload_n {k : Fin 4} (hd : decode (mC M) pc = .ok (.aload_n k, 1)) : Sd l G M pc (tz_aload (pc + 1) k) := by
  intro Q K L st h hK hT
  unfold tz_aload at hT
  split at hT
  · rename_i v hx0
    obtain ⟨hr, hT⟩ := hT
    cases v <;> first | (exact hr.elim) | (exact AWp.pure (fun hx hb _ _ hl k => lv_aload_n hx hb hd rfl (hl.2.2.2 _ _ hx0) (k _ hl)) (hK _ _ _ _ hT)) | (exact AWp.pure (fun hx hb _ _ hl k => lv_aload_nN hx hb hd rfl (hl.2.2.2 _ _ hx0) (k _ hl)) (hK _ _ _ _ hT))
  · exact hT.elim
theorem sd_istore {i : Nat} (hd : decode (mC M) pc = .ok (.istore i, 2)) : Sd l G M pc (tz_istore (pc + 2) i) := by
  intro Q K L st h hK hT
  unfold tz_istore at hT
  split at hT
  · obtain ⟨hi, hT⟩ := hT
    exact AWp.pure (fun hx hb _ _ hl k => lv_istore hx hb hd hl.has (by rw [← hl.2.2.1]; exact hi) rfl (fun ls' h' => k _ (hl.st1 h'))) (hK _ _ _ _ hT)
  · exact hT.elim
theorem sd_astore {i : Nat} (hd : decode (mC M) pc = .ok (.astore i, 2)) : Sd l G M pc (tz_astore (pc + 2) i) := by
  intro Q K L st h hK hT
  unfold tz_astore at hT
  split at hT
  · rename_i v r
    obtain ⟨hr, hi, hT⟩ := hT
    cases v <;> first | (exact hr.elim) | (exact AWp.pure (fun hx hb _ _ hl k => lv_astore hx hb hd hl.has (by rw [← hl.2.2.1]; exact hi) rfl (fun ls' h' => k _ (hl.st1 h'))) (hK _ _ _ _ hT)) | (exact AWp.pure (fun hx hb _ _ hl k => lv_astoreN hx hb hd hl.has (by rw [← hl.2.2.1]; exact hi) rfl (fun ls' h' => k _ (hl.st1 h'))) (hK _ _ _ _ hT))
  · exact hT.elim
theorem sd_lstore {i : Nat} (hd : decode (mC M) pc = .ok (.lstore i, 2)) : Sd l G M pc (tz_lstore (pc + 2) i) := by
  intro Q K L st h hK hT
  unfold tz_lstore at hT
  split at hT
  · obtain ⟨hi, hT⟩ := hT
    exact AWp.pure (fun hx hb _ _ hl k => lv_lstore hx hb hd hl.has (by rw [← hl.2.2.1]; exact hi) rfl (fun ls' h' => k _ (hl.st2 (by rw [← hl.2.2.1]; exact hi) h'))) (hK _ _ _ _ hT)
  · exact hT.elim
theorem sd_istore_n {k : Fin 4} (hd : decode (mC M) pc = .ok (.istore_n k, 1)) : Sd l G M pc (tz_istore (pc + 1) k) := by
  intro Q K L st h hK hT
  unfold tz_istore at hT
  split at hT
  · obtain ⟨hi, hT⟩ := hT
    exact AWp.pure (fun hx hb _ _ hl k => lv_istore_n hx hb hd rfl hl.has (by rw [← hl.2.2.1]; exact hi) rfl (fun ls' h' => k _ (hl.st1 h'))) (hK _ _ _ _ hT)
  · exact hT.elim
theorem sd_astore_n {k : Fin 4} (hd : decode (mC M) pc = .ok (.astore_n k, 1)) : Sd l G M pc (tz_astore (pc + 1) k) := by
  intro Q K L st h hK hT
  unfold tz_astore at hT
  split at hT
  · rename_i v r
    obtain ⟨hr, hi, hT⟩ := hT
    cases v <;> first | (exact hr.elim) | (exact AWp.pure (fun hx hb _ _ hl k => lv_astore_n hx hb hd rfl hl.has (by rw [← hl.2.2.1]; exact hi) rfl (fun ls' h' => k _ (hl.st1 h'))) (hK _ _ _ _ hT)) | (exact AWp.pure (fun hx hb _ _ hl k => lv_astore_nN hx hb hd rfl hl.has (by rw [← hl.2.2.1]; exact hi) rfl (fun ls' h' => k _ (hl.st1 h'))) (hK _ _ _ _ hT))
  · exact hT.elim
theorem sd_lstore_n {k : Fin 4} (hd : decode (mC M) pc = .ok (.lstore_n k, 1)) : Sd l G M pc (tz_lstore (pc + 1) k) := by
  intro Q K L st h hK hT
  unfold tz_lstore at hT
  split at hT
  · obtain ⟨hi, hT⟩ := hT
    exact AWp.pure (fun hx hb _ _ hl k => lv_lstore_n hx hb hd rfl hl.has (by rw [← hl.2.2.1]; exact hi) rfl (fun ls' h' => k _ (hl.st2 (by rw [← hl.2.2.1]; exact hi) h'))) (hK _ _ _ _ hT)
  · exact hT.elim
theorem sd_dstore {i : Nat} (hd : decode (mC M) pc = .ok (.dstore i, 2)) : Sd l G M pc (tz_dstore (pc + 2) i) := by
  intro Q K L st h hK hT
  unfold tz_dstore at hT
  split at hT
  · obtain ⟨hi, hT⟩ := hT
    exact AWp.pure (fun hx hb _ _ hl k => lv_dstore hx hb hd hl.has (by rw [← hl.2.2.1]; exact hi) rfl (fun ls' h' => k _ (hl.st2 (by rw [← hl.2.2.1]; exact hi) h'))) (hK _ _ _ _ hT)
  · exact hT.elim
theorem sd_iinc {i : Nat} {n : Int} {d : Int32} (hd : decode (mC M) pc = .ok (.iinc i n, 3)) (hv : Int32.ofInt n = d) : Sd l G M pc (tz_iinc (pc + 3) i d) := by
  intro Q K L st h hK hT
  unfold tz_iinc at hT
  split at hT
  · rename_i x hx0
    obtain ⟨hi, hT⟩ := hT
    subst hv
    refine AWp.pure (fun hx hb _ _ hl k => ?_) (hK _ _ _ _ hT)
    obtain ⟨kk, hk⟩ := List.getElem?_of_mem (mem_prs L 0 i _ hx0)
    rw [Nat.zero_add] at hk
    exact lv_iinc hx hb hd hl.has hk rfl (by rw [← hl.2.2.1]; exact hi) rfl (fun ls' h' => k _ (hl.st1 h'))
  · exact hT.elim
theorem sd_iadd (hd : decode (mC M) pc = .ok (.iadd, 1)) : Sd l G M pc (tz_i2 (pc + 1) (fun a b => a + b)) := by
  intro Q K L st h hK hT
  unfold tz_i2 at hT
  split at hT
  · exact AWp.pure (fun hx hb _ _ hl k => lv_iadd hx hb hd (k _ hl)) (hK _ _ _ _ hT)
  · exact hT.elim
theorem sd_isub (hd : decode (mC M) pc = .ok (.isub, 1)) : Sd l G M pc (tz_i2 (pc + 1) (fun a b => a - b)) := by
  intro Q K L st h hK hT
  unfold tz_i2 at hT
  split at hT
  · exact AWp.pure (fun hx hb _ _ hl k => lv_isub hx hb hd (k _ hl)) (hK _ _ _ _ hT)
  · exact hT.elim
theorem sd_imul (hd : decode (mC M) pc = .ok (.imul, 1)) : Sd l G M pc (tz_i2 (pc + 1) (fun a b => a * b)) := by
  intro Q K L st h hK hT
  unfold tz_i2 at hT
  split at hT
  · exact AWp.pure (fun hx hb _ _ hl k => lv_imul hx hb hd (k _ hl)) (hK _ _ _ _ hT)
  · exact hT.elim
theorem sd_iand (hd : decode (mC M) pc = .ok (.iand, 1)) : Sd l G M pc (tz_i2 (pc + 1) (fun a b => a &&& b)) := by
  intro Q K L st h hK hT
  unfold tz_i2 at hT
  split at hT
  · exact AWp.pure (fun hx hb _ _ hl k => lv_iand hx hb hd (k _ hl)) (hK _ _ _ _ hT)
  · exact hT.elim
theorem sd_idiv (hd : decode (mC M) pc = .ok (.idiv, 1)) : Sd l G M pc (tz_i2z (pc + 1) (fun a b => a / b)) := by
  intro Q K L st h hK hT
  unfold tz_i2z at hT
  split at hT
  · exact AWp.pure (fun hx hb _ _ hl k => lv_idiv hx hb hd hT.1 (k _ hl)) (hK _ _ _ _ hT.2)
  · exact hT.elim
theorem sd_irem (hd : decode (mC M) pc = .ok (.irem, 1)) : Sd l G M pc (tz_i2z (pc + 1) (fun a b => a - a / b * b)) := by
  intro Q K L st h hK hT
  unfold tz_i2z at hT
  split at hT
  · exact AWp.pure (fun hx hb _ _ hl k => lv_irem hx hb hd hT.1 (k _ hl)) (hK _ _ _ _ hT.2)
  · exact hT.elim
theorem sd_ineg (hd : decode (mC M) pc = .ok (.ineg, 1)) : Sd l G M pc (tz_i1 (pc + 1) (fun a => -a)) := by
  intro Q K L st h hK hT
  unfold tz_i1 at hT
  split at hT
  · exact AWp.pure (fun hx hb _ _ hl k => lv_ineg hx hb hd (k _ hl)) (hK _ _ _ _ hT)
  · exact hT.elim
theorem sd_ladd (hd : decode (mC M) pc = .ok (.ladd, 1)) : Sd l G M pc (tz_l2 (pc + 1) (fun a b => a + b)) := by
  intro Q K L st h hK hT
  unfold tz_l2 at hT
  split at hT
  · exact AWp.pure (fun hx hb _ _ hl k => lv_ladd hx hb hd (k _ hl)) (hK _ _ _ _ hT)
  · exact hT.elim
theorem sd_lmul (hd : decode (mC M) pc = .ok (.lmul, 1)) : Sd l G M pc (tz_l2 (pc + 1) (fun a b => a * b)) := by
  intro Q K L st h hK hT
  unfold tz_l2 at hT
  split at hT
  · exact AWp.pure (fun hx hb _ _ hl k => lv_lmul hx hb hd (k _ hl)) (hK _ _ _ _ hT)
  · exact hT.elim
theorem sd_land (hd : decode (mC M) pc = .ok (.land, 1)) : Sd l G M pc (tz_l2 (pc + 1) (fun a b => a &&& b)) := by
  intro Q K L st h hK hT
  unfold tz_l2 at hT
  split at hT
  · exact AWp.pure (fun hx hb _ _ hl k => lv_land hx hb hd (k _ hl)) (hK _ _ _ _ hT)
  · exact hT.elim
theorem sd_ldiv (hd : decode (mC M) pc = .ok (.ldiv, 1)) : Sd l G M pc (tz_l2z (pc + 1) (fun a b => a / b)) := by
  intro Q K L st h hK hT
  unfold tz_l2z at hT
  split at hT
  · exact AWp.pure (fun hx hb _ _ hl k => lv_ldiv hx hb hd hT.1 (k _ hl)) (hK _ _ _ _ hT.2)
  · exact hT.elim
theorem sd_lrem (hd : decode (mC M) pc = .ok (.lrem, 1)) : Sd l G M pc (tz_l2z (pc + 1) (fun a b => a - a / b * b)) := by
  intro Q K L st h hK hT
  unfold tz_l2z at hT
  split at hT
  · exact AWp.pure (fun hx hb _ _ hl k => lv_lrem hx hb hd hT.1 (k _ hl)) (hK _ _ _ _ hT.2)
  · exact hT.elim
theorem sd_i2l (hd : decode (mC M) pc = .ok (.i2l, 1)) : Sd l G M pc (tz_i2l (pc + 1)) := by
  intro Q K L st h hK hT
  unfold tz_i2l at hT
  split at hT
  · exact AWp.pure (fun hx hb _ _ hl k => lv_i2l hx hb hd rfl (k _ hl)) (hK _ _ _ _ hT)
  · exact hT.elim
theorem sd_l2i (hd : decode (mC M) pc = .ok (.l2i, 1)) : Sd l G M pc (tz_l2i (pc + 1)) := by
  intro Q K L st h hK hT
  unfold tz_l2i at hT
  split at hT
  · exact AWp.pure (fun hx hb _ _ hl k => lv_l2i hx hb hd rfl (k _ hl)) (hK _ _ _ _ hT)
  · exact hT.elim
theorem sd_lcmp (hd : decode (mC M) pc = .ok (.lcmp, 1)) : Sd l G M pc (tz_lcmp (pc + 1)) := by
  intro Q K L st h hK hT
  unfold tz_lcmp at hT
  split at hT
  · exact AWp.pure (fun hx hb _ _ hl k => W.lcmp hx hb hd (k _ hl)) (hK _ _ _ _ hT)
  · exact hT.elim
theorem sd_i2d (hd : decode (mC M) pc = .ok (.i2d, 1)) : Sd l G M pc (tz_i2d (pc + 1)) := by
  intro Q K L st h hK hT
  unfold tz_i2d at hT
  split at hT
  · exact AWp.pure (fun hx hb _ _ hl k => lv_i2d hx hb hd (k _ hl)) (hK _ _ _ _ hT)
  · exact hT.elim
theorem sd_dmul (hd : decode (mC M) pc = .ok (.dmul, 1)) : Sd l G M pc (tz_d2 (pc + 1) FP.dmul) := by
  intro Q K L st h hK hT
  unfold tz_d2 at hT
  split at hT
  · exact AWp.pure (fun hx hb _ _ hl k => lv_dmul hx hb hd hT.1 (k _ hl)) (hK _ _ _ _ hT.2)
  · exact hT.elim
theorem sd_ddiv (hd : decode (mC M) pc = .ok (.ddiv, 1)) : Sd l G M pc (tz_d2 (pc + 1) FP.ddiv) := by
  intro Q K L st h hK hT
  unfold tz_d2 at hT
  split at hT
  · exact AWp.pure (fun hx hb _ _ hl k => lv_ddiv hx hb hd hT.1 (k _ hl)) (hK _ _ _ _ hT.2)
  · exact hT.elim
theorem sd_dcmp {op : CmpOp} (hd : decode (mC M) pc = .ok (.dcmp op, 1)) : Sd l G M pc (tz_dcmp (pc + 1) op) := by
  intro Q K L st h hK hT
  unfold tz_dcmp at hT
  split at hT
  · exact AWp.pure (fun hx hb _ _ hl k => lv_dcmp hx hb hd (k _ hl)) (hK _ _ _ _ hT)
  · exact hT.elim
theorem is1_cat {v : Value} (h : is1 v) : v.category = 1 := by cases v <;> first | rfl | exact h.elim
theorem sd_dup (hd : decode (mC M) pc = .ok (.dup, 1)) : Sd l G M pc (tz_dup (pc + 1)) := by
  intro Q K L st h hK hT
  unfold tz_dup at hT
  split at hT
  · exact AWp.pure (fun hx hb _ _ hl k => lv_dup hx hb hd (is1_cat hT.1) (k _ hl)) (hK _ _ _ _ hT.2)
  · exact hT.elim
theorem sd_dup2 (hd : decode (mC M) pc = .ok (.dup2, 1)) : Sd l G M pc (tz_dup2 (pc + 1)) := by
  intro Q K L st h hK hT
  unfold tz_dup2 at hT
  split at hT
  · exact AWp.pure (fun hx hb _ _ hl k => lv_dup2_11 hx hb hd (is1_cat hT.1) (is1_cat hT.2.1) (k _ hl)) (hK _ _ _ _ hT.2.2)
  · exact hT.elim
theorem sd_pop (hd : decode (mC M) pc = .ok (.pop, 1)) : Sd l G M pc (tz_pop (pc + 1)) := by
  intro Q K L st h hK hT
  unfold tz_pop at hT
  split at hT
  · exact AWp.pure (fun hx hb _ _ hl k => lv_pop hx hb hd (is1_cat hT.1) (k _ hl)) (hK _ _ _ _ hT.2)
  · exact hT.elim
theorem sd_if_eq {off : Int} {t : Nat} (hd : decode (mC M) pc = .ok (.ifCond .eq off, 3)) (ht : (pc : Int) + off = (t : Int)) : Sd l G M pc (tz_if (pc + 3) t (fun a => a = 0)) := by
  intro Q K L st h hK hT
  unfold tz_if at hT
  split at hT
  · rename_i a r
    by_cases hc : a = 0
    · exact AWp.pure (fun hx hb _ _ hl k => lv_if_eq hx hb hd ht (fun _ => k _ hl) (fun q => absurd hc (by first | exact q | simpa using q))) (hT.1 hc)
    · exact AWp.pure (fun hx hb _ _ hl k => lv_if_eq hx hb hd ht (fun q => absurd q (by first | exact hc | simpa using hc)) (fun _ => k _ hl)) (hT.2 hc)
  · exact hT.elim
theorem sd_icmp_eq {off : Int} {t : Nat} (hd : decode (mC M) pc = .ok (.if_icmp .eq off, 3)) (ht : (pc : Int) + off = (t : Int)) : Sd l G M pc (tz_icmp (pc + 3) t (fun a b => a = b)) := by
  intro Q K L st h hK hT
  unfold tz_icmp at hT
  split at hT
  · rename_i b a r
    by_cases hc : a = b
    · exact AWp.pure (fun hx hb _ _ hl k => lv_icmp_eq hx hb hd ht (fun _ => k _ hl) (fun q => absurd hc (by first | exact q | simpa using q))) (hT.1 hc)
    · exact AWp.pure (fun hx hb _ _ hl k => lv_icmp_eq hx hb hd ht (fun q => absurd q (by first | exact hc | simpa using hc)) (fun _ => k _ hl)) (hT.2 hc)
  · exact hT.elim
theorem sd_if_ne {off : Int} {t : Nat} (hd : decode (mC M) pc = .ok (.ifCond .ne off, 3)) (ht : (pc : Int) + off = (t : Int)) : Sd l G M pc (tz_if (pc + 3) t (fun a => ¬ a = 0)) := by
  intro Q K L st h hK hT
  unfold tz_if at hT
  split at hT
  · rename_i a r
    by_cases hc : ¬ a = 0
    · exact AWp.pure (fun hx hb _ _ hl k => lv_if_ne hx hb hd ht (fun _ => k _ hl) (fun q => absurd hc (by first | exact q | simpa using q))) (hT.1 hc)
    · exact AWp.pure (fun hx hb _ _ hl k => lv_if_ne hx hb hd ht (fun q => absurd q (by first | exact hc | simpa using hc)) (fun _ => k _ hl)) (hT.2 hc)
  · exact hT.elim
theorem sd_icmp_ne {off : Int} {t : Nat} (hd : decode (mC M) pc = .ok (.if_icmp .ne off, 3)) (ht : (pc : Int) + off = (t : Int)) : Sd l G M pc (tz_icmp (pc + 3) t (fun a b => ¬ a = b)) := by
  intro Q K L st h hK hT
  unfold tz_icmp at hT
  split at hT
  · rename_i b a r
    by_cases hc : ¬ a = b
    · exact AWp.pure (fun hx hb _ _ hl k => lv_icmp_ne hx hb hd ht (fun _ => k _ hl) (fun q => absurd hc (by first | exact q | simpa using q))) (hT.1 hc)
    · exact AWp.pure (fun hx hb _ _ hl k => lv_icmp_ne hx hb hd ht (fun q => absurd q (by first | exact hc | simpa using hc)) (fun _ => k _ hl)) (hT.2 hc)
  · exact hT.elim
theorem sd_if_lt {off : Int} {t : Nat} (hd : decode (mC M) pc = .ok (.ifCond .lt off, 3)) (ht : (pc : Int) + off = (t : Int)) : Sd l G M pc (tz_if (pc + 3) t (fun a => a < 0)) := by
  intro Q K L st h hK hT
  unfold tz_if at hT
  split at hT
  · rename_i a r
    by_cases hc : a < 0
    · exact AWp.pure (fun hx hb _ _ hl k => lv_if_lt hx hb hd ht (fun _ => k _ hl) (fun q => absurd hc (by first | exact q | simpa using q))) (hT.1 hc)
    · exact AWp.pure (fun hx hb _ _ hl k => lv_if_lt hx hb hd ht (fun q => absurd q (by first | exact hc | simpa using hc)) (fun _ => k _ hl)) (hT.2 hc)
  · exact hT.elim
theorem sd_icmp_lt {off : Int} {t : Nat} (hd : decode (mC M) pc = .ok (.if_icmp .lt off, 3)) (ht : (pc : Int) + off = (t : Int)) : Sd l G M pc (tz_icmp (pc + 3) t (fun a b => a < b)) := by
  intro Q K L st h hK hT
  unfold tz_icmp at hT
  split at hT
  · rename_i b a r
    by_cases hc : a < b
    · exact AWp.pure (fun hx hb _ _ hl k => lv_icmp_lt hx hb hd ht (fun _ => k _ hl) (fun q => absurd hc (by first | exact q | simpa using q))) (hT.1 hc)
    · exact AWp.pure (fun hx hb _ _ hl k => lv_icmp_lt hx hb hd ht (fun q => absurd q (by first | exact hc | simpa using hc)) (fun _ => k _ hl)) (hT.2 hc)
  · exact hT.elim
theorem sd_if_ge {off : Int} {t : Nat} (hd : decode (mC M) pc = .ok (.ifCond .ge off, 3)) (ht : (pc : Int) + off = (t : Int)) : Sd l G M pc (tz_if (pc + 3) t (fun a => 0 ≤ a)) := by
  intro Q K L st h hK hT
  unfold tz_if at hT
  split at hT
  · rename_i a r
    by_cases hc : 0 ≤ a
    · exact AWp.pure (fun hx hb _ _ hl k => lv_if_ge hx hb hd ht (fun _ => k _ hl) (fun q => absurd hc (by first | exact q | simpa using q))) (hT.1 hc)
    · exact AWp.pure (fun hx hb _ _ hl k => lv_if_ge hx hb hd ht (fun q => absurd q (by first | exact hc | simpa using hc)) (fun _ => k _ hl)) (hT.2 hc)
  · exact hT.elim
theorem sd_icmp_ge {off : Int} {t : Nat} (hd : decode (mC M) pc = .ok (.if_icmp .ge off, 3)) (ht : (pc : Int) + off = (t : Int)) : Sd l G M pc (tz_icmp (pc + 3) t (fun a b => b ≤ a)) := by
  intro Q K L st h hK hT
  unfold tz_icmp at hT
  split at hT
  · rename_i b a r
    by_cases hc : b ≤ a
    · exact AWp.pure (fun hx hb _ _ hl k => lv_icmp_ge hx hb hd ht (fun _ => k _ hl) (fun q => absurd hc (by first | exact q | simpa using q))) (hT.1 hc)
    · exact AWp.pure (fun hx hb _ _ hl k => lv_icmp_ge hx hb hd ht (fun q => absurd q (by first | exact hc | simpa using hc)) (fun _ => k _ hl)) (hT.2 hc)
  · exact hT.elim
theorem sd_if_gt {off : Int} {t : Nat} (hd : decode (mC M) pc = .ok (.ifCond .gt off, 3)) (ht : (pc : Int) + off = (t : Int)) : Sd l G M pc (tz_if (pc + 3) t (fun a => 0 < a)) := by
  intro Q K L st h hK hT
  unfold tz_if at hT
  split at hT
  · rename_i a r
    by_cases hc : 0 < a
    · exact AWp.pure (fun hx hb _ _ hl k => lv_if_gt hx hb hd ht (fun _ => k _ hl) (fun q => absurd hc (by first | exact q | simpa using q))) (hT.1 hc)
    · exact AWp.pure (fun hx hb _ _ hl k => lv_if_gt hx hb hd ht (fun q => absurd q (by first | exact hc | simpa using hc)) (fun _ => k _ hl)) (hT.2 hc)
  · exact hT.elim
theorem sd_icmp_gt {off : Int} {t : Nat} (hd : decode (mC M) pc = .ok (.if_icmp .gt off, 3)) (ht : (pc : Int) + off = (t : Int)) : Sd l G M pc (tz_icmp (pc + 3) t (fun a b => b < a)) := by
  intro Q K L st h hK hT
  unfold tz_icmp at hT
  split at hT
  · rename_i b a r
    by_cases hc : b < a
    · exact AWp.pure (fun hx hb _ _ hl k => lv_icmp_gt hx hb hd ht (fun _ => k _ hl) (fun q => absurd hc (by first | exact q | simpa using q))) (hT.1 hc)
    · exact AWp.pure (fun hx hb _ _ hl k => lv_icmp_gt hx hb hd ht (fun q => absurd q (by first | exact hc | simpa using hc)) (fun _ => k _ hl)) (hT.2 hc)
  · exact hT.elim
theorem sd_if_le {off : Int} {t : Nat} (hd : decode (mC M) pc = .ok (.ifCond .le off, 3)) (ht : (pc : Int) + off = (t : Int)) : Sd l G M pc (tz_if (pc + 3) t (fun a => a ≤ 0)) := by
  intro Q K L st h hK hT
  unfold tz_if at hT
  split at hT
  · rename_i a r
    by_cases hc : a ≤ 0
    · exact AWp.pure (fun hx hb _ _ hl k => lv_if_le hx hb hd ht (fun _ => k _ hl) (fun q => absurd hc (by first | exact q | simpa using q))) (hT.1 hc)
    · exact AWp.pure (fun hx hb _ _ hl k => lv_if_le hx hb hd ht (fun q => absurd q (by first | exact hc | simpa using hc)) (fun _ => k _ hl)) (hT.2 hc)
  · exact hT.elim
theorem sd_icmp_le {off : Int} {t : Nat} (hd : decode (mC M) pc = .ok (.if_icmp .le off, 3)) (ht : (pc : Int) + off = (t : Int)) : Sd l G M pc (tz_icmp (pc + 3) t (fun a b => a ≤ b)) := by
  intro Q K L st h hK hT
  unfold tz_icmp at hT
  split at hT
  · rename_i b a r
    by_cases hc : a ≤ b
    · exact AWp.pure (fun hx hb _ _ hl k => lv_icmp_le hx hb hd ht (fun _ => k _ hl) (fun q => absurd hc (by first | exact q | simpa using q))) (hT.1 hc)
    · exact AWp.pure (fun hx hb _ _ hl k => lv_icmp_le hx hb hd ht (fun q => absurd q (by first | exact hc | simpa using hc)) (fun _ => k _ hl)) (hT.2 hc)
  · exact hT.elim
theorem sd_ifnull {off : Int} {t : Nat} (hd : decode (mC M) pc = .ok (.ifnull off, 3)) (ht : (pc : Int) + off = (t : Int)) : Sd l G M pc (tz_null t (pc + 3)) := by
  intro Q K L st h hK hT
  unfold tz_null at hT
  split at hT
  · exact AWp.pure (fun hx hb _ _ hl k => lv_ifnullN hx hb hd ht (k _ hl)) (hK _ _ _ _ hT)
  · exact AWp.pure (fun hx hb _ _ hl k => lv_ifnull hx hb hd (k _ hl)) (hK _ _ _ _ hT)
  · exact hT.elim
theorem sd_ifnonnull {off : Int} {t : Nat} (hd : decode (mC M) pc = .ok (.ifnonnull off, 3)) (ht : (pc : Int) + off = (t : Int)) : Sd l G M pc (tz_null (pc + 3) t) := by
  intro Q K L st h hK hT
  unfold tz_null at hT
  split at hT
  · exact AWp.pure (fun hx hb _ _ hl k => lv_ifnonnullN hx hb hd (k _ hl)) (hK _ _ _ _ hT)
  · exact AWp.pure (fun hx hb _ _ hl k => lv_ifnonnull hx hb hd ht (k _ hl)) (hK _ _ _ _ hT)
  · exact hT.elim
theorem sd_goto {off : Int} {t : Nat} (hd : decode (mC M) pc = .ok (.goto off, 3)) (ht : (pc : Int) + off = (t : Int)) : Sd l G M pc (tz_goto t) := by
  intro Q K L st h hK hT
  exact AWp.pure (fun hx hb _ _ hl k => lv_goto hx hb hd ht (k _ hl)) (hK _ _ _ _ hT)
end
