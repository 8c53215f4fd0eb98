/-! THE WALK AS A FUNCTION -/
def dead (_ : Po) (_ : Ct) (_ : Ct) (_ : Lo) (_ : List Value) (_ : AH) : Prop := False
theorem sd_dead {l : Launch} {G : Gc} {M : Md} {pc : Nat} : Sd l G M pc dead := fun _ _ _ _ _ _ h => h.elim
theorem sd_br {l : Launch} {G : Gc} {M : Md} {pc m : Nat} {A B : Tr} (ha : Sd l G M pc A) (hb : Sd l G M pc B) : Sd l G M pc (if pc < m then A else B) := by
  split
  · exact ha
  · exact hb
theorem sd_lf {l : Launch} {G : Gc} {M : Md} {pc a : Nat} {T : Tr} (h : Sd l G M a T) : Sd l G M pc (if pc = a then T else dead) := by
  split
  · rename_i e
    subst e
    exact h
  · exact sd_dead
def inl : List Nat → Nat → Bool
  | [], _ => false
  | a :: r, n => if a = n then true else inl r n
def Xq (l : Launch) (G : Gc) (M : Md) (Q : Po) (pc : Nat) (L : Lo) (st : List Value) (h : AH) : Prop := AWp l G M pc L st h Q
def gate (l : Launch) (G : Gc) (M : Md) (cuts : List Nat) (Q : Po) (W : Ct) (pc : Nat) (L : Lo) (st : List Value) (h : AH) : Prop := if inl cuts pc = true then AWp l G M pc L st h Q else W pc L st h
def wp (l : Launch) (G : Gc) (M : Md) (cuts : List Nat) (tab : Nat → Tr) (Q : Po) : Nat → Nat → Lo → List Value → AH → Prop
  | 0, pc, L, st, h => AWp l G M pc L st h Q
  | n + 1, pc, L, st, h => tab pc Q (Xq l G M Q) (gate l G M cuts Q (wp l G M cuts tab Q n)) L st h
def TabOK (l : Launch) (G : Gc) (M : Md) (tab : Nat → Tr) : Prop := ∀ pc, Sd l G M pc (tab pc)
theorem wp_go {l : Launch} {G : Gc} {M : Md} {cuts : List Nat} {tab : Nat → Tr} (ht : TabOK l G M tab) {Q : Po} : ∀ (n : Nat) {pc : Nat} {L : Lo} {st : List Value} {h : AH}, wp l G M cuts tab Q n pc L st h → AWp l G M pc L st h Q
  | 0, pc, L, st, h, k => k
  | n + 1, pc, L, st, h, k => by
    refine ht pc Q _ L st h (fun pc' L' st' h' k' => ?_) k
    unfold gate at k'
    split at k'
    · exact k'
    · exact wp_go ht n k'
/-- the walk, with its definition hidden: only its equation is known -/
theorem wp_ex {l : Launch} {G : Gc} {M : Md} {tab : Nat → Tr} (ht : TabOK l G M tab) (cuts : List Nat) (Q : Po) : ∃ W : Nat → Nat → Lo → List Value → AH → Prop, (∀ n pc L st h, W (n + 1) pc L st h = tab pc Q (Xq l G M Q) (gate l G M cuts Q (W n)) L st h) ∧ (∀ n pc L st h, W n pc L st h → AWp l G M pc L st h Q) :=
  ⟨wp l G M cuts tab Q, fun _ _ _ _ _ => rfl, fun n _ _ _ _ k => wp_go ht n k⟩
/-- minus one -/
def nN : Int32 := -1
theorem nN_toInt : nN.toInt = -1 := rfl
theorem nN_e1 {k : Nat} (h : k < 2147483648) : (nN = nI k) = False := eq_false (fun e => by have := congrArg Int32.toInt e; rw [nN_toInt, nI_toInt h] at this; omega)
theorem nN_e2 {k : Nat} (h : k < 2147483648) : (nI k = nN) = False := eq_false (fun e => by have := congrArg Int32.toInt e; rw [nN_toInt, nI_toInt h] at this; omega)
theorem nN_l1 {k : Nat} (h : k < 2147483648) : (nN < nI k) = True := eq_true (by rw [Int32.lt_iff_toInt_lt, nN_toInt, nI_toInt h]; omega)
theorem nN_l2 {k : Nat} (h : k < 2147483648) : (nI k < nN) = False := eq_false (fun e => by rw [Int32.lt_iff_toInt_lt, nN_toInt, nI_toInt h] at e; omega)
theorem nN_l3 {k : Nat} (h : k < 2147483648) : (nN ≤ nI k) = True := eq_true (by rw [Int32.le_iff_toInt_le, nN_toInt, nI_toInt h]; omega)
theorem nN_l4 {k : Nat} (h : k < 2147483648) : (nI k ≤ nN) = False := eq_false (fun e => by rw [Int32.le_iff_toInt_le, nN_toInt, nI_toInt h] at e; omega)
