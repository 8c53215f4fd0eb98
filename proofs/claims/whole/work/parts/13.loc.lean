theorem lg_nil (i : Nat) : lg [] i = none := by cases i <;> rfl
theorem lset_len : ∀ (L : Lo) (i : Nat) (x : Option Value), (lset L i x).length = L.length
  | [], _, _ => rfl
  | _ :: l, 0, _ => rfl
  | _ :: l, n + 1, x => by simp [lset, lset_len l n x]
theorem lg_lset : ∀ (L : Lo) (i j : Nat) (x : Option Value), lg (lset L i x) j = if j = i ∧ i < L.length then x else lg L j
  | [], i, j, x => by simp [lset]
  | a :: l, 0, 0, x => by simp [lset, lg]
  | a :: l, 0, j + 1, x => by simp [lset, lg]
  | a :: l, i + 1, 0, x => by simp [lset, lg]
  | a :: l, i + 1, j + 1, x => by simp [lset, lg, lg_lset l i j x]
def prs : Nat → Lo → List (Nat × Value)
  | _, [] => []
  | n, some v :: r => (n, v) :: prs (n + 1) r
  | n, none :: r => prs (n + 1) r
theorem prs_mem : ∀ (L : Lo) (n i : Nat) (v : Value), (i, v) ∈ prs n L → n ≤ i ∧ lg L (i - n) = some v
  | [], n, i, v, h => by simp [prs] at h
  | some w :: r, n, i, v, h => by
    rcases List.mem_cons.mp h with e | e
    · cases e; simp [lg]
    · obtain ⟨h1, h2⟩ := prs_mem r (n + 1) i v e
      refine ⟨by omega, ?_⟩
      rw [show i - n = (i - (n + 1)) + 1 by omega]
      exact h2
  | none :: r, n, i, v, h => by
    obtain ⟨h1, h2⟩ := prs_mem r (n + 1) i v h
    refine ⟨by omega, ?_⟩
    rw [show i - n = (i - (n + 1)) + 1 by omega]
    exact h2
theorem mem_prs : ∀ (L : Lo) (n i : Nat) (v : Value), lg L i = some v → (n + i, v) ∈ prs n L
  | [], n, i, v, h => by simp [lg_nil] at h
  | some w :: r, n, 0, v, h => by simp [lg] at h; simp [prs, h]
  | none :: r, n, 0, v, h => by simp [lg] at h
  | some w :: r, n, i + 1, v, h => by
    have := mem_prs r (n + 1) i v h
    rw [show n + (i + 1) = n + 1 + i by omega]
    exact List.mem_cons_of_mem _ this
  | none :: r, n, i + 1, v, h => by
    have := mem_prs r (n + 1) i v h
    rw [show n + (i + 1) = n + 1 + i by omega]
    exact this
theorem LOK.has {ls : Array Slot} {n : Nat} {L : Lo} (h : LOK ls n L) : lv_has ls n (prs 0 L) := by
  refine ⟨h.1, h.2.1, fun q hq => ?_⟩
  obtain ⟨i, v⟩ := q
  obtain ⟨-, h2⟩ := prs_mem L 0 i v hq
  exact h.2.2.2 i v h2
theorem lkill_len (L : Lo) (i : Nat) : (lkill L i).length = L.length := by
  unfold lkill
  split
  · rfl
  · split <;> simp [lset_len]
/-- what stays below a store -/
theorem lkill_lg {L : Lo} {i j : Nat} {v : Value} (h : lg (lkill L i) j = some v) : lg L j = some v ∧ ¬ (j + 1 = i ∧ v.category = 2) := by
  unfold lkill at h
  split at h
  · exact ⟨h, by omega⟩
  · rename_i i k
    split at h
    · rename_i x hx
      rw [lg_lset] at h
      split at h
      · cases h
      · rename_i hn
        refine ⟨h, fun q => hn ⟨by omega, ?_⟩⟩
        have : j = k := by omega
        subst this
        rcases Nat.lt_or_ge j L.length with g | g
        · exact g
        · exfalso
          have : ∀ (M : Lo) (j : Nat), M.length ≤ j → lg M j = none := by
            intro M
            induction M with
            | nil => intro j _; exact lg_nil j
            | cons a r ih => intro j hj; cases j with
              | zero => simp at hj
              | succ j => exact ih j (by simpa using hj)
          rw [this L j g] at hx
          cases hx
    · rename_i x hx
      rw [lg_lset] at h
      split at h
      · cases h
      · rename_i hn
        refine ⟨h, fun q => hn ⟨by omega, ?_⟩⟩
        have : j = k := by omega
        subst this
        rcases Nat.lt_or_ge j L.length with g | g
        · exact g
        · exfalso
          have : ∀ (M : Lo) (j : Nat), M.length ≤ j → lg M j = none := by
            intro M
            induction M with
            | nil => intro j _; exact lg_nil j
            | cons a r ih => intro j hj; cases j with
              | zero => simp at hj
              | succ j => exact ih j (by simpa using hj)
          rw [this L j g] at hx
          cases hx
    · rename_i h1 h2
      refine ⟨h, fun q => ?_⟩
      have : j = k := by omega
      subst this
      cases v <;> simp [Value.category] at q
      · exact h1 _ h
      · exact h2 _ h
theorem LOK.st1 {ls ls' : Array Slot} {n i : Nat} {L : Lo} {v : Value} (h : LOK ls n L) (h' : lv_has ls' n ((i, v) :: (prs 0 L).filter (fun q => !(q.1 == i) && !(q.1 + 1 == i && q.2.category == 2)))) : LOK ls' n (lst1 L i v) := by
  refine ⟨h'.1, h'.2.1, by simp [lst1, lset_len, lkill_len, h.2.2.1], fun j w hj => ?_⟩
  unfold lst1 at hj
  rw [lg_lset] at hj
  split at hj
  · rename_i e
    cases hj
    rw [e.1]
    exact h'.2.2 (i, v) List.mem_cons_self
  · rename_i e
    obtain ⟨g1, g2⟩ := lkill_lg hj
    by_cases hji : j = i
    · exfalso
      refine e ⟨hji, ?_⟩
      rw [lkill_len]
      subst hji
      rcases Nat.lt_or_ge j L.length with g | g
      · exact g
      · exfalso
        have : ∀ (M : Lo) (j : Nat), M.length ≤ j → lg M j = none := by
          intro M
          induction M with
          | nil => intro j _; exact lg_nil j
          | cons a r ih => intro j hj; cases j with
            | zero => simp at hj
            | succ j => exact ih j (by simpa using hj)
        rw [this L j g] at g1
        cases g1
    · refine h'.2.2 (j, w) (List.mem_cons_of_mem _ (List.mem_filter.mpr ⟨by simpa using mem_prs L 0 j w g1, ?_⟩))
      simp only [Bool.and_eq_true, Bool.not_eq_true', beq_eq_false_iff_ne, ne_eq]
      refine ⟨hji, ?_⟩
      by_cases c1 : j + 1 = i
      · simp only [c1, beq_self_eq_true, Bool.true_and, beq_eq_false_iff_ne]
        exact fun c2 => g2 ⟨c1, c2⟩
      · simp [c1]
theorem LOK.st2 {ls ls' : Array Slot} {n i : Nat} {L : Lo} {v : Value} (h : LOK ls n L) (hi : i + 1 < n) (h' : lv_has ls' n ((i, v) :: (prs 0 L).filter (fun q => !(q.1 == i) && (!(q.1 == i + 1) && !(q.1 + 1 == i && q.2.category == 2))))) : LOK ls' n (lst2 L i v) := by
  refine ⟨h'.1, h'.2.1, by simp [lst2, lset_len, lkill_len, h.2.2.1], fun j w hj => ?_⟩
  have hlen : L.length = n := h.2.2.1
  unfold lst2 at hj
  rw [lg_lset] at hj
  split at hj
  · cases hj
  · rename_i e0
    rw [lg_lset] at hj
    split at hj
    · rename_i e
      cases hj
      rw [e.1]
      exact h'.2.2 (i, v) List.mem_cons_self
    · rename_i e
      obtain ⟨g1, g2⟩ := lkill_lg hj
      have hji : ¬ j = i := fun q => e ⟨q, by rw [lkill_len]; omega⟩
      have hji1 : ¬ j = i + 1 := fun q => e0 ⟨q, by rw [lset_len, lkill_len]; omega⟩
      refine h'.2.2 (j, w) (List.mem_cons_of_mem _ (List.mem_filter.mpr ⟨by simpa using mem_prs L 0 j w g1, ?_⟩))
      simp only [Bool.and_eq_true, Bool.not_eq_true', beq_eq_false_iff_ne, ne_eq]
      refine ⟨hji, hji1, ?_⟩
      by_cases c1 : j + 1 = i
      · simp only [c1, beq_self_eq_true, Bool.true_and, beq_eq_false_iff_ne]
        exact fun c2 => g2 ⟨c1, c2⟩
      · simp [c1]
/-- the locals at a method's entry -/
def entL : List Value → Nat → Lo
  | [], n => List.replicate n none
  | .long x :: r, n => some (.long x) :: none :: entL r (n - 2)
  | .double x :: r, n => some (.double x) :: none :: entL r (n - 2)
  | .int x :: r, n => some (.int x) :: entL r (n - 1)
  | .float x :: r, n => some (.float x) :: entL r (n - 1)
  | .null :: r, n => some .null :: entL r (n - 1)
  | .ref x :: r, n => some (.ref x) :: entL r (n - 1)
  | .retAddr x :: r, n => some (.retAddr x) :: entL r (n - 1)
theorem lg_rep (n i : Nat) : lg (List.replicate n none) i = none := by
  induction n generalizing i with
  | zero => exact lg_nil i
  | succ n ih => cases i with
    | zero => rfl
    | succ i => exact ih i
theorem entL_at : ∀ (vs : List Value) (n k i : Nat) (v : Value), lg (entL vs n) i = some v → (k + i, v) ∈ lv_args k vs := by
  intro vs
  induction vs with
  | nil => intro n k i v h; rw [entL, lg_rep] at h; cases h
  | cons w r ih =>
    intro n k i v h
    cases w <;> simp only [entL] at h <;> simp only [lv_args, Value.category] <;> (match i, h with
      | 0, h => simp [lg] at h; subst h; simp
      | 1, h => first | (simp [lg] at h; done) | (exact List.mem_cons_of_mem _ (by simpa using ih _ (k + 1) 0 v h))
      | i + 2, h => first | (have := ih _ (k + 2) i v h; rw [show k + (i + 2) = k + 2 + i by omega]; exact List.mem_cons_of_mem _ (by simpa using this)) | (have := ih _ (k + 1) (i + 1) v h; rw [show k + (i + 2) = k + 1 + (i + 1) by omega]; exact List.mem_cons_of_mem _ (by simpa using this)))
theorem entL_len : ∀ (vs : List Value) (n : Nat), (lg_sl vs).length ≤ n → (entL vs n).length = n := by
  intro vs
  induction vs with
  | nil => intro n h; simp [entL]
  | cons w r ih =>
    intro n h
    have hc : lg_sl (w :: r) = (if w.category = 2 then [Slot.val w, Slot.second] else [Slot.val w]) ++ lg_sl r := by simp [lg_sl]
    rw [hc, List.length_append] at h
    cases w <;> simp only [Value.category, if_true, if_false, reduceIte, List.length_cons, List.length_nil, Nat.reduceEqDiff] at h <;> simp only [entL, List.length_cons] <;> rw [ih _ (by omega)] <;> omega
theorem LOK.entry (vs : List Value) {n : Nat} (h : (lg_sl vs).length ≤ n) : LOK ((lg_sl vs ++ List.replicate (n - (lg_sl vs).length) Slot.unset).toArray) n (entL vs n) := by
  obtain ⟨h1, h2, h3⟩ := lv_entry vs h
  exact ⟨h1, h2, entL_len vs n h, fun i v hi => h3 (i, v) (by simpa using entL_at vs n 0 i v hi)⟩
