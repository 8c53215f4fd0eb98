/-! THE LAW: its own methods, which catch -/
/-- what the class's answer becomes: laid into o, 0; or the number of what was thrown -/
def LwP (Q : Po) (o : Nat) (cs : List (String × Nat)) : Po := fun oc h1 => match oc with
  | .inl (some (.int r)) => (tg h1 o = 12 ∧ ln h1 o = 1) ∧ Q (.inl (some (.int (nI 0)))) (sL h1 o 0 r.toInt64)
  | .inr E => ∃ k, hfd cs E = some k ∧ Q (.inl (some (.int (nI k)))) h1
  | _ => False
theorem hfd1 {c E : String} {hp q : Nat} {r : List (String × Nat)} (h : hfd ((c, hp) :: r) E = some q) : (E = c ∧ q = hp) ∨ hfd r E = some q := by
  rw [hfd] at h
  by_cases e : c = E
  · rw [if_pos e] at h
    exact Or.inl ⟨e.symm, (Option.some.inj h).symm⟩
  · rw [if_neg e] at h
    exact Or.inr h
theorem hfd0 {E : String} {q : Nat} (h : hfd [] E = some q) : False := by
  rw [hfd] at h
  cases h
theorem hh_Lw_addHost : ∀ E hp, hfd [("java/lang/IndexOutOfBoundsException", 12), ("java/lang/IllegalStateException", 15)] E = some hp → ∃ (pre : List ExceptionTableEntry) (x : ExceptionTableEntry) (suf : List ExceptionTableEntry), tableOf (mH M_Lw_addHost) = pre ++ x :: suf ∧ (∀ z ∈ pre, z.catchType ≠ 0 ∧ ∃ nm, Cond.classLink (mY M_Lw_addHost).cls z.catchType nm ∈ gtbl ∧ (E, nm) ∈ ncl) ∧ covers x 4 = true ∧ x.catchType ≠ 0 ∧ Cond.classLink (mY M_Lw_addHost).cls x.catchType E ∈ gtbl ∧ Cond.castable E E ∈ tables_1 ∧ x.handlerPc = hp := by
  intro E hp h
  rcases hfd1 h with ⟨e0, e1⟩ | h
  · subst e0
    subst e1
    exact ⟨[], _, _, rfl, fun z hz => absurd hz List.not_mem_nil, by decide +kernel, by decide, gm 484 (by decide +kernel) rfl, List.mem_of_getElem? (i := 424) (by decide +kernel), rfl⟩
  rcases hfd1 h with ⟨e0, e1⟩ | h
  · subst e0
    subst e1
    exact ⟨[_], _, _, rfl, fun z hz => by
        cases List.mem_singleton.mp hz; exact ⟨(by decide), "java/lang/IndexOutOfBoundsException", gm 484 (by decide +kernel) rfl, by decide +kernel⟩, by decide +kernel, by decide, gm 485 (by decide +kernel) rfl, List.mem_of_getElem? (i := 493) (by decide +kernel), rfl⟩
  exact (hfd0 h).elim
theorem hh_Lw_addTranslator : ∀ E hp, hfd [("java/lang/IndexOutOfBoundsException", 17), ("java/lang/IllegalArgumentException", 21), ("java/lang/IllegalStateException", 25)] E = some hp → ∃ (pre : List ExceptionTableEntry) (x : ExceptionTableEntry) (suf : List ExceptionTableEntry), tableOf (mH M_Lw_addTranslator) = pre ++ x :: suf ∧ (∀ z ∈ pre, z.catchType ≠ 0 ∧ ∃ nm, Cond.classLink (mY M_Lw_addTranslator).cls z.catchType nm ∈ gtbl ∧ (E, nm) ∈ ncl) ∧ covers x 9 = true ∧ x.catchType ≠ 0 ∧ Cond.classLink (mY M_Lw_addTranslator).cls x.catchType E ∈ gtbl ∧ Cond.castable E E ∈ tables_1 ∧ x.handlerPc = hp := by
  intro E hp h
  rcases hfd1 h with ⟨e0, e1⟩ | h
  · subst e0
    subst e1
    exact ⟨[], _, _, rfl, fun z hz => absurd hz List.not_mem_nil, by decide +kernel, by decide, gm 484 (by decide +kernel) rfl, List.mem_of_getElem? (i := 424) (by decide +kernel), rfl⟩
  rcases hfd1 h with ⟨e0, e1⟩ | h
  · subst e0
    subst e1
    exact ⟨[_], _, _, rfl, fun z hz => by
        cases List.mem_singleton.mp hz; exact ⟨(by decide), "java/lang/IndexOutOfBoundsException", gm 484 (by decide +kernel) rfl, by decide +kernel⟩, by decide +kernel, by decide, gm 583 (by decide +kernel) rfl, List.mem_of_getElem? (i := 521) (by decide +kernel), rfl⟩
  rcases hfd1 h with ⟨e0, e1⟩ | h
  · subst e0
    subst e1
    exact ⟨[_, _], _, _, rfl, fun z hz => by
        rcases List.mem_cons.mp hz with e9 | hz2
        · cases e9; exact ⟨(by decide), "java/lang/IndexOutOfBoundsException", gm 484 (by decide +kernel) rfl, by decide +kernel⟩
        · cases List.mem_singleton.mp hz2; exact ⟨(by decide), "java/lang/IllegalArgumentException", gm 583 (by decide +kernel) rfl, by decide +kernel⟩, by decide +kernel, by decide, gm 485 (by decide +kernel) rfl, List.mem_of_getElem? (i := 493) (by decide +kernel), rfl⟩
  exact (hfd0 h).elim
theorem hh_Lw_setNumber : ∀ E hp, hfd [("java/lang/IndexOutOfBoundsException", 15), ("java/lang/IllegalArgumentException", 19)] E = some hp → ∃ (pre : List ExceptionTableEntry) (x : ExceptionTableEntry) (suf : List ExceptionTableEntry), tableOf (mH M_Lw_setNumber) = pre ++ x :: suf ∧ (∀ z ∈ pre, z.catchType ≠ 0 ∧ ∃ nm, Cond.classLink (mY M_Lw_setNumber).cls z.catchType nm ∈ gtbl ∧ (E, nm) ∈ ncl) ∧ covers x 7 = true ∧ x.catchType ≠ 0 ∧ Cond.classLink (mY M_Lw_setNumber).cls x.catchType E ∈ gtbl ∧ Cond.castable E E ∈ tables_1 ∧ x.handlerPc = hp := by
  intro E hp h
  rcases hfd1 h with ⟨e0, e1⟩ | h
  · subst e0
    subst e1
    exact ⟨[], _, _, rfl, fun z hz => absurd hz List.not_mem_nil, by decide +kernel, by decide, gm 484 (by decide +kernel) rfl, List.mem_of_getElem? (i := 424) (by decide +kernel), rfl⟩
  rcases hfd1 h with ⟨e0, e1⟩ | h
  · subst e0
    subst e1
    exact ⟨[_], _, _, rfl, fun z hz => by
        cases List.mem_singleton.mp hz; exact ⟨(by decide), "java/lang/IndexOutOfBoundsException", gm 484 (by decide +kernel) rfl, by decide +kernel⟩, by decide +kernel, by decide, gm 583 (by decide +kernel) rfl, List.mem_of_getElem? (i := 521) (by decide +kernel), rfl⟩
  exact (hfd0 h).elim
theorem hh_Lw_pass : ∀ E hp, hfd [("java/lang/IllegalArgumentException", 12), ("java/lang/IllegalStateException", 15)] E = some hp → ∃ (pre : List ExceptionTableEntry) (x : ExceptionTableEntry) (suf : List ExceptionTableEntry), tableOf (mH M_Lw_pass) = pre ++ x :: suf ∧ (∀ z ∈ pre, z.catchType ≠ 0 ∧ ∃ nm, Cond.classLink (mY M_Lw_pass).cls z.catchType nm ∈ gtbl ∧ (E, nm) ∈ ncl) ∧ covers x 4 = true ∧ x.catchType ≠ 0 ∧ Cond.classLink (mY M_Lw_pass).cls x.catchType E ∈ gtbl ∧ Cond.castable E E ∈ tables_1 ∧ x.handlerPc = hp := by
  intro E hp h
  rcases hfd1 h with ⟨e0, e1⟩ | h
  · subst e0
    subst e1
    exact ⟨[], _, _, rfl, fun z hz => absurd hz List.not_mem_nil, by decide +kernel, by decide, gm 583 (by decide +kernel) rfl, List.mem_of_getElem? (i := 521) (by decide +kernel), rfl⟩
  rcases hfd1 h with ⟨e0, e1⟩ | h
  · subst e0
    subst e1
    exact ⟨[_], _, _, rfl, fun z hz => by
        cases List.mem_singleton.mp hz; exact ⟨(by decide), "java/lang/IllegalArgumentException", gm 583 (by decide +kernel) rfl, by decide +kernel⟩, by decide +kernel, by decide, gm 485 (by decide +kernel) rfl, List.mem_of_getElem? (i := 493) (by decide +kernel), rfl⟩
  exact (hfd0 h).elim
theorem hh_Lw_restore : ∀ E hp, hfd [("java/lang/IllegalStateException", 11)] E = some hp → ∃ (pre : List ExceptionTableEntry) (x : ExceptionTableEntry) (suf : List ExceptionTableEntry), tableOf (mH M_Lw_restore) = pre ++ x :: suf ∧ (∀ z ∈ pre, z.catchType ≠ 0 ∧ ∃ nm, Cond.classLink (mY M_Lw_restore).cls z.catchType nm ∈ gtbl ∧ (E, nm) ∈ ncl) ∧ covers x 3 = true ∧ x.catchType ≠ 0 ∧ Cond.classLink (mY M_Lw_restore).cls x.catchType E ∈ gtbl ∧ Cond.castable E E ∈ tables_1 ∧ x.handlerPc = hp := by
  intro E hp h
  rcases hfd1 h with ⟨e0, e1⟩ | h
  · subst e0
    subst e1
    exact ⟨[], _, _, rfl, fun z hz => absurd hz List.not_mem_nil, by decide +kernel, by decide, gm 485 (by decide +kernel) rfl, List.mem_of_getElem? (i := 493) (by decide +kernel), rfl⟩
  exact (hfd0 h).elim
theorem hh_Lw_append : ∀ E hp, hfd [("java/lang/IllegalArgumentException", 12), ("java/lang/IllegalStateException", 15)] E = some hp → ∃ (pre : List ExceptionTableEntry) (x : ExceptionTableEntry) (suf : List ExceptionTableEntry), tableOf (mH M_Lw_append) = pre ++ x :: suf ∧ (∀ z ∈ pre, z.catchType ≠ 0 ∧ ∃ nm, Cond.classLink (mY M_Lw_append).cls z.catchType nm ∈ gtbl ∧ (E, nm) ∈ ncl) ∧ covers x 4 = true ∧ x.catchType ≠ 0 ∧ Cond.classLink (mY M_Lw_append).cls x.catchType E ∈ gtbl ∧ Cond.castable E E ∈ tables_1 ∧ x.handlerPc = hp := by
  intro E hp h
  rcases hfd1 h with ⟨e0, e1⟩ | h
  · subst e0
    subst e1
    exact ⟨[], _, _, rfl, fun z hz => absurd hz List.not_mem_nil, by decide +kernel, by decide, gm 583 (by decide +kernel) rfl, List.mem_of_getElem? (i := 521) (by decide +kernel), rfl⟩
  rcases hfd1 h with ⟨e0, e1⟩ | h
  · subst e0
    subst e1
    exact ⟨[_], _, _, rfl, fun z hz => by
        cases List.mem_singleton.mp hz; exact ⟨(by decide), "java/lang/IllegalArgumentException", gm 583 (by decide +kernel) rfl, by decide +kernel⟩, by decide +kernel, by decide, gm 485 (by decide +kernel) rfl, List.mem_of_getElem? (i := 493) (by decide +kernel), rfl⟩
  exact (hfd0 h).elim
theorem hh_Lw_load : ∀ E hp, hfd [("java/lang/IllegalArgumentException", 11)] E = some hp → ∃ (pre : List ExceptionTableEntry) (x : ExceptionTableEntry) (suf : List ExceptionTableEntry), tableOf (mH M_Lw_load) = pre ++ x :: suf ∧ (∀ z ∈ pre, z.catchType ≠ 0 ∧ ∃ nm, Cond.classLink (mY M_Lw_load).cls z.catchType nm ∈ gtbl ∧ (E, nm) ∈ ncl) ∧ covers x 3 = true ∧ x.catchType ≠ 0 ∧ Cond.classLink (mY M_Lw_load).cls x.catchType E ∈ gtbl ∧ Cond.castable E E ∈ tables_1 ∧ x.handlerPc = hp := by
  intro E hp h
  rcases hfd1 h with ⟨e0, e1⟩ | h
  · subst e0
    subst e1
    exact ⟨[], _, _, rfl, fun z hz => absurd hz List.not_mem_nil, by decide +kernel, by decide, gm 583 (by decide +kernel) rfl, List.mem_of_getElem? (i := 521) (by decide +kernel), rfl⟩
  exact (hfd0 h).elim
theorem hh_Lw_send : ∀ E hp, hfd [("java/lang/IndexOutOfBoundsException", 17), ("java/lang/IllegalArgumentException", 21)] E = some hp → ∃ (pre : List ExceptionTableEntry) (x : ExceptionTableEntry) (suf : List ExceptionTableEntry), tableOf (mH M_Lw_send) = pre ++ x :: suf ∧ (∀ z ∈ pre, z.catchType ≠ 0 ∧ ∃ nm, Cond.classLink (mY M_Lw_send).cls z.catchType nm ∈ gtbl ∧ (E, nm) ∈ ncl) ∧ covers x 9 = true ∧ x.catchType ≠ 0 ∧ Cond.classLink (mY M_Lw_send).cls x.catchType E ∈ gtbl ∧ Cond.castable E E ∈ tables_1 ∧ x.handlerPc = hp := by
  intro E hp h
  rcases hfd1 h with ⟨e0, e1⟩ | h
  · subst e0
    subst e1
    exact ⟨[], _, _, rfl, fun z hz => absurd hz List.not_mem_nil, by decide +kernel, by decide, gm 484 (by decide +kernel) rfl, List.mem_of_getElem? (i := 424) (by decide +kernel), rfl⟩
  rcases hfd1 h with ⟨e0, e1⟩ | h
  · subst e0
    subst e1
    exact ⟨[_], _, _, rfl, fun z hz => by
        cases List.mem_singleton.mp hz; exact ⟨(by decide), "java/lang/IndexOutOfBoundsException", gm 484 (by decide +kernel) rfl, by decide +kernel⟩, by decide +kernel, by decide, gm 583 (by decide +kernel) rfl, List.mem_of_getElem? (i := 521) (by decide +kernel), rfl⟩
  exact (hfd0 h).elim
theorem hh_Lw_reply : ∀ E hp, hfd [("java/lang/IndexOutOfBoundsException", 12), ("java/lang/IllegalStateException", 15)] E = some hp → ∃ (pre : List ExceptionTableEntry) (x : ExceptionTableEntry) (suf : List ExceptionTableEntry), tableOf (mH M_Lw_reply) = pre ++ x :: suf ∧ (∀ z ∈ pre, z.catchType ≠ 0 ∧ ∃ nm, Cond.classLink (mY M_Lw_reply).cls z.catchType nm ∈ gtbl ∧ (E, nm) ∈ ncl) ∧ covers x 4 = true ∧ x.catchType ≠ 0 ∧ Cond.classLink (mY M_Lw_reply).cls x.catchType E ∈ gtbl ∧ Cond.castable E E ∈ tables_1 ∧ x.handlerPc = hp := by
  intro E hp h
  rcases hfd1 h with ⟨e0, e1⟩ | h
  · subst e0
    subst e1
    exact ⟨[], _, _, rfl, fun z hz => absurd hz List.not_mem_nil, by decide +kernel, by decide, gm 484 (by decide +kernel) rfl, List.mem_of_getElem? (i := 424) (by decide +kernel), rfl⟩
  rcases hfd1 h with ⟨e0, e1⟩ | h
  · subst e0
    subst e1
    exact ⟨[_], _, _, rfl, fun z hz => by
        cases List.mem_singleton.mp hz; exact ⟨(by decide), "java/lang/IndexOutOfBoundsException", gm 484 (by decide +kernel) rfl, by decide +kernel⟩, by decide +kernel, by decide, gm 485 (by decide +kernel) rfl, List.mem_of_getElem? (i := 493) (by decide +kernel), rfl⟩
  exact (hfd0 h).elim
theorem hh_Lw_keepAlive : ∀ E hp, hfd [("java/lang/IndexOutOfBoundsException", 21), ("java/lang/IllegalArgumentException", 25), ("java/lang/IllegalStateException", 29)] E = some hp → ∃ (pre : List ExceptionTableEntry) (x : ExceptionTableEntry) (suf : List ExceptionTableEntry), tableOf (mH M_Lw_keepAlive) = pre ++ x :: suf ∧ (∀ z ∈ pre, z.catchType ≠ 0 ∧ ∃ nm, Cond.classLink (mY M_Lw_keepAlive).cls z.catchType nm ∈ gtbl ∧ (E, nm) ∈ ncl) ∧ covers x 13 = true ∧ x.catchType ≠ 0 ∧ Cond.classLink (mY M_Lw_keepAlive).cls x.catchType E ∈ gtbl ∧ Cond.castable E E ∈ tables_1 ∧ x.handlerPc = hp := by
  intro E hp h
  rcases hfd1 h with ⟨e0, e1⟩ | h
  · subst e0
    subst e1
    exact ⟨[], _, _, rfl, fun z hz => absurd hz List.not_mem_nil, by decide +kernel, by decide, gm 484 (by decide +kernel) rfl, List.mem_of_getElem? (i := 424) (by decide +kernel), rfl⟩
  rcases hfd1 h with ⟨e0, e1⟩ | h
  · subst e0
    subst e1
    exact ⟨[_], _, _, rfl, fun z hz => by
        cases List.mem_singleton.mp hz; exact ⟨(by decide), "java/lang/IndexOutOfBoundsException", gm 484 (by decide +kernel) rfl, by decide +kernel⟩, by decide +kernel, by decide, gm 583 (by decide +kernel) rfl, List.mem_of_getElem? (i := 521) (by decide +kernel), rfl⟩
  rcases hfd1 h with ⟨e0, e1⟩ | h
  · subst e0
    subst e1
    exact ⟨[_, _], _, _, rfl, fun z hz => by
        rcases List.mem_cons.mp hz with e9 | hz2
        · cases e9; exact ⟨(by decide), "java/lang/IndexOutOfBoundsException", gm 484 (by decide +kernel) rfl, by decide +kernel⟩
        · cases List.mem_singleton.mp hz2; exact ⟨(by decide), "java/lang/IllegalArgumentException", gm 583 (by decide +kernel) rfl, by decide +kernel⟩, by decide +kernel, by decide, gm 485 (by decide +kernel) rfl, List.mem_of_getElem? (i := 493) (by decide +kernel), rfl⟩
  exact (hfd0 h).elim
theorem hh_Lw_punch : ∀ E hp, hfd [("java/lang/IndexOutOfBoundsException", 17), ("java/lang/IllegalArgumentException", 21), ("java/lang/IllegalStateException", 25)] E = some hp → ∃ (pre : List ExceptionTableEntry) (x : ExceptionTableEntry) (suf : List ExceptionTableEntry), tableOf (mH M_Lw_punch) = pre ++ x :: suf ∧ (∀ z ∈ pre, z.catchType ≠ 0 ∧ ∃ nm, Cond.classLink (mY M_Lw_punch).cls z.catchType nm ∈ gtbl ∧ (E, nm) ∈ ncl) ∧ covers x 9 = true ∧ x.catchType ≠ 0 ∧ Cond.classLink (mY M_Lw_punch).cls x.catchType E ∈ gtbl ∧ Cond.castable E E ∈ tables_1 ∧ x.handlerPc = hp := by
  intro E hp h
  rcases hfd1 h with ⟨e0, e1⟩ | h
  · subst e0
    subst e1
    exact ⟨[], _, _, rfl, fun z hz => absurd hz List.not_mem_nil, by decide +kernel, by decide, gm 484 (by decide +kernel) rfl, List.mem_of_getElem? (i := 424) (by decide +kernel), rfl⟩
  rcases hfd1 h with ⟨e0, e1⟩ | h
  · subst e0
    subst e1
    exact ⟨[_], _, _, rfl, fun z hz => by
        cases List.mem_singleton.mp hz; exact ⟨(by decide), "java/lang/IndexOutOfBoundsException", gm 484 (by decide +kernel) rfl, by decide +kernel⟩, by decide +kernel, by decide, gm 583 (by decide +kernel) rfl, List.mem_of_getElem? (i := 521) (by decide +kernel), rfl⟩
  rcases hfd1 h with ⟨e0, e1⟩ | h
  · subst e0
    subst e1
    exact ⟨[_, _], _, _, rfl, fun z hz => by
        rcases List.mem_cons.mp hz with e9 | hz2
        · cases e9; exact ⟨(by decide), "java/lang/IndexOutOfBoundsException", gm 484 (by decide +kernel) rfl, by decide +kernel⟩
        · cases List.mem_singleton.mp hz2; exact ⟨(by decide), "java/lang/IllegalArgumentException", gm 583 (by decide +kernel) rfl, by decide +kernel⟩, by decide +kernel, by decide, gm 485 (by decide +kernel) rfl, List.mem_of_getElem? (i := 493) (by decide +kernel), rfl⟩
  exact (hfd0 h).elim
theorem hh_Lw_ifSent : ∀ E hp, hfd [("java/lang/IndexOutOfBoundsException", 17), ("java/lang/IllegalArgumentException", 21)] E = some hp → ∃ (pre : List ExceptionTableEntry) (x : ExceptionTableEntry) (suf : List ExceptionTableEntry), tableOf (mH M_Lw_ifSent) = pre ++ x :: suf ∧ (∀ z ∈ pre, z.catchType ≠ 0 ∧ ∃ nm, Cond.classLink (mY M_Lw_ifSent).cls z.catchType nm ∈ gtbl ∧ (E, nm) ∈ ncl) ∧ covers x 9 = true ∧ x.catchType ≠ 0 ∧ Cond.classLink (mY M_Lw_ifSent).cls x.catchType E ∈ gtbl ∧ Cond.castable E E ∈ tables_1 ∧ x.handlerPc = hp := by
  intro E hp h
  rcases hfd1 h with ⟨e0, e1⟩ | h
  · subst e0
    subst e1
    exact ⟨[], _, _, rfl, fun z hz => absurd hz List.not_mem_nil, by decide +kernel, by decide, gm 484 (by decide +kernel) rfl, List.mem_of_getElem? (i := 424) (by decide +kernel), rfl⟩
  rcases hfd1 h with ⟨e0, e1⟩ | h
  · subst e0
    subst e1
    exact ⟨[_], _, _, rfl, fun z hz => by
        cases List.mem_singleton.mp hz; exact ⟨(by decide), "java/lang/IndexOutOfBoundsException", gm 484 (by decide +kernel) rfl, by decide +kernel⟩, by decide +kernel, by decide, gm 583 (by decide +kernel) rfl, List.mem_of_getElem? (i := 521) (by decide +kernel), rfl⟩
  exact (hfd0 h).elim
theorem hh_Lw_count : ∀ E hp, hfd [("java/lang/IllegalArgumentException", 12)] E = some hp → ∃ (pre : List ExceptionTableEntry) (x : ExceptionTableEntry) (suf : List ExceptionTableEntry), tableOf (mH M_Lw_count) = pre ++ x :: suf ∧ (∀ z ∈ pre, z.catchType ≠ 0 ∧ ∃ nm, Cond.classLink (mY M_Lw_count).cls z.catchType nm ∈ gtbl ∧ (E, nm) ∈ ncl) ∧ covers x 4 = true ∧ x.catchType ≠ 0 ∧ Cond.classLink (mY M_Lw_count).cls x.catchType E ∈ gtbl ∧ Cond.castable E E ∈ tables_1 ∧ x.handlerPc = hp := by
  intro E hp h
  rcases hfd1 h with ⟨e0, e1⟩ | h
  · subst e0
    subst e1
    exact ⟨[], _, _, rfl, fun z hz => absurd hz List.not_mem_nil, by decide +kernel, by decide, gm 583 (by decide +kernel) rfl, List.mem_of_getElem? (i := 521) (by decide +kernel), rfl⟩
  exact (hfd0 h).elim
theorem hh_Lw_node : ∀ E hp, hfd [("java/lang/IndexOutOfBoundsException", 13), ("java/lang/IllegalArgumentException", 17)] E = some hp → ∃ (pre : List ExceptionTableEntry) (x : ExceptionTableEntry) (suf : List ExceptionTableEntry), tableOf (mH M_Lw_node) = pre ++ x :: suf ∧ (∀ z ∈ pre, z.catchType ≠ 0 ∧ ∃ nm, Cond.classLink (mY M_Lw_node).cls z.catchType nm ∈ gtbl ∧ (E, nm) ∈ ncl) ∧ covers x 5 = true ∧ x.catchType ≠ 0 ∧ Cond.classLink (mY M_Lw_node).cls x.catchType E ∈ gtbl ∧ Cond.castable E E ∈ tables_1 ∧ x.handlerPc = hp := by
  intro E hp h
  rcases hfd1 h with ⟨e0, e1⟩ | h
  · subst e0
    subst e1
    exact ⟨[], _, _, rfl, fun z hz => absurd hz List.not_mem_nil, by decide +kernel, by decide, gm 484 (by decide +kernel) rfl, List.mem_of_getElem? (i := 424) (by decide +kernel), rfl⟩
  rcases hfd1 h with ⟨e0, e1⟩ | h
  · subst e0
    subst e1
    exact ⟨[_], _, _, rfl, fun z hz => by
        cases List.mem_singleton.mp hz; exact ⟨(by decide), "java/lang/IndexOutOfBoundsException", gm 484 (by decide +kernel) rfl, by decide +kernel⟩, by decide +kernel, by decide, gm 583 (by decide +kernel) rfl, List.mem_of_getElem? (i := 521) (by decide +kernel), rfl⟩
  exact (hfd0 h).elim
theorem hh_Lw_translator : ∀ E hp, hfd [("java/lang/IndexOutOfBoundsException", 13), ("java/lang/IllegalArgumentException", 17)] E = some hp → ∃ (pre : List ExceptionTableEntry) (x : ExceptionTableEntry) (suf : List ExceptionTableEntry), tableOf (mH M_Lw_translator) = pre ++ x :: suf ∧ (∀ z ∈ pre, z.catchType ≠ 0 ∧ ∃ nm, Cond.classLink (mY M_Lw_translator).cls z.catchType nm ∈ gtbl ∧ (E, nm) ∈ ncl) ∧ covers x 5 = true ∧ x.catchType ≠ 0 ∧ Cond.classLink (mY M_Lw_translator).cls x.catchType E ∈ gtbl ∧ Cond.castable E E ∈ tables_1 ∧ x.handlerPc = hp := by
  intro E hp h
  rcases hfd1 h with ⟨e0, e1⟩ | h
  · subst e0
    subst e1
    exact ⟨[], _, _, rfl, fun z hz => absurd hz List.not_mem_nil, by decide +kernel, by decide, gm 484 (by decide +kernel) rfl, List.mem_of_getElem? (i := 424) (by decide +kernel), rfl⟩
  rcases hfd1 h with ⟨e0, e1⟩ | h
  · subst e0
    subst e1
    exact ⟨[_], _, _, rfl, fun z hz => by
        cases List.mem_singleton.mp hz; exact ⟨(by decide), "java/lang/IndexOutOfBoundsException", gm 484 (by decide +kernel) rfl, by decide +kernel⟩, by decide +kernel, by decide, gm 583 (by decide +kernel) rfl, List.mem_of_getElem? (i := 521) (by decide +kernel), rfl⟩
  exact (hfd0 h).elim
theorem hh_Lw_mapping : ∀ E hp, hfd [("java/lang/IndexOutOfBoundsException", 15), ("java/lang/IllegalArgumentException", 19)] E = some hp → ∃ (pre : List ExceptionTableEntry) (x : ExceptionTableEntry) (suf : List ExceptionTableEntry), tableOf (mH M_Lw_mapping) = pre ++ x :: suf ∧ (∀ z ∈ pre, z.catchType ≠ 0 ∧ ∃ nm, Cond.classLink (mY M_Lw_mapping).cls z.catchType nm ∈ gtbl ∧ (E, nm) ∈ ncl) ∧ covers x 7 = true ∧ x.catchType ≠ 0 ∧ Cond.classLink (mY M_Lw_mapping).cls x.catchType E ∈ gtbl ∧ Cond.castable E E ∈ tables_1 ∧ x.handlerPc = hp := by
  intro E hp h
  rcases hfd1 h with ⟨e0, e1⟩ | h
  · subst e0
    subst e1
    exact ⟨[], _, _, rfl, fun z hz => absurd hz List.not_mem_nil, by decide +kernel, by decide, gm 484 (by decide +kernel) rfl, List.mem_of_getElem? (i := 424) (by decide +kernel), rfl⟩
  rcases hfd1 h with ⟨e0, e1⟩ | h
  · subst e0
    subst e1
    exact ⟨[_], _, _, rfl, fun z hz => by
        cases List.mem_singleton.mp hz; exact ⟨(by decide), "java/lang/IndexOutOfBoundsException", gm 484 (by decide +kernel) rfl, by decide +kernel⟩, by decide +kernel, by decide, gm 583 (by decide +kernel) rfl, List.mem_of_getElem? (i := 521) (by decide +kernel), rfl⟩
  exact (hfd0 h).elim
theorem hh_Lw_timeLeft : ∀ E hp, hfd [("java/lang/IndexOutOfBoundsException", 17), ("java/lang/IllegalArgumentException", 21)] E = some hp → ∃ (pre : List ExceptionTableEntry) (x : ExceptionTableEntry) (suf : List ExceptionTableEntry), tableOf (mH M_Lw_timeLeft) = pre ++ x :: suf ∧ (∀ z ∈ pre, z.catchType ≠ 0 ∧ ∃ nm, Cond.classLink (mY M_Lw_timeLeft).cls z.catchType nm ∈ gtbl ∧ (E, nm) ∈ ncl) ∧ covers x 9 = true ∧ x.catchType ≠ 0 ∧ Cond.classLink (mY M_Lw_timeLeft).cls x.catchType E ∈ gtbl ∧ Cond.castable E E ∈ tables_1 ∧ x.handlerPc = hp := by
  intro E hp h
  rcases hfd1 h with ⟨e0, e1⟩ | h
  · subst e0
    subst e1
    exact ⟨[], _, _, rfl, fun z hz => absurd hz List.not_mem_nil, by decide +kernel, by decide, gm 484 (by decide +kernel) rfl, List.mem_of_getElem? (i := 424) (by decide +kernel), rfl⟩
  rcases hfd1 h with ⟨e0, e1⟩ | h
  · subst e0
    subst e1
    exact ⟨[_], _, _, rfl, fun z hz => by
        cases List.mem_singleton.mp hz; exact ⟨(by decide), "java/lang/IndexOutOfBoundsException", gm 484 (by decide +kernel) rfl, by decide +kernel⟩, by decide +kernel, by decide, gm 583 (by decide +kernel) rfl, List.mem_of_getElem? (i := 521) (by decide +kernel), rfl⟩
  exact (hfd0 h).elim
theorem hh_Lw_common : ∀ E hp, hfd [("java/lang/IndexOutOfBoundsException", 13)] E = some hp → ∃ (pre : List ExceptionTableEntry) (x : ExceptionTableEntry) (suf : List ExceptionTableEntry), tableOf (mH M_Lw_common) = pre ++ x :: suf ∧ (∀ z ∈ pre, z.catchType ≠ 0 ∧ ∃ nm, Cond.classLink (mY M_Lw_common).cls z.catchType nm ∈ gtbl ∧ (E, nm) ∈ ncl) ∧ covers x 5 = true ∧ x.catchType ≠ 0 ∧ Cond.classLink (mY M_Lw_common).cls x.catchType E ∈ gtbl ∧ Cond.castable E E ∈ tables_1 ∧ x.handlerPc = hp := by
  intro E hp h
  rcases hfd1 h with ⟨e0, e1⟩ | h
  · subst e0
    subst e1
    exact ⟨[], _, _, rfl, fun z hz => absurd hz List.not_mem_nil, by decide +kernel, by decide, gm 484 (by decide +kernel) rfl, List.mem_of_getElem? (i := 424) (by decide +kernel), rfl⟩
  exact (hfd0 h).elim
def k_Lw_addHost (l : Launch) (G : Gc) (pc : Nat) : Tr :=
  if pc < 12 then
   if pc < 4 then
    if pc < 2 then
     if pc < 1 then
      if pc = 0 then tz_aload 1 2 else dead
     else
      if pc = 1 then tz_const 2 (.int (nI 0)) else dead
    else
     if pc < 3 then
      if pc = 2 then tz_aload 3 0 else dead
     else
      if pc = 3 then tz_iload 4 1 else dead
   else
    if pc < 8 then
     if pc < 7 then
      if pc = 4 then tz_callVH l G M_Lw_addHost 7 M_Hp_addHost 1 6 [("java/lang/IndexOutOfBoundsException", 12), ("java/lang/IllegalStateException", 15)] else dead
     else
      if pc = 7 then tz_i2l 8 else dead
    else
     if pc < 9 then
      if pc = 8 then tz_lastore 9 else dead
     else
      if pc = 9 then tz_goto 18 else dead
  else
   if pc < 16 then
    if pc < 14 then
     if pc < 13 then
      if pc = 12 then tz_astore 13 3 else dead
     else
      if pc = 13 then tz_const 14 (.int (nI 1)) else dead
    else
     if pc < 15 then
      if pc = 14 then tz_iret else dead
     else
      if pc = 15 then tz_astore 16 3 else dead
   else
    if pc < 18 then
     if pc < 17 then
      if pc = 16 then tz_const 17 (.int (nI 2)) else dead
     else
      if pc = 17 then tz_iret else dead
    else
     if pc < 19 then
      if pc = 18 then tz_const 19 (.int (nI 0)) else dead
     else
      if pc = 19 then tz_iret else dead
set_option maxRecDepth 100000 in
theorem T_Lw_addHost (l : Launch) (G : Gc) : TabOK l G M_Lw_addHost (k_Lw_addHost l G) := by
  intro pc
  unfold k_Lw_addHost
  exact
   (sd_br
    (sd_br
     (sd_br
      (sd_br
       (sd_lf (sd_aload_n (k := 2) (by decide +kernel : decode method_3_code 0 = .ok (.aload_n 2, 1))))
       (sd_lf (sd_iconst (by decide +kernel : decode method_3_code 1 = .ok (.iconst 0, 1)) (by decide +kernel))))
      (sd_br
       (sd_lf (sd_aload_n (k := 0) (by decide +kernel : decode method_3_code 2 = .ok (.aload_n 0, 1))))
       (sd_lf (sd_iload_n (k := 1) (by decide +kernel : decode method_3_code 3 = .ok (.iload_n 1, 1))))))
     (sd_br
      (sd_br
       (sd_lf (sd_callVH (q := (RX6, TX6, 7)) (by decide +kernel : decode method_3_code 4 = .ok (.invokevirtual 7, 3)) ok_Hp_addHost (gm 486 (by decide +kernel) rfl) (gm 487 (by decide +kernel) rfl) (gm 488 (by decide +kernel) rfl) rfl rfl (by decide +kernel) rfl (hh_Lw_addHost)))
       (sd_lf (sd_i2l (by decide +kernel : decode method_3_code 7 = .ok (.i2l, 1)))))
      (sd_br
       (sd_lf (sd_lastore (by decide +kernel : decode method_3_code 8 = .ok (.lastore, 1))))
       (sd_lf (sd_goto (by decide +kernel : decode method_3_code 9 = .ok (.goto 9, 3)) (by decide +kernel))))))
    (sd_br
     (sd_br
      (sd_br
       (sd_lf (sd_astore_n (k := 3) (by decide +kernel : decode method_3_code 12 = .ok (.astore_n 3, 1))))
       (sd_lf (sd_iconst (by decide +kernel : decode method_3_code 13 = .ok (.iconst 1, 1)) (by decide +kernel))))
      (sd_br
       (sd_lf (sd_iret (by decide +kernel : decode method_3_code 14 = .ok (.ireturn, 1)) rfl))
       (sd_lf (sd_astore_n (k := 3) (by decide +kernel : decode method_3_code 15 = .ok (.astore_n 3, 1))))))
     (sd_br
      (sd_br
       (sd_lf (sd_iconst (by decide +kernel : decode method_3_code 16 = .ok (.iconst 2, 1)) (by decide +kernel)))
       (sd_lf (sd_iret (by decide +kernel : decode method_3_code 17 = .ok (.ireturn, 1)) rfl)))
      (sd_br
       (sd_lf (sd_iconst (by decide +kernel : decode method_3_code 18 = .ok (.iconst 0, 1)) (by decide +kernel)))
       (sd_lf (sd_iret (by decide +kernel : decode method_3_code 19 = .ok (.ireturn, 1)) rfl))))))
def k_Lw_addTranslator (l : Launch) (G : Gc) (pc : Nat) : Tr :=
  if pc < 17 then
   if pc < 6 then
    if pc < 3 then
     if pc < 2 then
      if pc = 0 then tz_aload 2 5 else dead
     else
      if pc = 2 then tz_const 3 (.int (nI 0)) else dead
    else
     if pc < 4 then
      if pc = 3 then tz_aload 4 0 else dead
     else
      if pc < 5 then
       if pc = 4 then tz_iload 5 1 else dead
      else
       if pc = 5 then tz_iload 6 2 else dead
   else
    if pc < 12 then
     if pc < 7 then
      if pc = 6 then tz_iload 7 3 else dead
     else
      if pc < 9 then
       if pc = 7 then tz_iload 9 4 else dead
      else
       if pc = 9 then tz_callVH l G M_Lw_addTranslator 12 M_Hp_addTranslator 4 6 [("java/lang/IndexOutOfBoundsException", 17), ("java/lang/IllegalArgumentException", 21), ("java/lang/IllegalStateException", 25)] else dead
    else
     if pc < 13 then
      if pc = 12 then tz_i2l 13 else dead
     else
      if pc < 14 then
       if pc = 13 then tz_lastore 14 else dead
      else
       if pc = 14 then tz_goto 29 else dead
  else
   if pc < 24 then
    if pc < 20 then
     if pc < 19 then
      if pc = 17 then tz_astore 19 6 else dead
     else
      if pc = 19 then tz_const 20 (.int (nI 1)) else dead
    else
     if pc < 21 then
      if pc = 20 then tz_iret else dead
     else
      if pc < 23 then
       if pc = 21 then tz_astore 23 6 else dead
      else
       if pc = 23 then tz_const 24 (.int (nI 2)) else dead
   else
    if pc < 28 then
     if pc < 25 then
      if pc = 24 then tz_iret else dead
     else
      if pc < 27 then
       if pc = 25 then tz_astore 27 6 else dead
      else
       if pc = 27 then tz_const 28 (.int (nI 3)) else dead
    else
     if pc < 29 then
      if pc = 28 then tz_iret else dead
     else
      if pc < 30 then
       if pc = 29 then tz_const 30 (.int (nI 0)) else dead
      else
       if pc = 30 then tz_iret else dead
set_option maxRecDepth 100000 in
theorem T_Lw_addTranslator (l : Launch) (G : Gc) : TabOK l G M_Lw_addTranslator (k_Lw_addTranslator l G) := by
  intro pc
  unfold k_Lw_addTranslator
  exact
   (sd_br
    (sd_br
     (sd_br
      (sd_br
       (sd_lf (sd_aload (by decide +kernel : decode method_4_code 0 = .ok (.aload 5, 2))))
       (sd_lf (sd_iconst (by decide +kernel : decode method_4_code 2 = .ok (.iconst 0, 1)) (by decide +kernel))))
      (sd_br
       (sd_lf (sd_aload_n (k := 0) (by decide +kernel : decode method_4_code 3 = .ok (.aload_n 0, 1))))
       (sd_br
        (sd_lf (sd_iload_n (k := 1) (by decide +kernel : decode method_4_code 4 = .ok (.iload_n 1, 1))))
        (sd_lf (sd_iload_n (k := 2) (by decide +kernel : decode method_4_code 5 = .ok (.iload_n 2, 1)))))))
     (sd_br
      (sd_br
       (sd_lf (sd_iload_n (k := 3) (by decide +kernel : decode method_4_code 6 = .ok (.iload_n 3, 1))))
       (sd_br
        (sd_lf (sd_iload (by decide +kernel : decode method_4_code 7 = .ok (.iload 4, 2))))
        (sd_lf (sd_callVH (q := (RX6, TX6, 7)) (by decide +kernel : decode method_4_code 9 = .ok (.invokevirtual 17, 3)) ok_Hp_addTranslator (gm 584 (by decide +kernel) rfl) (gm 585 (by decide +kernel) rfl) (gm 586 (by decide +kernel) rfl) rfl rfl (by decide +kernel) rfl (hh_Lw_addTranslator)))))
      (sd_br
       (sd_lf (sd_i2l (by decide +kernel : decode method_4_code 12 = .ok (.i2l, 1))))
       (sd_br
        (sd_lf (sd_lastore (by decide +kernel : decode method_4_code 13 = .ok (.lastore, 1))))
        (sd_lf (sd_goto (by decide +kernel : decode method_4_code 14 = .ok (.goto 15, 3)) (by decide +kernel)))))))
    (sd_br
     (sd_br
      (sd_br
       (sd_lf (sd_astore (by decide +kernel : decode method_4_code 17 = .ok (.astore 6, 2))))
       (sd_lf (sd_iconst (by decide +kernel : decode method_4_code 19 = .ok (.iconst 1, 1)) (by decide +kernel))))
      (sd_br
       (sd_lf (sd_iret (by decide +kernel : decode method_4_code 20 = .ok (.ireturn, 1)) rfl))
       (sd_br
        (sd_lf (sd_astore (by decide +kernel : decode method_4_code 21 = .ok (.astore 6, 2))))
        (sd_lf (sd_iconst (by decide +kernel : decode method_4_code 23 = .ok (.iconst 2, 1)) (by decide +kernel))))))
     (sd_br
      (sd_br
       (sd_lf (sd_iret (by decide +kernel : decode method_4_code 24 = .ok (.ireturn, 1)) rfl))
       (sd_br
        (sd_lf (sd_astore (by decide +kernel : decode method_4_code 25 = .ok (.astore 6, 2))))
        (sd_lf (sd_iconst (by decide +kernel : decode method_4_code 27 = .ok (.iconst 3, 1)) (by decide +kernel)))))
      (sd_br
       (sd_lf (sd_iret (by decide +kernel : decode method_4_code 28 = .ok (.ireturn, 1)) rfl))
       (sd_br
        (sd_lf (sd_iconst (by decide +kernel : decode method_4_code 29 = .ok (.iconst 0, 1)) (by decide +kernel)))
        (sd_lf (sd_iret (by decide +kernel : decode method_4_code 30 = .ok (.ireturn, 1)) rfl)))))))
def k_Lw_setNumber (l : Launch) (G : Gc) (pc : Nat) : Tr :=
  if pc < 12 then
   if pc < 5 then
    if pc < 3 then
     if pc < 2 then
      if pc = 0 then tz_aload 2 4 else dead
     else
      if pc = 2 then tz_const 3 (.int (nI 0)) else dead
    else
     if pc < 4 then
      if pc = 3 then tz_aload 4 0 else dead
     else
      if pc = 4 then tz_iload 5 1 else dead
   else
    if pc < 7 then
     if pc < 6 then
      if pc = 5 then tz_iload 6 2 else dead
     else
      if pc = 6 then tz_iload 7 3 else dead
    else
     if pc < 10 then
      if pc = 7 then tz_callVH l G M_Lw_setNumber 10 M_Hp_setNumber 3 6 [("java/lang/IndexOutOfBoundsException", 15), ("java/lang/IllegalArgumentException", 19)] else dead
     else
      if pc < 11 then
       if pc = 10 then tz_i2l 11 else dead
      else
       if pc = 11 then tz_lastore 12 else dead
  else
   if pc < 19 then
    if pc < 17 then
     if pc < 15 then
      if pc = 12 then tz_goto 23 else dead
     else
      if pc = 15 then tz_astore 17 5 else dead
    else
     if pc < 18 then
      if pc = 17 then tz_const 18 (.int (nI 1)) else dead
     else
      if pc = 18 then tz_iret else dead
   else
    if pc < 22 then
     if pc < 21 then
      if pc = 19 then tz_astore 21 5 else dead
     else
      if pc = 21 then tz_const 22 (.int (nI 2)) else dead
    else
     if pc < 23 then
      if pc = 22 then tz_iret else dead
     else
      if pc < 24 then
       if pc = 23 then tz_const 24 (.int (nI 0)) else dead
      else
       if pc = 24 then tz_iret else dead
set_option maxRecDepth 100000 in
theorem T_Lw_setNumber (l : Launch) (G : Gc) : TabOK l G M_Lw_setNumber (k_Lw_setNumber l G) := by
  intro pc
  unfold k_Lw_setNumber
  exact
   (sd_br
    (sd_br
     (sd_br
      (sd_br
       (sd_lf (sd_aload (by decide +kernel : decode method_5_code 0 = .ok (.aload 4, 2))))
       (sd_lf (sd_iconst (by decide +kernel : decode method_5_code 2 = .ok (.iconst 0, 1)) (by decide +kernel))))
      (sd_br
       (sd_lf (sd_aload_n (k := 0) (by decide +kernel : decode method_5_code 3 = .ok (.aload_n 0, 1))))
       (sd_lf (sd_iload_n (k := 1) (by decide +kernel : decode method_5_code 4 = .ok (.iload_n 1, 1))))))
     (sd_br
      (sd_br
       (sd_lf (sd_iload_n (k := 2) (by decide +kernel : decode method_5_code 5 = .ok (.iload_n 2, 1))))
       (sd_lf (sd_iload_n (k := 3) (by decide +kernel : decode method_5_code 6 = .ok (.iload_n 3, 1)))))
      (sd_br
       (sd_lf (sd_callVH (q := (RX6, TX6, 7)) (by decide +kernel : decode method_5_code 7 = .ok (.invokevirtual 23, 3)) ok_Hp_setNumber (gm 611 (by decide +kernel) rfl) (gm 612 (by decide +kernel) rfl) (gm 613 (by decide +kernel) rfl) rfl rfl (by decide +kernel) rfl (hh_Lw_setNumber)))
       (sd_br
        (sd_lf (sd_i2l (by decide +kernel : decode method_5_code 10 = .ok (.i2l, 1))))
        (sd_lf (sd_lastore (by decide +kernel : decode method_5_code 11 = .ok (.lastore, 1))))))))
    (sd_br
     (sd_br
      (sd_br
       (sd_lf (sd_goto (by decide +kernel : decode method_5_code 12 = .ok (.goto 11, 3)) (by decide +kernel)))
       (sd_lf (sd_astore (by decide +kernel : decode method_5_code 15 = .ok (.astore 5, 2)))))
      (sd_br
       (sd_lf (sd_iconst (by decide +kernel : decode method_5_code 17 = .ok (.iconst 1, 1)) (by decide +kernel)))
       (sd_lf (sd_iret (by decide +kernel : decode method_5_code 18 = .ok (.ireturn, 1)) rfl))))
     (sd_br
      (sd_br
       (sd_lf (sd_astore (by decide +kernel : decode method_5_code 19 = .ok (.astore 5, 2))))
       (sd_lf (sd_iconst (by decide +kernel : decode method_5_code 21 = .ok (.iconst 2, 1)) (by decide +kernel))))
      (sd_br
       (sd_lf (sd_iret (by decide +kernel : decode method_5_code 22 = .ok (.ireturn, 1)) rfl))
       (sd_br
        (sd_lf (sd_iconst (by decide +kernel : decode method_5_code 23 = .ok (.iconst 0, 1)) (by decide +kernel)))
        (sd_lf (sd_iret (by decide +kernel : decode method_5_code 24 = .ok (.ireturn, 1)) rfl)))))))
def k_Lw_pass (l : Launch) (G : Gc) (pc : Nat) : Tr :=
  if pc < 12 then
   if pc < 4 then
    if pc < 2 then
     if pc < 1 then
      if pc = 0 then tz_aload 1 2 else dead
     else
      if pc = 1 then tz_const 2 (.int (nI 0)) else dead
    else
     if pc < 3 then
      if pc = 2 then tz_aload 3 0 else dead
     else
      if pc = 3 then tz_iload 4 1 else dead
   else
    if pc < 8 then
     if pc < 7 then
      if pc = 4 then tz_callVH l G M_Lw_pass 7 M_Hp_pass 1 6 [("java/lang/IllegalArgumentException", 12), ("java/lang/IllegalStateException", 15)] else dead
     else
      if pc = 7 then tz_i2l 8 else dead
    else
     if pc < 9 then
      if pc = 8 then tz_lastore 9 else dead
     else
      if pc = 9 then tz_goto 18 else dead
  else
   if pc < 16 then
    if pc < 14 then
     if pc < 13 then
      if pc = 12 then tz_astore 13 3 else dead
     else
      if pc = 13 then tz_const 14 (.int (nI 1)) else dead
    else
     if pc < 15 then
      if pc = 14 then tz_iret else dead
     else
      if pc = 15 then tz_astore 16 3 else dead
   else
    if pc < 18 then
     if pc < 17 then
      if pc = 16 then tz_const 17 (.int (nI 2)) else dead
     else
      if pc = 17 then tz_iret else dead
    else
     if pc < 19 then
      if pc = 18 then tz_const 19 (.int (nI 0)) else dead
     else
      if pc = 19 then tz_iret else dead
set_option maxRecDepth 100000 in
theorem T_Lw_pass (l : Launch) (G : Gc) : TabOK l G M_Lw_pass (k_Lw_pass l G) := by
  intro pc
  unfold k_Lw_pass
  exact
   (sd_br
    (sd_br
     (sd_br
      (sd_br
       (sd_lf (sd_aload_n (k := 2) (by decide +kernel : decode method_6_code 0 = .ok (.aload_n 2, 1))))
       (sd_lf (sd_iconst (by decide +kernel : decode method_6_code 1 = .ok (.iconst 0, 1)) (by decide +kernel))))
      (sd_br
       (sd_lf (sd_aload_n (k := 0) (by decide +kernel : decode method_6_code 2 = .ok (.aload_n 0, 1))))
       (sd_lf (sd_iload_n (k := 1) (by decide +kernel : decode method_6_code 3 = .ok (.iload_n 1, 1))))))
     (sd_br
      (sd_br
       (sd_lf (sd_callVH (q := (RX6, TX6, 7)) (by decide +kernel : decode method_6_code 4 = .ok (.invokevirtual 27, 3)) ok_Hp_pass (gm 633 (by decide +kernel) rfl) (gm 634 (by decide +kernel) rfl) (gm 635 (by decide +kernel) rfl) rfl rfl (by decide +kernel) rfl (hh_Lw_pass)))
       (sd_lf (sd_i2l (by decide +kernel : decode method_6_code 7 = .ok (.i2l, 1)))))
      (sd_br
       (sd_lf (sd_lastore (by decide +kernel : decode method_6_code 8 = .ok (.lastore, 1))))
       (sd_lf (sd_goto (by decide +kernel : decode method_6_code 9 = .ok (.goto 9, 3)) (by decide +kernel))))))
    (sd_br
     (sd_br
      (sd_br
       (sd_lf (sd_astore_n (k := 3) (by decide +kernel : decode method_6_code 12 = .ok (.astore_n 3, 1))))
       (sd_lf (sd_iconst (by decide +kernel : decode method_6_code 13 = .ok (.iconst 1, 1)) (by decide +kernel))))
      (sd_br
       (sd_lf (sd_iret (by decide +kernel : decode method_6_code 14 = .ok (.ireturn, 1)) rfl))
       (sd_lf (sd_astore_n (k := 3) (by decide +kernel : decode method_6_code 15 = .ok (.astore_n 3, 1))))))
     (sd_br
      (sd_br
       (sd_lf (sd_iconst (by decide +kernel : decode method_6_code 16 = .ok (.iconst 2, 1)) (by decide +kernel)))
       (sd_lf (sd_iret (by decide +kernel : decode method_6_code 17 = .ok (.ireturn, 1)) rfl)))
      (sd_br
       (sd_lf (sd_iconst (by decide +kernel : decode method_6_code 18 = .ok (.iconst 0, 1)) (by decide +kernel)))
       (sd_lf (sd_iret (by decide +kernel : decode method_6_code 19 = .ok (.ireturn, 1)) rfl))))))
def k_Lw_restore (l : Launch) (G : Gc) (pc : Nat) : Tr :=
  if pc < 8 then
   if pc < 3 then
    if pc < 1 then
     if pc = 0 then tz_aload 1 1 else dead
    else
     if pc < 2 then
      if pc = 1 then tz_const 2 (.int (nI 0)) else dead
     else
      if pc = 2 then tz_aload 3 0 else dead
   else
    if pc < 6 then
     if pc = 3 then tz_callVH l G M_Lw_restore 6 M_Hp_restore 0 6 [("java/lang/IllegalStateException", 11)] else dead
    else
     if pc < 7 then
      if pc = 6 then tz_i2l 7 else dead
     else
      if pc = 7 then tz_lastore 8 else dead
  else
   if pc < 13 then
    if pc < 11 then
     if pc = 8 then tz_goto 14 else dead
    else
     if pc < 12 then
      if pc = 11 then tz_astore 12 2 else dead
     else
      if pc = 12 then tz_const 13 (.int (nI 1)) else dead
   else
    if pc < 14 then
     if pc = 13 then tz_iret else dead
    else
     if pc < 15 then
      if pc = 14 then tz_const 15 (.int (nI 0)) else dead
     else
      if pc = 15 then tz_iret else dead
set_option maxRecDepth 100000 in
theorem T_Lw_restore (l : Launch) (G : Gc) : TabOK l G M_Lw_restore (k_Lw_restore l G) := by
  intro pc
  unfold k_Lw_restore
  exact
   (sd_br
    (sd_br
     (sd_br
      (sd_lf (sd_aload_n (k := 1) (by decide +kernel : decode method_7_code 0 = .ok (.aload_n 1, 1))))
      (sd_br
       (sd_lf (sd_iconst (by decide +kernel : decode method_7_code 1 = .ok (.iconst 0, 1)) (by decide +kernel)))
       (sd_lf (sd_aload_n (k := 0) (by decide +kernel : decode method_7_code 2 = .ok (.aload_n 0, 1))))))
     (sd_br
      (sd_lf (sd_callVH (q := (RX6, TX6, 7)) (by decide +kernel : decode method_7_code 3 = .ok (.invokevirtual 30, 3)) ok_Hp_restore (gm 648 (by decide +kernel) rfl) (gm 649 (by decide +kernel) rfl) (gm 650 (by decide +kernel) rfl) rfl rfl (by decide +kernel) rfl (hh_Lw_restore)))
      (sd_br
       (sd_lf (sd_i2l (by decide +kernel : decode method_7_code 6 = .ok (.i2l, 1))))
       (sd_lf (sd_lastore (by decide +kernel : decode method_7_code 7 = .ok (.lastore, 1)))))))
    (sd_br
     (sd_br
      (sd_lf (sd_goto (by decide +kernel : decode method_7_code 8 = .ok (.goto 6, 3)) (by decide +kernel)))
      (sd_br
       (sd_lf (sd_astore_n (k := 2) (by decide +kernel : decode method_7_code 11 = .ok (.astore_n 2, 1))))
       (sd_lf (sd_iconst (by decide +kernel : decode method_7_code 12 = .ok (.iconst 1, 1)) (by decide +kernel)))))
     (sd_br
      (sd_lf (sd_iret (by decide +kernel : decode method_7_code 13 = .ok (.ireturn, 1)) rfl))
      (sd_br
       (sd_lf (sd_iconst (by decide +kernel : decode method_7_code 14 = .ok (.iconst 0, 1)) (by decide +kernel)))
       (sd_lf (sd_iret (by decide +kernel : decode method_7_code 15 = .ok (.ireturn, 1)) rfl))))))
def k_Lw_append (l : Launch) (G : Gc) (pc : Nat) : Tr :=
  if pc < 12 then
   if pc < 4 then
    if pc < 2 then
     if pc < 1 then
      if pc = 0 then tz_aload 1 2 else dead
     else
      if pc = 1 then tz_const 2 (.int (nI 0)) else dead
    else
     if pc < 3 then
      if pc = 2 then tz_aload 3 0 else dead
     else
      if pc = 3 then tz_iload 4 1 else dead
   else
    if pc < 8 then
     if pc < 7 then
      if pc = 4 then tz_callVH l G M_Lw_append 7 M_Hp_append 1 6 [("java/lang/IllegalArgumentException", 12), ("java/lang/IllegalStateException", 15)] else dead
     else
      if pc = 7 then tz_i2l 8 else dead
    else
     if pc < 9 then
      if pc = 8 then tz_lastore 9 else dead
     else
      if pc = 9 then tz_goto 18 else dead
  else
   if pc < 16 then
    if pc < 14 then
     if pc < 13 then
      if pc = 12 then tz_astore 13 3 else dead
     else
      if pc = 13 then tz_const 14 (.int (nI 1)) else dead
    else
     if pc < 15 then
      if pc = 14 then tz_iret else dead
     else
      if pc = 15 then tz_astore 16 3 else dead
   else
    if pc < 18 then
     if pc < 17 then
      if pc = 16 then tz_const 17 (.int (nI 2)) else dead
     else
      if pc = 17 then tz_iret else dead
    else
     if pc < 19 then
      if pc = 18 then tz_const 19 (.int (nI 0)) else dead
     else
      if pc = 19 then tz_iret else dead
set_option maxRecDepth 100000 in
theorem T_Lw_append (l : Launch) (G : Gc) : TabOK l G M_Lw_append (k_Lw_append l G) := by
  intro pc
  unfold k_Lw_append
  exact
   (sd_br
    (sd_br
     (sd_br
      (sd_br
       (sd_lf (sd_aload_n (k := 2) (by decide +kernel : decode method_8_code 0 = .ok (.aload_n 2, 1))))
       (sd_lf (sd_iconst (by decide +kernel : decode method_8_code 1 = .ok (.iconst 0, 1)) (by decide +kernel))))
      (sd_br
       (sd_lf (sd_aload_n (k := 0) (by decide +kernel : decode method_8_code 2 = .ok (.aload_n 0, 1))))
       (sd_lf (sd_iload_n (k := 1) (by decide +kernel : decode method_8_code 3 = .ok (.iload_n 1, 1))))))
     (sd_br
      (sd_br
       (sd_lf (sd_callVH (q := (RX6, TX6, 7)) (by decide +kernel : decode method_8_code 4 = .ok (.invokevirtual 34, 3)) ok_Hp_append (gm 656 (by decide +kernel) rfl) (gm 657 (by decide +kernel) rfl) (gm 658 (by decide +kernel) rfl) rfl rfl (by decide +kernel) rfl (hh_Lw_append)))
       (sd_lf (sd_i2l (by decide +kernel : decode method_8_code 7 = .ok (.i2l, 1)))))
      (sd_br
       (sd_lf (sd_lastore (by decide +kernel : decode method_8_code 8 = .ok (.lastore, 1))))
       (sd_lf (sd_goto (by decide +kernel : decode method_8_code 9 = .ok (.goto 9, 3)) (by decide +kernel))))))
    (sd_br
     (sd_br
      (sd_br
       (sd_lf (sd_astore_n (k := 3) (by decide +kernel : decode method_8_code 12 = .ok (.astore_n 3, 1))))
       (sd_lf (sd_iconst (by decide +kernel : decode method_8_code 13 = .ok (.iconst 1, 1)) (by decide +kernel))))
      (sd_br
       (sd_lf (sd_iret (by decide +kernel : decode method_8_code 14 = .ok (.ireturn, 1)) rfl))
       (sd_lf (sd_astore_n (k := 3) (by decide +kernel : decode method_8_code 15 = .ok (.astore_n 3, 1))))))
     (sd_br
      (sd_br
       (sd_lf (sd_iconst (by decide +kernel : decode method_8_code 16 = .ok (.iconst 2, 1)) (by decide +kernel)))
       (sd_lf (sd_iret (by decide +kernel : decode method_8_code 17 = .ok (.ireturn, 1)) rfl)))
      (sd_br
       (sd_lf (sd_iconst (by decide +kernel : decode method_8_code 18 = .ok (.iconst 0, 1)) (by decide +kernel)))
       (sd_lf (sd_iret (by decide +kernel : decode method_8_code 19 = .ok (.ireturn, 1)) rfl))))))
def k_Lw_load (l : Launch) (G : Gc) (pc : Nat) : Tr :=
  if pc < 8 then
   if pc < 3 then
    if pc < 1 then
     if pc = 0 then tz_aload 1 1 else dead
    else
     if pc < 2 then
      if pc = 1 then tz_const 2 (.int (nI 0)) else dead
     else
      if pc = 2 then tz_aload 3 0 else dead
   else
    if pc < 6 then
     if pc = 3 then tz_callVH l G M_Lw_load 6 M_Hp_load 0 6 [("java/lang/IllegalArgumentException", 11)] else dead
    else
     if pc < 7 then
      if pc = 6 then tz_i2l 7 else dead
     else
      if pc = 7 then tz_lastore 8 else dead
  else
   if pc < 13 then
    if pc < 11 then
     if pc = 8 then tz_goto 14 else dead
    else
     if pc < 12 then
      if pc = 11 then tz_astore 12 2 else dead
     else
      if pc = 12 then tz_const 13 (.int (nI 1)) else dead
   else
    if pc < 14 then
     if pc = 13 then tz_iret else dead
    else
     if pc < 15 then
      if pc = 14 then tz_const 15 (.int (nI 0)) else dead
     else
      if pc = 15 then tz_iret else dead
set_option maxRecDepth 100000 in
theorem T_Lw_load (l : Launch) (G : Gc) : TabOK l G M_Lw_load (k_Lw_load l G) := by
  intro pc
  unfold k_Lw_load
  exact
   (sd_br
    (sd_br
     (sd_br
      (sd_lf (sd_aload_n (k := 1) (by decide +kernel : decode method_9_code 0 = .ok (.aload_n 1, 1))))
      (sd_br
       (sd_lf (sd_iconst (by decide +kernel : decode method_9_code 1 = .ok (.iconst 0, 1)) (by decide +kernel)))
       (sd_lf (sd_aload_n (k := 0) (by decide +kernel : decode method_9_code 2 = .ok (.aload_n 0, 1))))))
     (sd_br
      (sd_lf (sd_callVH (q := (RX6, TX6, 7)) (by decide +kernel : decode method_9_code 3 = .ok (.invokevirtual 37, 3)) ok_Hp_load (gm 665 (by decide +kernel) rfl) (gm 666 (by decide +kernel) rfl) (gm 667 (by decide +kernel) rfl) rfl rfl (by decide +kernel) rfl (hh_Lw_load)))
      (sd_br
       (sd_lf (sd_i2l (by decide +kernel : decode method_9_code 6 = .ok (.i2l, 1))))
       (sd_lf (sd_lastore (by decide +kernel : decode method_9_code 7 = .ok (.lastore, 1)))))))
    (sd_br
     (sd_br
      (sd_lf (sd_goto (by decide +kernel : decode method_9_code 8 = .ok (.goto 6, 3)) (by decide +kernel)))
      (sd_br
       (sd_lf (sd_astore_n (k := 2) (by decide +kernel : decode method_9_code 11 = .ok (.astore_n 2, 1))))
       (sd_lf (sd_iconst (by decide +kernel : decode method_9_code 12 = .ok (.iconst 1, 1)) (by decide +kernel)))))
     (sd_br
      (sd_lf (sd_iret (by decide +kernel : decode method_9_code 13 = .ok (.ireturn, 1)) rfl))
      (sd_br
       (sd_lf (sd_iconst (by decide +kernel : decode method_9_code 14 = .ok (.iconst 0, 1)) (by decide +kernel)))
       (sd_lf (sd_iret (by decide +kernel : decode method_9_code 15 = .ok (.ireturn, 1)) rfl))))))
def k_Lw_send (l : Launch) (G : Gc) (pc : Nat) : Tr :=
  if pc < 13 then
   if pc < 5 then
    if pc < 3 then
     if pc < 2 then
      if pc = 0 then tz_aload 2 5 else dead
     else
      if pc = 2 then tz_const 3 (.int (nI 0)) else dead
    else
     if pc < 4 then
      if pc = 3 then tz_aload 4 0 else dead
     else
      if pc = 4 then tz_iload 5 1 else dead
   else
    if pc < 7 then
     if pc < 6 then
      if pc = 5 then tz_iload 6 2 else dead
     else
      if pc = 6 then tz_iload 7 3 else dead
    else
     if pc < 9 then
      if pc = 7 then tz_iload 9 4 else dead
     else
      if pc < 12 then
       if pc = 9 then tz_callVH l G M_Lw_send 12 M_Hp_send 4 6 [("java/lang/IndexOutOfBoundsException", 17), ("java/lang/IllegalArgumentException", 21)] else dead
      else
       if pc = 12 then tz_i2l 13 else dead
  else
   if pc < 21 then
    if pc < 17 then
     if pc < 14 then
      if pc = 13 then tz_lastore 14 else dead
     else
      if pc = 14 then tz_goto 25 else dead
    else
     if pc < 19 then
      if pc = 17 then tz_astore 19 6 else dead
     else
      if pc < 20 then
       if pc = 19 then tz_const 20 (.int (nI 1)) else dead
      else
       if pc = 20 then tz_iret else dead
   else
    if pc < 24 then
     if pc < 23 then
      if pc = 21 then tz_astore 23 6 else dead
     else
      if pc = 23 then tz_const 24 (.int (nI 2)) else dead
    else
     if pc < 25 then
      if pc = 24 then tz_iret else dead
     else
      if pc < 26 then
       if pc = 25 then tz_const 26 (.int (nI 0)) else dead
      else
       if pc = 26 then tz_iret else dead
set_option maxRecDepth 100000 in
theorem T_Lw_send (l : Launch) (G : Gc) : TabOK l G M_Lw_send (k_Lw_send l G) := by
  intro pc
  unfold k_Lw_send
  exact
   (sd_br
    (sd_br
     (sd_br
      (sd_br
       (sd_lf (sd_aload (by decide +kernel : decode method_10_code 0 = .ok (.aload 5, 2))))
       (sd_lf (sd_iconst (by decide +kernel : decode method_10_code 2 = .ok (.iconst 0, 1)) (by decide +kernel))))
      (sd_br
       (sd_lf (sd_aload_n (k := 0) (by decide +kernel : decode method_10_code 3 = .ok (.aload_n 0, 1))))
       (sd_lf (sd_iload_n (k := 1) (by decide +kernel : decode method_10_code 4 = .ok (.iload_n 1, 1))))))
     (sd_br
      (sd_br
       (sd_lf (sd_iload_n (k := 2) (by decide +kernel : decode method_10_code 5 = .ok (.iload_n 2, 1))))
       (sd_lf (sd_iload_n (k := 3) (by decide +kernel : decode method_10_code 6 = .ok (.iload_n 3, 1)))))
      (sd_br
       (sd_lf (sd_iload (by decide +kernel : decode method_10_code 7 = .ok (.iload 4, 2))))
       (sd_br
        (sd_lf (sd_callVH (q := (RX6, TX6, 7)) (by decide +kernel : decode method_10_code 9 = .ok (.invokevirtual 40, 3)) ok_Hp_send (gm 677 (by decide +kernel) rfl) (gm 678 (by decide +kernel) rfl) (gm 679 (by decide +kernel) rfl) rfl rfl (by decide +kernel) rfl (hh_Lw_send)))
        (sd_lf (sd_i2l (by decide +kernel : decode method_10_code 12 = .ok (.i2l, 1))))))))
    (sd_br
     (sd_br
      (sd_br
       (sd_lf (sd_lastore (by decide +kernel : decode method_10_code 13 = .ok (.lastore, 1))))
       (sd_lf (sd_goto (by decide +kernel : decode method_10_code 14 = .ok (.goto 11, 3)) (by decide +kernel))))
      (sd_br
       (sd_lf (sd_astore (by decide +kernel : decode method_10_code 17 = .ok (.astore 6, 2))))
       (sd_br
        (sd_lf (sd_iconst (by decide +kernel : decode method_10_code 19 = .ok (.iconst 1, 1)) (by decide +kernel)))
        (sd_lf (sd_iret (by decide +kernel : decode method_10_code 20 = .ok (.ireturn, 1)) rfl)))))
     (sd_br
      (sd_br
       (sd_lf (sd_astore (by decide +kernel : decode method_10_code 21 = .ok (.astore 6, 2))))
       (sd_lf (sd_iconst (by decide +kernel : decode method_10_code 23 = .ok (.iconst 2, 1)) (by decide +kernel))))
      (sd_br
       (sd_lf (sd_iret (by decide +kernel : decode method_10_code 24 = .ok (.ireturn, 1)) rfl))
       (sd_br
        (sd_lf (sd_iconst (by decide +kernel : decode method_10_code 25 = .ok (.iconst 0, 1)) (by decide +kernel)))
        (sd_lf (sd_iret (by decide +kernel : decode method_10_code 26 = .ok (.ireturn, 1)) rfl)))))))
def k_Lw_reply (l : Launch) (G : Gc) (pc : Nat) : Tr :=
  if pc < 12 then
   if pc < 4 then
    if pc < 2 then
     if pc < 1 then
      if pc = 0 then tz_aload 1 2 else dead
     else
      if pc = 1 then tz_const 2 (.int (nI 0)) else dead
    else
     if pc < 3 then
      if pc = 2 then tz_aload 3 0 else dead
     else
      if pc = 3 then tz_iload 4 1 else dead
   else
    if pc < 8 then
     if pc < 7 then
      if pc = 4 then tz_callVH l G M_Lw_reply 7 M_Hp_reply 1 6 [("java/lang/IndexOutOfBoundsException", 12), ("java/lang/IllegalStateException", 15)] else dead
     else
      if pc = 7 then tz_i2l 8 else dead
    else
     if pc < 9 then
      if pc = 8 then tz_lastore 9 else dead
     else
      if pc = 9 then tz_goto 18 else dead
  else
   if pc < 16 then
    if pc < 14 then
     if pc < 13 then
      if pc = 12 then tz_astore 13 3 else dead
     else
      if pc = 13 then tz_const 14 (.int (nI 1)) else dead
    else
     if pc < 15 then
      if pc = 14 then tz_iret else dead
     else
      if pc = 15 then tz_astore 16 3 else dead
   else
    if pc < 18 then
     if pc < 17 then
      if pc = 16 then tz_const 17 (.int (nI 2)) else dead
     else
      if pc = 17 then tz_iret else dead
    else
     if pc < 19 then
      if pc = 18 then tz_const 19 (.int (nI 0)) else dead
     else
      if pc = 19 then tz_iret else dead
set_option maxRecDepth 100000 in
theorem T_Lw_reply (l : Launch) (G : Gc) : TabOK l G M_Lw_reply (k_Lw_reply l G) := by
  intro pc
  unfold k_Lw_reply
  exact
   (sd_br
    (sd_br
     (sd_br
      (sd_br
       (sd_lf (sd_aload_n (k := 2) (by decide +kernel : decode method_11_code 0 = .ok (.aload_n 2, 1))))
       (sd_lf (sd_iconst (by decide +kernel : decode method_11_code 1 = .ok (.iconst 0, 1)) (by decide +kernel))))
      (sd_br
       (sd_lf (sd_aload_n (k := 0) (by decide +kernel : decode method_11_code 2 = .ok (.aload_n 0, 1))))
       (sd_lf (sd_iload_n (k := 1) (by decide +kernel : decode method_11_code 3 = .ok (.iload_n 1, 1))))))
     (sd_br
      (sd_br
       (sd_lf (sd_callVH (q := (RX6, TX6, 7)) (by decide +kernel : decode method_11_code 4 = .ok (.invokevirtual 43, 3)) ok_Hp_reply (gm 769 (by decide +kernel) rfl) (gm 770 (by decide +kernel) rfl) (gm 771 (by decide +kernel) rfl) rfl rfl (by decide +kernel) rfl (hh_Lw_reply)))
       (sd_lf (sd_i2l (by decide +kernel : decode method_11_code 7 = .ok (.i2l, 1)))))
      (sd_br
       (sd_lf (sd_lastore (by decide +kernel : decode method_11_code 8 = .ok (.lastore, 1))))
       (sd_lf (sd_goto (by decide +kernel : decode method_11_code 9 = .ok (.goto 9, 3)) (by decide +kernel))))))
    (sd_br
     (sd_br
      (sd_br
       (sd_lf (sd_astore_n (k := 3) (by decide +kernel : decode method_11_code 12 = .ok (.astore_n 3, 1))))
       (sd_lf (sd_iconst (by decide +kernel : decode method_11_code 13 = .ok (.iconst 1, 1)) (by decide +kernel))))
      (sd_br
       (sd_lf (sd_iret (by decide +kernel : decode method_11_code 14 = .ok (.ireturn, 1)) rfl))
       (sd_lf (sd_astore_n (k := 3) (by decide +kernel : decode method_11_code 15 = .ok (.astore_n 3, 1))))))
     (sd_br
      (sd_br
       (sd_lf (sd_iconst (by decide +kernel : decode method_11_code 16 = .ok (.iconst 2, 1)) (by decide +kernel)))
       (sd_lf (sd_iret (by decide +kernel : decode method_11_code 17 = .ok (.ireturn, 1)) rfl)))
      (sd_br
       (sd_lf (sd_iconst (by decide +kernel : decode method_11_code 18 = .ok (.iconst 0, 1)) (by decide +kernel)))
       (sd_lf (sd_iret (by decide +kernel : decode method_11_code 19 = .ok (.ireturn, 1)) rfl))))))
def k_Lw_keepAlive (l : Launch) (G : Gc) (pc : Nat) : Tr :=
  if pc < 18 then
   if pc < 7 then
    if pc < 4 then
     if pc < 2 then
      if pc = 0 then tz_aload 2 7 else dead
     else
      if pc < 3 then
       if pc = 2 then tz_const 3 (.int (nI 0)) else dead
      else
       if pc = 3 then tz_aload 4 0 else dead
    else
     if pc < 5 then
      if pc = 4 then tz_iload 5 1 else dead
     else
      if pc < 6 then
       if pc = 5 then tz_iload 6 2 else dead
      else
       if pc = 6 then tz_iload 7 3 else dead
   else
    if pc < 13 then
     if pc < 9 then
      if pc = 7 then tz_iload 9 4 else dead
     else
      if pc < 11 then
       if pc = 9 then tz_iload 11 5 else dead
      else
       if pc = 11 then tz_iload 13 6 else dead
    else
     if pc < 16 then
      if pc = 13 then tz_callVH l G M_Lw_keepAlive 16 M_Hp_keepAlive 6 6 [("java/lang/IndexOutOfBoundsException", 21), ("java/lang/IllegalArgumentException", 25), ("java/lang/IllegalStateException", 29)] else dead
     else
      if pc < 17 then
       if pc = 16 then tz_i2l 17 else dead
      else
       if pc = 17 then tz_lastore 18 else dead
  else
   if pc < 28 then
    if pc < 24 then
     if pc < 21 then
      if pc = 18 then tz_goto 33 else dead
     else
      if pc < 23 then
       if pc = 21 then tz_astore 23 8 else dead
      else
       if pc = 23 then tz_const 24 (.int (nI 1)) else dead
    else
     if pc < 25 then
      if pc = 24 then tz_iret else dead
     else
      if pc < 27 then
       if pc = 25 then tz_astore 27 8 else dead
      else
       if pc = 27 then tz_const 28 (.int (nI 2)) else dead
   else
    if pc < 32 then
     if pc < 29 then
      if pc = 28 then tz_iret else dead
     else
      if pc < 31 then
       if pc = 29 then tz_astore 31 8 else dead
      else
       if pc = 31 then tz_const 32 (.int (nI 3)) else dead
    else
     if pc < 33 then
      if pc = 32 then tz_iret else dead
     else
      if pc < 34 then
       if pc = 33 then tz_const 34 (.int (nI 0)) else dead
      else
       if pc = 34 then tz_iret else dead
set_option maxRecDepth 100000 in
theorem T_Lw_keepAlive (l : Launch) (G : Gc) : TabOK l G M_Lw_keepAlive (k_Lw_keepAlive l G) := by
  intro pc
  unfold k_Lw_keepAlive
  exact
   (sd_br
    (sd_br
     (sd_br
      (sd_br
       (sd_lf (sd_aload (by decide +kernel : decode method_12_code 0 = .ok (.aload 7, 2))))
       (sd_br
        (sd_lf (sd_iconst (by decide +kernel : decode method_12_code 2 = .ok (.iconst 0, 1)) (by decide +kernel)))
        (sd_lf (sd_aload_n (k := 0) (by decide +kernel : decode method_12_code 3 = .ok (.aload_n 0, 1))))))
      (sd_br
       (sd_lf (sd_iload_n (k := 1) (by decide +kernel : decode method_12_code 4 = .ok (.iload_n 1, 1))))
       (sd_br
        (sd_lf (sd_iload_n (k := 2) (by decide +kernel : decode method_12_code 5 = .ok (.iload_n 2, 1))))
        (sd_lf (sd_iload_n (k := 3) (by decide +kernel : decode method_12_code 6 = .ok (.iload_n 3, 1)))))))
     (sd_br
      (sd_br
       (sd_lf (sd_iload (by decide +kernel : decode method_12_code 7 = .ok (.iload 4, 2))))
       (sd_br
        (sd_lf (sd_iload (by decide +kernel : decode method_12_code 9 = .ok (.iload 5, 2))))
        (sd_lf (sd_iload (by decide +kernel : decode method_12_code 11 = .ok (.iload 6, 2))))))
      (sd_br
       (sd_lf (sd_callVH (q := (RX6, TX6, 7)) (by decide +kernel : decode method_12_code 13 = .ok (.invokevirtual 46, 3)) ok_Hp_keepAlive (gm 779 (by decide +kernel) rfl) (gm 780 (by decide +kernel) rfl) (gm 781 (by decide +kernel) rfl) rfl rfl (by decide +kernel) rfl (hh_Lw_keepAlive)))
       (sd_br
        (sd_lf (sd_i2l (by decide +kernel : decode method_12_code 16 = .ok (.i2l, 1))))
        (sd_lf (sd_lastore (by decide +kernel : decode method_12_code 17 = .ok (.lastore, 1))))))))
    (sd_br
     (sd_br
      (sd_br
       (sd_lf (sd_goto (by decide +kernel : decode method_12_code 18 = .ok (.goto 15, 3)) (by decide +kernel)))
       (sd_br
        (sd_lf (sd_astore (by decide +kernel : decode method_12_code 21 = .ok (.astore 8, 2))))
        (sd_lf (sd_iconst (by decide +kernel : decode method_12_code 23 = .ok (.iconst 1, 1)) (by decide +kernel)))))
      (sd_br
       (sd_lf (sd_iret (by decide +kernel : decode method_12_code 24 = .ok (.ireturn, 1)) rfl))
       (sd_br
        (sd_lf (sd_astore (by decide +kernel : decode method_12_code 25 = .ok (.astore 8, 2))))
        (sd_lf (sd_iconst (by decide +kernel : decode method_12_code 27 = .ok (.iconst 2, 1)) (by decide +kernel))))))
     (sd_br
      (sd_br
       (sd_lf (sd_iret (by decide +kernel : decode method_12_code 28 = .ok (.ireturn, 1)) rfl))
       (sd_br
        (sd_lf (sd_astore (by decide +kernel : decode method_12_code 29 = .ok (.astore 8, 2))))
        (sd_lf (sd_iconst (by decide +kernel : decode method_12_code 31 = .ok (.iconst 3, 1)) (by decide +kernel)))))
      (sd_br
       (sd_lf (sd_iret (by decide +kernel : decode method_12_code 32 = .ok (.ireturn, 1)) rfl))
       (sd_br
        (sd_lf (sd_iconst (by decide +kernel : decode method_12_code 33 = .ok (.iconst 0, 1)) (by decide +kernel)))
        (sd_lf (sd_iret (by decide +kernel : decode method_12_code 34 = .ok (.ireturn, 1)) rfl)))))))
def k_Lw_punch (l : Launch) (G : Gc) (pc : Nat) : Tr :=
  if pc < 17 then
   if pc < 6 then
    if pc < 3 then
     if pc < 2 then
      if pc = 0 then tz_aload 2 5 else dead
     else
      if pc = 2 then tz_const 3 (.int (nI 0)) else dead
    else
     if pc < 4 then
      if pc = 3 then tz_aload 4 0 else dead
     else
      if pc < 5 then
       if pc = 4 then tz_iload 5 1 else dead
      else
       if pc = 5 then tz_iload 6 2 else dead
   else
    if pc < 12 then
     if pc < 7 then
      if pc = 6 then tz_iload 7 3 else dead
     else
      if pc < 9 then
       if pc = 7 then tz_iload 9 4 else dead
      else
       if pc = 9 then tz_callVH l G M_Lw_punch 12 M_Hp_punch 4 6 [("java/lang/IndexOutOfBoundsException", 17), ("java/lang/IllegalArgumentException", 21), ("java/lang/IllegalStateException", 25)] else dead
    else
     if pc < 13 then
      if pc = 12 then tz_i2l 13 else dead
     else
      if pc < 14 then
       if pc = 13 then tz_lastore 14 else dead
      else
       if pc = 14 then tz_goto 29 else dead
  else
   if pc < 24 then
    if pc < 20 then
     if pc < 19 then
      if pc = 17 then tz_astore 19 6 else dead
     else
      if pc = 19 then tz_const 20 (.int (nI 1)) else dead
    else
     if pc < 21 then
      if pc = 20 then tz_iret else dead
     else
      if pc < 23 then
       if pc = 21 then tz_astore 23 6 else dead
      else
       if pc = 23 then tz_const 24 (.int (nI 2)) else dead
   else
    if pc < 28 then
     if pc < 25 then
      if pc = 24 then tz_iret else dead
     else
      if pc < 27 then
       if pc = 25 then tz_astore 27 6 else dead
      else
       if pc = 27 then tz_const 28 (.int (nI 3)) else dead
    else
     if pc < 29 then
      if pc = 28 then tz_iret else dead
     else
      if pc < 30 then
       if pc = 29 then tz_const 30 (.int (nI 0)) else dead
      else
       if pc = 30 then tz_iret else dead
set_option maxRecDepth 100000 in
theorem T_Lw_punch (l : Launch) (G : Gc) : TabOK l G M_Lw_punch (k_Lw_punch l G) := by
  intro pc
  unfold k_Lw_punch
  exact
   (sd_br
    (sd_br
     (sd_br
      (sd_br
       (sd_lf (sd_aload (by decide +kernel : decode method_13_code 0 = .ok (.aload 5, 2))))
       (sd_lf (sd_iconst (by decide +kernel : decode method_13_code 2 = .ok (.iconst 0, 1)) (by decide +kernel))))
      (sd_br
       (sd_lf (sd_aload_n (k := 0) (by decide +kernel : decode method_13_code 3 = .ok (.aload_n 0, 1))))
       (sd_br
        (sd_lf (sd_iload_n (k := 1) (by decide +kernel : decode method_13_code 4 = .ok (.iload_n 1, 1))))
        (sd_lf (sd_iload_n (k := 2) (by decide +kernel : decode method_13_code 5 = .ok (.iload_n 2, 1)))))))
     (sd_br
      (sd_br
       (sd_lf (sd_iload_n (k := 3) (by decide +kernel : decode method_13_code 6 = .ok (.iload_n 3, 1))))
       (sd_br
        (sd_lf (sd_iload (by decide +kernel : decode method_13_code 7 = .ok (.iload 4, 2))))
        (sd_lf (sd_callVH (q := (RX6, TX6, 7)) (by decide +kernel : decode method_13_code 9 = .ok (.invokevirtual 50, 3)) ok_Hp_punch (gm 787 (by decide +kernel) rfl) (gm 788 (by decide +kernel) rfl) (gm 789 (by decide +kernel) rfl) rfl rfl (by decide +kernel) rfl (hh_Lw_punch)))))
      (sd_br
       (sd_lf (sd_i2l (by decide +kernel : decode method_13_code 12 = .ok (.i2l, 1))))
       (sd_br
        (sd_lf (sd_lastore (by decide +kernel : decode method_13_code 13 = .ok (.lastore, 1))))
        (sd_lf (sd_goto (by decide +kernel : decode method_13_code 14 = .ok (.goto 15, 3)) (by decide +kernel)))))))
    (sd_br
     (sd_br
      (sd_br
       (sd_lf (sd_astore (by decide +kernel : decode method_13_code 17 = .ok (.astore 6, 2))))
       (sd_lf (sd_iconst (by decide +kernel : decode method_13_code 19 = .ok (.iconst 1, 1)) (by decide +kernel))))
      (sd_br
       (sd_lf (sd_iret (by decide +kernel : decode method_13_code 20 = .ok (.ireturn, 1)) rfl))
       (sd_br
        (sd_lf (sd_astore (by decide +kernel : decode method_13_code 21 = .ok (.astore 6, 2))))
        (sd_lf (sd_iconst (by decide +kernel : decode method_13_code 23 = .ok (.iconst 2, 1)) (by decide +kernel))))))
     (sd_br
      (sd_br
       (sd_lf (sd_iret (by decide +kernel : decode method_13_code 24 = .ok (.ireturn, 1)) rfl))
       (sd_br
        (sd_lf (sd_astore (by decide +kernel : decode method_13_code 25 = .ok (.astore 6, 2))))
        (sd_lf (sd_iconst (by decide +kernel : decode method_13_code 27 = .ok (.iconst 3, 1)) (by decide +kernel)))))
      (sd_br
       (sd_lf (sd_iret (by decide +kernel : decode method_13_code 28 = .ok (.ireturn, 1)) rfl))
       (sd_br
        (sd_lf (sd_iconst (by decide +kernel : decode method_13_code 29 = .ok (.iconst 0, 1)) (by decide +kernel)))
        (sd_lf (sd_iret (by decide +kernel : decode method_13_code 30 = .ok (.ireturn, 1)) rfl)))))))
def k_Lw_ifSent (l : Launch) (G : Gc) (pc : Nat) : Tr :=
  if pc < 13 then
   if pc < 5 then
    if pc < 3 then
     if pc < 2 then
      if pc = 0 then tz_aload 2 5 else dead
     else
      if pc = 2 then tz_const 3 (.int (nI 0)) else dead
    else
     if pc < 4 then
      if pc = 3 then tz_aload 4 0 else dead
     else
      if pc = 4 then tz_iload 5 1 else dead
   else
    if pc < 7 then
     if pc < 6 then
      if pc = 5 then tz_iload 6 2 else dead
     else
      if pc = 6 then tz_iload 7 3 else dead
    else
     if pc < 9 then
      if pc = 7 then tz_iload 9 4 else dead
     else
      if pc < 12 then
       if pc = 9 then tz_callVH l G M_Lw_ifSent 12 M_Hp_ifSent 4 6 [("java/lang/IndexOutOfBoundsException", 17), ("java/lang/IllegalArgumentException", 21)] else dead
      else
       if pc = 12 then tz_i2l 13 else dead
  else
   if pc < 21 then
    if pc < 17 then
     if pc < 14 then
      if pc = 13 then tz_lastore 14 else dead
     else
      if pc = 14 then tz_goto 25 else dead
    else
     if pc < 19 then
      if pc = 17 then tz_astore 19 6 else dead
     else
      if pc < 20 then
       if pc = 19 then tz_const 20 (.int (nI 1)) else dead
      else
       if pc = 20 then tz_iret else dead
   else
    if pc < 24 then
     if pc < 23 then
      if pc = 21 then tz_astore 23 6 else dead
     else
      if pc = 23 then tz_const 24 (.int (nI 2)) else dead
    else
     if pc < 25 then
      if pc = 24 then tz_iret else dead
     else
      if pc < 26 then
       if pc = 25 then tz_const 26 (.int (nI 0)) else dead
      else
       if pc = 26 then tz_iret else dead
set_option maxRecDepth 100000 in
theorem T_Lw_ifSent (l : Launch) (G : Gc) : TabOK l G M_Lw_ifSent (k_Lw_ifSent l G) := by
  intro pc
  unfold k_Lw_ifSent
  exact
   (sd_br
    (sd_br
     (sd_br
      (sd_br
       (sd_lf (sd_aload (by decide +kernel : decode method_14_code 0 = .ok (.aload 5, 2))))
       (sd_lf (sd_iconst (by decide +kernel : decode method_14_code 2 = .ok (.iconst 0, 1)) (by decide +kernel))))
      (sd_br
       (sd_lf (sd_aload_n (k := 0) (by decide +kernel : decode method_14_code 3 = .ok (.aload_n 0, 1))))
       (sd_lf (sd_iload_n (k := 1) (by decide +kernel : decode method_14_code 4 = .ok (.iload_n 1, 1))))))
     (sd_br
      (sd_br
       (sd_lf (sd_iload_n (k := 2) (by decide +kernel : decode method_14_code 5 = .ok (.iload_n 2, 1))))
       (sd_lf (sd_iload_n (k := 3) (by decide +kernel : decode method_14_code 6 = .ok (.iload_n 3, 1)))))
      (sd_br
       (sd_lf (sd_iload (by decide +kernel : decode method_14_code 7 = .ok (.iload 4, 2))))
       (sd_br
        (sd_lf (sd_callVH (q := (RX6, TX6, 7)) (by decide +kernel : decode method_14_code 9 = .ok (.invokevirtual 54, 3)) ok_Hp_ifSent (gm 843 (by decide +kernel) rfl) (gm 844 (by decide +kernel) rfl) (gm 845 (by decide +kernel) rfl) rfl rfl (by decide +kernel) rfl (hh_Lw_ifSent)))
        (sd_lf (sd_i2l (by decide +kernel : decode method_14_code 12 = .ok (.i2l, 1))))))))
    (sd_br
     (sd_br
      (sd_br
       (sd_lf (sd_lastore (by decide +kernel : decode method_14_code 13 = .ok (.lastore, 1))))
       (sd_lf (sd_goto (by decide +kernel : decode method_14_code 14 = .ok (.goto 11, 3)) (by decide +kernel))))
      (sd_br
       (sd_lf (sd_astore (by decide +kernel : decode method_14_code 17 = .ok (.astore 6, 2))))
       (sd_br
        (sd_lf (sd_iconst (by decide +kernel : decode method_14_code 19 = .ok (.iconst 1, 1)) (by decide +kernel)))
        (sd_lf (sd_iret (by decide +kernel : decode method_14_code 20 = .ok (.ireturn, 1)) rfl)))))
     (sd_br
      (sd_br
       (sd_lf (sd_astore (by decide +kernel : decode method_14_code 21 = .ok (.astore 6, 2))))
       (sd_lf (sd_iconst (by decide +kernel : decode method_14_code 23 = .ok (.iconst 2, 1)) (by decide +kernel))))
      (sd_br
       (sd_lf (sd_iret (by decide +kernel : decode method_14_code 24 = .ok (.ireturn, 1)) rfl))
       (sd_br
        (sd_lf (sd_iconst (by decide +kernel : decode method_14_code 25 = .ok (.iconst 0, 1)) (by decide +kernel)))
        (sd_lf (sd_iret (by decide +kernel : decode method_14_code 26 = .ok (.ireturn, 1)) rfl)))))))
def k_Lw_count (l : Launch) (G : Gc) (pc : Nat) : Tr :=
  if pc < 8 then
   if pc < 3 then
    if pc < 1 then
     if pc = 0 then tz_aload 1 2 else dead
    else
     if pc < 2 then
      if pc = 1 then tz_const 2 (.int (nI 0)) else dead
     else
      if pc = 2 then tz_aload 3 0 else dead
   else
    if pc < 4 then
     if pc = 3 then tz_iload 4 1 else dead
    else
     if pc < 7 then
      if pc = 4 then tz_callVH l G M_Lw_count 7 M_Hp_count 1 6 [("java/lang/IllegalArgumentException", 12)] else dead
     else
      if pc = 7 then tz_i2l 8 else dead
  else
   if pc < 13 then
    if pc < 9 then
     if pc = 8 then tz_lastore 9 else dead
    else
     if pc < 12 then
      if pc = 9 then tz_goto 15 else dead
     else
      if pc = 12 then tz_astore 13 3 else dead
   else
    if pc < 15 then
     if pc < 14 then
      if pc = 13 then tz_const 14 (.int (nI 1)) else dead
     else
      if pc = 14 then tz_iret else dead
    else
     if pc < 16 then
      if pc = 15 then tz_const 16 (.int (nI 0)) else dead
     else
      if pc = 16 then tz_iret else dead
set_option maxRecDepth 100000 in
theorem T_Lw_count (l : Launch) (G : Gc) : TabOK l G M_Lw_count (k_Lw_count l G) := by
  intro pc
  unfold k_Lw_count
  exact
   (sd_br
    (sd_br
     (sd_br
      (sd_lf (sd_aload_n (k := 2) (by decide +kernel : decode method_15_code 0 = .ok (.aload_n 2, 1))))
      (sd_br
       (sd_lf (sd_iconst (by decide +kernel : decode method_15_code 1 = .ok (.iconst 0, 1)) (by decide +kernel)))
       (sd_lf (sd_aload_n (k := 0) (by decide +kernel : decode method_15_code 2 = .ok (.aload_n 0, 1))))))
     (sd_br
      (sd_lf (sd_iload_n (k := 1) (by decide +kernel : decode method_15_code 3 = .ok (.iload_n 1, 1))))
      (sd_br
       (sd_lf (sd_callVH (q := (RX6, TX6, 7)) (by decide +kernel : decode method_15_code 4 = .ok (.invokevirtual 57, 3)) ok_Hp_count (gm 850 (by decide +kernel) rfl) (gm 851 (by decide +kernel) rfl) (gm 852 (by decide +kernel) rfl) rfl rfl (by decide +kernel) rfl (hh_Lw_count)))
       (sd_lf (sd_i2l (by decide +kernel : decode method_15_code 7 = .ok (.i2l, 1)))))))
    (sd_br
     (sd_br
      (sd_lf (sd_lastore (by decide +kernel : decode method_15_code 8 = .ok (.lastore, 1))))
      (sd_br
       (sd_lf (sd_goto (by decide +kernel : decode method_15_code 9 = .ok (.goto 6, 3)) (by decide +kernel)))
       (sd_lf (sd_astore_n (k := 3) (by decide +kernel : decode method_15_code 12 = .ok (.astore_n 3, 1))))))
     (sd_br
      (sd_br
       (sd_lf (sd_iconst (by decide +kernel : decode method_15_code 13 = .ok (.iconst 1, 1)) (by decide +kernel)))
       (sd_lf (sd_iret (by decide +kernel : decode method_15_code 14 = .ok (.ireturn, 1)) rfl)))
      (sd_br
       (sd_lf (sd_iconst (by decide +kernel : decode method_15_code 15 = .ok (.iconst 0, 1)) (by decide +kernel)))
       (sd_lf (sd_iret (by decide +kernel : decode method_15_code 16 = .ok (.ireturn, 1)) rfl))))))
def k_Lw_node (l : Launch) (G : Gc) (pc : Nat) : Tr :=
  if pc < 10 then
   if pc < 4 then
    if pc < 2 then
     if pc < 1 then
      if pc = 0 then tz_aload 1 3 else dead
     else
      if pc = 1 then tz_const 2 (.int (nI 0)) else dead
    else
     if pc < 3 then
      if pc = 2 then tz_aload 3 0 else dead
     else
      if pc = 3 then tz_iload 4 1 else dead
   else
    if pc < 8 then
     if pc < 5 then
      if pc = 4 then tz_iload 5 2 else dead
     else
      if pc = 5 then tz_callVH l G M_Lw_node 8 M_Hp_node 2 6 [("java/lang/IndexOutOfBoundsException", 13), ("java/lang/IllegalArgumentException", 17)] else dead
    else
     if pc < 9 then
      if pc = 8 then tz_i2l 9 else dead
     else
      if pc = 9 then tz_lastore 10 else dead
  else
   if pc < 17 then
    if pc < 15 then
     if pc < 13 then
      if pc = 10 then tz_goto 21 else dead
     else
      if pc = 13 then tz_astore 15 4 else dead
    else
     if pc < 16 then
      if pc = 15 then tz_const 16 (.int (nI 1)) else dead
     else
      if pc = 16 then tz_iret else dead
   else
    if pc < 20 then
     if pc < 19 then
      if pc = 17 then tz_astore 19 4 else dead
     else
      if pc = 19 then tz_const 20 (.int (nI 2)) else dead
    else
     if pc < 21 then
      if pc = 20 then tz_iret else dead
     else
      if pc < 22 then
       if pc = 21 then tz_const 22 (.int (nI 0)) else dead
      else
       if pc = 22 then tz_iret else dead
set_option maxRecDepth 100000 in
theorem T_Lw_node (l : Launch) (G : Gc) : TabOK l G M_Lw_node (k_Lw_node l G) := by
  intro pc
  unfold k_Lw_node
  exact
   (sd_br
    (sd_br
     (sd_br
      (sd_br
       (sd_lf (sd_aload_n (k := 3) (by decide +kernel : decode method_16_code 0 = .ok (.aload_n 3, 1))))
       (sd_lf (sd_iconst (by decide +kernel : decode method_16_code 1 = .ok (.iconst 0, 1)) (by decide +kernel))))
      (sd_br
       (sd_lf (sd_aload_n (k := 0) (by decide +kernel : decode method_16_code 2 = .ok (.aload_n 0, 1))))
       (sd_lf (sd_iload_n (k := 1) (by decide +kernel : decode method_16_code 3 = .ok (.iload_n 1, 1))))))
     (sd_br
      (sd_br
       (sd_lf (sd_iload_n (k := 2) (by decide +kernel : decode method_16_code 4 = .ok (.iload_n 2, 1))))
       (sd_lf (sd_callVH (q := (RX6, TX6, 7)) (by decide +kernel : decode method_16_code 5 = .ok (.invokevirtual 60, 3)) ok_Hp_node (gm 858 (by decide +kernel) rfl) (gm 859 (by decide +kernel) rfl) (gm 860 (by decide +kernel) rfl) rfl rfl (by decide +kernel) rfl (hh_Lw_node))))
      (sd_br
       (sd_lf (sd_i2l (by decide +kernel : decode method_16_code 8 = .ok (.i2l, 1))))
       (sd_lf (sd_lastore (by decide +kernel : decode method_16_code 9 = .ok (.lastore, 1)))))))
    (sd_br
     (sd_br
      (sd_br
       (sd_lf (sd_goto (by decide +kernel : decode method_16_code 10 = .ok (.goto 11, 3)) (by decide +kernel)))
       (sd_lf (sd_astore (by decide +kernel : decode method_16_code 13 = .ok (.astore 4, 2)))))
      (sd_br
       (sd_lf (sd_iconst (by decide +kernel : decode method_16_code 15 = .ok (.iconst 1, 1)) (by decide +kernel)))
       (sd_lf (sd_iret (by decide +kernel : decode method_16_code 16 = .ok (.ireturn, 1)) rfl))))
     (sd_br
      (sd_br
       (sd_lf (sd_astore (by decide +kernel : decode method_16_code 17 = .ok (.astore 4, 2))))
       (sd_lf (sd_iconst (by decide +kernel : decode method_16_code 19 = .ok (.iconst 2, 1)) (by decide +kernel))))
      (sd_br
       (sd_lf (sd_iret (by decide +kernel : decode method_16_code 20 = .ok (.ireturn, 1)) rfl))
       (sd_br
        (sd_lf (sd_iconst (by decide +kernel : decode method_16_code 21 = .ok (.iconst 0, 1)) (by decide +kernel)))
        (sd_lf (sd_iret (by decide +kernel : decode method_16_code 22 = .ok (.ireturn, 1)) rfl)))))))
def k_Lw_translator (l : Launch) (G : Gc) (pc : Nat) : Tr :=
  if pc < 10 then
   if pc < 4 then
    if pc < 2 then
     if pc < 1 then
      if pc = 0 then tz_aload 1 3 else dead
     else
      if pc = 1 then tz_const 2 (.int (nI 0)) else dead
    else
     if pc < 3 then
      if pc = 2 then tz_aload 3 0 else dead
     else
      if pc = 3 then tz_iload 4 1 else dead
   else
    if pc < 8 then
     if pc < 5 then
      if pc = 4 then tz_iload 5 2 else dead
     else
      if pc = 5 then tz_callVH l G M_Lw_translator 8 M_Hp_translator 2 6 [("java/lang/IndexOutOfBoundsException", 13), ("java/lang/IllegalArgumentException", 17)] else dead
    else
     if pc < 9 then
      if pc = 8 then tz_i2l 9 else dead
     else
      if pc = 9 then tz_lastore 10 else dead
  else
   if pc < 17 then
    if pc < 15 then
     if pc < 13 then
      if pc = 10 then tz_goto 21 else dead
     else
      if pc = 13 then tz_astore 15 4 else dead
    else
     if pc < 16 then
      if pc = 15 then tz_const 16 (.int (nI 1)) else dead
     else
      if pc = 16 then tz_iret else dead
   else
    if pc < 20 then
     if pc < 19 then
      if pc = 17 then tz_astore 19 4 else dead
     else
      if pc = 19 then tz_const 20 (.int (nI 2)) else dead
    else
     if pc < 21 then
      if pc = 20 then tz_iret else dead
     else
      if pc < 22 then
       if pc = 21 then tz_const 22 (.int (nI 0)) else dead
      else
       if pc = 22 then tz_iret else dead
set_option maxRecDepth 100000 in
theorem T_Lw_translator (l : Launch) (G : Gc) : TabOK l G M_Lw_translator (k_Lw_translator l G) := by
  intro pc
  unfold k_Lw_translator
  exact
   (sd_br
    (sd_br
     (sd_br
      (sd_br
       (sd_lf (sd_aload_n (k := 3) (by decide +kernel : decode method_17_code 0 = .ok (.aload_n 3, 1))))
       (sd_lf (sd_iconst (by decide +kernel : decode method_17_code 1 = .ok (.iconst 0, 1)) (by decide +kernel))))
      (sd_br
       (sd_lf (sd_aload_n (k := 0) (by decide +kernel : decode method_17_code 2 = .ok (.aload_n 0, 1))))
       (sd_lf (sd_iload_n (k := 1) (by decide +kernel : decode method_17_code 3 = .ok (.iload_n 1, 1))))))
     (sd_br
      (sd_br
       (sd_lf (sd_iload_n (k := 2) (by decide +kernel : decode method_17_code 4 = .ok (.iload_n 2, 1))))
       (sd_lf (sd_callVH (q := (RX6, TX6, 7)) (by decide +kernel : decode method_17_code 5 = .ok (.invokevirtual 64, 3)) ok_Hp_translator (gm 867 (by decide +kernel) rfl) (gm 868 (by decide +kernel) rfl) (gm 869 (by decide +kernel) rfl) rfl rfl (by decide +kernel) rfl (hh_Lw_translator))))
      (sd_br
       (sd_lf (sd_i2l (by decide +kernel : decode method_17_code 8 = .ok (.i2l, 1))))
       (sd_lf (sd_lastore (by decide +kernel : decode method_17_code 9 = .ok (.lastore, 1)))))))
    (sd_br
     (sd_br
      (sd_br
       (sd_lf (sd_goto (by decide +kernel : decode method_17_code 10 = .ok (.goto 11, 3)) (by decide +kernel)))
       (sd_lf (sd_astore (by decide +kernel : decode method_17_code 13 = .ok (.astore 4, 2)))))
      (sd_br
       (sd_lf (sd_iconst (by decide +kernel : decode method_17_code 15 = .ok (.iconst 1, 1)) (by decide +kernel)))
       (sd_lf (sd_iret (by decide +kernel : decode method_17_code 16 = .ok (.ireturn, 1)) rfl))))
     (sd_br
      (sd_br
       (sd_lf (sd_astore (by decide +kernel : decode method_17_code 17 = .ok (.astore 4, 2))))
       (sd_lf (sd_iconst (by decide +kernel : decode method_17_code 19 = .ok (.iconst 2, 1)) (by decide +kernel))))
      (sd_br
       (sd_lf (sd_iret (by decide +kernel : decode method_17_code 20 = .ok (.ireturn, 1)) rfl))
       (sd_br
        (sd_lf (sd_iconst (by decide +kernel : decode method_17_code 21 = .ok (.iconst 0, 1)) (by decide +kernel)))
        (sd_lf (sd_iret (by decide +kernel : decode method_17_code 22 = .ok (.ireturn, 1)) rfl)))))))
def k_Lw_mapping (l : Launch) (G : Gc) (pc : Nat) : Tr :=
  if pc < 12 then
   if pc < 5 then
    if pc < 3 then
     if pc < 2 then
      if pc = 0 then tz_aload 2 4 else dead
     else
      if pc = 2 then tz_const 3 (.int (nI 0)) else dead
    else
     if pc < 4 then
      if pc = 3 then tz_aload 4 0 else dead
     else
      if pc = 4 then tz_iload 5 1 else dead
   else
    if pc < 7 then
     if pc < 6 then
      if pc = 5 then tz_iload 6 2 else dead
     else
      if pc = 6 then tz_iload 7 3 else dead
    else
     if pc < 10 then
      if pc = 7 then tz_callVH l G M_Lw_mapping 10 M_Hp_mapping 3 6 [("java/lang/IndexOutOfBoundsException", 15), ("java/lang/IllegalArgumentException", 19)] else dead
     else
      if pc < 11 then
       if pc = 10 then tz_i2l 11 else dead
      else
       if pc = 11 then tz_lastore 12 else dead
  else
   if pc < 19 then
    if pc < 17 then
     if pc < 15 then
      if pc = 12 then tz_goto 23 else dead
     else
      if pc = 15 then tz_astore 17 5 else dead
    else
     if pc < 18 then
      if pc = 17 then tz_const 18 (.int (nI 1)) else dead
     else
      if pc = 18 then tz_iret else dead
   else
    if pc < 22 then
     if pc < 21 then
      if pc = 19 then tz_astore 21 5 else dead
     else
      if pc = 21 then tz_const 22 (.int (nI 2)) else dead
    else
     if pc < 23 then
      if pc = 22 then tz_iret else dead
     else
      if pc < 24 then
       if pc = 23 then tz_const 24 (.int (nI 0)) else dead
      else
       if pc = 24 then tz_iret else dead
set_option maxRecDepth 100000 in
theorem T_Lw_mapping (l : Launch) (G : Gc) : TabOK l G M_Lw_mapping (k_Lw_mapping l G) := by
  intro pc
  unfold k_Lw_mapping
  exact
   (sd_br
    (sd_br
     (sd_br
      (sd_br
       (sd_lf (sd_aload (by decide +kernel : decode method_18_code 0 = .ok (.aload 4, 2))))
       (sd_lf (sd_iconst (by decide +kernel : decode method_18_code 2 = .ok (.iconst 0, 1)) (by decide +kernel))))
      (sd_br
       (sd_lf (sd_aload_n (k := 0) (by decide +kernel : decode method_18_code 3 = .ok (.aload_n 0, 1))))
       (sd_lf (sd_iload_n (k := 1) (by decide +kernel : decode method_18_code 4 = .ok (.iload_n 1, 1))))))
     (sd_br
      (sd_br
       (sd_lf (sd_iload_n (k := 2) (by decide +kernel : decode method_18_code 5 = .ok (.iload_n 2, 1))))
       (sd_lf (sd_iload_n (k := 3) (by decide +kernel : decode method_18_code 6 = .ok (.iload_n 3, 1)))))
      (sd_br
       (sd_lf (sd_callVH (q := (RX6, TX6, 7)) (by decide +kernel : decode method_18_code 7 = .ok (.invokevirtual 67, 3)) ok_Hp_mapping (gm 875 (by decide +kernel) rfl) (gm 876 (by decide +kernel) rfl) (gm 877 (by decide +kernel) rfl) rfl rfl (by decide +kernel) rfl (hh_Lw_mapping)))
       (sd_br
        (sd_lf (sd_i2l (by decide +kernel : decode method_18_code 10 = .ok (.i2l, 1))))
        (sd_lf (sd_lastore (by decide +kernel : decode method_18_code 11 = .ok (.lastore, 1))))))))
    (sd_br
     (sd_br
      (sd_br
       (sd_lf (sd_goto (by decide +kernel : decode method_18_code 12 = .ok (.goto 11, 3)) (by decide +kernel)))
       (sd_lf (sd_astore (by decide +kernel : decode method_18_code 15 = .ok (.astore 5, 2)))))
      (sd_br
       (sd_lf (sd_iconst (by decide +kernel : decode method_18_code 17 = .ok (.iconst 1, 1)) (by decide +kernel)))
       (sd_lf (sd_iret (by decide +kernel : decode method_18_code 18 = .ok (.ireturn, 1)) rfl))))
     (sd_br
      (sd_br
       (sd_lf (sd_astore (by decide +kernel : decode method_18_code 19 = .ok (.astore 5, 2))))
       (sd_lf (sd_iconst (by decide +kernel : decode method_18_code 21 = .ok (.iconst 2, 1)) (by decide +kernel))))
      (sd_br
       (sd_lf (sd_iret (by decide +kernel : decode method_18_code 22 = .ok (.ireturn, 1)) rfl))
       (sd_br
        (sd_lf (sd_iconst (by decide +kernel : decode method_18_code 23 = .ok (.iconst 0, 1)) (by decide +kernel)))
        (sd_lf (sd_iret (by decide +kernel : decode method_18_code 24 = .ok (.ireturn, 1)) rfl)))))))
def k_Lw_timeLeft (l : Launch) (G : Gc) (pc : Nat) : Tr :=
  if pc < 13 then
   if pc < 5 then
    if pc < 3 then
     if pc < 2 then
      if pc = 0 then tz_aload 2 5 else dead
     else
      if pc = 2 then tz_const 3 (.int (nI 0)) else dead
    else
     if pc < 4 then
      if pc = 3 then tz_aload 4 0 else dead
     else
      if pc = 4 then tz_iload 5 1 else dead
   else
    if pc < 7 then
     if pc < 6 then
      if pc = 5 then tz_iload 6 2 else dead
     else
      if pc = 6 then tz_iload 7 3 else dead
    else
     if pc < 9 then
      if pc = 7 then tz_iload 9 4 else dead
     else
      if pc < 12 then
       if pc = 9 then tz_callVH l G M_Lw_timeLeft 12 M_Hp_timeLeft 4 6 [("java/lang/IndexOutOfBoundsException", 17), ("java/lang/IllegalArgumentException", 21)] else dead
      else
       if pc = 12 then tz_i2l 13 else dead
  else
   if pc < 21 then
    if pc < 17 then
     if pc < 14 then
      if pc = 13 then tz_lastore 14 else dead
     else
      if pc = 14 then tz_goto 25 else dead
    else
     if pc < 19 then
      if pc = 17 then tz_astore 19 6 else dead
     else
      if pc < 20 then
       if pc = 19 then tz_const 20 (.int (nI 1)) else dead
      else
       if pc = 20 then tz_iret else dead
   else
    if pc < 24 then
     if pc < 23 then
      if pc = 21 then tz_astore 23 6 else dead
     else
      if pc = 23 then tz_const 24 (.int (nI 2)) else dead
    else
     if pc < 25 then
      if pc = 24 then tz_iret else dead
     else
      if pc < 26 then
       if pc = 25 then tz_const 26 (.int (nI 0)) else dead
      else
       if pc = 26 then tz_iret else dead
set_option maxRecDepth 100000 in
theorem T_Lw_timeLeft (l : Launch) (G : Gc) : TabOK l G M_Lw_timeLeft (k_Lw_timeLeft l G) := by
  intro pc
  unfold k_Lw_timeLeft
  exact
   (sd_br
    (sd_br
     (sd_br
      (sd_br
       (sd_lf (sd_aload (by decide +kernel : decode method_19_code 0 = .ok (.aload 5, 2))))
       (sd_lf (sd_iconst (by decide +kernel : decode method_19_code 2 = .ok (.iconst 0, 1)) (by decide +kernel))))
      (sd_br
       (sd_lf (sd_aload_n (k := 0) (by decide +kernel : decode method_19_code 3 = .ok (.aload_n 0, 1))))
       (sd_lf (sd_iload_n (k := 1) (by decide +kernel : decode method_19_code 4 = .ok (.iload_n 1, 1))))))
     (sd_br
      (sd_br
       (sd_lf (sd_iload_n (k := 2) (by decide +kernel : decode method_19_code 5 = .ok (.iload_n 2, 1))))
       (sd_lf (sd_iload_n (k := 3) (by decide +kernel : decode method_19_code 6 = .ok (.iload_n 3, 1)))))
      (sd_br
       (sd_lf (sd_iload (by decide +kernel : decode method_19_code 7 = .ok (.iload 4, 2))))
       (sd_br
        (sd_lf (sd_callVH (q := (RX6, TX6, 7)) (by decide +kernel : decode method_19_code 9 = .ok (.invokevirtual 70, 3)) ok_Hp_timeLeft (gm 883 (by decide +kernel) rfl) (gm 884 (by decide +kernel) rfl) (gm 885 (by decide +kernel) rfl) rfl rfl (by decide +kernel) rfl (hh_Lw_timeLeft)))
        (sd_lf (sd_i2l (by decide +kernel : decode method_19_code 12 = .ok (.i2l, 1))))))))
    (sd_br
     (sd_br
      (sd_br
       (sd_lf (sd_lastore (by decide +kernel : decode method_19_code 13 = .ok (.lastore, 1))))
       (sd_lf (sd_goto (by decide +kernel : decode method_19_code 14 = .ok (.goto 11, 3)) (by decide +kernel))))
      (sd_br
       (sd_lf (sd_astore (by decide +kernel : decode method_19_code 17 = .ok (.astore 6, 2))))
       (sd_br
        (sd_lf (sd_iconst (by decide +kernel : decode method_19_code 19 = .ok (.iconst 1, 1)) (by decide +kernel)))
        (sd_lf (sd_iret (by decide +kernel : decode method_19_code 20 = .ok (.ireturn, 1)) rfl)))))
     (sd_br
      (sd_br
       (sd_lf (sd_astore (by decide +kernel : decode method_19_code 21 = .ok (.astore 6, 2))))
       (sd_lf (sd_iconst (by decide +kernel : decode method_19_code 23 = .ok (.iconst 2, 1)) (by decide +kernel))))
      (sd_br
       (sd_lf (sd_iret (by decide +kernel : decode method_19_code 24 = .ok (.ireturn, 1)) rfl))
       (sd_br
        (sd_lf (sd_iconst (by decide +kernel : decode method_19_code 25 = .ok (.iconst 0, 1)) (by decide +kernel)))
        (sd_lf (sd_iret (by decide +kernel : decode method_19_code 26 = .ok (.ireturn, 1)) rfl)))))))
def k_Lw_common (l : Launch) (G : Gc) (pc : Nat) : Tr :=
  if pc < 9 then
   if pc < 3 then
    if pc < 1 then
     if pc = 0 then tz_aload 1 3 else dead
    else
     if pc < 2 then
      if pc = 1 then tz_const 2 (.int (nI 0)) else dead
     else
      if pc = 2 then tz_aload 3 0 else dead
   else
    if pc < 5 then
     if pc < 4 then
      if pc = 3 then tz_iload 4 1 else dead
     else
      if pc = 4 then tz_iload 5 2 else dead
    else
     if pc < 8 then
      if pc = 5 then tz_callVH l G M_Lw_common 8 M_Hp_common 2 6 [("java/lang/IndexOutOfBoundsException", 13)] else dead
     else
      if pc = 8 then tz_i2l 9 else dead
  else
   if pc < 15 then
    if pc < 10 then
     if pc = 9 then tz_lastore 10 else dead
    else
     if pc < 13 then
      if pc = 10 then tz_goto 17 else dead
     else
      if pc = 13 then tz_astore 15 4 else dead
   else
    if pc < 17 then
     if pc < 16 then
      if pc = 15 then tz_const 16 (.int (nI 1)) else dead
     else
      if pc = 16 then tz_iret else dead
    else
     if pc < 18 then
      if pc = 17 then tz_const 18 (.int (nI 0)) else dead
     else
      if pc = 18 then tz_iret else dead
set_option maxRecDepth 100000 in
theorem T_Lw_common (l : Launch) (G : Gc) : TabOK l G M_Lw_common (k_Lw_common l G) := by
  intro pc
  unfold k_Lw_common
  exact
   (sd_br
    (sd_br
     (sd_br
      (sd_lf (sd_aload_n (k := 3) (by decide +kernel : decode method_20_code 0 = .ok (.aload_n 3, 1))))
      (sd_br
       (sd_lf (sd_iconst (by decide +kernel : decode method_20_code 1 = .ok (.iconst 0, 1)) (by decide +kernel)))
       (sd_lf (sd_aload_n (k := 0) (by decide +kernel : decode method_20_code 2 = .ok (.aload_n 0, 1))))))
     (sd_br
      (sd_br
       (sd_lf (sd_iload_n (k := 1) (by decide +kernel : decode method_20_code 3 = .ok (.iload_n 1, 1))))
       (sd_lf (sd_iload_n (k := 2) (by decide +kernel : decode method_20_code 4 = .ok (.iload_n 2, 1)))))
      (sd_br
       (sd_lf (sd_callVH (q := (RX6, TX6, 7)) (by decide +kernel : decode method_20_code 5 = .ok (.invokevirtual 73, 3)) ok_Hp_common (gm 898 (by decide +kernel) rfl) (gm 899 (by decide +kernel) rfl) (gm 900 (by decide +kernel) rfl) rfl rfl (by decide +kernel) rfl (hh_Lw_common)))
       (sd_lf (sd_i2l (by decide +kernel : decode method_20_code 8 = .ok (.i2l, 1)))))))
    (sd_br
     (sd_br
      (sd_lf (sd_lastore (by decide +kernel : decode method_20_code 9 = .ok (.lastore, 1))))
      (sd_br
       (sd_lf (sd_goto (by decide +kernel : decode method_20_code 10 = .ok (.goto 7, 3)) (by decide +kernel)))
       (sd_lf (sd_astore (by decide +kernel : decode method_20_code 13 = .ok (.astore 4, 2))))))
     (sd_br
      (sd_br
       (sd_lf (sd_iconst (by decide +kernel : decode method_20_code 15 = .ok (.iconst 1, 1)) (by decide +kernel)))
       (sd_lf (sd_iret (by decide +kernel : decode method_20_code 16 = .ok (.ireturn, 1)) rfl)))
      (sd_br
       (sd_lf (sd_iconst (by decide +kernel : decode method_20_code 17 = .ok (.iconst 0, 1)) (by decide +kernel)))
       (sd_lf (sd_iret (by decide +kernel : decode method_20_code 18 = .ok (.ireturn, 1)) rfl))))))
section
variable {l : Launch} {G : Gc}
theorem lw_addHost (x o : Nat) (p0 : Int32) (h : AH) (Q : Po) (hx : tg h x = 6) (hc : Call l G M_Hp_addHost [.ref x, .int p0] h (LwP Q o [(IOE, 1), (ISE, 2)])) : Call l G M_Lw_addHost [.ref x, .int p0, .ref o] h Q := by
  refine call_ofH rfl rfl (Nat.le_of_ble_eq_true rfl) ?_
  (obtain ⟨W9, hW9, hgo9⟩ := wp_ex (T_Lw_addHost l G) [] _; refine hgo9 200 _ _ _ _ ?_; simp -implicitDefEqProofs (disch := omega) only [hW9, inl, gate, Xq, tz_const, tz_iload, tz_lload, tz_dload, tz_aload, tz_istore, tz_astore, tz_lstore, tz_dstore, tz_iinc, tz_i1, tz_i2, tz_i2z, tz_l2, tz_l2z, tz_i2l, tz_l2i, tz_lcmp, tz_i2d, tz_d2, tz_dcmp, tz_dup, tz_dup2, tz_pop, tz_if, tz_icmp, tz_null, tz_goto, tz_sw, tz_getf, tz_puti, tz_putz, tz_putr, tz_putl, tz_iaload, tz_baload, tz_laload, tz_aaload, tz_iastore, tz_bastore, tz_lastore, tz_aastore, tz_alen, tz_new, tz_newa, tz_oinit, tz_iret, tz_zret, tz_lret, tz_dret, tz_aret, tz_vret, tz_throw, tz_callS, tz_callV, tz_callI, tz_callR, tz_pureS, tz_pureV, tz_callVH, lg, lset, lkill, lst1, lst2, entL, isRf, is1, vl, va_rf_none, va_rf_some, isRf_rf, is1_rf, i0, i1, bI_eq0, bI_eq1, nm_em, nI_eqP, nI_leP, nI_ltP, nN_e1, nN_e2, nN_l1, nN_l2, nN_l3, nN_l4, nI_add, pk_mul, vp_inN, nI_cl, n01, n10, P_i, P_ii, P_iii, f_Mo_at, f_Mo_map, f_Mo_contact, f_Mo_within, f_Mo_isPort, f_Hp_endpoint, f_Hp_nodeOf, f_Hp_portOf, f_Ma_max, f_Ma_min, f_Hp_isSetting, popN, rok, a1, noX, swc, mL, if_true, if_false, ↓reduceIte, cond_true, cond_false, true_and, and_true, List.length_cons, List.length_nil, List.nil_append, List.cons_append, List.append_nil, Option.toList, Nat.reduceEqDiff, Bool.false_eq_true, reduceCtorEq, Nat.reduceAdd, Nat.reduceLT, Nat.reduceLeDiff, Nat.reduceSub, List.replicate, Nat.zero_add, Nat.lt_add_one, Nat.le_refl, Nat.zero_le, Nat.succ_ne_zero, not_false_eq_true, not_true_eq_false, false_implies, true_implies, forall_const, imp_self, true_or, or_true, eq_self, sI_zw, zw_zw, hI_zw, tg_zw, ln_zw, hR_zw, hL_zw, hN_zw, hM_zw, upd_s, upd_u, upd_ne, Classical.not_not, k_Lw_addHost, hx]; try clear hgo9 hW9)
  refine hc.mono (fun oc h1 hq => ?_)
  unfold LwP at hq
  split at hq
  · obtain ⟨⟨t1, t2⟩, hq⟩ := hq
    dsimp only
    (obtain ⟨W9, hW9, hgo9⟩ := wp_ex (T_Lw_addHost l G) [] _; refine hgo9 200 _ _ _ _ ?_; simp -implicitDefEqProofs (disch := omega) only [hW9, inl, gate, Xq, tz_const, tz_iload, tz_lload, tz_dload, tz_aload, tz_istore, tz_astore, tz_lstore, tz_dstore, tz_iinc, tz_i1, tz_i2, tz_i2z, tz_l2, tz_l2z, tz_i2l, tz_l2i, tz_lcmp, tz_i2d, tz_d2, tz_dcmp, tz_dup, tz_dup2, tz_pop, tz_if, tz_icmp, tz_null, tz_goto, tz_sw, tz_getf, tz_puti, tz_putz, tz_putr, tz_putl, tz_iaload, tz_baload, tz_laload, tz_aaload, tz_iastore, tz_bastore, tz_lastore, tz_aastore, tz_alen, tz_new, tz_newa, tz_oinit, tz_iret, tz_zret, tz_lret, tz_dret, tz_aret, tz_vret, tz_throw, tz_callS, tz_callV, tz_callI, tz_callR, tz_pureS, tz_pureV, tz_callVH, lg, lset, lkill, lst1, lst2, entL, isRf, is1, vl, va_rf_none, va_rf_some, isRf_rf, is1_rf, i0, i1, bI_eq0, bI_eq1, nm_em, nI_eqP, nI_leP, nI_ltP, nN_e1, nN_e2, nN_l1, nN_l2, nN_l3, nN_l4, nI_add, pk_mul, vp_inN, nI_cl, n01, n10, P_i, P_ii, P_iii, f_Mo_at, f_Mo_map, f_Mo_contact, f_Mo_within, f_Mo_isPort, f_Hp_endpoint, f_Hp_nodeOf, f_Hp_portOf, f_Ma_max, f_Ma_min, f_Hp_isSetting, popN, rok, a1, noX, swc, mL, if_true, if_false, ↓reduceIte, cond_true, cond_false, true_and, and_true, List.length_cons, List.length_nil, List.nil_append, List.cons_append, List.append_nil, Option.toList, Nat.reduceEqDiff, Bool.false_eq_true, reduceCtorEq, Nat.reduceAdd, Nat.reduceLT, Nat.reduceLeDiff, Nat.reduceSub, List.replicate, Nat.zero_add, Nat.lt_add_one, Nat.le_refl, Nat.zero_le, Nat.succ_ne_zero, not_false_eq_true, not_true_eq_false, false_implies, true_implies, forall_const, imp_self, true_or, or_true, eq_self, sI_zw, zw_zw, hI_zw, tg_zw, ln_zw, hR_zw, hL_zw, hN_zw, hM_zw, upd_s, upd_u, upd_ne, Classical.not_not, k_Lw_addHost, t1, t2]; try clear hgo9 hW9)
    exact hq
  · obtain ⟨k, hk, hq⟩ := hq
    dsimp only
    rcases hfd1 hk with ⟨e0, e1⟩ | hk
    · subst e0
      subst e1
      rw [show hfd [("java/lang/IndexOutOfBoundsException", 12), ("java/lang/IllegalStateException", 15)] IOE = some 12 by decide +kernel]
      dsimp only
      refine ⟨_, _, hq, fun q => ?_⟩
      (obtain ⟨W9, hW9, hgo9⟩ := wp_ex (T_Lw_addHost l G) [] _; refine hgo9 200 _ _ _ _ ?_; simp -implicitDefEqProofs (disch := omega) only [hW9, inl, gate, Xq, tz_const, tz_iload, tz_lload, tz_dload, tz_aload, tz_istore, tz_astore, tz_lstore, tz_dstore, tz_iinc, tz_i1, tz_i2, tz_i2z, tz_l2, tz_l2z, tz_i2l, tz_l2i, tz_lcmp, tz_i2d, tz_d2, tz_dcmp, tz_dup, tz_dup2, tz_pop, tz_if, tz_icmp, tz_null, tz_goto, tz_sw, tz_getf, tz_puti, tz_putz, tz_putr, tz_putl, tz_iaload, tz_baload, tz_laload, tz_aaload, tz_iastore, tz_bastore, tz_lastore, tz_aastore, tz_alen, tz_new, tz_newa, tz_oinit, tz_iret, tz_zret, tz_lret, tz_dret, tz_aret, tz_vret, tz_throw, tz_callS, tz_callV, tz_callI, tz_callR, tz_pureS, tz_pureV, tz_callVH, lg, lset, lkill, lst1, lst2, entL, isRf, is1, vl, va_rf_none, va_rf_some, isRf_rf, is1_rf, i0, i1, bI_eq0, bI_eq1, nm_em, nI_eqP, nI_leP, nI_ltP, nN_e1, nN_e2, nN_l1, nN_l2, nN_l3, nN_l4, nI_add, pk_mul, vp_inN, nI_cl, n01, n10, P_i, P_ii, P_iii, f_Mo_at, f_Mo_map, f_Mo_contact, f_Mo_within, f_Mo_isPort, f_Hp_endpoint, f_Hp_nodeOf, f_Hp_portOf, f_Ma_max, f_Ma_min, f_Hp_isSetting, popN, rok, a1, noX, swc, mL, if_true, if_false, ↓reduceIte, cond_true, cond_false, true_and, and_true, List.length_cons, List.length_nil, List.nil_append, List.cons_append, List.append_nil, Option.toList, Nat.reduceEqDiff, Bool.false_eq_true, reduceCtorEq, Nat.reduceAdd, Nat.reduceLT, Nat.reduceLeDiff, Nat.reduceSub, List.replicate, Nat.zero_add, Nat.lt_add_one, Nat.le_refl, Nat.zero_le, Nat.succ_ne_zero, not_false_eq_true, not_true_eq_false, false_implies, true_implies, forall_const, imp_self, true_or, or_true, eq_self, sI_zw, zw_zw, hI_zw, tg_zw, ln_zw, hR_zw, hL_zw, hN_zw, hM_zw, upd_s, upd_u, upd_ne, Classical.not_not, k_Lw_addHost]; try clear hgo9 hW9)
    rcases hfd1 hk with ⟨e0, e1⟩ | hk
    · subst e0
      subst e1
      rw [show hfd [("java/lang/IndexOutOfBoundsException", 12), ("java/lang/IllegalStateException", 15)] ISE = some 15 by decide +kernel]
      dsimp only
      refine ⟨_, _, hq, fun q => ?_⟩
      (obtain ⟨W9, hW9, hgo9⟩ := wp_ex (T_Lw_addHost l G) [] _; refine hgo9 200 _ _ _ _ ?_; simp -implicitDefEqProofs (disch := omega) only [hW9, inl, gate, Xq, tz_const, tz_iload, tz_lload, tz_dload, tz_aload, tz_istore, tz_astore, tz_lstore, tz_dstore, tz_iinc, tz_i1, tz_i2, tz_i2z, tz_l2, tz_l2z, tz_i2l, tz_l2i, tz_lcmp, tz_i2d, tz_d2, tz_dcmp, tz_dup, tz_dup2, tz_pop, tz_if, tz_icmp, tz_null, tz_goto, tz_sw, tz_getf, tz_puti, tz_putz, tz_putr, tz_putl, tz_iaload, tz_baload, tz_laload, tz_aaload, tz_iastore, tz_bastore, tz_lastore, tz_aastore, tz_alen, tz_new, tz_newa, tz_oinit, tz_iret, tz_zret, tz_lret, tz_dret, tz_aret, tz_vret, tz_throw, tz_callS, tz_callV, tz_callI, tz_callR, tz_pureS, tz_pureV, tz_callVH, lg, lset, lkill, lst1, lst2, entL, isRf, is1, vl, va_rf_none, va_rf_some, isRf_rf, is1_rf, i0, i1, bI_eq0, bI_eq1, nm_em, nI_eqP, nI_leP, nI_ltP, nN_e1, nN_e2, nN_l1, nN_l2, nN_l3, nN_l4, nI_add, pk_mul, vp_inN, nI_cl, n01, n10, P_i, P_ii, P_iii, f_Mo_at, f_Mo_map, f_Mo_contact, f_Mo_within, f_Mo_isPort, f_Hp_endpoint, f_Hp_nodeOf, f_Hp_portOf, f_Ma_max, f_Ma_min, f_Hp_isSetting, popN, rok, a1, noX, swc, mL, if_true, if_false, ↓reduceIte, cond_true, cond_false, true_and, and_true, List.length_cons, List.length_nil, List.nil_append, List.cons_append, List.append_nil, Option.toList, Nat.reduceEqDiff, Bool.false_eq_true, reduceCtorEq, Nat.reduceAdd, Nat.reduceLT, Nat.reduceLeDiff, Nat.reduceSub, List.replicate, Nat.zero_add, Nat.lt_add_one, Nat.le_refl, Nat.zero_le, Nat.succ_ne_zero, not_false_eq_true, not_true_eq_false, false_implies, true_implies, forall_const, imp_self, true_or, or_true, eq_self, sI_zw, zw_zw, hI_zw, tg_zw, ln_zw, hR_zw, hL_zw, hN_zw, hM_zw, upd_s, upd_u, upd_ne, Classical.not_not, k_Lw_addHost]; try clear hgo9 hW9)
    exact (hfd0 hk).elim
  · exact hq.elim
theorem lw_addTranslator (x o : Nat) (p0 p1 p2 p3 : Int32) (h : AH) (Q : Po) (hx : tg h x = 6) (hc : Call l G M_Hp_addTranslator [.ref x, .int p0, .int p1, .int p2, .int p3] h (LwP Q o [(IOE, 1), (IAE, 2), (ISE, 3)])) : Call l G M_Lw_addTranslator [.ref x, .int p0, .int p1, .int p2, .int p3, .ref o] h Q := by
  refine call_ofH rfl rfl (Nat.le_of_ble_eq_true rfl) ?_
  (obtain ⟨W9, hW9, hgo9⟩ := wp_ex (T_Lw_addTranslator l G) [] _; refine hgo9 200 _ _ _ _ ?_; simp -implicitDefEqProofs (disch := omega) only [hW9, inl, gate, Xq, tz_const, tz_iload, tz_lload, tz_dload, tz_aload, tz_istore, tz_astore, tz_lstore, tz_dstore, tz_iinc, tz_i1, tz_i2, tz_i2z, tz_l2, tz_l2z, tz_i2l, tz_l2i, tz_lcmp, tz_i2d, tz_d2, tz_dcmp, tz_dup, tz_dup2, tz_pop, tz_if, tz_icmp, tz_null, tz_goto, tz_sw, tz_getf, tz_puti, tz_putz, tz_putr, tz_putl, tz_iaload, tz_baload, tz_laload, tz_aaload, tz_iastore, tz_bastore, tz_lastore, tz_aastore, tz_alen, tz_new, tz_newa, tz_oinit, tz_iret, tz_zret, tz_lret, tz_dret, tz_aret, tz_vret, tz_throw, tz_callS, tz_callV, tz_callI, tz_callR, tz_pureS, tz_pureV, tz_callVH, lg, lset, lkill, lst1, lst2, entL, isRf, is1, vl, va_rf_none, va_rf_some, isRf_rf, is1_rf, i0, i1, bI_eq0, bI_eq1, nm_em, nI_eqP, nI_leP, nI_ltP, nN_e1, nN_e2, nN_l1, nN_l2, nN_l3, nN_l4, nI_add, pk_mul, vp_inN, nI_cl, n01, n10, P_i, P_ii, P_iii, f_Mo_at, f_Mo_map, f_Mo_contact, f_Mo_within, f_Mo_isPort, f_Hp_endpoint, f_Hp_nodeOf, f_Hp_portOf, f_Ma_max, f_Ma_min, f_Hp_isSetting, popN, rok, a1, noX, swc, mL, if_true, if_false, ↓reduceIte, cond_true, cond_false, true_and, and_true, List.length_cons, List.length_nil, List.nil_append, List.cons_append, List.append_nil, Option.toList, Nat.reduceEqDiff, Bool.false_eq_true, reduceCtorEq, Nat.reduceAdd, Nat.reduceLT, Nat.reduceLeDiff, Nat.reduceSub, List.replicate, Nat.zero_add, Nat.lt_add_one, Nat.le_refl, Nat.zero_le, Nat.succ_ne_zero, not_false_eq_true, not_true_eq_false, false_implies, true_implies, forall_const, imp_self, true_or, or_true, eq_self, sI_zw, zw_zw, hI_zw, tg_zw, ln_zw, hR_zw, hL_zw, hN_zw, hM_zw, upd_s, upd_u, upd_ne, Classical.not_not, k_Lw_addTranslator, hx]; try clear hgo9 hW9)
  refine hc.mono (fun oc h1 hq => ?_)
  unfold LwP at hq
  split at hq
  · obtain ⟨⟨t1, t2⟩, hq⟩ := hq
    dsimp only
    (obtain ⟨W9, hW9, hgo9⟩ := wp_ex (T_Lw_addTranslator l G) [] _; refine hgo9 200 _ _ _ _ ?_; simp -implicitDefEqProofs (disch := omega) only [hW9, inl, gate, Xq, tz_const, tz_iload, tz_lload, tz_dload, tz_aload, tz_istore, tz_astore, tz_lstore, tz_dstore, tz_iinc, tz_i1, tz_i2, tz_i2z, tz_l2, tz_l2z, tz_i2l, tz_l2i, tz_lcmp, tz_i2d, tz_d2, tz_dcmp, tz_dup, tz_dup2, tz_pop, tz_if, tz_icmp, tz_null, tz_goto, tz_sw, tz_getf, tz_puti, tz_putz, tz_putr, tz_putl, tz_iaload, tz_baload, tz_laload, tz_aaload, tz_iastore, tz_bastore, tz_lastore, tz_aastore, tz_alen, tz_new, tz_newa, tz_oinit, tz_iret, tz_zret, tz_lret, tz_dret, tz_aret, tz_vret, tz_throw, tz_callS, tz_callV, tz_callI, tz_callR, tz_pureS, tz_pureV, tz_callVH, lg, lset, lkill, lst1, lst2, entL, isRf, is1, vl, va_rf_none, va_rf_some, isRf_rf, is1_rf, i0, i1, bI_eq0, bI_eq1, nm_em, nI_eqP, nI_leP, nI_ltP, nN_e1, nN_e2, nN_l1, nN_l2, nN_l3, nN_l4, nI_add, pk_mul, vp_inN, nI_cl, n01, n10, P_i, P_ii, P_iii, f_Mo_at, f_Mo_map, f_Mo_contact, f_Mo_within, f_Mo_isPort, f_Hp_endpoint, f_Hp_nodeOf, f_Hp_portOf, f_Ma_max, f_Ma_min, f_Hp_isSetting, popN, rok, a1, noX, swc, mL, if_true, if_false, ↓reduceIte, cond_true, cond_false, true_and, and_true, List.length_cons, List.length_nil, List.nil_append, List.cons_append, List.append_nil, Option.toList, Nat.reduceEqDiff, Bool.false_eq_true, reduceCtorEq, Nat.reduceAdd, Nat.reduceLT, Nat.reduceLeDiff, Nat.reduceSub, List.replicate, Nat.zero_add, Nat.lt_add_one, Nat.le_refl, Nat.zero_le, Nat.succ_ne_zero, not_false_eq_true, not_true_eq_false, false_implies, true_implies, forall_const, imp_self, true_or, or_true, eq_self, sI_zw, zw_zw, hI_zw, tg_zw, ln_zw, hR_zw, hL_zw, hN_zw, hM_zw, upd_s, upd_u, upd_ne, Classical.not_not, k_Lw_addTranslator, t1, t2]; try clear hgo9 hW9)
    exact hq
  · obtain ⟨k, hk, hq⟩ := hq
    dsimp only
    rcases hfd1 hk with ⟨e0, e1⟩ | hk
    · subst e0
      subst e1
      rw [show hfd [("java/lang/IndexOutOfBoundsException", 17), ("java/lang/IllegalArgumentException", 21), ("java/lang/IllegalStateException", 25)] IOE = some 17 by decide +kernel]
      dsimp only
      refine ⟨_, _, hq, fun q => ?_⟩
      (obtain ⟨W9, hW9, hgo9⟩ := wp_ex (T_Lw_addTranslator l G) [] _; refine hgo9 200 _ _ _ _ ?_; simp -implicitDefEqProofs (disch := omega) only [hW9, inl, gate, Xq, tz_const, tz_iload, tz_lload, tz_dload, tz_aload, tz_istore, tz_astore, tz_lstore, tz_dstore, tz_iinc, tz_i1, tz_i2, tz_i2z, tz_l2, tz_l2z, tz_i2l, tz_l2i, tz_lcmp, tz_i2d, tz_d2, tz_dcmp, tz_dup, tz_dup2, tz_pop, tz_if, tz_icmp, tz_null, tz_goto, tz_sw, tz_getf, tz_puti, tz_putz, tz_putr, tz_putl, tz_iaload, tz_baload, tz_laload, tz_aaload, tz_iastore, tz_bastore, tz_lastore, tz_aastore, tz_alen, tz_new, tz_newa, tz_oinit, tz_iret, tz_zret, tz_lret, tz_dret, tz_aret, tz_vret, tz_throw, tz_callS, tz_callV, tz_callI, tz_callR, tz_pureS, tz_pureV, tz_callVH, lg, lset, lkill, lst1, lst2, entL, isRf, is1, vl, va_rf_none, va_rf_some, isRf_rf, is1_rf, i0, i1, bI_eq0, bI_eq1, nm_em, nI_eqP, nI_leP, nI_ltP, nN_e1, nN_e2, nN_l1, nN_l2, nN_l3, nN_l4, nI_add, pk_mul, vp_inN, nI_cl, n01, n10, P_i, P_ii, P_iii, f_Mo_at, f_Mo_map, f_Mo_contact, f_Mo_within, f_Mo_isPort, f_Hp_endpoint, f_Hp_nodeOf, f_Hp_portOf, f_Ma_max, f_Ma_min, f_Hp_isSetting, popN, rok, a1, noX, swc, mL, if_true, if_false, ↓reduceIte, cond_true, cond_false, true_and, and_true, List.length_cons, List.length_nil, List.nil_append, List.cons_append, List.append_nil, Option.toList, Nat.reduceEqDiff, Bool.false_eq_true, reduceCtorEq, Nat.reduceAdd, Nat.reduceLT, Nat.reduceLeDiff, Nat.reduceSub, List.replicate, Nat.zero_add, Nat.lt_add_one, Nat.le_refl, Nat.zero_le, Nat.succ_ne_zero, not_false_eq_true, not_true_eq_false, false_implies, true_implies, forall_const, imp_self, true_or, or_true, eq_self, sI_zw, zw_zw, hI_zw, tg_zw, ln_zw, hR_zw, hL_zw, hN_zw, hM_zw, upd_s, upd_u, upd_ne, Classical.not_not, k_Lw_addTranslator]; try clear hgo9 hW9)
    rcases hfd1 hk with ⟨e0, e1⟩ | hk
    · subst e0
      subst e1
      rw [show hfd [("java/lang/IndexOutOfBoundsException", 17), ("java/lang/IllegalArgumentException", 21), ("java/lang/IllegalStateException", 25)] IAE = some 21 by decide +kernel]
      dsimp only
      refine ⟨_, _, hq, fun q => ?_⟩
      (obtain ⟨W9, hW9, hgo9⟩ := wp_ex (T_Lw_addTranslator l G) [] _; refine hgo9 200 _ _ _ _ ?_; simp -implicitDefEqProofs (disch := omega) only [hW9, inl, gate, Xq, tz_const, tz_iload, tz_lload, tz_dload, tz_aload, tz_istore, tz_astore, tz_lstore, tz_dstore, tz_iinc, tz_i1, tz_i2, tz_i2z, tz_l2, tz_l2z, tz_i2l, tz_l2i, tz_lcmp, tz_i2d, tz_d2, tz_dcmp, tz_dup, tz_dup2, tz_pop, tz_if, tz_icmp, tz_null, tz_goto, tz_sw, tz_getf, tz_puti, tz_putz, tz_putr, tz_putl, tz_iaload, tz_baload, tz_laload, tz_aaload, tz_iastore, tz_bastore, tz_lastore, tz_aastore, tz_alen, tz_new, tz_newa, tz_oinit, tz_iret, tz_zret, tz_lret, tz_dret, tz_aret, tz_vret, tz_throw, tz_callS, tz_callV, tz_callI, tz_callR, tz_pureS, tz_pureV, tz_callVH, lg, lset, lkill, lst1, lst2, entL, isRf, is1, vl, va_rf_none, va_rf_some, isRf_rf, is1_rf, i0, i1, bI_eq0, bI_eq1, nm_em, nI_eqP, nI_leP, nI_ltP, nN_e1, nN_e2, nN_l1, nN_l2, nN_l3, nN_l4, nI_add, pk_mul, vp_inN, nI_cl, n01, n10, P_i, P_ii, P_iii, f_Mo_at, f_Mo_map, f_Mo_contact, f_Mo_within, f_Mo_isPort, f_Hp_endpoint, f_Hp_nodeOf, f_Hp_portOf, f_Ma_max, f_Ma_min, f_Hp_isSetting, popN, rok, a1, noX, swc, mL, if_true, if_false, ↓reduceIte, cond_true, cond_false, true_and, and_true, List.length_cons, List.length_nil, List.nil_append, List.cons_append, List.append_nil, Option.toList, Nat.reduceEqDiff, Bool.false_eq_true, reduceCtorEq, Nat.reduceAdd, Nat.reduceLT, Nat.reduceLeDiff, Nat.reduceSub, List.replicate, Nat.zero_add, Nat.lt_add_one, Nat.le_refl, Nat.zero_le, Nat.succ_ne_zero, not_false_eq_true, not_true_eq_false, false_implies, true_implies, forall_const, imp_self, true_or, or_true, eq_self, sI_zw, zw_zw, hI_zw, tg_zw, ln_zw, hR_zw, hL_zw, hN_zw, hM_zw, upd_s, upd_u, upd_ne, Classical.not_not, k_Lw_addTranslator]; try clear hgo9 hW9)
    rcases hfd1 hk with ⟨e0, e1⟩ | hk
    · subst e0
      subst e1
      rw [show hfd [("java/lang/IndexOutOfBoundsException", 17), ("java/lang/IllegalArgumentException", 21), ("java/lang/IllegalStateException", 25)] ISE = some 25 by decide +kernel]
      dsimp only
      refine ⟨_, _, hq, fun q => ?_⟩
      (obtain ⟨W9, hW9, hgo9⟩ := wp_ex (T_Lw_addTranslator l G) [] _; refine hgo9 200 _ _ _ _ ?_; simp -implicitDefEqProofs (disch := omega) only [hW9, inl, gate, Xq, tz_const, tz_iload, tz_lload, tz_dload, tz_aload, tz_istore, tz_astore, tz_lstore, tz_dstore, tz_iinc, tz_i1, tz_i2, tz_i2z, tz_l2, tz_l2z, tz_i2l, tz_l2i, tz_lcmp, tz_i2d, tz_d2, tz_dcmp, tz_dup, tz_dup2, tz_pop, tz_if, tz_icmp, tz_null, tz_goto, tz_sw, tz_getf, tz_puti, tz_putz, tz_putr, tz_putl, tz_iaload, tz_baload, tz_laload, tz_aaload, tz_iastore, tz_bastore, tz_lastore, tz_aastore, tz_alen, tz_new, tz_newa, tz_oinit, tz_iret, tz_zret, tz_lret, tz_dret, tz_aret, tz_vret, tz_throw, tz_callS, tz_callV, tz_callI, tz_callR, tz_pureS, tz_pureV, tz_callVH, lg, lset, lkill, lst1, lst2, entL, isRf, is1, vl, va_rf_none, va_rf_some, isRf_rf, is1_rf, i0, i1, bI_eq0, bI_eq1, nm_em, nI_eqP, nI_leP, nI_ltP, nN_e1, nN_e2, nN_l1, nN_l2, nN_l3, nN_l4, nI_add, pk_mul, vp_inN, nI_cl, n01, n10, P_i, P_ii, P_iii, f_Mo_at, f_Mo_map, f_Mo_contact, f_Mo_within, f_Mo_isPort, f_Hp_endpoint, f_Hp_nodeOf, f_Hp_portOf, f_Ma_max, f_Ma_min, f_Hp_isSetting, popN, rok, a1, noX, swc, mL, if_true, if_false, ↓reduceIte, cond_true, cond_false, true_and, and_true, List.length_cons, List.length_nil, List.nil_append, List.cons_append, List.append_nil, Option.toList, Nat.reduceEqDiff, Bool.false_eq_true, reduceCtorEq, Nat.reduceAdd, Nat.reduceLT, Nat.reduceLeDiff, Nat.reduceSub, List.replicate, Nat.zero_add, Nat.lt_add_one, Nat.le_refl, Nat.zero_le, Nat.succ_ne_zero, not_false_eq_true, not_true_eq_false, false_implies, true_implies, forall_const, imp_self, true_or, or_true, eq_self, sI_zw, zw_zw, hI_zw, tg_zw, ln_zw, hR_zw, hL_zw, hN_zw, hM_zw, upd_s, upd_u, upd_ne, Classical.not_not, k_Lw_addTranslator]; try clear hgo9 hW9)
    exact (hfd0 hk).elim
  · exact hq.elim
theorem lw_setNumber (x o : Nat) (p0 p1 p2 : Int32) (h : AH) (Q : Po) (hx : tg h x = 6) (hc : Call l G M_Hp_setNumber [.ref x, .int p0, .int p1, .int p2] h (LwP Q o [(IOE, 1), (IAE, 2)])) : Call l G M_Lw_setNumber [.ref x, .int p0, .int p1, .int p2, .ref o] h Q := by
  refine call_ofH rfl rfl (Nat.le_of_ble_eq_true rfl) ?_
  (obtain ⟨W9, hW9, hgo9⟩ := wp_ex (T_Lw_setNumber l G) [] _; refine hgo9 200 _ _ _ _ ?_; simp -implicitDefEqProofs (disch := omega) only [hW9, inl, gate, Xq, tz_const, tz_iload, tz_lload, tz_dload, tz_aload, tz_istore, tz_astore, tz_lstore, tz_dstore, tz_iinc, tz_i1, tz_i2, tz_i2z, tz_l2, tz_l2z, tz_i2l, tz_l2i, tz_lcmp, tz_i2d, tz_d2, tz_dcmp, tz_dup, tz_dup2, tz_pop, tz_if, tz_icmp, tz_null, tz_goto, tz_sw, tz_getf, tz_puti, tz_putz, tz_putr, tz_putl, tz_iaload, tz_baload, tz_laload, tz_aaload, tz_iastore, tz_bastore, tz_lastore, tz_aastore, tz_alen, tz_new, tz_newa, tz_oinit, tz_iret, tz_zret, tz_lret, tz_dret, tz_aret, tz_vret, tz_throw, tz_callS, tz_callV, tz_callI, tz_callR, tz_pureS, tz_pureV, tz_callVH, lg, lset, lkill, lst1, lst2, entL, isRf, is1, vl, va_rf_none, va_rf_some, isRf_rf, is1_rf, i0, i1, bI_eq0, bI_eq1, nm_em, nI_eqP, nI_leP, nI_ltP, nN_e1, nN_e2, nN_l1, nN_l2, nN_l3, nN_l4, nI_add, pk_mul, vp_inN, nI_cl, n01, n10, P_i, P_ii, P_iii, f_Mo_at, f_Mo_map, f_Mo_contact, f_Mo_within, f_Mo_isPort, f_Hp_endpoint, f_Hp_nodeOf, f_Hp_portOf, f_Ma_max, f_Ma_min, f_Hp_isSetting, popN, rok, a1, noX, swc, mL, if_true, if_false, ↓reduceIte, cond_true, cond_false, true_and, and_true, List.length_cons, List.length_nil, List.nil_append, List.cons_append, List.append_nil, Option.toList, Nat.reduceEqDiff, Bool.false_eq_true, reduceCtorEq, Nat.reduceAdd, Nat.reduceLT, Nat.reduceLeDiff, Nat.reduceSub, List.replicate, Nat.zero_add, Nat.lt_add_one, Nat.le_refl, Nat.zero_le, Nat.succ_ne_zero, not_false_eq_true, not_true_eq_false, false_implies, true_implies, forall_const, imp_self, true_or, or_true, eq_self, sI_zw, zw_zw, hI_zw, tg_zw, ln_zw, hR_zw, hL_zw, hN_zw, hM_zw, upd_s, upd_u, upd_ne, Classical.not_not, k_Lw_setNumber, hx]; try clear hgo9 hW9)
  refine hc.mono (fun oc h1 hq => ?_)
  unfold LwP at hq
  split at hq
  · obtain ⟨⟨t1, t2⟩, hq⟩ := hq
    dsimp only
    (obtain ⟨W9, hW9, hgo9⟩ := wp_ex (T_Lw_setNumber l G) [] _; refine hgo9 200 _ _ _ _ ?_; simp -implicitDefEqProofs (disch := omega) only [hW9, inl, gate, Xq, tz_const, tz_iload, tz_lload, tz_dload, tz_aload, tz_istore, tz_astore, tz_lstore, tz_dstore, tz_iinc, tz_i1, tz_i2, tz_i2z, tz_l2, tz_l2z, tz_i2l, tz_l2i, tz_lcmp, tz_i2d, tz_d2, tz_dcmp, tz_dup, tz_dup2, tz_pop, tz_if, tz_icmp, tz_null, tz_goto, tz_sw, tz_getf, tz_puti, tz_putz, tz_putr, tz_putl, tz_iaload, tz_baload, tz_laload, tz_aaload, tz_iastore, tz_bastore, tz_lastore, tz_aastore, tz_alen, tz_new, tz_newa, tz_oinit, tz_iret, tz_zret, tz_lret, tz_dret, tz_aret, tz_vret, tz_throw, tz_callS, tz_callV, tz_callI, tz_callR, tz_pureS, tz_pureV, tz_callVH, lg, lset, lkill, lst1, lst2, entL, isRf, is1, vl, va_rf_none, va_rf_some, isRf_rf, is1_rf, i0, i1, bI_eq0, bI_eq1, nm_em, nI_eqP, nI_leP, nI_ltP, nN_e1, nN_e2, nN_l1, nN_l2, nN_l3, nN_l4, nI_add, pk_mul, vp_inN, nI_cl, n01, n10, P_i, P_ii, P_iii, f_Mo_at, f_Mo_map, f_Mo_contact, f_Mo_within, f_Mo_isPort, f_Hp_endpoint, f_Hp_nodeOf, f_Hp_portOf, f_Ma_max, f_Ma_min, f_Hp_isSetting, popN, rok, a1, noX, swc, mL, if_true, if_false, ↓reduceIte, cond_true, cond_false, true_and, and_true, List.length_cons, List.length_nil, List.nil_append, List.cons_append, List.append_nil, Option.toList, Nat.reduceEqDiff, Bool.false_eq_true, reduceCtorEq, Nat.reduceAdd, Nat.reduceLT, Nat.reduceLeDiff, Nat.reduceSub, List.replicate, Nat.zero_add, Nat.lt_add_one, Nat.le_refl, Nat.zero_le, Nat.succ_ne_zero, not_false_eq_true, not_true_eq_false, false_implies, true_implies, forall_const, imp_self, true_or, or_true, eq_self, sI_zw, zw_zw, hI_zw, tg_zw, ln_zw, hR_zw, hL_zw, hN_zw, hM_zw, upd_s, upd_u, upd_ne, Classical.not_not, k_Lw_setNumber, t1, t2]; try clear hgo9 hW9)
    exact hq
  · obtain ⟨k, hk, hq⟩ := hq
    dsimp only
    rcases hfd1 hk with ⟨e0, e1⟩ | hk
    · subst e0
      subst e1
      rw [show hfd [("java/lang/IndexOutOfBoundsException", 15), ("java/lang/IllegalArgumentException", 19)] IOE = some 15 by decide +kernel]
      dsimp only
      refine ⟨_, _, hq, fun q => ?_⟩
      (obtain ⟨W9, hW9, hgo9⟩ := wp_ex (T_Lw_setNumber l G) [] _; refine hgo9 200 _ _ _ _ ?_; simp -implicitDefEqProofs (disch := omega) only [hW9, inl, gate, Xq, tz_const, tz_iload, tz_lload, tz_dload, tz_aload, tz_istore, tz_astore, tz_lstore, tz_dstore, tz_iinc, tz_i1, tz_i2, tz_i2z, tz_l2, tz_l2z, tz_i2l, tz_l2i, tz_lcmp, tz_i2d, tz_d2, tz_dcmp, tz_dup, tz_dup2, tz_pop, tz_if, tz_icmp, tz_null, tz_goto, tz_sw, tz_getf, tz_puti, tz_putz, tz_putr, tz_putl, tz_iaload, tz_baload, tz_laload, tz_aaload, tz_iastore, tz_bastore, tz_lastore, tz_aastore, tz_alen, tz_new, tz_newa, tz_oinit, tz_iret, tz_zret, tz_lret, tz_dret, tz_aret, tz_vret, tz_throw, tz_callS, tz_callV, tz_callI, tz_callR, tz_pureS, tz_pureV, tz_callVH, lg, lset, lkill, lst1, lst2, entL, isRf, is1, vl, va_rf_none, va_rf_some, isRf_rf, is1_rf, i0, i1, bI_eq0, bI_eq1, nm_em, nI_eqP, nI_leP, nI_ltP, nN_e1, nN_e2, nN_l1, nN_l2, nN_l3, nN_l4, nI_add, pk_mul, vp_inN, nI_cl, n01, n10, P_i, P_ii, P_iii, f_Mo_at, f_Mo_map, f_Mo_contact, f_Mo_within, f_Mo_isPort, f_Hp_endpoint, f_Hp_nodeOf, f_Hp_portOf, f_Ma_max, f_Ma_min, f_Hp_isSetting, popN, rok, a1, noX, swc, mL, if_true, if_false, ↓reduceIte, cond_true, cond_false, true_and, and_true, List.length_cons, List.length_nil, List.nil_append, List.cons_append, List.append_nil, Option.toList, Nat.reduceEqDiff, Bool.false_eq_true, reduceCtorEq, Nat.reduceAdd, Nat.reduceLT, Nat.reduceLeDiff, Nat.reduceSub, List.replicate, Nat.zero_add, Nat.lt_add_one, Nat.le_refl, Nat.zero_le, Nat.succ_ne_zero, not_false_eq_true, not_true_eq_false, false_implies, true_implies, forall_const, imp_self, true_or, or_true, eq_self, sI_zw, zw_zw, hI_zw, tg_zw, ln_zw, hR_zw, hL_zw, hN_zw, hM_zw, upd_s, upd_u, upd_ne, Classical.not_not, k_Lw_setNumber]; try clear hgo9 hW9)
    rcases hfd1 hk with ⟨e0, e1⟩ | hk
    · subst e0
      subst e1
      rw [show hfd [("java/lang/IndexOutOfBoundsException", 15), ("java/lang/IllegalArgumentException", 19)] IAE = some 19 by decide +kernel]
      dsimp only
      refine ⟨_, _, hq, fun q => ?_⟩
      (obtain ⟨W9, hW9, hgo9⟩ := wp_ex (T_Lw_setNumber l G) [] _; refine hgo9 200 _ _ _ _ ?_; simp -implicitDefEqProofs (disch := omega) only [hW9, inl, gate, Xq, tz_const, tz_iload, tz_lload, tz_dload, tz_aload, tz_istore, tz_astore, tz_lstore, tz_dstore, tz_iinc, tz_i1, tz_i2, tz_i2z, tz_l2, tz_l2z, tz_i2l, tz_l2i, tz_lcmp, tz_i2d, tz_d2, tz_dcmp, tz_dup, tz_dup2, tz_pop, tz_if, tz_icmp, tz_null, tz_goto, tz_sw, tz_getf, tz_puti, tz_putz, tz_putr, tz_putl, tz_iaload, tz_baload, tz_laload, tz_aaload, tz_iastore, tz_bastore, tz_lastore, tz_aastore, tz_alen, tz_new, tz_newa, tz_oinit, tz_iret, tz_zret, tz_lret, tz_dret, tz_aret, tz_vret, tz_throw, tz_callS, tz_callV, tz_callI, tz_callR, tz_pureS, tz_pureV, tz_callVH, lg, lset, lkill, lst1, lst2, entL, isRf, is1, vl, va_rf_none, va_rf_some, isRf_rf, is1_rf, i0, i1, bI_eq0, bI_eq1, nm_em, nI_eqP, nI_leP, nI_ltP, nN_e1, nN_e2, nN_l1, nN_l2, nN_l3, nN_l4, nI_add, pk_mul, vp_inN, nI_cl, n01, n10, P_i, P_ii, P_iii, f_Mo_at, f_Mo_map, f_Mo_contact, f_Mo_within, f_Mo_isPort, f_Hp_endpoint, f_Hp_nodeOf, f_Hp_portOf, f_Ma_max, f_Ma_min, f_Hp_isSetting, popN, rok, a1, noX, swc, mL, if_true, if_false, ↓reduceIte, cond_true, cond_false, true_and, and_true, List.length_cons, List.length_nil, List.nil_append, List.cons_append, List.append_nil, Option.toList, Nat.reduceEqDiff, Bool.false_eq_true, reduceCtorEq, Nat.reduceAdd, Nat.reduceLT, Nat.reduceLeDiff, Nat.reduceSub, List.replicate, Nat.zero_add, Nat.lt_add_one, Nat.le_refl, Nat.zero_le, Nat.succ_ne_zero, not_false_eq_true, not_true_eq_false, false_implies, true_implies, forall_const, imp_self, true_or, or_true, eq_self, sI_zw, zw_zw, hI_zw, tg_zw, ln_zw, hR_zw, hL_zw, hN_zw, hM_zw, upd_s, upd_u, upd_ne, Classical.not_not, k_Lw_setNumber]; try clear hgo9 hW9)
    exact (hfd0 hk).elim
  · exact hq.elim
theorem lw_pass (x o : Nat) (p0 : Int32) (h : AH) (Q : Po) (hx : tg h x = 6) (hc : Call l G M_Hp_pass [.ref x, .int p0] h (LwP Q o [(IAE, 1), (ISE, 2)])) : Call l G M_Lw_pass [.ref x, .int p0, .ref o] h Q := by
  refine call_ofH rfl rfl (Nat.le_of_ble_eq_true rfl) ?_
  (obtain ⟨W9, hW9, hgo9⟩ := wp_ex (T_Lw_pass l G) [] _; refine hgo9 200 _ _ _ _ ?_; simp -implicitDefEqProofs (disch := omega) only [hW9, inl, gate, Xq, tz_const, tz_iload, tz_lload, tz_dload, tz_aload, tz_istore, tz_astore, tz_lstore, tz_dstore, tz_iinc, tz_i1, tz_i2, tz_i2z, tz_l2, tz_l2z, tz_i2l, tz_l2i, tz_lcmp, tz_i2d, tz_d2, tz_dcmp, tz_dup, tz_dup2, tz_pop, tz_if, tz_icmp, tz_null, tz_goto, tz_sw, tz_getf, tz_puti, tz_putz, tz_putr, tz_putl, tz_iaload, tz_baload, tz_laload, tz_aaload, tz_iastore, tz_bastore, tz_lastore, tz_aastore, tz_alen, tz_new, tz_newa, tz_oinit, tz_iret, tz_zret, tz_lret, tz_dret, tz_aret, tz_vret, tz_throw, tz_callS, tz_callV, tz_callI, tz_callR, tz_pureS, tz_pureV, tz_callVH, lg, lset, lkill, lst1, lst2, entL, isRf, is1, vl, va_rf_none, va_rf_some, isRf_rf, is1_rf, i0, i1, bI_eq0, bI_eq1, nm_em, nI_eqP, nI_leP, nI_ltP, nN_e1, nN_e2, nN_l1, nN_l2, nN_l3, nN_l4, nI_add, pk_mul, vp_inN, nI_cl, n01, n10, P_i, P_ii, P_iii, f_Mo_at, f_Mo_map, f_Mo_contact, f_Mo_within, f_Mo_isPort, f_Hp_endpoint, f_Hp_nodeOf, f_Hp_portOf, f_Ma_max, f_Ma_min, f_Hp_isSetting, popN, rok, a1, noX, swc, mL, if_true, if_false, ↓reduceIte, cond_true, cond_false, true_and, and_true, List.length_cons, List.length_nil, List.nil_append, List.cons_append, List.append_nil, Option.toList, Nat.reduceEqDiff, Bool.false_eq_true, reduceCtorEq, Nat.reduceAdd, Nat.reduceLT, Nat.reduceLeDiff, Nat.reduceSub, List.replicate, Nat.zero_add, Nat.lt_add_one, Nat.le_refl, Nat.zero_le, Nat.succ_ne_zero, not_false_eq_true, not_true_eq_false, false_implies, true_implies, forall_const, imp_self, true_or, or_true, eq_self, sI_zw, zw_zw, hI_zw, tg_zw, ln_zw, hR_zw, hL_zw, hN_zw, hM_zw, upd_s, upd_u, upd_ne, Classical.not_not, k_Lw_pass, hx]; try clear hgo9 hW9)
  refine hc.mono (fun oc h1 hq => ?_)
  unfold LwP at hq
  split at hq
  · obtain ⟨⟨t1, t2⟩, hq⟩ := hq
    dsimp only
    (obtain ⟨W9, hW9, hgo9⟩ := wp_ex (T_Lw_pass l G) [] _; refine hgo9 200 _ _ _ _ ?_; simp -implicitDefEqProofs (disch := omega) only [hW9, inl, gate, Xq, tz_const, tz_iload, tz_lload, tz_dload, tz_aload, tz_istore, tz_astore, tz_lstore, tz_dstore, tz_iinc, tz_i1, tz_i2, tz_i2z, tz_l2, tz_l2z, tz_i2l, tz_l2i, tz_lcmp, tz_i2d, tz_d2, tz_dcmp, tz_dup, tz_dup2, tz_pop, tz_if, tz_icmp, tz_null, tz_goto, tz_sw, tz_getf, tz_puti, tz_putz, tz_putr, tz_putl, tz_iaload, tz_baload, tz_laload, tz_aaload, tz_iastore, tz_bastore, tz_lastore, tz_aastore, tz_alen, tz_new, tz_newa, tz_oinit, tz_iret, tz_zret, tz_lret, tz_dret, tz_aret, tz_vret, tz_throw, tz_callS, tz_callV, tz_callI, tz_callR, tz_pureS, tz_pureV, tz_callVH, lg, lset, lkill, lst1, lst2, entL, isRf, is1, vl, va_rf_none, va_rf_some, isRf_rf, is1_rf, i0, i1, bI_eq0, bI_eq1, nm_em, nI_eqP, nI_leP, nI_ltP, nN_e1, nN_e2, nN_l1, nN_l2, nN_l3, nN_l4, nI_add, pk_mul, vp_inN, nI_cl, n01, n10, P_i, P_ii, P_iii, f_Mo_at, f_Mo_map, f_Mo_contact, f_Mo_within, f_Mo_isPort, f_Hp_endpoint, f_Hp_nodeOf, f_Hp_portOf, f_Ma_max, f_Ma_min, f_Hp_isSetting, popN, rok, a1, noX, swc, mL, if_true, if_false, ↓reduceIte, cond_true, cond_false, true_and, and_true, List.length_cons, List.length_nil, List.nil_append, List.cons_append, List.append_nil, Option.toList, Nat.reduceEqDiff, Bool.false_eq_true, reduceCtorEq, Nat.reduceAdd, Nat.reduceLT, Nat.reduceLeDiff, Nat.reduceSub, List.replicate, Nat.zero_add, Nat.lt_add_one, Nat.le_refl, Nat.zero_le, Nat.succ_ne_zero, not_false_eq_true, not_true_eq_false, false_implies, true_implies, forall_const, imp_self, true_or, or_true, eq_self, sI_zw, zw_zw, hI_zw, tg_zw, ln_zw, hR_zw, hL_zw, hN_zw, hM_zw, upd_s, upd_u, upd_ne, Classical.not_not, k_Lw_pass, t1, t2]; try clear hgo9 hW9)
    exact hq
  · obtain ⟨k, hk, hq⟩ := hq
    dsimp only
    rcases hfd1 hk with ⟨e0, e1⟩ | hk
    · subst e0
      subst e1
      rw [show hfd [("java/lang/IllegalArgumentException", 12), ("java/lang/IllegalStateException", 15)] IAE = some 12 by decide +kernel]
      dsimp only
      refine ⟨_, _, hq, fun q => ?_⟩
      (obtain ⟨W9, hW9, hgo9⟩ := wp_ex (T_Lw_pass l G) [] _; refine hgo9 200 _ _ _ _ ?_; simp -implicitDefEqProofs (disch := omega) only [hW9, inl, gate, Xq, tz_const, tz_iload, tz_lload, tz_dload, tz_aload, tz_istore, tz_astore, tz_lstore, tz_dstore, tz_iinc, tz_i1, tz_i2, tz_i2z, tz_l2, tz_l2z, tz_i2l, tz_l2i, tz_lcmp, tz_i2d, tz_d2, tz_dcmp, tz_dup, tz_dup2, tz_pop, tz_if, tz_icmp, tz_null, tz_goto, tz_sw, tz_getf, tz_puti, tz_putz, tz_putr, tz_putl, tz_iaload, tz_baload, tz_laload, tz_aaload, tz_iastore, tz_bastore, tz_lastore, tz_aastore, tz_alen, tz_new, tz_newa, tz_oinit, tz_iret, tz_zret, tz_lret, tz_dret, tz_aret, tz_vret, tz_throw, tz_callS, tz_callV, tz_callI, tz_callR, tz_pureS, tz_pureV, tz_callVH, lg, lset, lkill, lst1, lst2, entL, isRf, is1, vl, va_rf_none, va_rf_some, isRf_rf, is1_rf, i0, i1, bI_eq0, bI_eq1, nm_em, nI_eqP, nI_leP, nI_ltP, nN_e1, nN_e2, nN_l1, nN_l2, nN_l3, nN_l4, nI_add, pk_mul, vp_inN, nI_cl, n01, n10, P_i, P_ii, P_iii, f_Mo_at, f_Mo_map, f_Mo_contact, f_Mo_within, f_Mo_isPort, f_Hp_endpoint, f_Hp_nodeOf, f_Hp_portOf, f_Ma_max, f_Ma_min, f_Hp_isSetting, popN, rok, a1, noX, swc, mL, if_true, if_false, ↓reduceIte, cond_true, cond_false, true_and, and_true, List.length_cons, List.length_nil, List.nil_append, List.cons_append, List.append_nil, Option.toList, Nat.reduceEqDiff, Bool.false_eq_true, reduceCtorEq, Nat.reduceAdd, Nat.reduceLT, Nat.reduceLeDiff, Nat.reduceSub, List.replicate, Nat.zero_add, Nat.lt_add_one, Nat.le_refl, Nat.zero_le, Nat.succ_ne_zero, not_false_eq_true, not_true_eq_false, false_implies, true_implies, forall_const, imp_self, true_or, or_true, eq_self, sI_zw, zw_zw, hI_zw, tg_zw, ln_zw, hR_zw, hL_zw, hN_zw, hM_zw, upd_s, upd_u, upd_ne, Classical.not_not, k_Lw_pass]; try clear hgo9 hW9)
    rcases hfd1 hk with ⟨e0, e1⟩ | hk
    · subst e0
      subst e1
      rw [show hfd [("java/lang/IllegalArgumentException", 12), ("java/lang/IllegalStateException", 15)] ISE = some 15 by decide +kernel]
      dsimp only
      refine ⟨_, _, hq, fun q => ?_⟩
      (obtain ⟨W9, hW9, hgo9⟩ := wp_ex (T_Lw_pass l G) [] _; refine hgo9 200 _ _ _ _ ?_; simp -implicitDefEqProofs (disch := omega) only [hW9, inl, gate, Xq, tz_const, tz_iload, tz_lload, tz_dload, tz_aload, tz_istore, tz_astore, tz_lstore, tz_dstore, tz_iinc, tz_i1, tz_i2, tz_i2z, tz_l2, tz_l2z, tz_i2l, tz_l2i, tz_lcmp, tz_i2d, tz_d2, tz_dcmp, tz_dup, tz_dup2, tz_pop, tz_if, tz_icmp, tz_null, tz_goto, tz_sw, tz_getf, tz_puti, tz_putz, tz_putr, tz_putl, tz_iaload, tz_baload, tz_laload, tz_aaload, tz_iastore, tz_bastore, tz_lastore, tz_aastore, tz_alen, tz_new, tz_newa, tz_oinit, tz_iret, tz_zret, tz_lret, tz_dret, tz_aret, tz_vret, tz_throw, tz_callS, tz_callV, tz_callI, tz_callR, tz_pureS, tz_pureV, tz_callVH, lg, lset, lkill, lst1, lst2, entL, isRf, is1, vl, va_rf_none, va_rf_some, isRf_rf, is1_rf, i0, i1, bI_eq0, bI_eq1, nm_em, nI_eqP, nI_leP, nI_ltP, nN_e1, nN_e2, nN_l1, nN_l2, nN_l3, nN_l4, nI_add, pk_mul, vp_inN, nI_cl, n01, n10, P_i, P_ii, P_iii, f_Mo_at, f_Mo_map, f_Mo_contact, f_Mo_within, f_Mo_isPort, f_Hp_endpoint, f_Hp_nodeOf, f_Hp_portOf, f_Ma_max, f_Ma_min, f_Hp_isSetting, popN, rok, a1, noX, swc, mL, if_true, if_false, ↓reduceIte, cond_true, cond_false, true_and, and_true, List.length_cons, List.length_nil, List.nil_append, List.cons_append, List.append_nil, Option.toList, Nat.reduceEqDiff, Bool.false_eq_true, reduceCtorEq, Nat.reduceAdd, Nat.reduceLT, Nat.reduceLeDiff, Nat.reduceSub, List.replicate, Nat.zero_add, Nat.lt_add_one, Nat.le_refl, Nat.zero_le, Nat.succ_ne_zero, not_false_eq_true, not_true_eq_false, false_implies, true_implies, forall_const, imp_self, true_or, or_true, eq_self, sI_zw, zw_zw, hI_zw, tg_zw, ln_zw, hR_zw, hL_zw, hN_zw, hM_zw, upd_s, upd_u, upd_ne, Classical.not_not, k_Lw_pass]; try clear hgo9 hW9)
    exact (hfd0 hk).elim
  · exact hq.elim
theorem lw_restore (x o : Nat) (h : AH) (Q : Po) (hx : tg h x = 6) (hc : Call l G M_Hp_restore [.ref x] h (LwP Q o [(ISE, 1)])) : Call l G M_Lw_restore [.ref x, .ref o] h Q := by
  refine call_ofH rfl rfl (Nat.le_of_ble_eq_true rfl) ?_
  (obtain ⟨W9, hW9, hgo9⟩ := wp_ex (T_Lw_restore l G) [] _; refine hgo9 200 _ _ _ _ ?_; simp -implicitDefEqProofs (disch := omega) only [hW9, inl, gate, Xq, tz_const, tz_iload, tz_lload, tz_dload, tz_aload, tz_istore, tz_astore, tz_lstore, tz_dstore, tz_iinc, tz_i1, tz_i2, tz_i2z, tz_l2, tz_l2z, tz_i2l, tz_l2i, tz_lcmp, tz_i2d, tz_d2, tz_dcmp, tz_dup, tz_dup2, tz_pop, tz_if, tz_icmp, tz_null, tz_goto, tz_sw, tz_getf, tz_puti, tz_putz, tz_putr, tz_putl, tz_iaload, tz_baload, tz_laload, tz_aaload, tz_iastore, tz_bastore, tz_lastore, tz_aastore, tz_alen, tz_new, tz_newa, tz_oinit, tz_iret, tz_zret, tz_lret, tz_dret, tz_aret, tz_vret, tz_throw, tz_callS, tz_callV, tz_callI, tz_callR, tz_pureS, tz_pureV, tz_callVH, lg, lset, lkill, lst1, lst2, entL, isRf, is1, vl, va_rf_none, va_rf_some, isRf_rf, is1_rf, i0, i1, bI_eq0, bI_eq1, nm_em, nI_eqP, nI_leP, nI_ltP, nN_e1, nN_e2, nN_l1, nN_l2, nN_l3, nN_l4, nI_add, pk_mul, vp_inN, nI_cl, n01, n10, P_i, P_ii, P_iii, f_Mo_at, f_Mo_map, f_Mo_contact, f_Mo_within, f_Mo_isPort, f_Hp_endpoint, f_Hp_nodeOf, f_Hp_portOf, f_Ma_max, f_Ma_min, f_Hp_isSetting, popN, rok, a1, noX, swc, mL, if_true, if_false, ↓reduceIte, cond_true, cond_false, true_and, and_true, List.length_cons, List.length_nil, List.nil_append, List.cons_append, List.append_nil, Option.toList, Nat.reduceEqDiff, Bool.false_eq_true, reduceCtorEq, Nat.reduceAdd, Nat.reduceLT, Nat.reduceLeDiff, Nat.reduceSub, List.replicate, Nat.zero_add, Nat.lt_add_one, Nat.le_refl, Nat.zero_le, Nat.succ_ne_zero, not_false_eq_true, not_true_eq_false, false_implies, true_implies, forall_const, imp_self, true_or, or_true, eq_self, sI_zw, zw_zw, hI_zw, tg_zw, ln_zw, hR_zw, hL_zw, hN_zw, hM_zw, upd_s, upd_u, upd_ne, Classical.not_not, k_Lw_restore, hx]; try clear hgo9 hW9)
  refine hc.mono (fun oc h1 hq => ?_)
  unfold LwP at hq
  split at hq
  · obtain ⟨⟨t1, t2⟩, hq⟩ := hq
    dsimp only
    (obtain ⟨W9, hW9, hgo9⟩ := wp_ex (T_Lw_restore l G) [] _; refine hgo9 200 _ _ _ _ ?_; simp -implicitDefEqProofs (disch := omega) only [hW9, inl, gate, Xq, tz_const, tz_iload, tz_lload, tz_dload, tz_aload, tz_istore, tz_astore, tz_lstore, tz_dstore, tz_iinc, tz_i1, tz_i2, tz_i2z, tz_l2, tz_l2z, tz_i2l, tz_l2i, tz_lcmp, tz_i2d, tz_d2, tz_dcmp, tz_dup, tz_dup2, tz_pop, tz_if, tz_icmp, tz_null, tz_goto, tz_sw, tz_getf, tz_puti, tz_putz, tz_putr, tz_putl, tz_iaload, tz_baload, tz_laload, tz_aaload, tz_iastore, tz_bastore, tz_lastore, tz_aastore, tz_alen, tz_new, tz_newa, tz_oinit, tz_iret, tz_zret, tz_lret, tz_dret, tz_aret, tz_vret, tz_throw, tz_callS, tz_callV, tz_callI, tz_callR, tz_pureS, tz_pureV, tz_callVH, lg, lset, lkill, lst1, lst2, entL, isRf, is1, vl, va_rf_none, va_rf_some, isRf_rf, is1_rf, i0, i1, bI_eq0, bI_eq1, nm_em, nI_eqP, nI_leP, nI_ltP, nN_e1, nN_e2, nN_l1, nN_l2, nN_l3, nN_l4, nI_add, pk_mul, vp_inN, nI_cl, n01, n10, P_i, P_ii, P_iii, f_Mo_at, f_Mo_map, f_Mo_contact, f_Mo_within, f_Mo_isPort, f_Hp_endpoint, f_Hp_nodeOf, f_Hp_portOf, f_Ma_max, f_Ma_min, f_Hp_isSetting, popN, rok, a1, noX, swc, mL, if_true, if_false, ↓reduceIte, cond_true, cond_false, true_and, and_true, List.length_cons, List.length_nil, List.nil_append, List.cons_append, List.append_nil, Option.toList, Nat.reduceEqDiff, Bool.false_eq_true, reduceCtorEq, Nat.reduceAdd, Nat.reduceLT, Nat.reduceLeDiff, Nat.reduceSub, List.replicate, Nat.zero_add, Nat.lt_add_one, Nat.le_refl, Nat.zero_le, Nat.succ_ne_zero, not_false_eq_true, not_true_eq_false, false_implies, true_implies, forall_const, imp_self, true_or, or_true, eq_self, sI_zw, zw_zw, hI_zw, tg_zw, ln_zw, hR_zw, hL_zw, hN_zw, hM_zw, upd_s, upd_u, upd_ne, Classical.not_not, k_Lw_restore, t1, t2]; try clear hgo9 hW9)
    exact hq
  · obtain ⟨k, hk, hq⟩ := hq
    dsimp only
    rcases hfd1 hk with ⟨e0, e1⟩ | hk
    · subst e0
      subst e1
      rw [show hfd [("java/lang/IllegalStateException", 11)] ISE = some 11 by decide +kernel]
      dsimp only
      refine ⟨_, _, hq, fun q => ?_⟩
      (obtain ⟨W9, hW9, hgo9⟩ := wp_ex (T_Lw_restore l G) [] _; refine hgo9 200 _ _ _ _ ?_; simp -implicitDefEqProofs (disch := omega) only [hW9, inl, gate, Xq, tz_const, tz_iload, tz_lload, tz_dload, tz_aload, tz_istore, tz_astore, tz_lstore, tz_dstore, tz_iinc, tz_i1, tz_i2, tz_i2z, tz_l2, tz_l2z, tz_i2l, tz_l2i, tz_lcmp, tz_i2d, tz_d2, tz_dcmp, tz_dup, tz_dup2, tz_pop, tz_if, tz_icmp, tz_null, tz_goto, tz_sw, tz_getf, tz_puti, tz_putz, tz_putr, tz_putl, tz_iaload, tz_baload, tz_laload, tz_aaload, tz_iastore, tz_bastore, tz_lastore, tz_aastore, tz_alen, tz_new, tz_newa, tz_oinit, tz_iret, tz_zret, tz_lret, tz_dret, tz_aret, tz_vret, tz_throw, tz_callS, tz_callV, tz_callI, tz_callR, tz_pureS, tz_pureV, tz_callVH, lg, lset, lkill, lst1, lst2, entL, isRf, is1, vl, va_rf_none, va_rf_some, isRf_rf, is1_rf, i0, i1, bI_eq0, bI_eq1, nm_em, nI_eqP, nI_leP, nI_ltP, nN_e1, nN_e2, nN_l1, nN_l2, nN_l3, nN_l4, nI_add, pk_mul, vp_inN, nI_cl, n01, n10, P_i, P_ii, P_iii, f_Mo_at, f_Mo_map, f_Mo_contact, f_Mo_within, f_Mo_isPort, f_Hp_endpoint, f_Hp_nodeOf, f_Hp_portOf, f_Ma_max, f_Ma_min, f_Hp_isSetting, popN, rok, a1, noX, swc, mL, if_true, if_false, ↓reduceIte, cond_true, cond_false, true_and, and_true, List.length_cons, List.length_nil, List.nil_append, List.cons_append, List.append_nil, Option.toList, Nat.reduceEqDiff, Bool.false_eq_true, reduceCtorEq, Nat.reduceAdd, Nat.reduceLT, Nat.reduceLeDiff, Nat.reduceSub, List.replicate, Nat.zero_add, Nat.lt_add_one, Nat.le_refl, Nat.zero_le, Nat.succ_ne_zero, not_false_eq_true, not_true_eq_false, false_implies, true_implies, forall_const, imp_self, true_or, or_true, eq_self, sI_zw, zw_zw, hI_zw, tg_zw, ln_zw, hR_zw, hL_zw, hN_zw, hM_zw, upd_s, upd_u, upd_ne, Classical.not_not, k_Lw_restore]; try clear hgo9 hW9)
    exact (hfd0 hk).elim
  · exact hq.elim
theorem lw_append (x o : Nat) (p0 : Int32) (h : AH) (Q : Po) (hx : tg h x = 6) (hc : Call l G M_Hp_append [.ref x, .int p0] h (LwP Q o [(IAE, 1), (ISE, 2)])) : Call l G M_Lw_append [.ref x, .int p0, .ref o] h Q := by
  refine call_ofH rfl rfl (Nat.le_of_ble_eq_true rfl) ?_
  (obtain ⟨W9, hW9, hgo9⟩ := wp_ex (T_Lw_append l G) [] _; refine hgo9 200 _ _ _ _ ?_; simp -implicitDefEqProofs (disch := omega) only [hW9, inl, gate, Xq, tz_const, tz_iload, tz_lload, tz_dload, tz_aload, tz_istore, tz_astore, tz_lstore, tz_dstore, tz_iinc, tz_i1, tz_i2, tz_i2z, tz_l2, tz_l2z, tz_i2l, tz_l2i, tz_lcmp, tz_i2d, tz_d2, tz_dcmp, tz_dup, tz_dup2, tz_pop, tz_if, tz_icmp, tz_null, tz_goto, tz_sw, tz_getf, tz_puti, tz_putz, tz_putr, tz_putl, tz_iaload, tz_baload, tz_laload, tz_aaload, tz_iastore, tz_bastore, tz_lastore, tz_aastore, tz_alen, tz_new, tz_newa, tz_oinit, tz_iret, tz_zret, tz_lret, tz_dret, tz_aret, tz_vret, tz_throw, tz_callS, tz_callV, tz_callI, tz_callR, tz_pureS, tz_pureV, tz_callVH, lg, lset, lkill, lst1, lst2, entL, isRf, is1, vl, va_rf_none, va_rf_some, isRf_rf, is1_rf, i0, i1, bI_eq0, bI_eq1, nm_em, nI_eqP, nI_leP, nI_ltP, nN_e1, nN_e2, nN_l1, nN_l2, nN_l3, nN_l4, nI_add, pk_mul, vp_inN, nI_cl, n01, n10, P_i, P_ii, P_iii, f_Mo_at, f_Mo_map, f_Mo_contact, f_Mo_within, f_Mo_isPort, f_Hp_endpoint, f_Hp_nodeOf, f_Hp_portOf, f_Ma_max, f_Ma_min, f_Hp_isSetting, popN, rok, a1, noX, swc, mL, if_true, if_false, ↓reduceIte, cond_true, cond_false, true_and, and_true, List.length_cons, List.length_nil, List.nil_append, List.cons_append, List.append_nil, Option.toList, Nat.reduceEqDiff, Bool.false_eq_true, reduceCtorEq, Nat.reduceAdd, Nat.reduceLT, Nat.reduceLeDiff, Nat.reduceSub, List.replicate, Nat.zero_add, Nat.lt_add_one, Nat.le_refl, Nat.zero_le, Nat.succ_ne_zero, not_false_eq_true, not_true_eq_false, false_implies, true_implies, forall_const, imp_self, true_or, or_true, eq_self, sI_zw, zw_zw, hI_zw, tg_zw, ln_zw, hR_zw, hL_zw, hN_zw, hM_zw, upd_s, upd_u, upd_ne, Classical.not_not, k_Lw_append, hx]; try clear hgo9 hW9)
  refine hc.mono (fun oc h1 hq => ?_)
  unfold LwP at hq
  split at hq
  · obtain ⟨⟨t1, t2⟩, hq⟩ := hq
    dsimp only
    (obtain ⟨W9, hW9, hgo9⟩ := wp_ex (T_Lw_append l G) [] _; refine hgo9 200 _ _ _ _ ?_; simp -implicitDefEqProofs (disch := omega) only [hW9, inl, gate, Xq, tz_const, tz_iload, tz_lload, tz_dload, tz_aload, tz_istore, tz_astore, tz_lstore, tz_dstore, tz_iinc, tz_i1, tz_i2, tz_i2z, tz_l2, tz_l2z, tz_i2l, tz_l2i, tz_lcmp, tz_i2d, tz_d2, tz_dcmp, tz_dup, tz_dup2, tz_pop, tz_if, tz_icmp, tz_null, tz_goto, tz_sw, tz_getf, tz_puti, tz_putz, tz_putr, tz_putl, tz_iaload, tz_baload, tz_laload, tz_aaload, tz_iastore, tz_bastore, tz_lastore, tz_aastore, tz_alen, tz_new, tz_newa, tz_oinit, tz_iret, tz_zret, tz_lret, tz_dret, tz_aret, tz_vret, tz_throw, tz_callS, tz_callV, tz_callI, tz_callR, tz_pureS, tz_pureV, tz_callVH, lg, lset, lkill, lst1, lst2, entL, isRf, is1, vl, va_rf_none, va_rf_some, isRf_rf, is1_rf, i0, i1, bI_eq0, bI_eq1, nm_em, nI_eqP, nI_leP, nI_ltP, nN_e1, nN_e2, nN_l1, nN_l2, nN_l3, nN_l4, nI_add, pk_mul, vp_inN, nI_cl, n01, n10, P_i, P_ii, P_iii, f_Mo_at, f_Mo_map, f_Mo_contact, f_Mo_within, f_Mo_isPort, f_Hp_endpoint, f_Hp_nodeOf, f_Hp_portOf, f_Ma_max, f_Ma_min, f_Hp_isSetting, popN, rok, a1, noX, swc, mL, if_true, if_false, ↓reduceIte, cond_true, cond_false, true_and, and_true, List.length_cons, List.length_nil, List.nil_append, List.cons_append, List.append_nil, Option.toList, Nat.reduceEqDiff, Bool.false_eq_true, reduceCtorEq, Nat.reduceAdd, Nat.reduceLT, Nat.reduceLeDiff, Nat.reduceSub, List.replicate, Nat.zero_add, Nat.lt_add_one, Nat.le_refl, Nat.zero_le, Nat.succ_ne_zero, not_false_eq_true, not_true_eq_false, false_implies, true_implies, forall_const, imp_self, true_or, or_true, eq_self, sI_zw, zw_zw, hI_zw, tg_zw, ln_zw, hR_zw, hL_zw, hN_zw, hM_zw, upd_s, upd_u, upd_ne, Classical.not_not, k_Lw_append, t1, t2]; try clear hgo9 hW9)
    exact hq
  · obtain ⟨k, hk, hq⟩ := hq
    dsimp only
    rcases hfd1 hk with ⟨e0, e1⟩ | hk
    · subst e0
      subst e1
      rw [show hfd [("java/lang/IllegalArgumentException", 12), ("java/lang/IllegalStateException", 15)] IAE = some 12 by decide +kernel]
      dsimp only
      refine ⟨_, _, hq, fun q => ?_⟩
      (obtain ⟨W9, hW9, hgo9⟩ := wp_ex (T_Lw_append l G) [] _; refine hgo9 200 _ _ _ _ ?_; simp -implicitDefEqProofs (disch := omega) only [hW9, inl, gate, Xq, tz_const, tz_iload, tz_lload, tz_dload, tz_aload, tz_istore, tz_astore, tz_lstore, tz_dstore, tz_iinc, tz_i1, tz_i2, tz_i2z, tz_l2, tz_l2z, tz_i2l, tz_l2i, tz_lcmp, tz_i2d, tz_d2, tz_dcmp, tz_dup, tz_dup2, tz_pop, tz_if, tz_icmp, tz_null, tz_goto, tz_sw, tz_getf, tz_puti, tz_putz, tz_putr, tz_putl, tz_iaload, tz_baload, tz_laload, tz_aaload, tz_iastore, tz_bastore, tz_lastore, tz_aastore, tz_alen, tz_new, tz_newa, tz_oinit, tz_iret, tz_zret, tz_lret, tz_dret, tz_aret, tz_vret, tz_throw, tz_callS, tz_callV, tz_callI, tz_callR, tz_pureS, tz_pureV, tz_callVH, lg, lset, lkill, lst1, lst2, entL, isRf, is1, vl, va_rf_none, va_rf_some, isRf_rf, is1_rf, i0, i1, bI_eq0, bI_eq1, nm_em, nI_eqP, nI_leP, nI_ltP, nN_e1, nN_e2, nN_l1, nN_l2, nN_l3, nN_l4, nI_add, pk_mul, vp_inN, nI_cl, n01, n10, P_i, P_ii, P_iii, f_Mo_at, f_Mo_map, f_Mo_contact, f_Mo_within, f_Mo_isPort, f_Hp_endpoint, f_Hp_nodeOf, f_Hp_portOf, f_Ma_max, f_Ma_min, f_Hp_isSetting, popN, rok, a1, noX, swc, mL, if_true, if_false, ↓reduceIte, cond_true, cond_false, true_and, and_true, List.length_cons, List.length_nil, List.nil_append, List.cons_append, List.append_nil, Option.toList, Nat.reduceEqDiff, Bool.false_eq_true, reduceCtorEq, Nat.reduceAdd, Nat.reduceLT, Nat.reduceLeDiff, Nat.reduceSub, List.replicate, Nat.zero_add, Nat.lt_add_one, Nat.le_refl, Nat.zero_le, Nat.succ_ne_zero, not_false_eq_true, not_true_eq_false, false_implies, true_implies, forall_const, imp_self, true_or, or_true, eq_self, sI_zw, zw_zw, hI_zw, tg_zw, ln_zw, hR_zw, hL_zw, hN_zw, hM_zw, upd_s, upd_u, upd_ne, Classical.not_not, k_Lw_append]; try clear hgo9 hW9)
    rcases hfd1 hk with ⟨e0, e1⟩ | hk
    · subst e0
      subst e1
      rw [show hfd [("java/lang/IllegalArgumentException", 12), ("java/lang/IllegalStateException", 15)] ISE = some 15 by decide +kernel]
      dsimp only
      refine ⟨_, _, hq, fun q => ?_⟩
      (obtain ⟨W9, hW9, hgo9⟩ := wp_ex (T_Lw_append l G) [] _; refine hgo9 200 _ _ _ _ ?_; simp -implicitDefEqProofs (disch := omega) only [hW9, inl, gate, Xq, tz_const, tz_iload, tz_lload, tz_dload, tz_aload, tz_istore, tz_astore, tz_lstore, tz_dstore, tz_iinc, tz_i1, tz_i2, tz_i2z, tz_l2, tz_l2z, tz_i2l, tz_l2i, tz_lcmp, tz_i2d, tz_d2, tz_dcmp, tz_dup, tz_dup2, tz_pop, tz_if, tz_icmp, tz_null, tz_goto, tz_sw, tz_getf, tz_puti, tz_putz, tz_putr, tz_putl, tz_iaload, tz_baload, tz_laload, tz_aaload, tz_iastore, tz_bastore, tz_lastore, tz_aastore, tz_alen, tz_new, tz_newa, tz_oinit, tz_iret, tz_zret, tz_lret, tz_dret, tz_aret, tz_vret, tz_throw, tz_callS, tz_callV, tz_callI, tz_callR, tz_pureS, tz_pureV, tz_callVH, lg, lset, lkill, lst1, lst2, entL, isRf, is1, vl, va_rf_none, va_rf_some, isRf_rf, is1_rf, i0, i1, bI_eq0, bI_eq1, nm_em, nI_eqP, nI_leP, nI_ltP, nN_e1, nN_e2, nN_l1, nN_l2, nN_l3, nN_l4, nI_add, pk_mul, vp_inN, nI_cl, n01, n10, P_i, P_ii, P_iii, f_Mo_at, f_Mo_map, f_Mo_contact, f_Mo_within, f_Mo_isPort, f_Hp_endpoint, f_Hp_nodeOf, f_Hp_portOf, f_Ma_max, f_Ma_min, f_Hp_isSetting, popN, rok, a1, noX, swc, mL, if_true, if_false, ↓reduceIte, cond_true, cond_false, true_and, and_true, List.length_cons, List.length_nil, List.nil_append, List.cons_append, List.append_nil, Option.toList, Nat.reduceEqDiff, Bool.false_eq_true, reduceCtorEq, Nat.reduceAdd, Nat.reduceLT, Nat.reduceLeDiff, Nat.reduceSub, List.replicate, Nat.zero_add, Nat.lt_add_one, Nat.le_refl, Nat.zero_le, Nat.succ_ne_zero, not_false_eq_true, not_true_eq_false, false_implies, true_implies, forall_const, imp_self, true_or, or_true, eq_self, sI_zw, zw_zw, hI_zw, tg_zw, ln_zw, hR_zw, hL_zw, hN_zw, hM_zw, upd_s, upd_u, upd_ne, Classical.not_not, k_Lw_append]; try clear hgo9 hW9)
    exact (hfd0 hk).elim
  · exact hq.elim
theorem lw_load (x o : Nat) (h : AH) (Q : Po) (hx : tg h x = 6) (hc : Call l G M_Hp_load [.ref x] h (LwP Q o [(IAE, 1)])) : Call l G M_Lw_load [.ref x, .ref o] h Q := by
  refine call_ofH rfl rfl (Nat.le_of_ble_eq_true rfl) ?_
  (obtain ⟨W9, hW9, hgo9⟩ := wp_ex (T_Lw_load l G) [] _; refine hgo9 200 _ _ _ _ ?_; simp -implicitDefEqProofs (disch := omega) only [hW9, inl, gate, Xq, tz_const, tz_iload, tz_lload, tz_dload, tz_aload, tz_istore, tz_astore, tz_lstore, tz_dstore, tz_iinc, tz_i1, tz_i2, tz_i2z, tz_l2, tz_l2z, tz_i2l, tz_l2i, tz_lcmp, tz_i2d, tz_d2, tz_dcmp, tz_dup, tz_dup2, tz_pop, tz_if, tz_icmp, tz_null, tz_goto, tz_sw, tz_getf, tz_puti, tz_putz, tz_putr, tz_putl, tz_iaload, tz_baload, tz_laload, tz_aaload, tz_iastore, tz_bastore, tz_lastore, tz_aastore, tz_alen, tz_new, tz_newa, tz_oinit, tz_iret, tz_zret, tz_lret, tz_dret, tz_aret, tz_vret, tz_throw, tz_callS, tz_callV, tz_callI, tz_callR, tz_pureS, tz_pureV, tz_callVH, lg, lset, lkill, lst1, lst2, entL, isRf, is1, vl, va_rf_none, va_rf_some, isRf_rf, is1_rf, i0, i1, bI_eq0, bI_eq1, nm_em, nI_eqP, nI_leP, nI_ltP, nN_e1, nN_e2, nN_l1, nN_l2, nN_l3, nN_l4, nI_add, pk_mul, vp_inN, nI_cl, n01, n10, P_i, P_ii, P_iii, f_Mo_at, f_Mo_map, f_Mo_contact, f_Mo_within, f_Mo_isPort, f_Hp_endpoint, f_Hp_nodeOf, f_Hp_portOf, f_Ma_max, f_Ma_min, f_Hp_isSetting, popN, rok, a1, noX, swc, mL, if_true, if_false, ↓reduceIte, cond_true, cond_false, true_and, and_true, List.length_cons, List.length_nil, List.nil_append, List.cons_append, List.append_nil, Option.toList, Nat.reduceEqDiff, Bool.false_eq_true, reduceCtorEq, Nat.reduceAdd, Nat.reduceLT, Nat.reduceLeDiff, Nat.reduceSub, List.replicate, Nat.zero_add, Nat.lt_add_one, Nat.le_refl, Nat.zero_le, Nat.succ_ne_zero, not_false_eq_true, not_true_eq_false, false_implies, true_implies, forall_const, imp_self, true_or, or_true, eq_self, sI_zw, zw_zw, hI_zw, tg_zw, ln_zw, hR_zw, hL_zw, hN_zw, hM_zw, upd_s, upd_u, upd_ne, Classical.not_not, k_Lw_load, hx]; try clear hgo9 hW9)
  refine hc.mono (fun oc h1 hq => ?_)
  unfold LwP at hq
  split at hq
  · obtain ⟨⟨t1, t2⟩, hq⟩ := hq
    dsimp only
    (obtain ⟨W9, hW9, hgo9⟩ := wp_ex (T_Lw_load l G) [] _; refine hgo9 200 _ _ _ _ ?_; simp -implicitDefEqProofs (disch := omega) only [hW9, inl, gate, Xq, tz_const, tz_iload, tz_lload, tz_dload, tz_aload, tz_istore, tz_astore, tz_lstore, tz_dstore, tz_iinc, tz_i1, tz_i2, tz_i2z, tz_l2, tz_l2z, tz_i2l, tz_l2i, tz_lcmp, tz_i2d, tz_d2, tz_dcmp, tz_dup, tz_dup2, tz_pop, tz_if, tz_icmp, tz_null, tz_goto, tz_sw, tz_getf, tz_puti, tz_putz, tz_putr, tz_putl, tz_iaload, tz_baload, tz_laload, tz_aaload, tz_iastore, tz_bastore, tz_lastore, tz_aastore, tz_alen, tz_new, tz_newa, tz_oinit, tz_iret, tz_zret, tz_lret, tz_dret, tz_aret, tz_vret, tz_throw, tz_callS, tz_callV, tz_callI, tz_callR, tz_pureS, tz_pureV, tz_callVH, lg, lset, lkill, lst1, lst2, entL, isRf, is1, vl, va_rf_none, va_rf_some, isRf_rf, is1_rf, i0, i1, bI_eq0, bI_eq1, nm_em, nI_eqP, nI_leP, nI_ltP, nN_e1, nN_e2, nN_l1, nN_l2, nN_l3, nN_l4, nI_add, pk_mul, vp_inN, nI_cl, n01, n10, P_i, P_ii, P_iii, f_Mo_at, f_Mo_map, f_Mo_contact, f_Mo_within, f_Mo_isPort, f_Hp_endpoint, f_Hp_nodeOf, f_Hp_portOf, f_Ma_max, f_Ma_min, f_Hp_isSetting, popN, rok, a1, noX, swc, mL, if_true, if_false, ↓reduceIte, cond_true, cond_false, true_and, and_true, List.length_cons, List.length_nil, List.nil_append, List.cons_append, List.append_nil, Option.toList, Nat.reduceEqDiff, Bool.false_eq_true, reduceCtorEq, Nat.reduceAdd, Nat.reduceLT, Nat.reduceLeDiff, Nat.reduceSub, List.replicate, Nat.zero_add, Nat.lt_add_one, Nat.le_refl, Nat.zero_le, Nat.succ_ne_zero, not_false_eq_true, not_true_eq_false, false_implies, true_implies, forall_const, imp_self, true_or, or_true, eq_self, sI_zw, zw_zw, hI_zw, tg_zw, ln_zw, hR_zw, hL_zw, hN_zw, hM_zw, upd_s, upd_u, upd_ne, Classical.not_not, k_Lw_load, t1, t2]; try clear hgo9 hW9)
    exact hq
  · obtain ⟨k, hk, hq⟩ := hq
    dsimp only
    rcases hfd1 hk with ⟨e0, e1⟩ | hk
    · subst e0
      subst e1
      rw [show hfd [("java/lang/IllegalArgumentException", 11)] IAE = some 11 by decide +kernel]
      dsimp only
      refine ⟨_, _, hq, fun q => ?_⟩
      (obtain ⟨W9, hW9, hgo9⟩ := wp_ex (T_Lw_load l G) [] _; refine hgo9 200 _ _ _ _ ?_; simp -implicitDefEqProofs (disch := omega) only [hW9, inl, gate, Xq, tz_const, tz_iload, tz_lload, tz_dload, tz_aload, tz_istore, tz_astore, tz_lstore, tz_dstore, tz_iinc, tz_i1, tz_i2, tz_i2z, tz_l2, tz_l2z, tz_i2l, tz_l2i, tz_lcmp, tz_i2d, tz_d2, tz_dcmp, tz_dup, tz_dup2, tz_pop, tz_if, tz_icmp, tz_null, tz_goto, tz_sw, tz_getf, tz_puti, tz_putz, tz_putr, tz_putl, tz_iaload, tz_baload, tz_laload, tz_aaload, tz_iastore, tz_bastore, tz_lastore, tz_aastore, tz_alen, tz_new, tz_newa, tz_oinit, tz_iret, tz_zret, tz_lret, tz_dret, tz_aret, tz_vret, tz_throw, tz_callS, tz_callV, tz_callI, tz_callR, tz_pureS, tz_pureV, tz_callVH, lg, lset, lkill, lst1, lst2, entL, isRf, is1, vl, va_rf_none, va_rf_some, isRf_rf, is1_rf, i0, i1, bI_eq0, bI_eq1, nm_em, nI_eqP, nI_leP, nI_ltP, nN_e1, nN_e2, nN_l1, nN_l2, nN_l3, nN_l4, nI_add, pk_mul, vp_inN, nI_cl, n01, n10, P_i, P_ii, P_iii, f_Mo_at, f_Mo_map, f_Mo_contact, f_Mo_within, f_Mo_isPort, f_Hp_endpoint, f_Hp_nodeOf, f_Hp_portOf, f_Ma_max, f_Ma_min, f_Hp_isSetting, popN, rok, a1, noX, swc, mL, if_true, if_false, ↓reduceIte, cond_true, cond_false, true_and, and_true, List.length_cons, List.length_nil, List.nil_append, List.cons_append, List.append_nil, Option.toList, Nat.reduceEqDiff, Bool.false_eq_true, reduceCtorEq, Nat.reduceAdd, Nat.reduceLT, Nat.reduceLeDiff, Nat.reduceSub, List.replicate, Nat.zero_add, Nat.lt_add_one, Nat.le_refl, Nat.zero_le, Nat.succ_ne_zero, not_false_eq_true, not_true_eq_false, false_implies, true_implies, forall_const, imp_self, true_or, or_true, eq_self, sI_zw, zw_zw, hI_zw, tg_zw, ln_zw, hR_zw, hL_zw, hN_zw, hM_zw, upd_s, upd_u, upd_ne, Classical.not_not, k_Lw_load]; try clear hgo9 hW9)
    exact (hfd0 hk).elim
  · exact hq.elim
theorem lw_send (x o : Nat) (p0 p1 p2 p3 : Int32) (h : AH) (Q : Po) (hx : tg h x = 6) (hc : Call l G M_Hp_send [.ref x, .int p0, .int p1, .int p2, .int p3] h (LwP Q o [(IOE, 1), (IAE, 2)])) : Call l G M_Lw_send [.ref x, .int p0, .int p1, .int p2, .int p3, .ref o] h Q := by
  refine call_ofH rfl rfl (Nat.le_of_ble_eq_true rfl) ?_
  (obtain ⟨W9, hW9, hgo9⟩ := wp_ex (T_Lw_send l G) [] _; refine hgo9 200 _ _ _ _ ?_; simp -implicitDefEqProofs (disch := omega) only [hW9, inl, gate, Xq, tz_const, tz_iload, tz_lload, tz_dload, tz_aload, tz_istore, tz_astore, tz_lstore, tz_dstore, tz_iinc, tz_i1, tz_i2, tz_i2z, tz_l2, tz_l2z, tz_i2l, tz_l2i, tz_lcmp, tz_i2d, tz_d2, tz_dcmp, tz_dup, tz_dup2, tz_pop, tz_if, tz_icmp, tz_null, tz_goto, tz_sw, tz_getf, tz_puti, tz_putz, tz_putr, tz_putl, tz_iaload, tz_baload, tz_laload, tz_aaload, tz_iastore, tz_bastore, tz_lastore, tz_aastore, tz_alen, tz_new, tz_newa, tz_oinit, tz_iret, tz_zret, tz_lret, tz_dret, tz_aret, tz_vret, tz_throw, tz_callS, tz_callV, tz_callI, tz_callR, tz_pureS, tz_pureV, tz_callVH, lg, lset, lkill, lst1, lst2, entL, isRf, is1, vl, va_rf_none, va_rf_some, isRf_rf, is1_rf, i0, i1, bI_eq0, bI_eq1, nm_em, nI_eqP, nI_leP, nI_ltP, nN_e1, nN_e2, nN_l1, nN_l2, nN_l3, nN_l4, nI_add, pk_mul, vp_inN, nI_cl, n01, n10, P_i, P_ii, P_iii, f_Mo_at, f_Mo_map, f_Mo_contact, f_Mo_within, f_Mo_isPort, f_Hp_endpoint, f_Hp_nodeOf, f_Hp_portOf, f_Ma_max, f_Ma_min, f_Hp_isSetting, popN, rok, a1, noX, swc, mL, if_true, if_false, ↓reduceIte, cond_true, cond_false, true_and, and_true, List.length_cons, List.length_nil, List.nil_append, List.cons_append, List.append_nil, Option.toList, Nat.reduceEqDiff, Bool.false_eq_true, reduceCtorEq, Nat.reduceAdd, Nat.reduceLT, Nat.reduceLeDiff, Nat.reduceSub, List.replicate, Nat.zero_add, Nat.lt_add_one, Nat.le_refl, Nat.zero_le, Nat.succ_ne_zero, not_false_eq_true, not_true_eq_false, false_implies, true_implies, forall_const, imp_self, true_or, or_true, eq_self, sI_zw, zw_zw, hI_zw, tg_zw, ln_zw, hR_zw, hL_zw, hN_zw, hM_zw, upd_s, upd_u, upd_ne, Classical.not_not, k_Lw_send, hx]; try clear hgo9 hW9)
  refine hc.mono (fun oc h1 hq => ?_)
  unfold LwP at hq
  split at hq
  · obtain ⟨⟨t1, t2⟩, hq⟩ := hq
    dsimp only
    (obtain ⟨W9, hW9, hgo9⟩ := wp_ex (T_Lw_send l G) [] _; refine hgo9 200 _ _ _ _ ?_; simp -implicitDefEqProofs (disch := omega) only [hW9, inl, gate, Xq, tz_const, tz_iload, tz_lload, tz_dload, tz_aload, tz_istore, tz_astore, tz_lstore, tz_dstore, tz_iinc, tz_i1, tz_i2, tz_i2z, tz_l2, tz_l2z, tz_i2l, tz_l2i, tz_lcmp, tz_i2d, tz_d2, tz_dcmp, tz_dup, tz_dup2, tz_pop, tz_if, tz_icmp, tz_null, tz_goto, tz_sw, tz_getf, tz_puti, tz_putz, tz_putr, tz_putl, tz_iaload, tz_baload, tz_laload, tz_aaload, tz_iastore, tz_bastore, tz_lastore, tz_aastore, tz_alen, tz_new, tz_newa, tz_oinit, tz_iret, tz_zret, tz_lret, tz_dret, tz_aret, tz_vret, tz_throw, tz_callS, tz_callV, tz_callI, tz_callR, tz_pureS, tz_pureV, tz_callVH, lg, lset, lkill, lst1, lst2, entL, isRf, is1, vl, va_rf_none, va_rf_some, isRf_rf, is1_rf, i0, i1, bI_eq0, bI_eq1, nm_em, nI_eqP, nI_leP, nI_ltP, nN_e1, nN_e2, nN_l1, nN_l2, nN_l3, nN_l4, nI_add, pk_mul, vp_inN, nI_cl, n01, n10, P_i, P_ii, P_iii, f_Mo_at, f_Mo_map, f_Mo_contact, f_Mo_within, f_Mo_isPort, f_Hp_endpoint, f_Hp_nodeOf, f_Hp_portOf, f_Ma_max, f_Ma_min, f_Hp_isSetting, popN, rok, a1, noX, swc, mL, if_true, if_false, ↓reduceIte, cond_true, cond_false, true_and, and_true, List.length_cons, List.length_nil, List.nil_append, List.cons_append, List.append_nil, Option.toList, Nat.reduceEqDiff, Bool.false_eq_true, reduceCtorEq, Nat.reduceAdd, Nat.reduceLT, Nat.reduceLeDiff, Nat.reduceSub, List.replicate, Nat.zero_add, Nat.lt_add_one, Nat.le_refl, Nat.zero_le, Nat.succ_ne_zero, not_false_eq_true, not_true_eq_false, false_implies, true_implies, forall_const, imp_self, true_or, or_true, eq_self, sI_zw, zw_zw, hI_zw, tg_zw, ln_zw, hR_zw, hL_zw, hN_zw, hM_zw, upd_s, upd_u, upd_ne, Classical.not_not, k_Lw_send, t1, t2]; try clear hgo9 hW9)
    exact hq
  · obtain ⟨k, hk, hq⟩ := hq
    dsimp only
    rcases hfd1 hk with ⟨e0, e1⟩ | hk
    · subst e0
      subst e1
      rw [show hfd [("java/lang/IndexOutOfBoundsException", 17), ("java/lang/IllegalArgumentException", 21)] IOE = some 17 by decide +kernel]
      dsimp only
      refine ⟨_, _, hq, fun q => ?_⟩
      (obtain ⟨W9, hW9, hgo9⟩ := wp_ex (T_Lw_send l G) [] _; refine hgo9 200 _ _ _ _ ?_; simp -implicitDefEqProofs (disch := omega) only [hW9, inl, gate, Xq, tz_const, tz_iload, tz_lload, tz_dload, tz_aload, tz_istore, tz_astore, tz_lstore, tz_dstore, tz_iinc, tz_i1, tz_i2, tz_i2z, tz_l2, tz_l2z, tz_i2l, tz_l2i, tz_lcmp, tz_i2d, tz_d2, tz_dcmp, tz_dup, tz_dup2, tz_pop, tz_if, tz_icmp, tz_null, tz_goto, tz_sw, tz_getf, tz_puti, tz_putz, tz_putr, tz_putl, tz_iaload, tz_baload, tz_laload, tz_aaload, tz_iastore, tz_bastore, tz_lastore, tz_aastore, tz_alen, tz_new, tz_newa, tz_oinit, tz_iret, tz_zret, tz_lret, tz_dret, tz_aret, tz_vret, tz_throw, tz_callS, tz_callV, tz_callI, tz_callR, tz_pureS, tz_pureV, tz_callVH, lg, lset, lkill, lst1, lst2, entL, isRf, is1, vl, va_rf_none, va_rf_some, isRf_rf, is1_rf, i0, i1, bI_eq0, bI_eq1, nm_em, nI_eqP, nI_leP, nI_ltP, nN_e1, nN_e2, nN_l1, nN_l2, nN_l3, nN_l4, nI_add, pk_mul, vp_inN, nI_cl, n01, n10, P_i, P_ii, P_iii, f_Mo_at, f_Mo_map, f_Mo_contact, f_Mo_within, f_Mo_isPort, f_Hp_endpoint, f_Hp_nodeOf, f_Hp_portOf, f_Ma_max, f_Ma_min, f_Hp_isSetting, popN, rok, a1, noX, swc, mL, if_true, if_false, ↓reduceIte, cond_true, cond_false, true_and, and_true, List.length_cons, List.length_nil, List.nil_append, List.cons_append, List.append_nil, Option.toList, Nat.reduceEqDiff, Bool.false_eq_true, reduceCtorEq, Nat.reduceAdd, Nat.reduceLT, Nat.reduceLeDiff, Nat.reduceSub, List.replicate, Nat.zero_add, Nat.lt_add_one, Nat.le_refl, Nat.zero_le, Nat.succ_ne_zero, not_false_eq_true, not_true_eq_false, false_implies, true_implies, forall_const, imp_self, true_or, or_true, eq_self, sI_zw, zw_zw, hI_zw, tg_zw, ln_zw, hR_zw, hL_zw, hN_zw, hM_zw, upd_s, upd_u, upd_ne, Classical.not_not, k_Lw_send]; try clear hgo9 hW9)
    rcases hfd1 hk with ⟨e0, e1⟩ | hk
    · subst e0
      subst e1
      rw [show hfd [("java/lang/IndexOutOfBoundsException", 17), ("java/lang/IllegalArgumentException", 21)] IAE = some 21 by decide +kernel]
      dsimp only
      refine ⟨_, _, hq, fun q => ?_⟩
      (obtain ⟨W9, hW9, hgo9⟩ := wp_ex (T_Lw_send l G) [] _; refine hgo9 200 _ _ _ _ ?_; simp -implicitDefEqProofs (disch := omega) only [hW9, inl, gate, Xq, tz_const, tz_iload, tz_lload, tz_dload, tz_aload, tz_istore, tz_astore, tz_lstore, tz_dstore, tz_iinc, tz_i1, tz_i2, tz_i2z, tz_l2, tz_l2z, tz_i2l, tz_l2i, tz_lcmp, tz_i2d, tz_d2, tz_dcmp, tz_dup, tz_dup2, tz_pop, tz_if, tz_icmp, tz_null, tz_goto, tz_sw, tz_getf, tz_puti, tz_putz, tz_putr, tz_putl, tz_iaload, tz_baload, tz_laload, tz_aaload, tz_iastore, tz_bastore, tz_lastore, tz_aastore, tz_alen, tz_new, tz_newa, tz_oinit, tz_iret, tz_zret, tz_lret, tz_dret, tz_aret, tz_vret, tz_throw, tz_callS, tz_callV, tz_callI, tz_callR, tz_pureS, tz_pureV, tz_callVH, lg, lset, lkill, lst1, lst2, entL, isRf, is1, vl, va_rf_none, va_rf_some, isRf_rf, is1_rf, i0, i1, bI_eq0, bI_eq1, nm_em, nI_eqP, nI_leP, nI_ltP, nN_e1, nN_e2, nN_l1, nN_l2, nN_l3, nN_l4, nI_add, pk_mul, vp_inN, nI_cl, n01, n10, P_i, P_ii, P_iii, f_Mo_at, f_Mo_map, f_Mo_contact, f_Mo_within, f_Mo_isPort, f_Hp_endpoint, f_Hp_nodeOf, f_Hp_portOf, f_Ma_max, f_Ma_min, f_Hp_isSetting, popN, rok, a1, noX, swc, mL, if_true, if_false, ↓reduceIte, cond_true, cond_false, true_and, and_true, List.length_cons, List.length_nil, List.nil_append, List.cons_append, List.append_nil, Option.toList, Nat.reduceEqDiff, Bool.false_eq_true, reduceCtorEq, Nat.reduceAdd, Nat.reduceLT, Nat.reduceLeDiff, Nat.reduceSub, List.replicate, Nat.zero_add, Nat.lt_add_one, Nat.le_refl, Nat.zero_le, Nat.succ_ne_zero, not_false_eq_true, not_true_eq_false, false_implies, true_implies, forall_const, imp_self, true_or, or_true, eq_self, sI_zw, zw_zw, hI_zw, tg_zw, ln_zw, hR_zw, hL_zw, hN_zw, hM_zw, upd_s, upd_u, upd_ne, Classical.not_not, k_Lw_send]; try clear hgo9 hW9)
    exact (hfd0 hk).elim
  · exact hq.elim
theorem lw_reply (x o : Nat) (p0 : Int32) (h : AH) (Q : Po) (hx : tg h x = 6) (hc : Call l G M_Hp_reply [.ref x, .int p0] h (LwP Q o [(IOE, 1), (ISE, 2)])) : Call l G M_Lw_reply [.ref x, .int p0, .ref o] h Q := by
  refine call_ofH rfl rfl (Nat.le_of_ble_eq_true rfl) ?_
  (obtain ⟨W9, hW9, hgo9⟩ := wp_ex (T_Lw_reply l G) [] _; refine hgo9 200 _ _ _ _ ?_; simp -implicitDefEqProofs (disch := omega) only [hW9, inl, gate, Xq, tz_const, tz_iload, tz_lload, tz_dload, tz_aload, tz_istore, tz_astore, tz_lstore, tz_dstore, tz_iinc, tz_i1, tz_i2, tz_i2z, tz_l2, tz_l2z, tz_i2l, tz_l2i, tz_lcmp, tz_i2d, tz_d2, tz_dcmp, tz_dup, tz_dup2, tz_pop, tz_if, tz_icmp, tz_null, tz_goto, tz_sw, tz_getf, tz_puti, tz_putz, tz_putr, tz_putl, tz_iaload, tz_baload, tz_laload, tz_aaload, tz_iastore, tz_bastore, tz_lastore, tz_aastore, tz_alen, tz_new, tz_newa, tz_oinit, tz_iret, tz_zret, tz_lret, tz_dret, tz_aret, tz_vret, tz_throw, tz_callS, tz_callV, tz_callI, tz_callR, tz_pureS, tz_pureV, tz_callVH, lg, lset, lkill, lst1, lst2, entL, isRf, is1, vl, va_rf_none, va_rf_some, isRf_rf, is1_rf, i0, i1, bI_eq0, bI_eq1, nm_em, nI_eqP, nI_leP, nI_ltP, nN_e1, nN_e2, nN_l1, nN_l2, nN_l3, nN_l4, nI_add, pk_mul, vp_inN, nI_cl, n01, n10, P_i, P_ii, P_iii, f_Mo_at, f_Mo_map, f_Mo_contact, f_Mo_within, f_Mo_isPort, f_Hp_endpoint, f_Hp_nodeOf, f_Hp_portOf, f_Ma_max, f_Ma_min, f_Hp_isSetting, popN, rok, a1, noX, swc, mL, if_true, if_false, ↓reduceIte, cond_true, cond_false, true_and, and_true, List.length_cons, List.length_nil, List.nil_append, List.cons_append, List.append_nil, Option.toList, Nat.reduceEqDiff, Bool.false_eq_true, reduceCtorEq, Nat.reduceAdd, Nat.reduceLT, Nat.reduceLeDiff, Nat.reduceSub, List.replicate, Nat.zero_add, Nat.lt_add_one, Nat.le_refl, Nat.zero_le, Nat.succ_ne_zero, not_false_eq_true, not_true_eq_false, false_implies, true_implies, forall_const, imp_self, true_or, or_true, eq_self, sI_zw, zw_zw, hI_zw, tg_zw, ln_zw, hR_zw, hL_zw, hN_zw, hM_zw, upd_s, upd_u, upd_ne, Classical.not_not, k_Lw_reply, hx]; try clear hgo9 hW9)
  refine hc.mono (fun oc h1 hq => ?_)
  unfold LwP at hq
  split at hq
  · obtain ⟨⟨t1, t2⟩, hq⟩ := hq
    dsimp only
    (obtain ⟨W9, hW9, hgo9⟩ := wp_ex (T_Lw_reply l G) [] _; refine hgo9 200 _ _ _ _ ?_; simp -implicitDefEqProofs (disch := omega) only [hW9, inl, gate, Xq, tz_const, tz_iload, tz_lload, tz_dload, tz_aload, tz_istore, tz_astore, tz_lstore, tz_dstore, tz_iinc, tz_i1, tz_i2, tz_i2z, tz_l2, tz_l2z, tz_i2l, tz_l2i, tz_lcmp, tz_i2d, tz_d2, tz_dcmp, tz_dup, tz_dup2, tz_pop, tz_if, tz_icmp, tz_null, tz_goto, tz_sw, tz_getf, tz_puti, tz_putz, tz_putr, tz_putl, tz_iaload, tz_baload, tz_laload, tz_aaload, tz_iastore, tz_bastore, tz_lastore, tz_aastore, tz_alen, tz_new, tz_newa, tz_oinit, tz_iret, tz_zret, tz_lret, tz_dret, tz_aret, tz_vret, tz_throw, tz_callS, tz_callV, tz_callI, tz_callR, tz_pureS, tz_pureV, tz_callVH, lg, lset, lkill, lst1, lst2, entL, isRf, is1, vl, va_rf_none, va_rf_some, isRf_rf, is1_rf, i0, i1, bI_eq0, bI_eq1, nm_em, nI_eqP, nI_leP, nI_ltP, nN_e1, nN_e2, nN_l1, nN_l2, nN_l3, nN_l4, nI_add, pk_mul, vp_inN, nI_cl, n01, n10, P_i, P_ii, P_iii, f_Mo_at, f_Mo_map, f_Mo_contact, f_Mo_within, f_Mo_isPort, f_Hp_endpoint, f_Hp_nodeOf, f_Hp_portOf, f_Ma_max, f_Ma_min, f_Hp_isSetting, popN, rok, a1, noX, swc, mL, if_true, if_false, ↓reduceIte, cond_true, cond_false, true_and, and_true, List.length_cons, List.length_nil, List.nil_append, List.cons_append, List.append_nil, Option.toList, Nat.reduceEqDiff, Bool.false_eq_true, reduceCtorEq, Nat.reduceAdd, Nat.reduceLT, Nat.reduceLeDiff, Nat.reduceSub, List.replicate, Nat.zero_add, Nat.lt_add_one, Nat.le_refl, Nat.zero_le, Nat.succ_ne_zero, not_false_eq_true, not_true_eq_false, false_implies, true_implies, forall_const, imp_self, true_or, or_true, eq_self, sI_zw, zw_zw, hI_zw, tg_zw, ln_zw, hR_zw, hL_zw, hN_zw, hM_zw, upd_s, upd_u, upd_ne, Classical.not_not, k_Lw_reply, t1, t2]; try clear hgo9 hW9)
    exact hq
  · obtain ⟨k, hk, hq⟩ := hq
    dsimp only
    rcases hfd1 hk with ⟨e0, e1⟩ | hk
    · subst e0
      subst e1
      rw [show hfd [("java/lang/IndexOutOfBoundsException", 12), ("java/lang/IllegalStateException", 15)] IOE = some 12 by decide +kernel]
      dsimp only
      refine ⟨_, _, hq, fun q => ?_⟩
      (obtain ⟨W9, hW9, hgo9⟩ := wp_ex (T_Lw_reply l G) [] _; refine hgo9 200 _ _ _ _ ?_; simp -implicitDefEqProofs (disch := omega) only [hW9, inl, gate, Xq, tz_const, tz_iload, tz_lload, tz_dload, tz_aload, tz_istore, tz_astore, tz_lstore, tz_dstore, tz_iinc, tz_i1, tz_i2, tz_i2z, tz_l2, tz_l2z, tz_i2l, tz_l2i, tz_lcmp, tz_i2d, tz_d2, tz_dcmp, tz_dup, tz_dup2, tz_pop, tz_if, tz_icmp, tz_null, tz_goto, tz_sw, tz_getf, tz_puti, tz_putz, tz_putr, tz_putl, tz_iaload, tz_baload, tz_laload, tz_aaload, tz_iastore, tz_bastore, tz_lastore, tz_aastore, tz_alen, tz_new, tz_newa, tz_oinit, tz_iret, tz_zret, tz_lret, tz_dret, tz_aret, tz_vret, tz_throw, tz_callS, tz_callV, tz_callI, tz_callR, tz_pureS, tz_pureV, tz_callVH, lg, lset, lkill, lst1, lst2, entL, isRf, is1, vl, va_rf_none, va_rf_some, isRf_rf, is1_rf, i0, i1, bI_eq0, bI_eq1, nm_em, nI_eqP, nI_leP, nI_ltP, nN_e1, nN_e2, nN_l1, nN_l2, nN_l3, nN_l4, nI_add, pk_mul, vp_inN, nI_cl, n01, n10, P_i, P_ii, P_iii, f_Mo_at, f_Mo_map, f_Mo_contact, f_Mo_within, f_Mo_isPort, f_Hp_endpoint, f_Hp_nodeOf, f_Hp_portOf, f_Ma_max, f_Ma_min, f_Hp_isSetting, popN, rok, a1, noX, swc, mL, if_true, if_false, ↓reduceIte, cond_true, cond_false, true_and, and_true, List.length_cons, List.length_nil, List.nil_append, List.cons_append, List.append_nil, Option.toList, Nat.reduceEqDiff, Bool.false_eq_true, reduceCtorEq, Nat.reduceAdd, Nat.reduceLT, Nat.reduceLeDiff, Nat.reduceSub, List.replicate, Nat.zero_add, Nat.lt_add_one, Nat.le_refl, Nat.zero_le, Nat.succ_ne_zero, not_false_eq_true, not_true_eq_false, false_implies, true_implies, forall_const, imp_self, true_or, or_true, eq_self, sI_zw, zw_zw, hI_zw, tg_zw, ln_zw, hR_zw, hL_zw, hN_zw, hM_zw, upd_s, upd_u, upd_ne, Classical.not_not, k_Lw_reply]; try clear hgo9 hW9)
    rcases hfd1 hk with ⟨e0, e1⟩ | hk
    · subst e0
      subst e1
      rw [show hfd [("java/lang/IndexOutOfBoundsException", 12), ("java/lang/IllegalStateException", 15)] ISE = some 15 by decide +kernel]
      dsimp only
      refine ⟨_, _, hq, fun q => ?_⟩
      (obtain ⟨W9, hW9, hgo9⟩ := wp_ex (T_Lw_reply l G) [] _; refine hgo9 200 _ _ _ _ ?_; simp -implicitDefEqProofs (disch := omega) only [hW9, inl, gate, Xq, tz_const, tz_iload, tz_lload, tz_dload, tz_aload, tz_istore, tz_astore, tz_lstore, tz_dstore, tz_iinc, tz_i1, tz_i2, tz_i2z, tz_l2, tz_l2z, tz_i2l, tz_l2i, tz_lcmp, tz_i2d, tz_d2, tz_dcmp, tz_dup, tz_dup2, tz_pop, tz_if, tz_icmp, tz_null, tz_goto, tz_sw, tz_getf, tz_puti, tz_putz, tz_putr, tz_putl, tz_iaload, tz_baload, tz_laload, tz_aaload, tz_iastore, tz_bastore, tz_lastore, tz_aastore, tz_alen, tz_new, tz_newa, tz_oinit, tz_iret, tz_zret, tz_lret, tz_dret, tz_aret, tz_vret, tz_throw, tz_callS, tz_callV, tz_callI, tz_callR, tz_pureS, tz_pureV, tz_callVH, lg, lset, lkill, lst1, lst2, entL, isRf, is1, vl, va_rf_none, va_rf_some, isRf_rf, is1_rf, i0, i1, bI_eq0, bI_eq1, nm_em, nI_eqP, nI_leP, nI_ltP, nN_e1, nN_e2, nN_l1, nN_l2, nN_l3, nN_l4, nI_add, pk_mul, vp_inN, nI_cl, n01, n10, P_i, P_ii, P_iii, f_Mo_at, f_Mo_map, f_Mo_contact, f_Mo_within, f_Mo_isPort, f_Hp_endpoint, f_Hp_nodeOf, f_Hp_portOf, f_Ma_max, f_Ma_min, f_Hp_isSetting, popN, rok, a1, noX, swc, mL, if_true, if_false, ↓reduceIte, cond_true, cond_false, true_and, and_true, List.length_cons, List.length_nil, List.nil_append, List.cons_append, List.append_nil, Option.toList, Nat.reduceEqDiff, Bool.false_eq_true, reduceCtorEq, Nat.reduceAdd, Nat.reduceLT, Nat.reduceLeDiff, Nat.reduceSub, List.replicate, Nat.zero_add, Nat.lt_add_one, Nat.le_refl, Nat.zero_le, Nat.succ_ne_zero, not_false_eq_true, not_true_eq_false, false_implies, true_implies, forall_const, imp_self, true_or, or_true, eq_self, sI_zw, zw_zw, hI_zw, tg_zw, ln_zw, hR_zw, hL_zw, hN_zw, hM_zw, upd_s, upd_u, upd_ne, Classical.not_not, k_Lw_reply]; try clear hgo9 hW9)
    exact (hfd0 hk).elim
  · exact hq.elim
theorem lw_keepAlive (x o : Nat) (p0 p1 p2 p3 p4 p5 : Int32) (h : AH) (Q : Po) (hx : tg h x = 6) (hc : Call l G M_Hp_keepAlive [.ref x, .int p0, .int p1, .int p2, .int p3, .int p4, .int p5] h (LwP Q o [(IOE, 1), (IAE, 2), (ISE, 3)])) : Call l G M_Lw_keepAlive [.ref x, .int p0, .int p1, .int p2, .int p3, .int p4, .int p5, .ref o] h Q := by
  refine call_ofH rfl rfl (Nat.le_of_ble_eq_true rfl) ?_
  (obtain ⟨W9, hW9, hgo9⟩ := wp_ex (T_Lw_keepAlive l G) [] _; refine hgo9 200 _ _ _ _ ?_; simp -implicitDefEqProofs (disch := omega) only [hW9, inl, gate, Xq, tz_const, tz_iload, tz_lload, tz_dload, tz_aload, tz_istore, tz_astore, tz_lstore, tz_dstore, tz_iinc, tz_i1, tz_i2, tz_i2z, tz_l2, tz_l2z, tz_i2l, tz_l2i, tz_lcmp, tz_i2d, tz_d2, tz_dcmp, tz_dup, tz_dup2, tz_pop, tz_if, tz_icmp, tz_null, tz_goto, tz_sw, tz_getf, tz_puti, tz_putz, tz_putr, tz_putl, tz_iaload, tz_baload, tz_laload, tz_aaload, tz_iastore, tz_bastore, tz_lastore, tz_aastore, tz_alen, tz_new, tz_newa, tz_oinit, tz_iret, tz_zret, tz_lret, tz_dret, tz_aret, tz_vret, tz_throw, tz_callS, tz_callV, tz_callI, tz_callR, tz_pureS, tz_pureV, tz_callVH, lg, lset, lkill, lst1, lst2, entL, isRf, is1, vl, va_rf_none, va_rf_some, isRf_rf, is1_rf, i0, i1, bI_eq0, bI_eq1, nm_em, nI_eqP, nI_leP, nI_ltP, nN_e1, nN_e2, nN_l1, nN_l2, nN_l3, nN_l4, nI_add, pk_mul, vp_inN, nI_cl, n01, n10, P_i, P_ii, P_iii, f_Mo_at, f_Mo_map, f_Mo_contact, f_Mo_within, f_Mo_isPort, f_Hp_endpoint, f_Hp_nodeOf, f_Hp_portOf, f_Ma_max, f_Ma_min, f_Hp_isSetting, popN, rok, a1, noX, swc, mL, if_true, if_false, ↓reduceIte, cond_true, cond_false, true_and, and_true, List.length_cons, List.length_nil, List.nil_append, List.cons_append, List.append_nil, Option.toList, Nat.reduceEqDiff, Bool.false_eq_true, reduceCtorEq, Nat.reduceAdd, Nat.reduceLT, Nat.reduceLeDiff, Nat.reduceSub, List.replicate, Nat.zero_add, Nat.lt_add_one, Nat.le_refl, Nat.zero_le, Nat.succ_ne_zero, not_false_eq_true, not_true_eq_false, false_implies, true_implies, forall_const, imp_self, true_or, or_true, eq_self, sI_zw, zw_zw, hI_zw, tg_zw, ln_zw, hR_zw, hL_zw, hN_zw, hM_zw, upd_s, upd_u, upd_ne, Classical.not_not, k_Lw_keepAlive, hx]; try clear hgo9 hW9)
  refine hc.mono (fun oc h1 hq => ?_)
  unfold LwP at hq
  split at hq
  · obtain ⟨⟨t1, t2⟩, hq⟩ := hq
    dsimp only
    (obtain ⟨W9, hW9, hgo9⟩ := wp_ex (T_Lw_keepAlive l G) [] _; refine hgo9 200 _ _ _ _ ?_; simp -implicitDefEqProofs (disch := omega) only [hW9, inl, gate, Xq, tz_const, tz_iload, tz_lload, tz_dload, tz_aload, tz_istore, tz_astore, tz_lstore, tz_dstore, tz_iinc, tz_i1, tz_i2, tz_i2z, tz_l2, tz_l2z, tz_i2l, tz_l2i, tz_lcmp, tz_i2d, tz_d2, tz_dcmp, tz_dup, tz_dup2, tz_pop, tz_if, tz_icmp, tz_null, tz_goto, tz_sw, tz_getf, tz_puti, tz_putz, tz_putr, tz_putl, tz_iaload, tz_baload, tz_laload, tz_aaload, tz_iastore, tz_bastore, tz_lastore, tz_aastore, tz_alen, tz_new, tz_newa, tz_oinit, tz_iret, tz_zret, tz_lret, tz_dret, tz_aret, tz_vret, tz_throw, tz_callS, tz_callV, tz_callI, tz_callR, tz_pureS, tz_pureV, tz_callVH, lg, lset, lkill, lst1, lst2, entL, isRf, is1, vl, va_rf_none, va_rf_some, isRf_rf, is1_rf, i0, i1, bI_eq0, bI_eq1, nm_em, nI_eqP, nI_leP, nI_ltP, nN_e1, nN_e2, nN_l1, nN_l2, nN_l3, nN_l4, nI_add, pk_mul, vp_inN, nI_cl, n01, n10, P_i, P_ii, P_iii, f_Mo_at, f_Mo_map, f_Mo_contact, f_Mo_within, f_Mo_isPort, f_Hp_endpoint, f_Hp_nodeOf, f_Hp_portOf, f_Ma_max, f_Ma_min, f_Hp_isSetting, popN, rok, a1, noX, swc, mL, if_true, if_false, ↓reduceIte, cond_true, cond_false, true_and, and_true, List.length_cons, List.length_nil, List.nil_append, List.cons_append, List.append_nil, Option.toList, Nat.reduceEqDiff, Bool.false_eq_true, reduceCtorEq, Nat.reduceAdd, Nat.reduceLT, Nat.reduceLeDiff, Nat.reduceSub, List.replicate, Nat.zero_add, Nat.lt_add_one, Nat.le_refl, Nat.zero_le, Nat.succ_ne_zero, not_false_eq_true, not_true_eq_false, false_implies, true_implies, forall_const, imp_self, true_or, or_true, eq_self, sI_zw, zw_zw, hI_zw, tg_zw, ln_zw, hR_zw, hL_zw, hN_zw, hM_zw, upd_s, upd_u, upd_ne, Classical.not_not, k_Lw_keepAlive, t1, t2]; try clear hgo9 hW9)
    exact hq
  · obtain ⟨k, hk, hq⟩ := hq
    dsimp only
    rcases hfd1 hk with ⟨e0, e1⟩ | hk
    · subst e0
      subst e1
      rw [show hfd [("java/lang/IndexOutOfBoundsException", 21), ("java/lang/IllegalArgumentException", 25), ("java/lang/IllegalStateException", 29)] IOE = some 21 by decide +kernel]
      dsimp only
      refine ⟨_, _, hq, fun q => ?_⟩
      (obtain ⟨W9, hW9, hgo9⟩ := wp_ex (T_Lw_keepAlive l G) [] _; refine hgo9 200 _ _ _ _ ?_; simp -implicitDefEqProofs (disch := omega) only [hW9, inl, gate, Xq, tz_const, tz_iload, tz_lload, tz_dload, tz_aload, tz_istore, tz_astore, tz_lstore, tz_dstore, tz_iinc, tz_i1, tz_i2, tz_i2z, tz_l2, tz_l2z, tz_i2l, tz_l2i, tz_lcmp, tz_i2d, tz_d2, tz_dcmp, tz_dup, tz_dup2, tz_pop, tz_if, tz_icmp, tz_null, tz_goto, tz_sw, tz_getf, tz_puti, tz_putz, tz_putr, tz_putl, tz_iaload, tz_baload, tz_laload, tz_aaload, tz_iastore, tz_bastore, tz_lastore, tz_aastore, tz_alen, tz_new, tz_newa, tz_oinit, tz_iret, tz_zret, tz_lret, tz_dret, tz_aret, tz_vret, tz_throw, tz_callS, tz_callV, tz_callI, tz_callR, tz_pureS, tz_pureV, tz_callVH, lg, lset, lkill, lst1, lst2, entL, isRf, is1, vl, va_rf_none, va_rf_some, isRf_rf, is1_rf, i0, i1, bI_eq0, bI_eq1, nm_em, nI_eqP, nI_leP, nI_ltP, nN_e1, nN_e2, nN_l1, nN_l2, nN_l3, nN_l4, nI_add, pk_mul, vp_inN, nI_cl, n01, n10, P_i, P_ii, P_iii, f_Mo_at, f_Mo_map, f_Mo_contact, f_Mo_within, f_Mo_isPort, f_Hp_endpoint, f_Hp_nodeOf, f_Hp_portOf, f_Ma_max, f_Ma_min, f_Hp_isSetting, popN, rok, a1, noX, swc, mL, if_true, if_false, ↓reduceIte, cond_true, cond_false, true_and, and_true, List.length_cons, List.length_nil, List.nil_append, List.cons_append, List.append_nil, Option.toList, Nat.reduceEqDiff, Bool.false_eq_true, reduceCtorEq, Nat.reduceAdd, Nat.reduceLT, Nat.reduceLeDiff, Nat.reduceSub, List.replicate, Nat.zero_add, Nat.lt_add_one, Nat.le_refl, Nat.zero_le, Nat.succ_ne_zero, not_false_eq_true, not_true_eq_false, false_implies, true_implies, forall_const, imp_self, true_or, or_true, eq_self, sI_zw, zw_zw, hI_zw, tg_zw, ln_zw, hR_zw, hL_zw, hN_zw, hM_zw, upd_s, upd_u, upd_ne, Classical.not_not, k_Lw_keepAlive]; try clear hgo9 hW9)
    rcases hfd1 hk with ⟨e0, e1⟩ | hk
    · subst e0
      subst e1
      rw [show hfd [("java/lang/IndexOutOfBoundsException", 21), ("java/lang/IllegalArgumentException", 25), ("java/lang/IllegalStateException", 29)] IAE = some 25 by decide +kernel]
      dsimp only
      refine ⟨_, _, hq, fun q => ?_⟩
      (obtain ⟨W9, hW9, hgo9⟩ := wp_ex (T_Lw_keepAlive l G) [] _; refine hgo9 200 _ _ _ _ ?_; simp -implicitDefEqProofs (disch := omega) only [hW9, inl, gate, Xq, tz_const, tz_iload, tz_lload, tz_dload, tz_aload, tz_istore, tz_astore, tz_lstore, tz_dstore, tz_iinc, tz_i1, tz_i2, tz_i2z, tz_l2, tz_l2z, tz_i2l, tz_l2i, tz_lcmp, tz_i2d, tz_d2, tz_dcmp, tz_dup, tz_dup2, tz_pop, tz_if, tz_icmp, tz_null, tz_goto, tz_sw, tz_getf, tz_puti, tz_putz, tz_putr, tz_putl, tz_iaload, tz_baload, tz_laload, tz_aaload, tz_iastore, tz_bastore, tz_lastore, tz_aastore, tz_alen, tz_new, tz_newa, tz_oinit, tz_iret, tz_zret, tz_lret, tz_dret, tz_aret, tz_vret, tz_throw, tz_callS, tz_callV, tz_callI, tz_callR, tz_pureS, tz_pureV, tz_callVH, lg, lset, lkill, lst1, lst2, entL, isRf, is1, vl, va_rf_none, va_rf_some, isRf_rf, is1_rf, i0, i1, bI_eq0, bI_eq1, nm_em, nI_eqP, nI_leP, nI_ltP, nN_e1, nN_e2, nN_l1, nN_l2, nN_l3, nN_l4, nI_add, pk_mul, vp_inN, nI_cl, n01, n10, P_i, P_ii, P_iii, f_Mo_at, f_Mo_map, f_Mo_contact, f_Mo_within, f_Mo_isPort, f_Hp_endpoint, f_Hp_nodeOf, f_Hp_portOf, f_Ma_max, f_Ma_min, f_Hp_isSetting, popN, rok, a1, noX, swc, mL, if_true, if_false, ↓reduceIte, cond_true, cond_false, true_and, and_true, List.length_cons, List.length_nil, List.nil_append, List.cons_append, List.append_nil, Option.toList, Nat.reduceEqDiff, Bool.false_eq_true, reduceCtorEq, Nat.reduceAdd, Nat.reduceLT, Nat.reduceLeDiff, Nat.reduceSub, List.replicate, Nat.zero_add, Nat.lt_add_one, Nat.le_refl, Nat.zero_le, Nat.succ_ne_zero, not_false_eq_true, not_true_eq_false, false_implies, true_implies, forall_const, imp_self, true_or, or_true, eq_self, sI_zw, zw_zw, hI_zw, tg_zw, ln_zw, hR_zw, hL_zw, hN_zw, hM_zw, upd_s, upd_u, upd_ne, Classical.not_not, k_Lw_keepAlive]; try clear hgo9 hW9)
    rcases hfd1 hk with ⟨e0, e1⟩ | hk
    · subst e0
      subst e1
      rw [show hfd [("java/lang/IndexOutOfBoundsException", 21), ("java/lang/IllegalArgumentException", 25), ("java/lang/IllegalStateException", 29)] ISE = some 29 by decide +kernel]
      dsimp only
      refine ⟨_, _, hq, fun q => ?_⟩
      (obtain ⟨W9, hW9, hgo9⟩ := wp_ex (T_Lw_keepAlive l G) [] _; refine hgo9 200 _ _ _ _ ?_; simp -implicitDefEqProofs (disch := omega) only [hW9, inl, gate, Xq, tz_const, tz_iload, tz_lload, tz_dload, tz_aload, tz_istore, tz_astore, tz_lstore, tz_dstore, tz_iinc, tz_i1, tz_i2, tz_i2z, tz_l2, tz_l2z, tz_i2l, tz_l2i, tz_lcmp, tz_i2d, tz_d2, tz_dcmp, tz_dup, tz_dup2, tz_pop, tz_if, tz_icmp, tz_null, tz_goto, tz_sw, tz_getf, tz_puti, tz_putz, tz_putr, tz_putl, tz_iaload, tz_baload, tz_laload, tz_aaload, tz_iastore, tz_bastore, tz_lastore, tz_aastore, tz_alen, tz_new, tz_newa, tz_oinit, tz_iret, tz_zret, tz_lret, tz_dret, tz_aret, tz_vret, tz_throw, tz_callS, tz_callV, tz_callI, tz_callR, tz_pureS, tz_pureV, tz_callVH, lg, lset, lkill, lst1, lst2, entL, isRf, is1, vl, va_rf_none, va_rf_some, isRf_rf, is1_rf, i0, i1, bI_eq0, bI_eq1, nm_em, nI_eqP, nI_leP, nI_ltP, nN_e1, nN_e2, nN_l1, nN_l2, nN_l3, nN_l4, nI_add, pk_mul, vp_inN, nI_cl, n01, n10, P_i, P_ii, P_iii, f_Mo_at, f_Mo_map, f_Mo_contact, f_Mo_within, f_Mo_isPort, f_Hp_endpoint, f_Hp_nodeOf, f_Hp_portOf, f_Ma_max, f_Ma_min, f_Hp_isSetting, popN, rok, a1, noX, swc, mL, if_true, if_false, ↓reduceIte, cond_true, cond_false, true_and, and_true, List.length_cons, List.length_nil, List.nil_append, List.cons_append, List.append_nil, Option.toList, Nat.reduceEqDiff, Bool.false_eq_true, reduceCtorEq, Nat.reduceAdd, Nat.reduceLT, Nat.reduceLeDiff, Nat.reduceSub, List.replicate, Nat.zero_add, Nat.lt_add_one, Nat.le_refl, Nat.zero_le, Nat.succ_ne_zero, not_false_eq_true, not_true_eq_false, false_implies, true_implies, forall_const, imp_self, true_or, or_true, eq_self, sI_zw, zw_zw, hI_zw, tg_zw, ln_zw, hR_zw, hL_zw, hN_zw, hM_zw, upd_s, upd_u, upd_ne, Classical.not_not, k_Lw_keepAlive]; try clear hgo9 hW9)
    exact (hfd0 hk).elim
  · exact hq.elim
theorem lw_punch (x o : Nat) (p0 p1 p2 p3 : Int32) (h : AH) (Q : Po) (hx : tg h x = 6) (hc : Call l G M_Hp_punch [.ref x, .int p0, .int p1, .int p2, .int p3] h (LwP Q o [(IOE, 1), (IAE, 2), (ISE, 3)])) : Call l G M_Lw_punch [.ref x, .int p0, .int p1, .int p2, .int p3, .ref o] h Q := by
  refine call_ofH rfl rfl (Nat.le_of_ble_eq_true rfl) ?_
  (obtain ⟨W9, hW9, hgo9⟩ := wp_ex (T_Lw_punch l G) [] _; refine hgo9 200 _ _ _ _ ?_; simp -implicitDefEqProofs (disch := omega) only [hW9, inl, gate, Xq, tz_const, tz_iload, tz_lload, tz_dload, tz_aload, tz_istore, tz_astore, tz_lstore, tz_dstore, tz_iinc, tz_i1, tz_i2, tz_i2z, tz_l2, tz_l2z, tz_i2l, tz_l2i, tz_lcmp, tz_i2d, tz_d2, tz_dcmp, tz_dup, tz_dup2, tz_pop, tz_if, tz_icmp, tz_null, tz_goto, tz_sw, tz_getf, tz_puti, tz_putz, tz_putr, tz_putl, tz_iaload, tz_baload, tz_laload, tz_aaload, tz_iastore, tz_bastore, tz_lastore, tz_aastore, tz_alen, tz_new, tz_newa, tz_oinit, tz_iret, tz_zret, tz_lret, tz_dret, tz_aret, tz_vret, tz_throw, tz_callS, tz_callV, tz_callI, tz_callR, tz_pureS, tz_pureV, tz_callVH, lg, lset, lkill, lst1, lst2, entL, isRf, is1, vl, va_rf_none, va_rf_some, isRf_rf, is1_rf, i0, i1, bI_eq0, bI_eq1, nm_em, nI_eqP, nI_leP, nI_ltP, nN_e1, nN_e2, nN_l1, nN_l2, nN_l3, nN_l4, nI_add, pk_mul, vp_inN, nI_cl, n01, n10, P_i, P_ii, P_iii, f_Mo_at, f_Mo_map, f_Mo_contact, f_Mo_within, f_Mo_isPort, f_Hp_endpoint, f_Hp_nodeOf, f_Hp_portOf, f_Ma_max, f_Ma_min, f_Hp_isSetting, popN, rok, a1, noX, swc, mL, if_true, if_false, ↓reduceIte, cond_true, cond_false, true_and, and_true, List.length_cons, List.length_nil, List.nil_append, List.cons_append, List.append_nil, Option.toList, Nat.reduceEqDiff, Bool.false_eq_true, reduceCtorEq, Nat.reduceAdd, Nat.reduceLT, Nat.reduceLeDiff, Nat.reduceSub, List.replicate, Nat.zero_add, Nat.lt_add_one, Nat.le_refl, Nat.zero_le, Nat.succ_ne_zero, not_false_eq_true, not_true_eq_false, false_implies, true_implies, forall_const, imp_self, true_or, or_true, eq_self, sI_zw, zw_zw, hI_zw, tg_zw, ln_zw, hR_zw, hL_zw, hN_zw, hM_zw, upd_s, upd_u, upd_ne, Classical.not_not, k_Lw_punch, hx]; try clear hgo9 hW9)
  refine hc.mono (fun oc h1 hq => ?_)
  unfold LwP at hq
  split at hq
  · obtain ⟨⟨t1, t2⟩, hq⟩ := hq
    dsimp only
    (obtain ⟨W9, hW9, hgo9⟩ := wp_ex (T_Lw_punch l G) [] _; refine hgo9 200 _ _ _ _ ?_; simp -implicitDefEqProofs (disch := omega) only [hW9, inl, gate, Xq, tz_const, tz_iload, tz_lload, tz_dload, tz_aload, tz_istore, tz_astore, tz_lstore, tz_dstore, tz_iinc, tz_i1, tz_i2, tz_i2z, tz_l2, tz_l2z, tz_i2l, tz_l2i, tz_lcmp, tz_i2d, tz_d2, tz_dcmp, tz_dup, tz_dup2, tz_pop, tz_if, tz_icmp, tz_null, tz_goto, tz_sw, tz_getf, tz_puti, tz_putz, tz_putr, tz_putl, tz_iaload, tz_baload, tz_laload, tz_aaload, tz_iastore, tz_bastore, tz_lastore, tz_aastore, tz_alen, tz_new, tz_newa, tz_oinit, tz_iret, tz_zret, tz_lret, tz_dret, tz_aret, tz_vret, tz_throw, tz_callS, tz_callV, tz_callI, tz_callR, tz_pureS, tz_pureV, tz_callVH, lg, lset, lkill, lst1, lst2, entL, isRf, is1, vl, va_rf_none, va_rf_some, isRf_rf, is1_rf, i0, i1, bI_eq0, bI_eq1, nm_em, nI_eqP, nI_leP, nI_ltP, nN_e1, nN_e2, nN_l1, nN_l2, nN_l3, nN_l4, nI_add, pk_mul, vp_inN, nI_cl, n01, n10, P_i, P_ii, P_iii, f_Mo_at, f_Mo_map, f_Mo_contact, f_Mo_within, f_Mo_isPort, f_Hp_endpoint, f_Hp_nodeOf, f_Hp_portOf, f_Ma_max, f_Ma_min, f_Hp_isSetting, popN, rok, a1, noX, swc, mL, if_true, if_false, ↓reduceIte, cond_true, cond_false, true_and, and_true, List.length_cons, List.length_nil, List.nil_append, List.cons_append, List.append_nil, Option.toList, Nat.reduceEqDiff, Bool.false_eq_true, reduceCtorEq, Nat.reduceAdd, Nat.reduceLT, Nat.reduceLeDiff, Nat.reduceSub, List.replicate, Nat.zero_add, Nat.lt_add_one, Nat.le_refl, Nat.zero_le, Nat.succ_ne_zero, not_false_eq_true, not_true_eq_false, false_implies, true_implies, forall_const, imp_self, true_or, or_true, eq_self, sI_zw, zw_zw, hI_zw, tg_zw, ln_zw, hR_zw, hL_zw, hN_zw, hM_zw, upd_s, upd_u, upd_ne, Classical.not_not, k_Lw_punch, t1, t2]; try clear hgo9 hW9)
    exact hq
  · obtain ⟨k, hk, hq⟩ := hq
    dsimp only
    rcases hfd1 hk with ⟨e0, e1⟩ | hk
    · subst e0
      subst e1
      rw [show hfd [("java/lang/IndexOutOfBoundsException", 17), ("java/lang/IllegalArgumentException", 21), ("java/lang/IllegalStateException", 25)] IOE = some 17 by decide +kernel]
      dsimp only
      refine ⟨_, _, hq, fun q => ?_⟩
      (obtain ⟨W9, hW9, hgo9⟩ := wp_ex (T_Lw_punch l G) [] _; refine hgo9 200 _ _ _ _ ?_; simp -implicitDefEqProofs (disch := omega) only [hW9, inl, gate, Xq, tz_const, tz_iload, tz_lload, tz_dload, tz_aload, tz_istore, tz_astore, tz_lstore, tz_dstore, tz_iinc, tz_i1, tz_i2, tz_i2z, tz_l2, tz_l2z, tz_i2l, tz_l2i, tz_lcmp, tz_i2d, tz_d2, tz_dcmp, tz_dup, tz_dup2, tz_pop, tz_if, tz_icmp, tz_null, tz_goto, tz_sw, tz_getf, tz_puti, tz_putz, tz_putr, tz_putl, tz_iaload, tz_baload, tz_laload, tz_aaload, tz_iastore, tz_bastore, tz_lastore, tz_aastore, tz_alen, tz_new, tz_newa, tz_oinit, tz_iret, tz_zret, tz_lret, tz_dret, tz_aret, tz_vret, tz_throw, tz_callS, tz_callV, tz_callI, tz_callR, tz_pureS, tz_pureV, tz_callVH, lg, lset, lkill, lst1, lst2, entL, isRf, is1, vl, va_rf_none, va_rf_some, isRf_rf, is1_rf, i0, i1, bI_eq0, bI_eq1, nm_em, nI_eqP, nI_leP, nI_ltP, nN_e1, nN_e2, nN_l1, nN_l2, nN_l3, nN_l4, nI_add, pk_mul, vp_inN, nI_cl, n01, n10, P_i, P_ii, P_iii, f_Mo_at, f_Mo_map, f_Mo_contact, f_Mo_within, f_Mo_isPort, f_Hp_endpoint, f_Hp_nodeOf, f_Hp_portOf, f_Ma_max, f_Ma_min, f_Hp_isSetting, popN, rok, a1, noX, swc, mL, if_true, if_false, ↓reduceIte, cond_true, cond_false, true_and, and_true, List.length_cons, List.length_nil, List.nil_append, List.cons_append, List.append_nil, Option.toList, Nat.reduceEqDiff, Bool.false_eq_true, reduceCtorEq, Nat.reduceAdd, Nat.reduceLT, Nat.reduceLeDiff, Nat.reduceSub, List.replicate, Nat.zero_add, Nat.lt_add_one, Nat.le_refl, Nat.zero_le, Nat.succ_ne_zero, not_false_eq_true, not_true_eq_false, false_implies, true_implies, forall_const, imp_self, true_or, or_true, eq_self, sI_zw, zw_zw, hI_zw, tg_zw, ln_zw, hR_zw, hL_zw, hN_zw, hM_zw, upd_s, upd_u, upd_ne, Classical.not_not, k_Lw_punch]; try clear hgo9 hW9)
    rcases hfd1 hk with ⟨e0, e1⟩ | hk
    · subst e0
      subst e1
      rw [show hfd [("java/lang/IndexOutOfBoundsException", 17), ("java/lang/IllegalArgumentException", 21), ("java/lang/IllegalStateException", 25)] IAE = some 21 by decide +kernel]
      dsimp only
      refine ⟨_, _, hq, fun q => ?_⟩
      (obtain ⟨W9, hW9, hgo9⟩ := wp_ex (T_Lw_punch l G) [] _; refine hgo9 200 _ _ _ _ ?_; simp -implicitDefEqProofs (disch := omega) only [hW9, inl, gate, Xq, tz_const, tz_iload, tz_lload, tz_dload, tz_aload, tz_istore, tz_astore, tz_lstore, tz_dstore, tz_iinc, tz_i1, tz_i2, tz_i2z, tz_l2, tz_l2z, tz_i2l, tz_l2i, tz_lcmp, tz_i2d, tz_d2, tz_dcmp, tz_dup, tz_dup2, tz_pop, tz_if, tz_icmp, tz_null, tz_goto, tz_sw, tz_getf, tz_puti, tz_putz, tz_putr, tz_putl, tz_iaload, tz_baload, tz_laload, tz_aaload, tz_iastore, tz_bastore, tz_lastore, tz_aastore, tz_alen, tz_new, tz_newa, tz_oinit, tz_iret, tz_zret, tz_lret, tz_dret, tz_aret, tz_vret, tz_throw, tz_callS, tz_callV, tz_callI, tz_callR, tz_pureS, tz_pureV, tz_callVH, lg, lset, lkill, lst1, lst2, entL, isRf, is1, vl, va_rf_none, va_rf_some, isRf_rf, is1_rf, i0, i1, bI_eq0, bI_eq1, nm_em, nI_eqP, nI_leP, nI_ltP, nN_e1, nN_e2, nN_l1, nN_l2, nN_l3, nN_l4, nI_add, pk_mul, vp_inN, nI_cl, n01, n10, P_i, P_ii, P_iii, f_Mo_at, f_Mo_map, f_Mo_contact, f_Mo_within, f_Mo_isPort, f_Hp_endpoint, f_Hp_nodeOf, f_Hp_portOf, f_Ma_max, f_Ma_min, f_Hp_isSetting, popN, rok, a1, noX, swc, mL, if_true, if_false, ↓reduceIte, cond_true, cond_false, true_and, and_true, List.length_cons, List.length_nil, List.nil_append, List.cons_append, List.append_nil, Option.toList, Nat.reduceEqDiff, Bool.false_eq_true, reduceCtorEq, Nat.reduceAdd, Nat.reduceLT, Nat.reduceLeDiff, Nat.reduceSub, List.replicate, Nat.zero_add, Nat.lt_add_one, Nat.le_refl, Nat.zero_le, Nat.succ_ne_zero, not_false_eq_true, not_true_eq_false, false_implies, true_implies, forall_const, imp_self, true_or, or_true, eq_self, sI_zw, zw_zw, hI_zw, tg_zw, ln_zw, hR_zw, hL_zw, hN_zw, hM_zw, upd_s, upd_u, upd_ne, Classical.not_not, k_Lw_punch]; try clear hgo9 hW9)
    rcases hfd1 hk with ⟨e0, e1⟩ | hk
    · subst e0
      subst e1
      rw [show hfd [("java/lang/IndexOutOfBoundsException", 17), ("java/lang/IllegalArgumentException", 21), ("java/lang/IllegalStateException", 25)] ISE = some 25 by decide +kernel]
      dsimp only
      refine ⟨_, _, hq, fun q => ?_⟩
      (obtain ⟨W9, hW9, hgo9⟩ := wp_ex (T_Lw_punch l G) [] _; refine hgo9 200 _ _ _ _ ?_; simp -implicitDefEqProofs (disch := omega) only [hW9, inl, gate, Xq, tz_const, tz_iload, tz_lload, tz_dload, tz_aload, tz_istore, tz_astore, tz_lstore, tz_dstore, tz_iinc, tz_i1, tz_i2, tz_i2z, tz_l2, tz_l2z, tz_i2l, tz_l2i, tz_lcmp, tz_i2d, tz_d2, tz_dcmp, tz_dup, tz_dup2, tz_pop, tz_if, tz_icmp, tz_null, tz_goto, tz_sw, tz_getf, tz_puti, tz_putz, tz_putr, tz_putl, tz_iaload, tz_baload, tz_laload, tz_aaload, tz_iastore, tz_bastore, tz_lastore, tz_aastore, tz_alen, tz_new, tz_newa, tz_oinit, tz_iret, tz_zret, tz_lret, tz_dret, tz_aret, tz_vret, tz_throw, tz_callS, tz_callV, tz_callI, tz_callR, tz_pureS, tz_pureV, tz_callVH, lg, lset, lkill, lst1, lst2, entL, isRf, is1, vl, va_rf_none, va_rf_some, isRf_rf, is1_rf, i0, i1, bI_eq0, bI_eq1, nm_em, nI_eqP, nI_leP, nI_ltP, nN_e1, nN_e2, nN_l1, nN_l2, nN_l3, nN_l4, nI_add, pk_mul, vp_inN, nI_cl, n01, n10, P_i, P_ii, P_iii, f_Mo_at, f_Mo_map, f_Mo_contact, f_Mo_within, f_Mo_isPort, f_Hp_endpoint, f_Hp_nodeOf, f_Hp_portOf, f_Ma_max, f_Ma_min, f_Hp_isSetting, popN, rok, a1, noX, swc, mL, if_true, if_false, ↓reduceIte, cond_true, cond_false, true_and, and_true, List.length_cons, List.length_nil, List.nil_append, List.cons_append, List.append_nil, Option.toList, Nat.reduceEqDiff, Bool.false_eq_true, reduceCtorEq, Nat.reduceAdd, Nat.reduceLT, Nat.reduceLeDiff, Nat.reduceSub, List.replicate, Nat.zero_add, Nat.lt_add_one, Nat.le_refl, Nat.zero_le, Nat.succ_ne_zero, not_false_eq_true, not_true_eq_false, false_implies, true_implies, forall_const, imp_self, true_or, or_true, eq_self, sI_zw, zw_zw, hI_zw, tg_zw, ln_zw, hR_zw, hL_zw, hN_zw, hM_zw, upd_s, upd_u, upd_ne, Classical.not_not, k_Lw_punch]; try clear hgo9 hW9)
    exact (hfd0 hk).elim
  · exact hq.elim
theorem lw_ifSent (x o : Nat) (p0 p1 p2 p3 : Int32) (h : AH) (Q : Po) (hx : tg h x = 6) (hc : Call l G M_Hp_ifSent [.ref x, .int p0, .int p1, .int p2, .int p3] h (LwP Q o [(IOE, 1), (IAE, 2)])) : Call l G M_Lw_ifSent [.ref x, .int p0, .int p1, .int p2, .int p3, .ref o] h Q := by
  refine call_ofH rfl rfl (Nat.le_of_ble_eq_true rfl) ?_
  (obtain ⟨W9, hW9, hgo9⟩ := wp_ex (T_Lw_ifSent l G) [] _; refine hgo9 200 _ _ _ _ ?_; simp -implicitDefEqProofs (disch := omega) only [hW9, inl, gate, Xq, tz_const, tz_iload, tz_lload, tz_dload, tz_aload, tz_istore, tz_astore, tz_lstore, tz_dstore, tz_iinc, tz_i1, tz_i2, tz_i2z, tz_l2, tz_l2z, tz_i2l, tz_l2i, tz_lcmp, tz_i2d, tz_d2, tz_dcmp, tz_dup, tz_dup2, tz_pop, tz_if, tz_icmp, tz_null, tz_goto, tz_sw, tz_getf, tz_puti, tz_putz, tz_putr, tz_putl, tz_iaload, tz_baload, tz_laload, tz_aaload, tz_iastore, tz_bastore, tz_lastore, tz_aastore, tz_alen, tz_new, tz_newa, tz_oinit, tz_iret, tz_zret, tz_lret, tz_dret, tz_aret, tz_vret, tz_throw, tz_callS, tz_callV, tz_callI, tz_callR, tz_pureS, tz_pureV, tz_callVH, lg, lset, lkill, lst1, lst2, entL, isRf, is1, vl, va_rf_none, va_rf_some, isRf_rf, is1_rf, i0, i1, bI_eq0, bI_eq1, nm_em, nI_eqP, nI_leP, nI_ltP, nN_e1, nN_e2, nN_l1, nN_l2, nN_l3, nN_l4, nI_add, pk_mul, vp_inN, nI_cl, n01, n10, P_i, P_ii, P_iii, f_Mo_at, f_Mo_map, f_Mo_contact, f_Mo_within, f_Mo_isPort, f_Hp_endpoint, f_Hp_nodeOf, f_Hp_portOf, f_Ma_max, f_Ma_min, f_Hp_isSetting, popN, rok, a1, noX, swc, mL, if_true, if_false, ↓reduceIte, cond_true, cond_false, true_and, and_true, List.length_cons, List.length_nil, List.nil_append, List.cons_append, List.append_nil, Option.toList, Nat.reduceEqDiff, Bool.false_eq_true, reduceCtorEq, Nat.reduceAdd, Nat.reduceLT, Nat.reduceLeDiff, Nat.reduceSub, List.replicate, Nat.zero_add, Nat.lt_add_one, Nat.le_refl, Nat.zero_le, Nat.succ_ne_zero, not_false_eq_true, not_true_eq_false, false_implies, true_implies, forall_const, imp_self, true_or, or_true, eq_self, sI_zw, zw_zw, hI_zw, tg_zw, ln_zw, hR_zw, hL_zw, hN_zw, hM_zw, upd_s, upd_u, upd_ne, Classical.not_not, k_Lw_ifSent, hx]; try clear hgo9 hW9)
  refine hc.mono (fun oc h1 hq => ?_)
  unfold LwP at hq
  split at hq
  · obtain ⟨⟨t1, t2⟩, hq⟩ := hq
    dsimp only
    (obtain ⟨W9, hW9, hgo9⟩ := wp_ex (T_Lw_ifSent l G) [] _; refine hgo9 200 _ _ _ _ ?_; simp -implicitDefEqProofs (disch := omega) only [hW9, inl, gate, Xq, tz_const, tz_iload, tz_lload, tz_dload, tz_aload, tz_istore, tz_astore, tz_lstore, tz_dstore, tz_iinc, tz_i1, tz_i2, tz_i2z, tz_l2, tz_l2z, tz_i2l, tz_l2i, tz_lcmp, tz_i2d, tz_d2, tz_dcmp, tz_dup, tz_dup2, tz_pop, tz_if, tz_icmp, tz_null, tz_goto, tz_sw, tz_getf, tz_puti, tz_putz, tz_putr, tz_putl, tz_iaload, tz_baload, tz_laload, tz_aaload, tz_iastore, tz_bastore, tz_lastore, tz_aastore, tz_alen, tz_new, tz_newa, tz_oinit, tz_iret, tz_zret, tz_lret, tz_dret, tz_aret, tz_vret, tz_throw, tz_callS, tz_callV, tz_callI, tz_callR, tz_pureS, tz_pureV, tz_callVH, lg, lset, lkill, lst1, lst2, entL, isRf, is1, vl, va_rf_none, va_rf_some, isRf_rf, is1_rf, i0, i1, bI_eq0, bI_eq1, nm_em, nI_eqP, nI_leP, nI_ltP, nN_e1, nN_e2, nN_l1, nN_l2, nN_l3, nN_l4, nI_add, pk_mul, vp_inN, nI_cl, n01, n10, P_i, P_ii, P_iii, f_Mo_at, f_Mo_map, f_Mo_contact, f_Mo_within, f_Mo_isPort, f_Hp_endpoint, f_Hp_nodeOf, f_Hp_portOf, f_Ma_max, f_Ma_min, f_Hp_isSetting, popN, rok, a1, noX, swc, mL, if_true, if_false, ↓reduceIte, cond_true, cond_false, true_and, and_true, List.length_cons, List.length_nil, List.nil_append, List.cons_append, List.append_nil, Option.toList, Nat.reduceEqDiff, Bool.false_eq_true, reduceCtorEq, Nat.reduceAdd, Nat.reduceLT, Nat.reduceLeDiff, Nat.reduceSub, List.replicate, Nat.zero_add, Nat.lt_add_one, Nat.le_refl, Nat.zero_le, Nat.succ_ne_zero, not_false_eq_true, not_true_eq_false, false_implies, true_implies, forall_const, imp_self, true_or, or_true, eq_self, sI_zw, zw_zw, hI_zw, tg_zw, ln_zw, hR_zw, hL_zw, hN_zw, hM_zw, upd_s, upd_u, upd_ne, Classical.not_not, k_Lw_ifSent, t1, t2]; try clear hgo9 hW9)
    exact hq
  · obtain ⟨k, hk, hq⟩ := hq
    dsimp only
    rcases hfd1 hk with ⟨e0, e1⟩ | hk
    · subst e0
      subst e1
      rw [show hfd [("java/lang/IndexOutOfBoundsException", 17), ("java/lang/IllegalArgumentException", 21)] IOE = some 17 by decide +kernel]
      dsimp only
      refine ⟨_, _, hq, fun q => ?_⟩
      (obtain ⟨W9, hW9, hgo9⟩ := wp_ex (T_Lw_ifSent l G) [] _; refine hgo9 200 _ _ _ _ ?_; simp -implicitDefEqProofs (disch := omega) only [hW9, inl, gate, Xq, tz_const, tz_iload, tz_lload, tz_dload, tz_aload, tz_istore, tz_astore, tz_lstore, tz_dstore, tz_iinc, tz_i1, tz_i2, tz_i2z, tz_l2, tz_l2z, tz_i2l, tz_l2i, tz_lcmp, tz_i2d, tz_d2, tz_dcmp, tz_dup, tz_dup2, tz_pop, tz_if, tz_icmp, tz_null, tz_goto, tz_sw, tz_getf, tz_puti, tz_putz, tz_putr, tz_putl, tz_iaload, tz_baload, tz_laload, tz_aaload, tz_iastore, tz_bastore, tz_lastore, tz_aastore, tz_alen, tz_new, tz_newa, tz_oinit, tz_iret, tz_zret, tz_lret, tz_dret, tz_aret, tz_vret, tz_throw, tz_callS, tz_callV, tz_callI, tz_callR, tz_pureS, tz_pureV, tz_callVH, lg, lset, lkill, lst1, lst2, entL, isRf, is1, vl, va_rf_none, va_rf_some, isRf_rf, is1_rf, i0, i1, bI_eq0, bI_eq1, nm_em, nI_eqP, nI_leP, nI_ltP, nN_e1, nN_e2, nN_l1, nN_l2, nN_l3, nN_l4, nI_add, pk_mul, vp_inN, nI_cl, n01, n10, P_i, P_ii, P_iii, f_Mo_at, f_Mo_map, f_Mo_contact, f_Mo_within, f_Mo_isPort, f_Hp_endpoint, f_Hp_nodeOf, f_Hp_portOf, f_Ma_max, f_Ma_min, f_Hp_isSetting, popN, rok, a1, noX, swc, mL, if_true, if_false, ↓reduceIte, cond_true, cond_false, true_and, and_true, List.length_cons, List.length_nil, List.nil_append, List.cons_append, List.append_nil, Option.toList, Nat.reduceEqDiff, Bool.false_eq_true, reduceCtorEq, Nat.reduceAdd, Nat.reduceLT, Nat.reduceLeDiff, Nat.reduceSub, List.replicate, Nat.zero_add, Nat.lt_add_one, Nat.le_refl, Nat.zero_le, Nat.succ_ne_zero, not_false_eq_true, not_true_eq_false, false_implies, true_implies, forall_const, imp_self, true_or, or_true, eq_self, sI_zw, zw_zw, hI_zw, tg_zw, ln_zw, hR_zw, hL_zw, hN_zw, hM_zw, upd_s, upd_u, upd_ne, Classical.not_not, k_Lw_ifSent]; try clear hgo9 hW9)
    rcases hfd1 hk with ⟨e0, e1⟩ | hk
    · subst e0
      subst e1
      rw [show hfd [("java/lang/IndexOutOfBoundsException", 17), ("java/lang/IllegalArgumentException", 21)] IAE = some 21 by decide +kernel]
      dsimp only
      refine ⟨_, _, hq, fun q => ?_⟩
      (obtain ⟨W9, hW9, hgo9⟩ := wp_ex (T_Lw_ifSent l G) [] _; refine hgo9 200 _ _ _ _ ?_; simp -implicitDefEqProofs (disch := omega) only [hW9, inl, gate, Xq, tz_const, tz_iload, tz_lload, tz_dload, tz_aload, tz_istore, tz_astore, tz_lstore, tz_dstore, tz_iinc, tz_i1, tz_i2, tz_i2z, tz_l2, tz_l2z, tz_i2l, tz_l2i, tz_lcmp, tz_i2d, tz_d2, tz_dcmp, tz_dup, tz_dup2, tz_pop, tz_if, tz_icmp, tz_null, tz_goto, tz_sw, tz_getf, tz_puti, tz_putz, tz_putr, tz_putl, tz_iaload, tz_baload, tz_laload, tz_aaload, tz_iastore, tz_bastore, tz_lastore, tz_aastore, tz_alen, tz_new, tz_newa, tz_oinit, tz_iret, tz_zret, tz_lret, tz_dret, tz_aret, tz_vret, tz_throw, tz_callS, tz_callV, tz_callI, tz_callR, tz_pureS, tz_pureV, tz_callVH, lg, lset, lkill, lst1, lst2, entL, isRf, is1, vl, va_rf_none, va_rf_some, isRf_rf, is1_rf, i0, i1, bI_eq0, bI_eq1, nm_em, nI_eqP, nI_leP, nI_ltP, nN_e1, nN_e2, nN_l1, nN_l2, nN_l3, nN_l4, nI_add, pk_mul, vp_inN, nI_cl, n01, n10, P_i, P_ii, P_iii, f_Mo_at, f_Mo_map, f_Mo_contact, f_Mo_within, f_Mo_isPort, f_Hp_endpoint, f_Hp_nodeOf, f_Hp_portOf, f_Ma_max, f_Ma_min, f_Hp_isSetting, popN, rok, a1, noX, swc, mL, if_true, if_false, ↓reduceIte, cond_true, cond_false, true_and, and_true, List.length_cons, List.length_nil, List.nil_append, List.cons_append, List.append_nil, Option.toList, Nat.reduceEqDiff, Bool.false_eq_true, reduceCtorEq, Nat.reduceAdd, Nat.reduceLT, Nat.reduceLeDiff, Nat.reduceSub, List.replicate, Nat.zero_add, Nat.lt_add_one, Nat.le_refl, Nat.zero_le, Nat.succ_ne_zero, not_false_eq_true, not_true_eq_false, false_implies, true_implies, forall_const, imp_self, true_or, or_true, eq_self, sI_zw, zw_zw, hI_zw, tg_zw, ln_zw, hR_zw, hL_zw, hN_zw, hM_zw, upd_s, upd_u, upd_ne, Classical.not_not, k_Lw_ifSent]; try clear hgo9 hW9)
    exact (hfd0 hk).elim
  · exact hq.elim
theorem lw_count (x o : Nat) (p0 : Int32) (h : AH) (Q : Po) (hx : tg h x = 6) (hc : Call l G M_Hp_count [.ref x, .int p0] h (LwP Q o [(IAE, 1)])) : Call l G M_Lw_count [.ref x, .int p0, .ref o] h Q := by
  refine call_ofH rfl rfl (Nat.le_of_ble_eq_true rfl) ?_
  (obtain ⟨W9, hW9, hgo9⟩ := wp_ex (T_Lw_count l G) [] _; refine hgo9 200 _ _ _ _ ?_; simp -implicitDefEqProofs (disch := omega) only [hW9, inl, gate, Xq, tz_const, tz_iload, tz_lload, tz_dload, tz_aload, tz_istore, tz_astore, tz_lstore, tz_dstore, tz_iinc, tz_i1, tz_i2, tz_i2z, tz_l2, tz_l2z, tz_i2l, tz_l2i, tz_lcmp, tz_i2d, tz_d2, tz_dcmp, tz_dup, tz_dup2, tz_pop, tz_if, tz_icmp, tz_null, tz_goto, tz_sw, tz_getf, tz_puti, tz_putz, tz_putr, tz_putl, tz_iaload, tz_baload, tz_laload, tz_aaload, tz_iastore, tz_bastore, tz_lastore, tz_aastore, tz_alen, tz_new, tz_newa, tz_oinit, tz_iret, tz_zret, tz_lret, tz_dret, tz_aret, tz_vret, tz_throw, tz_callS, tz_callV, tz_callI, tz_callR, tz_pureS, tz_pureV, tz_callVH, lg, lset, lkill, lst1, lst2, entL, isRf, is1, vl, va_rf_none, va_rf_some, isRf_rf, is1_rf, i0, i1, bI_eq0, bI_eq1, nm_em, nI_eqP, nI_leP, nI_ltP, nN_e1, nN_e2, nN_l1, nN_l2, nN_l3, nN_l4, nI_add, pk_mul, vp_inN, nI_cl, n01, n10, P_i, P_ii, P_iii, f_Mo_at, f_Mo_map, f_Mo_contact, f_Mo_within, f_Mo_isPort, f_Hp_endpoint, f_Hp_nodeOf, f_Hp_portOf, f_Ma_max, f_Ma_min, f_Hp_isSetting, popN, rok, a1, noX, swc, mL, if_true, if_false, ↓reduceIte, cond_true, cond_false, true_and, and_true, List.length_cons, List.length_nil, List.nil_append, List.cons_append, List.append_nil, Option.toList, Nat.reduceEqDiff, Bool.false_eq_true, reduceCtorEq, Nat.reduceAdd, Nat.reduceLT, Nat.reduceLeDiff, Nat.reduceSub, List.replicate, Nat.zero_add, Nat.lt_add_one, Nat.le_refl, Nat.zero_le, Nat.succ_ne_zero, not_false_eq_true, not_true_eq_false, false_implies, true_implies, forall_const, imp_self, true_or, or_true, eq_self, sI_zw, zw_zw, hI_zw, tg_zw, ln_zw, hR_zw, hL_zw, hN_zw, hM_zw, upd_s, upd_u, upd_ne, Classical.not_not, k_Lw_count, hx]; try clear hgo9 hW9)
  refine hc.mono (fun oc h1 hq => ?_)
  unfold LwP at hq
  split at hq
  · obtain ⟨⟨t1, t2⟩, hq⟩ := hq
    dsimp only
    (obtain ⟨W9, hW9, hgo9⟩ := wp_ex (T_Lw_count l G) [] _; refine hgo9 200 _ _ _ _ ?_; simp -implicitDefEqProofs (disch := omega) only [hW9, inl, gate, Xq, tz_const, tz_iload, tz_lload, tz_dload, tz_aload, tz_istore, tz_astore, tz_lstore, tz_dstore, tz_iinc, tz_i1, tz_i2, tz_i2z, tz_l2, tz_l2z, tz_i2l, tz_l2i, tz_lcmp, tz_i2d, tz_d2, tz_dcmp, tz_dup, tz_dup2, tz_pop, tz_if, tz_icmp, tz_null, tz_goto, tz_sw, tz_getf, tz_puti, tz_putz, tz_putr, tz_putl, tz_iaload, tz_baload, tz_laload, tz_aaload, tz_iastore, tz_bastore, tz_lastore, tz_aastore, tz_alen, tz_new, tz_newa, tz_oinit, tz_iret, tz_zret, tz_lret, tz_dret, tz_aret, tz_vret, tz_throw, tz_callS, tz_callV, tz_callI, tz_callR, tz_pureS, tz_pureV, tz_callVH, lg, lset, lkill, lst1, lst2, entL, isRf, is1, vl, va_rf_none, va_rf_some, isRf_rf, is1_rf, i0, i1, bI_eq0, bI_eq1, nm_em, nI_eqP, nI_leP, nI_ltP, nN_e1, nN_e2, nN_l1, nN_l2, nN_l3, nN_l4, nI_add, pk_mul, vp_inN, nI_cl, n01, n10, P_i, P_ii, P_iii, f_Mo_at, f_Mo_map, f_Mo_contact, f_Mo_within, f_Mo_isPort, f_Hp_endpoint, f_Hp_nodeOf, f_Hp_portOf, f_Ma_max, f_Ma_min, f_Hp_isSetting, popN, rok, a1, noX, swc, mL, if_true, if_false, ↓reduceIte, cond_true, cond_false, true_and, and_true, List.length_cons, List.length_nil, List.nil_append, List.cons_append, List.append_nil, Option.toList, Nat.reduceEqDiff, Bool.false_eq_true, reduceCtorEq, Nat.reduceAdd, Nat.reduceLT, Nat.reduceLeDiff, Nat.reduceSub, List.replicate, Nat.zero_add, Nat.lt_add_one, Nat.le_refl, Nat.zero_le, Nat.succ_ne_zero, not_false_eq_true, not_true_eq_false, false_implies, true_implies, forall_const, imp_self, true_or, or_true, eq_self, sI_zw, zw_zw, hI_zw, tg_zw, ln_zw, hR_zw, hL_zw, hN_zw, hM_zw, upd_s, upd_u, upd_ne, Classical.not_not, k_Lw_count, t1, t2]; try clear hgo9 hW9)
    exact hq
  · obtain ⟨k, hk, hq⟩ := hq
    dsimp only
    rcases hfd1 hk with ⟨e0, e1⟩ | hk
    · subst e0
      subst e1
      rw [show hfd [("java/lang/IllegalArgumentException", 12)] IAE = some 12 by decide +kernel]
      dsimp only
      refine ⟨_, _, hq, fun q => ?_⟩
      (obtain ⟨W9, hW9, hgo9⟩ := wp_ex (T_Lw_count l G) [] _; refine hgo9 200 _ _ _ _ ?_; simp -implicitDefEqProofs (disch := omega) only [hW9, inl, gate, Xq, tz_const, tz_iload, tz_lload, tz_dload, tz_aload, tz_istore, tz_astore, tz_lstore, tz_dstore, tz_iinc, tz_i1, tz_i2, tz_i2z, tz_l2, tz_l2z, tz_i2l, tz_l2i, tz_lcmp, tz_i2d, tz_d2, tz_dcmp, tz_dup, tz_dup2, tz_pop, tz_if, tz_icmp, tz_null, tz_goto, tz_sw, tz_getf, tz_puti, tz_putz, tz_putr, tz_putl, tz_iaload, tz_baload, tz_laload, tz_aaload, tz_iastore, tz_bastore, tz_lastore, tz_aastore, tz_alen, tz_new, tz_newa, tz_oinit, tz_iret, tz_zret, tz_lret, tz_dret, tz_aret, tz_vret, tz_throw, tz_callS, tz_callV, tz_callI, tz_callR, tz_pureS, tz_pureV, tz_callVH, lg, lset, lkill, lst1, lst2, entL, isRf, is1, vl, va_rf_none, va_rf_some, isRf_rf, is1_rf, i0, i1, bI_eq0, bI_eq1, nm_em, nI_eqP, nI_leP, nI_ltP, nN_e1, nN_e2, nN_l1, nN_l2, nN_l3, nN_l4, nI_add, pk_mul, vp_inN, nI_cl, n01, n10, P_i, P_ii, P_iii, f_Mo_at, f_Mo_map, f_Mo_contact, f_Mo_within, f_Mo_isPort, f_Hp_endpoint, f_Hp_nodeOf, f_Hp_portOf, f_Ma_max, f_Ma_min, f_Hp_isSetting, popN, rok, a1, noX, swc, mL, if_true, if_false, ↓reduceIte, cond_true, cond_false, true_and, and_true, List.length_cons, List.length_nil, List.nil_append, List.cons_append, List.append_nil, Option.toList, Nat.reduceEqDiff, Bool.false_eq_true, reduceCtorEq, Nat.reduceAdd, Nat.reduceLT, Nat.reduceLeDiff, Nat.reduceSub, List.replicate, Nat.zero_add, Nat.lt_add_one, Nat.le_refl, Nat.zero_le, Nat.succ_ne_zero, not_false_eq_true, not_true_eq_false, false_implies, true_implies, forall_const, imp_self, true_or, or_true, eq_self, sI_zw, zw_zw, hI_zw, tg_zw, ln_zw, hR_zw, hL_zw, hN_zw, hM_zw, upd_s, upd_u, upd_ne, Classical.not_not, k_Lw_count]; try clear hgo9 hW9)
    exact (hfd0 hk).elim
  · exact hq.elim
theorem lw_node (x o : Nat) (p0 p1 : Int32) (h : AH) (Q : Po) (hx : tg h x = 6) (hc : Call l G M_Hp_node [.ref x, .int p0, .int p1] h (LwP Q o [(IOE, 1), (IAE, 2)])) : Call l G M_Lw_node [.ref x, .int p0, .int p1, .ref o] h Q := by
  refine call_ofH rfl rfl (Nat.le_of_ble_eq_true rfl) ?_
  (obtain ⟨W9, hW9, hgo9⟩ := wp_ex (T_Lw_node l G) [] _; refine hgo9 200 _ _ _ _ ?_; simp -implicitDefEqProofs (disch := omega) only [hW9, inl, gate, Xq, tz_const, tz_iload, tz_lload, tz_dload, tz_aload, tz_istore, tz_astore, tz_lstore, tz_dstore, tz_iinc, tz_i1, tz_i2, tz_i2z, tz_l2, tz_l2z, tz_i2l, tz_l2i, tz_lcmp, tz_i2d, tz_d2, tz_dcmp, tz_dup, tz_dup2, tz_pop, tz_if, tz_icmp, tz_null, tz_goto, tz_sw, tz_getf, tz_puti, tz_putz, tz_putr, tz_putl, tz_iaload, tz_baload, tz_laload, tz_aaload, tz_iastore, tz_bastore, tz_lastore, tz_aastore, tz_alen, tz_new, tz_newa, tz_oinit, tz_iret, tz_zret, tz_lret, tz_dret, tz_aret, tz_vret, tz_throw, tz_callS, tz_callV, tz_callI, tz_callR, tz_pureS, tz_pureV, tz_callVH, lg, lset, lkill, lst1, lst2, entL, isRf, is1, vl, va_rf_none, va_rf_some, isRf_rf, is1_rf, i0, i1, bI_eq0, bI_eq1, nm_em, nI_eqP, nI_leP, nI_ltP, nN_e1, nN_e2, nN_l1, nN_l2, nN_l3, nN_l4, nI_add, pk_mul, vp_inN, nI_cl, n01, n10, P_i, P_ii, P_iii, f_Mo_at, f_Mo_map, f_Mo_contact, f_Mo_within, f_Mo_isPort, f_Hp_endpoint, f_Hp_nodeOf, f_Hp_portOf, f_Ma_max, f_Ma_min, f_Hp_isSetting, popN, rok, a1, noX, swc, mL, if_true, if_false, ↓reduceIte, cond_true, cond_false, true_and, and_true, List.length_cons, List.length_nil, List.nil_append, List.cons_append, List.append_nil, Option.toList, Nat.reduceEqDiff, Bool.false_eq_true, reduceCtorEq, Nat.reduceAdd, Nat.reduceLT, Nat.reduceLeDiff, Nat.reduceSub, List.replicate, Nat.zero_add, Nat.lt_add_one, Nat.le_refl, Nat.zero_le, Nat.succ_ne_zero, not_false_eq_true, not_true_eq_false, false_implies, true_implies, forall_const, imp_self, true_or, or_true, eq_self, sI_zw, zw_zw, hI_zw, tg_zw, ln_zw, hR_zw, hL_zw, hN_zw, hM_zw, upd_s, upd_u, upd_ne, Classical.not_not, k_Lw_node, hx]; try clear hgo9 hW9)
  refine hc.mono (fun oc h1 hq => ?_)
  unfold LwP at hq
  split at hq
  · obtain ⟨⟨t1, t2⟩, hq⟩ := hq
    dsimp only
    (obtain ⟨W9, hW9, hgo9⟩ := wp_ex (T_Lw_node l G) [] _; refine hgo9 200 _ _ _ _ ?_; simp -implicitDefEqProofs (disch := omega) only [hW9, inl, gate, Xq, tz_const, tz_iload, tz_lload, tz_dload, tz_aload, tz_istore, tz_astore, tz_lstore, tz_dstore, tz_iinc, tz_i1, tz_i2, tz_i2z, tz_l2, tz_l2z, tz_i2l, tz_l2i, tz_lcmp, tz_i2d, tz_d2, tz_dcmp, tz_dup, tz_dup2, tz_pop, tz_if, tz_icmp, tz_null, tz_goto, tz_sw, tz_getf, tz_puti, tz_putz, tz_putr, tz_putl, tz_iaload, tz_baload, tz_laload, tz_aaload, tz_iastore, tz_bastore, tz_lastore, tz_aastore, tz_alen, tz_new, tz_newa, tz_oinit, tz_iret, tz_zret, tz_lret, tz_dret, tz_aret, tz_vret, tz_throw, tz_callS, tz_callV, tz_callI, tz_callR, tz_pureS, tz_pureV, tz_callVH, lg, lset, lkill, lst1, lst2, entL, isRf, is1, vl, va_rf_none, va_rf_some, isRf_rf, is1_rf, i0, i1, bI_eq0, bI_eq1, nm_em, nI_eqP, nI_leP, nI_ltP, nN_e1, nN_e2, nN_l1, nN_l2, nN_l3, nN_l4, nI_add, pk_mul, vp_inN, nI_cl, n01, n10, P_i, P_ii, P_iii, f_Mo_at, f_Mo_map, f_Mo_contact, f_Mo_within, f_Mo_isPort, f_Hp_endpoint, f_Hp_nodeOf, f_Hp_portOf, f_Ma_max, f_Ma_min, f_Hp_isSetting, popN, rok, a1, noX, swc, mL, if_true, if_false, ↓reduceIte, cond_true, cond_false, true_and, and_true, List.length_cons, List.length_nil, List.nil_append, List.cons_append, List.append_nil, Option.toList, Nat.reduceEqDiff, Bool.false_eq_true, reduceCtorEq, Nat.reduceAdd, Nat.reduceLT, Nat.reduceLeDiff, Nat.reduceSub, List.replicate, Nat.zero_add, Nat.lt_add_one, Nat.le_refl, Nat.zero_le, Nat.succ_ne_zero, not_false_eq_true, not_true_eq_false, false_implies, true_implies, forall_const, imp_self, true_or, or_true, eq_self, sI_zw, zw_zw, hI_zw, tg_zw, ln_zw, hR_zw, hL_zw, hN_zw, hM_zw, upd_s, upd_u, upd_ne, Classical.not_not, k_Lw_node, t1, t2]; try clear hgo9 hW9)
    exact hq
  · obtain ⟨k, hk, hq⟩ := hq
    dsimp only
    rcases hfd1 hk with ⟨e0, e1⟩ | hk
    · subst e0
      subst e1
      rw [show hfd [("java/lang/IndexOutOfBoundsException", 13), ("java/lang/IllegalArgumentException", 17)] IOE = some 13 by decide +kernel]
      dsimp only
      refine ⟨_, _, hq, fun q => ?_⟩
      (obtain ⟨W9, hW9, hgo9⟩ := wp_ex (T_Lw_node l G) [] _; refine hgo9 200 _ _ _ _ ?_; simp -implicitDefEqProofs (disch := omega) only [hW9, inl, gate, Xq, tz_const, tz_iload, tz_lload, tz_dload, tz_aload, tz_istore, tz_astore, tz_lstore, tz_dstore, tz_iinc, tz_i1, tz_i2, tz_i2z, tz_l2, tz_l2z, tz_i2l, tz_l2i, tz_lcmp, tz_i2d, tz_d2, tz_dcmp, tz_dup, tz_dup2, tz_pop, tz_if, tz_icmp, tz_null, tz_goto, tz_sw, tz_getf, tz_puti, tz_putz, tz_putr, tz_putl, tz_iaload, tz_baload, tz_laload, tz_aaload, tz_iastore, tz_bastore, tz_lastore, tz_aastore, tz_alen, tz_new, tz_newa, tz_oinit, tz_iret, tz_zret, tz_lret, tz_dret, tz_aret, tz_vret, tz_throw, tz_callS, tz_callV, tz_callI, tz_callR, tz_pureS, tz_pureV, tz_callVH, lg, lset, lkill, lst1, lst2, entL, isRf, is1, vl, va_rf_none, va_rf_some, isRf_rf, is1_rf, i0, i1, bI_eq0, bI_eq1, nm_em, nI_eqP, nI_leP, nI_ltP, nN_e1, nN_e2, nN_l1, nN_l2, nN_l3, nN_l4, nI_add, pk_mul, vp_inN, nI_cl, n01, n10, P_i, P_ii, P_iii, f_Mo_at, f_Mo_map, f_Mo_contact, f_Mo_within, f_Mo_isPort, f_Hp_endpoint, f_Hp_nodeOf, f_Hp_portOf, f_Ma_max, f_Ma_min, f_Hp_isSetting, popN, rok, a1, noX, swc, mL, if_true, if_false, ↓reduceIte, cond_true, cond_false, true_and, and_true, List.length_cons, List.length_nil, List.nil_append, List.cons_append, List.append_nil, Option.toList, Nat.reduceEqDiff, Bool.false_eq_true, reduceCtorEq, Nat.reduceAdd, Nat.reduceLT, Nat.reduceLeDiff, Nat.reduceSub, List.replicate, Nat.zero_add, Nat.lt_add_one, Nat.le_refl, Nat.zero_le, Nat.succ_ne_zero, not_false_eq_true, not_true_eq_false, false_implies, true_implies, forall_const, imp_self, true_or, or_true, eq_self, sI_zw, zw_zw, hI_zw, tg_zw, ln_zw, hR_zw, hL_zw, hN_zw, hM_zw, upd_s, upd_u, upd_ne, Classical.not_not, k_Lw_node]; try clear hgo9 hW9)
    rcases hfd1 hk with ⟨e0, e1⟩ | hk
    · subst e0
      subst e1
      rw [show hfd [("java/lang/IndexOutOfBoundsException", 13), ("java/lang/IllegalArgumentException", 17)] IAE = some 17 by decide +kernel]
      dsimp only
      refine ⟨_, _, hq, fun q => ?_⟩
      (obtain ⟨W9, hW9, hgo9⟩ := wp_ex (T_Lw_node l G) [] _; refine hgo9 200 _ _ _ _ ?_; simp -implicitDefEqProofs (disch := omega) only [hW9, inl, gate, Xq, tz_const, tz_iload, tz_lload, tz_dload, tz_aload, tz_istore, tz_astore, tz_lstore, tz_dstore, tz_iinc, tz_i1, tz_i2, tz_i2z, tz_l2, tz_l2z, tz_i2l, tz_l2i, tz_lcmp, tz_i2d, tz_d2, tz_dcmp, tz_dup, tz_dup2, tz_pop, tz_if, tz_icmp, tz_null, tz_goto, tz_sw, tz_getf, tz_puti, tz_putz, tz_putr, tz_putl, tz_iaload, tz_baload, tz_laload, tz_aaload, tz_iastore, tz_bastore, tz_lastore, tz_aastore, tz_alen, tz_new, tz_newa, tz_oinit, tz_iret, tz_zret, tz_lret, tz_dret, tz_aret, tz_vret, tz_throw, tz_callS, tz_callV, tz_callI, tz_callR, tz_pureS, tz_pureV, tz_callVH, lg, lset, lkill, lst1, lst2, entL, isRf, is1, vl, va_rf_none, va_rf_some, isRf_rf, is1_rf, i0, i1, bI_eq0, bI_eq1, nm_em, nI_eqP, nI_leP, nI_ltP, nN_e1, nN_e2, nN_l1, nN_l2, nN_l3, nN_l4, nI_add, pk_mul, vp_inN, nI_cl, n01, n10, P_i, P_ii, P_iii, f_Mo_at, f_Mo_map, f_Mo_contact, f_Mo_within, f_Mo_isPort, f_Hp_endpoint, f_Hp_nodeOf, f_Hp_portOf, f_Ma_max, f_Ma_min, f_Hp_isSetting, popN, rok, a1, noX, swc, mL, if_true, if_false, ↓reduceIte, cond_true, cond_false, true_and, and_true, List.length_cons, List.length_nil, List.nil_append, List.cons_append, List.append_nil, Option.toList, Nat.reduceEqDiff, Bool.false_eq_true, reduceCtorEq, Nat.reduceAdd, Nat.reduceLT, Nat.reduceLeDiff, Nat.reduceSub, List.replicate, Nat.zero_add, Nat.lt_add_one, Nat.le_refl, Nat.zero_le, Nat.succ_ne_zero, not_false_eq_true, not_true_eq_false, false_implies, true_implies, forall_const, imp_self, true_or, or_true, eq_self, sI_zw, zw_zw, hI_zw, tg_zw, ln_zw, hR_zw, hL_zw, hN_zw, hM_zw, upd_s, upd_u, upd_ne, Classical.not_not, k_Lw_node]; try clear hgo9 hW9)
    exact (hfd0 hk).elim
  · exact hq.elim
theorem lw_translator (x o : Nat) (p0 p1 : Int32) (h : AH) (Q : Po) (hx : tg h x = 6) (hc : Call l G M_Hp_translator [.ref x, .int p0, .int p1] h (LwP Q o [(IOE, 1), (IAE, 2)])) : Call l G M_Lw_translator [.ref x, .int p0, .int p1, .ref o] h Q := by
  refine call_ofH rfl rfl (Nat.le_of_ble_eq_true rfl) ?_
  (obtain ⟨W9, hW9, hgo9⟩ := wp_ex (T_Lw_translator l G) [] _; refine hgo9 200 _ _ _ _ ?_; simp -implicitDefEqProofs (disch := omega) only [hW9, inl, gate, Xq, tz_const, tz_iload, tz_lload, tz_dload, tz_aload, tz_istore, tz_astore, tz_lstore, tz_dstore, tz_iinc, tz_i1, tz_i2, tz_i2z, tz_l2, tz_l2z, tz_i2l, tz_l2i, tz_lcmp, tz_i2d, tz_d2, tz_dcmp, tz_dup, tz_dup2, tz_pop, tz_if, tz_icmp, tz_null, tz_goto, tz_sw, tz_getf, tz_puti, tz_putz, tz_putr, tz_putl, tz_iaload, tz_baload, tz_laload, tz_aaload, tz_iastore, tz_bastore, tz_lastore, tz_aastore, tz_alen, tz_new, tz_newa, tz_oinit, tz_iret, tz_zret, tz_lret, tz_dret, tz_aret, tz_vret, tz_throw, tz_callS, tz_callV, tz_callI, tz_callR, tz_pureS, tz_pureV, tz_callVH, lg, lset, lkill, lst1, lst2, entL, isRf, is1, vl, va_rf_none, va_rf_some, isRf_rf, is1_rf, i0, i1, bI_eq0, bI_eq1, nm_em, nI_eqP, nI_leP, nI_ltP, nN_e1, nN_e2, nN_l1, nN_l2, nN_l3, nN_l4, nI_add, pk_mul, vp_inN, nI_cl, n01, n10, P_i, P_ii, P_iii, f_Mo_at, f_Mo_map, f_Mo_contact, f_Mo_within, f_Mo_isPort, f_Hp_endpoint, f_Hp_nodeOf, f_Hp_portOf, f_Ma_max, f_Ma_min, f_Hp_isSetting, popN, rok, a1, noX, swc, mL, if_true, if_false, ↓reduceIte, cond_true, cond_false, true_and, and_true, List.length_cons, List.length_nil, List.nil_append, List.cons_append, List.append_nil, Option.toList, Nat.reduceEqDiff, Bool.false_eq_true, reduceCtorEq, Nat.reduceAdd, Nat.reduceLT, Nat.reduceLeDiff, Nat.reduceSub, List.replicate, Nat.zero_add, Nat.lt_add_one, Nat.le_refl, Nat.zero_le, Nat.succ_ne_zero, not_false_eq_true, not_true_eq_false, false_implies, true_implies, forall_const, imp_self, true_or, or_true, eq_self, sI_zw, zw_zw, hI_zw, tg_zw, ln_zw, hR_zw, hL_zw, hN_zw, hM_zw, upd_s, upd_u, upd_ne, Classical.not_not, k_Lw_translator, hx]; try clear hgo9 hW9)
  refine hc.mono (fun oc h1 hq => ?_)
  unfold LwP at hq
  split at hq
  · obtain ⟨⟨t1, t2⟩, hq⟩ := hq
    dsimp only
    (obtain ⟨W9, hW9, hgo9⟩ := wp_ex (T_Lw_translator l G) [] _; refine hgo9 200 _ _ _ _ ?_; simp -implicitDefEqProofs (disch := omega) only [hW9, inl, gate, Xq, tz_const, tz_iload, tz_lload, tz_dload, tz_aload, tz_istore, tz_astore, tz_lstore, tz_dstore, tz_iinc, tz_i1, tz_i2, tz_i2z, tz_l2, tz_l2z, tz_i2l, tz_l2i, tz_lcmp, tz_i2d, tz_d2, tz_dcmp, tz_dup, tz_dup2, tz_pop, tz_if, tz_icmp, tz_null, tz_goto, tz_sw, tz_getf, tz_puti, tz_putz, tz_putr, tz_putl, tz_iaload, tz_baload, tz_laload, tz_aaload, tz_iastore, tz_bastore, tz_lastore, tz_aastore, tz_alen, tz_new, tz_newa, tz_oinit, tz_iret, tz_zret, tz_lret, tz_dret, tz_aret, tz_vret, tz_throw, tz_callS, tz_callV, tz_callI, tz_callR, tz_pureS, tz_pureV, tz_callVH, lg, lset, lkill, lst1, lst2, entL, isRf, is1, vl, va_rf_none, va_rf_some, isRf_rf, is1_rf, i0, i1, bI_eq0, bI_eq1, nm_em, nI_eqP, nI_leP, nI_ltP, nN_e1, nN_e2, nN_l1, nN_l2, nN_l3, nN_l4, nI_add, pk_mul, vp_inN, nI_cl, n01, n10, P_i, P_ii, P_iii, f_Mo_at, f_Mo_map, f_Mo_contact, f_Mo_within, f_Mo_isPort, f_Hp_endpoint, f_Hp_nodeOf, f_Hp_portOf, f_Ma_max, f_Ma_min, f_Hp_isSetting, popN, rok, a1, noX, swc, mL, if_true, if_false, ↓reduceIte, cond_true, cond_false, true_and, and_true, List.length_cons, List.length_nil, List.nil_append, List.cons_append, List.append_nil, Option.toList, Nat.reduceEqDiff, Bool.false_eq_true, reduceCtorEq, Nat.reduceAdd, Nat.reduceLT, Nat.reduceLeDiff, Nat.reduceSub, List.replicate, Nat.zero_add, Nat.lt_add_one, Nat.le_refl, Nat.zero_le, Nat.succ_ne_zero, not_false_eq_true, not_true_eq_false, false_implies, true_implies, forall_const, imp_self, true_or, or_true, eq_self, sI_zw, zw_zw, hI_zw, tg_zw, ln_zw, hR_zw, hL_zw, hN_zw, hM_zw, upd_s, upd_u, upd_ne, Classical.not_not, k_Lw_translator, t1, t2]; try clear hgo9 hW9)
    exact hq
  · obtain ⟨k, hk, hq⟩ := hq
    dsimp only
    rcases hfd1 hk with ⟨e0, e1⟩ | hk
    · subst e0
      subst e1
      rw [show hfd [("java/lang/IndexOutOfBoundsException", 13), ("java/lang/IllegalArgumentException", 17)] IOE = some 13 by decide +kernel]
      dsimp only
      refine ⟨_, _, hq, fun q => ?_⟩
      (obtain ⟨W9, hW9, hgo9⟩ := wp_ex (T_Lw_translator l G) [] _; refine hgo9 200 _ _ _ _ ?_; simp -implicitDefEqProofs (disch := omega) only [hW9, inl, gate, Xq, tz_const, tz_iload, tz_lload, tz_dload, tz_aload, tz_istore, tz_astore, tz_lstore, tz_dstore, tz_iinc, tz_i1, tz_i2, tz_i2z, tz_l2, tz_l2z, tz_i2l, tz_l2i, tz_lcmp, tz_i2d, tz_d2, tz_dcmp, tz_dup, tz_dup2, tz_pop, tz_if, tz_icmp, tz_null, tz_goto, tz_sw, tz_getf, tz_puti, tz_putz, tz_putr, tz_putl, tz_iaload, tz_baload, tz_laload, tz_aaload, tz_iastore, tz_bastore, tz_lastore, tz_aastore, tz_alen, tz_new, tz_newa, tz_oinit, tz_iret, tz_zret, tz_lret, tz_dret, tz_aret, tz_vret, tz_throw, tz_callS, tz_callV, tz_callI, tz_callR, tz_pureS, tz_pureV, tz_callVH, lg, lset, lkill, lst1, lst2, entL, isRf, is1, vl, va_rf_none, va_rf_some, isRf_rf, is1_rf, i0, i1, bI_eq0, bI_eq1, nm_em, nI_eqP, nI_leP, nI_ltP, nN_e1, nN_e2, nN_l1, nN_l2, nN_l3, nN_l4, nI_add, pk_mul, vp_inN, nI_cl, n01, n10, P_i, P_ii, P_iii, f_Mo_at, f_Mo_map, f_Mo_contact, f_Mo_within, f_Mo_isPort, f_Hp_endpoint, f_Hp_nodeOf, f_Hp_portOf, f_Ma_max, f_Ma_min, f_Hp_isSetting, popN, rok, a1, noX, swc, mL, if_true, if_false, ↓reduceIte, cond_true, cond_false, true_and, and_true, List.length_cons, List.length_nil, List.nil_append, List.cons_append, List.append_nil, Option.toList, Nat.reduceEqDiff, Bool.false_eq_true, reduceCtorEq, Nat.reduceAdd, Nat.reduceLT, Nat.reduceLeDiff, Nat.reduceSub, List.replicate, Nat.zero_add, Nat.lt_add_one, Nat.le_refl, Nat.zero_le, Nat.succ_ne_zero, not_false_eq_true, not_true_eq_false, false_implies, true_implies, forall_const, imp_self, true_or, or_true, eq_self, sI_zw, zw_zw, hI_zw, tg_zw, ln_zw, hR_zw, hL_zw, hN_zw, hM_zw, upd_s, upd_u, upd_ne, Classical.not_not, k_Lw_translator]; try clear hgo9 hW9)
    rcases hfd1 hk with ⟨e0, e1⟩ | hk
    · subst e0
      subst e1
      rw [show hfd [("java/lang/IndexOutOfBoundsException", 13), ("java/lang/IllegalArgumentException", 17)] IAE = some 17 by decide +kernel]
      dsimp only
      refine ⟨_, _, hq, fun q => ?_⟩
      (obtain ⟨W9, hW9, hgo9⟩ := wp_ex (T_Lw_translator l G) [] _; refine hgo9 200 _ _ _ _ ?_; simp -implicitDefEqProofs (disch := omega) only [hW9, inl, gate, Xq, tz_const, tz_iload, tz_lload, tz_dload, tz_aload, tz_istore, tz_astore, tz_lstore, tz_dstore, tz_iinc, tz_i1, tz_i2, tz_i2z, tz_l2, tz_l2z, tz_i2l, tz_l2i, tz_lcmp, tz_i2d, tz_d2, tz_dcmp, tz_dup, tz_dup2, tz_pop, tz_if, tz_icmp, tz_null, tz_goto, tz_sw, tz_getf, tz_puti, tz_putz, tz_putr, tz_putl, tz_iaload, tz_baload, tz_laload, tz_aaload, tz_iastore, tz_bastore, tz_lastore, tz_aastore, tz_alen, tz_new, tz_newa, tz_oinit, tz_iret, tz_zret, tz_lret, tz_dret, tz_aret, tz_vret, tz_throw, tz_callS, tz_callV, tz_callI, tz_callR, tz_pureS, tz_pureV, tz_callVH, lg, lset, lkill, lst1, lst2, entL, isRf, is1, vl, va_rf_none, va_rf_some, isRf_rf, is1_rf, i0, i1, bI_eq0, bI_eq1, nm_em, nI_eqP, nI_leP, nI_ltP, nN_e1, nN_e2, nN_l1, nN_l2, nN_l3, nN_l4, nI_add, pk_mul, vp_inN, nI_cl, n01, n10, P_i, P_ii, P_iii, f_Mo_at, f_Mo_map, f_Mo_contact, f_Mo_within, f_Mo_isPort, f_Hp_endpoint, f_Hp_nodeOf, f_Hp_portOf, f_Ma_max, f_Ma_min, f_Hp_isSetting, popN, rok, a1, noX, swc, mL, if_true, if_false, ↓reduceIte, cond_true, cond_false, true_and, and_true, List.length_cons, List.length_nil, List.nil_append, List.cons_append, List.append_nil, Option.toList, Nat.reduceEqDiff, Bool.false_eq_true, reduceCtorEq, Nat.reduceAdd, Nat.reduceLT, Nat.reduceLeDiff, Nat.reduceSub, List.replicate, Nat.zero_add, Nat.lt_add_one, Nat.le_refl, Nat.zero_le, Nat.succ_ne_zero, not_false_eq_true, not_true_eq_false, false_implies, true_implies, forall_const, imp_self, true_or, or_true, eq_self, sI_zw, zw_zw, hI_zw, tg_zw, ln_zw, hR_zw, hL_zw, hN_zw, hM_zw, upd_s, upd_u, upd_ne, Classical.not_not, k_Lw_translator]; try clear hgo9 hW9)
    exact (hfd0 hk).elim
  · exact hq.elim
theorem lw_mapping (x o : Nat) (p0 p1 p2 : Int32) (h : AH) (Q : Po) (hx : tg h x = 6) (hc : Call l G M_Hp_mapping [.ref x, .int p0, .int p1, .int p2] h (LwP Q o [(IOE, 1), (IAE, 2)])) : Call l G M_Lw_mapping [.ref x, .int p0, .int p1, .int p2, .ref o] h Q := by
  refine call_ofH rfl rfl (Nat.le_of_ble_eq_true rfl) ?_
  (obtain ⟨W9, hW9, hgo9⟩ := wp_ex (T_Lw_mapping l G) [] _; refine hgo9 200 _ _ _ _ ?_; simp -implicitDefEqProofs (disch := omega) only [hW9, inl, gate, Xq, tz_const, tz_iload, tz_lload, tz_dload, tz_aload, tz_istore, tz_astore, tz_lstore, tz_dstore, tz_iinc, tz_i1, tz_i2, tz_i2z, tz_l2, tz_l2z, tz_i2l, tz_l2i, tz_lcmp, tz_i2d, tz_d2, tz_dcmp, tz_dup, tz_dup2, tz_pop, tz_if, tz_icmp, tz_null, tz_goto, tz_sw, tz_getf, tz_puti, tz_putz, tz_putr, tz_putl, tz_iaload, tz_baload, tz_laload, tz_aaload, tz_iastore, tz_bastore, tz_lastore, tz_aastore, tz_alen, tz_new, tz_newa, tz_oinit, tz_iret, tz_zret, tz_lret, tz_dret, tz_aret, tz_vret, tz_throw, tz_callS, tz_callV, tz_callI, tz_callR, tz_pureS, tz_pureV, tz_callVH, lg, lset, lkill, lst1, lst2, entL, isRf, is1, vl, va_rf_none, va_rf_some, isRf_rf, is1_rf, i0, i1, bI_eq0, bI_eq1, nm_em, nI_eqP, nI_leP, nI_ltP, nN_e1, nN_e2, nN_l1, nN_l2, nN_l3, nN_l4, nI_add, pk_mul, vp_inN, nI_cl, n01, n10, P_i, P_ii, P_iii, f_Mo_at, f_Mo_map, f_Mo_contact, f_Mo_within, f_Mo_isPort, f_Hp_endpoint, f_Hp_nodeOf, f_Hp_portOf, f_Ma_max, f_Ma_min, f_Hp_isSetting, popN, rok, a1, noX, swc, mL, if_true, if_false, ↓reduceIte, cond_true, cond_false, true_and, and_true, List.length_cons, List.length_nil, List.nil_append, List.cons_append, List.append_nil, Option.toList, Nat.reduceEqDiff, Bool.false_eq_true, reduceCtorEq, Nat.reduceAdd, Nat.reduceLT, Nat.reduceLeDiff, Nat.reduceSub, List.replicate, Nat.zero_add, Nat.lt_add_one, Nat.le_refl, Nat.zero_le, Nat.succ_ne_zero, not_false_eq_true, not_true_eq_false, false_implies, true_implies, forall_const, imp_self, true_or, or_true, eq_self, sI_zw, zw_zw, hI_zw, tg_zw, ln_zw, hR_zw, hL_zw, hN_zw, hM_zw, upd_s, upd_u, upd_ne, Classical.not_not, k_Lw_mapping, hx]; try clear hgo9 hW9)
  refine hc.mono (fun oc h1 hq => ?_)
  unfold LwP at hq
  split at hq
  · obtain ⟨⟨t1, t2⟩, hq⟩ := hq
    dsimp only
    (obtain ⟨W9, hW9, hgo9⟩ := wp_ex (T_Lw_mapping l G) [] _; refine hgo9 200 _ _ _ _ ?_; simp -implicitDefEqProofs (disch := omega) only [hW9, inl, gate, Xq, tz_const, tz_iload, tz_lload, tz_dload, tz_aload, tz_istore, tz_astore, tz_lstore, tz_dstore, tz_iinc, tz_i1, tz_i2, tz_i2z, tz_l2, tz_l2z, tz_i2l, tz_l2i, tz_lcmp, tz_i2d, tz_d2, tz_dcmp, tz_dup, tz_dup2, tz_pop, tz_if, tz_icmp, tz_null, tz_goto, tz_sw, tz_getf, tz_puti, tz_putz, tz_putr, tz_putl, tz_iaload, tz_baload, tz_laload, tz_aaload, tz_iastore, tz_bastore, tz_lastore, tz_aastore, tz_alen, tz_new, tz_newa, tz_oinit, tz_iret, tz_zret, tz_lret, tz_dret, tz_aret, tz_vret, tz_throw, tz_callS, tz_callV, tz_callI, tz_callR, tz_pureS, tz_pureV, tz_callVH, lg, lset, lkill, lst1, lst2, entL, isRf, is1, vl, va_rf_none, va_rf_some, isRf_rf, is1_rf, i0, i1, bI_eq0, bI_eq1, nm_em, nI_eqP, nI_leP, nI_ltP, nN_e1, nN_e2, nN_l1, nN_l2, nN_l3, nN_l4, nI_add, pk_mul, vp_inN, nI_cl, n01, n10, P_i, P_ii, P_iii, f_Mo_at, f_Mo_map, f_Mo_contact, f_Mo_within, f_Mo_isPort, f_Hp_endpoint, f_Hp_nodeOf, f_Hp_portOf, f_Ma_max, f_Ma_min, f_Hp_isSetting, popN, rok, a1, noX, swc, mL, if_true, if_false, ↓reduceIte, cond_true, cond_false, true_and, and_true, List.length_cons, List.length_nil, List.nil_append, List.cons_append, List.append_nil, Option.toList, Nat.reduceEqDiff, Bool.false_eq_true, reduceCtorEq, Nat.reduceAdd, Nat.reduceLT, Nat.reduceLeDiff, Nat.reduceSub, List.replicate, Nat.zero_add, Nat.lt_add_one, Nat.le_refl, Nat.zero_le, Nat.succ_ne_zero, not_false_eq_true, not_true_eq_false, false_implies, true_implies, forall_const, imp_self, true_or, or_true, eq_self, sI_zw, zw_zw, hI_zw, tg_zw, ln_zw, hR_zw, hL_zw, hN_zw, hM_zw, upd_s, upd_u, upd_ne, Classical.not_not, k_Lw_mapping, t1, t2]; try clear hgo9 hW9)
    exact hq
  · obtain ⟨k, hk, hq⟩ := hq
    dsimp only
    rcases hfd1 hk with ⟨e0, e1⟩ | hk
    · subst e0
      subst e1
      rw [show hfd [("java/lang/IndexOutOfBoundsException", 15), ("java/lang/IllegalArgumentException", 19)] IOE = some 15 by decide +kernel]
      dsimp only
      refine ⟨_, _, hq, fun q => ?_⟩
      (obtain ⟨W9, hW9, hgo9⟩ := wp_ex (T_Lw_mapping l G) [] _; refine hgo9 200 _ _ _ _ ?_; simp -implicitDefEqProofs (disch := omega) only [hW9, inl, gate, Xq, tz_const, tz_iload, tz_lload, tz_dload, tz_aload, tz_istore, tz_astore, tz_lstore, tz_dstore, tz_iinc, tz_i1, tz_i2, tz_i2z, tz_l2, tz_l2z, tz_i2l, tz_l2i, tz_lcmp, tz_i2d, tz_d2, tz_dcmp, tz_dup, tz_dup2, tz_pop, tz_if, tz_icmp, tz_null, tz_goto, tz_sw, tz_getf, tz_puti, tz_putz, tz_putr, tz_putl, tz_iaload, tz_baload, tz_laload, tz_aaload, tz_iastore, tz_bastore, tz_lastore, tz_aastore, tz_alen, tz_new, tz_newa, tz_oinit, tz_iret, tz_zret, tz_lret, tz_dret, tz_aret, tz_vret, tz_throw, tz_callS, tz_callV, tz_callI, tz_callR, tz_pureS, tz_pureV, tz_callVH, lg, lset, lkill, lst1, lst2, entL, isRf, is1, vl, va_rf_none, va_rf_some, isRf_rf, is1_rf, i0, i1, bI_eq0, bI_eq1, nm_em, nI_eqP, nI_leP, nI_ltP, nN_e1, nN_e2, nN_l1, nN_l2, nN_l3, nN_l4, nI_add, pk_mul, vp_inN, nI_cl, n01, n10, P_i, P_ii, P_iii, f_Mo_at, f_Mo_map, f_Mo_contact, f_Mo_within, f_Mo_isPort, f_Hp_endpoint, f_Hp_nodeOf, f_Hp_portOf, f_Ma_max, f_Ma_min, f_Hp_isSetting, popN, rok, a1, noX, swc, mL, if_true, if_false, ↓reduceIte, cond_true, cond_false, true_and, and_true, List.length_cons, List.length_nil, List.nil_append, List.cons_append, List.append_nil, Option.toList, Nat.reduceEqDiff, Bool.false_eq_true, reduceCtorEq, Nat.reduceAdd, Nat.reduceLT, Nat.reduceLeDiff, Nat.reduceSub, List.replicate, Nat.zero_add, Nat.lt_add_one, Nat.le_refl, Nat.zero_le, Nat.succ_ne_zero, not_false_eq_true, not_true_eq_false, false_implies, true_implies, forall_const, imp_self, true_or, or_true, eq_self, sI_zw, zw_zw, hI_zw, tg_zw, ln_zw, hR_zw, hL_zw, hN_zw, hM_zw, upd_s, upd_u, upd_ne, Classical.not_not, k_Lw_mapping]; try clear hgo9 hW9)
    rcases hfd1 hk with ⟨e0, e1⟩ | hk
    · subst e0
      subst e1
      rw [show hfd [("java/lang/IndexOutOfBoundsException", 15), ("java/lang/IllegalArgumentException", 19)] IAE = some 19 by decide +kernel]
      dsimp only
      refine ⟨_, _, hq, fun q => ?_⟩
      (obtain ⟨W9, hW9, hgo9⟩ := wp_ex (T_Lw_mapping l G) [] _; refine hgo9 200 _ _ _ _ ?_; simp -implicitDefEqProofs (disch := omega) only [hW9, inl, gate, Xq, tz_const, tz_iload, tz_lload, tz_dload, tz_aload, tz_istore, tz_astore, tz_lstore, tz_dstore, tz_iinc, tz_i1, tz_i2, tz_i2z, tz_l2, tz_l2z, tz_i2l, tz_l2i, tz_lcmp, tz_i2d, tz_d2, tz_dcmp, tz_dup, tz_dup2, tz_pop, tz_if, tz_icmp, tz_null, tz_goto, tz_sw, tz_getf, tz_puti, tz_putz, tz_putr, tz_putl, tz_iaload, tz_baload, tz_laload, tz_aaload, tz_iastore, tz_bastore, tz_lastore, tz_aastore, tz_alen, tz_new, tz_newa, tz_oinit, tz_iret, tz_zret, tz_lret, tz_dret, tz_aret, tz_vret, tz_throw, tz_callS, tz_callV, tz_callI, tz_callR, tz_pureS, tz_pureV, tz_callVH, lg, lset, lkill, lst1, lst2, entL, isRf, is1, vl, va_rf_none, va_rf_some, isRf_rf, is1_rf, i0, i1, bI_eq0, bI_eq1, nm_em, nI_eqP, nI_leP, nI_ltP, nN_e1, nN_e2, nN_l1, nN_l2, nN_l3, nN_l4, nI_add, pk_mul, vp_inN, nI_cl, n01, n10, P_i, P_ii, P_iii, f_Mo_at, f_Mo_map, f_Mo_contact, f_Mo_within, f_Mo_isPort, f_Hp_endpoint, f_Hp_nodeOf, f_Hp_portOf, f_Ma_max, f_Ma_min, f_Hp_isSetting, popN, rok, a1, noX, swc, mL, if_true, if_false, ↓reduceIte, cond_true, cond_false, true_and, and_true, List.length_cons, List.length_nil, List.nil_append, List.cons_append, List.append_nil, Option.toList, Nat.reduceEqDiff, Bool.false_eq_true, reduceCtorEq, Nat.reduceAdd, Nat.reduceLT, Nat.reduceLeDiff, Nat.reduceSub, List.replicate, Nat.zero_add, Nat.lt_add_one, Nat.le_refl, Nat.zero_le, Nat.succ_ne_zero, not_false_eq_true, not_true_eq_false, false_implies, true_implies, forall_const, imp_self, true_or, or_true, eq_self, sI_zw, zw_zw, hI_zw, tg_zw, ln_zw, hR_zw, hL_zw, hN_zw, hM_zw, upd_s, upd_u, upd_ne, Classical.not_not, k_Lw_mapping]; try clear hgo9 hW9)
    exact (hfd0 hk).elim
  · exact hq.elim
theorem lw_timeLeft (x o : Nat) (p0 p1 p2 p3 : Int32) (h : AH) (Q : Po) (hx : tg h x = 6) (hc : Call l G M_Hp_timeLeft [.ref x, .int p0, .int p1, .int p2, .int p3] h (LwP Q o [(IOE, 1), (IAE, 2)])) : Call l G M_Lw_timeLeft [.ref x, .int p0, .int p1, .int p2, .int p3, .ref o] h Q := by
  refine call_ofH rfl rfl (Nat.le_of_ble_eq_true rfl) ?_
  (obtain ⟨W9, hW9, hgo9⟩ := wp_ex (T_Lw_timeLeft l G) [] _; refine hgo9 200 _ _ _ _ ?_; simp -implicitDefEqProofs (disch := omega) only [hW9, inl, gate, Xq, tz_const, tz_iload, tz_lload, tz_dload, tz_aload, tz_istore, tz_astore, tz_lstore, tz_dstore, tz_iinc, tz_i1, tz_i2, tz_i2z, tz_l2, tz_l2z, tz_i2l, tz_l2i, tz_lcmp, tz_i2d, tz_d2, tz_dcmp, tz_dup, tz_dup2, tz_pop, tz_if, tz_icmp, tz_null, tz_goto, tz_sw, tz_getf, tz_puti, tz_putz, tz_putr, tz_putl, tz_iaload, tz_baload, tz_laload, tz_aaload, tz_iastore, tz_bastore, tz_lastore, tz_aastore, tz_alen, tz_new, tz_newa, tz_oinit, tz_iret, tz_zret, tz_lret, tz_dret, tz_aret, tz_vret, tz_throw, tz_callS, tz_callV, tz_callI, tz_callR, tz_pureS, tz_pureV, tz_callVH, lg, lset, lkill, lst1, lst2, entL, isRf, is1, vl, va_rf_none, va_rf_some, isRf_rf, is1_rf, i0, i1, bI_eq0, bI_eq1, nm_em, nI_eqP, nI_leP, nI_ltP, nN_e1, nN_e2, nN_l1, nN_l2, nN_l3, nN_l4, nI_add, pk_mul, vp_inN, nI_cl, n01, n10, P_i, P_ii, P_iii, f_Mo_at, f_Mo_map, f_Mo_contact, f_Mo_within, f_Mo_isPort, f_Hp_endpoint, f_Hp_nodeOf, f_Hp_portOf, f_Ma_max, f_Ma_min, f_Hp_isSetting, popN, rok, a1, noX, swc, mL, if_true, if_false, ↓reduceIte, cond_true, cond_false, true_and, and_true, List.length_cons, List.length_nil, List.nil_append, List.cons_append, List.append_nil, Option.toList, Nat.reduceEqDiff, Bool.false_eq_true, reduceCtorEq, Nat.reduceAdd, Nat.reduceLT, Nat.reduceLeDiff, Nat.reduceSub, List.replicate, Nat.zero_add, Nat.lt_add_one, Nat.le_refl, Nat.zero_le, Nat.succ_ne_zero, not_false_eq_true, not_true_eq_false, false_implies, true_implies, forall_const, imp_self, true_or, or_true, eq_self, sI_zw, zw_zw, hI_zw, tg_zw, ln_zw, hR_zw, hL_zw, hN_zw, hM_zw, upd_s, upd_u, upd_ne, Classical.not_not, k_Lw_timeLeft, hx]; try clear hgo9 hW9)
  refine hc.mono (fun oc h1 hq => ?_)
  unfold LwP at hq
  split at hq
  · obtain ⟨⟨t1, t2⟩, hq⟩ := hq
    dsimp only
    (obtain ⟨W9, hW9, hgo9⟩ := wp_ex (T_Lw_timeLeft l G) [] _; refine hgo9 200 _ _ _ _ ?_; simp -implicitDefEqProofs (disch := omega) only [hW9, inl, gate, Xq, tz_const, tz_iload, tz_lload, tz_dload, tz_aload, tz_istore, tz_astore, tz_lstore, tz_dstore, tz_iinc, tz_i1, tz_i2, tz_i2z, tz_l2, tz_l2z, tz_i2l, tz_l2i, tz_lcmp, tz_i2d, tz_d2, tz_dcmp, tz_dup, tz_dup2, tz_pop, tz_if, tz_icmp, tz_null, tz_goto, tz_sw, tz_getf, tz_puti, tz_putz, tz_putr, tz_putl, tz_iaload, tz_baload, tz_laload, tz_aaload, tz_iastore, tz_bastore, tz_lastore, tz_aastore, tz_alen, tz_new, tz_newa, tz_oinit, tz_iret, tz_zret, tz_lret, tz_dret, tz_aret, tz_vret, tz_throw, tz_callS, tz_callV, tz_callI, tz_callR, tz_pureS, tz_pureV, tz_callVH, lg, lset, lkill, lst1, lst2, entL, isRf, is1, vl, va_rf_none, va_rf_some, isRf_rf, is1_rf, i0, i1, bI_eq0, bI_eq1, nm_em, nI_eqP, nI_leP, nI_ltP, nN_e1, nN_e2, nN_l1, nN_l2, nN_l3, nN_l4, nI_add, pk_mul, vp_inN, nI_cl, n01, n10, P_i, P_ii, P_iii, f_Mo_at, f_Mo_map, f_Mo_contact, f_Mo_within, f_Mo_isPort, f_Hp_endpoint, f_Hp_nodeOf, f_Hp_portOf, f_Ma_max, f_Ma_min, f_Hp_isSetting, popN, rok, a1, noX, swc, mL, if_true, if_false, ↓reduceIte, cond_true, cond_false, true_and, and_true, List.length_cons, List.length_nil, List.nil_append, List.cons_append, List.append_nil, Option.toList, Nat.reduceEqDiff, Bool.false_eq_true, reduceCtorEq, Nat.reduceAdd, Nat.reduceLT, Nat.reduceLeDiff, Nat.reduceSub, List.replicate, Nat.zero_add, Nat.lt_add_one, Nat.le_refl, Nat.zero_le, Nat.succ_ne_zero, not_false_eq_true, not_true_eq_false, false_implies, true_implies, forall_const, imp_self, true_or, or_true, eq_self, sI_zw, zw_zw, hI_zw, tg_zw, ln_zw, hR_zw, hL_zw, hN_zw, hM_zw, upd_s, upd_u, upd_ne, Classical.not_not, k_Lw_timeLeft, t1, t2]; try clear hgo9 hW9)
    exact hq
  · obtain ⟨k, hk, hq⟩ := hq
    dsimp only
    rcases hfd1 hk with ⟨e0, e1⟩ | hk
    · subst e0
      subst e1
      rw [show hfd [("java/lang/IndexOutOfBoundsException", 17), ("java/lang/IllegalArgumentException", 21)] IOE = some 17 by decide +kernel]
      dsimp only
      refine ⟨_, _, hq, fun q => ?_⟩
      (obtain ⟨W9, hW9, hgo9⟩ := wp_ex (T_Lw_timeLeft l G) [] _; refine hgo9 200 _ _ _ _ ?_; simp -implicitDefEqProofs (disch := omega) only [hW9, inl, gate, Xq, tz_const, tz_iload, tz_lload, tz_dload, tz_aload, tz_istore, tz_astore, tz_lstore, tz_dstore, tz_iinc, tz_i1, tz_i2, tz_i2z, tz_l2, tz_l2z, tz_i2l, tz_l2i, tz_lcmp, tz_i2d, tz_d2, tz_dcmp, tz_dup, tz_dup2, tz_pop, tz_if, tz_icmp, tz_null, tz_goto, tz_sw, tz_getf, tz_puti, tz_putz, tz_putr, tz_putl, tz_iaload, tz_baload, tz_laload, tz_aaload, tz_iastore, tz_bastore, tz_lastore, tz_aastore, tz_alen, tz_new, tz_newa, tz_oinit, tz_iret, tz_zret, tz_lret, tz_dret, tz_aret, tz_vret, tz_throw, tz_callS, tz_callV, tz_callI, tz_callR, tz_pureS, tz_pureV, tz_callVH, lg, lset, lkill, lst1, lst2, entL, isRf, is1, vl, va_rf_none, va_rf_some, isRf_rf, is1_rf, i0, i1, bI_eq0, bI_eq1, nm_em, nI_eqP, nI_leP, nI_ltP, nN_e1, nN_e2, nN_l1, nN_l2, nN_l3, nN_l4, nI_add, pk_mul, vp_inN, nI_cl, n01, n10, P_i, P_ii, P_iii, f_Mo_at, f_Mo_map, f_Mo_contact, f_Mo_within, f_Mo_isPort, f_Hp_endpoint, f_Hp_nodeOf, f_Hp_portOf, f_Ma_max, f_Ma_min, f_Hp_isSetting, popN, rok, a1, noX, swc, mL, if_true, if_false, ↓reduceIte, cond_true, cond_false, true_and, and_true, List.length_cons, List.length_nil, List.nil_append, List.cons_append, List.append_nil, Option.toList, Nat.reduceEqDiff, Bool.false_eq_true, reduceCtorEq, Nat.reduceAdd, Nat.reduceLT, Nat.reduceLeDiff, Nat.reduceSub, List.replicate, Nat.zero_add, Nat.lt_add_one, Nat.le_refl, Nat.zero_le, Nat.succ_ne_zero, not_false_eq_true, not_true_eq_false, false_implies, true_implies, forall_const, imp_self, true_or, or_true, eq_self, sI_zw, zw_zw, hI_zw, tg_zw, ln_zw, hR_zw, hL_zw, hN_zw, hM_zw, upd_s, upd_u, upd_ne, Classical.not_not, k_Lw_timeLeft]; try clear hgo9 hW9)
    rcases hfd1 hk with ⟨e0, e1⟩ | hk
    · subst e0
      subst e1
      rw [show hfd [("java/lang/IndexOutOfBoundsException", 17), ("java/lang/IllegalArgumentException", 21)] IAE = some 21 by decide +kernel]
      dsimp only
      refine ⟨_, _, hq, fun q => ?_⟩
      (obtain ⟨W9, hW9, hgo9⟩ := wp_ex (T_Lw_timeLeft l G) [] _; refine hgo9 200 _ _ _ _ ?_; simp -implicitDefEqProofs (disch := omega) only [hW9, inl, gate, Xq, tz_const, tz_iload, tz_lload, tz_dload, tz_aload, tz_istore, tz_astore, tz_lstore, tz_dstore, tz_iinc, tz_i1, tz_i2, tz_i2z, tz_l2, tz_l2z, tz_i2l, tz_l2i, tz_lcmp, tz_i2d, tz_d2, tz_dcmp, tz_dup, tz_dup2, tz_pop, tz_if, tz_icmp, tz_null, tz_goto, tz_sw, tz_getf, tz_puti, tz_putz, tz_putr, tz_putl, tz_iaload, tz_baload, tz_laload, tz_aaload, tz_iastore, tz_bastore, tz_lastore, tz_aastore, tz_alen, tz_new, tz_newa, tz_oinit, tz_iret, tz_zret, tz_lret, tz_dret, tz_aret, tz_vret, tz_throw, tz_callS, tz_callV, tz_callI, tz_callR, tz_pureS, tz_pureV, tz_callVH, lg, lset, lkill, lst1, lst2, entL, isRf, is1, vl, va_rf_none, va_rf_some, isRf_rf, is1_rf, i0, i1, bI_eq0, bI_eq1, nm_em, nI_eqP, nI_leP, nI_ltP, nN_e1, nN_e2, nN_l1, nN_l2, nN_l3, nN_l4, nI_add, pk_mul, vp_inN, nI_cl, n01, n10, P_i, P_ii, P_iii, f_Mo_at, f_Mo_map, f_Mo_contact, f_Mo_within, f_Mo_isPort, f_Hp_endpoint, f_Hp_nodeOf, f_Hp_portOf, f_Ma_max, f_Ma_min, f_Hp_isSetting, popN, rok, a1, noX, swc, mL, if_true, if_false, ↓reduceIte, cond_true, cond_false, true_and, and_true, List.length_cons, List.length_nil, List.nil_append, List.cons_append, List.append_nil, Option.toList, Nat.reduceEqDiff, Bool.false_eq_true, reduceCtorEq, Nat.reduceAdd, Nat.reduceLT, Nat.reduceLeDiff, Nat.reduceSub, List.replicate, Nat.zero_add, Nat.lt_add_one, Nat.le_refl, Nat.zero_le, Nat.succ_ne_zero, not_false_eq_true, not_true_eq_false, false_implies, true_implies, forall_const, imp_self, true_or, or_true, eq_self, sI_zw, zw_zw, hI_zw, tg_zw, ln_zw, hR_zw, hL_zw, hN_zw, hM_zw, upd_s, upd_u, upd_ne, Classical.not_not, k_Lw_timeLeft]; try clear hgo9 hW9)
    exact (hfd0 hk).elim
  · exact hq.elim
theorem lw_common (x o : Nat) (p0 p1 : Int32) (h : AH) (Q : Po) (hx : tg h x = 6) (hc : Call l G M_Hp_common [.ref x, .int p0, .int p1] h (LwP Q o [(IOE, 1)])) : Call l G M_Lw_common [.ref x, .int p0, .int p1, .ref o] h Q := by
  refine call_ofH rfl rfl (Nat.le_of_ble_eq_true rfl) ?_
  (obtain ⟨W9, hW9, hgo9⟩ := wp_ex (T_Lw_common l G) [] _; refine hgo9 200 _ _ _ _ ?_; simp -implicitDefEqProofs (disch := omega) only [hW9, inl, gate, Xq, tz_const, tz_iload, tz_lload, tz_dload, tz_aload, tz_istore, tz_astore, tz_lstore, tz_dstore, tz_iinc, tz_i1, tz_i2, tz_i2z, tz_l2, tz_l2z, tz_i2l, tz_l2i, tz_lcmp, tz_i2d, tz_d2, tz_dcmp, tz_dup, tz_dup2, tz_pop, tz_if, tz_icmp, tz_null, tz_goto, tz_sw, tz_getf, tz_puti, tz_putz, tz_putr, tz_putl, tz_iaload, tz_baload, tz_laload, tz_aaload, tz_iastore, tz_bastore, tz_lastore, tz_aastore, tz_alen, tz_new, tz_newa, tz_oinit, tz_iret, tz_zret, tz_lret, tz_dret, tz_aret, tz_vret, tz_throw, tz_callS, tz_callV, tz_callI, tz_callR, tz_pureS, tz_pureV, tz_callVH, lg, lset, lkill, lst1, lst2, entL, isRf, is1, vl, va_rf_none, va_rf_some, isRf_rf, is1_rf, i0, i1, bI_eq0, bI_eq1, nm_em, nI_eqP, nI_leP, nI_ltP, nN_e1, nN_e2, nN_l1, nN_l2, nN_l3, nN_l4, nI_add, pk_mul, vp_inN, nI_cl, n01, n10, P_i, P_ii, P_iii, f_Mo_at, f_Mo_map, f_Mo_contact, f_Mo_within, f_Mo_isPort, f_Hp_endpoint, f_Hp_nodeOf, f_Hp_portOf, f_Ma_max, f_Ma_min, f_Hp_isSetting, popN, rok, a1, noX, swc, mL, if_true, if_false, ↓reduceIte, cond_true, cond_false, true_and, and_true, List.length_cons, List.length_nil, List.nil_append, List.cons_append, List.append_nil, Option.toList, Nat.reduceEqDiff, Bool.false_eq_true, reduceCtorEq, Nat.reduceAdd, Nat.reduceLT, Nat.reduceLeDiff, Nat.reduceSub, List.replicate, Nat.zero_add, Nat.lt_add_one, Nat.le_refl, Nat.zero_le, Nat.succ_ne_zero, not_false_eq_true, not_true_eq_false, false_implies, true_implies, forall_const, imp_self, true_or, or_true, eq_self, sI_zw, zw_zw, hI_zw, tg_zw, ln_zw, hR_zw, hL_zw, hN_zw, hM_zw, upd_s, upd_u, upd_ne, Classical.not_not, k_Lw_common, hx]; try clear hgo9 hW9)
  refine hc.mono (fun oc h1 hq => ?_)
  unfold LwP at hq
  split at hq
  · obtain ⟨⟨t1, t2⟩, hq⟩ := hq
    dsimp only
    (obtain ⟨W9, hW9, hgo9⟩ := wp_ex (T_Lw_common l G) [] _; refine hgo9 200 _ _ _ _ ?_; simp -implicitDefEqProofs (disch := omega) only [hW9, inl, gate, Xq, tz_const, tz_iload, tz_lload, tz_dload, tz_aload, tz_istore, tz_astore, tz_lstore, tz_dstore, tz_iinc, tz_i1, tz_i2, tz_i2z, tz_l2, tz_l2z, tz_i2l, tz_l2i, tz_lcmp, tz_i2d, tz_d2, tz_dcmp, tz_dup, tz_dup2, tz_pop, tz_if, tz_icmp, tz_null, tz_goto, tz_sw, tz_getf, tz_puti, tz_putz, tz_putr, tz_putl, tz_iaload, tz_baload, tz_laload, tz_aaload, tz_iastore, tz_bastore, tz_lastore, tz_aastore, tz_alen, tz_new, tz_newa, tz_oinit, tz_iret, tz_zret, tz_lret, tz_dret, tz_aret, tz_vret, tz_throw, tz_callS, tz_callV, tz_callI, tz_callR, tz_pureS, tz_pureV, tz_callVH, lg, lset, lkill, lst1, lst2, entL, isRf, is1, vl, va_rf_none, va_rf_some, isRf_rf, is1_rf, i0, i1, bI_eq0, bI_eq1, nm_em, nI_eqP, nI_leP, nI_ltP, nN_e1, nN_e2, nN_l1, nN_l2, nN_l3, nN_l4, nI_add, pk_mul, vp_inN, nI_cl, n01, n10, P_i, P_ii, P_iii, f_Mo_at, f_Mo_map, f_Mo_contact, f_Mo_within, f_Mo_isPort, f_Hp_endpoint, f_Hp_nodeOf, f_Hp_portOf, f_Ma_max, f_Ma_min, f_Hp_isSetting, popN, rok, a1, noX, swc, mL, if_true, if_false, ↓reduceIte, cond_true, cond_false, true_and, and_true, List.length_cons, List.length_nil, List.nil_append, List.cons_append, List.append_nil, Option.toList, Nat.reduceEqDiff, Bool.false_eq_true, reduceCtorEq, Nat.reduceAdd, Nat.reduceLT, Nat.reduceLeDiff, Nat.reduceSub, List.replicate, Nat.zero_add, Nat.lt_add_one, Nat.le_refl, Nat.zero_le, Nat.succ_ne_zero, not_false_eq_true, not_true_eq_false, false_implies, true_implies, forall_const, imp_self, true_or, or_true, eq_self, sI_zw, zw_zw, hI_zw, tg_zw, ln_zw, hR_zw, hL_zw, hN_zw, hM_zw, upd_s, upd_u, upd_ne, Classical.not_not, k_Lw_common, t1, t2]; try clear hgo9 hW9)
    exact hq
  · obtain ⟨k, hk, hq⟩ := hq
    dsimp only
    rcases hfd1 hk with ⟨e0, e1⟩ | hk
    · subst e0
      subst e1
      rw [show hfd [("java/lang/IndexOutOfBoundsException", 13)] IOE = some 13 by decide +kernel]
      dsimp only
      refine ⟨_, _, hq, fun q => ?_⟩
      (obtain ⟨W9, hW9, hgo9⟩ := wp_ex (T_Lw_common l G) [] _; refine hgo9 200 _ _ _ _ ?_; simp -implicitDefEqProofs (disch := omega) only [hW9, inl, gate, Xq, tz_const, tz_iload, tz_lload, tz_dload, tz_aload, tz_istore, tz_astore, tz_lstore, tz_dstore, tz_iinc, tz_i1, tz_i2, tz_i2z, tz_l2, tz_l2z, tz_i2l, tz_l2i, tz_lcmp, tz_i2d, tz_d2, tz_dcmp, tz_dup, tz_dup2, tz_pop, tz_if, tz_icmp, tz_null, tz_goto, tz_sw, tz_getf, tz_puti, tz_putz, tz_putr, tz_putl, tz_iaload, tz_baload, tz_laload, tz_aaload, tz_iastore, tz_bastore, tz_lastore, tz_aastore, tz_alen, tz_new, tz_newa, tz_oinit, tz_iret, tz_zret, tz_lret, tz_dret, tz_aret, tz_vret, tz_throw, tz_callS, tz_callV, tz_callI, tz_callR, tz_pureS, tz_pureV, tz_callVH, lg, lset, lkill, lst1, lst2, entL, isRf, is1, vl, va_rf_none, va_rf_some, isRf_rf, is1_rf, i0, i1, bI_eq0, bI_eq1, nm_em, nI_eqP, nI_leP, nI_ltP, nN_e1, nN_e2, nN_l1, nN_l2, nN_l3, nN_l4, nI_add, pk_mul, vp_inN, nI_cl, n01, n10, P_i, P_ii, P_iii, f_Mo_at, f_Mo_map, f_Mo_contact, f_Mo_within, f_Mo_isPort, f_Hp_endpoint, f_Hp_nodeOf, f_Hp_portOf, f_Ma_max, f_Ma_min, f_Hp_isSetting, popN, rok, a1, noX, swc, mL, if_true, if_false, ↓reduceIte, cond_true, cond_false, true_and, and_true, List.length_cons, List.length_nil, List.nil_append, List.cons_append, List.append_nil, Option.toList, Nat.reduceEqDiff, Bool.false_eq_true, reduceCtorEq, Nat.reduceAdd, Nat.reduceLT, Nat.reduceLeDiff, Nat.reduceSub, List.replicate, Nat.zero_add, Nat.lt_add_one, Nat.le_refl, Nat.zero_le, Nat.succ_ne_zero, not_false_eq_true, not_true_eq_false, false_implies, true_implies, forall_const, imp_self, true_or, or_true, eq_self, sI_zw, zw_zw, hI_zw, tg_zw, ln_zw, hR_zw, hL_zw, hN_zw, hM_zw, upd_s, upd_u, upd_ne, Classical.not_not, k_Lw_common]; try clear hgo9 hW9)
    exact (hfd0 hk).elim
  · exact hq.elim
end
