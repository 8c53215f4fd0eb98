/-! THE START: what the Statement gives of it -/
theorem st_cls {s : State} {args : Array Value} (hts : ∀ w ∈ gtbl, w.before args s = true) : ∃ (dC : Nat → ClassId) (dI : Nat → Nat → Nat), ∀ (c : Nat) (q : vw_C), am_cl[c]? = some q → u_Kn s q.1 q.2.1 q.2.2 (dC c) (dI c) := by
  have h : ∀ c : Nat, ∃ (d : ClassId) (i : Nat → Nat), ∀ q : vw_C, am_cl[c]? = some q → u_Kn s q.1 q.2.1 q.2.2 d i := by
    intro c
    cases e : am_cl[c]? with
    | none => exact ⟨0, fun _ => 0, fun q hq => by cases hq⟩
    | some q =>
      have ci := ci_ok c q e
      obtain ⟨cC, iS, k⟩ := u_known hts ci.1 (hts _ ci.2.2.2.1)
      exact ⟨cC, iS, fun q' hq => by cases hq; exact k⟩
  exact ⟨fun c => Classical.choose (h c), fun c => Classical.choose (Classical.choose_spec (h c)), fun c q hq => Classical.choose_spec (Classical.choose_spec (h c)) q hq⟩
theorem st_a1 {s : State} {args : Array Value} {ty : FieldType} (hw : (Cond.arrayClass ty).before args s = true) : ∃ cA : ClassId, ArrOfT s cA ty ∧ s.vm.findClass ("[" ++ ty.toString) = some cA := by
  obtain ⟨c, k, comp, h1, h2, h3⟩ := Cond.arrayClass_spec hw
  exact ⟨c, fun n z => ⟨fun k h => (by cases h), k, h2, comp, h3⟩, h1⟩
theorem st_a2 {s : State} {args : Array Value} {C : String} (hw : (Cond.arrayOver (.object C)).before args s = true) : ∃ cA : ClassId, ArrOfT s cA (.object C) ∧ va_RA s cA (.object C) := by
  obtain ⟨comp, c, k, h1, h2, h3, h4, h5⟩ := Cond.arrayOver_spec hw
  exact ⟨c, fun n z => ⟨fun k h => (by cases h), k, h3, comp, h4⟩, k, comp, h3, h4, h1, h5⟩
theorem st_arr {s : State} {args : Array Value} (hts : ∀ w ∈ tables_1, w.before args s = true) : ∃ dA : Nat → ClassId, ∀ (t : Nat) (ty : FieldType), aty t = some ty → ArrOfT s (dA t) ty ∧ va_RA s (dA t) ty := by
  obtain ⟨a8, p8, q8⟩ := st_a1 (hts (.arrayClass .int) (List.mem_of_getElem? (i := 56) (by decide +kernel)))
  obtain ⟨a9, p9, q9⟩ := st_a1 (hts (.arrayClass .boolean) (List.mem_of_getElem? (i := 889) (by decide +kernel)))
  obtain ⟨a12, p12, q12⟩ := st_a1 (hts (.arrayClass .long) (List.mem_of_getElem? (i := 1189) (by decide +kernel)))
  obtain ⟨a10, p10⟩ := st_a2 (hts (.arrayOver (.object RX0)) (List.mem_of_getElem? (i := 175) (by decide +kernel)))
  obtain ⟨a11, p11⟩ := st_a2 (hts (.arrayOver (.object RX3)) (List.mem_of_getElem? (i := 31) (by decide +kernel)))
  refine ⟨fun t => if t = 8 then a8 else if t = 9 then a9 else if t = 10 then a10 else if t = 11 then a11 else a12, fun t ty ht => ?_⟩
  unfold aty at ht
  split at ht
  · cases ht; exact ⟨p8, q8⟩
  · cases ht; exact ⟨p9, q9⟩
  · cases ht; exact p10
  · cases ht; exact p11
  · cases ht; exact ⟨p12, q12⟩
  · cases ht
theorem st_nw {w : Cond} (hk : nwk w = true) {args : Array Value} {s : State} (h : w.before args s = true) : va_Nw w s := by
  cases w <;> first | (simp [nwk] at hk; done) | exact va_Nw.of rfl h | skip
  rename_i ty
  cases ty <;> first | (simp [nwk] at hk; done) | exact va_AO.of h
theorem st_str {s : State} {args : Array Value} {own tx : String} {k : Nat} (h : (Cond.stringRef own k tx).before args s = true) : ∃ a, vk_R own k tx a s := by
  cases hc : s.vm.findClass own with
  | none => simp [Cond.before, Cond.holds, Cond.value, hc] at h
  | some cur =>
    obtain ⟨-, -, -, a, -, -, -, -, -, hev⟩ := Cond.stringRef_spec hc h
    exact ⟨a, vk_R.of h hev⟩
/-- the room that a call has is enough for less -/
theorem room_le {s : State} {pl : Platform} {r r' : Room} (hf : r.frames ≤ r'.frames) (hl : r.locals ≤ r'.locals) (hc : r.cells ≤ r'.cells) (hs : r.slots ≤ r'.slots) (h : s.hasRoom pl r' = true) : s.hasRoom pl r = true := by
  simp only [State.hasRoom, Bool.and_eq_true, decide_eq_true_eq] at h ⊢
  obtain ⟨⟨⟨⟨y, a, b, c, d, e⟩, f⟩, g⟩, i⟩ := h
  exact ⟨⟨⟨⟨by omega, by omega, by omega, by omega, by omega, e⟩, by omega⟩, by omega⟩, i⟩
/-- the heap that the law begins with: the script, and nothing of ours -/
def ah0 (N b L : Nat) (xs : Nat → Int32) : AH := (N, 0, fun a => if a = b then (13, L, []) else (99, 0, []), fun a => if a = b then xs else fun _ => 0, fun _ _ => none, fun _ _ => 0)
theorem ah0_N (N b L : Nat) (xs : Nat → Int32) : hN (ah0 N b L xs) = N := rfl
theorem ah0_T (N b L : Nat) (xs : Nat → Int32) (a : Nat) : tg (ah0 N b L xs) a = if a = b then 13 else 99 := by
  unfold tg hT ah0
  simp only []
  split <;> rfl
theorem st_rep {G : Gc} {s : State} {b L : Nat} {xs : Nat → Int32} (hb : b < s.heap.size) (hg : gB G = s.heap.size) (hX : va_X b L xs s s.heap) : Rep G (ah0 s.heap.size b L xs) s s.heap := by
  refine ⟨rfl, fun a => ?_⟩
  have et := ah0_T s.heap.size b L xs a
  by_cases e : a = b
  · subst e
    rw [if_pos rfl] at et
    refine ⟨fun q hq => ?_, fun ty ht => ?_, fun _ => ⟨by rw [hg]; exact hb, ?_⟩⟩
    · rw [et] at hq
      simp [am_cl] at hq
    · rw [et] at ht
      cases ht
    · have e1 : ln (ah0 s.heap.size a L xs) a = L := by unfold ln hT ah0; simp
      have e2 : hI (ah0 s.heap.size a L xs) a = xs := by unfold hI ah0; simp
      rw [e1, e2]
      exact hX
  · rw [if_neg e] at et
    refine ⟨fun q hq => ?_, fun ty ht => ?_, fun h => ?_⟩
    · rw [et] at hq
      simp [am_cl] at hq
    · rw [et] at ht
      cases ht
    · rw [et] at h
      exact absurd h (by decide)
/-- what the Statement gives of the start is what the abstract machine asks for -/
theorem st_kn {s : State} {b : Nat} (hts : ∀ w ∈ lw_tbl, w.before #[Value.ref b] s = true) (hgv : (Jvm.Cond.and given_1 narrow_1).before #[Value.ref b] s = true) : ∃ G : Gc, gB G = s.heap.size ∧ Kn G s ∧ Zz G s s.heap := by
  have hs := flat_of_before _ hgv
  have htg : ∀ w ∈ gtbl, w.before #[Value.ref b] s = true := fun w hw => hts w (List.mem_filter.mp hw).1
  have htt : ∀ w ∈ tables_1, w.before #[Value.ref b] s = true := fun w hw => hts w (List.mem_append.mpr (Or.inr hw))
  obtain ⟨dC, dI, k1⟩ := st_cls htg
  obtain ⟨dA, k2⟩ := st_arr htt
  have n1 : (Cond.not (.castable "java/lang/IllegalStateException" "java/lang/IndexOutOfBoundsException")).before #[Value.ref b] s = true := hs _ (by decide +kernel)
  have n2 : (Cond.not (.castable "java/lang/IllegalArgumentException" "java/lang/IndexOutOfBoundsException")).before #[Value.ref b] s = true := hs _ (by decide +kernel)
  have n3 : (Cond.not (.castable "java/lang/IllegalStateException" "java/lang/IllegalArgumentException")).before #[Value.ref b] s = true := hs _ (by decide +kernel)
  have r1 : (Cond.isRef (.static Bundle.tN "UNASSIGNED_STACK" Bundle.steD)).before #[Value.ref b] s = true := hs _ (by decide +kernel)
  have r2 : (Cond.isRef (.static Bundle.tN "SUPPRESSED_SENTINEL" Bundle.listD)).before #[Value.ref b] s = true := hs _ (by decide +kernel)
  have ini : (Cond.initialized Bundle.tN).before #[Value.ref b] s = true := htt _ (List.mem_of_getElem? (i := 5) (by decide +kernel))
  have l1 : (Cond.laysStatic Bundle.tN "UNASSIGNED_STACK" Bundle.steD).before #[Value.ref b] s = true := htt _ (List.mem_of_getElem? (i := 449) (by decide +kernel))
  have l2 : (Cond.laysStatic Bundle.tN "SUPPRESSED_SENTINEL" Bundle.listD).before #[Value.ref b] s = true := htt _ (List.mem_of_getElem? (i := 451) (by decide +kernel))
  refine ⟨((dC, dI), dA, s.heap.size), rfl, ⟨k1, k2, fun w hw hk => st_nw hk (htt w hw), fun own k tx hm => st_str (htt _ hm), fun q hq => ?_⟩, vx_Zqof l1 ini r1 (fun a ha => Nat.not_le.mpr ha), vx_Zqof l2 ini r2 (fun a ha => Nat.not_le.mpr ha)⟩
  rcases List.mem_cons.mp hq with e | hq
  · rw [e]; exact va_Nc.of n1
  · rcases List.mem_cons.mp hq with e | hq
    · rw [e]; exact va_Nc.of n2
    · rw [List.mem_singleton.mp hq]; exact va_Nc.of n3
