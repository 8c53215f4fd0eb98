/-- a method that may be called: its code, its class, its parameters -/
def MOK (M : Md) (n : Nat) : Prop := mW M ∈ gtbl ∧ Cond.initialized (mY M).cls ∈ gtbl ∧ ((mY M).cls ≠ "java/lang/invoke/MethodHandle" ∧ (mY M).cls ≠ "java/lang/invoke/VarHandle" ∧ (parseMethodDescriptor (mY M).desc).map (fun d => d.parameters.length) = some n)
/-- what may lie under a call: eight words -/
def a1 : List Value → Prop
  | [] => True
  | v :: r => is1 v ∧ a1 r
def rok (r : List Value) : Prop := if r.length ≤ 4 then True else r.length ≤ 8 ∧ a1 r
theorem a1.cat : ∀ {r : List Value}, a1 r → (r.map fun v => v.category).sum ≤ r.length
  | [], _ => Nat.le_refl _
  | v :: r, h => by
    have h1 := a1.cat h.2
    have h2 : v.category ≤ 1 := by
      have := h.1
      cases v <;> first | exact this.elim | exact Nat.le_refl _
    simp only [List.map_cons, List.sum_cons, List.length_cons]
    omega
theorem rok.le {r : List Value} (h : rok r) : (r.map fun v => v.category).sum ≤ 8 := by
  unfold rok at h
  split at h
  · have := cat_le r
    omega
  · have := a1.cat h.2
    omega
theorem popN_spec : ∀ (n : Nat) (st : List Value) {as r : List Value}, popN n st = some (as, r) → st = as.reverse ++ r ∧ as.length = n
  | 0, st, as, r, h => by simp [popN] at h; obtain ⟨rfl, rfl⟩ := h; simp
  | n + 1, [], as, r, h => by simp [popN] at h
  | n + 1, v :: st, as, r, h => by
    simp only [popN] at h
    split at h
    · rename_i as' r' e
      obtain ⟨h1, h2⟩ := popN_spec n st e
      simp at h
      obtain ⟨rfl, rfl⟩ := h
      subst h1
      simp [h2]
    · cases h
/-- behind a call -/
def aft (Q : Po) (X : Ct) (n : Nat) (L : Lo) (r : List Value) : Po := fun o h1 => match o with
  | .inl v => X n L (v.toList ++ r) h1
  | .inr E => Q (.inr E) h1
def tz_callS (l : Launch) (G : Gc) (n : Nat) (M' : Md) (k : Nat) (Q : Po) (X : Ct) (_ : Ct) (L : Lo) (st : List Value) (h : AH) : Prop := match popN k st with
  | some (as, r) => rok r ∧ Call l G M' as h (aft Q X n L r)
  | _ => False
/-- with a receiver of a class -/
def tz_callV (l : Launch) (G : Gc) (n : Nat) (M' : Md) (k tag : Nat) (Q : Po) (X : Ct) (_ : Ct) (L : Lo) (st : List Value) (h : AH) : Prop := match popN k st with
  | some (as, .ref a :: r) => tg h a = tag ∧ rok r ∧ Call l G M' (.ref a :: as) h (aft Q X n L r)
  | _ => False
/-- a callee that answers by a formula, and changes nothing -/
def tz_pureS (n k : Nat) (P : List Value → AH → Prop) (f : List Value → AH → Value) (_ : Po) (_ : Ct) (K : Ct) (L : Lo) (st : List Value) (h : AH) : Prop := match popN k st with
  | some (as, r) => rok r ∧ P as h ∧ K n L (f as h :: r) h
  | _ => False
def tz_pureV (n k tag : Nat) (P : List Value → AH → Prop) (f : List Value → AH → Value) (_ : Po) (_ : Ct) (K : Ct) (L : Lo) (st : List Value) (h : AH) : Prop := match popN k st with
  | some (as, .ref a :: r) => tg h a = tag ∧ rok r ∧ P (.ref a :: as) h ∧ K n L (f (.ref a :: as) h :: r) h
  | _ => False
def hfd : List (String × Nat) → String → Option Nat
  | [], _ => none
  | (nm, hp) :: r, E => if nm = E then some hp else hfd r E
/-- with handlers of the caller -/
def tz_callVH (l : Launch) (G : Gc) (M : Md) (n : Nat) (M' : Md) (k tag : Nat) (cs : List (String × Nat)) (Q : Po) (X : Ct) (_ : Ct) (L : Lo) (st : List Value) (h : AH) : Prop := match popN k st with
  | some (as, .ref a :: r) => tg h a = tag ∧ rok r ∧ Call l G M' (.ref a :: as) h (fun o h1 => match o with
    | .inl v => X n L (v.toList ++ r) h1
    | .inr E => match hfd cs E with
      | some hp => ∃ (o : Ou) (hf : AH), Q o hf ∧ ∀ q : Nat, AWp l G M hp L [.ref q] h1 (fun o' hf' => o' = o ∧ hf' = hf)
      | none => False)
  | _ => False
section
variable {l : Launch} {G : Gc} {M M' : Md} {pc : Nat}
theorem env_blind {as : List Value} {h : AH} : FrameBlind (va_Pc as (Env' G h)) := by
  intro a U g mk q
  obtain ⟨q0, q1, q2, q3, q4⟩ := q
  exact ⟨q0, q1.moved (U := U.calling g mk a) (Vm.Alike.refl U.vm), Kn.warm (U := U.calling g mk a) (State.WarmedH.refl U) q2, q3.moved (U := U.calling g mk a) (Vm.Alike.refl U.vm), q4⟩
theorem env_pre {p : Program} {R : Room} {s : State} {m : MethodId} {args : Array Value} {meth : Method} {c : Code} {h0 hf h : AH} {H : Heap} {locs : List Loc} {cells slots : Nat} {as : List Value} (hcx : Cx l G M p R s m args meth c h0 hf) (hp : Px G s h0 h H locs cells slots) : ∀ U : State, U.heap = H → s.WarmedH U.vm → va_Pc as (Env' G h) as.toArray U := by
  intro U hU hW
  obtain ⟨-, -, -, -, -, -, -, -, -, -, hKn, hZ, -, hg, -⟩ := hcx
  obtain ⟨p1, p2, -, -, p5, -⟩ := hp
  refine ⟨rfl, by rw [hU]; exact p1.moved hW.alike, hKn.warm hW, by rw [hU]; exact (hZ.kept p2.2.1).moved hW.alike, by omega⟩
theorem hws_of {s : State} {args : Array Value} (hts : ∀ w ∈ gtbl, w.before args s = true) {w0 : Cond} (h0 : w0 ∈ gtbl) : ∀ w ∈ w0 :: gtbl, ∀ (a' : Array Value) (U : State), s.WarmedH U.vm → w.before a' U = true := by
  intro w hw a' U hW
  have hm : w ∈ gtbl := by
    rcases List.mem_cons.mp hw with e | e
    · rw [e]; exact h0
    · exact e
  exact word_at hW (good_of_word (List.mem_filter.mp hm).2) (hts w hm)
theorem met_of {y : MethodName} {ws : List Cond} {rm : Room} {Pc : Array Value → State → Prop} {v : Option Value} {h1 : AH} {mc ms : Nat} {free : Addr → Prop} (h : vx_Met l y ws rm Pc (QcO G (.inl v) h1) (XcO G (.inl v) h1) mc ms free) : Met l y ws rm Pc (QcO G (.inl v) h1) mc ms free := by
  intro p e ha hc hk s m args below hf happ hP hK
  obtain ⟨n, o, k1, k2, k3, k4⟩ := h p e ha hc hk s m args below hf happ hP hK
  refine ⟨n, o, k1, k2, k3, ?_⟩
  rcases k4 with k4 | ⟨q, -, E, ce, L, ⟨⟨hx, -⟩, -⟩, -⟩
  · exact k4
  · cases hx
theorem run_of {p : Program} {e : Env} {R : Room} {s : State} {m : MethodId} {args : Array Value} {below : List Frame} {meth : Method} {c : Code} {H : Heap} {locs : List Loc} {cells slots mc ms : Nat} {g : JFrame} {rest : List Value} {Qa : State → Outcome → State → Prop} {XC : String → State → State → Prop} {free : Addr → Prop}
    (h : va_Run p l e R s m args below meth c H locs cells slots mc ms g rest Qa free) : vx_Run p l e R s m args below meth c H locs cells slots mc ms g rest Qa XC free := fun T hT X => Or.inl (h T hT X)
theorem call_core {p : Program} {e : Env} {R : Room} {s : State} {m : MethodId} {args : Array Value} {below : List Frame} {meth : Method} {c : Code} {h0 h h1 : AH} {H : Heap} {locs : List Loc} {cells slots : Nat} {QF : State → Prop} {ls : Array Slot} {st0 r : List Value} {o : Ou} {as : List Value}
    (hp : Px G s h0 h H locs cells slots) (hn : hN h ≤ hN h1) (hm : hM h ≤ hM h1)
    (hrun : vx_Run p l e R s m args below meth c H locs cells slots (hN h1 - hN h) (hM h1 - hM h) (F0 m pc ls st0) r (QcO G o h1 as.toArray) (XcO G o h1) (gA G))
    (kv : ∀ v, o = .inl v → ∀ (H' : Heap) (locs' : List Loc) (cells' slots' : Nat), Px G s h0 h1 H' locs' cells' slots' → W p l e R s m args below meth c H' locs' cells' slots' QF (F0 m (pc + 3) ls (v.toList ++ r)))
    (kx : ∀ E, o = .inr E → ∀ (H' : Heap) (locs' : List Loc) (cells' slots' : Nat) (q : Addr) (ce : Cell), Px G s h0 h1 H' locs' cells' slots' → H'[q]? = some ce → ce.vm = .none → s.vm.findClass E = some ce.cls → vx_W p l e R s m args below meth c H' locs' cells' slots' QF (F0 m pc ls r) q) :
    W p l e R s m args below meth c H locs cells slots QF (F0 m pc ls st0) := by
  obtain ⟨p1, p2, p3, p4, p5, p6⟩ := id hp
  intro T hT X
  rcases hrun T hT X with ⟨v, st₀, t, T', L, e0, X', hL, e1, e2, ⟨⟨v', ho, hv, hrep⟩, hF⟩, stp⟩ | ⟨q, st₀, t, T', L, E, ce, e0, X', hL, e1, e2, ⟨⟨ho, hrep⟩, hF⟩, hce, hcv, hcl, stp⟩
  · cases hv
    obtain ⟨k1, k2, k3⟩ := vx_keep (A1 := gA G) (A0 := gA G) (free := gA G) e0 e1 p2 (fun _ _ h => h) (fun _ h => h) hL hF
    have hal : t.vm.Alike s.vm := by rw [← e2]; exact X'.warmed.alike.symm
    obtain ⟨t2, a1, b1⟩ := kv v ho T'.heap (locs ++ L) (cells + (hN h1 - hN h)) (slots + (hM h1 - hM h)) ⟨by rw [e1]; exact hrep.moved hal, k3, by omega, by omega, by omega, by omega⟩ T' rfl X'
    exact ⟨t2, stp t2 a1, b1⟩
  · obtain ⟨k1, k2, k3⟩ := vx_keep (A1 := gA G) (A0 := gA G) (free := gA G) e0 e1 p2 (fun _ _ h => h) (fun _ h => h) hL hF
    have hal : t.vm.Alike s.vm := by rw [← e2]; exact X'.warmed.alike.symm
    obtain ⟨t2, a1, b1⟩ := kx E ho T'.heap (locs ++ L) (cells + (hN h1 - hN h)) (slots + (hM h1 - hM h)) q ce ⟨by rw [e1]; exact hrep.moved hal, k3, by omega, by omega, by omega, by omega⟩ (by rw [e1]; exact hce) hcv hcl T' rfl X'
    exact ⟨t2, stp.trans a1, b1⟩
/-- a call's run, whatever kind it is -/
def RunOK (l : Launch) (G : Gc) (M M' : Md) (pc : Nat) (st : List Value) (as r : List Value) (h : AH) : Prop :=
  ∀ (o : Ou) (h1 : AH), Runs l G M' as h o h1 → ∀ (p : Program) (e : Env) (R : Room) (s : State) (m : MethodId) (args : Array Value) (below : List Frame) (meth : Method) (c : Code) (h0 hf : AH) (H : Heap) (locs : List Loc) (cells slots : Nat) (ls : Array Slot), Cx l G M p R s m args meth c h0 hf → Px G s h0 h H locs cells slots → ls.size = mL M → hN h1 ≤ hN hf → hM h1 ≤ hM hf →
    vx_Run p l e R s m args below meth c H locs cells slots (hN h1 - hN h) (hM h1 - hM h) (F0 m pc ls st) r (QcO G o h1 as.toArray) (XcO G o h1) (gA G)
theorem call_go {Q : Po} {L : Lo} {st as r : List Value} {h : AH} (hh : mH M = []) (hrun : RunOK l G M M' pc st as r h) (hc : Call l G M' as h (aft Q (fun pc L st h => AWp l G M pc L st h Q) (pc + 3) L r)) : AWp l G M pc L st h Q := by
  obtain ⟨o, h1, hR, hq⟩ := hc
  cases o with
  | inl v =>
    refine AWp.of (h1 := h1) hR.1 hR.2.1 ?_ hq
    intro p e R s m args below meth c h0 hf H locs cells slots QF ls hcx hp hn1 hm1 hl kk
    refine call_core hp hR.1 hR.2.1 (hrun _ _ hR p e R s m args below meth c h0 hf H locs cells slots ls hcx hp hl.1 hn1 hm1) (fun v' hv H' locs' cells' slots' hp' => ?_) (fun E hE => by cases hE)
    cases hv
    exact kk H' locs' cells' slots' ls hp' hl
  | inr E =>
    refine ⟨.inr E, h1, ⟨hR.1, hR.2.1, ?_⟩, hq⟩
    intro p e R s m args below meth c h0 hcx H locs cells slots ls hp hl
    refine call_core hp hR.1 hR.2.1 (hrun _ _ hR p e R s m args below meth c h0 h1 H locs cells slots ls hcx hp hl.1 (Nat.le_refl _) (Nat.le_refl _)) (fun v' hv => by cases hv) (fun E' hE H' locs' cells' slots' q ce hp' h5 h6 h7 => ?_)
    cases hE
    obtain ⟨p1, p2, rfl, rfl, p5, p6⟩ := hp'
    refine vx_out (fun x hx => ?_) hcx.2.2.2.2.2.2.1 h5 h6 h7 (fun t ht hv => ⟨⟨rfl, by rw [ht]; exact p1.moved hv⟩, p2.F ht⟩) p2.2.2 (Nat.le_refl _) (Nat.le_refl _)
    rw [hcx.2.2.2.2.2.2.2.2.1, hh] at hx
    cases hx
theorem mW_nil (hh : mH M = []) : mW M = .code (mY M) (mC M) (mL M) (mR M) := by unfold mW; rw [hh]
theorem callB_mk {R : Room} {s : State} {args : Array Value} {m : MethodId} {meth : Method} {p : Program} {c : Code} {h0 hf h h1 : AH} {idx n : Nat} (hcx : Cx l G M p R s m args meth c h0 hf) (mok : MOK M' n) (hh' : mH M' = []) (hl : Cond.methodLink (mY M).cls idx (mY M') ∈ gtbl) (hr : mF M' + 1 ≤ mF M ∧ 8 + (mL M' + 11) + mO M' ≤ mO M) :
    CallB R s args (mY M).cls idx (mY M') (mC M') (mL M') (mR M') (mW M' :: gtbl) (rmO M' h h1) (hN h1 - hN h) (hM h1 - hM h) n := by
  obtain ⟨hx, hb, hml, hown, hts, -, -, -, -, hR9, -⟩ := hcx
  obtain ⟨m1, m2, m3, m4, m5⟩ := mok
  have hw := m1
  rw [mW_nil hh'] at hw
  refine ⟨rfl, rfl, by rw [hR9]; exact hr.1, by rw [hR9]; exact hr.2, hws_of hts m1, by rw [mW_nil hh']; exact List.mem_cons_self, hts _ hw, hts _ m2, ⟨m3, m4⟩, fun sig h => ?_, hts _ hl⟩
  rw [h] at m5
  exact (Option.some.inj m5).symm
theorem sd_callS {idx k : Nat} (hd : decode (mC M) pc = .ok (.invokestatic idx, 3)) (mok : MOK M' k) (hl : Cond.methodLink (mY M).cls idx (mY M') ∈ gtbl) (hs : Cond.static (mY M') ∈ gtbl) (hr : mF M' + 1 ≤ mF M ∧ 8 + (mL M' + 11) + mO M' ≤ mO M) (hh : mH M = []) (hh' : mH M' = []) : Sd l G M pc (tz_callS l G (pc + 3) M' k) := by
  intro Q K L st h hK hT
  unfold tz_callS at hT
  split at hT
  · rename_i as r hpop
    obtain ⟨rfl, hlen⟩ := popN_spec k st hpop
    obtain ⟨hr4, hT⟩ := hT
    refine call_go hh ?_ hT
    intro o h1 hR p e R s m args below meth c h0 hf H locs cells slots ls hcx hp hsz hn1 hm1
    have hc8 := hr4.le
    obtain ⟨-, -, e3, e4, e5, e6⟩ := id hp
    exact vx_runS ⟨hcx.1, hcx.2.1, hcx.2.2.1, hcx.2.2.2.1, hcx.2.2.2.2.1⟩ (hR.2.2 hcx.2.2.2.2.2.2.2.2.2.2.2.2.2.2) ⟨callB_mk hcx mok hh' hl hr, hcx.2.2.2.2.1 _ hs⟩ ⟨env_blind, env_pre hcx hp⟩ rfl hlen hsz rfl (lv_room (by omega)) hd ⟨by rw [hcx.2.2.2.2.2.2.2.2.2.1]; show _ ≤ hN hf - hN h0; have := hR.1; omega, by rw [hcx.2.2.2.2.2.2.2.2.2.1]; show _ ≤ hM hf - hM h0; have := hR.2.1; omega⟩
  · exact hT.elim
theorem am_recv {R : Room} {s : State} {args : Array Value} {m : MethodId} {meth : Method} {p : Program} {c : Code} {h0 hf h : AH} {H : Heap} {locs : List Loc} {cells slots a tag : Nat} {q : vw_C} (hcx : Cx l G M p R s m args meth c h0 hf) (hp : Px G s h0 h H locs cells slots) (hc : am_cl[tag]? = some q) (ht : tg h a = tag) : ∃ cellB : Cell, H[a]? = some cellB ∧ cellB.vm.isStatics = false ∧ s.vm.findClass q.1 = some cellB.cls := by
  obtain ⟨-, cell, q1, q2, q3, q4⟩ := (hp.1.2 a).1 q (by rw [ht]; exact hc)
  rw [ht] at q2
  exact ⟨cell, q1, by rw [q3]; rfl, by rw [q2]; exact (hcx.2.2.2.2.2.2.2.2.2.2.1.1 tag q hc).2.1⟩
theorem runV_ok {idx k tag a : Nat} {q : vw_C} {as r : List Value} {h : AH} (hd : decode (mC M) pc = .ok (.invokevirtual idx, 3)) (mok : MOK M' k) (hl : Cond.methodLink (mY M).cls idx (mY M') ∈ gtbl) (hi : Cond.instanceMethod (mY M') ∈ gtbl) (hs : Cond.selects (mY M').cls (mY M') (mY M') ∈ gtbl) (hc : am_cl[tag]? = some q) (hq : q.1 = (mY M').cls) (hr : mF M' + 1 ≤ mF M ∧ 8 + (mL M' + 11) + mO M' ≤ mO M) (hh' : mH M' = []) (hlen : as.length = k) (ht : tg h a = tag) (hr4 : rok r) :
    RunOK l G M M' pc (as.reverse ++ .ref a :: r) (.ref a :: as) r h := by
  intro o h1 hR p e R s m args below meth c h0 hf H locs cells slots ls hcx hp hsz hn1 hm1
  have hc8 := hr4.le
  obtain ⟨-, -, e3, e4, e5, e6⟩ := id hp
  exact vx_runV (C := (mY M').cls) ⟨hcx.1, hcx.2.1, hcx.2.2.1, hcx.2.2.2.1, hcx.2.2.2.2.1⟩ (hR.2.2 hcx.2.2.2.2.2.2.2.2.2.2.2.2.2.2) ⟨callB_mk hcx mok hh' hl hr, hcx.2.2.2.2.1 _ hi, hcx.2.2.2.2.1 _ hs⟩ ⟨env_blind, by rw [← hq]; exact am_recv hcx hp hc ht, env_pre hcx hp⟩ rfl hlen hsz rfl (lv_room (by omega)) hd ⟨by rw [hcx.2.2.2.2.2.2.2.2.2.1]; show _ ≤ hN hf - hN h0; have := hR.1; omega, by rw [hcx.2.2.2.2.2.2.2.2.2.1]; show _ ≤ hM hf - hM h0; have := hR.2.1; omega⟩
theorem sd_callV {idx k tag : Nat} {q : vw_C} (hd : decode (mC M) pc = .ok (.invokevirtual idx, 3)) (mok : MOK M' k) (hl : Cond.methodLink (mY M).cls idx (mY M') ∈ gtbl) (hi : Cond.instanceMethod (mY M') ∈ gtbl) (hs : Cond.selects (mY M').cls (mY M') (mY M') ∈ gtbl) (hc : am_cl[tag]? = some q) (hq : q.1 = (mY M').cls) (hr : mF M' + 1 ≤ mF M ∧ 8 + (mL M' + 11) + mO M' ≤ mO M) (hh : mH M = []) (hh' : mH M' = []) : Sd l G M pc (tz_callV l G (pc + 3) M' k tag) := by
  intro Q K L st h hK hT
  unfold tz_callV at hT
  split at hT
  · rename_i as a r hpop
    obtain ⟨rfl, hlen⟩ := popN_spec k st hpop
    obtain ⟨ht, hr4, hT⟩ := hT
    exact call_go hh (runV_ok hd mok hl hi hs hc hq hr hh' hlen ht hr4) hT
  · exact hT.elim
/-- a constructor: it returns -/
theorem sd_callI {idx k tag : Nat} (hd : decode (mC M) pc = .ok (.invokespecial idx, 3)) (mok : MOK M' k) (hl : Cond.methodLink (mY M).cls idx (mY M') ∈ gtbl) (hi : Cond.instanceMethod (mY M') ∈ gtbl) (hy : (mY M').name = "<init>") (hrn : mR M' = none) (hr : mF M' + 1 ≤ mF M ∧ 8 + (mL M' + 11) + mO M' ≤ mO M) (hh : mH M = []) (hh' : mH M' = []) :
    Sd l G M pc (fun Q X K L st h => tz_callV l G (pc + 3) M' k tag (fun o h1 => match o with | .inl v => Q (.inl v) h1 | .inr _ => False) X K L st h) := by
  intro Q K L st h hK hT
  unfold tz_callV at hT
  split at hT
  · rename_i as a r hpop
    obtain ⟨rfl, hlen⟩ := popN_spec k st hpop
    obtain ⟨ht, hr4, o, h1, hR, hq⟩ := hT
    cases o with
    | inr E => exact hq.elim
    | inl v =>
      refine AWp.of (h1 := h1) hR.1 hR.2.1 ?_ hq
      intro p e R s m args below meth c h0 hf H locs cells slots QF ls hcx hp hn1 hm1 hl' kk
      have hc8 := hr4.le
      obtain ⟨-, -, e3, e4, e5, e6⟩ := id hp
      have hB := callB_mk (h := h) (h1 := h1) hcx mok hh' hl hr
      rw [hrn] at hB
      refine call_core hp hR.1 hR.2.1 (run_of (va_runI ⟨hcx.1, hcx.2.1, hcx.2.2.1, hcx.2.2.2.1, hcx.2.2.2.2.1⟩ (met_of (hR.2.2 hcx.2.2.2.2.2.2.2.2.2.2.2.2.2.2)) ⟨hB, hy, hcx.2.2.2.2.1 _ hi⟩ ⟨env_blind, env_pre hcx hp⟩ rfl hlen hl'.1 rfl (lv_room (by omega)) hd ⟨by rw [hcx.2.2.2.2.2.2.2.2.2.1]; show _ ≤ hN hf - hN h0; have := hR.1; omega, by rw [hcx.2.2.2.2.2.2.2.2.2.1]; show _ ≤ hM hf - hM h0; have := hR.2.1; omega⟩)) (fun v' hv H' locs' cells' slots' hp' => ?_) (fun E hE => by cases hE)
      cases hv
      exact kk H' locs' cells' slots' ls hp' hl'
  · exact hT.elim
theorem cn_mk {R : Room} {s : State} {args : Array Value} {m : MethodId} {meth : Method} {p : Program} {c : Code} {h0 hf h h1 : AH} {idx n : Nat} {host : String} (hcx : Cx l G M p R s m args meth c h0 hf) (mok : MOK M' n) (hh' : mH M' = []) (hl : Cond.methodLinkNest (mY M).cls idx (mY M') host ∈ tables_1) (hr : mF M' + 1 ≤ mF M ∧ 8 + (mL M' + 11) + mO M' ≤ mO M) :
    va_CN R s args (mY M).cls idx (mY M') host (mC M') (mL M') (mR M') (mW M' :: gtbl) (rmO M' h h1) (hN h1 - hN h) (hM h1 - hM h) n := by
  obtain ⟨hx, hb, hml, hown, hts, -, -, -, -, hR9, hKn, -⟩ := hcx
  obtain ⟨m1, m2, m3, m4, m5⟩ := mok
  have hw := m1
  rw [mW_nil hh'] at hw
  refine ⟨⟨rfl, rfl, by rw [hR9]; exact hr.1, by rw [hR9]; exact hr.2, hws_of hts m1, by rw [mW_nil hh']; exact List.mem_cons_self⟩, hts _ hw, hts _ m2, ⟨m3, m4⟩, fun sig h => ?_, va_Nw.use rfl (hKn.2.2.1 _ hl rfl)⟩
  rw [h] at m5
  exact (Option.some.inj m5).symm
theorem sd_callIN {idx k tag : Nat} {host : String} (hd : decode (mC M) pc = .ok (.invokespecial idx, 3)) (mok : MOK M' k) (hl : Cond.methodLinkNest (mY M).cls idx (mY M') host ∈ tables_1) (hi : Cond.instanceMethod (mY M') ∈ gtbl) (hy : (mY M').name = "<init>") (hrn : mR M' = none) (hr : mF M' + 1 ≤ mF M ∧ 8 + (mL M' + 11) + mO M' ≤ mO M) (hh : mH M = []) (hh' : mH M' = []) :
    Sd l G M pc (fun Q X K L st h => tz_callV l G (pc + 3) M' k tag (fun o h1 => match o with | .inl v => Q (.inl v) h1 | .inr _ => False) X K L st h) := by
  intro Q K L st h hK hT
  unfold tz_callV at hT
  split at hT
  · rename_i as a r hpop
    obtain ⟨rfl, hlen⟩ := popN_spec k st hpop
    obtain ⟨ht, hr4, o, h1, hR, hq⟩ := hT
    cases o with
    | inr E => exact hq.elim
    | inl v =>
      refine AWp.of (h1 := h1) hR.1 hR.2.1 ?_ hq
      intro p e R s m args below meth c h0 hf H locs cells slots QF ls hcx hp hn1 hm1 hl' kk
      have hc8 := hr4.le
      obtain ⟨-, -, e3, e4, e5, e6⟩ := id hp
      have hB := cn_mk (h := h) (h1 := h1) hcx mok hh' hl hr
      rw [hrn] at hB
      refine call_core hp hR.1 hR.2.1 (run_of (va_runIN ⟨hcx.1, hcx.2.1, hcx.2.2.1, hcx.2.2.2.1, hcx.2.2.2.2.1⟩ (met_of (hR.2.2 hcx.2.2.2.2.2.2.2.2.2.2.2.2.2.2)) ⟨hB, hy, hcx.2.2.2.2.1 _ hi⟩ ⟨env_blind, env_pre hcx hp⟩ rfl hlen hl'.1 rfl (lv_room (by omega)) hd ⟨by rw [hcx.2.2.2.2.2.2.2.2.2.1]; show _ ≤ hN hf - hN h0; have := hR.1; omega, by rw [hcx.2.2.2.2.2.2.2.2.2.1]; show _ ≤ hM hf - hM h0; have := hR.2.1; omega⟩)) (fun v' hv H' locs' cells' slots' hp' => ?_) (fun E hE => by cases hE)
      cases hv
      exact kk H' locs' cells' slots' ls hp' hl'
  · exact hT.elim
theorem sd_callSN {idx k : Nat} {host : String} (hd : decode (mC M) pc = .ok (.invokestatic idx, 3)) (mok : MOK M' k) (hl : Cond.methodLinkNest (mY M).cls idx (mY M') host ∈ tables_1) (hs : Cond.static (mY M') ∈ gtbl) (hr : mF M' + 1 ≤ mF M ∧ 8 + (mL M' + 11) + mO M' ≤ mO M) (hh : mH M = []) (hh' : mH M' = []) :
    Sd l G M pc (fun Q X K L st h => tz_callS l G (pc + 3) M' k (fun o h1 => match o with | .inl v => Q (.inl v) h1 | .inr _ => False) X K L st h) := by
  intro Q K L st h hK hT
  unfold tz_callS at hT
  split at hT
  · rename_i as r hpop
    obtain ⟨rfl, hlen⟩ := popN_spec k st hpop
    obtain ⟨hr4, o, h1, hR, hq⟩ := hT
    cases o with
    | inr E => exact hq.elim
    | inl v =>
      refine AWp.of (h1 := h1) hR.1 hR.2.1 ?_ hq
      intro p e R s m args below meth c h0 hf H locs cells slots QF ls hcx hp hn1 hm1 hl' kk
      have hc8 := hr4.le
      obtain ⟨-, -, e3, e4, e5, e6⟩ := id hp
      have hB := cn_mk (h := h) (h1 := h1) hcx mok hh' hl hr
      refine call_core hp hR.1 hR.2.1 (run_of (va_runSN ⟨hcx.1, hcx.2.1, hcx.2.2.1, hcx.2.2.2.1, hcx.2.2.2.2.1⟩ (met_of (hR.2.2 hcx.2.2.2.2.2.2.2.2.2.2.2.2.2.2)) ⟨hB, hcx.2.2.2.2.1 _ hs, trivial⟩ ⟨env_blind, env_pre hcx hp⟩ rfl hlen hl'.1 rfl (lv_room (by omega)) hd ⟨by rw [hcx.2.2.2.2.2.2.2.2.2.1]; show _ ≤ hN hf - hN h0; have := hR.1; omega, by rw [hcx.2.2.2.2.2.2.2.2.2.1]; show _ ≤ hM hf - hM h0; have := hR.2.1; omega⟩)) (fun v' hv H' locs' cells' slots' hp' => ?_) (fun E hE => by cases hE)
      cases hv
      exact kk H' locs' cells' slots' ls hp' hl'
  · exact hT.elim
end
