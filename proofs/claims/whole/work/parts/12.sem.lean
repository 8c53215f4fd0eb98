/-! WHAT THE ABSTRACT MACHINE SAYS OF THE MACHINE -/
/-- a method: name, code, locals, answer, frames below it (itself not), words of locals below it, handlers -/
abbrev Md : Type := MethodName × ByteArray × Nat × Option FieldType × Nat × Nat × List (Nat × Nat × Nat × Nat)
def mY (M : Md) : MethodName := M.1
def mC (M : Md) : ByteArray := M.2.1
def mL (M : Md) : Nat := M.2.2.1
def mR (M : Md) : Option FieldType := M.2.2.2.1
def mF (M : Md) : Nat := M.2.2.2.2.1
def mO (M : Md) : Nat := M.2.2.2.2.2.1
def mH (M : Md) : List (Nat × Nat × Nat × Nat) := M.2.2.2.2.2.2
def mW (M : Md) : Cond := match mH M with
  | [] => .code (mY M) (mC M) (mL M) (mR M)
  | _ => .codeWith (mY M) (mC M) (mL M) (mR M) (mH M)
/-- for a whole run: the classes' numbers and slots, the array classes' numbers, our least address -/
abbrev Gc : Type := va_G × (Nat → ClassId) × Nat
def gB (G : Gc) : Nat := G.2.2
def gA (G : Gc) : Nat → Prop := fun q => G.2.2 ≤ q
def aty (t : Nat) : Option FieldType := match t with
  | 8 => some .int
  | 9 => some .boolean
  | 10 => some (.object RX0)
  | 11 => some (.object RX3)
  | 12 => some .long
  | _ => none
def ek (t : Nat) : Nat := match t with
  | 10 => 1
  | 11 => 1
  | 12 => 2
  | _ => 0
def cOK (G : Gc) (h : AH) (a : Nat) (U : State) (H : Heap) : Prop :=
  (∀ q, am_cl[tg h a]? = some q → gB G ≤ a ∧ t_OB a (G.1.1 (tg h a)) q.2.2 (G.1.2 (tg h a)) H (fun k => vl (ck (tg h a) k) h a k)) ∧
  (∀ ty, aty (tg h a) = some ty → gB G ≤ a ∧ H[a]? = some (arrV (G.2.1 (tg h a)) (ln h a) (fun k => vl (ek (tg h a)) h a k))) ∧
  (tg h a = 13 → a < gB G ∧ va_X a (ln h a) (hI h a) U H)
def Rep (G : Gc) (h : AH) (U : State) (H : Heap) : Prop := H.size = hN h ∧ ∀ a, cOK G h a U H
def nwk : Cond → Bool
  | .methodLinkNest _ _ _ _ => true
  | .arrayOver (.object _) => true
  | .declares _ => true
  | .castable _ _ => true
  | _ => false
def ncl : List (String × String) := [("java/lang/IllegalStateException", "java/lang/IndexOutOfBoundsException"), ("java/lang/IllegalArgumentException", "java/lang/IndexOutOfBoundsException"), ("java/lang/IllegalStateException", "java/lang/IllegalArgumentException")]
def Kn (G : Gc) (U : State) : Prop :=
  (∀ (c : Nat) (q : vw_C), am_cl[c]? = some q → u_Kn U q.1 q.2.1 q.2.2 (G.1.1 c) (G.1.2 c)) ∧
  (∀ (t : Nat) (ty : FieldType), aty t = some ty → ArrOfT U (G.2.1 t) ty ∧ va_RA U (G.2.1 t) ty) ∧
  (∀ w ∈ tables_1, nwk w = true → va_Nw w U) ∧
  (∀ (own : String) (k : Nat) (tx : String), Cond.stringRef own k tx ∈ tables_1 → ∃ a, vk_R own k tx a U) ∧
  (∀ q ∈ ncl, va_Nc q.1 q.2 U)
def Zz (G : Gc) (U : State) (H : Heap) : Prop := vx_Zq Bundle.tN "UNASSIGNED_STACK" Bundle.steD (gA G) U H ∧ vx_Zq Bundle.tN "SUPPRESSED_SENTINEL" Bundle.listD (gA G) U H
def Env' (G : Gc) (h : AH) (U : State) : Prop := Rep G h U U.heap ∧ Kn G U ∧ Zz G U U.heap ∧ gB G ≤ hN h
theorem nw_warm {w : Cond} (hw : nwk w = true) {s U : State} (hW : s.WarmedH U.vm) (h : va_Nw w s) : va_Nw w U := by
  cases w <;> first | (simp [nwk] at hw; done) | exact va_Nw.warmM hW h | exact va_Nw.warmD hW h | exact va_Nw.warmC hW h | skip
  rename_i ty
  cases ty <;> first | (simp [nwk] at hw; done) | exact va_AO.moved hW.alike h
theorem Kn.warm {G : Gc} {s U : State} (hW : s.WarmedH U.vm) (h : Kn G s) : Kn G U := by
  obtain ⟨h1, h2, h3, h4, h5⟩ := h
  refine ⟨fun c q hq => u_Kn_moved hW.alike (h1 c q hq), fun t ty ht => ⟨arrOfT_moved hW.alike (h2 t ty ht).1, (h2 t ty ht).2.moved hW.alike⟩, fun w hw hk => nw_warm hk hW (h3 w hw hk), fun own k tx hm => ?_, fun q hq => va_Nc.moved hW.alike (h5 q hq)⟩
  obtain ⟨a, ha⟩ := h4 own k tx hm
  exact ⟨a, vk_R.warm hW ha⟩
theorem cOK.moved {G : Gc} {h : AH} {a : Nat} {u U : State} {H : Heap} (hvm : u.vm.Alike U.vm) (k : cOK G h a u H) : cOK G h a U H := ⟨k.1, k.2.1, fun t => ⟨(k.2.2 t).1, (k.2.2 t).2.moved hvm⟩⟩
theorem Rep.moved {G : Gc} {h : AH} {u U : State} {H : Heap} (hvm : u.vm.Alike U.vm) (k : Rep G h u H) : Rep G h U H := ⟨k.1, fun a => (k.2 a).moved hvm⟩
theorem Zz.moved {G : Gc} {u U : State} {H : Heap} (hvm : u.vm.Alike U.vm) (k : Zz G u H) : Zz G U H := ⟨k.1.moved hvm, k.2.moved hvm⟩
theorem Zz.kept {G : Gc} {U : State} {H H1 : Heap} (h : Zz G U H) (hq : ∀ a : Nat, a < H.size → ¬ gA G a → H1[a]? = H[a]?) : Zz G U H1 := ⟨h.1.kept hq, h.2.kept hq⟩
theorem cOK.congr {G : Gc} {h h' : AH} {a : Nat} {U : State} {H H' : Heap} (k : cOK G h a U H) (e0 : hT h' a = hT h a) (e1 : hI h' a = hI h a) (e2 : hR h' a = hR h a) (e3 : hL h' a = hL h a) (e4 : H'[a]? = H[a]?) : cOK G h' a U H' := by
  have et : tg h' a = tg h a := congrArg (fun x => x.1) e0
  have el : ln h' a = ln h a := congrArg (fun x => x.2.1) e0
  have ev : ∀ kd j, vl kd h' a j = vl kd h a j := by
    intro kd j
    unfold vl
    rw [e1, e2, e3]
  refine ⟨fun q hq => ?_, fun ty ht => ?_, fun t => ?_⟩
  · rw [et] at hq ⊢
    obtain ⟨k1, k2⟩ := k.1 q hq
    exact ⟨k1, (k2.kept e4).to (fun j _ => (ev _ j).symm)⟩
  · rw [et] at ht ⊢
    obtain ⟨k1, k2⟩ := k.2.1 ty ht
    refine ⟨k1, ?_⟩
    rw [e4, k2, el]
    congr 2
    funext j
    exact (ev _ j).symm
  · rw [et] at t
    obtain ⟨k1, k2⟩ := k.2.2 t
    refine ⟨k1, ?_⟩
    rw [el, e1]
    exact k2.kept e4
theorem Rep.upd {G : Gc} {h h' : AH} {U : State} {H H' : Heap} {a : Nat} (k : Rep G h U H) (hz : H'.size = H.size) (hn : hN h' = hN h) (ho : ∀ q, q ≠ a → H'[q]? = H[q]?)
    (hs : ∀ b, b ≠ a → hT h' b = hT h b ∧ hI h' b = hI h b ∧ hR h' b = hR h b ∧ hL h' b = hL h b) (hc : cOK G h' a U H') : Rep G h' U H' := by
  refine ⟨by rw [hz, hn]; exact k.1, fun b => ?_⟩
  by_cases e : b = a
  · rw [e]; exact hc
  · obtain ⟨e0, e1, e2, e3⟩ := hs b e
    exact (k.2 b).congr e0 e1 e2 e3 (ho b e)
theorem Rep.lt {G : Gc} {h : AH} {U : State} {H : Heap} (k : Rep G h U H) {a : Nat} {q : vw_C} (hq : am_cl[tg h a]? = some q) : a < hN h := by
  obtain ⟨-, cell, h2, -⟩ := (k.2 a).1 q hq
  rw [← k.1]
  exact (Array.getElem?_eq_some_iff.mp h2).1
def QcO (G : Gc) (o : Ou) (h' : AH) : Array Value → State → Outcome → State → Prop := fun _ st oc t => (∃ v, o = Sum.inl v ∧ oc = .returned v ∧ Rep G h' t t.heap) ∧ va_F (gA G) st t
def XcO (G : Gc) (o : Ou) (h' : AH) : String → State → State → Prop := fun E st t => (o = Sum.inr E ∧ Rep G h' t t.heap) ∧ va_F (gA G) st t
abbrev rmO (M : Md) (h h' : AH) : Room := { frames := mF M, cells := hN h' - hN h, slots := hM h' - hM h, locals := mO M }
def Runs (l : Launch) (G : Gc) (M : Md) (args : List Value) (h : AH) (o : Ou) (h' : AH) : Prop :=
  hN h ≤ hN h' ∧ hM h ≤ hM h' ∧ (l.stackTraces = false → vx_Met l (mY M) (mW M :: gtbl) (rmO M h h') (va_Pc args (Env' G h)) (QcO G o h') (XcO G o h') (hN h' - hN h) (hM h' - hM h) (gA G))
def Call (l : Launch) (G : Gc) (M : Md) (args : List Value) (h : AH) (Q : Po) : Prop := ∃ o h', Runs l G M args h o h' ∧ Q o h'
theorem Call.mono {l : Launch} {G : Gc} {M : Md} {args : List Value} {h : AH} {Q Q' : Po} (k : Call l G M args h Q) (hq : ∀ o h', Q o h' → Q' o h') : Call l G M args h Q' := by
  obtain ⟨o, h', h1, h2⟩ := k
  exact ⟨o, h', h1, hq o h' h2⟩
def LOK (ls : Array Slot) (n : Nat) (L : Lo) : Prop := ls.size = n ∧ lv_wf ls ∧ L.length = n ∧ ∀ i v, lg L i = some v → ls[i]? = some (.val v)
/-- the frame stands in method M, since h0 -/
def Cx (l : Launch) (G : Gc) (M : Md) (p : Program) (R : Room) (s : State) (m : MethodId) (args : Array Value) (meth : Method) (c : Code) (h0 hf : AH) : Prop :=
  p.tables.exec = Jvm.exec ∧ c.code = mC M ∧ c.maxLocals = mL M ∧ s.vm.findClass (mY M).cls = some m.cls ∧ (∀ w ∈ gtbl, w.before args s = true) ∧ meth.sig.returnType = mR M ∧ meth.locks = false ∧ meth.name = (mY M).name ∧
  c.exceptionTable.toList = tableOf (mH M) ∧ R = rmO M h0 hf ∧ Kn G s ∧ Zz G s s.heap ∧ s.heap.size = hN h0 ∧ gB G ≤ hN h0 ∧ l.stackTraces = false
def Px (G : Gc) (s : State) (h0 h : AH) (H : Heap) (locs : List Loc) (cells slots : Nat) : Prop :=
  Rep G h s H ∧ va_S (gA G) s.heap H locs ∧ cells = hN h - hN h0 ∧ slots = hM h - hM h0 ∧ hN h0 ≤ hN h ∧ hM h0 ≤ hM h
def AW (l : Launch) (G : Gc) (M : Md) (pc : Nat) (L : Lo) (st : List Value) (h : AH) (o : Ou) (hf : AH) : Prop :=
  hN h ≤ hN hf ∧ hM h ≤ hM hf ∧ ∀ (p : Program) (e : Env) (R : Room) (s : State) (m : MethodId) (args : Array Value) (below : List Frame) (meth : Method) (c : Code) (h0 : AH), Cx l G M p R s m args meth c h0 hf →
    ∀ (H : Heap) (locs : List Loc) (cells slots : Nat) (ls : Array Slot), Px G s h0 h H locs cells slots → LOK ls (mL M) L →
      W p l e R s m args below meth c H locs cells slots (vx_MQ below (QcO G o hf) (XcO G o hf) args s (hN hf - hN h0) (hM hf - hM h0) (gA G)) (F0 m pc ls st)
def AWp (l : Launch) (G : Gc) (M : Md) (pc : Nat) (L : Lo) (st : List Value) (h : AH) (Q : Po) : Prop := ∃ o hf, AW l G M pc L st h o hf ∧ Q o hf
section
variable {l : Launch} {G : Gc} {M : Md} {pc pc' : Nat} {L L' : Lo} {st st' : List Value} {h h1 : AH} {Q : Po}
/-- a step that may write -/
theorem AWp.of (hn : hN h ≤ hN h1) (hm : hM h ≤ hM h1)
    (hstep : ∀ (p : Program) (e : Env) (R : Room) (s : State) (m : MethodId) (args : Array Value) (below : List Frame) (meth : Method) (c : Code) (h0 hf : AH) (H : Heap) (locs : List Loc) (cells slots : Nat) (QF : State → Prop) (ls : Array Slot), Cx l G M p R s m args meth c h0 hf → Px G s h0 h H locs cells slots → hN h1 ≤ hN hf → hM h1 ≤ hM hf → LOK ls (mL M) L →
      (∀ (H' : Heap) (locs' : List Loc) (cells' slots' : Nat) (ls' : Array Slot), Px G s h0 h1 H' locs' cells' slots' → LOK ls' (mL M) L' → W p l e R s m args below meth c H' locs' cells' slots' QF (F0 m pc' ls' st')) →
      W p l e R s m args below meth c H locs cells slots QF (F0 m pc ls st))
    (k : AWp l G M pc' L' st' h1 Q) : AWp l G M pc L st h Q := by
  obtain ⟨o, hf, ⟨k1, k2, k3⟩, kq⟩ := k
  refine ⟨o, hf, ⟨Nat.le_trans hn k1, Nat.le_trans hm k2, ?_⟩, kq⟩
  intro p e R s m args below meth c h0 hc H locs cells slots ls hp hl
  exact hstep p e R s m args below meth c h0 hf H locs cells slots _ ls hc hp k1 k2 hl (fun H' locs' cells' slots' ls' hp' hl' => k3 p e R s m args below meth c h0 hc H' locs' cells' slots' ls' hp' hl')
/-- a step that writes nothing -/
theorem AWp.pure
    (hstep : ∀ {p : Program} {e : Env} {R : Room} {s : State} {m : MethodId} {args : Array Value} {below : List Frame} {meth : Method} {c : Code} {H : Heap} {locs : List Loc} {cells slots : Nat} {QF : State → Prop} {ls : Array Slot}, p.tables.exec = Jvm.exec → c.code = mC M → s.vm.findClass (mY M).cls = some m.cls → (∀ w ∈ gtbl, w.before args s = true) → LOK ls (mL M) L →
      (∀ (ls' : Array Slot), LOK ls' (mL M) L' → W p l e R s m args below meth c H locs cells slots QF (F0 m pc' ls' st')) →
      W p l e R s m args below meth c H locs cells slots QF (F0 m pc ls st))
    (k : AWp l G M pc' L' st' h Q) : AWp l G M pc L st h Q :=
  AWp.of (Nat.le_refl _) (Nat.le_refl _) (fun p e R s m args below meth c h0 hf H locs cells slots QF ls hc hp _ _ hl kk => hstep hc.1 hc.2.1 hc.2.2.2.1 hc.2.2.2.2.1 hl (fun ls' hl' => kk H locs cells slots ls' hp hl')) k
end
