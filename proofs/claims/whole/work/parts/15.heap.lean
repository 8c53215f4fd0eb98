/-! switches -/
def swt (cs : List (Int32 × Nat)) (d : Nat) (x : Int32) : Nat := match cs with
  | [] => d
  | (v, t) :: r => if x = v then t else swt r d x
theorem swc_swt {K : Nat → Prop} {x : Int32} : ∀ {cs : List (Int32 × Nat)} {d : Nat}, swc K x cs d → K (swt cs d x)
  | [], d, h => h
  | (v, t) :: r, d, h => by
    unfold swt
    split
    · rename_i e; exact h.1 e
    · rename_i e; exact swc_swt (h.2 e)
def tsB (pc : Int) : Int → List Int → List (Int32 × Nat) → Bool
  | _, [], [] => true
  | lo, o :: os, (v, t) :: cs => decide (v.toInt = lo) && decide (pc + o = (t : Int)) && tsB pc (lo + 1) os cs
  | _, _, _ => false
theorem tsB_out {pc : Int} : ∀ {os : List Int} {lo : Int} {cs : List (Int32 × Nat)} {d : Nat} {x : Int32}, tsB pc lo os cs = true → (x.toInt < lo ∨ lo + os.length ≤ x.toInt) → swt cs d x = d
  | [], lo, [], d, x, h, hx => rfl
  | o :: os, lo, (v, t) :: cs, d, x, h, hx => by
    simp only [tsB, Bool.and_eq_true, decide_eq_true_eq] at h
    unfold swt
    rw [if_neg, tsB_out h.2]
    · rcases hx with q | q
      · exact Or.inl (by omega)
      · exact Or.inr (by simp at q; omega)
    · intro e
      subst e
      simp at hx
      omega
  | [], lo, _ :: _, d, x, h, hx => by simp [tsB] at h
  | _ :: _, lo, [], d, x, h, hx => by simp [tsB] at h
theorem tsB_in {pc : Int} : ∀ {os : List Int} {lo : Int} {cs : List (Int32 × Nat)} {d : Nat} {x : Int32} {j : Nat}, tsB pc lo os cs = true → j < os.length → x.toInt = lo + j → ∃ o, os[j]? = some o ∧ pc + o = (swt cs d x : Int)
  | o :: os, lo, (v, t) :: cs, d, x, 0, h, hj, hx => by
    simp only [tsB, Bool.and_eq_true, decide_eq_true_eq] at h
    refine ⟨o, rfl, ?_⟩
    unfold swt
    rw [if_pos]
    · exact h.1.2
    · exact Int32.toInt_inj.mp (by rw [h.1.1, hx]; simp)
  | o :: os, lo, (v, t) :: cs, d, x, j + 1, h, hj, hx => by
    simp only [tsB, Bool.and_eq_true, decide_eq_true_eq] at h
    obtain ⟨o', h1, h2⟩ := tsB_in (d := d) (x := x) h.2 (j := j) (by simpa using hj) (by rw [hx]; push_cast; omega)
    refine ⟨o', h1, ?_⟩
    unfold swt
    rw [if_neg]
    · exact h2
    · intro e
      subst e
      have := h.1.1
      push_cast at hx
      omega
  | [], lo, cs, d, x, j, h, hj, hx => by simp at hj
  | _ :: _, lo, [], d, x, j, h, hj, hx => by simp [tsB] at h
def lsB (pc : Int) : List (Int × Int) → List (Int32 × Nat) → Bool
  | [], [] => true
  | (a, o) :: os, (v, t) :: cs => decide (v.toInt = a) && decide (pc + o = (t : Int)) && lsB pc os cs
  | _, _ => false
theorem lsB_at {pc dd : Int} {d : Nat} (hd : pc + dd = (d : Int)) {x : Int32} : ∀ {os : List (Int × Int)} {cs : List (Int32 × Nat)}, lsB pc os cs = true → pc + Op.lookupswitch.offset os dd x.toInt = (swt cs d x : Int)
  | [], [], h => hd
  | (a, o) :: os, (v, t) :: cs, h => by
    simp only [lsB, Bool.and_eq_true, decide_eq_true_eq] at h
    rw [Op.lookupswitch.offset_cons]
    unfold swt
    by_cases e : x = v
    · rw [if_pos e, if_pos (by rw [e, h.1.1])]
      exact h.1.2
    · rw [if_neg e, if_neg (fun q => e (Int32.toInt_inj.mp (by rw [h.1.1]; first | exact q | exact q.symm)))]
      exact lsB_at hd h.2
  | [], _ :: _, h => by simp [lsB] at h
  | _ :: _, [], h => by simp [lsB] at h
section
variable {l : Launch} {G : Gc} {M : Md} {pc : Nat}
theorem sd_tsw {dd lo hi : Int} {offs : Array Int} {len : Nat} {cs : List (Int32 × Nat)} {d : Nat} (hd : decode (mC M) pc = .ok (.tableswitch dd lo hi offs, len)) (h1 : tsB pc lo offs.toList cs = true) (h2 : hi = lo + offs.toList.length - 1) (h3 : (pc : Int) + dd = (d : Int)) : Sd l G M pc (tz_sw cs d) := by
  intro Q K L st h hK hT
  unfold tz_sw at hT
  split at hT
  · rename_i x r
    have hT := swc_swt hT
    by_cases c : x.toInt < lo ∨ hi < x.toInt
    · have e := tsB_out (d := d) (x := x) h1 (by rcases c with c | c; exact Or.inl c; exact Or.inr (by omega))
      rw [e] at hT
      exact AWp.pure (fun hx hb _ _ hl k => lv_tableOut hx hb hd c h3 (k _ hl)) hT
    · obtain ⟨o, g1, g2⟩ := tsB_in (d := d) (x := x) (j := (x.toInt - lo).toNat) h1 (by omega) (by omega)
      exact AWp.pure (fun hx hb _ _ hl k => lv_tableIn hx hb hd (fun q => c (Or.inl q)) (fun q => c (Or.inr q)) (by rw [← g1]; simp) g2 (k _ hl)) hT
  · exact hT.elim
theorem sd_lsw {dd : Int} {ps : Array (Int × Int)} {len : Nat} {cs : List (Int32 × Nat)} {d : Nat} (hd : decode (mC M) pc = .ok (.lookupswitch dd ps, len)) (h0 : (ps.toList.zip (ps.toList.drop 1)).all (fun (a, next) => a.1 < next.1) = true) (h1 : lsB pc ps.toList cs = true) (h3 : (pc : Int) + dd = (d : Int)) : Sd l G M pc (tz_sw cs d) := by
  intro Q K L st h hK hT
  unfold tz_sw at hT
  split at hT
  · rename_i x r
    have hT := swc_swt hT
    exact AWp.pure (fun hx hb _ _ hl k => lv_lookup hx hb hd h0 rfl (lsB_at h3 h1) (k _ hl)) hT
  · exact hT.elim
/-! fields -/
theorem sd_getf {idx tag k : Nat} {q : vw_C} (hd : decode (mC M) pc = .ok (.getfield idx, 3)) (hc : am_cl[tag]? = some q) (hk : k < q.2.2) (hw : Cond.fieldLink (mY M).cls idx q.1 (q.2.1 k).2.1 (q.2.1 k).2.2.1 ∈ gtbl) : Sd l G M pc (tz_getf (pc + 3) tag k (ck tag k)) := by
  intro Q K L st h hK hT
  unfold tz_getf at hT
  split at hT
  · rename_i a r
    obtain ⟨ht, hT⟩ := hT
    refine AWp.of (Nat.le_refl _) (Nat.le_refl _) ?_ (hK _ _ _ _ hT)
    intro p e R s m args below meth c h0 hf H locs cells slots QF ls hcx hp _ _ hl kk
    obtain ⟨hx, hb, hml, hown, hts, -, -, -, -, -, hKn, -⟩ := hcx
    have hC := ci_ok tag q hc
    obtain ⟨-, cell, q1, q2, q3, q4⟩ := (hp.1.2 a).1 q (by rw [ht]; exact hc)
    rw [ht] at q2 q4
    obtain ⟨hS, hfc, kC, hkC, hkind⟩ := hKn.1 tag q hc
    obtain ⟨cf, kf, fi, f, hi, hsl⟩ := hS k hk
    have hst := (u_facts hfc hkC (u_lays hts hC.1 hk) hi).1
    have hi2 := hi
    rw [hC.2.2.2.2.2.2 k hk] at hi2
    refine W.getf hx hb hown (hts _ hw) hi2 hst q1 (by rw [q3]; exact fun z => by cases z) (v := vl (ck tag k) h a k) ?_ rfl rfl hd (kk _ _ _ _ _ hp hl)
    rw [hsl]
    exact q4 k hk
  · exact hT.elim
/-- a store into a field -/
theorem W_put {p : Program} {e : Env} {R : Room} {s : State} {m : MethodId} {args : Array Value} {below : List Frame} {meth : Method} {c : Code} {h0 hf h : AH} {H : Heap} {locs : List Loc} {cells slots : Nat} {QF : State → Prop} {ls : Array Slot}
    (hcx : Cx l G M p R s m args meth c h0 hf) (hp : Px G s h0 h H locs cells slots) {idx tag k a : Nat} {q : vw_C} {v : Value} {r : List Value} (hd : decode (mC M) pc = .ok (.putfield idx, 3)) (hc : am_cl[tag]? = some q) (hk : k < q.2.2)
    (hw : Cond.fieldLink (mY M).cls idx q.1 (q.2.1 k).2.1 (q.2.1 k).2.2.1 ∈ gtbl) (ht : tg h a = tag) (hn : narrow (cty tag k) v = v) (hfit : fits (cty tag k) v = true) (hfin : (q.2.1 k).2.2.2 = false ∨ ((q.2.1 k).2.2.2 = true ∧ (mY M).name = "<init>" ∧ q.1 = (mY M).cls))
    (kk : ∀ (H' : Heap) (locs' : List Loc), t_OB a (G.1.1 tag) q.2.2 (G.1.2 tag) H' (updV (fun j => vl (ck tag j) h a j) k v) → gB G ≤ a → H'.size = H.size → (∀ z, z ≠ a → H'[z]? = H[z]?) → va_S (gA G) s.heap H' locs' → W p l e R s m args below meth c H' locs' cells slots QF (F0 m (pc + 3) ls r)) :
    W p l e R s m args below meth c H locs cells slots QF (F0 m pc ls (v :: .ref a :: r)) := by
  obtain ⟨hx, hb, hml, hown, hts, -, -, hnm, -, -, hKn, -⟩ := hcx
  have hC := ci_ok tag q hc
  obtain ⟨hga, cell, q1, q2, q3, q4⟩ := (hp.1.2 a).1 q (by rw [ht]; exact hc)
  rw [ht] at q2 q4
  have hap : ∀ x y, x < q.2.2 → y < q.2.2 → x ≠ y → (G.1.2 tag) x ≠ (G.1.2 tag) y := by
    intro x y hx1 hy1 hne
    obtain ⟨hS, -⟩ := hKn.1 tag q hc
    obtain ⟨_, _, _, fa, hia, ea⟩ := hS x hx1
    obtain ⟨_, _, _, fb, hib, eb⟩ := hS y hy1
    rw [← ea, ← eb]
    refine u_apart (u_lays hts hC.1 hx1) (u_lays hts hC.1 hy1) hia hib ?_
    rw [(State.fieldFound?_type hia (hC.2.2.1 x hx1)).1, (State.fieldFound?_type hib (hC.2.2.1 y hy1)).1]
    exact hC.2.1 x hx1 y hy1 hne
  obtain ⟨hS, hfc, kC, hkC, hkind⟩ := hKn.1 tag q hc
  obtain ⟨cf, kf, fi, f, hi, hsl⟩ := hS k hk
  have hst := (u_facts hfc hkC (u_lays hts hC.1 hk) hi).1
  have hlay := hts _ (hC.1 _ (u_in_lay hk))
  have hi2 := hi
  rw [hC.2.2.2.2.2.2 k hk] at hi2
  unfold u_lay at hlay
  rcases hfin with hfin | ⟨hfin, hin, hdc⟩
  · rw [if_neg (by rw [hfin]; decide)] at hlay
    have h6 := u_store hfc hkC hkind hlay hi (hC.2.2.1 k hk) hn hfit
    refine W.putK hx hb (f := f) ⟨hown, hts _ hw, ⟨_, _, _, hi2⟩, hst⟩ (by rw [q2]; exact h6) q1 q3 (by rw [hsl]; exact k2_hasslot (q4 k hk)) rfl rfl hd fun H' e1 e2 e3 => ?_
    rw [hsl] at e1 ⊢
    exact kk H' _ ⟨_, e1, q2, q3, t_set q4 hap hk v⟩ hga e2 e3 (hp.2.1.put e2 e3 hga)
  · rw [if_pos hfin] at hlay
    have hcf : m.cls = cf := by
      obtain ⟨_, _, c', _, _, _, -, -, hf', -, -, -, hown2, -⟩ := Cond.laysFinal_spec hlay
      have e1 : c' = cf := by have := hi.symm.trans hf'; simp at this; exact this.1.symm
      rw [hC.2.2.2.2.2.2 k hk, hdc] at hown2
      rw [← e1]; exact Option.some.inj (hown.symm.trans hown2)
    have h6 := u_fits hfc hkC hkind (Or.inr hlay) hi (hC.2.2.1 k hk) hn hfit
    refine W.putFinK hx hb hown (hts _ hw) hi2 hst hcf (by rw [hnm]; exact hin) (by rw [q2]; exact h6) q1 q3 (by rw [hsl]; exact k2_hasslot (q4 k hk)) rfl rfl hd fun H' e1 e2 e3 => ?_
    rw [hsl] at e1 ⊢
    exact kk H' _ ⟨_, e1, q2, q3, t_set q4 hap hk v⟩ hga e2 e3 (hp.2.1.put e2 e3 hga)
theorem am_aty {t : Nat} {q : vw_C} (h : am_cl[t]? = some q) : t < 8 := by
  have := (List.getElem?_eq_some_iff.mp h).1
  simpa [am_cl] using this
theorem aty_ge {t : Nat} {ty : FieldType} (h : aty t = some ty) : 8 ≤ t ∧ t < 13 := by
  unfold aty at h
  split at h <;> first | omega | (cases h)
end
