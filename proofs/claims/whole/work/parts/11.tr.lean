/-! THE INSTRUCTIONS AS TRANSFORMERS: Q the method's post, X where the walk stops, K where it goes on -/
abbrev Tr : Type := Po → Ct → Ct → Lo → List Value → AH → Prop
def tz_const (n : Nat) (v : Value) (_ : Po) (_ : Ct) (K : Ct) (L : Lo) (st : List Value) (h : AH) : Prop := K n L (v :: st) h
def tz_iload (n i : Nat) (_ : Po) (_ : Ct) (K : Ct) (L : Lo) (st : List Value) (h : AH) : Prop := match lg L i with
  | some (.int x) => K n L (.int x :: st) h
  | _ => False
def tz_lload (n i : Nat) (_ : Po) (_ : Ct) (K : Ct) (L : Lo) (st : List Value) (h : AH) : Prop := match lg L i with
  | some (.long x) => K n L (.long x :: st) h
  | _ => False
def tz_dload (n i : Nat) (_ : Po) (_ : Ct) (K : Ct) (L : Lo) (st : List Value) (h : AH) : Prop := match lg L i with
  | some (.double x) => K n L (.double x :: st) h
  | _ => False
def tz_aload (n i : Nat) (_ : Po) (_ : Ct) (K : Ct) (L : Lo) (st : List Value) (h : AH) : Prop := match lg L i with
  | some v => isRf v ∧ K n L (v :: st) h
  | _ => False
def tz_istore (n i : Nat) (_ : Po) (_ : Ct) (K : Ct) (L : Lo) (st : List Value) (h : AH) : Prop := match st with
  | .int x :: r => i < L.length ∧ K n (lst1 L i (.int x)) r h
  | _ => False
def tz_astore (n i : Nat) (_ : Po) (_ : Ct) (K : Ct) (L : Lo) (st : List Value) (h : AH) : Prop := match st with
  | v :: r => isRf v ∧ i < L.length ∧ K n (lst1 L i v) r h
  | _ => False
def tz_lstore (n i : Nat) (_ : Po) (_ : Ct) (K : Ct) (L : Lo) (st : List Value) (h : AH) : Prop := match st with
  | .long x :: r => i + 1 < L.length ∧ K n (lst2 L i (.long x)) r h
  | _ => False
def tz_dstore (n i : Nat) (_ : Po) (_ : Ct) (K : Ct) (L : Lo) (st : List Value) (h : AH) : Prop := match st with
  | .double x :: r => i + 1 < L.length ∧ K n (lst2 L i (.double x)) r h
  | _ => False
def tz_iinc (n i : Nat) (d : Int32) (_ : Po) (_ : Ct) (K : Ct) (L : Lo) (st : List Value) (h : AH) : Prop := match lg L i with
  | some (.int x) => i < L.length ∧ K n (lst1 L i (.int (x + d))) st h
  | _ => False
def tz_i1 (n : Nat) (f : Int32 → Int32) (_ : Po) (_ : Ct) (K : Ct) (L : Lo) (st : List Value) (h : AH) : Prop := match st with
  | .int a :: r => K n L (.int (f a) :: r) h
  | _ => False
def tz_i2 (n : Nat) (f : Int32 → Int32 → Int32) (_ : Po) (_ : Ct) (K : Ct) (L : Lo) (st : List Value) (h : AH) : Prop := match st with
  | .int b :: .int a :: r => K n L (.int (f a b) :: r) h
  | _ => False
def tz_i2z (n : Nat) (f : Int32 → Int32 → Int32) (_ : Po) (_ : Ct) (K : Ct) (L : Lo) (st : List Value) (h : AH) : Prop := match st with
  | .int b :: .int a :: r => ¬ b = 0 ∧ K n L (.int (f a b) :: r) h
  | _ => False
def tz_l2 (n : Nat) (f : Int64 → Int64 → Int64) (_ : Po) (_ : Ct) (K : Ct) (L : Lo) (st : List Value) (h : AH) : Prop := match st with
  | .long b :: .long a :: r => K n L (.long (f a b) :: r) h
  | _ => False
def tz_l2z (n : Nat) (f : Int64 → Int64 → Int64) (_ : Po) (_ : Ct) (K : Ct) (L : Lo) (st : List Value) (h : AH) : Prop := match st with
  | .long b :: .long a :: r => ¬ b = 0 ∧ K n L (.long (f a b) :: r) h
  | _ => False
def tz_i2l (n : Nat) (_ : Po) (_ : Ct) (K : Ct) (L : Lo) (st : List Value) (h : AH) : Prop := match st with
  | .int a :: r => K n L (.long a.toInt64 :: r) h
  | _ => False
def tz_l2i (n : Nat) (_ : Po) (_ : Ct) (K : Ct) (L : Lo) (st : List Value) (h : AH) : Prop := match st with
  | .long a :: r => K n L (.int a.toInt32 :: r) h
  | _ => False
def tz_lcmp (n : Nat) (_ : Po) (_ : Ct) (K : Ct) (L : Lo) (st : List Value) (h : AH) : Prop := match st with
  | .long b :: .long a :: r => K n L (.int (lg_cmp a b) :: r) h
  | _ => False
def tz_i2d (n : Nat) (_ : Po) (_ : Ct) (K : Ct) (L : Lo) (st : List Value) (h : AH) : Prop := match st with
  | .int a :: r => K n L (.double (FP.i2d a) :: r) h
  | _ => False
def tz_d2 (n : Nat) (f : UInt64 → UInt64 → UInt64) (_ : Po) (_ : Ct) (K : Ct) (L : Lo) (st : List Value) (h : AH) : Prop := match st with
  | .double b :: .double a :: r => vf_n64 (f a b) ∧ K n L (.double (f a b) :: r) h
  | _ => False
def tz_dcmp (n : Nat) (op : CmpOp) (_ : Po) (_ : Ct) (K : Ct) (L : Lo) (st : List Value) (h : AH) : Prop := match st with
  | .double b :: .double a :: r => K n L (.int (Op.cmpValue (FP.dcmp a b) op) :: r) h
  | _ => False
def is1 : Value → Prop
  | .long _ => False
  | .double _ => False
  | _ => True
def tz_dup (n : Nat) (_ : Po) (_ : Ct) (K : Ct) (L : Lo) (st : List Value) (h : AH) : Prop := match st with
  | v :: r => is1 v ∧ K n L (v :: v :: r) h
  | _ => False
def tz_dup2 (n : Nat) (_ : Po) (_ : Ct) (K : Ct) (L : Lo) (st : List Value) (h : AH) : Prop := match st with
  | v :: w :: r => is1 v ∧ is1 w ∧ K n L (v :: w :: v :: w :: r) h
  | _ => False
def tz_pop (n : Nat) (_ : Po) (_ : Ct) (K : Ct) (L : Lo) (st : List Value) (h : AH) : Prop := match st with
  | v :: r => is1 v ∧ K n L r h
  | _ => False
def tz_if (n t : Nat) (f : Int32 → Prop) (_ : Po) (X : Ct) (_ : Ct) (L : Lo) (st : List Value) (h : AH) : Prop := match st with
  | .int a :: r => (f a → X t L r h) ∧ (¬ f a → X n L r h)
  | _ => False
def tz_icmp (n t : Nat) (f : Int32 → Int32 → Prop) (_ : Po) (X : Ct) (_ : Ct) (L : Lo) (st : List Value) (h : AH) : Prop := match st with
  | .int b :: .int a :: r => (f a b → X t L r h) ∧ (¬ f a b → X n L r h)
  | _ => False
/-- to 'a' if null, else to 'b' -/
def tz_null (a b : Nat) (_ : Po) (_ : Ct) (K : Ct) (L : Lo) (st : List Value) (h : AH) : Prop := match st with
  | .null :: r => K a L r h
  | .ref _ :: r => K b L r h
  | _ => False
def tz_goto (t : Nat) (_ : Po) (_ : Ct) (K : Ct) (L : Lo) (st : List Value) (h : AH) : Prop := K t L st h
def swc (K : Nat → Prop) (x : Int32) : List (Int32 × Nat) → Nat → Prop
  | [], d => K d
  | (v, t) :: r, d => (x = v → K t) ∧ (¬ x = v → swc K x r d)
def tz_sw (cs : List (Int32 × Nat)) (d : Nat) (_ : Po) (X : Ct) (_ : Ct) (L : Lo) (st : List Value) (h : AH) : Prop := match st with
  | .int x :: r => swc (fun t => X t L r h) x cs d
  | _ => False
def tz_getf (n tag k kd : Nat) (_ : Po) (_ : Ct) (K : Ct) (L : Lo) (st : List Value) (h : AH) : Prop := match st with
  | .ref a :: r => tg h a = tag ∧ K n L (vl kd h a k :: r) h
  | _ => False
def tz_puti (n tag k : Nat) (_ : Po) (_ : Ct) (K : Ct) (L : Lo) (st : List Value) (h : AH) : Prop := match st with
  | .int x :: .ref a :: r => tg h a = tag ∧ K n L r (sI h a k x)
  | _ => False
def tz_putz (n tag k : Nat) (_ : Po) (_ : Ct) (K : Ct) (L : Lo) (st : List Value) (h : AH) : Prop := match st with
  | .int x :: .ref a :: r => tg h a = tag ∧ (x = 0 ∨ x = 1) ∧ K n L r (sI h a k x)
  | _ => False
def tz_putr (n tag k : Nat) (_ : Po) (_ : Ct) (K : Ct) (L : Lo) (st : List Value) (h : AH) : Prop := match st with
  | .ref b :: .ref a :: r => tg h a = tag ∧ K n L r (sR h a k (some b))
  | .null :: .ref a :: r => tg h a = tag ∧ K n L r (sR h a k none)
  | _ => False
def tz_putl (n tag k : Nat) (_ : Po) (_ : Ct) (K : Ct) (L : Lo) (st : List Value) (h : AH) : Prop := match st with
  | .long x :: .ref a :: r => tg h a = tag ∧ K n L r (sL h a k x)
  | _ => False
def tz_iaload (n : Nat) (_ : Po) (_ : Ct) (K : Ct) (L : Lo) (st : List Value) (h : AH) : Prop := match st with
  | .int i :: .ref a :: r => (tg h a = 8 ∨ tg h a = 13) ∧ vp_in i (ln h a) ∧ K n L (.int (hI h a i.toNatClampNeg) :: r) h
  | _ => False
def tz_baload (n : Nat) (_ : Po) (_ : Ct) (K : Ct) (L : Lo) (st : List Value) (h : AH) : Prop := match st with
  | .int i :: .ref a :: r => tg h a = 9 ∧ vp_in i (ln h a) ∧ K n L (.int (hI h a i.toNatClampNeg) :: r) h
  | _ => False
def tz_laload (n : Nat) (_ : Po) (_ : Ct) (K : Ct) (L : Lo) (st : List Value) (h : AH) : Prop := match st with
  | .int i :: .ref a :: r => tg h a = 12 ∧ vp_in i (ln h a) ∧ K n L (.long (hL h a i.toNatClampNeg) :: r) h
  | _ => False
def tz_aaload (n : Nat) (_ : Po) (_ : Ct) (K : Ct) (L : Lo) (st : List Value) (h : AH) : Prop := match st with
  | .int i :: .ref a :: r => (tg h a = 10 ∨ tg h a = 11) ∧ vp_in i (ln h a) ∧ K n L (va_rf (hR h a i.toNatClampNeg) :: r) h
  | _ => False
def tz_iastore (n : Nat) (_ : Po) (_ : Ct) (K : Ct) (L : Lo) (st : List Value) (h : AH) : Prop := match st with
  | .int x :: .int i :: .ref a :: r => tg h a = 8 ∧ vp_in i (ln h a) ∧ K n L r (sI h a i.toNatClampNeg x)
  | _ => False
def tz_bastore (n : Nat) (_ : Po) (_ : Ct) (K : Ct) (L : Lo) (st : List Value) (h : AH) : Prop := match st with
  | .int x :: .int i :: .ref a :: r => tg h a = 9 ∧ (x = 0 ∨ x = 1) ∧ vp_in i (ln h a) ∧ K n L r (sI h a i.toNatClampNeg x)
  | _ => False
def tz_lastore (n : Nat) (_ : Po) (_ : Ct) (K : Ct) (L : Lo) (st : List Value) (h : AH) : Prop := match st with
  | .long x :: .int i :: .ref a :: r => tg h a = 12 ∧ vp_in i (ln h a) ∧ K n L r (sL h a i.toNatClampNeg x)
  | _ => False
/-- what an array of references of this kind holds -/
def ecl (t : Nat) : Nat := if t = 10 then 0 else 3
def tz_aastore (n : Nat) (_ : Po) (_ : Ct) (K : Ct) (L : Lo) (st : List Value) (h : AH) : Prop := match st with
  | .ref b :: .int i :: .ref a :: r => (tg h a = 10 ∨ tg h a = 11) ∧ tg h b = ecl (tg h a) ∧ vp_in i (ln h a) ∧ K n L r (sR h a i.toNatClampNeg (some b))
  | .null :: .int i :: .ref a :: r => (tg h a = 10 ∨ tg h a = 11) ∧ vp_in i (ln h a) ∧ K n L r (sR h a i.toNatClampNeg none)
  | _ => False
def tz_alen (n : Nat) (_ : Po) (_ : Ct) (K : Ct) (L : Lo) (st : List Value) (h : AH) : Prop := match st with
  | .ref a :: r => (8 ≤ tg h a ∧ tg h a ≤ 13) ∧ K n L (.int (nI (ln h a)) :: r) h
  | _ => False
/-- a new object: its label is free -/
def tz_new (n tag sz : Nat) (_ : Po) (_ : Ct) (K : Ct) (L : Lo) (st : List Value) (h : AH) : Prop := ∃ g : List Nat, K n L (.ref (hN h) :: st) (nw h tag sz g)
def tz_newa (n tag : Nat) (_ : Po) (_ : Ct) (K : Ct) (L : Lo) (st : List Value) (h : AH) : Prop := match st with
  | .int x :: r => ¬ x < 0 ∧ x.toNatClampNeg ≤ 60000 ∧ ∃ g : List Nat, K n L (.ref (hN h) :: r) (nw h tag x.toNatClampNeg g)
  | _ => False
def tz_oinit (n : Nat) (_ : Po) (_ : Ct) (K : Ct) (L : Lo) (st : List Value) (h : AH) : Prop := match st with
  | .ref _ :: r => r.length ≤ 4 ∧ K n L r h
  | _ => False
def tz_iret (Q : Po) (_ : Ct) (_ : Ct) (_ : Lo) (st : List Value) (h : AH) : Prop := match st with
  | [.int x] => Q (.inl (some (.int x))) h
  | _ => False
def tz_zret (Q : Po) (_ : Ct) (_ : Ct) (_ : Lo) (st : List Value) (h : AH) : Prop := match st with
  | [.int x] => (x = 0 ∨ x = 1) ∧ Q (.inl (some (.int x))) h
  | _ => False
def tz_lret (Q : Po) (_ : Ct) (_ : Ct) (_ : Lo) (st : List Value) (h : AH) : Prop := match st with
  | [.long x] => Q (.inl (some (.long x))) h
  | _ => False
def tz_dret (Q : Po) (_ : Ct) (_ : Ct) (_ : Lo) (st : List Value) (h : AH) : Prop := match st with
  | [.double x] => Q (.inl (some (.double x))) h
  | _ => False
def tz_aret (Q : Po) (_ : Ct) (_ : Ct) (_ : Lo) (st : List Value) (h : AH) : Prop := match st with
  | [v] => isRf v ∧ Q (.inl (some v)) h
  | _ => False
def tz_vret (Q : Po) (_ : Ct) (_ : Ct) (_ : Lo) (st : List Value) (h : AH) : Prop := match st with
  | [] => Q (.inl none) h
  | _ => False
/-- 'throw new E(..)', not caught here -/
def tz_throw (E : String) (Q : Po) (_ : Ct) (_ : Ct) (_ : Lo) (st : List Value) (h : AH) : Prop := st.length ≤ 4 ∧ Q (.inr E) (nx h)
def popN : Nat → List Value → Option (List Value × List Value)
  | 0, st => some ([], st)
  | n + 1, v :: st => match popN n st with
    | some (as, r) => some (as ++ [v], r)
    | none => none
  | _ + 1, [] => none
