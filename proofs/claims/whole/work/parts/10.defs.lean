/-! THE ABSTRACT MACHINE. A heap: next address, slots used, (kind, length, label) of each address, its ints, references, longs. -/
abbrev AH : Type := Nat × Nat × (Nat → Nat × Nat × List Nat) × (Nat → Nat → Int32) × (Nat → Nat → Option Nat) × (Nat → Nat → Int64)
def hN (h : AH) : Nat := h.1
def hM (h : AH) : Nat := h.2.1
def hT (h : AH) : Nat → Nat × Nat × List Nat := h.2.2.1
def hI (h : AH) : Nat → Nat → Int32 := h.2.2.2.1
def hR (h : AH) : Nat → Nat → Option Nat := h.2.2.2.2.1
def hL (h : AH) : Nat → Nat → Int64 := h.2.2.2.2.2
def tg (h : AH) (a : Nat) : Nat := (hT h a).1
def ln (h : AH) (a : Nat) : Nat := (hT h a).2.1
def gh (h : AH) (a : Nat) : List Nat := (hT h a).2.2
def u2 {α : Type} (f : Nat → Nat → α) (a k : Nat) (x : α) : Nat → Nat → α := fun b j => if b = a ∧ j = k then x else f b j
def sI (h : AH) (a k : Nat) (x : Int32) : AH := (h.1, h.2.1, h.2.2.1, u2 h.2.2.2.1 a k x, h.2.2.2.2.1, h.2.2.2.2.2)
def sR (h : AH) (a k : Nat) (x : Option Nat) : AH := (h.1, h.2.1, h.2.2.1, h.2.2.2.1, u2 h.2.2.2.2.1 a k x, h.2.2.2.2.2)
def sL (h : AH) (a k : Nat) (x : Int64) : AH := (h.1, h.2.1, h.2.2.1, h.2.2.2.1, h.2.2.2.2.1, u2 h.2.2.2.2.2 a k x)
/-- a new cell of kind t, length n, label g -/
def nw (h : AH) (t n : Nat) (g : List Nat) : AH := (h.1 + 1, h.2.1 + n, fun b => if b = h.1 then (t, n, g) else h.2.2.1 b, fun b j => if b = h.1 then 0 else h.2.2.2.1 b j, fun b j => if b = h.1 then none else h.2.2.2.2.1 b j, fun b j => if b = h.1 then 0 else h.2.2.2.2.2 b j)
/-- behind a throw: one cell of six slots that nobody looks at -/
def nx (h : AH) : AH := (h.1 + 1, h.2.1 + 6, h.2.2)
abbrev Lo : Type := List (Option Value)
abbrev Ou : Type := Option Value ⊕ String
abbrev Po : Type := Ou → AH → Prop
abbrev Ct : Type := Nat → Lo → List Value → AH → Prop
def lg : Lo → Nat → Option Value
  | [], _ => none
  | a :: _, 0 => a
  | _ :: l, n + 1 => lg l n
def lset : Lo → Nat → Option Value → Lo
  | [], _, _ => []
  | _ :: l, 0, v => v :: l
  | a :: l, n + 1, v => a :: lset l n v
/-- a two-slot value just below slot i loses its second half -/
def lkill (L : Lo) (i : Nat) : Lo := match i with
  | 0 => L
  | j + 1 => match lg L j with
    | some (.long _) => lset L j none
    | some (.double _) => lset L j none
    | _ => L
def lst1 (L : Lo) (i : Nat) (v : Value) : Lo := lset (lkill L i) i (some v)
def lst2 (L : Lo) (i : Nat) (v : Value) : Lo := lset (lset (lkill L i) i (some v)) (i + 1) none
def isRf : Value → Prop
  | .ref _ => True
  | .null => True
  | _ => False
/-- what a slot of a cell holds, by the kind of its type: 0 int, 1 reference, 2 long -/
def vl (kd : Nat) (h : AH) (a k : Nat) : Value := match kd with
  | 0 => .int (hI h a k)
  | 1 => va_rf (hR h a k)
  | _ => .long (hL h a k)
