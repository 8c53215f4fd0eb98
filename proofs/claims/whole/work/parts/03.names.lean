def RX0 : String := "HolePuncher$Mapping"
def TX0 : u_T := fun k => match k with
  | 0 => ("HolePuncher$Mapping", "inner", "I", false)
  | 1 => ("HolePuncher$Mapping", "outerPort", "I", false)
  | 2 => ("HolePuncher$Mapping", "key", "I", false)
  | 3 => ("HolePuncher$Mapping", "lastUse", "I", false)
  | 4 => ("HolePuncher$Mapping", "contacts", "[I", true)
  | _ => ("HolePuncher$Mapping", "contactCount", "I", false)
def tyX0 : Nat → FieldType := fun k => match k with
  | 0 => .int
  | 1 => .int
  | 2 => .int
  | 3 => .int
  | 4 => .array .int
  | _ => .int
def RX1 : String := "HolePuncher$Network"
def TX1 : u_T := fun k => match k with
  | 0 => ("HolePuncher$Network", "nodes", "[LHolePuncher$Node;", true)
  | 1 => ("HolePuncher$Network", "lost", "[I", true)
  | 2 => ("HolePuncher$Network", "nodeCount", "I", false)
  | 3 => ("HolePuncher$Network", "tick", "I", false)
  | 4 => ("HolePuncher$Network", "sent", "I", false)
  | _ => ("HolePuncher$Network", "delivered", "I", false)
def tyX1 : Nat → FieldType := fun k => match k with
  | 0 => .array (.object "HolePuncher$Node")
  | 1 => .array .int
  | 2 => .int
  | 3 => .int
  | 4 => .int
  | _ => .int
def RX2 : String := "HolePuncher$NetworkReader"
def TX2 : u_T := fun k => match k with
  | 0 => ("HolePuncher$NetworkReader", "made", "LHolePuncher$Network;", true)
  | 1 => ("HolePuncher$NetworkReader", "digits", "[I", true)
  | 2 => ("HolePuncher$NetworkReader", "expected", "I", false)
  | 3 => ("HolePuncher$NetworkReader", "digitCount", "I", false)
  | _ => ("HolePuncher$NetworkReader", "net", "I", false)
def tyX2 : Nat → FieldType := fun k => match k with
  | 0 => .object "HolePuncher$Network"
  | 1 => .array .int
  | 2 => .int
  | 3 => .int
  | _ => .int
def RX3 : String := "HolePuncher$Node"
def TX3 : u_T := fun k => match k with
  | 0 => ("HolePuncher$Node", "isHost", "Z", false)
  | 1 => ("HolePuncher$Node", "net", "I", false)
  | 2 => ("HolePuncher$Node", "deliverySource", "I", false)
  | 3 => ("HolePuncher$Node", "deliveryPort", "I", false)
  | _ => ("HolePuncher$Node", "translation", "LHolePuncher$Translator;", false)
def tyX3 : Nat → FieldType := fun k => match k with
  | 0 => .boolean
  | 1 => .int
  | 2 => .int
  | 3 => .int
  | _ => .object "HolePuncher$Translator"
def RX4 : String := "HolePuncher$Peer"
def TX4 : u_T := fun k => match k with
  | 0 => ("HolePuncher$Peer", "number", "I", true)
  | 1 => ("HolePuncher$Peer", "home", "I", true)
  | 2 => ("HolePuncher$Peer", "seen", "I", false)
  | 3 => ("HolePuncher$Peer", "target", "I", false)
  | _ => ("HolePuncher$Peer", "hasHeard", "Z", false)
def tyX4 : Nat → FieldType := fun k => match k with
  | 0 => .int
  | 1 => .int
  | 2 => .int
  | 3 => .int
  | _ => .boolean
def RX5 : String := "HolePuncher$Translator"
def TX5 : u_T := fun k => match k with
  | 0 => ("HolePuncher$Translator", "mappingRule", "I", false)
  | 1 => ("HolePuncher$Translator", "filterRule", "I", false)
  | 2 => ("HolePuncher$Translator", "assignment", "I", false)
  | 3 => ("HolePuncher$Translator", "step", "I", false)
  | 4 => ("HolePuncher$Translator", "lifetime", "I", false)
  | 5 => ("HolePuncher$Translator", "allowsHairpins", "Z", false)
  | 6 => ("HolePuncher$Translator", "refreshesInwards", "Z", false)
  | 7 => ("HolePuncher$Translator", "counter", "I", false)
  | 8 => ("HolePuncher$Translator", "random", "J", false)
  | 9 => ("HolePuncher$Translator", "mappings", "[LHolePuncher$Mapping;", true)
  | _ => ("HolePuncher$Translator", "size", "I", false)
def tyX5 : Nat → FieldType := fun k => match k with
  | 0 => .int
  | 1 => .int
  | 2 => .int
  | 3 => .int
  | 4 => .int
  | 5 => .boolean
  | 6 => .boolean
  | 7 => .int
  | 8 => .long
  | 9 => .array (.object "HolePuncher$Mapping")
  | _ => .int
def RX6 : String := "HolePuncher"
def TX6 : u_T := fun k => match k with
  | 0 => ("HolePuncher", "network", "LHolePuncher$Network;", true)
  | 1 => ("HolePuncher", "saved", "LHolePuncher$Network;", true)
  | 2 => ("HolePuncher", "trial", "LHolePuncher$Network;", true)
  | 3 => ("HolePuncher", "reader", "LHolePuncher$NetworkReader;", true)
  | 4 => ("HolePuncher", "buffer", "[I", true)
  | 5 => ("HolePuncher", "bufferLength", "I", false)
  | _ => ("HolePuncher", "isSaved", "Z", false)
def tyX6 : Nat → FieldType := fun k => match k with
  | 0 => .object "HolePuncher$Network"
  | 1 => .object "HolePuncher$Network"
  | 2 => .object "HolePuncher$Network"
  | 3 => .object "HolePuncher$NetworkReader"
  | 4 => .array .int
  | 5 => .int
  | _ => .boolean
def RX7 : String := "HolePuncherModel"
def TX7 : u_T := fun k => match k with
  | 0 => ("HolePuncherModel", "thrown", "I", false)
  | 1 => ("HolePuncherModel", "z", "[I", true)
  | 2 => ("HolePuncherModel", "saved", "[I", true)
  | 3 => ("HolePuncherModel", "isSaved", "Z", false)
  | 4 => ("HolePuncherModel", "aside", "[I", true)
  | 5 => ("HolePuncherModel", "length", "I", false)
  | 6 => ("HolePuncherModel", "text", "[I", true)
  | 7 => ("HolePuncherModel", "deep", "I", false)
  | 8 => ("HolePuncherModel", "begun", "I", false)
  | 9 => ("HolePuncherModel", "digits", "I", false)
  | 10 => ("HolePuncherModel", "srcNode", "I", false)
  | 11 => ("HolePuncherModel", "srcPort", "I", false)
  | 12 => ("HolePuncherModel", "targetNode", "[I", true)
  | 13 => ("HolePuncherModel", "targetPort", "[I", true)
  | 14 => ("HolePuncherModel", "heard", "[Z", true)
  | _ => ("HolePuncherModel", "h", "J", false)
def tyX7 : Nat → FieldType := fun k => match k with
  | 0 => .int
  | 1 => .array .int
  | 2 => .array .int
  | 3 => .boolean
  | 4 => .array .int
  | 5 => .int
  | 6 => .array .int
  | 7 => .int
  | 8 => .int
  | 9 => .int
  | 10 => .int
  | 11 => .int
  | 12 => .array .int
  | 13 => .array .int
  | 14 => .array .boolean
  | _ => .long
def RL : String := "HolePuncherLaw"
abbrev am_cl : List vw_C := [(RX0, TX0, 6), (RX1, TX1, 6), (RX2, TX2, 5), (RX3, TX3, 5), (RX4, TX4, 5), (RX5, TX5, 11), (RX6, TX6, 7), (RX7, TX7, 16)]
/-- the kind of a field: 0 int or boolean, 1 reference, 2 long -/
def ck (t k : Nat) : Nat := match t, k with
  | 0, 4 => 1
  | 1, 0 => 1
  | 1, 1 => 1
  | 2, 0 => 1
  | 2, 1 => 1
  | 3, 4 => 1
  | 5, 8 => 2
  | 5, 9 => 1
  | 6, 0 => 1
  | 6, 1 => 1
  | 6, 2 => 1
  | 6, 3 => 1
  | 6, 4 => 1
  | 7, 1 => 1
  | 7, 2 => 1
  | 7, 4 => 1
  | 7, 6 => 1
  | 7, 12 => 1
  | 7, 13 => 1
  | 7, 14 => 1
  | 7, 15 => 2
  | _, _ => 0
def cty (t : Nat) : Nat → FieldType := match t with
  | 0 => tyX0
  | 1 => tyX1
  | 2 => tyX2
  | 3 => tyX3
  | 4 => tyX4
  | 5 => tyX5
  | 6 => tyX6
  | 7 => tyX7
  | _ => fun _ => .int
/-- the words that go down to every method -/
def gtbl : List Cond := lw_tbl.filter goodWord
theorem gm (i : Nat) {w : Cond} (h : lw_tbl[i]? = some w) (hg : goodWord w = true) : w ∈ gtbl := List.mem_filter.mpr ⟨List.mem_of_getElem? h, hg⟩
