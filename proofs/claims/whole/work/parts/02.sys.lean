-- the classes: names, fields in the order of the slots, types (out of claim/NAMES.whole.lean.txt, printed by program)
def RX0 : String := "MagazineDepot$Arena"
def TX0 : u_T := fun k => match k with
  | 0 => ("MagazineDepot$Arena", "cacheOf", "[I", true)
  | 1 => ("MagazineDepot$Arena", "colours", "[I", true)
  | 2 => ("MagazineDepot$Arena", "sizes", "[I", true)
  | 3 => ("MagazineDepot$Arena", "pers", "[I", true)
  | 4 => ("MagazineDepot$Arena", "free", "[J", true)
  | 5 => ("MagazineDepot$Arena", "live", "[J", true)
  | 6 => ("MagazineDepot$Arena", "words", "[I", true)
  | _ => ("MagazineDepot$Arena", "starts", "[I", true)
def tyX0 : Nat → FieldType := fun k => match k with
  | 0 => .array .int
  | 1 => .array .int
  | 2 => .array .int
  | 3 => .array .int
  | 4 => .array .long
  | 5 => .array .long
  | 6 => .array .int
  | _ => .array .int
theorem nmX0 : ∀ a, a < 8 → ∀ b, b < 8 → a ≠ b → (TX0 a).2.1 ≠ (TX0 b).2.1 := by decide +kernel
theorem tyX0_ok : ∀ k, k < 8 → parseFieldDescriptor (TX0 k).2.2.1 = some (tyX0 k) := by decide +kernel
def RX1 : String := "MagazineDepot$Bins"
def TX1 : u_T := fun k => match k with
  | 0 => ("MagazineDepot$Bins", "places", "[[I", true)
  | _ => ("MagazineDepot$Bins", "sizes", "[I", true)
def tyX1 : Nat → FieldType := fun k => match k with
  | 0 => .array (.array .int)
  | _ => .array .int
theorem nmX1 : ∀ a, a < 2 → ∀ b, b < 2 → a ≠ b → (TX1 a).2.1 ≠ (TX1 b).2.1 := by decide +kernel
theorem tyX1_ok : ∀ k, k < 2 → parseFieldDescriptor (TX1 k).2.2.1 = some (tyX1 k) := by decide +kernel
def RX2 : String := "MagazineDepot$Cache"
def TX2 : u_T := fun k => match k with
  | 0 => ("MagazineDepot$Cache", "kind", "I", false)
  | 1 => ("MagazineDepot$Cache", "size", "I", false)
  | 2 => ("MagazineDepot$Cache", "step", "I", false)
  | 3 => ("MagazineDepot$Cache", "per", "I", false)
  | 4 => ("MagazineDepot$Cache", "rounds", "I", false)
  | 5 => ("MagazineDepot$Cache", "limit", "I", false)
  | 6 => ("MagazineDepot$Cache", "visits", "I", false)
  | 7 => ("MagazineDepot$Cache", "quiet", "I", false)
  | 8 => ("MagazineDepot$Cache", "leastFull", "I", false)
  | 9 => ("MagazineDepot$Cache", "leastEmpty", "I", false)
  | 10 => ("MagazineDepot$Cache", "nextColour", "I", false)
  | 11 => ("MagazineDepot$Cache", "made", "I", false)
  | 12 => ("MagazineDepot$Cache", "ended", "I", false)
  | 13 => ("MagazineDepot$Cache", "tally", "J", false)
  | 14 => ("MagazineDepot$Cache", "loaded", "[I", true)
  | 15 => ("MagazineDepot$Cache", "previous", "[I", true)
  | 16 => ("MagazineDepot$Cache", "full", "LMagazineDepot$Pile;", true)
  | _ => ("MagazineDepot$Cache", "empty", "LMagazineDepot$Pile;", true)
def tyX2 : Nat → FieldType := fun k => match k with
  | 0 => .int
  | 1 => .int
  | 2 => .int
  | 3 => .int
  | 4 => .int
  | 5 => .int
  | 6 => .int
  | 7 => .int
  | 8 => .int
  | 9 => .int
  | 10 => .int
  | 11 => .int
  | 12 => .int
  | 13 => .long
  | 14 => .array .int
  | 15 => .array .int
  | 16 => .object "MagazineDepot$Pile"
  | _ => .object "MagazineDepot$Pile"
theorem nmX2 : ∀ a, a < 18 → ∀ b, b < 18 → a ≠ b → (TX2 a).2.1 ≠ (TX2 b).2.1 := by decide +kernel
theorem tyX2_ok : ∀ k, k < 18 → parseFieldDescriptor (TX2 k).2.2.1 = some (tyX2 k) := by decide +kernel
def RX3 : String := "MagazineDepot$Depot"
def TX3 : u_T := fun k => match k with
  | 0 => ("MagazineDepot$Depot", "arena", "LMagazineDepot$Arena;", true)
  | 1 => ("MagazineDepot$Depot", "caches", "[LMagazineDepot$Cache;", true)
  | 2 => ("MagazineDepot$Depot", "magazines", "[LMagazineDepot$Pile;", true)
  | 3 => ("MagazineDepot$Depot", "isMade", "[Z", true)
  | 4 => ("MagazineDepot$Depot", "cacheCount", "I", false)
  | 5 => ("MagazineDepot$Depot", "made", "I", false)
  | 6 => ("MagazineDepot$Depot", "intervals", "I", false)
  | _ => ("MagazineDepot$Depot", "visits", "I", false)
def tyX3 : Nat → FieldType := fun k => match k with
  | 0 => .object "MagazineDepot$Arena"
  | 1 => .array (.object "MagazineDepot$Cache")
  | 2 => .array (.object "MagazineDepot$Pile")
  | 3 => .array .boolean
  | 4 => .int
  | 5 => .int
  | 6 => .int
  | _ => .int
theorem nmX3 : ∀ a, a < 8 → ∀ b, b < 8 → a ≠ b → (TX3 a).2.1 ≠ (TX3 b).2.1 := by decide +kernel
theorem tyX3_ok : ∀ k, k < 8 → parseFieldDescriptor (TX3 k).2.2.1 = some (tyX3 k) := by decide +kernel
def RX5 : String := "MagazineDepot$Pile"
def TX5 : u_T := fun k => match k with
  | 0 => ("MagazineDepot$Pile", "rows", "[I", true)
  | _ => ("MagazineDepot$Pile", "size", "I", false)
def tyX5 : Nat → FieldType := fun k => match k with
  | 0 => .array .int
  | _ => .int
theorem nmX5 : ∀ a, a < 2 → ∀ b, b < 2 → a ≠ b → (TX5 a).2.1 ≠ (TX5 b).2.1 := by decide +kernel
theorem tyX5_ok : ∀ k, k < 2 → parseFieldDescriptor (TX5 k).2.2.1 = some (tyX5 k) := by decide +kernel
def RX6 : String := "MagazineDepot$Run"
def TX6 : u_T := fun k => match k with
  | 0 => ("MagazineDepot$Run", "steps", "I", false)
  | 1 => ("MagazineDepot$Run", "why", "I", false)
  | 2 => ("MagazineDepot$Run", "passesLeft", "[I", true)
  | 3 => ("MagazineDepot$Run", "trace", "LMagazineDepot$Trace;", false)
  | 4 => ("MagazineDepot$Run", "depot", "LMagazineDepot$Depot;", false)
  | _ => ("MagazineDepot$Run", "named", "[I", false)
def tyX6 : Nat → FieldType := fun k => match k with
  | 0 => .int
  | 1 => .int
  | 2 => .array .int
  | 3 => .object "MagazineDepot$Trace"
  | 4 => .object "MagazineDepot$Depot"
  | _ => .array .int
theorem nmX6 : ∀ a, a < 6 → ∀ b, b < 6 → a ≠ b → (TX6 a).2.1 ≠ (TX6 b).2.1 := by decide +kernel
theorem tyX6_ok : ∀ k, k < 6 → parseFieldDescriptor (TX6 k).2.2.1 = some (tyX6 k) := by decide +kernel
def RX7 : String := "MagazineDepot$Trace"
def TX7 : u_T := fun k => match k with
  | 0 => ("MagazineDepot$Trace", "acts", "[I", true)
  | 1 => ("MagazineDepot$Trace", "variables", "[I", true)
  | 2 => ("MagazineDepot$Trace", "caches", "[I", true)
  | 3 => ("MagazineDepot$Trace", "processors", "[I", true)
  | 4 => ("MagazineDepot$Trace", "numbers", "[I", true)
  | 5 => ("MagazineDepot$Trace", "partners", "[I", true)
  | 6 => ("MagazineDepot$Trace", "size", "I", false)
  | 7 => ("MagazineDepot$Trace", "open", "LMagazineDepot$Pile;", true)
  | 8 => ("MagazineDepot$Trace", "letters", "[I", false)
  | 9 => ("MagazineDepot$Trace", "length", "I", false)
  | _ => ("MagazineDepot$Trace", "next", "I", false)
def tyX7 : Nat → FieldType := fun k => match k with
  | 0 => .array .int
  | 1 => .array .int
  | 2 => .array .int
  | 3 => .array .int
  | 4 => .array .int
  | 5 => .array .int
  | 6 => .int
  | 7 => .object "MagazineDepot$Pile"
  | 8 => .array .int
  | 9 => .int
  | _ => .int
theorem nmX7 : ∀ a, a < 11 → ∀ b, b < 11 → a ≠ b → (TX7 a).2.1 ≠ (TX7 b).2.1 := by decide +kernel
theorem tyX7_ok : ∀ k, k < 11 → parseFieldDescriptor (TX7 k).2.2.1 = some (tyX7 k) := by decide +kernel
def RX8 : String := "MagazineDepot"
def TX8 : u_T := fun k => match k with
  | 0 => ("MagazineDepot", "depot", "LMagazineDepot$Depot;", true)
  | 1 => ("MagazineDepot", "thought", "LMagazineDepot$Depot;", true)
  | 2 => ("MagazineDepot", "kept", "LMagazineDepot$Depot;", true)
  | 3 => ("MagazineDepot", "hasImage", "Z", false)
  | 4 => ("MagazineDepot", "taken", "LMagazineDepot$Pile;", true)
  | 5 => ("MagazineDepot", "tape", "[I", true)
  | 6 => ("MagazineDepot", "onTape", "I", false)
  | 7 => ("MagazineDepot", "trace", "LMagazineDepot$Trace;", false)
  | 8 => ("MagazineDepot", "spare", "LMagazineDepot$Trace;", false)
  | 9 => ("MagazineDepot", "hasTrace", "Z", false)
  | 10 => ("MagazineDepot", "runner", "LMagazineDepot$Run;", true)
  | 11 => ("MagazineDepot", "named", "[I", true)
  | 12 => ("MagazineDepot", "namedInThought", "[I", true)
  | 13 => ("MagazineDepot", "whyStopped", "I", false)
  | _ => ("MagazineDepot", "bins", "LMagazineDepot$Bins;", true)
def tyX8 : Nat → FieldType := fun k => match k with
  | 0 => .object "MagazineDepot$Depot"
  | 1 => .object "MagazineDepot$Depot"
  | 2 => .object "MagazineDepot$Depot"
  | 3 => .boolean
  | 4 => .object "MagazineDepot$Pile"
  | 5 => .array .int
  | 6 => .int
  | 7 => .object "MagazineDepot$Trace"
  | 8 => .object "MagazineDepot$Trace"
  | 9 => .boolean
  | 10 => .object "MagazineDepot$Run"
  | 11 => .array .int
  | 12 => .array .int
  | 13 => .int
  | _ => .object "MagazineDepot$Bins"
theorem nmX8 : ∀ a, a < 15 → ∀ b, b < 15 → a ≠ b → (TX8 a).2.1 ≠ (TX8 b).2.1 := by decide +kernel
theorem tyX8_ok : ∀ k, k < 15 → parseFieldDescriptor (TX8 k).2.2.1 = some (tyX8 k) := by decide +kernel
def RX9 : String := "MagazineDepotModel"
def TX9 : u_T := fun k => match k with
  | 0 => ("MagazineDepotModel", "kind", "[I", true)
  | 1 => ("MagazineDepotModel", "size", "[I", true)
  | 2 => ("MagazineDepotModel", "step", "[I", true)
  | 3 => ("MagazineDepotModel", "rounds", "[I", true)
  | 4 => ("MagazineDepotModel", "limit", "[I", true)
  | 5 => ("MagazineDepotModel", "visits", "[I", true)
  | 6 => ("MagazineDepotModel", "quiet", "[I", true)
  | 7 => ("MagazineDepotModel", "leastFull", "[I", true)
  | 8 => ("MagazineDepotModel", "leastEmpty", "[I", true)
  | 9 => ("MagazineDepotModel", "colour", "[I", true)
  | 10 => ("MagazineDepotModel", "born", "[I", true)
  | 11 => ("MagazineDepotModel", "ended", "[I", true)
  | 12 => ("MagazineDepotModel", "tally", "[J", true)
  | 13 => ("MagazineDepotModel", "caches", "I", false)
  | 14 => ("MagazineDepotModel", "intervals", "I", false)
  | 15 => ("MagazineDepotModel", "allVisits", "I", false)
  | 16 => ("MagazineDepotModel", "pageOf", "[I", true)
  | 17 => ("MagazineDepotModel", "colourOf", "[I", true)
  | 18 => ("MagazineDepotModel", "state", "[I", true)
  | 19 => ("MagazineDepotModel", "word", "[I", true)
  | 20 => ("MagazineDepotModel", "loaded", "[I", true)
  | 21 => ("MagazineDepotModel", "previous", "[I", true)
  | 22 => ("MagazineDepotModel", "isMade", "[I", true)
  | 23 => ("MagazineDepotModel", "holds", "[I", true)
  | 24 => ("MagazineDepotModel", "held", "[I", true)
  | 25 => ("MagazineDepotModel", "full", "[I", true)
  | 26 => ("MagazineDepotModel", "fullMany", "[I", true)
  | 27 => ("MagazineDepotModel", "empty", "[I", true)
  | 28 => ("MagazineDepotModel", "emptyMany", "[I", true)
  | 29 => ("MagazineDepotModel", "named", "[I", true)
  | 30 => ("MagazineDepotModel", "kept", "[I", true)
  | 31 => ("MagazineDepotModel", "keptTally", "[J", true)
  | 32 => ("MagazineDepotModel", "hasImage", "Z", false)
  | 33 => ("MagazineDepotModel", "isKeeping", "Z", false)
  | 34 => ("MagazineDepotModel", "cursor", "I", false)
  | 35 => ("MagazineDepotModel", "taken", "[I", true)
  | 36 => ("MagazineDepotModel", "drawnTaken", "I", false)
  | 37 => ("MagazineDepotModel", "drawnFull", "I", false)
  | 38 => ("MagazineDepotModel", "tape", "[I", true)
  | 39 => ("MagazineDepotModel", "trace", "[I", true)
  | 40 => ("MagazineDepotModel", "openAt", "[I", true)
  | 41 => ("MagazineDepotModel", "openLeft", "[I", true)
  | 42 => ("MagazineDepotModel", "taped", "I", false)
  | 43 => ("MagazineDepotModel", "traced", "I", false)
  | 44 => ("MagazineDepotModel", "at", "I", false)
  | 45 => ("MagazineDepotModel", "open", "I", false)
  | 46 => ("MagazineDepotModel", "hasTrace", "Z", false)
  | 47 => ("MagazineDepotModel", "steps", "I", false)
  | 48 => ("MagazineDepotModel", "why", "I", false)
  | 49 => ("MagazineDepotModel", "lastWhy", "I", false)
  | 50 => ("MagazineDepotModel", "thoughtVisits", "I", false)
  | 51 => ("MagazineDepotModel", "thoughtLive", "I", false)
  | 52 => ("MagazineDepotModel", "binOf", "[I", true)
  | 53 => ("MagazineDepotModel", "binMany", "[I", true)
  | _ => ("MagazineDepotModel", "shifted", "[I", true)
def tyX9 : Nat → FieldType := fun k => match k with
  | 0 => .array .int
  | 1 => .array .int
  | 2 => .array .int
  | 3 => .array .int
  | 4 => .array .int
  | 5 => .array .int
  | 6 => .array .int
  | 7 => .array .int
  | 8 => .array .int
  | 9 => .array .int
  | 10 => .array .int
  | 11 => .array .int
  | 12 => .array .long
  | 13 => .int
  | 14 => .int
  | 15 => .int
  | 16 => .array .int
  | 17 => .array .int
  | 18 => .array .int
  | 19 => .array .int
  | 20 => .array .int
  | 21 => .array .int
  | 22 => .array .int
  | 23 => .array .int
  | 24 => .array .int
  | 25 => .array .int
  | 26 => .array .int
  | 27 => .array .int
  | 28 => .array .int
  | 29 => .array .int
  | 30 => .array .int
  | 31 => .array .long
  | 32 => .boolean
  | 33 => .boolean
  | 34 => .int
  | 35 => .array .int
  | 36 => .int
  | 37 => .int
  | 38 => .array .int
  | 39 => .array .int
  | 40 => .array .int
  | 41 => .array .int
  | 42 => .int
  | 43 => .int
  | 44 => .int
  | 45 => .int
  | 46 => .boolean
  | 47 => .int
  | 48 => .int
  | 49 => .int
  | 50 => .int
  | 51 => .int
  | 52 => .array .int
  | 53 => .array .int
  | _ => .array .int
theorem nmX9 : ∀ a, a < 55 → ∀ b, b < 55 → a ≠ b → (TX9 a).2.1 ≠ (TX9 b).2.1 := by decide +kernel
theorem tyX9_ok : ∀ k, k < 55 → parseFieldDescriptor (TX9 k).2.2.1 = some (tyX9 k) := by decide +kernel
abbrev xcl : List vw_C := [(RX0, TX0, 8), (RX1, TX1, 2), (RX2, TX2, 18), (RX3, TX3, 8), (RX5, TX5, 2), (RX6, TX6, 6), (RX7, TX7, 11), (RX8, TX8, 15), (RX9, TX9, 55)]
def xty : Nat → Nat → FieldType := fun c => match c with
  | 0 => tyX0
  | 1 => tyX1
  | 2 => tyX2
  | 3 => tyX3
  | 4 => tyX5
  | 5 => tyX6
  | 6 => tyX7
  | 7 => tyX8
  | _ => tyX9
/-- what a field holds: 0 int, 1 long, 2 a reference, 3 boolean -/
def xftL : List (List Nat) := [[2, 2, 2, 2, 2, 2, 2, 2], [2, 2], [0, 0, 0, 0, 0, 0, 0, 0, 0, 0, 0, 0, 0, 1, 2, 2, 2, 2], [2, 2, 2, 2, 0, 0, 0, 0], [2, 0], [0, 0, 2, 2, 2, 2], [2, 2, 2, 2, 2, 2, 0, 2, 2, 0, 0], [2, 2, 2, 3, 2, 2, 0, 2, 2, 3, 2, 2, 2, 0, 2], [2, 2, 2, 2, 2, 2, 2, 2, 2, 2, 2, 2, 2, 0, 0, 0, 2, 2, 2, 2, 2, 2, 2, 2, 2, 2, 2, 2, 2, 2, 2, 2, 3, 3, 0, 2, 0, 0, 2, 2, 2, 2, 0, 0, 0, 0, 3, 0, 0, 0, 0, 0, 2, 2, 2]]
def xft (c k : Nat) : Nat := (xftL.getD c []).getD k 0
/-! memory of the walked system: cells told by (kind, block, number); ints, longs, references apart; how many cells and slots were made -/
abbrev xId : Type := Nat × Nat × Nat
abbrev xVal : Type := Int32 ⊕ Int64 ⊕ Option xId
abbrev xMem : Type := (xId → Nat → Int32) × (xId → Nat → Int64) × (xId → Nat → Option xId) × Nat × Nat
/-- of a kind: what it is (0 .. 8 a class of xcl; 20 int[], 21 long[], 22 boolean[], 23 Cache[], 24 Pile[], 25 int[][]), how long, how many blocks, how many in a block -/
def xkT (k : Nat) : Nat × Nat × Nat × Nat := match k with
  | 0 => (7, 15, 1, 1)
  | 1 => (3, 8, 3, 1)
  | 2 => (0, 8, 3, 1)
  | 3 => (20, 32, 3, 1)
  | 4 => (20, 32, 3, 1)
  | 5 => (20, 32, 3, 1)
  | 6 => (20, 32, 3, 1)
  | 7 => (21, 32, 3, 1)
  | 8 => (21, 32, 3, 1)
  | 9 => (20, 1984, 3, 1)
  | 10 => (20, 16, 3, 1)
  | 11 => (23, 4, 3, 1)
  | 12 => (24, 24, 3, 1)
  | 13 => (22, 24, 3, 1)
  | 14 => (2, 18, 3, 4)
  | 15 => (20, 4, 3, 4)
  | 16 => (20, 4, 3, 4)
  | 17 => (4, 2, 3, 4)
  | 18 => (20, 24, 3, 4)
  | 19 => (4, 2, 3, 4)
  | 20 => (20, 24, 3, 4)
  | 21 => (4, 2, 3, 24)
  | 22 => (20, 8, 3, 24)
  | 23 => (4, 2, 1, 1)
  | 24 => (20, 400, 1, 1)
  | 25 => (20, 100, 1, 1)
  | 26 => (6, 11, 1, 2)
  | 27 => (20, 100, 1, 2)
  | 28 => (20, 100, 1, 2)
  | 29 => (20, 100, 1, 2)
  | 30 => (20, 100, 1, 2)
  | 31 => (20, 100, 1, 2)
  | 32 => (20, 100, 1, 2)
  | 33 => (4, 2, 1, 2)
  | 34 => (20, 5, 1, 2)
  | 35 => (20, 0, 1, 2)
  | 36 => (5, 6, 1, 1)
  | 37 => (20, 100, 1, 1)
  | 38 => (20, 26, 1, 1)
  | 39 => (20, 26, 1, 1)
  | 40 => (1, 2, 1, 1)
  | 41 => (25, 4, 1, 1)
  | 42 => (20, 40, 1, 4)
  | 43 => (20, 4, 1, 1)
  | 44 => (8, 55, 1, 1)
  | 45 => (20, 4, 1, 1)
  | 46 => (20, 4, 1, 1)
  | 47 => (20, 4, 1, 1)
  | 48 => (20, 4, 1, 1)
  | 49 => (20, 4, 1, 1)
  | 50 => (20, 4, 1, 1)
  | 51 => (20, 4, 1, 1)
  | 52 => (20, 4, 1, 1)
  | 53 => (20, 4, 1, 1)
  | 54 => (20, 4, 1, 1)
  | 55 => (20, 4, 1, 1)
  | 56 => (20, 4, 1, 1)
  | 57 => (21, 4, 1, 1)
  | 58 => (20, 32, 1, 1)
  | 59 => (20, 32, 1, 1)
  | 60 => (20, 1984, 1, 1)
  | 61 => (20, 1984, 1, 1)
  | 62 => (20, 16, 1, 1)
  | 63 => (20, 16, 1, 1)
  | 64 => (20, 24, 1, 1)
  | 65 => (20, 24, 1, 1)
  | 66 => (20, 192, 1, 1)
  | 67 => (20, 96, 1, 1)
  | 68 => (20, 4, 1, 1)
  | 69 => (20, 96, 1, 1)
  | 70 => (20, 4, 1, 1)
  | 71 => (20, 26, 1, 1)
  | 72 => (20, 9200, 1, 1)
  | 73 => (21, 8, 1, 1)
  | 74 => (20, 400, 1, 1)
  | 75 => (20, 100, 1, 1)
  | 76 => (20, 100, 1, 1)
  | 77 => (20, 5, 1, 1)
  | 78 => (20, 5, 1, 1)
  | 79 => (20, 160, 1, 1)
  | 80 => (20, 4, 1, 1)
  | 81 => (20, 40, 1, 1)
  | _ => (99, 0, 0, 0)
def xsh (a : xId) : Option (Nat × Nat) := if a.2.1 < (xkT a.1).2.2.1 ∧ a.2.2 < (xkT a.1).2.2.2 then some ((xkT a.1).1, (xkT a.1).2.1) else none
/-- the place of a cell in the order of making -/
def xnum (a : xId) : Nat :=
  if a.1 = 0 then 0 else if a.1 < 14 then a.1 + 89 * a.2.1 else if a.1 < 21 then a.1 + 89 * a.2.1 + 7 * a.2.2 else if a.1 < 23 then a.1 + 21 + 89 * a.2.1 + 2 * a.2.2
  else if a.1 < 26 then a.1 + 245 else if a.1 < 36 then a.1 + 245 + 10 * a.2.2 else if a.1 < 42 then a.1 + 255 else if a.1 = 42 then 297 + a.2.2 else a.1 + 258
def xid (c : Nat) : xId :=
  if c = 0 then (0, 0, 0) else if c < 268 then
    (if (c - 1) % 89 < 13 then (1 + (c - 1) % 89, (c - 1) / 89, 0) else if (c - 1) % 89 < 41 then (14 + ((c - 1) % 89 - 13) % 7, (c - 1) / 89, ((c - 1) % 89 - 13) / 7) else (21 + ((c - 1) % 89 - 41) % 2, (c - 1) / 89, ((c - 1) % 89 - 41) / 2))
  else if c < 271 then (c - 245, 0, 0) else if c < 291 then (26 + (c - 271) % 10, 0, (c - 271) / 10) else if c < 297 then (c - 255, 0, 0) else if c < 301 then (42, 0, c - 297) else (c - 258, 0, 0)
/-- how many cells there are when all is made -/
def xT : Nat := 340
theorem xid_ok : ∀ k, k < 82 → ∀ b, b < (xkT k).2.2.1 → ∀ i, i < (xkT k).2.2.2 → xid (xnum (k, b, i)) = (k, b, i) ∧ xnum (k, b, i) < xT := by decide +kernel
theorem xnum_ok : ∀ c, c < xT → xnum (xid c) = c ∧ (xsh (xid c)).isSome = true := by decide +kernel
theorem xsh_lt {a : xId} {q : Nat × Nat} (h : xsh a = some q) : xid (xnum a) = a ∧ xnum a < xT := by
  obtain ⟨k, b, i⟩ := a
  unfold xsh at h
  split at h
  next hc =>
    by_cases hk : k < 82
    · exact xid_ok k hk b hc.1 i hc.2
    · exfalso
      have : (xkT k).2.2.1 = 0 := by
        unfold xkT
        split <;> first | rfl | omega
      have h1 := hc.1
      rw [this] at h1
      exact absurd h1 (Nat.not_lt_zero _)
  next => cases h
