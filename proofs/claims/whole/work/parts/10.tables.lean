/-! the names of the classes, their fields, the default values of a new object (written by wip/gen/gen.py) -/
def RX0 : String := "LeaderlessOrder$Group"
def RX1 : String := "LeaderlessOrder$History"
def RX2 : String := "LeaderlessOrder$Law"
def RX3 : String := "LeaderlessOrder$Mark"
def RX4 : String := "LeaderlessOrder$Reader"
def RX5 : String := "LeaderlessOrder$Rules"
def RX6 : String := "LeaderlessOrder$Runs"
def RX7 : String := "LeaderlessOrder$State"
def RX8 : String := "LeaderlessOrder$Tape"
def RX9 : String := "LeaderlessOrder$Triples"
def RX11 : String := "LeaderlessOrder"
def RX12 : String := "LeaderlessOrderModel"
def RX10 : String := "LeaderlessOrder$Word"
def RL : String := "LeaderlessOrderLaw"
def RJ6 : String := "java/lang/Integer"
def RJ9 : String := "java/lang/Math"
def RJ7 : String := "java/util/Arrays"
def RJ0 : String := "java/lang/String"
def RJ1 : String := "java/lang/StringLatin1"
def TX0 : u_T := fun k => match k with
  | 0 => ("LeaderlessOrder$Group", "replicas", "I", false)
  | 1 => ("LeaderlessOrder$Group", "keys", "I", false)
  | 2 => ("LeaderlessOrder$Group", "commands", "I", false)
  | 3 => ("LeaderlessOrder$Group", "kind", "[I", true)
  | 4 => ("LeaderlessOrder$Group", "key", "[I", true)
  | 5 => ("LeaderlessOrder$Group", "value", "[I", true)
  | 6 => ("LeaderlessOrder$Group", "leader", "[I", true)
  | 7 => ("LeaderlessOrder$Group", "clashes", "[I", true)
  | _ => ("LeaderlessOrder$Group", "name", "[J", true)
def tyX0 : Nat → FieldType := fun k => match k with
  | 0 => .int
  | 1 => .int
  | 2 => .int
  | 3 => .array .int
  | 4 => .array .int
  | 5 => .array .int
  | 6 => .array .int
  | 7 => .array .int
  | _ => .array .long
theorem nmX0 : ∀ a, a < 9 → ∀ b, b < 9 → a ≠ b → (TX0 a).2.1 ≠ (TX0 b).2.1 := by decide +kernel
theorem tyX0_ok : ∀ k, k < 9 → parseFieldDescriptor (TX0 k).2.2.1 = some (tyX0 k) := by decide +kernel
def TX1 : u_T := fun k => match k with
  | 0 => ("LeaderlessOrder$History", "slots", "[LLeaderlessOrder$State;", true)
  | 1 => ("LeaderlessOrder$History", "next", "I", false)
  | _ => ("LeaderlessOrder$History", "many", "I", false)
def tyX1 : Nat → FieldType := fun k => match k with
  | 0 => .array (.object "LeaderlessOrder$State")
  | 1 => .int
  | _ => .int
theorem nmX1 : ∀ a, a < 3 → ∀ b, b < 3 → a ≠ b → (TX1 a).2.1 ≠ (TX1 b).2.1 := by decide +kernel
theorem tyX1_ok : ∀ k, k < 3 → parseFieldDescriptor (TX1 k).2.2.1 = some (tyX1 k) := by decide +kernel
def TX2 : u_T := fun k => match k with
  | 0 => ("LeaderlessOrder$Law", "codes", "[I", true)
  | 1 => ("LeaderlessOrder$Law", "size", "I", false)
  | 2 => ("LeaderlessOrder$Law", "stack", "[I", true)
  | _ => ("LeaderlessOrder$Law", "height", "I", false)
def tyX2 : Nat → FieldType := fun k => match k with
  | 0 => .array .int
  | 1 => .int
  | 2 => .array .int
  | _ => .int
theorem nmX2 : ∀ a, a < 4 → ∀ b, b < 4 → a ≠ b → (TX2 a).2.1 ≠ (TX2 b).2.1 := by decide +kernel
theorem tyX2_ok : ∀ k, k < 4 → parseFieldDescriptor (TX2 k).2.2.1 = some (tyX2 k) := by decide +kernel
def TX3 : u_T := fun k => match k with
  | 0 => ("LeaderlessOrder$Mark", "laid", "Z", false)
  | 1 => ("LeaderlessOrder$Mark", "state", "LLeaderlessOrder$State;", true)
  | 2 => ("LeaderlessOrder$Mark", "work", "LLeaderlessOrder$Triples;", true)
  | _ => ("LeaderlessOrder$Mark", "seen", "LLeaderlessOrder$Triples;", true)
def tyX3 : Nat → FieldType := fun k => match k with
  | 0 => .boolean
  | 1 => .object "LeaderlessOrder$State"
  | 2 => .object "LeaderlessOrder$Triples"
  | _ => .object "LeaderlessOrder$Triples"
theorem nmX3 : ∀ a, a < 4 → ∀ b, b < 4 → a ≠ b → (TX3 a).2.1 ≠ (TX3 b).2.1 := by decide +kernel
theorem tyX3_ok : ∀ k, k < 4 → parseFieldDescriptor (TX3 k).2.2.1 = some (tyX3 k) := by decide +kernel
def TX4 : u_T := fun k => match k with
  | 0 => ("LeaderlessOrder$Reader", "tape", "LLeaderlessOrder$Tape;", true)
  | 1 => ("LeaderlessOrder$Reader", "law", "LLeaderlessOrder$Law;", true)
  | 2 => ("LeaderlessOrder$Reader", "lawTold", "Z", false)
  | 3 => ("LeaderlessOrder$Reader", "at", "I", false)
  | 4 => ("LeaderlessOrder$Reader", "word", "LLeaderlessOrder$Word;", false)
  | _ => ("LeaderlessOrder$Reader", "fault", "I", false)
def tyX4 : Nat → FieldType := fun k => match k with
  | 0 => .object "LeaderlessOrder$Tape"
  | 1 => .object "LeaderlessOrder$Law"
  | 2 => .boolean
  | 3 => .int
  | 4 => .object "LeaderlessOrder$Word"
  | _ => .int
theorem nmX4 : ∀ a, a < 6 → ∀ b, b < 6 → a ≠ b → (TX4 a).2.1 ≠ (TX4 b).2.1 := by decide +kernel
theorem tyX4_ok : ∀ k, k < 6 → parseFieldDescriptor (TX4 k).2.2.1 = some (tyX4 k) := by decide +kernel
def TX5 : u_T := fun k => match k with
  | 0 => ("LeaderlessOrder$Rules", "group", "LLeaderlessOrder$Group;", true)
  | 1 => ("LeaderlessOrder$Rules", "runs", "LLeaderlessOrder$Runs;", true)
  | 2 => ("LeaderlessOrder$Rules", "foundSeq", "I", false)
  | _ => ("LeaderlessOrder$Rules", "foundDeps", "I", false)
def tyX5 : Nat → FieldType := fun k => match k with
  | 0 => .object "LeaderlessOrder$Group"
  | 1 => .object "LeaderlessOrder$Runs"
  | 2 => .int
  | _ => .int
theorem nmX5 : ∀ a, a < 4 → ∀ b, b < 4 → a ≠ b → (TX5 a).2.1 ≠ (TX5 b).2.1 := by decide +kernel
theorem tyX5_ok : ∀ k, k < 4 → parseFieldDescriptor (TX5 k).2.2.1 = some (tyX5 k) := by decide +kernel
def TX6 : u_T := fun k => match k with
  | 0 => ("LeaderlessOrder$Runs", "group", "LLeaderlessOrder$Group;", true)
  | 1 => ("LeaderlessOrder$Runs", "leans", "[I", true)
  | _ => ("LeaderlessOrder$Runs", "committed", "I", false)
def tyX6 : Nat → FieldType := fun k => match k with
  | 0 => .object "LeaderlessOrder$Group"
  | 1 => .array .int
  | _ => .int
theorem nmX6 : ∀ a, a < 3 → ∀ b, b < 3 → a ≠ b → (TX6 a).2.1 ≠ (TX6 b).2.1 := by decide +kernel
theorem tyX6_ok : ∀ k, k < 3 → parseFieldDescriptor (TX6 k).2.2.1 = some (tyX6 k) := by decide +kernel
def TX7 : u_T := fun k => match k with
  | 0 => ("LeaderlessOrder$State", "up", "I", false)
  | 1 => ("LeaderlessOrder$State", "cleaned", "I", false)
  | 2 => ("LeaderlessOrder$State", "status", "[I", true)
  | 3 => ("LeaderlessOrder$State", "ballot", "[I", true)
  | 4 => ("LeaderlessOrder$State", "seq", "[I", true)
  | 5 => ("LeaderlessOrder$State", "deps", "[I", true)
  | 6 => ("LeaderlessOrder$State", "got", "[I", true)
  | 7 => ("LeaderlessOrder$State", "order", "[I", true)
  | 8 => ("LeaderlessOrder$State", "ran", "[I", true)
  | 9 => ("LeaderlessOrder$State", "values", "[I", true)
  | 10 => ("LeaderlessOrder$State", "host", "[I", true)
  | 11 => ("LeaderlessOrder$State", "answers", "[I", true)
  | _ => ("LeaderlessOrder$State", "accepts", "[I", true)
def tyX7 : Nat → FieldType := fun k => match k with
  | 0 => .int
  | 1 => .int
  | 2 => .array .int
  | 3 => .array .int
  | 4 => .array .int
  | 5 => .array .int
  | 6 => .array .int
  | 7 => .array .int
  | 8 => .array .int
  | 9 => .array .int
  | 10 => .array .int
  | 11 => .array .int
  | _ => .array .int
theorem nmX7 : ∀ a, a < 13 → ∀ b, b < 13 → a ≠ b → (TX7 a).2.1 ≠ (TX7 b).2.1 := by decide +kernel
theorem tyX7_ok : ∀ k, k < 13 → parseFieldDescriptor (TX7 k).2.2.1 = some (tyX7 k) := by decide +kernel
def TX8 : u_T := fun k => match k with
  | 0 => ("LeaderlessOrder$Tape", "signs", "[C", true)
  | 1 => ("LeaderlessOrder$Tape", "length", "I", false)
  | 2 => ("LeaderlessOrder$Tape", "sort", "[I", true)
  | 3 => ("LeaderlessOrder$Tape", "place", "[I", true)
  | 4 => ("LeaderlessOrder$Tape", "number", "[I", true)
  | 5 => ("LeaderlessOrder$Tape", "spelt", "[J", true)
  | 6 => ("LeaderlessOrder$Tape", "word", "[LLeaderlessOrder$Word;", true)
  | _ => ("LeaderlessOrder$Tape", "tokens", "I", false)
def tyX8 : Nat → FieldType := fun k => match k with
  | 0 => .array .char
  | 1 => .int
  | 2 => .array .int
  | 3 => .array .int
  | 4 => .array .int
  | 5 => .array .long
  | 6 => .array (.object "LeaderlessOrder$Word")
  | _ => .int
theorem nmX8 : ∀ a, a < 8 → ∀ b, b < 8 → a ≠ b → (TX8 a).2.1 ≠ (TX8 b).2.1 := by decide +kernel
theorem tyX8_ok : ∀ k, k < 8 → parseFieldDescriptor (TX8 k).2.2.1 = some (tyX8 k) := by decide +kernel
def TX9 : u_T := fun k => match k with
  | 0 => ("LeaderlessOrder$Triples", "many", "I", false)
  | 1 => ("LeaderlessOrder$Triples", "first", "[I", true)
  | 2 => ("LeaderlessOrder$Triples", "second", "[I", true)
  | _ => ("LeaderlessOrder$Triples", "third", "[I", true)
def tyX9 : Nat → FieldType := fun k => match k with
  | 0 => .int
  | 1 => .array .int
  | 2 => .array .int
  | _ => .array .int
theorem nmX9 : ∀ a, a < 4 → ∀ b, b < 4 → a ≠ b → (TX9 a).2.1 ≠ (TX9 b).2.1 := by decide +kernel
theorem tyX9_ok : ∀ k, k < 4 → parseFieldDescriptor (TX9 k).2.2.1 = some (tyX9 k) := by decide +kernel
def TX11 : u_T := fun k => match k with
  | 0 => ("LeaderlessOrder", "tape", "LLeaderlessOrder$Tape;", true)
  | 1 => ("LeaderlessOrder", "reader", "LLeaderlessOrder$Reader;", true)
  | 2 => ("LeaderlessOrder", "group", "LLeaderlessOrder$Group;", true)
  | 3 => ("LeaderlessOrder", "draftGroup", "LLeaderlessOrder$Group;", true)
  | 4 => ("LeaderlessOrder", "work", "LLeaderlessOrder$Triples;", true)
  | 5 => ("LeaderlessOrder", "draftWork", "LLeaderlessOrder$Triples;", true)
  | 6 => ("LeaderlessOrder", "seen", "LLeaderlessOrder$Triples;", true)
  | 7 => ("LeaderlessOrder", "state", "LLeaderlessOrder$State;", true)
  | 8 => ("LeaderlessOrder", "trial", "LLeaderlessOrder$State;", true)
  | 9 => ("LeaderlessOrder", "rules", "LLeaderlessOrder$Rules;", true)
  | 10 => ("LeaderlessOrder", "runs", "LLeaderlessOrder$Runs;", true)
  | 11 => ("LeaderlessOrder", "history", "LLeaderlessOrder$History;", true)
  | _ => ("LeaderlessOrder", "marks", "[LLeaderlessOrder$Mark;", true)
def tyX11 : Nat → FieldType := fun k => match k with
  | 0 => .object "LeaderlessOrder$Tape"
  | 1 => .object "LeaderlessOrder$Reader"
  | 2 => .object "LeaderlessOrder$Group"
  | 3 => .object "LeaderlessOrder$Group"
  | 4 => .object "LeaderlessOrder$Triples"
  | 5 => .object "LeaderlessOrder$Triples"
  | 6 => .object "LeaderlessOrder$Triples"
  | 7 => .object "LeaderlessOrder$State"
  | 8 => .object "LeaderlessOrder$State"
  | 9 => .object "LeaderlessOrder$Rules"
  | 10 => .object "LeaderlessOrder$Runs"
  | 11 => .object "LeaderlessOrder$History"
  | _ => .array (.object "LeaderlessOrder$Mark")
theorem nmX11 : ∀ a, a < 13 → ∀ b, b < 13 → a ≠ b → (TX11 a).2.1 ≠ (TX11 b).2.1 := by decide +kernel
theorem tyX11_ok : ∀ k, k < 13 → parseFieldDescriptor (TX11 k).2.2.1 = some (tyX11 k) := by decide +kernel
def TX12 : u_T := fun k => match k with
  | 0 => ("LeaderlessOrderModel", "thrown", "I", false)
  | 1 => ("LeaderlessOrderModel", "taped", "I", false)
  | 2 => ("LeaderlessOrderModel", "tape", "[I", true)
  | 3 => ("LeaderlessOrderModel", "size", "I", false)
  | 4 => ("LeaderlessOrderModel", "place", "I", false)
  | 5 => ("LeaderlessOrderModel", "begin", "I", false)
  | 6 => ("LeaderlessOrderModel", "token", "I", false)
  | 7 => ("LeaderlessOrderModel", "word", "J", false)
  | 8 => ("LeaderlessOrderModel", "told", "I", false)
  | 9 => ("LeaderlessOrderModel", "wrong", "I", false)
  | 10 => ("LeaderlessOrderModel", "group", "[I", true)
  | 11 => ("LeaderlessOrderModel", "nameOf", "[J", true)
  | 12 => ("LeaderlessOrderModel", "kind", "[I", true)
  | 13 => ("LeaderlessOrderModel", "keyOf", "[I", true)
  | 14 => ("LeaderlessOrderModel", "worth", "[I", true)
  | 15 => ("LeaderlessOrderModel", "leader", "[I", true)
  | 16 => ("LeaderlessOrderModel", "lineFrom", "[I", true)
  | 17 => ("LeaderlessOrderModel", "lineTo", "[I", true)
  | 18 => ("LeaderlessOrderModel", "codes", "[I", true)
  | 19 => ("LeaderlessOrderModel", "code", "I", false)
  | 20 => ("LeaderlessOrderModel", "opened", "[I", true)
  | 21 => ("LeaderlessOrderModel", "compared", "[Z", true)
  | 22 => ("LeaderlessOrderModel", "kept", "[I", true)
  | 23 => ("LeaderlessOrderModel", "keptBy", "[I", true)
  | 24 => ("LeaderlessOrderModel", "ahead", "[I", true)
  | 25 => ("LeaderlessOrderModel", "against", "[I", true)
  | 26 => ("LeaderlessOrderModel", "sum", "[I", true)
  | 27 => ("LeaderlessOrderModel", "sumBy", "[I", true)
  | 28 => ("LeaderlessOrderModel", "term", "[I", true)
  | 29 => ("LeaderlessOrderModel", "termBy", "[I", true)
  | 30 => ("LeaderlessOrderModel", "byNot", "[I", true)
  | 31 => ("LeaderlessOrderModel", "valueOf", "[I", true)
  | 32 => ("LeaderlessOrderModel", "given", "I", false)
  | 33 => ("LeaderlessOrderModel", "lines", "[I", true)
  | 34 => ("LeaderlessOrderModel", "lineWhat", "[I", true)
  | 35 => ("LeaderlessOrderModel", "lineA", "[I", true)
  | 36 => ("LeaderlessOrderModel", "lineB", "[I", true)
  | 37 => ("LeaderlessOrderModel", "seens", "[I", true)
  | 38 => ("LeaderlessOrderModel", "seenA", "[I", true)
  | 39 => ("LeaderlessOrderModel", "seenB", "[I", true)
  | 40 => ("LeaderlessOrderModel", "seenIs", "[Z", true)
  | 41 => ("LeaderlessOrderModel", "s", "[I", true)
  | 42 => ("LeaderlessOrderModel", "aside", "[I", true)
  | 43 => ("LeaderlessOrderModel", "before0", "[I", true)
  | 44 => ("LeaderlessOrderModel", "marked", "[I", true)
  | 45 => ("LeaderlessOrderModel", "undone", "[I", true)
  | 46 => ("LeaderlessOrderModel", "isLaid", "[Z", true)
  | 47 => ("LeaderlessOrderModel", "done", "I", false)
  | 48 => ("LeaderlessOrderModel", "clashing", "[I", true)
  | _ => ("LeaderlessOrderModel", "g", "J", false)
def tyX12 : Nat → FieldType := fun k => match k with
  | 0 => .int
  | 1 => .int
  | 2 => .array .int
  | 3 => .int
  | 4 => .int
  | 5 => .int
  | 6 => .int
  | 7 => .long
  | 8 => .int
  | 9 => .int
  | 10 => .array .int
  | 11 => .array .long
  | 12 => .array .int
  | 13 => .array .int
  | 14 => .array .int
  | 15 => .array .int
  | 16 => .array .int
  | 17 => .array .int
  | 18 => .array .int
  | 19 => .int
  | 20 => .array .int
  | 21 => .array .boolean
  | 22 => .array .int
  | 23 => .array .int
  | 24 => .array .int
  | 25 => .array .int
  | 26 => .array .int
  | 27 => .array .int
  | 28 => .array .int
  | 29 => .array .int
  | 30 => .array .int
  | 31 => .array .int
  | 32 => .int
  | 33 => .array .int
  | 34 => .array .int
  | 35 => .array .int
  | 36 => .array .int
  | 37 => .array .int
  | 38 => .array .int
  | 39 => .array .int
  | 40 => .array .boolean
  | 41 => .array .int
  | 42 => .array .int
  | 43 => .array .int
  | 44 => .array .int
  | 45 => .array .int
  | 46 => .array .boolean
  | 47 => .int
  | 48 => .array .int
  | _ => .long
theorem nmX12 : ∀ a, a < 50 → ∀ b, b < 50 → a ≠ b → (TX12 a).2.1 ≠ (TX12 b).2.1 := by decide +kernel
theorem tyX12_ok : ∀ k, k < 50 → parseFieldDescriptor (TX12 k).2.2.1 = some (tyX12 k) := by decide +kernel
def RJE : String := "java/util/NoSuchElementException"
def TJE : u_T := fun _ => ("", "", "", false)
abbrev ip_cl : List vw_C := [(RX0, TX0, 9), (RX1, TX1, 3), (RX2, TX2, 4), (RX3, TX3, 4), (RX4, TX4, 6), (RX5, TX5, 4), (RX6, TX6, 3), (RX7, TX7, 13), (RX8, TX8, 8), (RX9, TX9, 4), (RX11, TX11, 13), (RX12, TX12, 50), (RJE, TJE, 0)]
def ip_ty : Nat → Nat → FieldType := fun c => match c with
  | 0 => tyX0
  | 1 => tyX1
  | 2 => tyX2
  | 3 => tyX3
  | 4 => tyX4
  | 5 => tyX5
  | 6 => tyX6
  | 7 => tyX7
  | 8 => tyX8
  | 9 => tyX9
  | 10 => tyX11
  | _ => tyX12
def ip_df : List (List Value) := [[.int 0, .int 0, .int 0, .null, .null, .null, .null, .null, .null],
  [.null, .int 0, .int 0],
  [.null, .int 0, .null, .int 0],
  [.int 0, .null, .null, .null],
  [.null, .null, .int 0, .int 0, .null, .int 0],
  [.null, .null, .int 0, .int 0],
  [.null, .null, .int 0],
  [.int 0, .int 0, .null, .null, .null, .null, .null, .null, .null, .null, .null, .null, .null],
  [.null, .int 0, .null, .null, .null, .null, .null, .int 0],
  [.int 0, .null, .null, .null],
  [.null, .null, .null, .null, .null, .null, .null, .null, .null, .null, .null, .null, .null],
  [.int 0, .int 0, .null, .int 0, .int 0, .int 0, .int 0, .long 0, .int 0, .int 0, .null, .null, .null, .null, .null, .null, .null, .null, .null, .int 0, .null, .null, .null, .null, .null, .null, .null, .null, .null, .null, .null, .null, .int 0, .null, .null, .null, .null, .null, .null, .null, .null, .null, .null, .null, .null, .null, .null, .int 0, .null, .long 0]]
def ip_own : List String := [RX0, RX1, RX2, RX3, RX4, RX5, RX6, RX7, RX8, RX9, RX11, RX12, RL, RX10, RJ6, RJ9, RJ7, RJ0, RJ1]
def ip_wn : List String := ["REPLICAS", "KEYS", "COMMAND", "KEY", "VALUE", "AT", "CLASHES", "NOT", "AND", "OR", "STEP_PROPOSE", "STEP_ASK", "STEP_DECIDE", "STEP_ACCEPT", "STEP_SETTLE", "STEP_TELL", "STEP_RECOVER", "STEP_RUN", "STEP_DOWN", "STEP_UP", "STEP_CLEAN", "KIND_PUT", "KIND_ADD", "KIND_GET", "KIND_WIPE", "LOW", "HIGH", "APART", "SAME", "OTHER"]
def ip_wd : List (Int64 × Int32 × Int32) := [(624393751603, 0, 0), (366387, 0, 0), (3738600900, 0, 0), (11449, 0, 0), (23114405, 0, 0), (52, 0, 0), (3625558195, 0, 0), (14836, 0, 0), (1476, 0, 0), (498, 0, 0), (17800117861, 1, 0), (1643, 1, 1), (139568261, 1, 2), (36804116, 1, 3), (643453317, 1, 4), (660876, 1, 5), (19498784946, 1, 6), (19118, 1, 7), (147182, 1, 8), (688, 1, 9), (3544110, 1, 10), (17076, 2, 0), (1156, 2, 1), (7348, 2, 2), (763397, 2, 3), (12791, 3, -1), (271592, 3, -2), (1574484, 3, -3), (624037, 3, -4), (0, 4, 0)]
def ip_FL : List (Nat × Nat × Nat × Nat) := [(0, 9, 0, 3), (0, 15, 0, 4), (0, 18, 0, 5), (0, 21, 0, 6), (0, 24, 0, 7), (0, 27, 0, 8), (0, 31, 0, 0), (0, 35, 0, 1), (0, 38, 0, 2), (1, 13, 1, 0), (1, 18, 1, 1), (1, 26, 1, 2), (2, 11, 2, 0), (2, 17, 2, 2), (2, 20, 2, 1), (2, 24, 2, 3), (2, 43, 0, 5), (2, 57, 0, 4), (2, 64, 0, 6), (3, 12, 3, 1), (3, 23, 3, 2), (3, 27, 3, 3), (3, 30, 3, 0), (4, 12, 4, 1), (4, 24, 4, 4), (4, 27, 4, 0), (4, 34, 0, 0), (4, 40, 0, 1), (4, 43, 0, 2), (4, 46, 2, 1), (4, 49, 4, 2), (4, 63, 4, 5), (4, 70, 9, 0), (4, 82, 4, 3), (4, 85, 8, 6), (4, 88, 8, 2), (4, 123, 8, 4), (4, 138, 0, 3), (4, 152, 0, 4), (4, 158, 0, 5), (4, 164, 0, 6), (4, 208, 8, 5), (4, 216, 0, 8), (4, 219, 8, 3), (4, 222, 8, 7), (5, 9, 5, 0), (5, 15, 5, 1), (5, 61, 0, 6), (5, 85, 7, 11), (5, 88, 7, 4), (5, 99, 7, 5), (5, 112, 7, 2), (5, 121, 7, 12), (5, 124, 7, 10), (5, 130, 7, 3), (5, 147, 7, 0), (5, 161, 0, 0), (5, 164, 5, 2), (5, 167, 5, 3), (5, 170, 7, 1), (5, 188, 0, 2), (5, 197, 0, 7), (6, 9, 6, 1), (6, 15, 6, 0), (6, 25, 6, 2), (6, 33, 7, 5), (6, 40, 7, 8), (6, 59, 0, 2), (6, 71, 7, 4), (6, 74, 7, 2), (6, 77, 7, 7), (6, 86, 0, 4), (6, 89, 0, 5), (6, 92, 0, 3), (6, 95, 7, 9), (6, 98, 7, 6), (7, 9, 7, 2), (7, 15, 7, 3), (7, 18, 7, 4), (7, 21, 7, 5), (7, 24, 7, 6), (7, 27, 7, 7), (7, 30, 7, 8), (7, 33, 7, 9), (7, 36, 7, 10), (7, 39, 7, 11), (7, 42, 7, 12), (7, 51, 7, 0), (7, 55, 7, 1), (7, 64, 0, 6), (8, 9, 8, 0), (8, 13, 8, 2), (8, 17, 8, 3), (8, 20, 8, 4), (8, 23, 8, 5), (8, 29, 8, 6), (8, 37, 8, 1), (8, 41, 8, 7), (9, 7, 9, 1), (9, 13, 9, 2), (9, 16, 9, 3), (9, 19, 9, 0), (10, 12, 10, 0), (10, 21, 10, 1), (10, 28, 10, 2), (10, 32, 10, 3), (10, 40, 10, 4), (10, 44, 10, 5), (10, 47, 10, 6), (10, 53, 10, 7), (10, 57, 10, 8), (10, 65, 10, 10), (10, 74, 10, 9), (10, 81, 10, 11), (10, 87, 10, 12), (10, 96, 8, 1), (10, 110, 9, 0), (10, 116, 3, 0), (10, 131, 0, 3), (10, 135, 0, 4), (10, 138, 0, 5), (10, 141, 0, 6), (10, 144, 7, 10), (10, 147, 7, 11), (10, 150, 7, 12), (10, 153, 7, 1), (10, 163, 7, 2), (10, 166, 7, 3), (10, 169, 7, 4), (10, 172, 7, 5), (10, 178, 7, 8), (10, 188, 7, 7), (10, 191, 0, 1), (10, 194, 7, 9), (10, 200, 7, 6), (10, 214, 9, 1), (10, 217, 9, 2), (10, 220, 9, 3), (10, 231, 0, 2), (10, 234, 0, 7), (10, 267, 0, 0), (10, 290, 7, 0), (10, 338, 1, 2), (11, 7, 11, 2), (11, 13, 11, 10), (11, 16, 11, 11), (11, 20, 11, 12), (11, 23, 11, 13), (11, 26, 11, 14), (11, 29, 11, 15), (11, 32, 11, 16), (11, 35, 11, 17), (11, 38, 11, 18), (11, 41, 11, 20), (11, 44, 11, 21), (11, 48, 11, 22), (11, 51, 11, 23), (11, 54, 11, 24), (11, 57, 11, 25), (11, 60, 11, 26), (11, 63, 11, 27), (11, 66, 11, 28), (11, 69, 11, 29), (11, 72, 11, 30), (11, 75, 11, 31), (11, 78, 11, 33), (11, 81, 11, 34), (11, 84, 11, 35), (11, 87, 11, 36), (11, 90, 11, 37), (11, 93, 11, 38), (11, 96, 11, 39), (11, 99, 11, 40), (11, 102, 11, 41), (11, 105, 11, 42), (11, 108, 11, 43), (11, 111, 11, 44), (11, 114, 11, 45), (11, 117, 11, 46), (11, 120, 11, 48), (11, 126, 11, 0), (11, 132, 11, 1), (11, 135, 11, 3), (11, 138, 11, 4), (11, 141, 11, 5), (11, 144, 11, 7), (11, 148, 11, 8), (11, 151, 11, 6), (11, 162, 11, 9), (11, 165, 11, 19), (11, 261, 11, 32), (11, 334, 11, 47), (11, 525, 11, 49)]
def ip_ML : List (Nat × Nat × Nat × Nat) := [(12, 15, 114, 2), (12, 18, 171, 2), (12, 21, 115, 0), (12, 25, 176, 0), (12, 26, 116, 0), (12, 30, 210, 0), (12, 31, 117, 0), (12, 34, 211, 0), (12, 35, 118, 0), (12, 38, 258, 0), (12, 39, 119, 0), (12, 43, 259, 0), (12, 44, 120, 0), (12, 47, 260, 0), (12, 53, 261, 0), (12, 54, 172, 0), (12, 57, 122, 0), (12, 60, 262, 0), (12, 61, 123, 0), (12, 64, 263, 0), (12, 65, 124, 0), (12, 69, 264, 0), (12, 70, 125, 0), (12, 74, 266, 0), (12, 75, 126, 0), (12, 78, 267, 0), (12, 79, 127, 0), (12, 82, 268, 0), (12, 83, 128, 0), (12, 86, 269, 0), (12, 87, 129, 0), (12, 91, 270, 0), (12, 92, 130, 0), (12, 95, 271, 0), (12, 96, 131, 0), (12, 99, 272, 0), (12, 100, 132, 0), (12, 103, 273, 0), (12, 104, 133, 0), (12, 107, 274, 0), (12, 108, 134, 0), (12, 111, 275, 0), (12, 112, 135, 0), (12, 115, 276, 0), (12, 116, 136, 0), (12, 120, 277, 0), (12, 121, 137, 0), (12, 124, 280, 0), (12, 125, 138, 0), (12, 128, 281, 0), (12, 129, 139, 0), (12, 132, 282, 0), (12, 133, 140, 0), (12, 136, 283, 0), (12, 137, 141, 0), (12, 140, 284, 0), (12, 141, 142, 0), (12, 144, 285, 0), (12, 145, 143, 0), (12, 148, 287, 0), (12, 149, 144, 0), (12, 152, 288, 0), (12, 153, 145, 0), (12, 156, 289, 0), (12, 157, 146, 0), (12, 160, 290, 0), (12, 161, 147, 0), (12, 164, 294, 0), (12, 165, 148, 0), (12, 169, 295, 0), (12, 170, 149, 0), (12, 173, 296, 0), (12, 174, 150, 0), (12, 177, 297, 0), (12, 178, 151, 0), (12, 181, 298, 0), (12, 182, 152, 0), (12, 185, 299, 0), (12, 186, 153, 0), (12, 189, 301, 0), (12, 190, 154, 0), (12, 194, 302, 0), (12, 195, 155, 0), (12, 198, 304, 0), (12, 199, 156, 0), (12, 202, 305, 0), (12, 203, 157, 0), (12, 206, 309, 0), (12, 207, 158, 0), (12, 211, 310, 0), (12, 212, 159, 0), (12, 215, 311, 0), (0, 3, 0, 5), (0, 41, 0, 6), (0, 47, 5, 0), (0, 51, 17, 0), (1, 3, 0, 5), (1, 17, 85, 4), (1, 22, 88, 0), (1, 29, 0, 11), (2, 3, 0, 5), (2, 27, 20, 0), (2, 31, 18, 1), (2, 35, 21, 0), (2, 39, 19, 1), (2, 48, 0, 11), (2, 54, 0, 10), (2, 60, 0, 12), (3, 3, 0, 5), (3, 11, 85, 4), (3, 20, 109, 2), (3, 34, 88, 0), (3, 38, 111, 0), (4, 3, 0, 5), (4, 11, 15, 4), (4, 31, 28, 0), (4, 55, 29, 0), (4, 59, 30, 0), (4, 66, 4, 0), (4, 75, 38, 0), (4, 79, 102, 0), (4, 95, 31, 0), (4, 101, 32, 0), (4, 107, 33, 0), (4, 113, 34, 0), (4, 116, 47, 0), (4, 120, 48, 0), (4, 126, 45, 0), (4, 130, 44, 0), (4, 134, 39, 0), (4, 141, 42, 0), (4, 148, 43, 0), (4, 167, 35, 0), (4, 171, 37, 0), (4, 174, 36, 0), (4, 178, 16, 0), (4, 187, 46, 0), (4, 198, 40, 0), (4, 202, 110, 0), (4, 205, 41, 0), (4, 212, 3, 0), (5, 3, 0, 5), (5, 19, 51, 0), (5, 23, 52, 0), (5, 27, 53, 0), (5, 30, 54, 0), (5, 33, 55, 0), (5, 36, 56, 0), (5, 39, 57, 0), (5, 42, 89, 0), (5, 48, 78, 0), (5, 53, 58, 0), (5, 57, 59, 0), (5, 67, 86, 1), (5, 71, 71, 1), (5, 75, 69, 0), (5, 78, 70, 0), (5, 81, 96, 0), (5, 91, 72, 0), (5, 94, 0, 10), (5, 102, 93, 0), (5, 106, 60, 0), (5, 109, 61, 0), (5, 115, 94, 0), (5, 118, 95, 0), (5, 127, 73, 1), (5, 133, 312, 1), (5, 139, 7, 0), (5, 143, 92, 0), (5, 151, 170, 3), (5, 154, 62, 0), (5, 158, 63, 0), (5, 173, 68, 0), (5, 176, 8, 0), (5, 179, 65, 0), (5, 182, 66, 0), (5, 185, 67, 0), (5, 191, 9, 0), (5, 194, 91, 0), (6, 3, 0, 5), (6, 19, 91, 0), (6, 29, 76, 0), (6, 36, 86, 1), (6, 43, 75, 0), (6, 47, 79, 0), (6, 51, 77, 0), (6, 55, 80, 0), (6, 64, 81, 1), (6, 68, 82, 0), (6, 80, 90, 0), (6, 83, 83, 0), (6, 101, 6, 0), (6, 105, 99, 0), (7, 3, 0, 5), (7, 45, 9, 0), (7, 58, 313, 1), (7, 67, 0, 6), (7, 73, 86, 1), (7, 77, 0, 10), (7, 82, 98, 0), (8, 1, 0, 5), (8, 44, 103, 0), (8, 48, 106, 0), (8, 52, 107, 1), (8, 56, 104, 0), (8, 59, 108, 1), (8, 62, 105, 0), (8, 67, 314, 0), (8, 72, 112, 1), (8, 76, 113, 1), (9, 1, 0, 5), (9, 23, 110, 0), (10, 3, 0, 5), (10, 11, 100, 2), (10, 18, 25, 2), (10, 27, 1, 4), (10, 37, 109, 2), (10, 52, 85, 4), (10, 62, 74, 2), (10, 71, 49, 2), (10, 80, 10, 2), (10, 91, 22, 4), (10, 92, 160, 0), (10, 100, 26, 0), (10, 104, 2, 0), (10, 107, 87, 0), (10, 113, 14, 0), (10, 120, 27, 0), (10, 124, 111, 0), (10, 127, 162, 0), (10, 156, 161, 0), (10, 159, 86, 1), (10, 175, 89, 0), (10, 181, 91, 0), (10, 197, 90, 0), (10, 203, 6, 0), (10, 207, 163, 0), (10, 210, 13, 0), (10, 223, 50, 0), (10, 227, 97, 0), (10, 237, 94, 0), (10, 240, 95, 0), (10, 243, 60, 0), (10, 247, 61, 0), (10, 250, 164, 0), (10, 253, 75, 0), (10, 257, 77, 0), (10, 261, 92, 0), (10, 264, 170, 1), (10, 270, 93, 0), (10, 274, 84, 0), (10, 278, 99, 0), (10, 281, 68, 0), (10, 285, 312, 1), (10, 293, 7, 0), (10, 296, 62, 0), (10, 299, 63, 0), (10, 303, 9, 0), (10, 306, 64, 0), (10, 310, 110, 0), (10, 313, 165, 0), (10, 316, 155, 0), (10, 319, 166, 0), (10, 322, 88, 0), (10, 325, 167, 0), (10, 328, 168, 0), (10, 331, 23, 0), (10, 335, 24, 0), (10, 341, 101, 0), (10, 344, 11, 0), (10, 347, 12, 0), (10, 350, 78, 0), (10, 353, 0, 10), (10, 358, 169, 1), (11, 1, 0, 5), (11, 123, 207, 0), (11, 154, 177, 0), (11, 176, 183, 0), (11, 182, 179, 0), (11, 186, 180, 0), (11, 190, 181, 0), (11, 193, 182, 0), (11, 197, 178, 0), (11, 204, 186, 0), (11, 207, 185, 0), (11, 210, 187, 0), (11, 257, 173, 1), (11, 264, 191, 0), (11, 268, 193, 0), (11, 272, 189, 0), (11, 275, 190, 0), (11, 278, 192, 0), (11, 282, 184, 0), (11, 285, 198, 0), (11, 288, 194, 0), (11, 291, 195, 0), (11, 294, 196, 0), (11, 297, 197, 0), (11, 300, 200, 1), (11, 304, 203, 0), (11, 307, 0, 11), (11, 313, 0, 10), (11, 316, 0, 12), (11, 319, 188, 0), (11, 322, 208, 0), (11, 325, 199, 0), (11, 328, 201, 0), (11, 331, 209, 0), (11, 337, 204, 0), (11, 340, 205, 0), (11, 344, 175, 1), (11, 347, 217, 0), (11, 350, 218, 0), (11, 353, 220, 0), (11, 357, 216, 0), (11, 360, 224, 0), (11, 363, 225, 0), (11, 366, 174, 1), (11, 369, 214, 0), (11, 372, 215, 0), (11, 375, 226, 0), (11, 378, 227, 0), (11, 381, 232, 0), (11, 384, 223, 0), (11, 387, 219, 0), (11, 390, 222, 0), (11, 393, 231, 0), (11, 396, 221, 0), (11, 400, 242, 0), (11, 403, 241, 0), (11, 406, 243, 0), (11, 409, 244, 0), (11, 412, 245, 0), (11, 415, 247, 0), (11, 419, 248, 0), (11, 422, 249, 0), (11, 425, 250, 0), (11, 428, 251, 0), (11, 431, 253, 0), (11, 434, 252, 0), (11, 437, 255, 0), (11, 440, 256, 0), (11, 443, 212, 0), (11, 446, 213, 0), (11, 449, 202, 1), (11, 453, 228, 0), (11, 456, 265, 0), (11, 459, 237, 0), (11, 462, 229, 0), (11, 465, 238, 0), (11, 468, 230, 0), (11, 471, 239, 0), (11, 474, 233, 0), (11, 477, 240, 0), (11, 480, 234, 0), (11, 483, 235, 0), (11, 486, 236, 0), (11, 489, 246, 0), (11, 492, 254, 0), (11, 495, 257, 0), (11, 498, 278, 0), (11, 501, 279, 0), (11, 504, 286, 0), (11, 507, 291, 0), (11, 510, 292, 0), (11, 513, 293, 0), (11, 516, 300, 0), (11, 519, 303, 0), (11, 522, 304, 0), (11, 536, 306, 0), (11, 539, 307, 0), (11, 542, 308, 0), (11, 545, 206, 0), (17, 633, 315, 0), (17, 492, 318, 0), (17, 505, 316, 0), (17, 637, 320, 1), (17, 335, 317, 0), (18, 88, 319, 1), (18, 92, 0, 10), (18, 38, 0, 11), (18, 95, 321, 1)]
def ip_CL : List (Nat × Nat × Nat) := [(12, 8, 10), (12, 16, 11), (1, 11, 7), (3, 9, 7), (3, 18, 9), (4, 9, 2), (10, 9, 8), (10, 16, 4), (10, 25, 0), (10, 35, 9), (10, 50, 7), (10, 60, 6), (10, 69, 5), (10, 78, 1), (10, 85, 3)]
def ip_KI : List (Nat × Nat × Nat) := [(14, 265, 1431655765), (14, 266, 858993459), (14, 267, 252645135)]
def ip_KL : List (Nat × Nat × Nat) := [(12, 19, 4294967295), (13, 140, 32), (10, 339, 255), (10, 362, 65536), (10, 364, 9), (10, 366, 1103515245), (10, 368, 12345), (10, 370, 2147483648), (11, 130, 255), (11, 158, 27), (11, 160, 96), (11, 168, 9176), (11, 170, 164222), (11, 172, 847604), (11, 174, 375062), (11, 180, 10631), (11, 200, 1111), (11, 202, 423), (11, 213, 190459599283), (11, 215, 220852), (11, 217, 1384660795), (11, 219, 8179), (11, 221, 11720705), (11, 223, 47), (11, 225, 1335359755), (11, 227, 6465306146), (11, 229, 1253), (11, 231, 60118556), (11, 233, 16006376), (11, 235, 275695007), (11, 237, 397641), (11, 239, 90302), (11, 241, 583), (11, 243, 7047219096), (11, 245, 13703), (11, 247, 1834205), (11, 249, 12251), (11, 251, 841), (11, 253, 5258), (11, 255, 459707), (11, 528, 1103515245), (11, 530, 12345), (11, 532, 2147483648), (11, 534, 65536)]
def ip_SL : List (Nat × Nat × Nat) := [(4, 18, 29), (4, 92, 0), (4, 98, 1), (4, 104, 2), (4, 110, 6), (4, 145, 3), (4, 155, 4), (4, 161, 5), (4, 181, 8), (4, 184, 9), (4, 193, 7), (8, 33, 29), (13, 142, 30), (13, 93, 29)]
def ip_AL : List (Nat × Nat × Nat) := [(1, 11, 5), (8, 27, 4), (10, 85, 6)]
def ip_WF : List (Nat × Nat × Nat) := [(4, 191, 1), (4, 196, 2), (13, 129, 0)]
def ip_SF : List (Nat × Nat × Nat) := [(17, 9, 0), (17, 15, 1)]
def ip_CS : List (Nat × Nat) := [(17, 38)]
