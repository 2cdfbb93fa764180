/-! THE MEASURE BETWEEN THE TWO: the sorts of objects, what a cell is by the abstract heap, what the machine's heap has to do with it. (The tables by wip/whole/gen/emit_rel.py.) -/
def F_0 : u_T := fun k => match k with
  | 0 => ("OakYard", "tape", "LOakYard$Tape;", true)
  | 1 => ("OakYard", "finder", "LOakYard$Finder;", true)
  | 2 => ("OakYard", "now", "LOakYard$Yard;", true)
  | 3 => ("OakYard", "before", "LOakYard$Yard;", true)
  | 4 => ("OakYard", "image", "LOakYard$Yard;", true)
  | 5 => ("OakYard", "undoable", "Z", false)
  | _ => ("OakYard", "imaged", "Z", false)
def t_0 : Nat → FieldType := fun k => match k with
  | 0 => .object "OakYard$Tape"
  | 1 => .object "OakYard$Finder"
  | 2 => .object "OakYard$Yard"
  | 3 => .object "OakYard$Yard"
  | 4 => .object "OakYard$Yard"
  | 5 => .boolean
  | _ => .boolean
theorem t_0_ok : ∀ k, k < 7 → parseFieldDescriptor (F_0 k).2.2.1 = some (t_0 k) := by decide +kernel
theorem n_0 : ∀ a, a < 7 → ∀ b, b < 7 → a ≠ b → (F_0 a).2.1 ≠ (F_0 b).2.1 := by decide +kernel
theorem i_0 : ∀ w ∈ u_ws "OakYard" F_0 7, w ∈ lw_tbl := by decide +kernel
def F_1 : u_T := fun k => match k with
  | 0 => ("OakYard$Books", "entryBook", "[I", true)
  | 1 => ("OakYard$Books", "entryDay", "[I", true)
  | 2 => ("OakYard$Books", "entryUnits", "[I", true)
  | 3 => ("OakYard$Books", "entryHand", "[I", true)
  | 4 => ("OakYard$Books", "entryCount", "I", false)
  | 5 => ("OakYard$Books", "musterDay", "[I", true)
  | 6 => ("OakYard$Books", "musterUnits", "[I", true)
  | 7 => ("OakYard$Books", "musterCount", "I", false)
  | _ => ("OakYard$Books", "handUnits", "[I", true)
def t_1 : Nat → FieldType := fun k => match k with
  | 0 => .array (.int)
  | 1 => .array (.int)
  | 2 => .array (.int)
  | 3 => .array (.int)
  | 4 => .int
  | 5 => .array (.int)
  | 6 => .array (.int)
  | 7 => .int
  | _ => .array (.int)
theorem t_1_ok : ∀ k, k < 9 → parseFieldDescriptor (F_1 k).2.2.1 = some (t_1 k) := by decide +kernel
theorem n_1 : ∀ a, a < 9 → ∀ b, b < 9 → a ≠ b → (F_1 a).2.1 ≠ (F_1 b).2.1 := by decide +kernel
theorem i_1 : ∀ w ∈ u_ws "OakYard$Books" F_1 9, w ∈ lw_tbl := by decide +kernel
def F_2 : u_T := fun k => match k with
  | 0 => ("OakYard$Finder", "openNeeds", "[I", true)
  | 1 => ("OakYard$Finder", "openCount", "I", false)
  | 2 => ("OakYard$Finder", "spill", "[I", true)
  | 3 => ("OakYard$Finder", "cost", "[I", true)
  | 4 => ("OakYard$Finder", "rank", "[J", true)
  | 5 => ("OakYard$Finder", "mastNumbers", "[I", true)
  | 6 => ("OakYard$Finder", "mastCount", "I", false)
  | 7 => ("OakYard$Finder", "workLeft", "[I", true)
  | 8 => ("OakYard$Finder", "strengthOn", "[I", true)
  | 9 => ("OakYard$Finder", "holders", "[[I", true)
  | 10 => ("OakYard$Finder", "usable", "[I", true)
  | 11 => ("OakYard$Finder", "usableCount", "I", false)
  | 12 => ("OakYard$Finder", "reached", "[I", true)
  | 13 => ("OakYard$Finder", "cameFrom", "[I", true)
  | 14 => ("OakYard$Finder", "heldAt", "[I", true)
  | 15 => ("OakYard$Finder", "waiting", "[I", true)
  | _ => ("OakYard$Finder", "mostAfloat", "I", false)
def t_2 : Nat → FieldType := fun k => match k with
  | 0 => .array (.int)
  | 1 => .int
  | 2 => .array (.int)
  | 3 => .array (.int)
  | 4 => .array (.long)
  | 5 => .array (.int)
  | 6 => .int
  | 7 => .array (.int)
  | 8 => .array (.int)
  | 9 => .array (.array (.int))
  | 10 => .array (.int)
  | 11 => .int
  | 12 => .array (.int)
  | 13 => .array (.int)
  | 14 => .array (.int)
  | 15 => .array (.int)
  | _ => .int
theorem t_2_ok : ∀ k, k < 17 → parseFieldDescriptor (F_2 k).2.2.1 = some (t_2 k) := by decide +kernel
theorem n_2 : ∀ a, a < 17 → ∀ b, b < 17 → a ≠ b → (F_2 a).2.1 ≠ (F_2 b).2.1 := by decide +kernel
theorem i_2 : ∀ w ∈ u_ws "OakYard$Finder" F_2 17, w ∈ lw_tbl := by decide +kernel
def F_3 : u_T := fun k => match k with
  | 0 => ("OakYard$Harbour", "sills", "[I", true)
  | 1 => ("OakYard$Harbour", "dockCount", "I", false)
  | _ => ("OakYard$Harbour", "tides", "[I", true)
def t_3 : Nat → FieldType := fun k => match k with
  | 0 => .array (.int)
  | 1 => .int
  | _ => .array (.int)
theorem t_3_ok : ∀ k, k < 3 → parseFieldDescriptor (F_3 k).2.2.1 = some (t_3 k) := by decide +kernel
theorem n_3 : ∀ a, a < 3 → ∀ b, b < 3 → a ≠ b → (F_3 a).2.1 ≠ (F_3 b).2.1 := by decide +kernel
theorem i_3 : ∀ w ∈ u_ws "OakYard$Harbour" F_3 3, w ∈ lw_tbl := by decide +kernel
def F_4 : u_T := fun k => match k with
  | 0 => ("OakYard$Piece", "kind", "I", false)
  | 1 => ("OakYard$Piece", "sort", "I", false)
  | 2 => ("OakYard$Piece", "length", "I", false)
  | 3 => ("OakYard$Piece", "thick", "I", false)
  | 4 => ("OakYard$Piece", "bend", "I", false)
  | 5 => ("OakYard$Piece", "tree", "I", false)
  | 6 => ("OakYard$Piece", "heart", "I", false)
  | 7 => ("OakYard$Piece", "born", "I", false)
  | 8 => ("OakYard$Piece", "arrives", "I", false)
  | 9 => ("OakYard$Piece", "place", "I", false)
  | 10 => ("OakYard$Piece", "dry", "I", false)
  | 11 => ("OakYard$Piece", "rot", "I", false)
  | 12 => ("OakYard$Piece", "rotByHeart", "I", false)
  | 13 => ("OakYard$Piece", "seen", "Z", false)
  | 14 => ("OakYard$Piece", "shows", "I", false)
  | 15 => ("OakYard$Piece", "shedDay", "I", false)
  | 16 => ("OakYard$Piece", "ship", "I", false)
  | 17 => ("OakYard$Piece", "need", "I", false)
  | _ => ("OakYard$Piece", "bad", "Z", false)
def t_4 : Nat → FieldType := fun k => match k with
  | 0 => .int
  | 1 => .int
  | 2 => .int
  | 3 => .int
  | 4 => .int
  | 5 => .int
  | 6 => .int
  | 7 => .int
  | 8 => .int
  | 9 => .int
  | 10 => .int
  | 11 => .int
  | 12 => .int
  | 13 => .boolean
  | 14 => .int
  | 15 => .int
  | 16 => .int
  | 17 => .int
  | _ => .boolean
theorem t_4_ok : ∀ k, k < 19 → parseFieldDescriptor (F_4 k).2.2.1 = some (t_4 k) := by decide +kernel
theorem n_4 : ∀ a, a < 19 → ∀ b, b < 19 → a ≠ b → (F_4 a).2.1 ≠ (F_4 b).2.1 := by decide +kernel
theorem i_4 : ∀ w ∈ u_ws "OakYard$Piece" F_4 19, w ∈ lw_tbl := by decide +kernel
def F_5 : u_T := fun k => match k with
  | 0 => ("OakYard$Plan", "cost", "[I", true)
  | 1 => ("OakYard$Plan", "year", "[I", true)
  | 2 => ("OakYard$Plan", "gain", "[I", true)
  | 3 => ("OakYard$Plan", "later", "[I", true)
  | 4 => ("OakYard$Plan", "choiceCount", "I", false)
  | _ => ("OakYard$Plan", "coins", "[[I", true)
def t_5 : Nat → FieldType := fun k => match k with
  | 0 => .array (.int)
  | 1 => .array (.int)
  | 2 => .array (.int)
  | 3 => .array (.int)
  | 4 => .int
  | _ => .array (.array (.int))
theorem t_5_ok : ∀ k, k < 6 → parseFieldDescriptor (F_5 k).2.2.1 = some (t_5 k) := by decide +kernel
theorem n_5 : ∀ a, a < 6 → ∀ b, b < 6 → a ≠ b → (F_5 a).2.1 ≠ (F_5 b).2.1 := by decide +kernel
theorem i_5 : ∀ w ∈ u_ws "OakYard$Plan" F_5 6, w ∈ lw_tbl := by decide +kernel
def F_6 : u_T := fun k => match k with
  | 0 => ("OakYard$Ship", "deep", "I", false)
  | 1 => ("OakYard$Ship", "work", "I", false)
  | 2 => ("OakYard$Ship", "hired", "Z", false)
  | 3 => ("OakYard$Ship", "state", "I", false)
  | 4 => ("OakYard$Ship", "dock", "I", false)
  | 5 => ("OakYard$Ship", "launched", "I", false)
  | 6 => ("OakYard$Ship", "open", "Z", false)
  | 7 => ("OakYard$Ship", "owes", "I", false)
  | 8 => ("OakYard$Ship", "needCount", "I", false)
  | 9 => ("OakYard$Ship", "needKind", "[I", true)
  | 10 => ("OakYard$Ship", "needLength", "[I", true)
  | 11 => ("OakYard$Ship", "needThick", "[I", true)
  | 12 => ("OakYard$Ship", "needBend", "[I", true)
  | _ => ("OakYard$Ship", "needPiece", "[I", true)
def t_6 : Nat → FieldType := fun k => match k with
  | 0 => .int
  | 1 => .int
  | 2 => .boolean
  | 3 => .int
  | 4 => .int
  | 5 => .int
  | 6 => .boolean
  | 7 => .int
  | 8 => .int
  | 9 => .array (.int)
  | 10 => .array (.int)
  | 11 => .array (.int)
  | 12 => .array (.int)
  | _ => .array (.int)
theorem t_6_ok : ∀ k, k < 14 → parseFieldDescriptor (F_6 k).2.2.1 = some (t_6 k) := by decide +kernel
theorem n_6 : ∀ a, a < 14 → ∀ b, b < 14 → a ≠ b → (F_6 a).2.1 ≠ (F_6 b).2.1 := by decide +kernel
theorem i_6 : ∀ w ∈ u_ws "OakYard$Ship" F_6 14, w ∈ lw_tbl := by decide +kernel
def F_7 : u_T := fun k => match k with
  | 0 => ("OakYard$Tape", "bytes", "[I", true)
  | 1 => ("OakYard$Tape", "length", "I", false)
  | 2 => ("OakYard$Tape", "firstWrong", "I", false)
  | 3 => ("OakYard$Tape", "at", "I", false)
  | 4 => ("OakYard$Tape", "begin", "I", false)
  | 5 => ("OakYard$Tape", "thing", "I", false)
  | 6 => ("OakYard$Tape", "value", "I", false)
  | 7 => ("OakYard$Tape", "lines", "I", false)
  | 8 => ("OakYard$Tape", "verbs", "[I", true)
  | 9 => ("OakYard$Tape", "numbers", "[I", true)
  | 10 => ("OakYard$Tape", "ends", "[I", true)
  | 11 => ("OakYard$Tape", "steps", "I", false)
  | _ => ("OakYard$Tape", "code", "[I", true)
def t_7 : Nat → FieldType := fun k => match k with
  | 0 => .array (.int)
  | 1 => .int
  | 2 => .int
  | 3 => .int
  | 4 => .int
  | 5 => .int
  | 6 => .int
  | 7 => .int
  | 8 => .array (.int)
  | 9 => .array (.int)
  | 10 => .array (.int)
  | 11 => .int
  | _ => .array (.int)
theorem t_7_ok : ∀ k, k < 13 → parseFieldDescriptor (F_7 k).2.2.1 = some (t_7 k) := by decide +kernel
theorem n_7 : ∀ a, a < 13 → ∀ b, b < 13 → a ≠ b → (F_7 a).2.1 ≠ (F_7 b).2.1 := by decide +kernel
theorem i_7 : ∀ w ∈ u_ws "OakYard$Tape" F_7 13, w ∈ lw_tbl := by decide +kernel
def F_8 : u_T := fun k => match k with
  | 0 => ("OakYard$Text", "lines", "I", true)
  | 1 => ("OakYard$Text", "verbs", "[I", true)
  | 2 => ("OakYard$Text", "numbers", "[I", true)
  | 3 => ("OakYard$Text", "ends", "[I", true)
  | _ => ("OakYard$Text", "code", "[I", true)
def t_8 : Nat → FieldType := fun k => match k with
  | 0 => .int
  | 1 => .array (.int)
  | 2 => .array (.int)
  | 3 => .array (.int)
  | _ => .array (.int)
theorem t_8_ok : ∀ k, k < 5 → parseFieldDescriptor (F_8 k).2.2.1 = some (t_8 k) := by decide +kernel
theorem n_8 : ∀ a, a < 5 → ∀ b, b < 5 → a ≠ b → (F_8 a).2.1 ≠ (F_8 b).2.1 := by decide +kernel
theorem i_8 : ∀ w ∈ u_ws "OakYard$Text" F_8 5, w ∈ lw_tbl := by decide +kernel
def F_9 : u_T := fun k => match k with
  | 0 => ("OakYard$Tree", "wood", "I", false)
  | 1 => ("OakYard$Tree", "sort", "I", false)
  | 2 => ("OakYard$Tree", "length", "I", false)
  | 3 => ("OakYard$Tree", "thick", "I", false)
  | 4 => ("OakYard$Tree", "bend", "I", false)
  | 5 => ("OakYard$Tree", "heart", "I", false)
  | _ => ("OakYard$Tree", "felled", "Z", false)
def t_9 : Nat → FieldType := fun k => match k with
  | 0 => .int
  | 1 => .int
  | 2 => .int
  | 3 => .int
  | 4 => .int
  | 5 => .int
  | _ => .boolean
theorem t_9_ok : ∀ k, k < 7 → parseFieldDescriptor (F_9 k).2.2.1 = some (t_9 k) := by decide +kernel
theorem n_9 : ∀ a, a < 7 → ∀ b, b < 7 → a ≠ b → (F_9 a).2.1 ≠ (F_9 b).2.1 := by decide +kernel
theorem i_9 : ∀ w ∈ u_ws "OakYard$Tree" F_9 7, w ∈ lw_tbl := by decide +kernel
def F_10 : u_T := fun k => match k with
  | 0 => ("OakYard$Warrants", "texts", "[LOakYard$Text;", true)
  | 1 => ("OakYard$Warrants", "days", "[I", true)
  | 2 => ("OakYard$Warrants", "count", "I", false)
  | 3 => ("OakYard$Warrants", "tags", "I", false)
  | _ => ("OakYard$Warrants", "facts", "[I", true)
def t_10 : Nat → FieldType := fun k => match k with
  | 0 => .array (.object "OakYard$Text")
  | 1 => .array (.int)
  | 2 => .int
  | 3 => .int
  | _ => .array (.int)
theorem t_10_ok : ∀ k, k < 5 → parseFieldDescriptor (F_10 k).2.2.1 = some (t_10 k) := by decide +kernel
theorem n_10 : ∀ a, a < 5 → ∀ b, b < 5 → a ≠ b → (F_10 a).2.1 ≠ (F_10 b).2.1 := by decide +kernel
theorem i_10 : ∀ w ∈ u_ws "OakYard$Warrants" F_10 5, w ∈ lw_tbl := by decide +kernel
def F_11 : u_T := fun k => match k with
  | 0 => ("OakYard$Yard", "day", "I", false)
  | 1 => ("OakYard$Yard", "roads", "[I", true)
  | 2 => ("OakYard$Yard", "trees", "[LOakYard$Tree;", true)
  | 3 => ("OakYard$Yard", "treeCount", "I", false)
  | 4 => ("OakYard$Yard", "pieces", "[LOakYard$Piece;", true)
  | 5 => ("OakYard$Yard", "pieceCount", "I", false)
  | 6 => ("OakYard$Yard", "shedRoom", "I", false)
  | 7 => ("OakYard$Yard", "ships", "[LOakYard$Ship;", true)
  | 8 => ("OakYard$Yard", "shipCount", "I", false)
  | 9 => ("OakYard$Yard", "slipRoom", "I", false)
  | 10 => ("OakYard$Yard", "strength", "[I", true)
  | 11 => ("OakYard$Yard", "gangShip", "[I", true)
  | 12 => ("OakYard$Yard", "gangCount", "I", false)
  | 13 => ("OakYard$Yard", "chips", "I", false)
  | 14 => ("OakYard$Yard", "openings", "I", false)
  | 15 => ("OakYard$Yard", "warrants", "LOakYard$Warrants;", true)
  | 16 => ("OakYard$Yard", "harbour", "LOakYard$Harbour;", true)
  | 17 => ("OakYard$Yard", "books", "LOakYard$Books;", true)
  | 18 => ("OakYard$Yard", "plan", "LOakYard$Plan;", true)
  | _ => ("OakYard$Yard", "dayAllOut", "[I", true)
def t_11 : Nat → FieldType := fun k => match k with
  | 0 => .int
  | 1 => .array (.int)
  | 2 => .array (.object "OakYard$Tree")
  | 3 => .int
  | 4 => .array (.object "OakYard$Piece")
  | 5 => .int
  | 6 => .int
  | 7 => .array (.object "OakYard$Ship")
  | 8 => .int
  | 9 => .int
  | 10 => .array (.int)
  | 11 => .array (.int)
  | 12 => .int
  | 13 => .int
  | 14 => .int
  | 15 => .object "OakYard$Warrants"
  | 16 => .object "OakYard$Harbour"
  | 17 => .object "OakYard$Books"
  | 18 => .object "OakYard$Plan"
  | _ => .array (.int)
theorem t_11_ok : ∀ k, k < 20 → parseFieldDescriptor (F_11 k).2.2.1 = some (t_11 k) := by decide +kernel
theorem n_11 : ∀ a, a < 20 → ∀ b, b < 20 → a ≠ b → (F_11 a).2.1 ≠ (F_11 b).2.1 := by decide +kernel
theorem i_11 : ∀ w ∈ u_ws "OakYard$Yard" F_11 20, w ∈ lw_tbl := by decide +kernel
def F_12 : u_T := fun k => match k with
  | 0 => ("OakYardModel", "thrown", "I", false)
  | 1 => ("OakYardModel", "world", "[I", true)
  | 2 => ("OakYardModel", "image", "[I", true)
  | 3 => ("OakYardModel", "before", "[I", true)
  | 4 => ("OakYardModel", "hasImage", "Z", false)
  | 5 => ("OakYardModel", "hasBefore", "Z", false)
  | 6 => ("OakYardModel", "tape", "[B", true)
  | 7 => ("OakYardModel", "taped", "I", false)
  | 8 => ("OakYardModel", "point", "I", false)
  | 9 => ("OakYardModel", "end", "I", false)
  | 10 => ("OakYardModel", "begin", "I", false)
  | 11 => ("OakYardModel", "deep", "I", false)
  | 12 => ("OakYardModel", "faultAt", "I", false)
  | 13 => ("OakYardModel", "five", "[I", true)
  | 14 => ("OakYardModel", "steps", "I", false)
  | 15 => ("OakYardModel", "tags", "[Z", true)
  | 16 => ("OakYardModel", "facts", "[I", true)
  | 17 => ("OakYardModel", "met", "[Z", true)
  | 18 => ("OakYardModel", "sums", "[I", true)
  | 19 => ("OakYardModel", "ranks", "[J", true)
  | 20 => ("OakYardModel", "wanted", "[I", true)
  | 21 => ("OakYardModel", "wants", "I", false)
  | 22 => ("OakYardModel", "some", "[I", true)
  | 23 => ("OakYardModel", "many", "I", false)
  | 24 => ("OakYardModel", "madeLong", "I", false)
  | 25 => ("OakYardModel", "madeThick", "I", false)
  | 26 => ("OakYardModel", "soonest", "I", false)
  | 27 => ("OakYardModel", "four", "[I", true)
  | 28 => ("OakYardModel", "strength", "[I", true)
  | 29 => ("OakYardModel", "holder", "[I", true)
  | 30 => ("OakYardModel", "tried", "[Z", true)
  | _ => ("OakYardModel", "units", "[I", true)
def t_12 : Nat → FieldType := fun k => match k with
  | 0 => .int
  | 1 => .array (.int)
  | 2 => .array (.int)
  | 3 => .array (.int)
  | 4 => .boolean
  | 5 => .boolean
  | 6 => .array (.byte)
  | 7 => .int
  | 8 => .int
  | 9 => .int
  | 10 => .int
  | 11 => .int
  | 12 => .int
  | 13 => .array (.int)
  | 14 => .int
  | 15 => .array (.boolean)
  | 16 => .array (.int)
  | 17 => .array (.boolean)
  | 18 => .array (.int)
  | 19 => .array (.long)
  | 20 => .array (.int)
  | 21 => .int
  | 22 => .array (.int)
  | 23 => .int
  | 24 => .int
  | 25 => .int
  | 26 => .int
  | 27 => .array (.int)
  | 28 => .array (.int)
  | 29 => .array (.int)
  | 30 => .array (.boolean)
  | _ => .array (.int)
theorem t_12_ok : ∀ k, k < 32 → parseFieldDescriptor (F_12 k).2.2.1 = some (t_12 k) := by decide +kernel
theorem n_12 : ∀ a, a < 32 → ∀ b, b < 32 → a ≠ b → (F_12 a).2.1 ≠ (F_12 b).2.1 := by decide +kernel
theorem i_12 : ∀ w ∈ u_ws "OakYardModel" F_12 32, w ∈ lw_tbl := by decide +kernel
abbrev rl_cl : List vw_C := [("OakYard", F_0, 7), ("OakYard$Books", F_1, 9), ("OakYard$Finder", F_2, 17), ("OakYard$Harbour", F_3, 3), ("OakYard$Piece", F_4, 19), ("OakYard$Plan", F_5, 6), ("OakYard$Ship", F_6, 14), ("OakYard$Tape", F_7, 13), ("OakYard$Text", F_8, 5), ("OakYard$Tree", F_9, 7), ("OakYard$Warrants", F_10, 5), ("OakYard$Yard", F_11, 20), ("OakYardModel", F_12, 32)]
def rl_n (k : Nat) : Nat := match k with
  | 1 => 7
  | 2 => 9
  | 3 => 17
  | 4 => 3
  | 5 => 19
  | 6 => 6
  | 7 => 14
  | 8 => 13
  | 9 => 5
  | 10 => 7
  | 11 => 5
  | 12 => 20
  | 13 => 32
  | _ => 0
/-- what a field holds: 0 an int, 1 a truth, 2 a long, 4 a reference -/
def rl_c (k j : Nat) : Nat := match k with
  | 1 => ([4, 4, 4, 4, 4, 1, 1] : List Nat).getD j 0
  | 2 => ([4, 4, 4, 4, 0, 4, 4, 0, 4] : List Nat).getD j 0
  | 3 => ([4, 0, 4, 4, 4, 4, 0, 4, 4, 4, 4, 0, 4, 4, 4, 4, 0] : List Nat).getD j 0
  | 4 => ([4, 0, 4] : List Nat).getD j 0
  | 5 => ([0, 0, 0, 0, 0, 0, 0, 0, 0, 0, 0, 0, 0, 1, 0, 0, 0, 0, 1] : List Nat).getD j 0
  | 6 => ([4, 4, 4, 4, 0, 4] : List Nat).getD j 0
  | 7 => ([0, 0, 1, 0, 0, 0, 1, 0, 0, 4, 4, 4, 4, 4] : List Nat).getD j 0
  | 8 => ([4, 0, 0, 0, 0, 0, 0, 0, 4, 4, 4, 0, 4] : List Nat).getD j 0
  | 9 => ([0, 4, 4, 4, 4] : List Nat).getD j 0
  | 10 => ([0, 0, 0, 0, 0, 0, 1] : List Nat).getD j 0
  | 11 => ([4, 4, 0, 0, 4] : List Nat).getD j 0
  | 12 => ([0, 4, 4, 0, 4, 0, 0, 4, 0, 0, 4, 4, 0, 0, 0, 4, 4, 4, 4, 4] : List Nat).getD j 0
  | 13 => ([0, 4, 4, 4, 1, 1, 4, 0, 0, 0, 0, 0, 0, 4, 0, 4, 4, 4, 4, 4, 4, 0, 4, 0, 0, 0, 0, 4, 4, 4, 4, 4] : List Nat).getD j 0
  | _ => 0
/-- the rows' types by their kinds, 21 on -/
abbrev rl_ty : List FieldType := [.int, .long, .byte, .boolean, .array (.int), .object "OakYard$Tree", .object "OakYard$Piece", .object "OakYard$Ship", .object "OakYard$Text"]
def rl_cv (ρ : Nat → Nat) (v : Value) : Value := match v with
  | .ref a => .ref (ρ a)
  | v => v
def rl_fv (ρ : Nat → Nat) (A : am_A) (a j : Nat) : Value :=
  if rl_c (am_K A a) j = 2 then .long (am_J A a j) else if rl_c (am_K A a) j = 4 then va_rf ((am_R A a j).map ρ) else .int (am_I A a j)
def rl_el (dA : Nat → ClassId) (ρ : Nat → Nat) (A : am_A) (a : Nat) : va_E :=
  if am_K A a < 20 then .inr (am_K A a - 1, (List.range (rl_n (am_K A a))).map (rl_fv ρ A a))
  else if am_K A a = 22 then .inl (dA 1, am_L A a, .inr (.inl (am_J A a)))
  else if am_K A a < 25 then .inl (dA (am_K A a - 21), am_L A a, .inl (am_I A a))
  else .inl (dA (am_K A a - 21), am_L A a, .inr (.inr (.inr (.inr (fun j => (am_R A a j).map ρ)))))
def rl_ids (A : am_A) : List Nat := (List.range (am_N A)).filter (fun a => decide (0 < am_K A a) && decide (am_K A a < 40))
def rl_ws (dA : Nat → ClassId) (ρ : Nat → Nat) (A : am_A) : va_W := (rl_ids A).map (fun a => (ρ a, rl_el dA ρ A a))
def rl_H (base : Nat) (D : va_G) (dA : Nat → ClassId) (ρ : Nat → Nat) (A : am_A) (H : Heap) : Prop :=
  (∀ a, am_N A ≤ a → am_K A a = 0) ∧ va_P D rl_cl (rl_ws dA ρ A) H ∧ va_D (fun q => base ≤ q) (rl_ws dA ρ A) ∧ base ≤ H.size
abbrev rl_tys (dA : Nat → ClassId) : List (ClassId × FieldType) := [(dA 0, .int), (dA 1, .long), (dA 2, .byte), (dA 3, .boolean), (dA 4, .array .int), (dA 5, .object "OakYard$Tree"), (dA 6, .object "OakYard$Piece"), (dA 7, .object "OakYard$Ship"), (dA 8, .object "OakYard$Text")]
theorem rl_mem {A : am_A} {a : Nat} : a ∈ rl_ids A ↔ a < am_N A ∧ 0 < am_K A a ∧ am_K A a < 40 := by
  simp [rl_ids, and_assoc]
theorem rl_nodup (A : am_A) : (rl_ids A).Nodup := List.Nodup.sublist List.filter_sublist List.nodup_range
theorem rl_lt {base : Nat} {D : va_G} {dA : Nat → ClassId} {ρ : Nat → Nat} {A : am_A} {H : Heap} (h : rl_H base D dA ρ A H) {a : Nat} (hk : am_K A a ≠ 0) : a < am_N A := by
  rcases Nat.lt_or_ge a (am_N A) with q | q
  · exact q
  · exact absurd (h.1 a q) hk
theorem rl_get {base : Nat} {D : va_G} {dA : Nat → ClassId} {ρ : Nat → Nat} {A : am_A} {H : Heap} (h : rl_H base D dA ρ A H) {a : Nat} (hk : am_K A a ≠ 0) (hk2 : am_K A a < 40) : ∃ q0 : Nat, (rl_ids A)[q0]? = some a ∧ (rl_ws dA ρ A)[q0]? = some (ρ a, rl_el dA ρ A a) := by
  have hm : a ∈ rl_ids A := rl_mem.mpr ⟨rl_lt h hk, Nat.pos_of_ne_zero hk, hk2⟩
  obtain ⟨q0, hq⟩ := List.mem_iff_getElem?.mp hm
  exact ⟨q0, hq, by unfold rl_ws; rw [List.getElem?_map, hq]; rfl⟩
theorem rl_upd {α : Type} (L : List Nat) (nd : L.Nodup) {k a : Nat} (hk : L[k]? = some a) (F G : Nat → α) (h : ∀ b, b ≠ a → G b = F b) : (L.map F).set k (G a) = L.map G := by
  apply List.ext_getElem?
  intro i
  rw [List.getElem?_set, List.getElem?_map, List.getElem?_map]
  by_cases hi : k = i
  · subst hi
    have hl : k < L.length := (List.getElem?_eq_some_iff.mp hk).1
    rw [if_pos rfl, if_pos (by rw [List.length_map]; exact hl), hk]
    rfl
  · rw [if_neg hi]
    cases hb : L[i]? with
    | none => rfl
    | some b =>
      have hba : b ≠ a := by
        intro e
        subst e
        obtain ⟨h1, e1⟩ := List.getElem?_eq_some_iff.mp hk
        obtain ⟨h2, e2⟩ := List.getElem?_eq_some_iff.mp hb
        have hp := List.pairwise_iff_getElem.mp nd
        rcases Nat.lt_or_gt_of_ne hi with q | q
        · exact hp k i h1 h2 q (e1.trans e2.symm)
        · exact hp i k h2 h1 q (e2.trans e1.symm)
      show some (F b) = some (G b)
      rw [h b hba]
/-- one cell has changed -/
theorem rl_put {base : Nat} {D : va_G} {dA : Nat → ClassId} {ρ : Nat → Nat} {A A' : am_A} {H H' : Heap} (h : rl_H base D dA ρ A H) {a q0 : Nat} (hq : (rl_ids A)[q0]? = some a) (hK : am_K A' = am_K A) (hN : am_N A' = am_N A) (hne : ∀ b, b ≠ a → rl_el dA ρ A' b = rl_el dA ρ A b)
    (hP : va_P D rl_cl ((rl_ws dA ρ A).set q0 (ρ a, rl_el dA ρ A' a)) H') (hD : va_D (fun q => base ≤ q) ((rl_ws dA ρ A).set q0 (ρ a, rl_el dA ρ A' a))) (hs : base ≤ H'.size) : rl_H base D dA ρ A' H' := by
  have hids : rl_ids A' = rl_ids A := by unfold rl_ids; rw [hK, hN]
  have e : (rl_ws dA ρ A).set q0 (ρ a, rl_el dA ρ A' a) = rl_ws dA ρ A' := by
    unfold rl_ws
    rw [hids]
    exact rl_upd (rl_ids A) (rl_nodup A) hq (fun a => (ρ a, rl_el dA ρ A a)) (fun a => (ρ a, rl_el dA ρ A' a)) (fun b hb => by show (_, _) = (_, _); rw [hne b hb])
  rw [e] at hP hD
  exact ⟨fun b hb => by rw [hK]; exact h.1 b (by rw [← hN]; exact hb), hP, hD, hs⟩
theorem rl_elI {dA : Nat → ClassId} {ρ : Nat → Nat} {A : am_A} {a k : Nat} {v : Int32} {b : Nat} (h : b ≠ a) : rl_el dA ρ (am_sI A a k v) b = rl_el dA ρ A b := by
  have e : am_I (am_sI A a k v) b = am_I A b := by
    funext j
    show am_up2 (am_I A) a k v b j = _
    simp [am_up2, h]
  unfold rl_el
  have e2 : rl_fv ρ (am_sI A a k v) b = rl_fv ρ A b := by
    funext j
    unfold rl_fv
    rw [e]
    rfl
  rw [e, e2]
  rfl
theorem rl_elJ {dA : Nat → ClassId} {ρ : Nat → Nat} {A : am_A} {a k : Nat} {v : Int64} {b : Nat} (h : b ≠ a) : rl_el dA ρ (am_sJ A a k v) b = rl_el dA ρ A b := by
  have e : am_J (am_sJ A a k v) b = am_J A b := by
    funext j
    show am_up2 (am_J A) a k v b j = _
    simp [am_up2, h]
  unfold rl_el
  have e2 : rl_fv ρ (am_sJ A a k v) b = rl_fv ρ A b := by
    funext j
    unfold rl_fv
    rw [e]
    rfl
  rw [e, e2]
  rfl
theorem rl_elR {dA : Nat → ClassId} {ρ : Nat → Nat} {A : am_A} {a k : Nat} {v : Option Nat} {b : Nat} (h : b ≠ a) : rl_el dA ρ (am_sR A a k v) b = rl_el dA ρ A b := by
  have e : am_R (am_sR A a k v) b = am_R A b := by
    funext j
    show am_up2 (am_R A) a k v b j = _
    simp [am_up2, h]
  unfold rl_el
  have e2 : rl_fv ρ (am_sR A a k v) b = rl_fv ρ A b := by
    funext j
    unfold rl_fv
    rw [e]
    rfl
  rw [e, e2]
  rfl
/-! places of a method: what is known of them -/
def rl_lv (ρ : Nat → Nat) : Nat → List (Option Value) → List (Nat × Value)
  | _, [] => []
  | n, none :: r => rl_lv ρ (n + 1) r
  | n, some v :: r => (n, rl_cv ρ v) :: rl_lv ρ (n + 1) r
theorem rl_lv_mem {ρ : Nat → Nat} (ls : List (Option Value)) : ∀ (n i : Nat) (w : Value), (i, w) ∈ rl_lv ρ n ls ↔ ∃ (j : Nat) (v : Value), i = n + j ∧ am_nth ls j = some (some v) ∧ w = rl_cv ρ v := by
  induction ls with
  | nil =>
    intro n i w
    simp [rl_lv, am_nth]
  | cons x r ih =>
    intro n i w
    cases x with
    | none =>
      rw [rl_lv, ih]
      constructor
      · rintro ⟨j, v, h1, h2, h3⟩
        exact ⟨j + 1, v, by omega, h2, h3⟩
      · rintro ⟨j, v, h1, h2, h3⟩
        cases j with
        | zero => cases h2
        | succ j => exact ⟨j, v, by omega, h2, h3⟩
    | some x =>
      rw [rl_lv, List.mem_cons, ih]
      constructor
      · rintro (h | ⟨j, v, h1, h2, h3⟩)
        · cases h
          exact ⟨0, x, rfl, rfl, rfl⟩
        · exact ⟨j + 1, v, by omega, h2, h3⟩
      · rintro ⟨j, v, h1, h2, h3⟩
        cases j with
        | zero =>
          cases h2
          exact Or.inl (by rw [h1, h3]; rfl)
        | succ j => exact Or.inr ⟨j, v, by omega, h2, h3⟩
def rl_has (ρ : Nat → Nat) (arr : Array Slot) (nL : Nat) (ls : List (Option Value)) : Prop := lv_has arr nL (rl_lv ρ 0 ls)
theorem rl_has_at {ρ : Nat → Nat} {arr : Array Slot} {nL : Nat} {ls : List (Option Value)} (h : rl_has ρ arr nL ls) {i : Nat} {v : Value} (hi : am_nth ls i = some (some v)) : arr[i]? = some (.val (rl_cv ρ v)) :=
  h.2.2 (i, rl_cv ρ v) ((rl_lv_mem ls 0 i _).mpr ⟨i, v, by omega, hi, rfl⟩)
theorem rl_has_of {ρ' : Nat → Nat} {arr : Array Slot} {nL : Nat} {ls : List (Option Value)} {lv : List (Nat × Value)} (h : lv_has arr nL lv) (hs : ∀ (j : Nat) (v : Value), am_nth ls j = some (some v) → (j, rl_cv ρ' v) ∈ lv) : rl_has ρ' arr nL ls := by
  refine ⟨h.1, h.2.1, fun q hq => ?_⟩
  obtain ⟨i, w⟩ := q
  obtain ⟨j, v, h1, h2, h3⟩ := (rl_lv_mem ls 0 i w).mp hq
  have e : i = j := by omega
  subst e
  exact h.2.2 _ (by rw [h3]; exact hs i v h2)
theorem am_nth_set {α : Type} (l : List α) : ∀ (i j : Nat) (v : α), am_nth (l.set i v) j = if i = j ∧ j < l.length then some v else am_nth l j := by
  induction l with
  | nil => intro i j v; simp [am_nth]
  | cons x r ih =>
    intro i j v
    cases i with
    | zero =>
      cases j with
      | zero => simp [am_nth]
      | succ j => simp [am_nth]
    | succ i =>
      cases j with
      | zero => simp [am_nth]
      | succ j =>
        simp only [List.set_cons_succ, am_nth, ih, List.length_cons]
        simp
theorem rl_dead1 {ls : List (Option Value)} {i j : Nat} {v : Value} (h : am_nth (ls.set i none) j = some (some v)) : am_nth ls j = some (some v) := by
  rw [am_nth_set] at h
  split at h
  · cases h
  · exact h
theorem rl_dead {ρ : Nat → Nat} {arr : Array Slot} {nL : Nat} (d : List Nat) : ∀ {ls : List (Option Value)}, rl_has ρ arr nL ls → rl_has ρ arr nL (am_dead d ls) := by
  induction d with
  | nil => exact fun h => h
  | cons i d ih =>
    intro ls h
    exact ih (rl_has_of h fun j v hj => (rl_lv_mem ls 0 j _).mpr ⟨j, v, by omega, rl_dead1 hj, rfl⟩)
/-- a store of one place -/
theorem rl_store1 {ρ : Nat → Nat} {arr' : Array Slot} {nL : Nat} {ls : List (Option Value)} {i : Nat} {v : Value} (hp : ∀ (j : Nat) (w : Value), i = j + 1 → am_nth ls j = some (some w) → w.category ≠ 2)
    (h : lv_has arr' nL ((i, rl_cv ρ v) :: (rl_lv ρ 0 ls).filter (fun q => !(q.1 == i) && !(q.1 + 1 == i && q.2.category == 2)))) : rl_has ρ arr' nL (ls.set i (some v)) := by
  refine rl_has_of h fun j w hj => ?_
  rw [am_nth_set] at hj
  by_cases hi : i = j
  · subst hi
    by_cases hl : i < ls.length
    · rw [if_pos ⟨rfl, hl⟩] at hj
      cases hj
      exact List.mem_cons_self
    · rw [if_neg (fun q => hl q.2)] at hj
      exfalso
      have : ∀ (l : List (Option Value)) (k : Nat), ¬ k < l.length → am_nth l k = none := by
        intro l
        induction l with
        | nil => intro k _; rfl
        | cons x r ih =>
          intro k hk
          cases k with
          | zero => exact absurd (by simp) hk
          | succ k => exact ih k (by simpa using hk)
      rw [this _ _ hl] at hj
      cases hj
  · rw [if_neg (fun q => hi q.1)] at hj
    refine List.mem_cons_of_mem _ (List.mem_filter.mpr ⟨(rl_lv_mem ls 0 j _).mpr ⟨j, w, by omega, hj, rfl⟩, ?_⟩)
    have h1 : (j == i) = false := by simp; omega
    have hcat : (rl_cv ρ w).category = w.category := by cases w <;> rfl
    by_cases h2 : j + 1 = i
    · have := hp j w h2.symm hj
      simp [h1, hcat, this]
    · simp [h1, h2]
/-- a store of a long -/
theorem rl_store2 {ρ : Nat → Nat} {arr' : Array Slot} {nL : Nat} {ls : List (Option Value)} {i : Nat} {v : Value} (hp : ∀ (j : Nat) (w : Value), i = j + 1 → am_nth ls j = some (some w) → w.category ≠ 2) (hl : i < ls.length)
    (h : lv_has arr' nL ((i, rl_cv ρ v) :: (rl_lv ρ 0 ls).filter (fun q => !(q.1 == i) && (!(q.1 == i + 1) && !(q.1 + 1 == i && q.2.category == 2))))) : rl_has ρ arr' nL ((ls.set i (some v)).set (i + 1) none) := by
  refine rl_has_of h fun j w hj => ?_
  rw [am_nth_set] at hj
  split at hj
  · cases hj
  · rename_i h0
    have hj1 : j ≠ i + 1 ∨ am_nth (ls.set i (some v)) j = some (some w) ∧ j = i + 1 := by
      by_cases q : j = i + 1
      · exact Or.inr ⟨hj, q⟩
      · exact Or.inl q
    rcases hj1 with hj1 | ⟨hj2, hj3⟩
    · rw [am_nth_set] at hj
      by_cases hi : i = j
      · subst hi
        rw [if_pos ⟨rfl, hl⟩] at hj
        cases hj
        exact List.mem_cons_self
      · rw [if_neg (fun q => hi q.1)] at hj
        refine List.mem_cons_of_mem _ (List.mem_filter.mpr ⟨(rl_lv_mem ls 0 j _).mpr ⟨j, w, by omega, hj, rfl⟩, ?_⟩)
        have h1 : (j == i) = false := by simp; omega
        have h3 : (j == i + 1) = false := by simp; omega
        have hcat : (rl_cv ρ w).category = w.category := by cases w <;> rfl
        by_cases h2 : j + 1 = i
        · have := hp j w h2.symm hj
          simp [h1, h3, hcat, this]
        · simp [h1, h3, h2]
    · exfalso
      apply h0
      subst hj3
      refine ⟨rfl, ?_⟩
      rw [List.length_set]
      have : ∀ (l : List (Option Value)) (k : Nat) (x : Option Value), am_nth l k = some x → k < l.length := by
        intro l
        induction l with
        | nil => intro k x e; cases e
        | cons y r ih =>
          intro k x e
          cases k with
          | zero => simp
          | succ k => simpa using ih k x e
      have := this _ _ _ hj2
      rwa [List.length_set] at this
