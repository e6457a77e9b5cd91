def RX0 : String := "TwinFires$Eyes"
def TX0 : u_T := fun k => match k with
  | 0 => ("TwinFires$Eyes", "line", "LTwinFires$Line;", true)
  | 1 => ("TwinFires$Eyes", "view", "[I", true)
  | 2 => ("TwinFires$Eyes", "hidesNow", "[I", true)
  | _ => ("TwinFires$Eyes", "hidesDone", "[I", true)
def tyX0 : Nat → FieldType := fun k => match k with
  | 0 => .object "TwinFires$Line"
  | 1 => .array .int
  | 2 => .array .int
  | _ => .array .int
theorem nmX0 : ∀ a, a < 4 → ∀ b, b < 4 → a ≠ b → (TX0 a).2.1 ≠ (TX0 b).2.1 := by decide +kernel
theorem tyX0_ok : ∀ k, k < 4 → parseFieldDescriptor (TX0 k).2.2.1 = some (tyX0 k) := by decide +kernel
def RX1 : String := "TwinFires$Hedge"
def TX1 : u_T := fun k => match k with
  | 0 => ("TwinFires$Stone", "kind", "I", true)
  | 1 => ("TwinFires$Stone", "x", "I", true)
  | 2 => ("TwinFires$Stone", "y", "I", true)
  | 3 => ("TwinFires$Stone", "h", "I", true)
  | _ => ("TwinFires$Stone", "g", "I", true)
def tyX1 : Nat → FieldType := fun k => match k with
  | 0 => .int
  | 1 => .int
  | 2 => .int
  | 3 => .int
  | _ => .int
theorem nmX1 : ∀ a, a < 5 → ∀ b, b < 5 → a ≠ b → (TX1 a).2.1 ≠ (TX1 b).2.1 := by decide +kernel
theorem tyX1_ok : ∀ k, k < 5 → parseFieldDescriptor (TX1 k).2.2.1 = some (tyX1 k) := by decide +kernel
def RX2 : String := "TwinFires$Land"
def TX2 : u_T := fun k => match k with
  | 0 => ("TwinFires$Land", "hills", "I", false)
  | 1 => ("TwinFires$Land", "x", "[I", true)
  | 2 => ("TwinFires$Land", "y", "[I", true)
  | 3 => ("TwinFires$Land", "height", "[I", true)
  | 4 => ("TwinFires$Land", "report", "[I", true)
  | 5 => ("TwinFires$Land", "blame", "[I", true)
  | 6 => ("TwinFires$Land", "things", "I", false)
  | 7 => ("TwinFires$Land", "stones", "[LTwinFires$Stone;", true)
  | 8 => ("TwinFires$Land", "done", "[I", true)
  | 9 => ("TwinFires$Land", "cost", "[I", true)
  | 10 => ("TwinFires$Land", "dial", "[I", true)
  | 11 => ("TwinFires$Land", "mists", "[I", true)
  | 12 => ("TwinFires$Land", "letters", "I", false)
  | 13 => ("TwinFires$Land", "word", "[I", true)
  | 14 => ("TwinFires$Land", "nightHill", "[I", true)
  | _ => ("TwinFires$Land", "nightHow", "[I", true)
def tyX2 : Nat → FieldType := fun k => match k with
  | 0 => .int
  | 1 => .array .int
  | 2 => .array .int
  | 3 => .array .int
  | 4 => .array .int
  | 5 => .array .int
  | 6 => .int
  | 7 => .array (.object "TwinFires$Stone")
  | 8 => .array .int
  | 9 => .array .int
  | 10 => .array .int
  | 11 => .array .int
  | 12 => .int
  | 13 => .array .int
  | 14 => .array .int
  | _ => .array .int
theorem nmX2 : ∀ a, a < 16 → ∀ b, b < 16 → a ≠ b → (TX2 a).2.1 ≠ (TX2 b).2.1 := by decide +kernel
theorem tyX2_ok : ∀ k, k < 16 → parseFieldDescriptor (TX2 k).2.2.1 = some (tyX2 k) := by decide +kernel
def RX3 : String := "TwinFires$Line"
def TX3 : u_T := fun k => match k with
  | 0 => ("TwinFires$Line", "startX", "I", false)
  | 1 => ("TwinFires$Line", "startY", "I", false)
  | 2 => ("TwinFires$Line", "dx", "I", false)
  | 3 => ("TwinFires$Line", "dy", "I", false)
  | 4 => ("TwinFires$Line", "side", "I", false)
  | 5 => ("TwinFires$Line", "low", "I", false)
  | 6 => ("TwinFires$Line", "end", "I", false)
  | _ => ("TwinFires$Line", "square", "I", false)
def tyX3 : Nat → FieldType := fun k => match k with
  | 0 => .int
  | 1 => .int
  | 2 => .int
  | 3 => .int
  | 4 => .int
  | 5 => .int
  | 6 => .int
  | _ => .int
theorem nmX3 : ∀ a, a < 8 → ∀ b, b < 8 → a ≠ b → (TX3 a).2.1 ≠ (TX3 b).2.1 := by decide +kernel
theorem tyX3_ok : ∀ k, k < 8 → parseFieldDescriptor (TX3 k).2.2.1 = some (tyX3 k) := by decide +kernel
def RX4 : String := "TwinFires$Pine"
def TX4 : u_T := fun k => match k with
  | 0 => ("TwinFires$Stone", "kind", "I", true)
  | 1 => ("TwinFires$Stone", "x", "I", true)
  | 2 => ("TwinFires$Stone", "y", "I", true)
  | 3 => ("TwinFires$Stone", "h", "I", true)
  | _ => ("TwinFires$Stone", "g", "I", true)
def tyX4 : Nat → FieldType := fun k => match k with
  | 0 => .int
  | 1 => .int
  | 2 => .int
  | 3 => .int
  | _ => .int
theorem nmX4 : ∀ a, a < 5 → ∀ b, b < 5 → a ≠ b → (TX4 a).2.1 ≠ (TX4 b).2.1 := by decide +kernel
theorem tyX4_ok : ∀ k, k < 5 → parseFieldDescriptor (TX4 k).2.2.1 = some (tyX4 k) := by decide +kernel
def RX5 : String := "TwinFires$Rows"
def TX5 : u_T := fun k => match k with
  | 0 => ("TwinFires$Rows", "sets", "[I", true)
  | 1 => ("TwinFires$Rows", "found", "I", false)
  | 2 => ("TwinFires$Rows", "hours", "[I", true)
  | 3 => ("TwinFires$Rows", "marks", "[I", true)
  | 4 => ("TwinFires$Rows", "read", "[I", false)
  | _ => ("TwinFires$Rows", "readNext", "[I", false)
def tyX5 : Nat → FieldType := fun k => match k with
  | 0 => .array .int
  | 1 => .int
  | 2 => .array .int
  | 3 => .array .int
  | 4 => .array .int
  | _ => .array .int
theorem nmX5 : ∀ a, a < 6 → ∀ b, b < 6 → a ≠ b → (TX5 a).2.1 ≠ (TX5 b).2.1 := by decide +kernel
theorem tyX5_ok : ∀ k, k < 6 → parseFieldDescriptor (TX5 k).2.2.1 = some (tyX5 k) := by decide +kernel
def RX6 : String := "TwinFires$Stone"
def TX6 : u_T := fun k => match k with
  | 0 => ("TwinFires$Stone", "kind", "I", true)
  | 1 => ("TwinFires$Stone", "x", "I", true)
  | 2 => ("TwinFires$Stone", "y", "I", true)
  | 3 => ("TwinFires$Stone", "h", "I", true)
  | _ => ("TwinFires$Stone", "g", "I", true)
def tyX6 : Nat → FieldType := fun k => match k with
  | 0 => .int
  | 1 => .int
  | 2 => .int
  | 3 => .int
  | _ => .int
theorem nmX6 : ∀ a, a < 5 → ∀ b, b < 5 → a ≠ b → (TX6 a).2.1 ≠ (TX6 b).2.1 := by decide +kernel
theorem tyX6_ok : ∀ k, k < 5 → parseFieldDescriptor (TX6 k).2.2.1 = some (tyX6 k) := by decide +kernel
def RX7 : String := "TwinFires$Text"
def TX7 : u_T := fun k => match k with
  | 0 => ("TwinFires$Text", "bytes", "[I", true)
  | 1 => ("TwinFires$Text", "numbers", "[I", true)
  | 2 => ("TwinFires$Text", "length", "I", false)
  | 3 => ("TwinFires$Text", "tokenAt", "I", false)
  | _ => ("TwinFires$Text", "tokenEnd", "I", false)
def tyX7 : Nat → FieldType := fun k => match k with
  | 0 => .array .int
  | 1 => .array .int
  | 2 => .int
  | 3 => .int
  | _ => .int
theorem nmX7 : ∀ a, a < 5 → ∀ b, b < 5 → a ≠ b → (TX7 a).2.1 ≠ (TX7 b).2.1 := by decide +kernel
theorem tyX7_ok : ∀ k, k < 5 → parseFieldDescriptor (TX7 k).2.2.1 = some (tyX7 k) := by decide +kernel
def RX8 : String := "TwinFires$Topped"
def TX8 : u_T := fun k => match k with
  | 0 => ("TwinFires$Stone", "kind", "I", true)
  | 1 => ("TwinFires$Stone", "x", "I", true)
  | 2 => ("TwinFires$Stone", "y", "I", true)
  | 3 => ("TwinFires$Stone", "h", "I", true)
  | _ => ("TwinFires$Stone", "g", "I", true)
def tyX8 : Nat → FieldType := fun k => match k with
  | 0 => .int
  | 1 => .int
  | 2 => .int
  | 3 => .int
  | _ => .int
theorem nmX8 : ∀ a, a < 5 → ∀ b, b < 5 → a ≠ b → (TX8 a).2.1 ≠ (TX8 b).2.1 := by decide +kernel
theorem tyX8_ok : ∀ k, k < 5 → parseFieldDescriptor (TX8 k).2.2.1 = some (tyX8 k) := by decide +kernel
def RX9 : String := "TwinFires$Wall"
def TX9 : u_T := fun k => match k with
  | 0 => ("TwinFires$Stone", "kind", "I", true)
  | 1 => ("TwinFires$Stone", "x", "I", true)
  | 2 => ("TwinFires$Stone", "y", "I", true)
  | 3 => ("TwinFires$Stone", "h", "I", true)
  | _ => ("TwinFires$Stone", "g", "I", true)
def tyX9 : Nat → FieldType := fun k => match k with
  | 0 => .int
  | 1 => .int
  | 2 => .int
  | 3 => .int
  | _ => .int
theorem nmX9 : ∀ a, a < 5 → ∀ b, b < 5 → a ≠ b → (TX9 a).2.1 ≠ (TX9 b).2.1 := by decide +kernel
theorem tyX9_ok : ∀ k, k < 5 → parseFieldDescriptor (TX9 k).2.2.1 = some (tyX9 k) := by decide +kernel
def RX10 : String := "TwinFires$Wood"
def TX10 : u_T := fun k => match k with
  | 0 => ("TwinFires$Stone", "kind", "I", true)
  | 1 => ("TwinFires$Stone", "x", "I", true)
  | 2 => ("TwinFires$Stone", "y", "I", true)
  | 3 => ("TwinFires$Stone", "h", "I", true)
  | _ => ("TwinFires$Stone", "g", "I", true)
def tyX10 : Nat → FieldType := fun k => match k with
  | 0 => .int
  | 1 => .int
  | 2 => .int
  | 3 => .int
  | _ => .int
theorem nmX10 : ∀ a, a < 5 → ∀ b, b < 5 → a ≠ b → (TX10 a).2.1 ≠ (TX10 b).2.1 := by decide +kernel
theorem tyX10_ok : ∀ k, k < 5 → parseFieldDescriptor (TX10 k).2.2.1 = some (tyX10 k) := by decide +kernel
def RX11 : String := "TwinFires"
def TX11 : u_T := fun k => match k with
  | 0 => ("TwinFires", "here", "LTwinFires$Land;", false)
  | 1 => ("TwinFires", "draft", "LTwinFires$Land;", false)
  | 2 => ("TwinFires", "kept", "[LTwinFires$Land;", true)
  | 3 => ("TwinFires", "text", "LTwinFires$Text;", true)
  | 4 => ("TwinFires", "eyes", "LTwinFires$Eyes;", true)
  | 5 => ("TwinFires", "rows", "LTwinFires$Rows;", true)
  | 6 => ("TwinFires", "refused", "[I", true)
  | 7 => ("TwinFires", "above", "J", false)
  | _ => ("TwinFires", "below", "J", false)
def tyX11 : Nat → FieldType := fun k => match k with
  | 0 => .object "TwinFires$Land"
  | 1 => .object "TwinFires$Land"
  | 2 => .array (.object "TwinFires$Land")
  | 3 => .object "TwinFires$Text"
  | 4 => .object "TwinFires$Eyes"
  | 5 => .object "TwinFires$Rows"
  | 6 => .array .int
  | 7 => .long
  | _ => .long
theorem nmX11 : ∀ a, a < 9 → ∀ b, b < 9 → a ≠ b → (TX11 a).2.1 ≠ (TX11 b).2.1 := by decide +kernel
theorem tyX11_ok : ∀ k, k < 9 → parseFieldDescriptor (TX11 k).2.2.1 = some (tyX11 k) := by decide +kernel
def RX12 : String := "TwinFiresModel"
def TX12 : u_T := fun k => match k with
  | 0 => ("TwinFiresModel", "book", "[I", true)
  | 1 => ("TwinFiresModel", "images", "[I", true)
  | 2 => ("TwinFiresModel", "kept", "[Z", true)
  | 3 => ("TwinFiresModel", "before", "[I", true)
  | 4 => ("TwinFiresModel", "refused", "[I", true)
  | 5 => ("TwinFiresModel", "quiet", "Z", false)
  | 6 => ("TwinFiresModel", "above", "J", false)
  | 7 => ("TwinFiresModel", "below", "J", false)
  | 8 => ("TwinFiresModel", "see", "[I", true)
  | 9 => ("TwinFiresModel", "text", "[I", true)
  | 10 => ("TwinFiresModel", "typed", "I", false)
  | 11 => ("TwinFiresModel", "at", "I", false)
  | 12 => ("TwinFiresModel", "start", "I", false)
  | 13 => ("TwinFiresModel", "token", "I", false)
  | 14 => ("TwinFiresModel", "value", "I", false)
  | 15 => ("TwinFiresModel", "verbs", "[I", true)
  | 16 => ("TwinFiresModel", "nums", "[I", true)
  | 17 => ("TwinFiresModel", "items", "I", false)
  | 18 => ("TwinFiresModel", "laws", "[Z", true)
  | 19 => ("TwinFiresModel", "far", "[I", true)
  | 20 => ("TwinFiresModel", "queue", "[I", true)
  | 21 => ("TwinFiresModel", "seen", "[Z", true)
  | 22 => ("TwinFiresModel", "lawsAt", "[Z", true)
  | 23 => ("TwinFiresModel", "there", "[Z", true)
  | 24 => ("TwinFiresModel", "leads", "[Z", true)
  | 25 => ("TwinFiresModel", "read", "[I", true)
  | _ => ("TwinFiresModel", "waits", "[I", true)
def tyX12 : Nat → FieldType := fun k => match k with
  | 0 => .array .int
  | 1 => .array .int
  | 2 => .array .boolean
  | 3 => .array .int
  | 4 => .array .int
  | 5 => .boolean
  | 6 => .long
  | 7 => .long
  | 8 => .array .int
  | 9 => .array .int
  | 10 => .int
  | 11 => .int
  | 12 => .int
  | 13 => .int
  | 14 => .int
  | 15 => .array .int
  | 16 => .array .int
  | 17 => .int
  | 18 => .array .boolean
  | 19 => .array .int
  | 20 => .array .int
  | 21 => .array .boolean
  | 22 => .array .boolean
  | 23 => .array .boolean
  | 24 => .array .boolean
  | 25 => .array .int
  | _ => .array .int
theorem nmX12 : ∀ a, a < 27 → ∀ b, b < 27 → a ≠ b → (TX12 a).2.1 ≠ (TX12 b).2.1 := by decide +kernel
theorem tyX12_ok : ∀ k, k < 27 → parseFieldDescriptor (TX12 k).2.2.1 = some (tyX12 k) := by decide +kernel
abbrev vwCl : List vw_C := [(RX0, TX0, 4), (RX1, TX1, 5), (RX2, TX2, 16), (RX3, TX3, 8), (RX4, TX4, 5), (RX5, TX5, 6), (RX6, TX6, 5), (RX7, TX7, 5), (RX8, TX8, 5), (RX9, TX9, 5), (RX10, TX10, 5), (RX11, TX11, 9), (RX12, TX12, 27)]

