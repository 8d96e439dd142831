def RX0 : String := "PhasorTree$Frame"
def TX0 : u_T := fun k => match k with
  | 0 => ("PhasorTree$Frame", "child", "I", false)
  | 1 => ("PhasorTree$Frame", "stamp", "I", false)
  | 2 => ("PhasorTree$Frame", "slot", "I", false)
  | 3 => ("PhasorTree$Frame", "time", "I", false)
  | 4 => ("PhasorTree$Frame", "missing", "I", false)
  | 5 => ("PhasorTree$Frame", "present", "I", false)
  | 6 => ("PhasorTree$Frame", "values", "[I", true)
  | _ => ("PhasorTree$Frame", "flags", "[I", true)
def tyX0 : Nat → FieldType := fun k => match k with
  | 0 => .int
  | 1 => .int
  | 2 => .int
  | 3 => .int
  | 4 => .int
  | 5 => .int
  | 6 => .array .int
  | _ => .array .int
abbrev wsX00 : List Cond := u_ws RX0 TX0 8
theorem nmX0 : ∀ a, a < 8 → ∀ b, b < 8 → a ≠ b → (TX0 a).2.1 ≠ (TX0 b).2.1 := by decide +kernel
theorem tyX0_ok : ∀ k, k < 8 → parseFieldDescriptor (TX0 k).2.2.1 = some (tyX0 k) := by decide +kernel
theorem inX0 : ∀ w ∈ wsX00, w ∈ lw_tbl := by decide +kernel
def RX1 : String := "PhasorTree$Hub"
def TX1 : u_T := fun k => match k with
  | 0 => ("PhasorTree$Hub", "settings", "[I", true)
  | 1 => ("PhasorTree$Hub", "kept", "LPhasorTree$Row;", true)
  | 2 => ("PhasorTree$Hub", "held", "LPhasorTree$Frame;", true)
  | 3 => ("PhasorTree$Hub", "above", "I", false)
  | 4 => ("PhasorTree$Hub", "depth", "I", false)
  | 5 => ("PhasorTree$Hub", "released", "I", false)
  | 6 => ("PhasorTree$Hub", "late", "I", false)
  | 7 => ("PhasorTree$Hub", "doubles", "I", false)
  | _ => ("PhasorTree$Hub", "latest", "I", false)
def tyX1 : Nat → FieldType := fun k => match k with
  | 0 => .array .int
  | 1 => .object "PhasorTree$Row"
  | 2 => .object "PhasorTree$Frame"
  | 3 => .int
  | 4 => .int
  | 5 => .int
  | 6 => .int
  | 7 => .int
  | _ => .int
abbrev wsX10 : List Cond := u_ws RX1 TX1 9
theorem nmX1 : ∀ a, a < 9 → ∀ b, b < 9 → a ≠ b → (TX1 a).2.1 ≠ (TX1 b).2.1 := by decide +kernel
theorem tyX1_ok : ∀ k, k < 9 → parseFieldDescriptor (TX1 k).2.2.1 = some (tyX1 k) := by decide +kernel
theorem inX1 : ∀ w ∈ wsX10, w ∈ lw_tbl := by decide +kernel
def RX2 : String := "PhasorTree$Orders"
def TX2 : u_T := fun k => match k with
  | 0 => ("PhasorTree$Orders", "text", "[C", true)
  | 1 => ("PhasorTree$Orders", "length", "I", false)
  | 2 => ("PhasorTree$Orders", "at", "I", false)
  | 3 => ("PhasorTree$Orders", "kind", "C", false)
  | 4 => ("PhasorTree$Orders", "numbers", "[I", true)
  | 5 => ("PhasorTree$Orders", "done", "I", false)
  | 6 => ("PhasorTree$Orders", "start", "I", false)
  | _ => ("PhasorTree$Orders", "reason", "I", false)
def tyX2 : Nat → FieldType := fun k => match k with
  | 0 => .array .char
  | 1 => .int
  | 2 => .int
  | 3 => .char
  | 4 => .array .int
  | 5 => .int
  | 6 => .int
  | _ => .int
abbrev wsX20 : List Cond := u_ws RX2 TX2 8
theorem nmX2 : ∀ a, a < 8 → ∀ b, b < 8 → a ≠ b → (TX2 a).2.1 ≠ (TX2 b).2.1 := by decide +kernel
theorem tyX2_ok : ∀ k, k < 8 → parseFieldDescriptor (TX2 k).2.2.1 = some (tyX2 k) := by decide +kernel
theorem inX2 : ∀ w ∈ wsX20, w ∈ lw_tbl := by decide +kernel
def RX3 : String := "PhasorTree$Row"
def TX3 : u_T := fun k => match k with
  | 0 => ("PhasorTree$Row", "frames", "[LPhasorTree$Frame;", false)
  | _ => ("PhasorTree$Row", "size", "I", false)
def tyX3 : Nat → FieldType := fun k => match k with
  | 0 => .array (.object "PhasorTree$Frame")
  | _ => .int
abbrev wsX30 : List Cond := u_ws RX3 TX3 2
theorem nmX3 : ∀ a, a < 2 → ∀ b, b < 2 → a ≠ b → (TX3 a).2.1 ≠ (TX3 b).2.1 := by decide +kernel
theorem tyX3_ok : ∀ k, k < 2 → parseFieldDescriptor (TX3 k).2.2.1 = some (tyX3 k) := by decide +kernel
theorem inX3 : ∀ w ∈ wsX30, w ∈ lw_tbl := by decide +kernel
def RX4 : String := "PhasorTree$Tree"
def TX4 : u_T := fun k => match k with
  | 0 => ("PhasorTree$Tree", "hubs", "[LPhasorTree$Hub;", true)
  | 1 => ("PhasorTree$Tree", "units", "[LPhasorTree$Unit;", true)
  | 2 => ("PhasorTree$Tree", "way", "LPhasorTree$Row;", true)
  | 3 => ("PhasorTree$Tree", "outputs", "[LPhasorTree$Frame;", true)
  | 4 => ("PhasorTree$Tree", "hubCount", "I", false)
  | 5 => ("PhasorTree$Tree", "unitCount", "I", false)
  | 6 => ("PhasorTree$Tree", "time", "I", false)
  | 7 => ("PhasorTree$Tree", "outputCount", "I", false)
  | 8 => ("PhasorTree$Tree", "mostTicks", "I", false)
  | 9 => ("PhasorTree$Tree", "built", "LPhasorTree$Frame;", true)
  | 10 => ("PhasorTree$Tree", "tally", "[I", true)
  | _ => ("PhasorTree$Tree", "taken", "[I", true)
def tyX4 : Nat → FieldType := fun k => match k with
  | 0 => .array (.object "PhasorTree$Hub")
  | 1 => .array (.object "PhasorTree$Unit")
  | 2 => .object "PhasorTree$Row"
  | 3 => .array (.object "PhasorTree$Frame")
  | 4 => .int
  | 5 => .int
  | 6 => .int
  | 7 => .int
  | 8 => .int
  | 9 => .object "PhasorTree$Frame"
  | 10 => .array .int
  | _ => .array .int
abbrev wsX40 : List Cond := u_ws RX4 TX4 12
theorem nmX4 : ∀ a, a < 12 → ∀ b, b < 12 → a ≠ b → (TX4 a).2.1 ≠ (TX4 b).2.1 := by decide +kernel
theorem tyX4_ok : ∀ k, k < 12 → parseFieldDescriptor (TX4 k).2.2.1 = some (tyX4 k) := by decide +kernel
theorem inX4 : ∀ w ∈ wsX40, w ∈ lw_tbl := by decide +kernel
def RX5 : String := "PhasorTree$Unit"
def TX5 : u_T := fun k => match k with
  | 0 => ("PhasorTree$Unit", "hub", "I", false)
  | 1 => ("PhasorTree$Unit", "period", "I", false)
  | 2 => ("PhasorTree$Unit", "isOff", "Z", false)
  | _ => ("PhasorTree$Unit", "sent", "I", false)
def tyX5 : Nat → FieldType := fun k => match k with
  | 0 => .int
  | 1 => .int
  | 2 => .boolean
  | _ => .int
abbrev wsX50 : List Cond := u_ws RX5 TX5 4
theorem nmX5 : ∀ a, a < 4 → ∀ b, b < 4 → a ≠ b → (TX5 a).2.1 ≠ (TX5 b).2.1 := by decide +kernel
theorem tyX5_ok : ∀ k, k < 4 → parseFieldDescriptor (TX5 k).2.2.1 = some (tyX5 k) := by decide +kernel
theorem inX5 : ∀ w ∈ wsX50, w ∈ lw_tbl := by decide +kernel
def RX6 : String := "PhasorTree"
def TX6 : u_T := fun k => match k with
  | 0 => ("PhasorTree", "history", "[LPhasorTree$Tree;", true)
  | 1 => ("PhasorTree", "orders", "LPhasorTree$Orders;", true)
  | 2 => ("PhasorTree", "now", "LPhasorTree$Tree;", false)
  | 3 => ("PhasorTree", "trial", "LPhasorTree$Tree;", false)
  | _ => ("PhasorTree", "states", "I", false)
def tyX6 : Nat → FieldType := fun k => match k with
  | 0 => .array (.object "PhasorTree$Tree")
  | 1 => .object "PhasorTree$Orders"
  | 2 => .object "PhasorTree$Tree"
  | 3 => .object "PhasorTree$Tree"
  | _ => .int
abbrev wsX60 : List Cond := u_ws RX6 TX6 5
theorem nmX6 : ∀ a, a < 5 → ∀ b, b < 5 → a ≠ b → (TX6 a).2.1 ≠ (TX6 b).2.1 := by decide +kernel
theorem tyX6_ok : ∀ k, k < 5 → parseFieldDescriptor (TX6 k).2.2.1 = some (tyX6 k) := by decide +kernel
theorem inX6 : ∀ w ∈ wsX60, w ∈ lw_tbl := by decide +kernel
abbrev ev_cl : List vw_C := [(RX0, TX0, 8), (RX1, TX1, 9), (RX2, TX2, 8), (RX3, TX3, 2), (RX4, TX4, 12), (RX5, TX5, 4), (RX6, TX6, 5), (RX6, TX6, 5)]
/-- kind of a field: 0 int, 1 reference, 2 char, 3 boolean -/
def ev_fk : List (List Nat) := [[0, 0, 0, 0, 0, 0, 1, 1], [1, 1, 1, 0, 0, 0, 0, 0, 0], [1, 0, 0, 2, 1, 0, 0, 0], [1, 0], [1, 1, 1, 1, 0, 0, 0, 0, 0, 1, 1, 1], [0, 0, 3, 0], [1, 1, 1, 1, 0], [1, 1, 1, 1, 0]]
