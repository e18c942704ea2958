/-! CLASSES: names, fields in the order of their slots, types (pasted from the printed names) -/
def RX0 : String := "FaultLists$Bench"
def TX0 : u_T := fun k => match k with
  | 0 => ("FaultLists$Bench", "good", "LFaultLists$Side;", true)
  | _ => ("FaultLists$Bench", "bad", "LFaultLists$Side;", true)
def tyX0 : Nat → FieldType := fun k => match k with
  | 0 => .object "FaultLists$Side"
  | _ => .object "FaultLists$Side"
abbrev wsX00 : List Cond := u_ws RX0 TX0 2
theorem nmX0 : ∀ a, a < 2 → ∀ b, b < 2 → a ≠ b → (TX0 a).2.1 ≠ (TX0 b).2.1 := by decide +kernel
theorem tyX0_ok : ∀ k, k < 2 → parseFieldDescriptor (TX0 k).2.2.1 = some (tyX0 k) := by decide +kernel
def RX1 : String := "FaultLists$Cells"
def TX1 : u_T := fun k => match k with
  | _ => ("FaultLists$Cells", "cells", "[J", true)
def tyX1 : Nat → FieldType := fun k => match k with
  | _ => .array .long
abbrev wsX10 : List Cond := u_ws RX1 TX1 1
theorem nmX1 : ∀ a, a < 1 → ∀ b, b < 1 → a ≠ b → (TX1 a).2.1 ≠ (TX1 b).2.1 := by decide +kernel
theorem tyX1_ok : ∀ k, k < 1 → parseFieldDescriptor (TX1 k).2.2.1 = some (tyX1 k) := by decide +kernel
def RX2 : String := "FaultLists$Kin"
def TX2 : u_T := fun k => match k with
  | _ => ("FaultLists$Kin", "of", "LFaultLists$Cells;", true)
def tyX2 : Nat → FieldType := fun k => match k with
  | _ => .object "FaultLists$Cells"
abbrev wsX20 : List Cond := u_ws RX2 TX2 1
theorem nmX2 : ∀ a, a < 1 → ∀ b, b < 1 → a ≠ b → (TX2 a).2.1 ≠ (TX2 b).2.1 := by decide +kernel
theorem tyX2_ok : ∀ k, k < 1 → parseFieldDescriptor (TX2 k).2.2.1 = some (tyX2 k) := by decide +kernel
def RX3 : String := "FaultLists$Moves"
def TX3 : u_T := fun k => match k with
  | 0 => ("FaultLists$Moves", "side", "LFaultLists$Side;", true)
  | 1 => ("FaultLists$Moves", "made", "LFaultLists$Cells;", true)
  | 2 => ("FaultLists$Moves", "ones", "LFaultLists$Cells;", true)
  | _ => ("FaultLists$Moves", "zeros", "LFaultLists$Cells;", true)
def tyX3 : Nat → FieldType := fun k => match k with
  | 0 => .object "FaultLists$Side"
  | 1 => .object "FaultLists$Cells"
  | 2 => .object "FaultLists$Cells"
  | _ => .object "FaultLists$Cells"
abbrev wsX30 : List Cond := u_ws RX3 TX3 4
theorem nmX3 : ∀ a, a < 4 → ∀ b, b < 4 → a ≠ b → (TX3 a).2.1 ≠ (TX3 b).2.1 := by decide +kernel
theorem tyX3_ok : ∀ k, k < 4 → parseFieldDescriptor (TX3 k).2.2.1 = some (tyX3 k) := by decide +kernel
def RX4 : String := "FaultLists$Net"
def TX4 : u_T := fun k => match k with
  | 0 => ("FaultLists$Net", "inputs", "I", false)
  | 1 => ("FaultLists$Net", "lines", "I", false)
  | 2 => ("FaultLists$Net", "pins", "I", false)
  | 3 => ("FaultLists$Net", "registers", "I", false)
  | 4 => ("FaultLists$Net", "outputs", "I", false)
  | 5 => ("FaultLists$Net", "sorts", "LFaultLists$Cells;", true)
  | 6 => ("FaultLists$Net", "widths", "LFaultLists$Cells;", true)
  | 7 => ("FaultLists$Net", "firsts", "LFaultLists$Cells;", true)
  | 8 => ("FaultLists$Net", "starts", "LFaultLists$Cells;", true)
  | 9 => ("FaultLists$Net", "reads", "LFaultLists$Cells;", true)
  | _ => ("FaultLists$Net", "outs", "LFaultLists$Cells;", true)
def tyX4 : Nat → FieldType := fun k => match k with
  | 0 => .int
  | 1 => .int
  | 2 => .int
  | 3 => .int
  | 4 => .int
  | 5 => .object "FaultLists$Cells"
  | 6 => .object "FaultLists$Cells"
  | 7 => .object "FaultLists$Cells"
  | 8 => .object "FaultLists$Cells"
  | 9 => .object "FaultLists$Cells"
  | _ => .object "FaultLists$Cells"
abbrev wsX40 : List Cond := u_ws RX4 TX4 11
theorem nmX4 : ∀ a, a < 11 → ∀ b, b < 11 → a ≠ b → (TX4 a).2.1 ≠ (TX4 b).2.1 := by decide +kernel
theorem tyX4_ok : ∀ k, k < 11 → parseFieldDescriptor (TX4 k).2.2.1 = some (tyX4 k) := by decide +kernel
def RX5 : String := "FaultLists$Pile"
def TX5 : u_T := fun k => match k with
  | 0 => ("FaultLists$Pile", "cells", "LFaultLists$Cells;", true)
  | 1 => ("FaultLists$Pile", "room", "I", true)
  | _ => ("FaultLists$Pile", "size", "I", false)
def tyX5 : Nat → FieldType := fun k => match k with
  | 0 => .object "FaultLists$Cells"
  | 1 => .int
  | _ => .int
abbrev wsX50 : List Cond := u_ws RX5 TX5 3
theorem nmX5 : ∀ a, a < 3 → ∀ b, b < 3 → a ≠ b → (TX5 a).2.1 ≠ (TX5 b).2.1 := by decide +kernel
theorem tyX5_ok : ∀ k, k < 3 → parseFieldDescriptor (TX5 k).2.2.1 = some (tyX5 k) := by decide +kernel
def RX6 : String := "FaultLists$Reader"
def TX6 : u_T := fun k => match k with
  | 0 => ("FaultLists$Reader", "net", "LFaultLists$Net;", true)
  | 1 => ("FaultLists$Reader", "kinds", "LFaultLists$Pile;", true)
  | 2 => ("FaultLists$Reader", "numbers", "LFaultLists$Pile;", true)
  | 3 => ("FaultLists$Reader", "place", "I", false)
  | _ => ("FaultLists$Reader", "refused", "Z", false)
def tyX6 : Nat → FieldType := fun k => match k with
  | 0 => .object "FaultLists$Net"
  | 1 => .object "FaultLists$Pile"
  | 2 => .object "FaultLists$Pile"
  | 3 => .int
  | _ => .boolean
abbrev wsX60 : List Cond := u_ws RX6 TX6 5
theorem nmX6 : ∀ a, a < 5 → ∀ b, b < 5 → a ≠ b → (TX6 a).2.1 ≠ (TX6 b).2.1 := by decide +kernel
theorem tyX6_ok : ∀ k, k < 5 → parseFieldDescriptor (TX6 k).2.2.1 = some (tyX6 k) := by decide +kernel
def RX7 : String := "FaultLists$Run"
def TX7 : u_T := fun k => match k with
  | 0 => ("FaultLists$Run", "net", "LFaultLists$Net;", true)
  | 1 => ("FaultLists$Run", "bench", "LFaultLists$Bench;", true)
  | 2 => ("FaultLists$Run", "patterns", "LFaultLists$Cells;", true)
  | 3 => ("FaultLists$Run", "ticks", "I", false)
  | 4 => ("FaultLists$Run", "dropping", "Z", false)
  | 5 => ("FaultLists$Run", "caught", "J", false)
  | 6 => ("FaultLists$Run", "dropped", "J", false)
  | 7 => ("FaultLists$Run", "suspects", "J", false)
  | 8 => ("FaultLists$Run", "caughtWhen", "LFaultLists$Cells;", true)
  | _ => ("FaultLists$Run", "caughtWhere", "LFaultLists$Cells;", true)
def tyX7 : Nat → FieldType := fun k => match k with
  | 0 => .object "FaultLists$Net"
  | 1 => .object "FaultLists$Bench"
  | 2 => .object "FaultLists$Cells"
  | 3 => .int
  | 4 => .boolean
  | 5 => .long
  | 6 => .long
  | 7 => .long
  | 8 => .object "FaultLists$Cells"
  | _ => .object "FaultLists$Cells"
abbrev wsX70 : List Cond := u_ws RX7 TX7 10
theorem nmX7 : ∀ a, a < 10 → ∀ b, b < 10 → a ≠ b → (TX7 a).2.1 ≠ (TX7 b).2.1 := by decide +kernel
theorem tyX7_ok : ∀ k, k < 10 → parseFieldDescriptor (TX7 k).2.2.1 = some (tyX7 k) := by decide +kernel
def RX8 : String := "FaultLists$Search"
def TX8 : u_T := fun k => match k with
  | 0 => ("FaultLists$Search", "found", "LFaultLists$Cells;", true)
  | 1 => ("FaultLists$Search", "good", "LFaultLists$Moves;", true)
  | 2 => ("FaultLists$Search", "bad", "LFaultLists$Moves;", true)
  | 3 => ("FaultLists$Search", "seen", "LFaultLists$Cells;", true)
  | 4 => ("FaultLists$Search", "pairs", "LFaultLists$Cells;", true)
  | 5 => ("FaultLists$Search", "depths", "LFaultLists$Cells;", true)
  | 6 => ("FaultLists$Search", "parents", "LFaultLists$Cells;", true)
  | 7 => ("FaultLists$Search", "numbers", "LFaultLists$Cells;", true)
  | _ => ("FaultLists$Search", "size", "I", false)
def tyX8 : Nat → FieldType := fun k => match k with
  | 0 => .object "FaultLists$Cells"
  | 1 => .object "FaultLists$Moves"
  | 2 => .object "FaultLists$Moves"
  | 3 => .object "FaultLists$Cells"
  | 4 => .object "FaultLists$Cells"
  | 5 => .object "FaultLists$Cells"
  | 6 => .object "FaultLists$Cells"
  | 7 => .object "FaultLists$Cells"
  | _ => .int
abbrev wsX80 : List Cond := u_ws RX8 TX8 9
theorem nmX8 : ∀ a, a < 9 → ∀ b, b < 9 → a ≠ b → (TX8 a).2.1 ≠ (TX8 b).2.1 := by decide +kernel
theorem tyX8_ok : ∀ k, k < 9 → parseFieldDescriptor (TX8 k).2.2.1 = some (tyX8 k) := by decide +kernel
def RX9 : String := "FaultLists$Side"
def TX9 : u_T := fun k => match k with
  | 0 => ("FaultLists$Side", "ones", "LFaultLists$Cells;", true)
  | 1 => ("FaultLists$Side", "zeros", "LFaultLists$Cells;", true)
  | 2 => ("FaultLists$Side", "heldOnes", "LFaultLists$Cells;", true)
  | _ => ("FaultLists$Side", "heldZeros", "LFaultLists$Cells;", true)
def tyX9 : Nat → FieldType := fun k => match k with
  | 0 => .object "FaultLists$Cells"
  | 1 => .object "FaultLists$Cells"
  | 2 => .object "FaultLists$Cells"
  | _ => .object "FaultLists$Cells"
abbrev wsX90 : List Cond := u_ws RX9 TX9 4
theorem nmX9 : ∀ a, a < 4 → ∀ b, b < 4 → a ≠ b → (TX9 a).2.1 ≠ (TX9 b).2.1 := by decide +kernel
theorem tyX9_ok : ∀ k, k < 4 → parseFieldDescriptor (TX9 k).2.2.1 = some (tyX9 k) := by decide +kernel
def RX10 : String := "FaultLists"
def TX10 : u_T := fun k => match k with
  | 0 => ("FaultLists", "text", "LFaultLists$Pile;", true)
  | 1 => ("FaultLists", "told", "LFaultLists$Pile;", true)
  | 2 => ("FaultLists", "reader", "LFaultLists$Reader;", true)
  | 3 => ("FaultLists", "now", "LFaultLists$Run;", true)
  | 4 => ("FaultLists", "kept0", "LFaultLists$Run;", true)
  | 5 => ("FaultLists", "kept1", "LFaultLists$Run;", true)
  | 6 => ("FaultLists", "isKept0", "Z", false)
  | 7 => ("FaultLists", "isKept1", "Z", false)
  | 8 => ("FaultLists", "trial", "LFaultLists$Run;", true)
  | 9 => ("FaultLists", "bench", "LFaultLists$Bench;", true)
  | 10 => ("FaultLists", "probe", "LFaultLists$Side;", true)
  | 11 => ("FaultLists", "kin", "LFaultLists$Kin;", true)
  | _ => ("FaultLists", "search", "LFaultLists$Search;", true)
def tyX10 : Nat → FieldType := fun k => match k with
  | 0 => .object "FaultLists$Pile"
  | 1 => .object "FaultLists$Pile"
  | 2 => .object "FaultLists$Reader"
  | 3 => .object "FaultLists$Run"
  | 4 => .object "FaultLists$Run"
  | 5 => .object "FaultLists$Run"
  | 6 => .boolean
  | 7 => .boolean
  | 8 => .object "FaultLists$Run"
  | 9 => .object "FaultLists$Bench"
  | 10 => .object "FaultLists$Side"
  | 11 => .object "FaultLists$Kin"
  | _ => .object "FaultLists$Search"
abbrev wsX100 : List Cond := u_ws RX10 TX10 13
theorem nmX10 : ∀ a, a < 13 → ∀ b, b < 13 → a ≠ b → (TX10 a).2.1 ≠ (TX10 b).2.1 := by decide +kernel
theorem tyX10_ok : ∀ k, k < 13 → parseFieldDescriptor (TX10 k).2.2.1 = some (tyX10 k) := by decide +kernel
def RX11 : String := "FaultListsModel"
def TX11 : u_T := fun k => match k with
  | 0 => ("FaultListsModel", "thrown", "I", false)
  | 1 => ("FaultListsModel", "told", "I", false)
  | 2 => ("FaultListsModel", "row", "[J", true)
  | 3 => ("FaultListsModel", "tape", "[I", true)
  | 4 => ("FaultListsModel", "taped", "I", false)
  | 5 => ("FaultListsModel", "at", "I", false)
  | 6 => ("FaultListsModel", "to", "I", false)
  | 7 => ("FaultListsModel", "mem", "[I", true)
  | 8 => ("FaultListsModel", "suspects", "[J", true)
  | 9 => ("FaultListsModel", "causeKind", "[I", true)
  | 10 => ("FaultListsModel", "causeNumber", "[I", true)
  | 11 => ("FaultListsModel", "causes", "I", false)
  | 12 => ("FaultListsModel", "readRegisters", "I", false)
  | 13 => ("FaultListsModel", "val", "[I", true)
  | 14 => ("FaultListsModel", "hold", "[I", true)
  | 15 => ("FaultListsModel", "list", "[I", true)
  | 16 => ("FaultListsModel", "listed", "I", false)
  | 17 => ("FaultListsModel", "good", "[I", true)
  | 18 => ("FaultListsModel", "goodHold", "[I", true)
  | 19 => ("FaultListsModel", "firstAt", "[I", true)
  | 20 => ("FaultListsModel", "shownAt", "[I", true)
  | 21 => ("FaultListsModel", "droppedAt", "[I", true)
  | 22 => ("FaultListsModel", "faultVal", "[I", true)
  | 23 => ("FaultListsModel", "faultHold", "[I", true)
  | 24 => ("FaultListsModel", "least", "[I", true)
  | 25 => ("FaultListsModel", "pairs", "[I", true)
  | 26 => ("FaultListsModel", "ahead", "[I", true)
  | 27 => ("FaultListsModel", "by", "[I", true)
  | 28 => ("FaultListsModel", "deep", "[I", true)
  | 29 => ("FaultListsModel", "found", "I", false)
  | 30 => ("FaultListsModel", "rowOf", "[I", true)
  | 31 => ("FaultListsModel", "outs", "[I", true)
  | 32 => ("FaultListsModel", "random", "I", false)
  | _ => ("FaultListsModel", "isKept", "[Z", true)
def tyX11 : Nat → FieldType := fun k => match k with
  | 0 => .int
  | 1 => .int
  | 2 => .array .long
  | 3 => .array .int
  | 4 => .int
  | 5 => .int
  | 6 => .int
  | 7 => .array .int
  | 8 => .array .long
  | 9 => .array .int
  | 10 => .array .int
  | 11 => .int
  | 12 => .int
  | 13 => .array .int
  | 14 => .array .int
  | 15 => .array .int
  | 16 => .int
  | 17 => .array .int
  | 18 => .array .int
  | 19 => .array .int
  | 20 => .array .int
  | 21 => .array .int
  | 22 => .array .int
  | 23 => .array .int
  | 24 => .array .int
  | 25 => .array .int
  | 26 => .array .int
  | 27 => .array .int
  | 28 => .array .int
  | 29 => .int
  | 30 => .array .int
  | 31 => .array .int
  | 32 => .int
  | _ => .array .boolean
abbrev wsX110 : List Cond := u_ws RX11 TX11 34
theorem nmX11 : ∀ a, a < 34 → ∀ b, b < 34 → a ≠ b → (TX11 a).2.1 ≠ (TX11 b).2.1 := by decide +kernel
theorem tyX11_ok : ∀ k, k < 34 → parseFieldDescriptor (TX11 k).2.2.1 = some (tyX11 k) := by decide +kernel
abbrev vwCl : List vw_C := [(RX0, TX0, 2), (RX1, TX1, 1), (RX2, TX2, 1), (RX3, TX3, 4), (RX4, TX4, 11), (RX5, TX5, 3), (RX6, TX6, 5), (RX7, TX7, 10), (RX8, TX8, 9), (RX9, TX9, 4), (RX10, TX10, 13), (RX11, TX11, 34)]
def fl_cl0 (i : Nat) : vw_C := vwCl.getD i ("", TX0, 0)
/-- the kinds of a class's fields: 0 int, 1 long, 2 a reference, 3 boolean -/
def fl_ft (i : Nat) : List Nat := ([[2, 2], [2], [2], [2, 2, 2, 2], [0, 0, 0, 0, 0, 2, 2, 2, 2, 2, 2], [2, 0, 0], [2, 2, 2, 0, 3], [2, 2, 2, 0, 3, 1, 1, 1, 2, 2], [2, 2, 2, 2, 2, 2, 2, 2, 0], [2, 2, 2, 2], [2, 2, 2, 2, 2, 2, 3, 3, 2, 2, 2, 2, 2], [0, 0, 2, 2, 0, 0, 0, 2, 2, 2, 2, 0, 0, 2, 2, 2, 0, 2, 2, 2, 2, 2, 2, 2, 2, 2, 2, 2, 2, 0, 2, 2, 0, 2]] : List (List Nat)).getD i []
