def RX0 : String := "OmegaNets$Goals"
def TX0 : u_T := fun k => match k with
  | 0 => ("OmegaNets$Goals", "net", "LOmegaNets$Net;", true)
  | 1 => ("OmegaNets$Goals", "markings", "[[I", true)
  | 2 => ("OmegaNets$Goals", "nexts", "[I", true)
  | 3 => ("OmegaNets$Goals", "transitions", "[I", true)
  | 4 => ("OmegaNets$Goals", "depths", "[I", true)
  | 5 => ("OmegaNets$Goals", "givenUp", "[Z", true)
  | 6 => ("OmegaNets$Goals", "candidate", "[I", true)
  | 7 => ("OmegaNets$Goals", "size", "I", false)
  | _ => ("OmegaNets$Goals", "made", "Z", false)
def tyX0 : Nat → FieldType := fun k => match k with
  | 0 => .object "OmegaNets$Net"
  | 1 => .array (.array .int)
  | 2 => .array .int
  | 3 => .array .int
  | 4 => .array .int
  | 5 => .array .boolean
  | 6 => .array .int
  | 7 => .int
  | _ => .boolean
theorem nmX0 : ∀ a, a < 9 → ∀ b, b < 9 → a ≠ b → (TX0 a).2.1 ≠ (TX0 b).2.1 := by decide +kernel
theorem tyX0_ok : ∀ k, k < 9 → parseFieldDescriptor (TX0 k).2.2.1 = some (tyX0 k) := by decide +kernel
theorem inX0 : ∀ w ∈ u_ws RX0 TX0 9, w ∈ lw_tbl := fun w h => List.mem_append_right _ (goodIn_r (big := tables_1) (u_ws RX0 TX0 9) [135, 137, 139, 141, 143, 145, 147, 149, 151] (by decide +kernel) (by decide +kernel) w h).1
def rfX0 : List Bool := [true, true, true, true, true, true, true, false, false]
theorem isX0 : (Cond.instantiable RX0 9) ∈ lw_tbl := List.mem_append_right _ (List.mem_of_getElem? (i := 117) (by decide +kernel))
def RX1 : String := "OmegaNets$Net"
def TX1 : u_T := fun k => match k with
  | 0 => ("OmegaNets$Net", "places", "I", true)
  | 1 => ("OmegaNets$Net", "transitions", "I", true)
  | 2 => ("OmegaNets$Net", "needs", "[[I", true)
  | 3 => ("OmegaNets$Net", "gives", "[[I", true)
  | _ => ("OmegaNets$Net", "first", "[I", true)
def tyX1 : Nat → FieldType := fun k => match k with
  | 0 => .int
  | 1 => .int
  | 2 => .array (.array .int)
  | 3 => .array (.array .int)
  | _ => .array .int
theorem nmX1 : ∀ a, a < 5 → ∀ b, b < 5 → a ≠ b → (TX1 a).2.1 ≠ (TX1 b).2.1 := by decide +kernel
theorem tyX1_ok : ∀ k, k < 5 → parseFieldDescriptor (TX1 k).2.2.1 = some (tyX1 k) := by decide +kernel
theorem inX1 : ∀ w ∈ u_ws RX1 TX1 5, w ∈ lw_tbl := fun w h => List.mem_append_right _ (goodIn_r (big := tables_1) (u_ws RX1 TX1 5) [56, 58, 60, 62, 64] (by decide +kernel) (by decide +kernel) w h).1
def rfX1 : List Bool := [false, false, true, true, true]
theorem isX1 : (Cond.instantiable RX1 5) ∈ lw_tbl := List.mem_append_right _ (List.mem_of_getElem? (i := 24) (by decide +kernel))
def RX2 : String := "OmegaNets$Tree"
def TX2 : u_T := fun k => match k with
  | 0 => ("OmegaNets$Tree", "net", "LOmegaNets$Net;", true)
  | 1 => ("OmegaNets$Tree", "markings", "[[I", true)
  | 2 => ("OmegaNets$Tree", "parents", "[I", true)
  | 3 => ("OmegaNets$Tree", "transitions", "[I", true)
  | 4 => ("OmegaNets$Tree", "depths", "[I", true)
  | 5 => ("OmegaNets$Tree", "leaves", "[Z", true)
  | 6 => ("OmegaNets$Tree", "peaks", "[I", true)
  | 7 => ("OmegaNets$Tree", "size", "I", false)
  | 8 => ("OmegaNets$Tree", "peakCount", "I", false)
  | _ => ("OmegaNets$Tree", "made", "Z", false)
def tyX2 : Nat → FieldType := fun k => match k with
  | 0 => .object "OmegaNets$Net"
  | 1 => .array (.array .int)
  | 2 => .array .int
  | 3 => .array .int
  | 4 => .array .int
  | 5 => .array .boolean
  | 6 => .array .int
  | 7 => .int
  | 8 => .int
  | _ => .boolean
theorem nmX2 : ∀ a, a < 10 → ∀ b, b < 10 → a ≠ b → (TX2 a).2.1 ≠ (TX2 b).2.1 := by decide +kernel
theorem tyX2_ok : ∀ k, k < 10 → parseFieldDescriptor (TX2 k).2.2.1 = some (tyX2 k) := by decide +kernel
theorem inX2 : ∀ w ∈ u_ws RX2 TX2 10, w ∈ lw_tbl := fun w h => List.mem_append_right _ (goodIn_r (big := tables_1) (u_ws RX2 TX2 10) [94, 96, 98, 100, 102, 104, 106, 108, 110, 112] (by decide +kernel) (by decide +kernel) w h).1
def rfX2 : List Bool := [true, true, true, true, true, true, true, false, false, false]
theorem isX2 : (Cond.instantiable RX2 10) ∈ lw_tbl := List.mem_append_right _ (List.mem_of_getElem? (i := 69) (by decide +kernel))
def RX3 : String := "OmegaNets"
def TX3 : u_T := fun k => match k with
  | 0 => ("OmegaNets", "net", "LOmegaNets$Net;", true)
  | 1 => ("OmegaNets", "tree", "LOmegaNets$Tree;", true)
  | 2 => ("OmegaNets", "goals", "LOmegaNets$Goals;", true)
  | 3 => ("OmegaNets", "wanted", "[I", true)
  | 4 => ("OmegaNets", "present", "[I", true)
  | _ => ("OmegaNets", "firings", "I", false)
def tyX3 : Nat → FieldType := fun k => match k with
  | 0 => .object "OmegaNets$Net"
  | 1 => .object "OmegaNets$Tree"
  | 2 => .object "OmegaNets$Goals"
  | 3 => .array .int
  | 4 => .array .int
  | _ => .int
theorem nmX3 : ∀ a, a < 6 → ∀ b, b < 6 → a ≠ b → (TX3 a).2.1 ≠ (TX3 b).2.1 := by decide +kernel
theorem tyX3_ok : ∀ k, k < 6 → parseFieldDescriptor (TX3 k).2.2.1 = some (tyX3 k) := by decide +kernel
theorem inX3 : ∀ w ∈ u_ws RX3 TX3 6, w ∈ lw_tbl := fun w h => List.mem_append_right _ (goodIn_r (big := tables_1) (u_ws RX3 TX3 6) [160, 162, 164, 166, 168, 170] (by decide +kernel) (by decide +kernel) w h).1
def rfX3 : List Bool := [true, true, true, true, true, false]
theorem isX3 : (Cond.instantiable RX3 6) ∈ lw_tbl := List.mem_append_right _ (List.mem_of_getElem? (i := 16) (by decide +kernel))
def RX4 : String := "OmegaNetsModel"
def TX4 : u_T := fun k => match k with
  | 0 => ("OmegaNetsModel", "thrown", "I", false)
  | 1 => ("OmegaNetsModel", "places", "I", true)
  | 2 => ("OmegaNetsModel", "transitions", "I", true)
  | 3 => ("OmegaNetsModel", "needs", "[I", true)
  | 4 => ("OmegaNetsModel", "gives", "[I", true)
  | 5 => ("OmegaNetsModel", "starts", "[I", true)
  | 6 => ("OmegaNetsModel", "wanted", "[I", true)
  | 7 => ("OmegaNetsModel", "present", "[I", true)
  | 8 => ("OmegaNetsModel", "firings", "I", false)
  | 9 => ("OmegaNetsModel", "tree", "Z", false)
  | 10 => ("OmegaNetsModel", "nodes", "I", false)
  | 11 => ("OmegaNetsModel", "marks", "[I", true)
  | 12 => ("OmegaNetsModel", "parents", "[I", true)
  | 13 => ("OmegaNetsModel", "by", "[I", true)
  | 14 => ("OmegaNetsModel", "leaves", "[Z", true)
  | 15 => ("OmegaNetsModel", "asked", "Z", false)
  | 16 => ("OmegaNetsModel", "goals", "I", false)
  | 17 => ("OmegaNetsModel", "goalMarks", "[I", true)
  | 18 => ("OmegaNetsModel", "goalParents", "[I", true)
  | 19 => ("OmegaNetsModel", "goalBy", "[I", true)
  | _ => ("OmegaNetsModel", "given", "[Z", true)
def tyX4 : Nat → FieldType := fun k => match k with
  | 0 => .int
  | 1 => .int
  | 2 => .int
  | 3 => .array .int
  | 4 => .array .int
  | 5 => .array .int
  | 6 => .array .int
  | 7 => .array .int
  | 8 => .int
  | 9 => .boolean
  | 10 => .int
  | 11 => .array .int
  | 12 => .array .int
  | 13 => .array .int
  | 14 => .array .boolean
  | 15 => .boolean
  | 16 => .int
  | 17 => .array .int
  | 18 => .array .int
  | 19 => .array .int
  | _ => .array .boolean
theorem nmX4 : ∀ a, a < 21 → ∀ b, b < 21 → a ≠ b → (TX4 a).2.1 ≠ (TX4 b).2.1 := by decide +kernel
theorem tyX4_ok : ∀ k, k < 21 → parseFieldDescriptor (TX4 k).2.2.1 = some (tyX4 k) := by decide +kernel
theorem inX4 : ∀ w ∈ u_ws RX4 TX4 21, w ∈ lw_tbl := fun w h => List.mem_append_right _ (goodIn_r (big := tables_1) (u_ws RX4 TX4 21) [638, 640, 642, 644, 646, 648, 650, 652, 654, 656, 658, 660, 662, 664, 666, 668, 670, 672, 674, 676, 678] (by decide +kernel) (by decide +kernel) w h).1
def rfX4 : List Bool := [false, false, false, true, true, true, true, true, false, false, false, true, true, true, true, false, false, true, true, true, true]
theorem isX4 : (Cond.instantiable RX4 21) ∈ lw_tbl := List.mem_append_right _ (List.mem_of_getElem? (i := 612) (by decide +kernel))
def vwCl : List vw_C := [(RX0, TX0, 9), (RX1, TX1, 5), (RX2, TX2, 10), (RX3, TX3, 6), (RX4, TX4, 21)]
