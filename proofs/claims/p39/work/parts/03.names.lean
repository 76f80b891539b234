def RX0 : String := "TallBins$Bars"
def TX0 : u_T := fun k => match k with
  | 0 => ("TallBins$Bars", "bars", "I", false)
  | 1 => ("TallBins$Bars", "conds", "I", false)
  | 2 => ("TallBins$Bars", "ends", "[I", true)
  | 3 => ("TallBins$Bars", "words", "[I", true)
  | 4 => ("TallBins$Bars", "nots", "[Z", true)
  | 5 => ("TallBins$Bars", "signs", "[I", true)
  | _ => ("TallBins$Bars", "numbers", "[I", true)
def tyX0 : Nat → FieldType := fun k => match k with
  | 0 => .int
  | 1 => .int
  | 2 => .array .int
  | 3 => .array .int
  | 4 => .array .boolean
  | 5 => .array .int
  | _ => .array .int
theorem nmX0 : ∀ a, a < 7 → ∀ b, b < 7 → a ≠ b → (TX0 a).2.1 ≠ (TX0 b).2.1 := by decide +kernel
theorem tyX0_ok : ∀ k, k < 7 → parseFieldDescriptor (TX0 k).2.2.1 = some (tyX0 k) := by decide +kernel
def RX1 : String := "TallBins$Bin"
def TX1 : u_T := fun k => match k with
  | 0 => ("TallBins$Bin", "rings", "I", false)
  | 1 => ("TallBins$Bin", "hold", "I", false)
  | 2 => ("TallBins$Bin", "mouth", "I", false)
  | 3 => ("TallBins$Bin", "rough", "I", false)
  | 4 => ("TallBins$Bin", "grain", "I", false)
  | 5 => ("TallBins$Bin", "hung", "Z", false)
  | 6 => ("TallBins$Bin", "man", "I", false)
  | 7 => ("TallBins$Bin", "drawnToday", "I", false)
  | 8 => ("TallBins$Bin", "stack", "[LTallBins$Heap;", true)
  | 9 => ("TallBins$Bin", "rope", "LTallBins$Rope;", true)
  | _ => ("TallBins$Bin", "share", "[I", true)
def tyX1 : Nat → FieldType := fun k => match k with
  | 0 => .int
  | 1 => .int
  | 2 => .int
  | 3 => .int
  | 4 => .int
  | 5 => .boolean
  | 6 => .int
  | 7 => .int
  | 8 => .array (.object "TallBins$Heap")
  | 9 => .object "TallBins$Rope"
  | _ => .array .int
theorem nmX1 : ∀ a, a < 11 → ∀ b, b < 11 → a ≠ b → (TX1 a).2.1 ≠ (TX1 b).2.1 := by decide +kernel
theorem tyX1_ok : ∀ k, k < 11 → parseFieldDescriptor (TX1 k).2.2.1 = some (tyX1 k) := by decide +kernel
def RX2 : String := "TallBins$Blender"
def TX2 : u_T := fun k => match k with
  | 0 => ("TallBins$Blender", "valid", "Z", false)
  | 1 => ("TallBins$Blender", "told", "[I", true)
  | 2 => ("TallBins$Blender", "most", "[I", true)
  | 3 => ("TallBins$Blender", "damps", "[I", true)
  | 4 => ("TallBins$Blender", "tried", "[I", true)
  | 5 => ("TallBins$Blender", "found", "[I", true)
  | 6 => ("TallBins$Blender", "dampMost", "I", false)
  | _ => ("TallBins$Blender", "best", "I", false)
def tyX2 : Nat → FieldType := fun k => match k with
  | 0 => .boolean
  | 1 => .array .int
  | 2 => .array .int
  | 3 => .array .int
  | 4 => .array .int
  | 5 => .array .int
  | 6 => .int
  | _ => .int
theorem nmX2 : ∀ a, a < 8 → ∀ b, b < 8 → a ≠ b → (TX2 a).2.1 ≠ (TX2 b).2.1 := by decide +kernel
theorem tyX2_ok : ∀ k, k < 8 → parseFieldDescriptor (TX2 k).2.2.1 = some (tyX2 k) := by decide +kernel
def RX3 : String := "TallBins$Heap"
def TX3 : u_T := fun k => match k with
  | 0 => ("TallBins$Heap", "units", "I", false)
  | 1 => ("TallBins$Heap", "damp", "I", false)
  | 2 => ("TallBins$Heap", "warm", "I", false)
  | 3 => ("TallBins$Heap", "beetles", "I", false)
  | _ => ("TallBins$Heap", "lots", "[I", true)
def tyX3 : Nat → FieldType := fun k => match k with
  | 0 => .int
  | 1 => .int
  | 2 => .int
  | 3 => .int
  | _ => .array .int
theorem nmX3 : ∀ a, a < 5 → ∀ b, b < 5 → a ≠ b → (TX3 a).2.1 ≠ (TX3 b).2.1 := by decide +kernel
theorem tyX3_ok : ∀ k, k < 5 → parseFieldDescriptor (TX3 k).2.2.1 = some (tyX3 k) := by decide +kernel
def RX4 : String := "TallBins$House"
def TX4 : u_T := fun k => match k with
  | 0 => ("TallBins$House", "rules", "LTallBins$Rules;", true)
  | 1 => ("TallBins$House", "bins", "[LTallBins$Bin;", true)
  | 2 => ("TallBins$House", "ledger", "LTallBins$Ledger;", true)
  | 3 => ("TallBins$House", "lotsIn", "[I", true)
  | 4 => ("TallBins$House", "days", "I", false)
  | 5 => ("TallBins$House", "weather", "I", false)
  | 6 => ("TallBins$House", "unitsFilled", "I", false)
  | 7 => ("TallBins$House", "unitsDrawn", "I", false)
  | _ => ("TallBins$House", "dried", "I", false)
def tyX4 : Nat → FieldType := fun k => match k with
  | 0 => .object "TallBins$Rules"
  | 1 => .array (.object "TallBins$Bin")
  | 2 => .object "TallBins$Ledger"
  | 3 => .array .int
  | 4 => .int
  | 5 => .int
  | 6 => .int
  | 7 => .int
  | _ => .int
theorem nmX4 : ∀ a, a < 9 → ∀ b, b < 9 → a ≠ b → (TX4 a).2.1 ≠ (TX4 b).2.1 := by decide +kernel
theorem tyX4_ok : ∀ k, k < 9 → parseFieldDescriptor (TX4 k).2.2.1 = some (tyX4 k) := by decide +kernel
def RX5 : String := "TallBins$Ledger"
def TX5 : u_T := fun k => match k with
  | 0 => ("TallBins$Ledger", "noted", "I", false)
  | 1 => ("TallBins$Ledger", "oldest", "I", false)
  | _ => ("TallBins$Ledger", "numbers", "[I", true)
def tyX5 : Nat → FieldType := fun k => match k with
  | 0 => .int
  | 1 => .int
  | _ => .array .int
theorem nmX5 : ∀ a, a < 3 → ∀ b, b < 3 → a ≠ b → (TX5 a).2.1 ≠ (TX5 b).2.1 := by decide +kernel
theorem tyX5_ok : ∀ k, k < 3 → parseFieldDescriptor (TX5 k).2.2.1 = some (tyX5 k) := by decide +kernel
def RX6 : String := "TallBins$Planner"
def TX6 : u_T := fun k => match k with
  | 0 => ("TallBins$Planner", "told", "I", false)
  | 1 => ("TallBins$Planner", "toldFrom", "[I", true)
  | 2 => ("TallBins$Planner", "toldTo", "[I", true)
  | 3 => ("TallBins$Planner", "wanted", "I", false)
  | 4 => ("TallBins$Planner", "due", "[Z", true)
  | 5 => ("TallBins$Planner", "units", "[I", true)
  | 6 => ("TallBins$Planner", "rooms", "[I", true)
  | 7 => ("TallBins$Planner", "from", "[I", true)
  | _ => ("TallBins$Planner", "to", "[I", true)
def tyX6 : Nat → FieldType := fun k => match k with
  | 0 => .int
  | 1 => .array .int
  | 2 => .array .int
  | 3 => .int
  | 4 => .array .boolean
  | 5 => .array .int
  | 6 => .array .int
  | 7 => .array .int
  | _ => .array .int
theorem nmX6 : ∀ a, a < 9 → ∀ b, b < 9 → a ≠ b → (TX6 a).2.1 ≠ (TX6 b).2.1 := by decide +kernel
theorem tyX6_ok : ∀ k, k < 9 → parseFieldDescriptor (TX6 k).2.2.1 = some (tyX6 k) := by decide +kernel
def RX7 : String := "TallBins$Reader"
def TX7 : u_T := fun k => match k with
  | 0 => ("TallBins$Reader", "draft", "LTallBins$Rules;", true)
  | 1 => ("TallBins$Reader", "fault", "I", false)
  | 2 => ("TallBins$Reader", "faultPlace", "I", false)
  | 3 => ("TallBins$Reader", "bytes", "[B", true)
  | 4 => ("TallBins$Reader", "length", "I", false)
  | 5 => ("TallBins$Reader", "kind", "I", false)
  | 6 => ("TallBins$Reader", "value", "I", false)
  | 7 => ("TallBins$Reader", "place", "I", false)
  | _ => ("TallBins$Reader", "next", "I", false)
def tyX7 : Nat → FieldType := fun k => match k with
  | 0 => .object "TallBins$Rules"
  | 1 => .int
  | 2 => .int
  | 3 => .array .byte
  | 4 => .int
  | 5 => .int
  | 6 => .int
  | 7 => .int
  | _ => .int
theorem nmX7 : ∀ a, a < 9 → ∀ b, b < 9 → a ≠ b → (TX7 a).2.1 ≠ (TX7 b).2.1 := by decide +kernel
theorem tyX7_ok : ∀ k, k < 9 → parseFieldDescriptor (TX7 k).2.2.1 = some (tyX7 k) := by decide +kernel
def RX8 : String := "TallBins$Rope"
def TX8 : u_T := fun k => match k with
  | _ => ("TallBins$Rope", "readings", "[I", true)
def tyX8 : Nat → FieldType := fun k => match k with
  | _ => .array .int
theorem nmX8 : ∀ a, a < 1 → ∀ b, b < 1 → a ≠ b → (TX8 a).2.1 ≠ (TX8 b).2.1 := by decide +kernel
theorem tyX8_ok : ∀ k, k < 1 → parseFieldDescriptor (TX8 k).2.2.1 = some (tyX8 k) := by decide +kernel
def RX9 : String := "TallBins$Row"
def TX9 : u_T := fun k => match k with
  | 0 => ("TallBins$Row", "width", "I", false)
  | 1 => ("TallBins$Row", "length", "I", false)
  | _ => ("TallBins$Row", "numbers", "[J", true)
def tyX9 : Nat → FieldType := fun k => match k with
  | 0 => .int
  | 1 => .int
  | _ => .array .long
theorem nmX9 : ∀ a, a < 3 → ∀ b, b < 3 → a ≠ b → (TX9 a).2.1 ≠ (TX9 b).2.1 := by decide +kernel
theorem tyX9_ok : ∀ k, k < 3 → parseFieldDescriptor (TX9 k).2.2.1 = some (tyX9 k) := by decide +kernel
def RX10 : String := "TallBins$Rules"
def TX10 : u_T := fun k => match k with
  | 0 => ("TallBins$Rules", "lines", "I", false)
  | 1 => ("TallBins$Rules", "binsTold", "I", false)
  | 2 => ("TallBins$Rules", "grainsTold", "I", false)
  | 3 => ("TallBins$Rules", "rings", "[I", true)
  | 4 => ("TallBins$Rules", "holds", "[I", true)
  | 5 => ("TallBins$Rules", "mouths", "[I", true)
  | 6 => ("TallBins$Rules", "roughs", "[I", true)
  | 7 => ("TallBins$Rules", "heavies", "[I", true)
  | 8 => ("TallBins$Rules", "grips", "[I", true)
  | 9 => ("TallBins$Rules", "prices", "[I", true)
  | 10 => ("TallBins$Rules", "breaths", "I", false)
  | 11 => ("TallBins$Rules", "breathWarm", "[I", true)
  | 12 => ("TallBins$Rules", "breathDamp", "[I", true)
  | 13 => ("TallBins$Rules", "breathAdd", "[I", true)
  | _ => ("TallBins$Rules", "bars", "LTallBins$Bars;", true)
def tyX10 : Nat → FieldType := fun k => match k with
  | 0 => .int
  | 1 => .int
  | 2 => .int
  | 3 => .array .int
  | 4 => .array .int
  | 5 => .array .int
  | 6 => .array .int
  | 7 => .array .int
  | 8 => .array .int
  | 9 => .array .int
  | 10 => .int
  | 11 => .array .int
  | 12 => .array .int
  | 13 => .array .int
  | _ => .object "TallBins$Bars"
theorem nmX10 : ∀ a, a < 15 → ∀ b, b < 15 → a ≠ b → (TX10 a).2.1 ≠ (TX10 b).2.1 := by decide +kernel
theorem tyX10_ok : ∀ k, k < 15 → parseFieldDescriptor (TX10 k).2.2.1 = some (tyX10 k) := by decide +kernel
def RX11 : String := "TallBins"
def TX11 : u_T := fun k => match k with
  | 0 => ("TallBins", "tape", "[B", true)
  | 1 => ("TallBins", "taped", "I", false)
  | 2 => ("TallBins", "reader", "LTallBins$Reader;", true)
  | 3 => ("TallBins", "house", "LTallBins$House;", true)
  | 4 => ("TallBins", "images", "[LTallBins$House;", true)
  | 5 => ("TallBins", "kept", "[Z", true)
  | 6 => ("TallBins", "slots", "[LTallBins$Row;", true)
  | 7 => ("TallBins", "load", "LTallBins$Heap;", true)
  | 8 => ("TallBins", "loadBin", "I", false)
  | 9 => ("TallBins", "planner", "LTallBins$Planner;", true)
  | 10 => ("TallBins", "blender", "LTallBins$Blender;", true)
  | 11 => ("TallBins", "refusedBar", "I", false)
  | _ => ("TallBins", "trial", "LTallBins$Bin;", true)
def tyX11 : Nat → FieldType := fun k => match k with
  | 0 => .array .byte
  | 1 => .int
  | 2 => .object "TallBins$Reader"
  | 3 => .object "TallBins$House"
  | 4 => .array (.object "TallBins$House")
  | 5 => .array .boolean
  | 6 => .array (.object "TallBins$Row")
  | 7 => .object "TallBins$Heap"
  | 8 => .int
  | 9 => .object "TallBins$Planner"
  | 10 => .object "TallBins$Blender"
  | 11 => .int
  | _ => .object "TallBins$Bin"
theorem nmX11 : ∀ a, a < 13 → ∀ b, b < 13 → a ≠ b → (TX11 a).2.1 ≠ (TX11 b).2.1 := by decide +kernel
theorem tyX11_ok : ∀ k, k < 13 → parseFieldDescriptor (TX11 k).2.2.1 = some (tyX11 k) := by decide +kernel
def RX12 : String := "TallBinsModel"
def TX12 : u_T := fun k => match k with
  | 0 => ("TallBinsModel", "thrown", "I", false)
  | 1 => ("TallBinsModel", "world", "[I", true)
  | 2 => ("TallBinsModel", "images", "[I", true)
  | 3 => ("TallBinsModel", "hasImage", "[Z", true)
  | 4 => ("TallBinsModel", "tape", "[B", true)
  | 5 => ("TallBinsModel", "taped", "I", false)
  | 6 => ("TallBinsModel", "five", "[I", true)
  | 7 => ("TallBinsModel", "size", "I", false)
  | 8 => ("TallBinsModel", "at", "I", false)
  | 9 => ("TallBinsModel", "from", "I", false)
  | 10 => ("TallBinsModel", "token", "I", false)
  | 11 => ("TallBinsModel", "value", "I", false)
  | 12 => ("TallBinsModel", "faultKind", "I", false)
  | 13 => ("TallBinsModel", "faultPlace", "I", false)
  | 14 => ("TallBinsModel", "fresh", "[I", true)
  | 15 => ("TallBinsModel", "isGrain", "[Z", true)
  | 16 => ("TallBinsModel", "part", "[I", true)
  | 17 => ("TallBinsModel", "hasOne", "[Z", true)
  | 18 => ("TallBinsModel", "drawn", "[I", true)
  | 19 => ("TallBinsModel", "load", "[I", true)
  | 20 => ("TallBinsModel", "loadBin", "I", false)
  | 21 => ("TallBinsModel", "pressed", "[I", true)
  | 22 => ("TallBinsModel", "taken", "[I", true)
  | 23 => ("TallBinsModel", "warm", "[J", true)
  | 24 => ("TallBinsModel", "planFrom", "[I", true)
  | 25 => ("TallBinsModel", "planTo", "[I", true)
  | 26 => ("TallBinsModel", "tryFrom", "[I", true)
  | 27 => ("TallBinsModel", "tryTo", "[I", true)
  | 28 => ("TallBinsModel", "planMany", "I", false)
  | 29 => ("TallBinsModel", "refused", "I", false)
  | 30 => ("TallBinsModel", "hundreds", "[I", true)
  | 31 => ("TallBinsModel", "best", "[I", true)
  | 32 => ("TallBinsModel", "isBlend", "Z", false)
  | 33 => ("TallBinsModel", "hasBlend", "Z", false)
  | 34 => ("TallBinsModel", "bestDamp", "I", false)
  | 35 => ("TallBinsModel", "blended", "[I", true)
  | 36 => ("TallBinsModel", "served", "[I", true)
  | 37 => ("TallBinsModel", "many", "[I", true)
  | 38 => ("TallBinsModel", "width", "[I", true)
  | 39 => ("TallBinsModel", "numbers", "[J", true)
  | _ => ("TallBinsModel", "moved", "[J", true)
def tyX12 : Nat → FieldType := fun k => match k with
  | 0 => .int
  | 1 => .array .int
  | 2 => .array .int
  | 3 => .array .boolean
  | 4 => .array .byte
  | 5 => .int
  | 6 => .array .int
  | 7 => .int
  | 8 => .int
  | 9 => .int
  | 10 => .int
  | 11 => .int
  | 12 => .int
  | 13 => .int
  | 14 => .array .int
  | 15 => .array .boolean
  | 16 => .array .int
  | 17 => .array .boolean
  | 18 => .array .int
  | 19 => .array .int
  | 20 => .int
  | 21 => .array .int
  | 22 => .array .int
  | 23 => .array .long
  | 24 => .array .int
  | 25 => .array .int
  | 26 => .array .int
  | 27 => .array .int
  | 28 => .int
  | 29 => .int
  | 30 => .array .int
  | 31 => .array .int
  | 32 => .boolean
  | 33 => .boolean
  | 34 => .int
  | 35 => .array .int
  | 36 => .array .int
  | 37 => .array .int
  | 38 => .array .int
  | 39 => .array .long
  | _ => .array .long
theorem nmX12 : ∀ a, a < 41 → ∀ b, b < 41 → a ≠ b → (TX12 a).2.1 ≠ (TX12 b).2.1 := by decide +kernel
theorem tyX12_ok : ∀ k, k < 41 → parseFieldDescriptor (TX12 k).2.2.1 = some (tyX12 k) := by decide +kernel
/-- the classes of the objects of the worlds -/
def abCls : List vw_C := [(RX0, TX0, 7), (RX1, TX1, 11), (RX2, TX2, 8), (RX3, TX3, 5), (RX4, TX4, 9), (RX5, TX5, 3), (RX6, TX6, 9), (RX7, TX7, 9), (RX8, TX8, 1), (RX9, TX9, 3), (RX10, TX10, 15), (RX11, TX11, 13), (RX12, TX12, 41)]
def abTyp (a : Nat) : Nat → FieldType := match a with
  | 0 => tyX0
  | 1 => tyX1
  | 2 => tyX2
  | 3 => tyX3
  | 4 => tyX4
  | 5 => tyX5
  | 6 => tyX6
  | 7 => tyX7
  | 8 => tyX8
  | 9 => tyX9
  | 10 => tyX10
  | 11 => tyX11
  | 12 => tyX12
  | _ => fun _ => .int
def abFin (a k : Nat) : Bool := match abCls[a]? with
  | some q => (q.2.1 k).2.2.2
  | none => false
/-- what the fields of a new object hold -/
def abDf0 : Lean.RArray abV := .branch 4 (.branch 2 (.leaf (0, 9223372036854775808, 9223372036854775808)) (.leaf (6, 0, 0))) (.leaf (6, 0, 0))
def abDf1 : Lean.RArray abV := .branch 8 (.leaf (0, 9223372036854775808, 9223372036854775808)) (.leaf (6, 0, 0))
def abDf2 : Lean.RArray abV := .branch 8 (.branch 4 (.branch 2 (.branch 1 (.leaf (0, 9223372036854775808, 9223372036854775808)) (.leaf (6, 0, 0))) (.leaf (6, 0, 0))) (.branch 6 (.leaf (6, 0, 0)) (.leaf (0, 9223372036854775808, 9223372036854775808)))) (.leaf (8, 0, 0))
def abDf3 : Lean.RArray abV := .branch 4 (.leaf (0, 9223372036854775808, 9223372036854775808)) (.leaf (6, 0, 0))
def abDf4 : Lean.RArray abV := .branch 8 (.branch 4 (.leaf (6, 0, 0)) (.leaf (0, 9223372036854775808, 9223372036854775808))) (.leaf (0, 9223372036854775808, 9223372036854775808))
def abDf5 : Lean.RArray abV := .branch 2 (.leaf (0, 9223372036854775808, 9223372036854775808)) (.leaf (6, 0, 0))
def abDf6 : Lean.RArray abV := .branch 8 (.branch 4 (.branch 2 (.branch 1 (.leaf (0, 9223372036854775808, 9223372036854775808)) (.leaf (6, 0, 0))) (.branch 3 (.leaf (6, 0, 0)) (.leaf (0, 9223372036854775808, 9223372036854775808)))) (.leaf (6, 0, 0))) (.leaf (6, 0, 0))
def abDf7 : Lean.RArray abV := .branch 8 (.branch 4 (.branch 2 (.branch 1 (.leaf (6, 0, 0)) (.leaf (0, 9223372036854775808, 9223372036854775808))) (.branch 3 (.leaf (0, 9223372036854775808, 9223372036854775808)) (.leaf (6, 0, 0)))) (.leaf (0, 9223372036854775808, 9223372036854775808))) (.leaf (0, 9223372036854775808, 9223372036854775808))
def abDf8 : Lean.RArray abV := .leaf (6, 0, 0)
def abDf9 : Lean.RArray abV := .branch 2 (.leaf (0, 9223372036854775808, 9223372036854775808)) (.leaf (6, 0, 0))
def abDf10 : Lean.RArray abV := .branch 8 (.branch 4 (.branch 2 (.leaf (0, 9223372036854775808, 9223372036854775808)) (.branch 3 (.leaf (0, 9223372036854775808, 9223372036854775808)) (.leaf (6, 0, 0)))) (.leaf (6, 0, 0))) (.branch 12 (.branch 10 (.leaf (6, 0, 0)) (.branch 11 (.leaf (0, 9223372036854775808, 9223372036854775808)) (.leaf (6, 0, 0)))) (.leaf (6, 0, 0)))
def abDf11 : Lean.RArray abV := .branch 8 (.branch 4 (.branch 2 (.branch 1 (.leaf (6, 0, 0)) (.leaf (0, 9223372036854775808, 9223372036854775808))) (.leaf (6, 0, 0))) (.leaf (6, 0, 0))) (.branch 12 (.branch 10 (.branch 9 (.leaf (0, 9223372036854775808, 9223372036854775808)) (.leaf (6, 0, 0))) (.branch 11 (.leaf (6, 0, 0)) (.leaf (0, 9223372036854775808, 9223372036854775808)))) (.leaf (6, 0, 0)))
def abDf12 : Lean.RArray abV := .branch 32 (.branch 16 (.branch 8 (.branch 4 (.branch 2 (.branch 1 (.leaf (0, 9223372036854775808, 9223372036854775808)) (.leaf (6, 0, 0))) (.leaf (6, 0, 0))) (.branch 6 (.branch 5 (.leaf (6, 0, 0)) (.leaf (0, 9223372036854775808, 9223372036854775808))) (.branch 7 (.leaf (6, 0, 0)) (.leaf (0, 9223372036854775808, 9223372036854775808))))) (.branch 12 (.leaf (0, 9223372036854775808, 9223372036854775808)) (.branch 14 (.leaf (0, 9223372036854775808, 9223372036854775808)) (.leaf (6, 0, 0))))) (.branch 24 (.branch 20 (.leaf (6, 0, 0)) (.branch 22 (.branch 21 (.leaf (0, 9223372036854775808, 9223372036854775808)) (.leaf (6, 0, 0))) (.leaf (6, 0, 0)))) (.branch 28 (.leaf (6, 0, 0)) (.branch 30 (.leaf (0, 9223372036854775808, 9223372036854775808)) (.leaf (6, 0, 0)))))) (.branch 48 (.branch 40 (.branch 36 (.branch 34 (.leaf (0, 9223372036854775808, 9223372036854775808)) (.branch 35 (.leaf (0, 9223372036854775808, 9223372036854775808)) (.leaf (6, 0, 0)))) (.leaf (6, 0, 0))) (.leaf (6, 0, 0))) (.leaf (8, 0, 0)))
def abDfl : Lean.RArray (Lean.RArray abV) := .branch 6 (.branch 3 (.branch 1 (.leaf abDf0) (.branch 2 (.leaf abDf1) (.leaf abDf2))) (.branch 4 (.leaf abDf3) (.branch 5 (.leaf abDf4) (.leaf abDf5)))) (.branch 9 (.branch 7 (.leaf abDf6) (.branch 8 (.leaf abDf7) (.leaf abDf8))) (.branch 11 (.branch 10 (.leaf abDf9) (.leaf abDf10)) (.branch 12 (.leaf abDf11) (.leaf abDf12))))
