def RX0 : String := "LoadSpace$Packing"
def TX0 : u_T := fun k => match k with
  | _ => ("LoadSpace$Packing", "places", "[LLoadSpace$Place;", true)
def tyX0 : Nat → FieldType := fun k => match k with
  | _ => .array (.object "LoadSpace$Place")
theorem nmX0 : ∀ a, a < 1 → ∀ b, b < 1 → a ≠ b → (TX0 a).2.1 ≠ (TX0 b).2.1 := by decide +kernel
theorem tyX0_ok : ∀ k, k < 1 → parseFieldDescriptor (TX0 k).2.2.1 = some (tyX0 k) := by decide +kernel
def RX1 : String := "LoadSpace$Piece"
def TX1 : u_T := fun k => match k with
  | 0 => ("LoadSpace$Piece", "width", "I", true)
  | 1 => ("LoadSpace$Piece", "height", "I", true)
  | 2 => ("LoadSpace$Piece", "depth", "I", true)
  | 3 => ("LoadSpace$Piece", "weight", "I", true)
  | 4 => ("LoadSpace$Piece", "mark", "I", false)
  | 5 => ("LoadSpace$Piece", "limit", "I", false)
  | 6 => ("LoadSpace$Piece", "stop", "I", false)
  | _ => ("LoadSpace$Piece", "turnBits", "I", false)
def tyX1 : Nat → FieldType := fun k => match k with
  | 0 => .int
  | 1 => .int
  | 2 => .int
  | 3 => .int
  | 4 => .int
  | 5 => .int
  | 6 => .int
  | _ => .int
theorem nmX1 : ∀ a, a < 8 → ∀ b, b < 8 → a ≠ b → (TX1 a).2.1 ≠ (TX1 b).2.1 := by decide +kernel
theorem tyX1_ok : ∀ k, k < 8 → parseFieldDescriptor (TX1 k).2.2.1 = some (tyX1 k) := by decide +kernel
def RX2 : String := "LoadSpace$Place"
def TX2 : u_T := fun k => match k with
  | 0 => ("LoadSpace$Place", "inside", "Z", false)
  | 1 => ("LoadSpace$Place", "weight", "I", false)
  | 2 => ("LoadSpace$Place", "limit", "I", false)
  | 3 => ("LoadSpace$Place", "stop", "I", false)
  | 4 => ("LoadSpace$Place", "turn", "I", false)
  | 5 => ("LoadSpace$Place", "width", "I", false)
  | 6 => ("LoadSpace$Place", "height", "I", false)
  | 7 => ("LoadSpace$Place", "depth", "I", false)
  | 8 => ("LoadSpace$Place", "x", "I", false)
  | 9 => ("LoadSpace$Place", "y", "I", false)
  | _ => ("LoadSpace$Place", "z", "I", false)
def tyX2 : Nat → FieldType := fun k => match k with
  | 0 => .boolean
  | 1 => .int
  | 2 => .int
  | 3 => .int
  | 4 => .int
  | 5 => .int
  | 6 => .int
  | 7 => .int
  | 8 => .int
  | 9 => .int
  | _ => .int
theorem nmX2 : ∀ a, a < 11 → ∀ b, b < 11 → a ≠ b → (TX2 a).2.1 ≠ (TX2 b).2.1 := by decide +kernel
theorem tyX2_ok : ∀ k, k < 11 → parseFieldDescriptor (TX2 k).2.2.1 = some (tyX2 k) := by decide +kernel
def RX3 : String := "LoadSpace$Search"
def TX3 : u_T := fun k => match k with
  | 0 => ("LoadSpace$Search", "space", "LLoadSpace$Space;", true)
  | 1 => ("LoadSpace$Search", "pieces", "[LLoadSpace$Piece;", true)
  | 2 => ("LoadSpace$Search", "trial", "LLoadSpace$Packing;", true)
  | 3 => ("LoadSpace$Search", "best", "LLoadSpace$Packing;", true)
  | 4 => ("LoadSpace$Search", "heights", "[I", true)
  | 5 => ("LoadSpace$Search", "bestCells", "I", false)
  | 6 => ("LoadSpace$Search", "bestWeightTimesY", "I", false)
  | 7 => ("LoadSpace$Search", "allowed", "I", false)
  | _ => ("LoadSpace$Search", "made", "I", false)
def tyX3 : Nat → FieldType := fun k => match k with
  | 0 => .object "LoadSpace$Space"
  | 1 => .array (.object "LoadSpace$Piece")
  | 2 => .object "LoadSpace$Packing"
  | 3 => .object "LoadSpace$Packing"
  | 4 => .array .int
  | 5 => .int
  | 6 => .int
  | 7 => .int
  | _ => .int
theorem nmX3 : ∀ a, a < 9 → ∀ b, b < 9 → a ≠ b → (TX3 a).2.1 ≠ (TX3 b).2.1 := by decide +kernel
theorem tyX3_ok : ∀ k, k < 9 → parseFieldDescriptor (TX3 k).2.2.1 = some (tyX3 k) := by decide +kernel
def RX4 : String := "LoadSpace$Space"
def TX4 : u_T := fun k => match k with
  | 0 => ("LoadSpace$Space", "width", "I", true)
  | 1 => ("LoadSpace$Space", "height", "I", true)
  | _ => ("LoadSpace$Space", "depth", "I", true)
def tyX4 : Nat → FieldType := fun k => match k with
  | 0 => .int
  | 1 => .int
  | _ => .int
theorem nmX4 : ∀ a, a < 3 → ∀ b, b < 3 → a ≠ b → (TX4 a).2.1 ≠ (TX4 b).2.1 := by decide +kernel
theorem tyX4_ok : ∀ k, k < 3 → parseFieldDescriptor (TX4 k).2.2.1 = some (tyX4 k) := by decide +kernel
def RX5 : String := "LoadSpace"
def TX5 : u_T := fun k => match k with
  | 0 => ("LoadSpace", "space", "LLoadSpace$Space;", true)
  | 1 => ("LoadSpace", "pieces", "[LLoadSpace$Piece;", true)
  | 2 => ("LoadSpace", "count", "I", false)
  | 3 => ("LoadSpace", "packing", "LLoadSpace$Packing;", true)
  | 4 => ("LoadSpace", "search", "LLoadSpace$Search;", true)
  | _ => ("LoadSpace", "stepsLeft", "I", false)
def tyX5 : Nat → FieldType := fun k => match k with
  | 0 => .object "LoadSpace$Space"
  | 1 => .array (.object "LoadSpace$Piece")
  | 2 => .int
  | 3 => .object "LoadSpace$Packing"
  | 4 => .object "LoadSpace$Search"
  | _ => .int
theorem nmX5 : ∀ a, a < 6 → ∀ b, b < 6 → a ≠ b → (TX5 a).2.1 ≠ (TX5 b).2.1 := by decide +kernel
theorem tyX5_ok : ∀ k, k < 6 → parseFieldDescriptor (TX5 k).2.2.1 = some (tyX5 k) := by decide +kernel
def RX6 : String := "LoadSpaceModel"
def TX6 : u_T := fun k => match k with
  | 0 => ("LoadSpaceModel", "wide", "I", true)
  | 1 => ("LoadSpaceModel", "tall", "I", true)
  | 2 => ("LoadSpaceModel", "deep", "I", true)
  | 3 => ("LoadSpaceModel", "pieces", "I", false)
  | 4 => ("LoadSpaceModel", "made", "I", false)
  | 5 => ("LoadSpaceModel", "latest", "I", false)
  | 6 => ("LoadSpaceModel", "isExact", "Z", false)
  | 7 => ("LoadSpaceModel", "w", "[I", true)
  | 8 => ("LoadSpaceModel", "h", "[I", true)
  | 9 => ("LoadSpaceModel", "d", "[I", true)
  | 10 => ("LoadSpaceModel", "weight", "[I", true)
  | 11 => ("LoadSpaceModel", "mark", "[I", true)
  | 12 => ("LoadSpaceModel", "most", "[I", true)
  | 13 => ("LoadSpaceModel", "stop", "[I", true)
  | 14 => ("LoadSpaceModel", "in", "[Z", true)
  | 15 => ("LoadSpaceModel", "x", "[I", true)
  | 16 => ("LoadSpaceModel", "y", "[I", true)
  | 17 => ("LoadSpaceModel", "z", "[I", true)
  | 18 => ("LoadSpaceModel", "bw", "[I", true)
  | 19 => ("LoadSpaceModel", "bh", "[I", true)
  | 20 => ("LoadSpaceModel", "bd", "[I", true)
  | 21 => ("LoadSpaceModel", "turned", "[I", true)
  | 22 => ("LoadSpaceModel", "pIn", "[Z", true)
  | 23 => ("LoadSpaceModel", "px", "[I", true)
  | 24 => ("LoadSpaceModel", "py", "[I", true)
  | 25 => ("LoadSpaceModel", "pz", "[I", true)
  | 26 => ("LoadSpaceModel", "pw", "[I", true)
  | 27 => ("LoadSpaceModel", "ph", "[I", true)
  | 28 => ("LoadSpaceModel", "pd", "[I", true)
  | 29 => ("LoadSpaceModel", "pTurn", "[I", true)
  | 30 => ("LoadSpaceModel", "pWeight", "[I", true)
  | 31 => ("LoadSpaceModel", "pStop", "[I", true)
  | 32 => ("LoadSpaceModel", "bestCells", "I", false)
  | 33 => ("LoadSpaceModel", "bestLow", "J", false)
  | 34 => ("LoadSpaceModel", "hasBest", "Z", false)
  | 35 => ("LoadSpaceModel", "counter", "[I", true)
  | 36 => ("LoadSpaceModel", "turns", "[I", true)
  | 37 => ("LoadSpaceModel", "turnAt", "[I", true)
  | 38 => ("LoadSpaceModel", "xs", "[I", true)
  | 39 => ("LoadSpaceModel", "ys", "[I", true)
  | 40 => ("LoadSpaceModel", "zs", "[I", true)
  | 41 => ("LoadSpaceModel", "xAt", "[I", true)
  | 42 => ("LoadSpaceModel", "yAt", "[I", true)
  | 43 => ("LoadSpaceModel", "zAt", "[I", true)
  | _ => ("LoadSpaceModel", "thrown", "I", false)
def tyX6 : Nat → FieldType := fun k => match k with
  | 0 => .int
  | 1 => .int
  | 2 => .int
  | 3 => .int
  | 4 => .int
  | 5 => .int
  | 6 => .boolean
  | 7 => .array .int
  | 8 => .array .int
  | 9 => .array .int
  | 10 => .array .int
  | 11 => .array .int
  | 12 => .array .int
  | 13 => .array .int
  | 14 => .array .boolean
  | 15 => .array .int
  | 16 => .array .int
  | 17 => .array .int
  | 18 => .array .int
  | 19 => .array .int
  | 20 => .array .int
  | 21 => .array .int
  | 22 => .array .boolean
  | 23 => .array .int
  | 24 => .array .int
  | 25 => .array .int
  | 26 => .array .int
  | 27 => .array .int
  | 28 => .array .int
  | 29 => .array .int
  | 30 => .array .int
  | 31 => .array .int
  | 32 => .int
  | 33 => .long
  | 34 => .boolean
  | 35 => .array .int
  | 36 => .array .int
  | 37 => .array .int
  | 38 => .array .int
  | 39 => .array .int
  | 40 => .array .int
  | 41 => .array .int
  | 42 => .array .int
  | 43 => .array .int
  | _ => .int
theorem nmX6 : ∀ a, a < 45 → ∀ b, b < 45 → a ≠ b → (TX6 a).2.1 ≠ (TX6 b).2.1 := by decide +kernel
theorem tyX6_ok : ∀ k, k < 45 → parseFieldDescriptor (TX6 k).2.2.1 = some (tyX6 k) := by decide +kernel
abbrev bX0_init : ByteArray := prog_2_method_1_code
def yX0_init : MethodName := ⟨RX0, "<init>", "()V"⟩
abbrev mX0_init : Nat := 0
abbrev bX0_empty : ByteArray := prog_2_method_2_code
def yX0_empty : MethodName := ⟨RX0, "empty", "()V"⟩
abbrev mX0_empty : Nat := 1
abbrev bX0_copyFrom : ByteArray := prog_2_method_3_code
def yX0_copyFrom : MethodName := ⟨RX0, "copyFrom", "(LLoadSpace$Packing;)V"⟩
abbrev mX0_copyFrom : Nat := 2
abbrev bX0_placeOf : ByteArray := prog_2_method_4_code
def yX0_placeOf : MethodName := ⟨RX0, "placeOf", "(I)LLoadSpace$Place;"⟩
abbrev mX0_placeOf : Nat := 3
abbrev bX0_cells : ByteArray := prog_2_method_5_code
def yX0_cells : MethodName := ⟨RX0, "cells", "()I"⟩
abbrev mX0_cells : Nat := 4
abbrev bX0_weight : ByteArray := prog_2_method_6_code
def yX0_weight : MethodName := ⟨RX0, "weight", "()I"⟩
abbrev mX0_weight : Nat := 5
abbrev bX0_weightTimesY : ByteArray := prog_2_method_7_code
def yX0_weightTimesY : MethodName := ⟨RX0, "weightTimesY", "()I"⟩
abbrev mX0_weightTimesY : Nat := 6
abbrev bX0_farWeight : ByteArray := prog_2_method_8_code
def yX0_farWeight : MethodName := ⟨RX0, "farWeight", "()I"⟩
abbrev mX0_farWeight : Nat := 7
abbrev bX0_uppermost : ByteArray := prog_2_method_9_code
def yX0_uppermost : MethodName := ⟨RX0, "uppermost", "(II)I"⟩
abbrev mX0_uppermost : Nat := 8
abbrev bX0_keepsLimits : ByteArray := prog_2_method_10_code
def yX0_keepsLimits : MethodName := ⟨RX0, "keepsLimits", "(LLoadSpace$Place;)Z"⟩
abbrev mX0_keepsLimits : Nat := 9
abbrev bX0_weightAbove : ByteArray := prog_2_method_11_code
def yX0_weightAbove : MethodName := ⟨RX0, "weightAbove", "(LLoadSpace$Place;)I"⟩
abbrev mX0_weightAbove : Nat := 10
abbrev bX0_keepsOrder : ByteArray := prog_2_method_12_code
def yX0_keepsOrder : MethodName := ⟨RX0, "keepsOrder", "(LLoadSpace$Place;)Z"⟩
abbrev mX0_keepsOrder : Nat := 11
abbrev bX0_takeOut : ByteArray := prog_2_method_13_code
def yX0_takeOut : MethodName := ⟨RX0, "takeOut", "(I)I"⟩
abbrev mX0_takeOut : Nat := 12
abbrev bX0_isOpen : ByteArray := prog_2_method_14_code
def yX0_isOpen : MethodName := ⟨RX0, "isOpen", "(LLoadSpace$Place;)Z"⟩
abbrev mX0_isOpen : Nat := 13
abbrev bX1_init : ByteArray := prog_3_method_1_code
def yX1_init : MethodName := ⟨RX1, "<init>", "(IIII)V"⟩
abbrev mX1_init : Nat := 14
abbrev bX1_setMark : ByteArray := prog_3_method_2_code
def yX1_setMark : MethodName := ⟨RX1, "setMark", "(I)V"⟩
abbrev mX1_setMark : Nat := 15
abbrev bX1_hasTurn : ByteArray := prog_3_method_3_code
def yX1_hasTurn : MethodName := ⟨RX1, "hasTurn", "(I)Z"⟩
abbrev mX1_hasTurn : Nat := 16
abbrev bX1_turnedWidth : ByteArray := prog_3_method_4_code
def yX1_turnedWidth : MethodName := ⟨RX1, "turnedWidth", "(I)I"⟩
abbrev mX1_turnedWidth : Nat := 17
abbrev bX1_turnedHeight : ByteArray := prog_3_method_5_code
def yX1_turnedHeight : MethodName := ⟨RX1, "turnedHeight", "(I)I"⟩
abbrev mX1_turnedHeight : Nat := 18
abbrev bX1_turnedDepth : ByteArray := prog_3_method_6_code
def yX1_turnedDepth : MethodName := ⟨RX1, "turnedDepth", "(I)I"⟩
abbrev mX1_turnedDepth : Nat := 19
abbrev bX1_isLargeFor : ByteArray := prog_3_method_7_code
def yX1_isLargeFor : MethodName := ⟨RX1, "isLargeFor", "(LLoadSpace$Space;)Z"⟩
abbrev mX1_isLargeFor : Nat := 20
abbrev bX1_cells : ByteArray := prog_3_method_8_code
def yX1_cells : MethodName := ⟨RX1, "cells", "()I"⟩
abbrev mX1_cells : Nat := 21
abbrev bX1_makesWhatOneBeforeMakes : ByteArray := prog_3_method_9_code
def yX1_makesWhatOneBeforeMakes : MethodName := ⟨RX1, "makesWhatOneBeforeMakes", "(I)Z"⟩
abbrev mX1_makesWhatOneBeforeMakes : Nat := 22
abbrev bX2_init : ByteArray := prog_4_method_1_code
def yX2_init : MethodName := ⟨RX2, "<init>", "()V"⟩
abbrev mX2_init : Nat := 23
abbrev bX2_startFor : ByteArray := prog_4_method_2_code
def yX2_startFor : MethodName := ⟨RX2, "startFor", "(LLoadSpace$Piece;)V"⟩
abbrev mX2_startFor : Nat := 24
abbrev bX2_turnTo : ByteArray := prog_4_method_3_code
def yX2_turnTo : MethodName := ⟨RX2, "turnTo", "(LLoadSpace$Piece;I)V"⟩
abbrev mX2_turnTo : Nat := 25
abbrev bX2_copyFrom : ByteArray := prog_4_method_4_code
def yX2_copyFrom : MethodName := ⟨RX2, "copyFrom", "(LLoadSpace$Place;)V"⟩
abbrev mX2_copyFrom : Nat := 26
abbrev bX2_numberOn : ByteArray := prog_4_method_5_code
def yX2_numberOn : MethodName := ⟨RX2, "numberOn", "(I)I"⟩
abbrev mX2_numberOn : Nat := 27
abbrev bX2_cells : ByteArray := prog_4_method_6_code
def yX2_cells : MethodName := ⟨RX2, "cells", "()I"⟩
abbrev mX2_cells : Nat := 28
abbrev bX2_overlaps : ByteArray := prog_4_method_7_code
def yX2_overlaps : MethodName := ⟨RX2, "overlaps", "(LLoadSpace$Place;)Z"⟩
abbrev mX2_overlaps : Nat := 29
abbrev bX2_hasAbove : ByteArray := prog_4_method_8_code
def yX2_hasAbove : MethodName := ⟨RX2, "hasAbove", "(LLoadSpace$Place;)Z"⟩
abbrev mX2_hasAbove : Nat := 30
abbrev bX2_hasInFront : ByteArray := prog_4_method_9_code
def yX2_hasInFront : MethodName := ⟨RX2, "hasInFront", "(LLoadSpace$Place;)Z"⟩
abbrev mX2_hasInFront : Nat := 31
abbrev bX2_isOver : ByteArray := prog_4_method_10_code
def yX2_isOver : MethodName := ⟨RX2, "isOver", "(II)Z"⟩
abbrev mX2_isOver : Nat := 32
abbrev bX3_init : ByteArray := prog_5_method_1_code
def yX3_init : MethodName := ⟨RX3, "<init>", "(LLoadSpace$Space;[LLoadSpace$Piece;LLoadSpace$Packing;)V"⟩
abbrev mX3_init : Nat := 33
abbrev bX3_begin : ByteArray := prog_5_method_2_code
def yX3_begin : MethodName := ⟨RX3, "begin", "(I)V"⟩
abbrev mX3_begin : Nat := 34
abbrev bX3_seek : ByteArray := prog_5_method_3_code
def yX3_seek : MethodName := ⟨RX3, "seek", "(I)V"⟩
abbrev mX3_seek : Nat := 35
abbrev bX3_seekInTurn : ByteArray := prog_5_method_4_code
def yX3_seekInTurn : MethodName := ⟨RX3, "seekInTurn", "(ILLoadSpace$Place;III)V"⟩
abbrev mX3_seekInTurn : Nat := 36
abbrev bX3_seekInRow : ByteArray := prog_5_method_5_code
def yX3_seekInRow : MethodName := ⟨RX3, "seekInRow", "(ILLoadSpace$Place;II)V"⟩
abbrev mX3_seekInRow : Nat := 37
abbrev bX3_makeStep : ByteArray := prog_5_method_6_code
def yX3_makeStep : MethodName := ⟨RX3, "makeStep", "(ILLoadSpace$Place;)V"⟩
abbrev mX3_makeStep : Nat := 38
abbrev bX3_isFreeAndBorne : ByteArray := prog_5_method_7_code
def yX3_isFreeAndBorne : MethodName := ⟨RX3, "isFreeAndBorne", "(LLoadSpace$Place;)Z"⟩
abbrev mX3_isFreeAndBorne : Nat := 39
abbrev bX3_setHeights : ByteArray := prog_5_method_8_code
def yX3_setHeights : MethodName := ⟨RX3, "setHeights", "(LLoadSpace$Place;I)V"⟩
abbrev mX3_setHeights : Nat := 40
abbrev bX3_hasEnded : ByteArray := prog_5_method_9_code
def yX3_hasEnded : MethodName := ⟨RX3, "hasEnded", "()Z"⟩
abbrev mX3_hasEnded : Nat := 41
abbrev bX3_startsOn : ByteArray := prog_5_method_10_code
def yX3_startsOn : MethodName := ⟨RX3, "startsOn", "(I)I"⟩
abbrev mX3_startsOn : Nat := 42
abbrev bX3_hasBit : ByteArray := prog_5_method_11_code
def yX3_hasBit : MethodName := ⟨RX3, "hasBit", "(II)Z"⟩
abbrev mX3_hasBit : Nat := 43
abbrev bX3_keepIfBetter : ByteArray := prog_5_method_12_code
def yX3_keepIfBetter : MethodName := ⟨RX3, "keepIfBetter", "()V"⟩
abbrev mX3_keepIfBetter : Nat := 44
abbrev bX4_init : ByteArray := prog_6_method_1_code
def yX4_init : MethodName := ⟨RX4, "<init>", "(III)V"⟩
abbrev mX4_init : Nat := 45
abbrev bX4_cells : ByteArray := prog_6_method_2_code
def yX4_cells : MethodName := ⟨RX4, "cells", "()I"⟩
abbrev mX4_cells : Nat := 46
abbrev bX5_init : ByteArray := prog_1_method_1_code
def yX5_init : MethodName := ⟨RX5, "<init>", "(III)V"⟩
abbrev mX5_init : Nat := 47
abbrev bX5_piece : ByteArray := prog_1_method_2_code
def yX5_piece : MethodName := ⟨RX5, "piece", "(IIII)I"⟩
abbrev mX5_piece : Nat := 48
abbrev bX5_turn : ByteArray := prog_1_method_3_code
def yX5_turn : MethodName := ⟨RX5, "turn", "(II)I"⟩
abbrev mX5_turn : Nat := 49
abbrev bX5_limit : ByteArray := prog_1_method_4_code
def yX5_limit : MethodName := ⟨RX5, "limit", "(II)I"⟩
abbrev mX5_limit : Nat := 50
abbrev bX5_order : ByteArray := prog_1_method_5_code
def yX5_order : MethodName := ⟨RX5, "order", "(II)I"⟩
abbrev mX5_order : Nat := 51
abbrev bX5_large : ByteArray := prog_1_method_6_code
def yX5_large : MethodName := ⟨RX5, "large", "(I)I"⟩
abbrev mX5_large : Nat := 52
abbrev bX5_pack : ByteArray := prog_1_method_7_code
def yX5_pack : MethodName := ⟨RX5, "pack", "(I)I"⟩
abbrev mX5_pack : Nat := 53
abbrev bX5_exact : ByteArray := prog_1_method_8_code
def yX5_exact : MethodName := ⟨RX5, "exact", "()Z"⟩
abbrev mX5_exact : Nat := 54
abbrev bX5_steps : ByteArray := prog_1_method_9_code
def yX5_steps : MethodName := ⟨RX5, "steps", "(Z)I"⟩
abbrev mX5_steps : Nat := 55
abbrev bX5_at : ByteArray := prog_1_method_10_code
def yX5_at : MethodName := ⟨RX5, "at", "(II)I"⟩
abbrev mX5_at : Nat := 56
abbrev bX5_overlap : ByteArray := prog_1_method_11_code
def yX5_overlap : MethodName := ⟨RX5, "overlap", "(II)Z"⟩
abbrev mX5_overlap : Nat := 57
abbrev bX5_above : ByteArray := prog_1_method_12_code
def yX5_above : MethodName := ⟨RX5, "above", "(II)I"⟩
abbrev mX5_above : Nat := 58
abbrev bX5_free : ByteArray := prog_1_method_13_code
def yX5_free : MethodName := ⟨RX5, "free", "()I"⟩
abbrev mX5_free : Nat := 59
abbrev bX5_bound : ByteArray := prog_1_method_14_code
def yX5_bound : MethodName := ⟨RX5, "bound", "()I"⟩
abbrev mX5_bound : Nat := 60
abbrev bX5_axle : ByteArray := prog_1_method_15_code
def yX5_axle : MethodName := ⟨RX5, "axle", "(II)J"⟩
abbrev mX5_axle : Nat := 61
abbrev bX5_unload : ByteArray := prog_1_method_16_code
def yX5_unload : MethodName := ⟨RX5, "unload", "(I)I"⟩
abbrev mX5_unload : Nat := 62
abbrev bX5_pieceOf : ByteArray := prog_1_method_17_code
def yX5_pieceOf : MethodName := ⟨RX5, "pieceOf", "(I)LLoadSpace$Piece;"⟩
abbrev mX5_pieceOf : Nat := 63
abbrev bX5_isWithin : ByteArray := prog_1_method_18_code
def yX5_isWithin : MethodName := ⟨RX5, "isWithin", "(III)Z"⟩
abbrev mX5_isWithin : Nat := 64
abbrev bX5_isLength : ByteArray := prog_1_method_19_code
def yX5_isLength : MethodName := ⟨RX5, "isLength", "(I)Z"⟩
abbrev mX5_isLength : Nat := 65
abbrev bX5_nearestLength : ByteArray := prog_1_method_20_code
def yX5_nearestLength : MethodName := ⟨RX5, "nearestLength", "(I)I"⟩
abbrev mX5_nearestLength : Nat := 66
abbrev bX5_greatestDivisor : ByteArray := prog_1_method_21_code
def yX5_greatestDivisor : MethodName := ⟨RX5, "greatestDivisor", "(JJ)J"⟩
abbrev mX5_greatestDivisor : Nat := 67
abbrev bX6_init : ByteArray := prog_8_method_1_code
def yX6_init : MethodName := ⟨RX6, "<init>", "(III)V"⟩
abbrev mX6_init : Nat := 68
abbrev bX6_near : ByteArray := prog_8_method_2_code
def yX6_near : MethodName := ⟨RX6, "near", "(I)I"⟩
abbrev mX6_near : Nat := 69
abbrev bX6_within : ByteArray := prog_8_method_3_code
def yX6_within : MethodName := ⟨RX6, "within", "(III)Z"⟩
abbrev mX6_within : Nat := 70
abbrev bX6_isPiece : ByteArray := prog_8_method_4_code
def yX6_isPiece : MethodName := ⟨RX6, "isPiece", "(I)Z"⟩
abbrev mX6_isPiece : Nat := 71
abbrev bX6_piece : ByteArray := prog_8_method_5_code
def yX6_piece : MethodName := ⟨RX6, "piece", "(IIII)I"⟩
abbrev mX6_piece : Nat := 72
abbrev bX6_turn : ByteArray := prog_8_method_6_code
def yX6_turn : MethodName := ⟨RX6, "turn", "(II)I"⟩
abbrev mX6_turn : Nat := 73
abbrev bX6_limit : ByteArray := prog_8_method_7_code
def yX6_limit : MethodName := ⟨RX6, "limit", "(II)I"⟩
abbrev mX6_limit : Nat := 74
abbrev bX6_order : ByteArray := prog_8_method_8_code
def yX6_order : MethodName := ⟨RX6, "order", "(II)I"⟩
abbrev mX6_order : Nat := 75
abbrev bX6_measure : ByteArray := prog_8_method_9_code
def yX6_measure : MethodName := ⟨RX6, "measure", "(III)I"⟩
abbrev mX6_measure : Nat := 76
abbrev bX6_turnsOf : ByteArray := prog_8_method_10_code
def yX6_turnsOf : MethodName := ⟨RX6, "turnsOf", "(I)I"⟩
abbrev mX6_turnsOf : Nat := 77
abbrev bX6_isLarge : ByteArray := prog_8_method_11_code
def yX6_isLarge : MethodName := ⟨RX6, "isLarge", "(I)Z"⟩
abbrev mX6_isLarge : Nat := 78
abbrev bX6_large : ByteArray := prog_8_method_12_code
def yX6_large : MethodName := ⟨RX6, "large", "(I)I"⟩
abbrev mX6_large : Nat := 79
abbrev bX6_common : ByteArray := prog_8_method_13_code
def yX6_common : MethodName := ⟨RX6, "common", "(IIII)I"⟩
abbrev mX6_common : Nat := 80
abbrev bX6_isAbove : ByteArray := prog_8_method_14_code
def yX6_isAbove : MethodName := ⟨RX6, "isAbove", "(II)Z"⟩
abbrev mX6_isAbove : Nat := 81
abbrev bX6_isBefore : ByteArray := prog_8_method_15_code
def yX6_isBefore : MethodName := ⟨RX6, "isBefore", "(II)Z"⟩
abbrev mX6_isBefore : Nat := 82
abbrev bX6_fits : ByteArray := prog_8_method_16_code
def yX6_fits : MethodName := ⟨RX6, "fits", "(I)Z"⟩
abbrev mX6_fits : Nat := 83
abbrev bX6_areBorne : ByteArray := prog_8_method_17_code
def yX6_areBorne : MethodName := ⟨RX6, "areBorne", "(I)Z"⟩
abbrev mX6_areBorne : Nat := 84
abbrev bX6_enter : ByteArray := prog_8_method_18_code
def yX6_enter : MethodName := ⟨RX6, "enter", "([IIII)I"⟩
abbrev mX6_enter : Nat := 85
abbrev bX6_begin : ByteArray := prog_8_method_19_code
def yX6_begin : MethodName := ⟨RX6, "begin", "(I)V"⟩
abbrev mX6_begin : Nat := 86
abbrev bX6_setBox : ByteArray := prog_8_method_20_code
def yX6_setBox : MethodName := ⟨RX6, "setBox", "(II)V"⟩
abbrev mX6_setBox : Nat := 87
abbrev bX6_judge : ByteArray := prog_8_method_21_code
def yX6_judge : MethodName := ⟨RX6, "judge", "()V"⟩
abbrev mX6_judge : Nat := 88
abbrev bX6_pack : ByteArray := prog_8_method_22_code
def yX6_pack : MethodName := ⟨RX6, "pack", "(I)I"⟩
abbrev mX6_pack : Nat := 89
abbrev bX6_exact : ByteArray := prog_8_method_23_code
def yX6_exact : MethodName := ⟨RX6, "exact", "()Z"⟩
abbrev mX6_exact : Nat := 90
abbrev bX6_steps : ByteArray := prog_8_method_24_code
def yX6_steps : MethodName := ⟨RX6, "steps", "(Z)I"⟩
abbrev mX6_steps : Nat := 91
abbrev bX6_at : ByteArray := prog_8_method_25_code
def yX6_at : MethodName := ⟨RX6, "at", "(II)I"⟩
abbrev mX6_at : Nat := 92
abbrev bX6_overlap : ByteArray := prog_8_method_26_code
def yX6_overlap : MethodName := ⟨RX6, "overlap", "(II)Z"⟩
abbrev mX6_overlap : Nat := 93
abbrev bX6_above : ByteArray := prog_8_method_27_code
def yX6_above : MethodName := ⟨RX6, "above", "(II)I"⟩
abbrev mX6_above : Nat := 94
abbrev bX6_free : ByteArray := prog_8_method_28_code
def yX6_free : MethodName := ⟨RX6, "free", "()I"⟩
abbrev mX6_free : Nat := 95
abbrev bX6_bound : ByteArray := prog_8_method_29_code
def yX6_bound : MethodName := ⟨RX6, "bound", "()I"⟩
abbrev mX6_bound : Nat := 96
abbrev bX6_greatest : ByteArray := prog_8_method_30_code
def yX6_greatest : MethodName := ⟨RX6, "greatest", "(JJ)J"⟩
abbrev mX6_greatest : Nat := 97
abbrev bX6_thrown : ByteArray := prog_8_method_31_code
def yX6_thrown : MethodName := ⟨RX6, "thrown", "()I"⟩
abbrev mX6_thrown : Nat := 98
abbrev bX6_axle : ByteArray := prog_8_method_32_code
def yX6_axle : MethodName := ⟨RX6, "axle", "(II)J"⟩
abbrev mX6_axle : Nat := 99
abbrev bX6_isClear : ByteArray := prog_8_method_33_code
def yX6_isClear : MethodName := ⟨RX6, "isClear", "(I)Z"⟩
abbrev mX6_isClear : Nat := 100
abbrev bX6_unload : ByteArray := prog_8_method_34_code
def yX6_unload : MethodName := ⟨RX6, "unload", "(I)I"⟩
abbrev mX6_unload : Nat := 101
abbrev zCl : List vw_C := [(RX0, TX0, 1), (RX1, TX1, 8), (RX2, TX2, 11), (RX3, TX3, 9), (RX4, TX4, 3), (RX5, TX5, 6), (RX6, TX6, 45)]
def zTys : List (Nat → FieldType) := [tyX0, tyX1, tyX2, tyX3, tyX4, tyX5, tyX6]
abbrev zME : Type := MethodName × ByteArray × Nat × Option FieldType × Nat × Nat
def zMT : List zME := [
  (yX0_init, bX0_init, 2, none, 0, 0),
  (yX0_empty, bX0_empty, 2, none, 0, 0),
  (yX0_copyFrom, bX0_copyFrom, 3, none, 0, 1),
  (yX0_placeOf, bX0_placeOf, 2, (some (.object "LoadSpace$Place")), 0, 1),
  (yX0_cells, bX0_cells, 3, (some .int), 0, 0),
  (yX0_weight, bX0_weight, 3, (some .int), 0, 0),
  (yX0_weightTimesY, bX0_weightTimesY, 3, (some .int), 0, 0),
  (yX0_farWeight, bX0_farWeight, 4, (some .int), 0, 0),
  (yX0_uppermost, bX0_uppermost, 7, (some .int), 0, 2),
  (yX0_keepsLimits, bX0_keepsLimits, 4, (some .boolean), 0, 1),
  (yX0_weightAbove, bX0_weightAbove, 4, (some .int), 0, 1),
  (yX0_keepsOrder, bX0_keepsOrder, 4, (some .boolean), 0, 1),
  (yX0_takeOut, bX0_takeOut, 5, (some .int), 0, 1),
  (yX0_isOpen, bX0_isOpen, 4, (some .boolean), 0, 1),
  (yX1_init, bX1_init, 5, none, 1, 4),
  (yX1_setMark, bX1_setMark, 4, none, 1, 1),
  (yX1_hasTurn, bX1_hasTurn, 2, (some .boolean), 1, 1),
  (yX1_turnedWidth, bX1_turnedWidth, 2, (some .int), 1, 1),
  (yX1_turnedHeight, bX1_turnedHeight, 2, (some .int), 1, 1),
  (yX1_turnedDepth, bX1_turnedDepth, 2, (some .int), 1, 1),
  (yX1_isLargeFor, bX1_isLargeFor, 3, (some .boolean), 1, 1),
  (yX1_cells, bX1_cells, 1, (some .int), 1, 0),
  (yX1_makesWhatOneBeforeMakes, bX1_makesWhatOneBeforeMakes, 3, (some .boolean), 1, 1),
  (yX2_init, bX2_init, 1, none, 2, 0),
  (yX2_startFor, bX2_startFor, 2, none, 2, 1),
  (yX2_turnTo, bX2_turnTo, 3, none, 2, 2),
  (yX2_copyFrom, bX2_copyFrom, 2, none, 2, 1),
  (yX2_numberOn, bX2_numberOn, 2, (some .int), 2, 1),
  (yX2_cells, bX2_cells, 1, (some .int), 2, 0),
  (yX2_overlaps, bX2_overlaps, 2, (some .boolean), 2, 1),
  (yX2_hasAbove, bX2_hasAbove, 2, (some .boolean), 2, 1),
  (yX2_hasInFront, bX2_hasInFront, 2, (some .boolean), 2, 1),
  (yX2_isOver, bX2_isOver, 3, (some .boolean), 2, 2),
  (yX3_init, bX3_init, 4, none, 3, 3),
  (yX3_begin, bX3_begin, 3, none, 3, 1),
  (yX3_seek, bX3_seek, 8, none, 3, 1),
  (yX3_seekInTurn, bX3_seekInTurn, 11, none, 3, 5),
  (yX3_seekInRow, bX3_seekInRow, 6, none, 3, 4),
  (yX3_makeStep, bX3_makeStep, 3, none, 3, 2),
  (yX3_isFreeAndBorne, bX3_isFreeAndBorne, 5, (some .boolean), 3, 1),
  (yX3_setHeights, bX3_setHeights, 6, none, 3, 2),
  (yX3_hasEnded, bX3_hasEnded, 1, (some .boolean), 3, 0),
  (yX3_startsOn, bX3_startsOn, 6, (some .int), 3, 1),
  (yX3_hasBit, bX3_hasBit, 2, (some .boolean), 3, 2),
  (yX3_keepIfBetter, bX3_keepIfBetter, 3, none, 3, 0),
  (yX4_init, bX4_init, 4, none, 4, 3),
  (yX4_cells, bX4_cells, 1, (some .int), 4, 0),
  (yX5_init, bX5_init, 4, none, 5, 3),
  (yX5_piece, bX5_piece, 5, (some .int), 5, 4),
  (yX5_turn, bX5_turn, 5, (some .int), 5, 2),
  (yX5_limit, bX5_limit, 4, (some .int), 5, 2),
  (yX5_order, bX5_order, 5, (some .int), 5, 2),
  (yX5_large, bX5_large, 3, (some .int), 5, 1),
  (yX5_pack, bX5_pack, 2, (some .int), 5, 1),
  (yX5_exact, bX5_exact, 1, (some .boolean), 5, 0),
  (yX5_steps, bX5_steps, 2, (some .int), 5, 1),
  (yX5_at, bX5_at, 4, (some .int), 5, 2),
  (yX5_overlap, bX5_overlap, 5, (some .boolean), 5, 2),
  (yX5_above, bX5_above, 3, (some .int), 5, 2),
  (yX5_free, bX5_free, 1, (some .int), 5, 0),
  (yX5_bound, bX5_bound, 4, (some .int), 5, 0),
  (yX5_axle, bX5_axle, 11, (some .long), 5, 2),
  (yX5_unload, bX5_unload, 5, (some .int), 5, 1),
  (yX5_pieceOf, bX5_pieceOf, 2, (some (.object "LoadSpace$Piece")), 5, 1),
  (yX5_isWithin, bX5_isWithin, 3, (some .boolean), 5, 3),
  (yX5_isLength, bX5_isLength, 1, (some .boolean), 5, 1),
  (yX5_nearestLength, bX5_nearestLength, 1, (some .int), 5, 1),
  (yX5_greatestDivisor, bX5_greatestDivisor, 11, (some .long), 5, 2),
  (yX6_init, bX6_init, 4, none, 6, 3),
  (yX6_near, bX6_near, 1, (some .int), 6, 1),
  (yX6_within, bX6_within, 3, (some .boolean), 6, 3),
  (yX6_isPiece, bX6_isPiece, 2, (some .boolean), 6, 1),
  (yX6_piece, bX6_piece, 5, (some .int), 6, 4),
  (yX6_turn, bX6_turn, 4, (some .int), 6, 2),
  (yX6_limit, bX6_limit, 3, (some .int), 6, 2),
  (yX6_order, bX6_order, 4, (some .int), 6, 2),
  (yX6_measure, bX6_measure, 7, (some .int), 6, 3),
  (yX6_turnsOf, bX6_turnsOf, 1, (some .int), 6, 1),
  (yX6_isLarge, bX6_isLarge, 4, (some .boolean), 6, 1),
  (yX6_large, bX6_large, 2, (some .int), 6, 1),
  (yX6_common, bX6_common, 6, (some .int), 6, 4),
  (yX6_isAbove, bX6_isAbove, 3, (some .boolean), 6, 2),
  (yX6_isBefore, bX6_isBefore, 3, (some .boolean), 6, 2),
  (yX6_fits, bX6_fits, 7, (some .boolean), 6, 1),
  (yX6_areBorne, bX6_areBorne, 7, (some .boolean), 6, 1),
  (yX6_enter, bX6_enter, 6, (some .int), 6, 4),
  (yX6_begin, bX6_begin, 6, none, 6, 1),
  (yX6_setBox, bX6_setBox, 4, none, 6, 2),
  (yX6_judge, bX6_judge, 5, none, 6, 0),
  (yX6_pack, bX6_pack, 7, (some .int), 6, 1),
  (yX6_exact, bX6_exact, 1, (some .boolean), 6, 0),
  (yX6_steps, bX6_steps, 2, (some .int), 6, 1),
  (yX6_at, bX6_at, 4, (some .int), 6, 2),
  (yX6_overlap, bX6_overlap, 5, (some .boolean), 6, 2),
  (yX6_above, bX6_above, 6, (some .int), 6, 2),
  (yX6_free, bX6_free, 3, (some .int), 6, 0),
  (yX6_bound, bX6_bound, 3, (some .int), 6, 0),
  (yX6_greatest, bX6_greatest, 10, (some .long), 6, 2),
  (yX6_thrown, bX6_thrown, 1, (some .int), 6, 0),
  (yX6_axle, bX6_axle, 11, (some .long), 6, 2),
  (yX6_isClear, bX6_isClear, 7, (some .boolean), 6, 1),
  (yX6_unload, bX6_unload, 5, (some .int), 6, 1)]
def zi0 : List (List (Option (Instr × Nat))) := [
  [some (.aload_n 0, 1), some (.invokespecial 3, 3), none, none, some (.aload_n 0, 1), some (.bipush 6, 2), none, some (.anewarray 9, 3)],
  [none, none, some (.putfield 11, 3), none, none, some (.iconst 0, 1), some (.istore_n 1, 1), some (.iload_n 1, 1)],
  [some (.aload_n 0, 1), some (.getfield 11, 3), none, none, some (.arraylength, 1), some (.if_icmp .ge 22, 3), none, none],
  [some (.aload_n 0, 1), some (.getfield 11, 3), none, none, some (.iload_n 1, 1), some (.new 9, 3), none, none],
  [some (.dup, 1), some (.invokespecial 17, 3), none, none, some (.aastore, 1), some (.iinc 1 1, 3), none, none],
  [some (.goto (-25), 3), none, none, some (.return_, 1), none, none, none, none]]
def zi1 : List (List (Option (Instr × Nat))) := [
  [some (.iconst 0, 1), some (.istore_n 1, 1), some (.iload_n 1, 1), some (.aload_n 0, 1), some (.getfield 11, 3), none, none, some (.arraylength, 1)],
  [some (.if_icmp .ge 19, 3), none, none, some (.aload_n 0, 1), some (.getfield 11, 3), none, none, some (.iload_n 1, 1)],
  [some (.aaload, 1), some (.iconst 0, 1), some (.putfield 18, 3), none, none, some (.iinc 1 1, 3), none, none],
  [some (.goto (-22), 3), none, none, some (.return_, 1), none, none, none, none]]
def zi2 : List (List (Option (Instr × Nat))) := [
  [some (.iconst 0, 1), some (.istore_n 2, 1), some (.iload_n 2, 1), some (.aload_n 0, 1), some (.getfield 11, 3), none, none, some (.arraylength, 1)],
  [some (.if_icmp .ge 33, 3), none, none, some (.iload_n 2, 1), some (.aload_n 1, 1), some (.getfield 11, 3), none, none],
  [some (.arraylength, 1), some (.if_icmp .ge 24, 3), none, none, some (.aload_n 0, 1), some (.getfield 11, 3), none, none],
  [some (.iload_n 2, 1), some (.aaload, 1), some (.aload_n 1, 1), some (.getfield 11, 3), none, none, some (.iload_n 2, 1), some (.aaload, 1)],
  [some (.invokevirtual 22, 3), none, none, some (.iinc 2 1, 3), none, none, some (.goto (-36), 3), none],
  [none, some (.return_, 1), none, none, none, none, none, none]]
def zi3 : List (List (Option (Instr × Nat))) := [
  [some (.iload_n 1, 1), some (.iconst 1, 1), some (.if_icmp .lt 26, 3), none, none, some (.iload_n 1, 1), some (.aload_n 0, 1), some (.getfield 11, 3)],
  [none, none, some (.arraylength, 1), some (.if_icmp .gt 17, 3), none, none, some (.aload_n 0, 1), some (.getfield 11, 3)],
  [none, none, some (.iload_n 1, 1), some (.iconst 1, 1), some (.isub, 1), some (.aaload, 1), some (.getfield 18, 3), none],
  [none, some (.ifCond .ne 5, 3), none, none, some (.aconst_null, 1), some (.areturn, 1), some (.aload_n 0, 1), some (.getfield 11, 3)],
  [none, none, some (.iload_n 1, 1), some (.iconst 1, 1), some (.isub, 1), some (.aaload, 1), some (.areturn, 1), none]]
def zi4 : List (List (Option (Instr × Nat))) := [
  [some (.iconst 0, 1), some (.istore_n 1, 1), some (.iconst 0, 1), some (.istore_n 2, 1), some (.iload_n 2, 1), some (.aload_n 0, 1), some (.getfield 11, 3), none],
  [none, some (.arraylength, 1), some (.if_icmp .ge 37, 3), none, none, some (.iload_n 1, 1), some (.aload_n 0, 1), some (.getfield 11, 3)],
  [none, none, some (.iload_n 2, 1), some (.aaload, 1), some (.getfield 18, 3), none, none, some (.ifCond .eq 15, 3)],
  [none, none, some (.aload_n 0, 1), some (.getfield 11, 3), none, none, some (.iload_n 2, 1), some (.aaload, 1)],
  [some (.invokevirtual 26, 3), none, none, some (.goto 4, 3), none, none, some (.iconst 0, 1), some (.iadd, 1)],
  [some (.istore_n 1, 1), some (.iinc 2 1, 3), none, none, some (.goto (-40), 3), none, none, some (.iload_n 1, 1)],
  [some (.ireturn, 1), none, none, none, none, none, none, none]]
def zi5 : List (List (Option (Instr × Nat))) := [
  [some (.iconst 0, 1), some (.istore_n 1, 1), some (.iconst 0, 1), some (.istore_n 2, 1), some (.iload_n 2, 1), some (.aload_n 0, 1), some (.getfield 11, 3), none],
  [none, some (.arraylength, 1), some (.if_icmp .ge 37, 3), none, none, some (.iload_n 1, 1), some (.aload_n 0, 1), some (.getfield 11, 3)],
  [none, none, some (.iload_n 2, 1), some (.aaload, 1), some (.getfield 18, 3), none, none, some (.ifCond .eq 15, 3)],
  [none, none, some (.aload_n 0, 1), some (.getfield 11, 3), none, none, some (.iload_n 2, 1), some (.aaload, 1)],
  [some (.getfield 30, 3), none, none, some (.goto 4, 3), none, none, some (.iconst 0, 1), some (.iadd, 1)],
  [some (.istore_n 1, 1), some (.iinc 2 1, 3), none, none, some (.goto (-40), 3), none, none, some (.iload_n 1, 1)],
  [some (.ireturn, 1), none, none, none, none, none, none, none]]
def zi6 : List (List (Option (Instr × Nat))) := [
  [some (.iconst 0, 1), some (.istore_n 1, 1), some (.iconst 0, 1), some (.istore_n 2, 1), some (.iload_n 2, 1), some (.aload_n 0, 1), some (.getfield 11, 3), none],
  [none, some (.arraylength, 1), some (.if_icmp .ge 47, 3), none, none, some (.iload_n 1, 1), some (.aload_n 0, 1), some (.getfield 11, 3)],
  [none, none, some (.iload_n 2, 1), some (.aaload, 1), some (.getfield 18, 3), none, none, some (.ifCond .eq 25, 3)],
  [none, none, some (.aload_n 0, 1), some (.getfield 11, 3), none, none, some (.iload_n 2, 1), some (.aaload, 1)],
  [some (.getfield 30, 3), none, none, some (.aload_n 0, 1), some (.getfield 11, 3), none, none, some (.iload_n 2, 1)],
  [some (.aaload, 1), some (.getfield 34, 3), none, none, some (.imul, 1), some (.goto 4, 3), none, none],
  [some (.iconst 0, 1), some (.iadd, 1), some (.istore_n 1, 1), some (.iinc 2 1, 3), none, none, some (.goto (-50), 3), none],
  [none, some (.iload_n 1, 1), some (.ireturn, 1), none, none, none, none, none]]
def zi7 : List (List (Option (Instr × Nat))) := [
  [some (.iconst 0, 1), some (.istore_n 1, 1), some (.iconst 0, 1), some (.istore_n 2, 1), some (.iload_n 2, 1), some (.aload_n 0, 1), some (.getfield 11, 3), none],
  [none, some (.arraylength, 1), some (.if_icmp .ge 46, 3), none, none, some (.aload_n 0, 1), some (.getfield 11, 3), none],
  [none, some (.iload_n 2, 1), some (.aaload, 1), some (.astore_n 3, 1), some (.iload_n 1, 1), some (.aload_n 3, 1), some (.getfield 18, 3), none],
  [none, some (.ifCond .eq 22, 3), none, none, some (.aload_n 3, 1), some (.getfield 30, 3), none, none],
  [some (.iconst 2, 1), some (.aload_n 3, 1), some (.getfield 37, 3), none, none, some (.imul, 1), some (.aload_n 3, 1), some (.getfield 40, 3)],
  [none, none, some (.iadd, 1), some (.imul, 1), some (.goto 4, 3), none, none, some (.iconst 0, 1)],
  [some (.iadd, 1), some (.istore_n 1, 1), some (.iinc 2 1, 3), none, none, some (.goto (-49), 3), none, none],
  [some (.iload_n 1, 1), some (.ireturn, 1), none, none, none, none, none, none]]
def zi8 : List (List (Option (Instr × Nat))) := [
  [some (.iconst 0, 1), some (.istore_n 3, 1), some (.iconst (-1), 1), some (.istore 4, 2), none, some (.iconst 0, 1), some (.istore 5, 2), none],
  [some (.iload 5, 2), none, some (.aload_n 0, 1), some (.getfield 11, 3), none, none, some (.arraylength, 1), some (.if_icmp .ge 58, 3)],
  [none, none, some (.aload_n 0, 1), some (.getfield 11, 3), none, none, some (.iload 5, 2), none],
  [some (.aaload, 1), some (.astore 6, 2), none, some (.aload 6, 2), none, some (.getfield 18, 3), none, none],
  [some (.ifCond .eq 35, 3), none, none, some (.aload 6, 2), none, some (.iload_n 1, 1), some (.iload_n 2, 1), some (.invokevirtual 43, 3)],
  [none, none, some (.ifCond .eq 25, 3), none, none, some (.aload 6, 2), none, some (.getfield 34, 3)],
  [none, none, some (.iload 4, 2), none, some (.if_icmp .le 15, 3), none, none, some (.aload 6, 2)],
  [none, some (.getfield 34, 3), none, none, some (.istore 4, 2), none, some (.iload 5, 2), none],
  [some (.iconst 1, 1), some (.iadd, 1), some (.istore_n 3, 1), some (.iinc 5 1, 3), none, none, some (.goto (-62), 3), none],
  [none, some (.iload_n 3, 1), some (.ireturn, 1), none, none, none, none, none]]
def zi9 : List (List (Option (Instr × Nat))) := [
  [some (.iconst 0, 1), some (.istore_n 2, 1), some (.iload_n 2, 1), some (.aload_n 0, 1), some (.getfield 11, 3), none, none, some (.arraylength, 1)],
  [some (.if_icmp .ge 58, 3), none, none, some (.aload_n 0, 1), some (.getfield 11, 3), none, none, some (.iload_n 2, 1)],
  [some (.aaload, 1), some (.astore_n 3, 1), some (.aload_n 3, 1), some (.getfield 18, 3), none, none, some (.ifCond .eq 38, 3), none],
  [none, some (.aload_n 3, 1), some (.getfield 47, 3), none, none, some (.iconst (-1), 1), some (.if_icmp .eq 30, 3), none],
  [none, some (.aload_n 3, 1), some (.aload_n 1, 1), some (.invokevirtual 50, 3), none, none, some (.ifCond .eq 22, 3), none],
  [none, some (.aload_n 0, 1), some (.aload_n 3, 1), some (.invokevirtual 54, 3), none, none, some (.aload_n 1, 1), some (.getfield 30, 3)],
  [none, none, some (.iadd, 1), some (.aload_n 3, 1), some (.getfield 47, 3), none, none, some (.if_icmp .le 5, 3)],
  [none, none, some (.iconst 0, 1), some (.ireturn, 1), some (.iinc 2 1, 3), none, none, some (.goto (-61), 3)],
  [none, none, some (.iconst 1, 1), some (.ireturn, 1), none, none, none, none]]
def zi10 : List (List (Option (Instr × Nat))) := [
  [some (.iconst 0, 1), some (.istore_n 2, 1), some (.iconst 0, 1), some (.istore_n 3, 1), some (.iload_n 3, 1), some (.aload_n 0, 1), some (.getfield 11, 3), none],
  [none, some (.arraylength, 1), some (.if_icmp .ge 50, 3), none, none, some (.iload_n 2, 1), some (.aload_n 0, 1), some (.getfield 11, 3)],
  [none, none, some (.iload_n 3, 1), some (.aaload, 1), some (.getfield 18, 3), none, none, some (.ifCond .eq 28, 3)],
  [none, none, some (.aload_n 1, 1), some (.aload_n 0, 1), some (.getfield 11, 3), none, none, some (.iload_n 3, 1)],
  [some (.aaload, 1), some (.invokevirtual 50, 3), none, none, some (.ifCond .eq 15, 3), none, none, some (.aload_n 0, 1)],
  [some (.getfield 11, 3), none, none, some (.iload_n 3, 1), some (.aaload, 1), some (.getfield 30, 3), none, none],
  [some (.goto 4, 3), none, none, some (.iconst 0, 1), some (.iadd, 1), some (.istore_n 2, 1), some (.iinc 3 1, 3), none],
  [none, some (.goto (-53), 3), none, none, some (.iload_n 2, 1), some (.ireturn, 1), none, none]]
def zi11 : List (List (Option (Instr × Nat))) := [
  [some (.iconst 0, 1), some (.istore_n 2, 1), some (.iload_n 2, 1), some (.aload_n 0, 1), some (.getfield 11, 3), none, none, some (.arraylength, 1)],
  [some (.if_icmp .ge 63, 3), none, none, some (.aload_n 0, 1), some (.getfield 11, 3), none, none, some (.iload_n 2, 1)],
  [some (.aaload, 1), some (.astore_n 3, 1), some (.aload_n 3, 1), some (.getfield 18, 3), none, none, some (.ifCond .eq 43, 3), none],
  [none, some (.aload_n 3, 1), some (.getfield 58, 3), none, none, some (.aload_n 1, 1), some (.getfield 58, 3), none],
  [none, some (.if_icmp .ge 11, 3), none, none, some (.aload_n 3, 1), some (.aload_n 1, 1), some (.invokevirtual 61, 3), none],
  [none, some (.ifCond .ne 22, 3), none, none, some (.aload_n 1, 1), some (.getfield 58, 3), none, none],
  [some (.aload_n 3, 1), some (.getfield 58, 3), none, none, some (.if_icmp .ge 13, 3), none, none, some (.aload_n 1, 1)],
  [some (.aload_n 3, 1), some (.invokevirtual 61, 3), none, none, some (.ifCond .eq 5, 3), none, none, some (.iconst 0, 1)],
  [some (.ireturn, 1), some (.iinc 2 1, 3), none, none, some (.goto (-66), 3), none, none, some (.iconst 1, 1)],
  [some (.ireturn, 1), none, none, none, none, none, none, none]]
def zi12 : List (List (Option (Instr × Nat))) := [
  [some (.iconst 0, 1), some (.istore_n 2, 1), some (.iconst 0, 1), some (.istore_n 3, 1), some (.iload_n 3, 1), some (.aload_n 0, 1), some (.getfield 11, 3), none],
  [none, some (.arraylength, 1), some (.if_icmp .ge 52, 3), none, none, some (.aload_n 0, 1), some (.getfield 11, 3), none],
  [none, some (.iload_n 3, 1), some (.aaload, 1), some (.astore 4, 2), none, some (.aload 4, 2), none, some (.getfield 18, 3)],
  [none, none, some (.ifCond .eq 30, 3), none, none, some (.aload 4, 2), none, some (.getfield 58, 3)],
  [none, none, some (.iload_n 1, 1), some (.if_icmp .ne 21, 3), none, none, some (.aload_n 0, 1), some (.aload 4, 2)],
  [none, some (.invokevirtual 64, 3), none, none, some (.ifCond .eq 12, 3), none, none, some (.aload 4, 2)],
  [none, some (.iconst 0, 1), some (.putfield 18, 3), none, none, some (.iinc 2 1, 3), none, none],
  [some (.iinc 3 1, 3), none, none, some (.goto (-55), 3), none, none, some (.iload_n 2, 1), some (.ireturn, 1)]]
def zi13 : List (List (Option (Instr × Nat))) := [
  [some (.iconst 0, 1), some (.istore_n 2, 1), some (.iload_n 2, 1), some (.aload_n 0, 1), some (.getfield 11, 3), none, none, some (.arraylength, 1)],
  [some (.if_icmp .ge 41, 3), none, none, some (.aload_n 0, 1), some (.getfield 11, 3), none, none, some (.iload_n 2, 1)],
  [some (.aaload, 1), some (.astore_n 3, 1), some (.aload_n 3, 1), some (.getfield 18, 3), none, none, some (.ifCond .eq 21, 3), none],
  [none, some (.aload_n 1, 1), some (.aload_n 3, 1), some (.invokevirtual 50, 3), none, none, some (.ifCond .ne 11, 3), none],
  [none, some (.aload_n 1, 1), some (.aload_n 3, 1), some (.invokevirtual 61, 3), none, none, some (.ifCond .eq 5, 3), none],
  [none, some (.iconst 0, 1), some (.ireturn, 1), some (.iinc 2 1, 3), none, none, some (.goto (-44), 3), none],
  [none, some (.iconst 1, 1), some (.ireturn, 1), none, none, none, none, none]]
def zi14 : List (List (Option (Instr × Nat))) := [
  [some (.aload_n 0, 1), some (.invokespecial 3, 3), none, none, some (.aload_n 0, 1), some (.iload_n 1, 1), some (.putfield 9, 3), none],
  [none, some (.aload_n 0, 1), some (.iload_n 2, 1), some (.putfield 15, 3), none, none, some (.aload_n 0, 1), some (.iload_n 3, 1)],
  [some (.putfield 18, 3), none, none, some (.aload_n 0, 1), some (.iload 4, 2), none, some (.putfield 21, 3), none],
  [none, some (.aload_n 0, 1), some (.iconst (-1), 1), some (.putfield 24, 3), none, none, some (.aload_n 0, 1), some (.iconst 1, 1)],
  [some (.putfield 27, 3), none, none, some (.return_, 1), none, none, none, none]]
def zi15 : List (List (Option (Instr × Nat))) := [
  [some (.aload_n 0, 1), some (.iload_n 1, 1), some (.putfield 30, 3), none, none, some (.iload_n 1, 1), some (.ifCond .ne 7, 3), none],
  [none, some (.iconst 1, 1), some (.goto 14, 3), none, none, some (.iload_n 1, 1), some (.iconst 1, 1), some (.if_icmp .ne 7, 3)],
  [none, none, some (.iconst 2, 1), some (.goto 5, 3), none, none, some (.bipush 6, 2), none],
  [some (.istore_n 2, 1), some (.aload_n 0, 1), some (.iconst 0, 1), some (.putfield 27, 3), none, none, some (.iconst 0, 1), some (.istore_n 3, 1)],
  [some (.iload_n 3, 1), some (.iload_n 2, 1), some (.if_icmp .ge 29, 3), none, none, some (.aload_n 0, 1), some (.iload_n 3, 1), some (.invokevirtual 33, 3)],
  [none, none, some (.ifCond .ne 15, 3), none, none, some (.aload_n 0, 1), some (.dup, 1), some (.getfield 27, 3)],
  [none, none, some (.iconst 1, 1), some (.iload_n 3, 1), some (.ishl, 1), some (.ior, 1), some (.putfield 27, 3), none],
  [none, some (.iinc 3 1, 3), none, none, some (.goto (-28), 3), none, none, some (.return_, 1)]]
def zi16 : List (List (Option (Instr × Nat))) := [
  [some (.aload_n 0, 1), some (.getfield 27, 3), none, none, some (.iload_n 1, 1), some (.ishr, 1), some (.iconst 1, 1), some (.iand, 1)],
  [some (.ifCond .eq 7, 3), none, none, some (.iconst 1, 1), some (.goto 4, 3), none, none, some (.iconst 0, 1)],
  [some (.ireturn, 1), none, none, none, none, none, none, none]]
def zi17 : List (List (Option (Instr × Nat))) := [
  [some (.iload_n 1, 1), some (.tableswitch 45 1 5 #[35, 45, 40, 35, 40], 35), none, none, none, none, none, none],
  [none, none, none, none, none, none, none, none],
  [none, none, none, none, none, none, none, none],
  [none, none, none, none, none, none, none, none],
  [none, none, none, none, some (.aload_n 0, 1), some (.getfield 18, 3), none, none],
  [some (.ireturn, 1), some (.aload_n 0, 1), some (.getfield 15, 3), none, none, some (.ireturn, 1), some (.aload_n 0, 1), some (.getfield 9, 3)],
  [none, none, some (.ireturn, 1), none, none, none, none, none]]
def zi18 : List (List (Option (Instr × Nat))) := [
  [some (.iload_n 1, 1), some (.tableswitch 41 2 5 #[31, 31, 36, 36], 31), none, none, none, none, none, none],
  [none, none, none, none, none, none, none, none],
  [none, none, none, none, none, none, none, none],
  [none, none, none, none, none, none, none, none],
  [some (.aload_n 0, 1), some (.getfield 18, 3), none, none, some (.ireturn, 1), some (.aload_n 0, 1), some (.getfield 9, 3), none],
  [none, some (.ireturn, 1), some (.aload_n 0, 1), some (.getfield 15, 3), none, none, some (.ireturn, 1), none]]
def zi19 : List (List (Option (Instr × Nat))) := [
  [some (.iload_n 1, 1), some (.tableswitch 41 1 4 #[31, 36, 31, 36], 31), none, none, none, none, none, none],
  [none, none, none, none, none, none, none, none],
  [none, none, none, none, none, none, none, none],
  [none, none, none, none, none, none, none, none],
  [some (.aload_n 0, 1), some (.getfield 9, 3), none, none, some (.ireturn, 1), some (.aload_n 0, 1), some (.getfield 15, 3), none],
  [none, some (.ireturn, 1), some (.aload_n 0, 1), some (.getfield 18, 3), none, none, some (.ireturn, 1), none]]
def zi20 : List (List (Option (Instr × Nat))) := [
  [some (.iconst 0, 1), some (.istore_n 2, 1), some (.iload_n 2, 1), some (.bipush 6, 2), none, some (.if_icmp .ge 55, 3), none, none],
  [some (.aload_n 0, 1), some (.iload_n 2, 1), some (.invokevirtual 37, 3), none, none, some (.ifCond .eq 41, 3), none, none],
  [some (.aload_n 0, 1), some (.iload_n 2, 1), some (.invokevirtual 40, 3), none, none, some (.aload_n 1, 1), some (.getfield 44, 3), none],
  [none, some (.if_icmp .gt 29, 3), none, none, some (.aload_n 0, 1), some (.iload_n 2, 1), some (.invokevirtual 47, 3), none],
  [none, some (.aload_n 1, 1), some (.getfield 50, 3), none, none, some (.if_icmp .gt 17, 3), none, none],
  [some (.aload_n 0, 1), some (.iload_n 2, 1), some (.invokevirtual 51, 3), none, none, some (.aload_n 1, 1), some (.getfield 54, 3), none],
  [none, some (.if_icmp .gt 5, 3), none, none, some (.iconst 0, 1), some (.ireturn, 1), some (.iinc 2 1, 3), none],
  [none, some (.goto (-55), 3), none, none, some (.iconst 1, 1), some (.ireturn, 1), none, none]]
def zi21 : List (List (Option (Instr × Nat))) := [
  [some (.aload_n 0, 1), some (.getfield 9, 3), none, none, some (.aload_n 0, 1), some (.getfield 15, 3), none, none],
  [some (.imul, 1), some (.aload_n 0, 1), some (.getfield 18, 3), none, none, some (.imul, 1), some (.ireturn, 1), none]]
def zi22 : List (List (Option (Instr × Nat))) := [
  [some (.iconst 0, 1), some (.istore_n 2, 1), some (.iload_n 2, 1), some (.iload_n 1, 1), some (.if_icmp .ge 50, 3), none, none, some (.aload_n 0, 1)],
  [some (.iload_n 2, 1), some (.invokevirtual 40, 3), none, none, some (.aload_n 0, 1), some (.iload_n 1, 1), some (.invokevirtual 40, 3), none],
  [none, some (.if_icmp .ne 31, 3), none, none, some (.aload_n 0, 1), some (.iload_n 2, 1), some (.invokevirtual 47, 3), none],
  [none, some (.aload_n 0, 1), some (.iload_n 1, 1), some (.invokevirtual 47, 3), none, none, some (.if_icmp .ne 18, 3), none],
  [none, some (.aload_n 0, 1), some (.iload_n 2, 1), some (.invokevirtual 51, 3), none, none, some (.aload_n 0, 1), some (.iload_n 1, 1)],
  [some (.invokevirtual 51, 3), none, none, some (.if_icmp .ne 5, 3), none, none, some (.iconst 1, 1), some (.ireturn, 1)],
  [some (.iinc 2 1, 3), none, none, some (.goto (-49), 3), none, none, some (.iconst 0, 1), some (.ireturn, 1)]]
def zi23 : List (List (Option (Instr × Nat))) := [
  [some (.aload_n 0, 1), some (.invokespecial 1, 3), none, none, some (.return_, 1), none, none, none]]
def zi24 : List (List (Option (Instr × Nat))) := [
  [some (.aload_n 0, 1), some (.iconst 0, 1), some (.putfield 7, 3), none, none, some (.aload_n 0, 1), some (.aload_n 1, 1), some (.getfield 13, 3)],
  [none, none, some (.putfield 19, 3), none, none, some (.aload_n 0, 1), some (.aload_n 1, 1), some (.getfield 20, 3)],
  [none, none, some (.putfield 23, 3), none, none, some (.aload_n 0, 1), some (.aload_n 1, 1), some (.getfield 24, 3)],
  [none, none, some (.putfield 27, 3), none, none, some (.return_, 1), none, none]]
def zi25 : List (List (Option (Instr × Nat))) := [
  [some (.aload_n 0, 1), some (.iload_n 2, 1), some (.putfield 28, 3), none, none, some (.aload_n 0, 1), some (.aload_n 1, 1), some (.iload_n 2, 1)],
  [some (.invokevirtual 31, 3), none, none, some (.putfield 35, 3), none, none, some (.aload_n 0, 1), some (.aload_n 1, 1)],
  [some (.iload_n 2, 1), some (.invokevirtual 38, 3), none, none, some (.putfield 41, 3), none, none, some (.aload_n 0, 1)],
  [some (.aload_n 1, 1), some (.iload_n 2, 1), some (.invokevirtual 44, 3), none, none, some (.putfield 47, 3), none, none],
  [some (.return_, 1), none, none, none, none, none, none, none]]
def zi26 : List (List (Option (Instr × Nat))) := [
  [some (.aload_n 0, 1), some (.aload_n 1, 1), some (.getfield 7, 3), none, none, some (.putfield 7, 3), none, none],
  [some (.aload_n 0, 1), some (.aload_n 1, 1), some (.getfield 19, 3), none, none, some (.putfield 19, 3), none, none],
  [some (.aload_n 0, 1), some (.aload_n 1, 1), some (.getfield 23, 3), none, none, some (.putfield 23, 3), none, none],
  [some (.aload_n 0, 1), some (.aload_n 1, 1), some (.getfield 27, 3), none, none, some (.putfield 27, 3), none, none],
  [some (.aload_n 0, 1), some (.aload_n 1, 1), some (.getfield 28, 3), none, none, some (.putfield 28, 3), none, none],
  [some (.aload_n 0, 1), some (.aload_n 1, 1), some (.getfield 35, 3), none, none, some (.putfield 35, 3), none, none],
  [some (.aload_n 0, 1), some (.aload_n 1, 1), some (.getfield 41, 3), none, none, some (.putfield 41, 3), none, none],
  [some (.aload_n 0, 1), some (.aload_n 1, 1), some (.getfield 47, 3), none, none, some (.putfield 47, 3), none, none],
  [some (.aload_n 0, 1), some (.aload_n 1, 1), some (.getfield 50, 3), none, none, some (.putfield 50, 3), none, none],
  [some (.aload_n 0, 1), some (.aload_n 1, 1), some (.getfield 53, 3), none, none, some (.putfield 53, 3), none, none],
  [some (.aload_n 0, 1), some (.aload_n 1, 1), some (.getfield 56, 3), none, none, some (.putfield 56, 3), none, none],
  [some (.return_, 1), none, none, none, none, none, none, none]]
def zi27 : List (List (Option (Instr × Nat))) := [
  [some (.iload_n 1, 1), some (.tableswitch 42 0 2 #[27, 32, 37], 27), none, none, none, none, none, none],
  [none, none, none, none, none, none, none, none],
  [none, none, none, none, none, none, none, none],
  [none, none, none, none, some (.aload_n 0, 1), some (.getfield 50, 3), none, none],
  [some (.ireturn, 1), some (.aload_n 0, 1), some (.getfield 53, 3), none, none, some (.ireturn, 1), some (.aload_n 0, 1), some (.getfield 56, 3)],
  [none, none, some (.ireturn, 1), some (.aload_n 0, 1), some (.getfield 28, 3), none, none, some (.ireturn, 1)]]
def zi28 : List (List (Option (Instr × Nat))) := [
  [some (.aload_n 0, 1), some (.getfield 35, 3), none, none, some (.aload_n 0, 1), some (.getfield 41, 3), none, none],
  [some (.imul, 1), some (.aload_n 0, 1), some (.getfield 47, 3), none, none, some (.imul, 1), some (.ireturn, 1), none]]
def zi29 : List (List (Option (Instr × Nat))) := [
  [some (.aload_n 0, 1), some (.getfield 50, 3), none, none, some (.aload_n 1, 1), some (.getfield 50, 3), none, none],
  [some (.aload_n 1, 1), some (.getfield 35, 3), none, none, some (.iadd, 1), some (.if_icmp .ge 87, 3), none, none],
  [some (.aload_n 1, 1), some (.getfield 50, 3), none, none, some (.aload_n 0, 1), some (.getfield 50, 3), none, none],
  [some (.aload_n 0, 1), some (.getfield 35, 3), none, none, some (.iadd, 1), some (.if_icmp .ge 71, 3), none, none],
  [some (.aload_n 0, 1), some (.getfield 53, 3), none, none, some (.aload_n 1, 1), some (.getfield 53, 3), none, none],
  [some (.aload_n 1, 1), some (.getfield 41, 3), none, none, some (.iadd, 1), some (.if_icmp .ge 55, 3), none, none],
  [some (.aload_n 1, 1), some (.getfield 53, 3), none, none, some (.aload_n 0, 1), some (.getfield 53, 3), none, none],
  [some (.aload_n 0, 1), some (.getfield 41, 3), none, none, some (.iadd, 1), some (.if_icmp .ge 39, 3), none, none],
  [some (.aload_n 0, 1), some (.getfield 56, 3), none, none, some (.aload_n 1, 1), some (.getfield 56, 3), none, none],
  [some (.aload_n 1, 1), some (.getfield 47, 3), none, none, some (.iadd, 1), some (.if_icmp .ge 23, 3), none, none],
  [some (.aload_n 1, 1), some (.getfield 56, 3), none, none, some (.aload_n 0, 1), some (.getfield 56, 3), none, none],
  [some (.aload_n 0, 1), some (.getfield 47, 3), none, none, some (.iadd, 1), some (.if_icmp .ge 7, 3), none, none],
  [some (.iconst 1, 1), some (.goto 4, 3), none, none, some (.iconst 0, 1), some (.ireturn, 1), none, none]]
def zi30 : List (List (Option (Instr × Nat))) := [
  [some (.aload_n 1, 1), some (.getfield 53, 3), none, none, some (.aload_n 0, 1), some (.getfield 53, 3), none, none],
  [some (.aload_n 0, 1), some (.getfield 41, 3), none, none, some (.iadd, 1), some (.if_icmp .lt 71, 3), none, none],
  [some (.aload_n 0, 1), some (.getfield 50, 3), none, none, some (.aload_n 1, 1), some (.getfield 50, 3), none, none],
  [some (.aload_n 1, 1), some (.getfield 35, 3), none, none, some (.iadd, 1), some (.if_icmp .ge 55, 3), none, none],
  [some (.aload_n 1, 1), some (.getfield 50, 3), none, none, some (.aload_n 0, 1), some (.getfield 50, 3), none, none],
  [some (.aload_n 0, 1), some (.getfield 35, 3), none, none, some (.iadd, 1), some (.if_icmp .ge 39, 3), none, none],
  [some (.aload_n 0, 1), some (.getfield 56, 3), none, none, some (.aload_n 1, 1), some (.getfield 56, 3), none, none],
  [some (.aload_n 1, 1), some (.getfield 47, 3), none, none, some (.iadd, 1), some (.if_icmp .ge 23, 3), none, none],
  [some (.aload_n 1, 1), some (.getfield 56, 3), none, none, some (.aload_n 0, 1), some (.getfield 56, 3), none, none],
  [some (.aload_n 0, 1), some (.getfield 47, 3), none, none, some (.iadd, 1), some (.if_icmp .ge 7, 3), none, none],
  [some (.iconst 1, 1), some (.goto 4, 3), none, none, some (.iconst 0, 1), some (.ireturn, 1), none, none]]
def zi31 : List (List (Option (Instr × Nat))) := [
  [some (.aload_n 1, 1), some (.getfield 56, 3), none, none, some (.aload_n 0, 1), some (.getfield 56, 3), none, none],
  [some (.aload_n 0, 1), some (.getfield 47, 3), none, none, some (.iadd, 1), some (.if_icmp .lt 71, 3), none, none],
  [some (.aload_n 0, 1), some (.getfield 50, 3), none, none, some (.aload_n 1, 1), some (.getfield 50, 3), none, none],
  [some (.aload_n 1, 1), some (.getfield 35, 3), none, none, some (.iadd, 1), some (.if_icmp .ge 55, 3), none, none],
  [some (.aload_n 1, 1), some (.getfield 50, 3), none, none, some (.aload_n 0, 1), some (.getfield 50, 3), none, none],
  [some (.aload_n 0, 1), some (.getfield 35, 3), none, none, some (.iadd, 1), some (.if_icmp .ge 39, 3), none, none],
  [some (.aload_n 0, 1), some (.getfield 53, 3), none, none, some (.aload_n 1, 1), some (.getfield 53, 3), none, none],
  [some (.aload_n 1, 1), some (.getfield 41, 3), none, none, some (.iadd, 1), some (.if_icmp .ge 23, 3), none, none],
  [some (.aload_n 1, 1), some (.getfield 53, 3), none, none, some (.aload_n 0, 1), some (.getfield 53, 3), none, none],
  [some (.aload_n 0, 1), some (.getfield 41, 3), none, none, some (.iadd, 1), some (.if_icmp .ge 7, 3), none, none],
  [some (.iconst 1, 1), some (.goto 4, 3), none, none, some (.iconst 0, 1), some (.ireturn, 1), none, none]]
def zi32 : List (List (Option (Instr × Nat))) := [
  [some (.aload_n 0, 1), some (.getfield 50, 3), none, none, some (.iload_n 1, 1), some (.if_icmp .gt 41, 3), none, none],
  [some (.iload_n 1, 1), some (.aload_n 0, 1), some (.getfield 50, 3), none, none, some (.aload_n 0, 1), some (.getfield 35, 3), none],
  [none, some (.iadd, 1), some (.if_icmp .ge 28, 3), none, none, some (.aload_n 0, 1), some (.getfield 56, 3), none],
  [none, some (.iload_n 2, 1), some (.if_icmp .gt 20, 3), none, none, some (.iload_n 2, 1), some (.aload_n 0, 1), some (.getfield 56, 3)],
  [none, none, some (.aload_n 0, 1), some (.getfield 47, 3), none, none, some (.iadd, 1), some (.if_icmp .ge 7, 3)],
  [none, none, some (.iconst 1, 1), some (.goto 4, 3), none, none, some (.iconst 0, 1), some (.ireturn, 1)]]
def zi33 : List (List (Option (Instr × Nat))) := [
  [some (.aload_n 0, 1), some (.invokespecial 3, 3), none, none, some (.aload_n 0, 1), some (.aload_n 1, 1), some (.putfield 9, 3), none],
  [none, some (.aload_n 0, 1), some (.aload_n 2, 1), some (.putfield 15, 3), none, none, some (.aload_n 0, 1), some (.aload_n 3, 1)],
  [some (.putfield 19, 3), none, none, some (.aload_n 0, 1), some (.new 23, 3), none, none, some (.dup, 1)],
  [some (.invokespecial 25, 3), none, none, some (.putfield 26, 3), none, none, some (.aload_n 0, 1), some (.sipush 144, 3)],
  [none, none, some (.newarray .int, 2), none, some (.putfield 29, 3), none, none, some (.return_, 1)]]
def zi34 : List (List (Option (Instr × Nat))) := [
  [some (.aload_n 0, 1), some (.iload_n 1, 1), some (.putfield 33, 3), none, none, some (.aload_n 0, 1), some (.iconst 0, 1), some (.putfield 37, 3)],
  [none, none, some (.aload_n 0, 1), some (.getfield 19, 3), none, none, some (.invokevirtual 40, 3), none],
  [none, some (.aload_n 0, 1), some (.iconst 0, 1), some (.putfield 43, 3), none, none, some (.aload_n 0, 1), some (.iconst 0, 1)],
  [some (.putfield 46, 3), none, none, some (.iconst 0, 1), some (.istore_n 2, 1), some (.iload_n 2, 1), some (.aload_n 0, 1), some (.getfield 15, 3)],
  [none, none, some (.arraylength, 1), some (.if_icmp .ge 48, 3), none, none, some (.iload_n 2, 1), some (.aload_n 0, 1)],
  [some (.getfield 26, 3), none, none, some (.getfield 49, 3), none, none, some (.arraylength, 1), some (.if_icmp .ge 36, 3)],
  [none, none, some (.aload_n 0, 1), some (.getfield 15, 3), none, none, some (.iload_n 2, 1), some (.aaload, 1)],
  [some (.ifnull 21, 3), none, none, some (.aload_n 0, 1), some (.getfield 26, 3), none, none, some (.getfield 49, 3)],
  [none, none, some (.iload_n 2, 1), some (.aaload, 1), some (.aload_n 0, 1), some (.getfield 15, 3), none, none],
  [some (.iload_n 2, 1), some (.aaload, 1), some (.invokevirtual 53, 3), none, none, some (.iinc 2 1, 3), none, none],
  [some (.goto (-51), 3), none, none, some (.return_, 1), none, none, none, none]]
def zi35 : List (List (Option (Instr × Nat))) := [
  [some (.iload_n 1, 1), some (.ifCond .lt 33, 3), none, none, some (.iload_n 1, 1), some (.aload_n 0, 1), some (.getfield 15, 3), none],
  [none, some (.arraylength, 1), some (.if_icmp .ge 24, 3), none, none, some (.iload_n 1, 1), some (.aload_n 0, 1), some (.getfield 26, 3)],
  [none, none, some (.getfield 49, 3), none, none, some (.arraylength, 1), some (.if_icmp .ge 12, 3), none],
  [none, some (.aload_n 0, 1), some (.getfield 15, 3), none, none, some (.iload_n 1, 1), some (.aaload, 1), some (.ifnonnull 8, 3)],
  [none, none, some (.aload_n 0, 1), some (.invokevirtual 59, 3), none, none, some (.return_, 1), some (.aload_n 0, 1)],
  [some (.getfield 15, 3), none, none, some (.iload_n 1, 1), some (.aaload, 1), some (.astore_n 2, 1), some (.aload_n 0, 1), some (.getfield 26, 3)],
  [none, none, some (.getfield 49, 3), none, none, some (.iload_n 1, 1), some (.aaload, 1), some (.astore_n 3, 1)],
  [some (.aload_n 0, 1), some (.iconst 0, 1), some (.invokevirtual 62, 3), none, none, some (.istore 4, 2), none, some (.aload_n 0, 1)],
  [some (.iconst 1, 1), some (.invokevirtual 62, 3), none, none, some (.istore 5, 2), none, some (.aload_n 0, 1), some (.iconst 2, 1)],
  [some (.invokevirtual 62, 3), none, none, some (.istore 6, 2), none, some (.iconst 0, 1), some (.istore 7, 2), none],
  [some (.iload 7, 2), none, some (.bipush 6, 2), none, some (.if_icmp .ge 44, 3), none, none, some (.aload_n 0, 1)],
  [some (.invokevirtual 66, 3), none, none, some (.ifCond .ne 37, 3), none, none, some (.aload_n 2, 1), some (.iload 7, 2)],
  [none, some (.invokevirtual 70, 3), none, none, some (.ifCond .eq 22, 3), none, none, some (.aload_n 3, 1)],
  [some (.aload_n 2, 1), some (.iload 7, 2), none, some (.invokevirtual 76, 3), none, none, some (.aload_n 0, 1), some (.iload_n 1, 1)],
  [some (.aload_n 3, 1), some (.iload 4, 2), none, some (.iload 5, 2), none, some (.iload 6, 2), none, some (.invokevirtual 80, 3)],
  [none, none, some (.iinc 7 1, 3), none, none, some (.goto (-45), 3), none, none],
  [some (.aload_n 0, 1), some (.invokevirtual 66, 3), none, none, some (.ifCond .ne 10, 3), none, none, some (.aload_n 0, 1)],
  [some (.iload_n 1, 1), some (.iconst 1, 1), some (.iadd, 1), some (.invokevirtual 84, 3), none, none, some (.return_, 1), none]]
def zi36 : List (List (Option (Instr × Nat))) := [
  [some (.aload_n 0, 1), some (.getfield 9, 3), none, none, some (.getfield 88, 3), none, none, some (.aload_n 2, 1)],
  [some (.getfield 93, 3), none, none, some (.isub, 1), some (.istore 6, 2), none, some (.aload_n 0, 1), some (.getfield 9, 3)],
  [none, none, some (.getfield 94, 3), none, none, some (.aload_n 2, 1), some (.getfield 97, 3), none],
  [none, some (.isub, 1), some (.istore 7, 2), none, some (.aload_n 0, 1), some (.getfield 9, 3), none, none],
  [some (.getfield 98, 3), none, none, some (.aload_n 2, 1), some (.getfield 101, 3), none, none, some (.isub, 1)],
  [some (.istore 8, 2), none, some (.iconst 0, 1), some (.istore 9, 2), none, some (.iload 9, 2), none, some (.iload 7, 2)],
  [none, some (.if_icmp .gt 76, 3), none, none, some (.iload 4, 2), none, some (.iload 9, 2), none],
  [some (.invokestatic 102, 3), none, none, some (.ifCond .ne 6, 3), none, none, some (.goto 57, 3), none],
  [none, some (.iconst 0, 1), some (.istore 10, 2), none, some (.iload 10, 2), none, some (.iload 8, 2), none],
  [some (.if_icmp .gt 47, 3), none, none, some (.aload_n 0, 1), some (.invokevirtual 66, 3), none, none, some (.ifCond .ne 40, 3)],
  [none, none, some (.iload 5, 2), none, some (.iload 10, 2), none, some (.invokestatic 102, 3), none],
  [none, some (.ifCond .eq 24, 3), none, none, some (.aload_n 2, 1), some (.iload 9, 2), none, some (.putfield 106, 3)],
  [none, none, some (.aload_n 2, 1), some (.iload 10, 2), none, some (.putfield 109, 3), none, none],
  [some (.aload_n 0, 1), some (.iload_n 1, 1), some (.aload_n 2, 1), some (.iload_n 3, 1), some (.iload 6, 2), none, some (.invokevirtual 112, 3), none],
  [none, some (.iinc 10 1, 3), none, none, some (.goto (-48), 3), none, none, some (.iinc 9 1, 3)],
  [none, none, some (.goto (-77), 3), none, none, some (.return_, 1), none, none]]
def zi37 : List (List (Option (Instr × Nat))) := [
  [some (.iconst 0, 1), some (.istore 5, 2), none, some (.iload 5, 2), none, some (.iload 4, 2), none, some (.if_icmp .gt 71, 3)],
  [none, none, some (.iload_n 3, 1), some (.iload 5, 2), none, some (.invokestatic 102, 3), none, none],
  [some (.ifCond .ne 6, 3), none, none, some (.goto 53, 3), none, none, some (.aload_n 2, 1), some (.iload 5, 2)],
  [none, some (.putfield 116, 3), none, none, some (.aload_n 0, 1), some (.aload_n 2, 1), some (.invokevirtual 119, 3), none],
  [none, some (.ifCond .eq 39, 3), none, none, some (.aload_n 0, 1), some (.getfield 26, 3), none, none],
  [some (.aload_n 2, 1), some (.invokevirtual 123, 3), none, none, some (.ifCond .eq 28, 3), none, none, some (.aload_n 0, 1)],
  [some (.getfield 26, 3), none, none, some (.aload_n 2, 1), some (.invokevirtual 126, 3), none, none, some (.ifCond .eq 17, 3)],
  [none, none, some (.aload_n 0, 1), some (.iload_n 1, 1), some (.aload_n 2, 1), some (.invokevirtual 129, 3), none, none],
  [some (.aload_n 0, 1), some (.invokevirtual 66, 3), none, none, some (.ifCond .eq 4, 3), none, none, some (.return_, 1)],
  [some (.iinc 5 1, 3), none, none, some (.goto (-72), 3), none, none, some (.return_, 1), none]]
def zi38 : List (List (Option (Instr × Nat))) := [
  [some (.aload_n 0, 1), some (.dup, 1), some (.getfield 37, 3), none, none, some (.iconst 1, 1), some (.iadd, 1), some (.putfield 37, 3)],
  [none, none, some (.aload_n 2, 1), some (.iconst 1, 1), some (.putfield 133, 3), none, none, some (.aload_n 0, 1)],
  [some (.aload_n 2, 1), some (.aload_n 2, 1), some (.getfield 106, 3), none, none, some (.aload_n 2, 1), some (.getfield 97, 3), none],
  [none, some (.iadd, 1), some (.invokevirtual 137, 3), none, none, some (.aload_n 0, 1), some (.invokevirtual 66, 3), none],
  [none, some (.ifCond .eq 10, 3), none, none, some (.aload_n 0, 1), some (.invokevirtual 59, 3), none, none],
  [some (.goto 10, 3), none, none, some (.aload_n 0, 1), some (.iload_n 1, 1), some (.iconst 1, 1), some (.iadd, 1), some (.invokevirtual 84, 3)],
  [none, none, some (.aload_n 0, 1), some (.aload_n 2, 1), some (.aload_n 2, 1), some (.getfield 106, 3), none, none],
  [some (.invokevirtual 137, 3), none, none, some (.aload_n 2, 1), some (.iconst 0, 1), some (.putfield 133, 3), none, none],
  [some (.return_, 1), none, none, none, none, none, none, none]]
def zi39 : List (List (Option (Instr × Nat))) := [
  [some (.aload_n 1, 1), some (.getfield 109, 3), none, none, some (.istore_n 2, 1), some (.iload_n 2, 1), some (.aload_n 1, 1), some (.getfield 109, 3)],
  [none, none, some (.aload_n 1, 1), some (.getfield 101, 3), none, none, some (.iadd, 1), some (.if_icmp .ge 72, 3)],
  [none, none, some (.aload_n 1, 1), some (.getfield 116, 3), none, none, some (.istore_n 3, 1), some (.iload_n 3, 1)],
  [some (.aload_n 1, 1), some (.getfield 116, 3), none, none, some (.aload_n 1, 1), some (.getfield 93, 3), none, none],
  [some (.iadd, 1), some (.if_icmp .ge 48, 3), none, none, some (.iload_n 2, 1), some (.bipush 12, 2), none, some (.imul, 1)],
  [some (.iload_n 3, 1), some (.iadd, 1), some (.istore 4, 2), none, some (.iload 4, 2), none, some (.ifCond .lt 27, 3), none],
  [none, some (.iload 4, 2), none, some (.aload_n 0, 1), some (.getfield 29, 3), none, none, some (.arraylength, 1)],
  [some (.if_icmp .ge 17, 3), none, none, some (.aload_n 0, 1), some (.getfield 29, 3), none, none, some (.iload 4, 2)],
  [none, some (.iaload, 1), some (.aload_n 1, 1), some (.getfield 106, 3), none, none, some (.if_icmp .eq 5, 3), none],
  [none, some (.iconst 0, 1), some (.ireturn, 1), some (.iinc 3 1, 3), none, none, some (.goto (-55), 3), none],
  [none, some (.iinc 2 1, 3), none, none, some (.goto (-79), 3), none, none, some (.iconst 1, 1)],
  [some (.ireturn, 1), none, none, none, none, none, none, none]]
def zi40 : List (List (Option (Instr × Nat))) := [
  [some (.aload_n 1, 1), some (.getfield 109, 3), none, none, some (.istore_n 3, 1), some (.iload_n 3, 1), some (.aload_n 1, 1), some (.getfield 109, 3)],
  [none, none, some (.aload_n 1, 1), some (.getfield 101, 3), none, none, some (.iadd, 1), some (.if_icmp .ge 67, 3)],
  [none, none, some (.aload_n 1, 1), some (.getfield 116, 3), none, none, some (.istore 4, 2), none],
  [some (.iload 4, 2), none, some (.aload_n 1, 1), some (.getfield 116, 3), none, none, some (.aload_n 1, 1), some (.getfield 93, 3)],
  [none, none, some (.iadd, 1), some (.if_icmp .ge 41, 3), none, none, some (.iload_n 3, 1), some (.bipush 12, 2)],
  [none, some (.imul, 1), some (.iload 4, 2), none, some (.iadd, 1), some (.istore 5, 2), none, some (.iload 5, 2)],
  [none, some (.ifCond .lt 21, 3), none, none, some (.iload 5, 2), none, some (.aload_n 0, 1), some (.getfield 29, 3)],
  [none, none, some (.arraylength, 1), some (.if_icmp .ge 11, 3), none, none, some (.aload_n 0, 1), some (.getfield 29, 3)],
  [none, none, some (.iload 5, 2), none, some (.iload_n 2, 1), some (.iastore, 1), some (.iinc 4 1, 3), none],
  [none, some (.goto (-49), 3), none, none, some (.iinc 3 1, 3), none, none, some (.goto (-74), 3)],
  [none, none, some (.return_, 1), none, none, none, none, none]]
def zi41 : List (List (Option (Instr × Nat))) := [
  [some (.aload_n 0, 1), some (.getfield 37, 3), none, none, some (.aload_n 0, 1), some (.getfield 33, 3), none, none],
  [some (.if_icmp .lt 7, 3), none, none, some (.iconst 1, 1), some (.goto 4, 3), none, none, some (.iconst 0, 1)],
  [some (.ireturn, 1), none, none, none, none, none, none, none]]
def zi42 : List (List (Option (Instr × Nat))) := [
  [some (.iconst 1, 1), some (.istore_n 2, 1), some (.iconst 0, 1), some (.istore_n 3, 1), some (.iload_n 3, 1), some (.aload_n 0, 1), some (.getfield 26, 3), none],
  [none, some (.getfield 49, 3), none, none, some (.arraylength, 1), some (.if_icmp .ge 74, 3), none, none],
  [some (.aload_n 0, 1), some (.getfield 26, 3), none, none, some (.getfield 49, 3), none, none, some (.iload_n 3, 1)],
  [some (.aaload, 1), some (.astore 4, 2), none, some (.aload 4, 2), none, some (.getfield 133, 3), none, none],
  [some (.ifCond .eq 49, 3), none, none, some (.iload_n 1, 1), some (.ifCond .ne 11, 3), none, none, some (.aload 4, 2)],
  [none, some (.getfield 93, 3), none, none, some (.goto 21, 3), none, none, some (.iload_n 1, 1)],
  [some (.iconst 1, 1), some (.if_icmp .ne 11, 3), none, none, some (.aload 4, 2), none, some (.getfield 97, 3), none],
  [none, some (.goto 8, 3), none, none, some (.aload 4, 2), none, some (.getfield 101, 3), none],
  [none, some (.istore 5, 2), none, some (.iload_n 2, 1), some (.iconst 1, 1), some (.aload 4, 2), none, some (.iload_n 1, 1)],
  [some (.invokevirtual 141, 3), none, none, some (.iload 5, 2), none, some (.iadd, 1), some (.ishl, 1), some (.ior, 1)],
  [some (.istore_n 2, 1), some (.iinc 3 1, 3), none, none, some (.goto (-80), 3), none, none, some (.iload_n 2, 1)],
  [some (.ireturn, 1), none, none, none, none, none, none, none]]
def zi43 : List (List (Option (Instr × Nat))) := [
  [some (.iload_n 0, 1), some (.iload_n 1, 1), some (.ishr, 1), some (.iconst 1, 1), some (.iand, 1), some (.ifCond .eq 7, 3), none, none],
  [some (.iconst 1, 1), some (.goto 4, 3), none, none, some (.iconst 0, 1), some (.ireturn, 1), none, none]]
def zi44 : List (List (Option (Instr × Nat))) := [
  [some (.aload_n 0, 1), some (.getfield 26, 3), none, none, some (.invokevirtual 144, 3), none, none, some (.istore_n 1, 1)],
  [some (.aload_n 0, 1), some (.getfield 26, 3), none, none, some (.invokevirtual 148, 3), none, none, some (.istore_n 2, 1)],
  [some (.iload_n 1, 1), some (.aload_n 0, 1), some (.getfield 43, 3), none, none, some (.if_icmp .gt 19, 3), none, none],
  [some (.iload_n 1, 1), some (.aload_n 0, 1), some (.getfield 43, 3), none, none, some (.if_icmp .ne 32, 3), none, none],
  [some (.iload_n 2, 1), some (.aload_n 0, 1), some (.getfield 46, 3), none, none, some (.if_icmp .ge 24, 3), none, none],
  [some (.aload_n 0, 1), some (.getfield 19, 3), none, none, some (.aload_n 0, 1), some (.getfield 26, 3), none, none],
  [some (.invokevirtual 151, 3), none, none, some (.aload_n 0, 1), some (.iload_n 1, 1), some (.putfield 43, 3), none, none],
  [some (.aload_n 0, 1), some (.iload_n 2, 1), some (.putfield 46, 3), none, none, some (.return_, 1), none, none]]
def zi45 : List (List (Option (Instr × Nat))) := [
  [some (.aload_n 0, 1), some (.invokespecial 1, 3), none, none, some (.aload_n 0, 1), some (.iload_n 1, 1), some (.putfield 7, 3), none],
  [none, some (.aload_n 0, 1), some (.iload_n 2, 1), some (.putfield 13, 3), none, none, some (.aload_n 0, 1), some (.iload_n 3, 1)],
  [some (.putfield 16, 3), none, none, some (.return_, 1), none, none, none, none]]
def zi46 : List (List (Option (Instr × Nat))) := [
  [some (.aload_n 0, 1), some (.getfield 7, 3), none, none, some (.aload_n 0, 1), some (.getfield 13, 3), none, none],
  [some (.imul, 1), some (.aload_n 0, 1), some (.getfield 16, 3), none, none, some (.imul, 1), some (.ireturn, 1), none]]
def zi47 : List (List (Option (Instr × Nat))) := [
  [some (.aload_n 0, 1), some (.invokespecial 1, 3), none, none, some (.aload_n 0, 1), some (.new 7, 3), none, none],
  [some (.dup, 1), some (.iload_n 1, 1), some (.invokestatic 9, 3), none, none, some (.iload_n 2, 1), some (.invokestatic 9, 3), none],
  [none, some (.iload_n 3, 1), some (.invokestatic 9, 3), none, none, some (.invokespecial 15, 3), none, none],
  [some (.putfield 18, 3), none, none, some (.aload_n 0, 1), some (.bipush 6, 2), none, some (.anewarray 22, 3), none],
  [none, some (.putfield 24, 3), none, none, some (.aload_n 0, 1), some (.new 28, 3), none, none],
  [some (.dup, 1), some (.invokespecial 30, 3), none, none, some (.putfield 31, 3), none, none, some (.aload_n 0, 1)],
  [some (.new 35, 3), none, none, some (.dup, 1), some (.aload_n 0, 1), some (.getfield 18, 3), none, none],
  [some (.aload_n 0, 1), some (.getfield 24, 3), none, none, some (.aload_n 0, 1), some (.getfield 31, 3), none, none],
  [some (.invokespecial 37, 3), none, none, some (.putfield 40, 3), none, none, some (.aload_n 0, 1), some (.sipush 3000, 3)],
  [none, none, some (.putfield 44, 3), none, none, some (.return_, 1), none, none]]
def zi48 : List (List (Option (Instr × Nat))) := [
  [some (.iload_n 1, 1), some (.invokestatic 48, 3), none, none, some (.ifCond .eq 29, 3), none, none, some (.iload_n 2, 1)],
  [some (.invokestatic 48, 3), none, none, some (.ifCond .eq 22, 3), none, none, some (.iload_n 3, 1), some (.invokestatic 48, 3)],
  [none, none, some (.ifCond .eq 15, 3), none, none, some (.iload 4, 2), none, some (.iconst 1, 1)],
  [some (.sipush 1000, 3), none, none, some (.invokestatic 52, 3), none, none, some (.ifCond .ne 6, 3), none],
  [none, some (.bipush (-102), 2), none, some (.ireturn, 1), some (.aload_n 0, 1), some (.getfield 56, 3), none, none],
  [some (.ifCond .lt 15, 3), none, none, some (.aload_n 0, 1), some (.getfield 56, 3), none, none, some (.aload_n 0, 1)],
  [some (.getfield 24, 3), none, none, some (.arraylength, 1), some (.if_icmp .lt 6, 3), none, none, some (.bipush (-104), 2)],
  [none, some (.ireturn, 1), some (.aload_n 0, 1), some (.getfield 24, 3), none, none, some (.aload_n 0, 1), some (.getfield 56, 3)],
  [none, none, some (.new 22, 3), none, none, some (.dup, 1), some (.iload_n 1, 1), some (.iload_n 2, 1)],
  [some (.iload_n 3, 1), some (.iload 4, 2), none, some (.invokespecial 59, 3), none, none, some (.aastore, 1), some (.aload_n 0, 1)],
  [some (.dup, 1), some (.getfield 56, 3), none, none, some (.iconst 1, 1), some (.iadd, 1), some (.putfield 56, 3), none],
  [none, some (.aload_n 0, 1), some (.getfield 56, 3), none, none, some (.ireturn, 1), none, none]]
def zi49 : List (List (Option (Instr × Nat))) := [
  [some (.aload_n 0, 1), some (.iload_n 1, 1), some (.invokevirtual 62, 3), none, none, some (.astore_n 3, 1), some (.aload_n 3, 1), some (.ifnonnull 6, 3)],
  [none, none, some (.bipush (-101), 2), none, some (.ireturn, 1), some (.iload_n 2, 1), some (.iconst 0, 1), some (.iconst 2, 1)],
  [some (.invokestatic 52, 3), none, none, some (.ifCond .ne 6, 3), none, none, some (.bipush (-102), 2), none],
  [some (.ireturn, 1), some (.aload_n 3, 1), some (.getfield 66, 3), none, none, some (.istore 4, 2), none, some (.aload_n 3, 1)],
  [some (.iload_n 2, 1), some (.invokevirtual 69, 3), none, none, some (.iload 4, 2), none, some (.ireturn, 1), none]]
def zi50 : List (List (Option (Instr × Nat))) := [
  [some (.aload_n 0, 1), some (.iload_n 1, 1), some (.invokevirtual 62, 3), none, none, some (.astore_n 3, 1), some (.aload_n 3, 1), some (.ifnonnull 6, 3)],
  [none, none, some (.bipush (-101), 2), none, some (.ireturn, 1), some (.iload_n 2, 1), some (.iconst (-1), 1), some (.if_icmp .eq 17, 3)],
  [none, none, some (.iload_n 2, 1), some (.iconst 0, 1), some (.sipush 6000, 3), none, none, some (.invokestatic 52, 3)],
  [none, none, some (.ifCond .ne 6, 3), none, none, some (.bipush (-102), 2), none, some (.ireturn, 1)],
  [some (.aload_n 3, 1), some (.iload_n 2, 1), some (.putfield 73, 3), none, none, some (.iconst 1, 1), some (.ireturn, 1), none]]
def zi51 : List (List (Option (Instr × Nat))) := [
  [some (.aload_n 0, 1), some (.iload_n 1, 1), some (.invokevirtual 62, 3), none, none, some (.astore_n 3, 1), some (.aload_n 3, 1), some (.ifnonnull 6, 3)],
  [none, none, some (.bipush (-101), 2), none, some (.ireturn, 1), some (.iload_n 2, 1), some (.iconst 0, 1), some (.bipush 9, 2)],
  [none, some (.invokestatic 52, 3), none, none, some (.ifCond .ne 6, 3), none, none, some (.bipush (-102), 2)],
  [none, some (.ireturn, 1), some (.aload_n 3, 1), some (.getfield 76, 3), none, none, some (.istore 4, 2), none],
  [some (.aload_n 3, 1), some (.iload_n 2, 1), some (.putfield 76, 3), none, none, some (.iload 4, 2), none, some (.ireturn, 1)]]
def zi52 : List (List (Option (Instr × Nat))) := [
  [some (.aload_n 0, 1), some (.iload_n 1, 1), some (.invokevirtual 62, 3), none, none, some (.astore_n 2, 1), some (.aload_n 2, 1), some (.ifnonnull 6, 3)],
  [none, none, some (.bipush (-101), 2), none, some (.ireturn, 1), some (.aload_n 2, 1), some (.aload_n 0, 1), some (.getfield 18, 3)],
  [none, none, some (.invokevirtual 79, 3), none, none, some (.ifCond .eq 7, 3), none, none],
  [some (.iconst 1, 1), some (.goto 4, 3), none, none, some (.iconst 0, 1), some (.ireturn, 1), none, none]]
def zi53 : List (List (Option (Instr × Nat))) := [
  [some (.iload_n 1, 1), some (.iconst 1, 1), some (.sipush 500, 3), none, none, some (.invokestatic 52, 3), none, none],
  [some (.ifCond .ne 6, 3), none, none, some (.bipush (-102), 2), none, some (.ireturn, 1), some (.aload_n 0, 1), some (.getfield 56, 3)],
  [none, none, some (.ifCond .ne 6, 3), none, none, some (.bipush (-103), 2), none, some (.ireturn, 1)],
  [some (.iload_n 1, 1), some (.aload_n 0, 1), some (.getfield 44, 3), none, none, some (.if_icmp .le 6, 3), none, none],
  [some (.bipush (-104), 2), none, some (.ireturn, 1), some (.aload_n 0, 1), some (.getfield 40, 3), none, none, some (.iload_n 1, 1)],
  [some (.invokevirtual 83, 3), none, none, some (.aload_n 0, 1), some (.getfield 40, 3), none, none, some (.iconst 0, 1)],
  [some (.invokevirtual 86, 3), none, none, some (.aload_n 0, 1), some (.dup, 1), some (.getfield 44, 3), none, none],
  [some (.aload_n 0, 1), some (.getfield 40, 3), none, none, some (.getfield 89, 3), none, none, some (.isub, 1)],
  [some (.putfield 44, 3), none, none, some (.aload_n 0, 1), some (.getfield 31, 3), none, none, some (.invokevirtual 92, 3)],
  [none, none, some (.ireturn, 1), none, none, none, none, none]]
def zi54 : List (List (Option (Instr × Nat))) := [
  [some (.aload_n 0, 1), some (.getfield 40, 3), none, none, some (.getfield 89, 3), none, none, some (.aload_n 0, 1)],
  [some (.getfield 40, 3), none, none, some (.getfield 96, 3), none, none, some (.if_icmp .ge 7, 3), none],
  [none, some (.iconst 1, 1), some (.goto 4, 3), none, none, some (.iconst 0, 1), some (.ireturn, 1), none]]
def zi55 : List (List (Option (Instr × Nat))) := [
  [some (.iload_n 1, 1), some (.ifCond .eq 10, 3), none, none, some (.aload_n 0, 1), some (.getfield 44, 3), none, none],
  [some (.goto 10, 3), none, none, some (.aload_n 0, 1), some (.getfield 40, 3), none, none, some (.getfield 89, 3)],
  [none, none, some (.ireturn, 1), none, none, none, none, none]]
def zi56 : List (List (Option (Instr × Nat))) := [
  [some (.aload_n 0, 1), some (.iload_n 1, 1), some (.invokevirtual 62, 3), none, none, some (.ifnonnull 6, 3), none, none],
  [some (.bipush (-101), 2), none, some (.ireturn, 1), some (.iload_n 2, 1), some (.iconst 0, 1), some (.iconst 3, 1), some (.invokestatic 52, 3), none],
  [none, some (.ifCond .ne 6, 3), none, none, some (.bipush (-102), 2), none, some (.ireturn, 1), some (.aload_n 0, 1)],
  [some (.getfield 31, 3), none, none, some (.iload_n 1, 1), some (.invokevirtual 99, 3), none, none, some (.astore_n 3, 1)],
  [some (.aload_n 3, 1), some (.ifnonnull 7, 3), none, none, some (.iconst (-1), 1), some (.goto 8, 3), none, none],
  [some (.aload_n 3, 1), some (.iload_n 2, 1), some (.invokevirtual 103, 3), none, none, some (.ireturn, 1), none, none]]
def zi57 : List (List (Option (Instr × Nat))) := [
  [some (.aload_n 0, 1), some (.getfield 31, 3), none, none, some (.iload_n 1, 1), some (.invokevirtual 99, 3), none, none],
  [some (.astore_n 3, 1), some (.aload_n 0, 1), some (.getfield 31, 3), none, none, some (.iload_n 2, 1), some (.invokevirtual 99, 3), none],
  [none, some (.astore 4, 2), none, some (.aload_n 3, 1), some (.ifnull 21, 3), none, none, some (.aload 4, 2)],
  [none, some (.ifnull 16, 3), none, none, some (.aload_n 3, 1), some (.aload 4, 2), none, some (.invokevirtual 108, 3)],
  [none, none, some (.ifCond .eq 7, 3), none, none, some (.iconst 1, 1), some (.goto 4, 3), none],
  [none, some (.iconst 0, 1), some (.ireturn, 1), none, none, none, none, none]]
def zi58 : List (List (Option (Instr × Nat))) := [
  [some (.iload_n 1, 1), some (.iconst 0, 1), some (.aload_n 0, 1), some (.getfield 18, 3), none, none, some (.getfield 112, 3), none],
  [none, some (.iconst 1, 1), some (.isub, 1), some (.invokestatic 52, 3), none, none, some (.ifCond .eq 20, 3), none],
  [none, some (.iload_n 2, 1), some (.iconst 0, 1), some (.aload_n 0, 1), some (.getfield 18, 3), none, none, some (.getfield 115, 3)],
  [none, none, some (.iconst 1, 1), some (.isub, 1), some (.invokestatic 52, 3), none, none, some (.ifCond .ne 6, 3)],
  [none, none, some (.bipush (-102), 2), none, some (.ireturn, 1), some (.aload_n 0, 1), some (.getfield 31, 3), none],
  [none, some (.iload_n 1, 1), some (.iload_n 2, 1), some (.invokevirtual 118, 3), none, none, some (.ireturn, 1), none]]
def zi59 : List (List (Option (Instr × Nat))) := [
  [some (.aload_n 0, 1), some (.getfield 18, 3), none, none, some (.invokevirtual 122, 3), none, none, some (.aload_n 0, 1)],
  [some (.getfield 31, 3), none, none, some (.invokevirtual 92, 3), none, none, some (.isub, 1), some (.ireturn, 1)]]
def zi60 : List (List (Option (Instr × Nat))) := [
  [some (.iconst 0, 1), some (.istore_n 1, 1), some (.iconst 0, 1), some (.istore_n 2, 1), some (.iload_n 2, 1), some (.aload_n 0, 1), some (.getfield 24, 3), none],
  [none, some (.arraylength, 1), some (.if_icmp .ge 38, 3), none, none, some (.aload_n 0, 1), some (.getfield 24, 3), none],
  [none, some (.iload_n 2, 1), some (.aaload, 1), some (.astore_n 3, 1), some (.aload_n 3, 1), some (.ifnull 21, 3), none, none],
  [some (.aload_n 3, 1), some (.aload_n 0, 1), some (.getfield 18, 3), none, none, some (.invokevirtual 79, 3), none, none],
  [some (.ifCond .ne 10, 3), none, none, some (.iload_n 1, 1), some (.aload_n 3, 1), some (.invokevirtual 123, 3), none, none],
  [some (.iadd, 1), some (.istore_n 1, 1), some (.iinc 2 1, 3), none, none, some (.goto (-41), 3), none, none],
  [some (.iload_n 1, 1), some (.aload_n 0, 1), some (.getfield 18, 3), none, none, some (.invokevirtual 122, 3), none, none],
  [some (.invokestatic 124, 3), none, none, some (.ireturn, 1), none, none, none, none]]
def zi61 : List (List (Option (Instr × Nat))) := [
  [some (.iload_n 1, 1), some (.iconst 0, 1), some (.iconst 1, 1), some (.invokestatic 52, 3), none, none, some (.ifCond .eq 12, 3), none],
  [none, some (.iload_n 2, 1), some (.iconst 0, 1), some (.iconst 1, 1), some (.invokestatic 52, 3), none, none, some (.ifCond .ne 7, 3)],
  [none, none, some (.ldc2_w 129, 3), none, none, some (.lreturn, 1), some (.ldc2_w 131, 3), none],
  [none, some (.aload_n 0, 1), some (.getfield 18, 3), none, none, some (.getfield 115, 3), none, none],
  [some (.i2l, 1), some (.lmul, 1), some (.aload_n 0, 1), some (.getfield 31, 3), none, none, some (.invokevirtual 133, 3), none],
  [none, some (.i2l, 1), some (.lmul, 1), some (.lstore_n 3, 1), some (.lload_n 3, 1), some (.lconst 0, 1), some (.lcmp, 1), some (.ifCond .gt 13, 3)],
  [none, none, some (.new 136, 3), none, none, some (.dup, 1), some (.ldc 138, 2), none],
  [some (.invokespecial 140, 3), none, none, some (.athrow, 1), some (.aload_n 0, 1), some (.getfield 31, 3), none, none],
  [some (.invokevirtual 143, 3), none, none, some (.i2l, 1), some (.lstore 5, 2), none, some (.iload_n 1, 1), some (.iconst 1, 1)],
  [some (.if_icmp .ne 8, 3), none, none, some (.lload 5, 2), none, some (.goto 7, 3), none, none],
  [some (.lload_n 3, 1), some (.lload 5, 2), none, some (.lsub, 1), some (.lstore 7, 2), none, some (.lload_n 3, 1), some (.lload 7, 2)],
  [none, some (.invokestatic 146, 3), none, none, some (.lstore 9, 2), none, some (.lload 9, 2), none],
  [some (.lconst 0, 1), some (.lcmp, 1), some (.ifCond .gt 6, 3), none, none, some (.lconst 1, 1), some (.lstore 9, 2), none],
  [some (.iload_n 2, 1), some (.ifCond .ne 8, 3), none, none, some (.lload 7, 2), none, some (.goto 4, 3), none],
  [none, some (.lload_n 3, 1), some (.lload 9, 2), none, some (.ldiv, 1), some (.lreturn, 1), none, none]]
def zi62 : List (List (Option (Instr × Nat))) := [
  [some (.iload_n 1, 1), some (.iconst 0, 1), some (.bipush 9, 2), none, some (.invokestatic 52, 3), none, none, some (.ifCond .ne 6, 3)],
  [none, none, some (.bipush (-102), 2), none, some (.ireturn, 1), some (.iconst 0, 1), some (.istore_n 2, 1), some (.iconst 0, 1)],
  [some (.istore_n 3, 1), some (.iload_n 3, 1), some (.bipush 6, 2), none, some (.if_icmp .gt 32, 3), none, none, some (.aload_n 0, 1)],
  [some (.getfield 31, 3), none, none, some (.iload_n 1, 1), some (.invokevirtual 150, 3), none, none, some (.istore 4, 2)],
  [none, some (.iload 4, 2), none, some (.ifCond .ne 6, 3), none, none, some (.goto 14, 3), none],
  [none, some (.iload_n 2, 1), some (.iload 4, 2), none, some (.iadd, 1), some (.istore_n 2, 1), some (.iinc 3 1, 3), none],
  [none, some (.goto (-32), 3), none, none, some (.iload_n 2, 1), some (.ireturn, 1), none, none]]
def zi63 : List (List (Option (Instr × Nat))) := [
  [some (.iload_n 1, 1), some (.iconst 1, 1), some (.if_icmp .lt 12, 3), none, none, some (.iload_n 1, 1), some (.aload_n 0, 1), some (.getfield 24, 3)],
  [none, none, some (.arraylength, 1), some (.if_icmp .le 5, 3), none, none, some (.aconst_null, 1), some (.areturn, 1)],
  [some (.aload_n 0, 1), some (.getfield 24, 3), none, none, some (.iload_n 1, 1), some (.iconst 1, 1), some (.isub, 1), some (.aaload, 1)],
  [some (.areturn, 1), none, none, none, none, none, none, none]]
def zi64 : List (List (Option (Instr × Nat))) := [
  [some (.iload_n 0, 1), some (.iload_n 1, 1), some (.if_icmp .lt 12, 3), none, none, some (.iload_n 0, 1), some (.iload_n 2, 1), some (.if_icmp .gt 7, 3)],
  [none, none, some (.iconst 1, 1), some (.goto 4, 3), none, none, some (.iconst 0, 1), some (.ireturn, 1)]]
def zi65 : List (List (Option (Instr × Nat))) := [
  [some (.iload_n 0, 1), some (.iconst 1, 1), some (.bipush 12, 2), none, some (.invokestatic 52, 3), none, none, some (.ireturn, 1)]]
def zi66 : List (List (Option (Instr × Nat))) := [
  [some (.iconst 1, 1), some (.bipush 12, 2), none, some (.iload_n 0, 1), some (.invokestatic 124, 3), none, none, some (.invokestatic 153, 3)],
  [none, none, some (.ireturn, 1), none, none, none, none, none]]
def zi67 : List (List (Option (Instr × Nat))) := [
  [some (.lload_n 0, 1), some (.lstore 4, 2), none, some (.lload_n 2, 1), some (.lstore 6, 2), none, some (.iconst 0, 1), some (.istore 8, 2)],
  [none, some (.iload 8, 2), none, some (.bipush 100, 2), none, some (.if_icmp .ge 31, 3), none, none],
  [some (.lload 6, 2), none, some (.lconst 0, 1), some (.lcmp, 1), some (.ifCond .eq 24, 3), none, none, some (.lload 4, 2)],
  [none, some (.lload 6, 2), none, some (.lrem, 1), some (.lstore 9, 2), none, some (.lload 6, 2), none],
  [some (.lstore 4, 2), none, some (.lload 9, 2), none, some (.lstore 6, 2), none, some (.iinc 8 1, 3), none],
  [none, some (.goto (-32), 3), none, none, some (.lload 4, 2), none, some (.lreturn, 1), none]]
def zi68 : List (List (Option (Instr × Nat))) := [
  [some (.aload_n 0, 1), some (.invokespecial 1, 3), none, none, some (.aload_n 0, 1), some (.bipush 6, 2), none, some (.newarray .int, 2)],
  [none, some (.putfield 7, 3), none, none, some (.aload_n 0, 1), some (.bipush 6, 2), none, some (.newarray .int, 2)],
  [none, some (.putfield 13, 3), none, none, some (.aload_n 0, 1), some (.bipush 6, 2), none, some (.newarray .int, 2)],
  [none, some (.putfield 16, 3), none, none, some (.aload_n 0, 1), some (.bipush 6, 2), none, some (.newarray .int, 2)],
  [none, some (.putfield 19, 3), none, none, some (.aload_n 0, 1), some (.bipush 6, 2), none, some (.newarray .int, 2)],
  [none, some (.putfield 22, 3), none, none, some (.aload_n 0, 1), some (.bipush 6, 2), none, some (.newarray .int, 2)],
  [none, some (.putfield 25, 3), none, none, some (.aload_n 0, 1), some (.bipush 6, 2), none, some (.newarray .int, 2)],
  [none, some (.putfield 28, 3), none, none, some (.aload_n 0, 1), some (.bipush 6, 2), none, some (.newarray .boolean, 2)],
  [none, some (.putfield 31, 3), none, none, some (.aload_n 0, 1), some (.bipush 6, 2), none, some (.newarray .int, 2)],
  [none, some (.putfield 35, 3), none, none, some (.aload_n 0, 1), some (.bipush 6, 2), none, some (.newarray .int, 2)],
  [none, some (.putfield 38, 3), none, none, some (.aload_n 0, 1), some (.bipush 6, 2), none, some (.newarray .int, 2)],
  [none, some (.putfield 41, 3), none, none, some (.aload_n 0, 1), some (.bipush 6, 2), none, some (.newarray .int, 2)],
  [none, some (.putfield 44, 3), none, none, some (.aload_n 0, 1), some (.bipush 6, 2), none, some (.newarray .int, 2)],
  [none, some (.putfield 47, 3), none, none, some (.aload_n 0, 1), some (.bipush 6, 2), none, some (.newarray .int, 2)],
  [none, some (.putfield 50, 3), none, none, some (.aload_n 0, 1), some (.bipush 6, 2), none, some (.newarray .int, 2)],
  [none, some (.putfield 53, 3), none, none, some (.aload_n 0, 1), some (.bipush 6, 2), none, some (.newarray .boolean, 2)],
  [none, some (.putfield 56, 3), none, none, some (.aload_n 0, 1), some (.bipush 6, 2), none, some (.newarray .int, 2)],
  [none, some (.putfield 59, 3), none, none, some (.aload_n 0, 1), some (.bipush 6, 2), none, some (.newarray .int, 2)],
  [none, some (.putfield 62, 3), none, none, some (.aload_n 0, 1), some (.bipush 6, 2), none, some (.newarray .int, 2)],
  [none, some (.putfield 65, 3), none, none, some (.aload_n 0, 1), some (.bipush 6, 2), none, some (.newarray .int, 2)],
  [none, some (.putfield 68, 3), none, none, some (.aload_n 0, 1), some (.bipush 6, 2), none, some (.newarray .int, 2)],
  [none, some (.putfield 71, 3), none, none, some (.aload_n 0, 1), some (.bipush 6, 2), none, some (.newarray .int, 2)],
  [none, some (.putfield 74, 3), none, none, some (.aload_n 0, 1), some (.bipush 6, 2), none, some (.newarray .int, 2)],
  [none, some (.putfield 77, 3), none, none, some (.aload_n 0, 1), some (.bipush 6, 2), none, some (.newarray .int, 2)],
  [none, some (.putfield 80, 3), none, none, some (.aload_n 0, 1), some (.bipush 6, 2), none, some (.newarray .int, 2)],
  [none, some (.putfield 83, 3), none, none, some (.aload_n 0, 1), some (.bipush 6, 2), none, some (.newarray .int, 2)],
  [none, some (.putfield 86, 3), none, none, some (.aload_n 0, 1), some (.bipush 6, 2), none, some (.newarray .int, 2)],
  [none, some (.putfield 89, 3), none, none, some (.aload_n 0, 1), some (.bipush 36, 2), none, some (.newarray .int, 2)],
  [none, some (.putfield 92, 3), none, none, some (.aload_n 0, 1), some (.bipush 6, 2), none, some (.newarray .int, 2)],
  [none, some (.putfield 95, 3), none, none, some (.aload_n 0, 1), some (.bipush 6, 2), none, some (.newarray .int, 2)],
  [none, some (.putfield 98, 3), none, none, some (.aload_n 0, 1), some (.bipush 6, 2), none, some (.newarray .int, 2)],
  [none, some (.putfield 101, 3), none, none, some (.aload_n 0, 1), some (.bipush 42, 2), none, some (.newarray .int, 2)],
  [none, some (.putfield 104, 3), none, none, some (.aload_n 0, 1), some (.bipush 42, 2), none, some (.newarray .int, 2)],
  [none, some (.putfield 107, 3), none, none, some (.aload_n 0, 1), some (.bipush 42, 2), none, some (.newarray .int, 2)],
  [none, some (.putfield 110, 3), none, none, some (.aload_n 0, 1), some (.iload_n 1, 1), some (.invokestatic 113, 3), none],
  [none, some (.putfield 117, 3), none, none, some (.aload_n 0, 1), some (.iload_n 2, 1), some (.invokestatic 113, 3), none],
  [none, some (.putfield 121, 3), none, none, some (.aload_n 0, 1), some (.iload_n 3, 1), some (.invokestatic 113, 3), none],
  [none, some (.putfield 124, 3), none, none, some (.return_, 1), none, none, none]]
def zi69 : List (List (Option (Instr × Nat))) := [
  [some (.iload_n 0, 1), some (.iconst 1, 1), some (.if_icmp .ge 7, 3), none, none, some (.iconst 1, 1), some (.goto 15, 3), none],
  [none, some (.iload_n 0, 1), some (.bipush 12, 2), none, some (.if_icmp .le 8, 3), none, none, some (.bipush 12, 2)],
  [none, some (.goto 4, 3), none, none, some (.iload_n 0, 1), some (.ireturn, 1), none, none]]
def zi70 : List (List (Option (Instr × Nat))) := [
  [some (.iload_n 0, 1), some (.iload_n 1, 1), some (.if_icmp .lt 12, 3), none, none, some (.iload_n 0, 1), some (.iload_n 2, 1), some (.if_icmp .gt 7, 3)],
  [none, none, some (.iconst 1, 1), some (.goto 4, 3), none, none, some (.iconst 0, 1), some (.ireturn, 1)]]
def zi71 : List (List (Option (Instr × Nat))) := [
  [some (.iload_n 1, 1), some (.iconst 1, 1), some (.aload_n 0, 1), some (.getfield 127, 3), none, none, some (.invokestatic 130, 3), none],
  [none, some (.ireturn, 1), none, none, none, none, none, none]]
def zi72 : List (List (Option (Instr × Nat))) := [
  [some (.iload_n 1, 1), some (.iconst 1, 1), some (.bipush 12, 2), none, some (.invokestatic 130, 3), none, none, some (.ifCond .eq 35, 3)],
  [none, none, some (.iload_n 2, 1), some (.iconst 1, 1), some (.bipush 12, 2), none, some (.invokestatic 130, 3), none],
  [none, some (.ifCond .eq 25, 3), none, none, some (.iload_n 3, 1), some (.iconst 1, 1), some (.bipush 12, 2), none],
  [some (.invokestatic 130, 3), none, none, some (.ifCond .eq 15, 3), none, none, some (.iload 4, 2), none],
  [some (.iconst 1, 1), some (.sipush 1000, 3), none, none, some (.invokestatic 130, 3), none, none, some (.ifCond .ne 6, 3)],
  [none, none, some (.bipush (-102), 2), none, some (.ireturn, 1), some (.aload_n 0, 1), some (.getfield 127, 3), none],
  [none, some (.bipush 6, 2), none, some (.if_icmp .ne 6, 3), none, none, some (.bipush (-104), 2), none],
  [some (.ireturn, 1), some (.aload_n 0, 1), some (.getfield 7, 3), none, none, some (.aload_n 0, 1), some (.getfield 127, 3), none],
  [none, some (.iload_n 1, 1), some (.iastore, 1), some (.aload_n 0, 1), some (.getfield 13, 3), none, none, some (.aload_n 0, 1)],
  [some (.getfield 127, 3), none, none, some (.iload_n 2, 1), some (.iastore, 1), some (.aload_n 0, 1), some (.getfield 16, 3), none],
  [none, some (.aload_n 0, 1), some (.getfield 127, 3), none, none, some (.iload_n 3, 1), some (.iastore, 1), some (.aload_n 0, 1)],
  [some (.getfield 19, 3), none, none, some (.aload_n 0, 1), some (.getfield 127, 3), none, none, some (.iload 4, 2)],
  [none, some (.iastore, 1), some (.aload_n 0, 1), some (.getfield 22, 3), none, none, some (.aload_n 0, 1), some (.getfield 127, 3)],
  [none, none, some (.iconst 0, 1), some (.iastore, 1), some (.aload_n 0, 1), some (.getfield 25, 3), none, none],
  [some (.aload_n 0, 1), some (.getfield 127, 3), none, none, some (.iconst (-1), 1), some (.iastore, 1), some (.aload_n 0, 1), some (.getfield 28, 3)],
  [none, none, some (.aload_n 0, 1), some (.getfield 127, 3), none, none, some (.iconst 0, 1), some (.iastore, 1)],
  [some (.aload_n 0, 1), some (.dup, 1), some (.getfield 127, 3), none, none, some (.iconst 1, 1), some (.iadd, 1), some (.putfield 127, 3)],
  [none, none, some (.aload_n 0, 1), some (.getfield 127, 3), none, none, some (.ireturn, 1), none]]
def zi73 : List (List (Option (Instr × Nat))) := [
  [some (.aload_n 0, 1), some (.iload_n 1, 1), some (.invokevirtual 134, 3), none, none, some (.ifCond .ne 6, 3), none, none],
  [some (.bipush (-101), 2), none, some (.ireturn, 1), some (.iload_n 2, 1), some (.iconst 0, 1), some (.iconst 2, 1), some (.invokestatic 130, 3), none],
  [none, some (.ifCond .ne 6, 3), none, none, some (.bipush (-102), 2), none, some (.ireturn, 1), some (.aload_n 0, 1)],
  [some (.getfield 22, 3), none, none, some (.iload_n 1, 1), some (.iconst 1, 1), some (.isub, 1), some (.iaload, 1), some (.istore_n 3, 1)],
  [some (.aload_n 0, 1), some (.getfield 22, 3), none, none, some (.iload_n 1, 1), some (.iconst 1, 1), some (.isub, 1), some (.iload_n 2, 1)],
  [some (.iastore, 1), some (.iload_n 3, 1), some (.ireturn, 1), none, none, none, none, none]]
def zi74 : List (List (Option (Instr × Nat))) := [
  [some (.aload_n 0, 1), some (.iload_n 1, 1), some (.invokevirtual 134, 3), none, none, some (.ifCond .ne 6, 3), none, none],
  [some (.bipush (-101), 2), none, some (.ireturn, 1), some (.iload_n 2, 1), some (.iconst (-1), 1), some (.sipush 6000, 3), none, none],
  [some (.invokestatic 130, 3), none, none, some (.ifCond .ne 6, 3), none, none, some (.bipush (-102), 2), none],
  [some (.ireturn, 1), some (.aload_n 0, 1), some (.getfield 25, 3), none, none, some (.iload_n 1, 1), some (.iconst 1, 1), some (.isub, 1)],
  [some (.iload_n 2, 1), some (.iastore, 1), some (.iconst 1, 1), some (.ireturn, 1), none, none, none, none]]
def zi75 : List (List (Option (Instr × Nat))) := [
  [some (.aload_n 0, 1), some (.iload_n 1, 1), some (.invokevirtual 134, 3), none, none, some (.ifCond .ne 6, 3), none, none],
  [some (.bipush (-101), 2), none, some (.ireturn, 1), some (.iload_n 2, 1), some (.iconst 0, 1), some (.bipush 9, 2), none, some (.invokestatic 130, 3)],
  [none, none, some (.ifCond .ne 6, 3), none, none, some (.bipush (-102), 2), none, some (.ireturn, 1)],
  [some (.aload_n 0, 1), some (.getfield 28, 3), none, none, some (.iload_n 1, 1), some (.iconst 1, 1), some (.isub, 1), some (.iaload, 1)],
  [some (.istore_n 3, 1), some (.aload_n 0, 1), some (.getfield 28, 3), none, none, some (.iload_n 1, 1), some (.iconst 1, 1), some (.isub, 1)],
  [some (.iload_n 2, 1), some (.iastore, 1), some (.iload_n 3, 1), some (.ireturn, 1), none, none, none, none]]
def zi76 : List (List (Option (Instr × Nat))) := [
  [some (.aload_n 0, 1), some (.getfield 7, 3), none, none, some (.iload_n 1, 1), some (.iaload, 1), some (.istore 4, 2), none],
  [some (.aload_n 0, 1), some (.getfield 13, 3), none, none, some (.iload_n 1, 1), some (.iaload, 1), some (.istore 5, 2), none],
  [some (.aload_n 0, 1), some (.getfield 16, 3), none, none, some (.iload_n 1, 1), some (.iaload, 1), some (.istore 6, 2), none],
  [some (.iload_n 2, 1), some (.tableswitch 145 1 5 #[35, 57, 79, 101, 123], 35), none, none, none, none, none, none],
  [none, none, none, none, none, none, none, none],
  [none, none, none, none, none, none, none, none],
  [none, none, none, none, none, none, none, none],
  [none, none, none, none, some (.iload_n 3, 1), some (.ifCond .ne 8, 3), none, none],
  [some (.iload 6, 2), none, some (.goto 15, 3), none, none, some (.iload_n 3, 1), some (.iconst 1, 1), some (.if_icmp .ne 8, 3)],
  [none, none, some (.iload 5, 2), none, some (.goto 5, 3), none, none, some (.iload 4, 2)],
  [none, some (.ireturn, 1), some (.iload_n 3, 1), some (.ifCond .ne 8, 3), none, none, some (.iload 4, 2), none],
  [some (.goto 15, 3), none, none, some (.iload_n 3, 1), some (.iconst 1, 1), some (.if_icmp .ne 8, 3), none, none],
  [some (.iload 6, 2), none, some (.goto 5, 3), none, none, some (.iload 5, 2), none, some (.ireturn, 1)],
  [some (.iload_n 3, 1), some (.ifCond .ne 8, 3), none, none, some (.iload 5, 2), none, some (.goto 15, 3), none],
  [none, some (.iload_n 3, 1), some (.iconst 1, 1), some (.if_icmp .ne 8, 3), none, none, some (.iload 6, 2), none],
  [some (.goto 5, 3), none, none, some (.iload 4, 2), none, some (.ireturn, 1), some (.iload_n 3, 1), some (.ifCond .ne 8, 3)],
  [none, none, some (.iload 6, 2), none, some (.goto 15, 3), none, none, some (.iload_n 3, 1)],
  [some (.iconst 1, 1), some (.if_icmp .ne 8, 3), none, none, some (.iload 4, 2), none, some (.goto 5, 3), none],
  [none, some (.iload 5, 2), none, some (.ireturn, 1), some (.iload_n 3, 1), some (.ifCond .ne 8, 3), none, none],
  [some (.iload 5, 2), none, some (.goto 15, 3), none, none, some (.iload_n 3, 1), some (.iconst 1, 1), some (.if_icmp .ne 8, 3)],
  [none, none, some (.iload 4, 2), none, some (.goto 5, 3), none, none, some (.iload 6, 2)],
  [none, some (.ireturn, 1), some (.iload_n 3, 1), some (.ifCond .ne 8, 3), none, none, some (.iload 4, 2), none],
  [some (.goto 15, 3), none, none, some (.iload_n 3, 1), some (.iconst 1, 1), some (.if_icmp .ne 8, 3), none, none],
  [some (.iload 5, 2), none, some (.goto 5, 3), none, none, some (.iload 6, 2), none, some (.ireturn, 1)]]
def zi77 : List (List (Option (Instr × Nat))) := [
  [some (.iload_n 0, 1), some (.ifCond .ne 7, 3), none, none, some (.iconst 1, 1), some (.goto 14, 3), none, none],
  [some (.iload_n 0, 1), some (.iconst 1, 1), some (.if_icmp .ne 7, 3), none, none, some (.iconst 2, 1), some (.goto 5, 3), none],
  [none, some (.bipush 6, 2), none, some (.ireturn, 1), none, none, none, none]]
def zi78 : List (List (Option (Instr × Nat))) := [
  [some (.iconst 0, 1), some (.istore_n 2, 1), some (.iconst 0, 1), some (.istore_n 3, 1), some (.iload_n 3, 1), some (.aload_n 0, 1), some (.getfield 22, 3), none],
  [none, some (.iload_n 1, 1), some (.iaload, 1), some (.invokestatic 138, 3), none, none, some (.if_icmp .ge 61, 3), none],
  [none, some (.iload_n 2, 1), some (.ifCond .ne 45, 3), none, none, some (.aload_n 0, 1), some (.iload_n 1, 1), some (.iload_n 3, 1)],
  [some (.iconst 0, 1), some (.invokevirtual 141, 3), none, none, some (.aload_n 0, 1), some (.getfield 117, 3), none, none],
  [some (.if_icmp .gt 35, 3), none, none, some (.aload_n 0, 1), some (.iload_n 1, 1), some (.iload_n 3, 1), some (.iconst 1, 1), some (.invokevirtual 141, 3)],
  [none, none, some (.aload_n 0, 1), some (.getfield 121, 3), none, none, some (.if_icmp .gt 21, 3), none],
  [none, some (.aload_n 0, 1), some (.iload_n 1, 1), some (.iload_n 3, 1), some (.iconst 2, 1), some (.invokevirtual 141, 3), none, none],
  [some (.aload_n 0, 1), some (.getfield 124, 3), none, none, some (.if_icmp .gt 7, 3), none, none, some (.iconst 1, 1)],
  [some (.goto 4, 3), none, none, some (.iconst 0, 1), some (.istore_n 2, 1), some (.iinc 3 1, 3), none, none],
  [some (.goto (-68), 3), none, none, some (.iload_n 2, 1), some (.ifCond .ne 7, 3), none, none, some (.iconst 1, 1)],
  [some (.goto 4, 3), none, none, some (.iconst 0, 1), some (.ireturn, 1), none, none, none]]
def zi79 : List (List (Option (Instr × Nat))) := [
  [some (.aload_n 0, 1), some (.iload_n 1, 1), some (.invokevirtual 134, 3), none, none, some (.ifCond .ne 8, 3), none, none],
  [some (.bipush (-101), 2), none, some (.goto 18, 3), none, none, some (.aload_n 0, 1), some (.iload_n 1, 1), some (.iconst 1, 1)],
  [some (.isub, 1), some (.invokevirtual 145, 3), none, none, some (.ifCond .eq 7, 3), none, none, some (.iconst 1, 1)],
  [some (.goto 4, 3), none, none, some (.iconst 0, 1), some (.ireturn, 1), none, none, none]]
def zi80 : List (List (Option (Instr × Nat))) := [
  [some (.iload_n 0, 1), some (.iload_n 2, 1), some (.if_icmp .le 7, 3), none, none, some (.iload_n 0, 1), some (.goto 4, 3), none],
  [none, some (.iload_n 2, 1), some (.istore 4, 2), none, some (.iload_n 0, 1), some (.iload_n 1, 1), some (.iadd, 1), some (.iload_n 2, 1)],
  [some (.iload_n 3, 1), some (.iadd, 1), some (.if_icmp .ge 9, 3), none, none, some (.iload_n 0, 1), some (.iload_n 1, 1), some (.iadd, 1)],
  [some (.goto 6, 3), none, none, some (.iload_n 2, 1), some (.iload_n 3, 1), some (.iadd, 1), some (.istore 5, 2), none],
  [some (.iload 5, 2), none, some (.iload 4, 2), none, some (.if_icmp .le 11, 3), none, none, some (.iload 5, 2)],
  [none, some (.iload 4, 2), none, some (.isub, 1), some (.goto 4, 3), none, none, some (.iconst 0, 1)],
  [some (.ireturn, 1), none, none, none, none, none, none, none]]
def zi81 : List (List (Option (Instr × Nat))) := [
  [some (.aload_n 0, 1), some (.getfield 35, 3), none, none, some (.iload_n 1, 1), some (.iaload, 1), some (.aload_n 0, 1), some (.getfield 44, 3)],
  [none, none, some (.iload_n 1, 1), some (.iaload, 1), some (.aload_n 0, 1), some (.getfield 35, 3), none, none],
  [some (.iload_n 2, 1), some (.iaload, 1), some (.aload_n 0, 1), some (.getfield 44, 3), none, none, some (.iload_n 2, 1), some (.iaload, 1)],
  [some (.invokestatic 148, 3), none, none, some (.ifCond .le 59, 3), none, none, some (.aload_n 0, 1), some (.getfield 41, 3)],
  [none, none, some (.iload_n 1, 1), some (.iaload, 1), some (.aload_n 0, 1), some (.getfield 50, 3), none, none],
  [some (.iload_n 1, 1), some (.iaload, 1), some (.aload_n 0, 1), some (.getfield 41, 3), none, none, some (.iload_n 2, 1), some (.iaload, 1)],
  [some (.aload_n 0, 1), some (.getfield 50, 3), none, none, some (.iload_n 2, 1), some (.iaload, 1), some (.invokestatic 148, 3), none],
  [none, some (.ifCond .le 29, 3), none, none, some (.aload_n 0, 1), some (.getfield 38, 3), none, none],
  [some (.iload_n 1, 1), some (.iaload, 1), some (.aload_n 0, 1), some (.getfield 38, 3), none, none, some (.iload_n 2, 1), some (.iaload, 1)],
  [some (.aload_n 0, 1), some (.getfield 47, 3), none, none, some (.iload_n 2, 1), some (.iaload, 1), some (.iadd, 1), some (.if_icmp .lt 7, 3)],
  [none, none, some (.iconst 1, 1), some (.goto 4, 3), none, none, some (.iconst 0, 1), some (.ireturn, 1)]]
def zi82 : List (List (Option (Instr × Nat))) := [
  [some (.aload_n 0, 1), some (.getfield 35, 3), none, none, some (.iload_n 1, 1), some (.iaload, 1), some (.aload_n 0, 1), some (.getfield 44, 3)],
  [none, none, some (.iload_n 1, 1), some (.iaload, 1), some (.aload_n 0, 1), some (.getfield 35, 3), none, none],
  [some (.iload_n 2, 1), some (.iaload, 1), some (.aload_n 0, 1), some (.getfield 44, 3), none, none, some (.iload_n 2, 1), some (.iaload, 1)],
  [some (.invokestatic 148, 3), none, none, some (.ifCond .le 59, 3), none, none, some (.aload_n 0, 1), some (.getfield 38, 3)],
  [none, none, some (.iload_n 1, 1), some (.iaload, 1), some (.aload_n 0, 1), some (.getfield 47, 3), none, none],
  [some (.iload_n 1, 1), some (.iaload, 1), some (.aload_n 0, 1), some (.getfield 38, 3), none, none, some (.iload_n 2, 1), some (.iaload, 1)],
  [some (.aload_n 0, 1), some (.getfield 47, 3), none, none, some (.iload_n 2, 1), some (.iaload, 1), some (.invokestatic 148, 3), none],
  [none, some (.ifCond .le 29, 3), none, none, some (.aload_n 0, 1), some (.getfield 41, 3), none, none],
  [some (.iload_n 1, 1), some (.iaload, 1), some (.aload_n 0, 1), some (.getfield 41, 3), none, none, some (.iload_n 2, 1), some (.iaload, 1)],
  [some (.aload_n 0, 1), some (.getfield 50, 3), none, none, some (.iload_n 2, 1), some (.iaload, 1), some (.iadd, 1), some (.if_icmp .lt 7, 3)],
  [none, none, some (.iconst 1, 1), some (.goto 4, 3), none, none, some (.iconst 0, 1), some (.ireturn, 1)]]
def zi83 : List (List (Option (Instr × Nat))) := [
  [some (.aload_n 0, 1), some (.getfield 35, 3), none, none, some (.iload_n 1, 1), some (.iaload, 1), some (.aload_n 0, 1), some (.getfield 44, 3)],
  [none, none, some (.iload_n 1, 1), some (.iaload, 1), some (.iadd, 1), some (.aload_n 0, 1), some (.getfield 117, 3), none],
  [none, some (.if_icmp .gt 43, 3), none, none, some (.aload_n 0, 1), some (.getfield 38, 3), none, none],
  [some (.iload_n 1, 1), some (.iaload, 1), some (.aload_n 0, 1), some (.getfield 47, 3), none, none, some (.iload_n 1, 1), some (.iaload, 1)],
  [some (.iadd, 1), some (.aload_n 0, 1), some (.getfield 121, 3), none, none, some (.if_icmp .gt 23, 3), none, none],
  [some (.aload_n 0, 1), some (.getfield 41, 3), none, none, some (.iload_n 1, 1), some (.iaload, 1), some (.aload_n 0, 1), some (.getfield 50, 3)],
  [none, none, some (.iload_n 1, 1), some (.iaload, 1), some (.iadd, 1), some (.aload_n 0, 1), some (.getfield 124, 3), none],
  [none, some (.if_icmp .le 5, 3), none, none, some (.iconst 0, 1), some (.ireturn, 1), some (.iconst 0, 1), some (.istore_n 2, 1)],
  [some (.iconst 0, 1), some (.istore_n 3, 1), some (.iload_n 3, 1), some (.iload_n 1, 1), some (.if_icmp .ge 197, 3), none, none, some (.aload_n 0, 1)],
  [some (.getfield 31, 3), none, none, some (.iload_n 3, 1), some (.baload, 1), some (.ifCond .eq 182, 3), none, none],
  [some (.aload_n 0, 1), some (.getfield 35, 3), none, none, some (.iload_n 1, 1), some (.iaload, 1), some (.aload_n 0, 1), some (.getfield 44, 3)],
  [none, none, some (.iload_n 1, 1), some (.iaload, 1), some (.aload_n 0, 1), some (.getfield 35, 3), none, none],
  [some (.iload_n 3, 1), some (.iaload, 1), some (.aload_n 0, 1), some (.getfield 44, 3), none, none, some (.iload_n 3, 1), some (.iaload, 1)],
  [some (.invokestatic 148, 3), none, none, some (.istore 4, 2), none, some (.aload_n 0, 1), some (.getfield 41, 3), none],
  [none, some (.iload_n 1, 1), some (.iaload, 1), some (.aload_n 0, 1), some (.getfield 50, 3), none, none, some (.iload_n 1, 1)],
  [some (.iaload, 1), some (.aload_n 0, 1), some (.getfield 41, 3), none, none, some (.iload_n 3, 1), some (.iaload, 1), some (.aload_n 0, 1)],
  [some (.getfield 50, 3), none, none, some (.iload_n 3, 1), some (.iaload, 1), some (.invokestatic 148, 3), none, none],
  [some (.istore 5, 2), none, some (.iload 4, 2), none, some (.ifCond .le 40, 3), none, none, some (.iload 5, 2)],
  [none, some (.ifCond .le 35, 3), none, none, some (.aload_n 0, 1), some (.getfield 38, 3), none, none],
  [some (.iload_n 1, 1), some (.iaload, 1), some (.aload_n 0, 1), some (.getfield 47, 3), none, none, some (.iload_n 1, 1), some (.iaload, 1)],
  [some (.aload_n 0, 1), some (.getfield 38, 3), none, none, some (.iload_n 3, 1), some (.iaload, 1), some (.aload_n 0, 1), some (.getfield 47, 3)],
  [none, none, some (.iload_n 3, 1), some (.iaload, 1), some (.invokestatic 148, 3), none, none, some (.ifCond .le 5, 3)],
  [none, none, some (.iconst 0, 1), some (.ireturn, 1), some (.iload_n 2, 1), some (.aload_n 0, 1), some (.getfield 38, 3), none],
  [none, some (.iload_n 3, 1), some (.iaload, 1), some (.aload_n 0, 1), some (.getfield 47, 3), none, none, some (.iload_n 3, 1)],
  [some (.iaload, 1), some (.iadd, 1), some (.aload_n 0, 1), some (.getfield 38, 3), none, none, some (.iload_n 1, 1), some (.iaload, 1)],
  [some (.if_icmp .ne 11, 3), none, none, some (.iload 4, 2), none, some (.iload 5, 2), none, some (.imul, 1)],
  [some (.goto 4, 3), none, none, some (.iconst 0, 1), some (.iadd, 1), some (.istore_n 2, 1), some (.aload_n 0, 1), some (.getfield 28, 3)],
  [none, none, some (.iload_n 1, 1), some (.iaload, 1), some (.aload_n 0, 1), some (.getfield 28, 3), none, none],
  [some (.iload_n 3, 1), some (.iaload, 1), some (.isub, 1), some (.istore 6, 2), none, some (.iload 6, 2), none, some (.ifCond .le 12, 3)],
  [none, none, some (.aload_n 0, 1), some (.iload_n 1, 1), some (.iload_n 3, 1), some (.invokevirtual 152, 3), none, none],
  [some (.ifCond .ne 17, 3), none, none, some (.iload 6, 2), none, some (.ifCond .ge 14, 3), none, none],
  [some (.aload_n 0, 1), some (.iload_n 3, 1), some (.iload_n 1, 1), some (.invokevirtual 152, 3), none, none, some (.ifCond .eq 5, 3), none],
  [none, some (.iconst 0, 1), some (.ireturn, 1), some (.iinc 3 1, 3), none, none, some (.goto (-196), 3), none],
  [none, some (.aload_n 0, 1), some (.getfield 38, 3), none, none, some (.iload_n 1, 1), some (.iaload, 1), some (.ifCond .eq 20, 3)],
  [none, none, some (.iload_n 2, 1), some (.aload_n 0, 1), some (.getfield 44, 3), none, none, some (.iload_n 1, 1)],
  [some (.iaload, 1), some (.aload_n 0, 1), some (.getfield 50, 3), none, none, some (.iload_n 1, 1), some (.iaload, 1), some (.imul, 1)],
  [some (.if_icmp .ne 15, 3), none, none, some (.aload_n 0, 1), some (.iload_n 1, 1), some (.invokevirtual 156, 3), none, none],
  [some (.ifCond .eq 7, 3), none, none, some (.iconst 1, 1), some (.goto 4, 3), none, none, some (.iconst 0, 1)],
  [some (.ireturn, 1), none, none, none, none, none, none, none]]
def zi84 : List (List (Option (Instr × Nat))) := [
  [some (.iconst 1, 1), some (.istore_n 2, 1), some (.iconst 0, 1), some (.istore_n 3, 1), some (.iload_n 3, 1), some (.iload_n 1, 1), some (.if_icmp .gt 132, 3), none],
  [none, some (.iconst 0, 1), some (.istore 4, 2), none, some (.iconst 0, 1), some (.istore 5, 2), none, some (.iload 5, 2)],
  [none, some (.iload_n 1, 1), some (.if_icmp .gt 83, 3), none, none, some (.iload_n 3, 1), some (.iload 5, 2), none],
  [some (.if_icmp .eq 47, 3), none, none, some (.iload_n 3, 1), some (.iload_n 1, 1), some (.if_icmp .eq 12, 3), none, none],
  [some (.aload_n 0, 1), some (.getfield 31, 3), none, none, some (.iload_n 3, 1), some (.baload, 1), some (.ifCond .eq 33, 3), none],
  [none, some (.iload 5, 2), none, some (.iload_n 1, 1), some (.if_icmp .eq 13, 3), none, none, some (.aload_n 0, 1)],
  [some (.getfield 31, 3), none, none, some (.iload 5, 2), none, some (.baload, 1), some (.ifCond .eq 17, 3), none],
  [none, some (.aload_n 0, 1), some (.iload 5, 2), none, some (.iload_n 3, 1), some (.invokevirtual 159, 3), none, none],
  [some (.ifCond .eq 7, 3), none, none, some (.iconst 1, 1), some (.goto 4, 3), none, none, some (.iconst 0, 1)],
  [some (.istore 6, 2), none, some (.iload 4, 2), none, some (.iload 6, 2), none, some (.ifCond .eq 13, 3), none],
  [none, some (.aload_n 0, 1), some (.getfield 19, 3), none, none, some (.iload 5, 2), none, some (.iaload, 1)],
  [some (.goto 4, 3), none, none, some (.iconst 0, 1), some (.iadd, 1), some (.istore 4, 2), none, some (.iinc 5 1, 3)],
  [none, none, some (.goto (-83), 3), none, none, some (.iload_n 2, 1), some (.ifCond .eq 28, 3), none],
  [none, some (.aload_n 0, 1), some (.getfield 25, 3), none, none, some (.iload_n 3, 1), some (.iaload, 1), some (.iconst (-1), 1)],
  [some (.if_icmp .eq 14, 3), none, none, some (.iload 4, 2), none, some (.aload_n 0, 1), some (.getfield 25, 3), none],
  [none, some (.iload_n 3, 1), some (.iaload, 1), some (.if_icmp .gt 7, 3), none, none, some (.iconst 1, 1), some (.goto 4, 3)],
  [none, none, some (.iconst 0, 1), some (.istore_n 2, 1), some (.iinc 3 1, 3), none, none, some (.goto (-131), 3)],
  [none, none, some (.iload_n 2, 1), some (.ireturn, 1), none, none, none, none]]
def zi85 : List (List (Option (Instr × Nat))) := [
  [some (.iconst 0, 1), some (.istore 4, 2), none, some (.iload 4, 2), none, some (.iload_n 2, 1), some (.if_icmp .ge 19, 3), none],
  [none, some (.aload_n 0, 1), some (.iload_n 1, 1), some (.iload 4, 2), none, some (.iadd, 1), some (.iaload, 1), some (.iload_n 3, 1)],
  [some (.if_icmp .ge 9, 3), none, none, some (.iinc 4 1, 3), none, none, some (.goto (-19), 3), none],
  [none, some (.iload 4, 2), none, some (.iload_n 2, 1), some (.if_icmp .ge 15, 3), none, none, some (.aload_n 0, 1)],
  [some (.iload_n 1, 1), some (.iload 4, 2), none, some (.iadd, 1), some (.iaload, 1), some (.iload_n 3, 1), some (.if_icmp .ne 5, 3), none],
  [none, some (.iload_n 2, 1), some (.ireturn, 1), some (.iload_n 2, 1), some (.istore 5, 2), none, some (.iload 5, 2), none],
  [some (.iload 4, 2), none, some (.if_icmp .le 23, 3), none, none, some (.aload_n 0, 1), some (.iload_n 1, 1), some (.iload 5, 2)],
  [none, some (.iadd, 1), some (.aload_n 0, 1), some (.iload_n 1, 1), some (.iload 5, 2), none, some (.iadd, 1), some (.iconst 1, 1)],
  [some (.isub, 1), some (.iaload, 1), some (.iastore, 1), some (.iinc 5 (-1), 3), none, none, some (.goto (-24), 3), none],
  [none, some (.aload_n 0, 1), some (.iload_n 1, 1), some (.iload 4, 2), none, some (.iadd, 1), some (.iload_n 3, 1), some (.iastore, 1)],
  [some (.iload_n 2, 1), some (.iconst 1, 1), some (.iadd, 1), some (.ireturn, 1), none, none, none, none]]
def zi86 : List (List (Option (Instr × Nat))) := [
  [some (.aload_n 0, 1), some (.getfield 86, 3), none, none, some (.iload_n 1, 1), some (.iconst 0, 1), some (.iastore, 1), some (.aload_n 0, 1)],
  [some (.getfield 89, 3), none, none, some (.iload_n 1, 1), some (.iconst 0, 1), some (.iastore, 1), some (.iconst 0, 1), some (.istore_n 2, 1)],
  [some (.iload_n 2, 1), some (.aload_n 0, 1), some (.getfield 22, 3), none, none, some (.iload_n 1, 1), some (.iaload, 1), some (.invokestatic 138, 3)],
  [none, none, some (.if_icmp .ge 140, 3), none, none, some (.iconst 0, 1), some (.istore_n 3, 1), some (.iconst 0, 1)],
  [some (.istore 4, 2), none, some (.iload 4, 2), none, some (.aload_n 0, 1), some (.getfield 89, 3), none, none],
  [some (.iload_n 1, 1), some (.iaload, 1), some (.if_icmp .ge 87, 3), none, none, some (.aload_n 0, 1), some (.getfield 92, 3), none],
  [none, some (.bipush 6, 2), none, some (.iload_n 1, 1), some (.imul, 1), some (.iload 4, 2), none, some (.iadd, 1)],
  [some (.iaload, 1), some (.istore 5, 2), none, some (.iload_n 3, 1), some (.ifCond .ne 57, 3), none, none, some (.aload_n 0, 1)],
  [some (.iload_n 1, 1), some (.iload 5, 2), none, some (.iconst 0, 1), some (.invokevirtual 141, 3), none, none, some (.aload_n 0, 1)],
  [some (.iload_n 1, 1), some (.iload_n 2, 1), some (.iconst 0, 1), some (.invokevirtual 141, 3), none, none, some (.if_icmp .ne 43, 3), none],
  [none, some (.aload_n 0, 1), some (.iload_n 1, 1), some (.iload 5, 2), none, some (.iconst 1, 1), some (.invokevirtual 141, 3), none],
  [none, some (.aload_n 0, 1), some (.iload_n 1, 1), some (.iload_n 2, 1), some (.iconst 1, 1), some (.invokevirtual 141, 3), none, none],
  [some (.if_icmp .ne 25, 3), none, none, some (.aload_n 0, 1), some (.iload_n 1, 1), some (.iload 5, 2), none, some (.iconst 2, 1)],
  [some (.invokevirtual 141, 3), none, none, some (.aload_n 0, 1), some (.iload_n 1, 1), some (.iload_n 2, 1), some (.iconst 2, 1), some (.invokevirtual 141, 3)],
  [none, none, some (.if_icmp .ne 7, 3), none, none, some (.iconst 1, 1), some (.goto 4, 3), none],
  [none, some (.iconst 0, 1), some (.istore_n 3, 1), some (.iinc 4 1, 3), none, none, some (.goto (-92), 3), none],
  [none, some (.iload_n 3, 1), some (.ifCond .ne 30, 3), none, none, some (.aload_n 0, 1), some (.getfield 92, 3), none],
  [none, some (.bipush 6, 2), none, some (.iload_n 1, 1), some (.imul, 1), some (.aload_n 0, 1), some (.getfield 89, 3), none],
  [none, some (.iload_n 1, 1), some (.iaload, 1), some (.iadd, 1), some (.iload_n 2, 1), some (.iastore, 1), some (.aload_n 0, 1), some (.getfield 89, 3)],
  [none, none, some (.iload_n 1, 1), some (.dup2, 1), some (.iaload, 1), some (.iconst 1, 1), some (.iadd, 1), some (.iastore, 1)],
  [some (.iinc 2 1, 3), none, none, some (.goto (-147), 3), none, none, some (.aload_n 0, 1), some (.getfield 95, 3)],
  [none, none, some (.iload_n 1, 1), some (.aload_n 0, 1), some (.getfield 104, 3), none, none, some (.bipush 7, 2)],
  [none, some (.iload_n 1, 1), some (.imul, 1), some (.iconst 0, 1), some (.iconst 0, 1), some (.invokestatic 162, 3), none, none],
  [some (.iastore, 1), some (.aload_n 0, 1), some (.getfield 98, 3), none, none, some (.iload_n 1, 1), some (.aload_n 0, 1), some (.getfield 107, 3)],
  [none, none, some (.bipush 7, 2), none, some (.iload_n 1, 1), some (.imul, 1), some (.iconst 0, 1), some (.iconst 0, 1)],
  [some (.invokestatic 162, 3), none, none, some (.iastore, 1), some (.aload_n 0, 1), some (.getfield 101, 3), none, none],
  [some (.iload_n 1, 1), some (.aload_n 0, 1), some (.getfield 110, 3), none, none, some (.bipush 7, 2), none, some (.iload_n 1, 1)],
  [some (.imul, 1), some (.iconst 0, 1), some (.iconst 0, 1), some (.invokestatic 162, 3), none, none, some (.iastore, 1), some (.iconst 0, 1)],
  [some (.istore_n 2, 1), some (.iload_n 2, 1), some (.iload_n 1, 1), some (.if_icmp .ge 126, 3), none, none, some (.aload_n 0, 1), some (.getfield 31, 3)],
  [none, none, some (.iload_n 2, 1), some (.baload, 1), some (.ifCond .eq 111, 3), none, none, some (.aload_n 0, 1)],
  [some (.getfield 95, 3), none, none, some (.iload_n 1, 1), some (.aload_n 0, 1), some (.getfield 104, 3), none, none],
  [some (.bipush 7, 2), none, some (.iload_n 1, 1), some (.imul, 1), some (.aload_n 0, 1), some (.getfield 95, 3), none, none],
  [some (.iload_n 1, 1), some (.iaload, 1), some (.aload_n 0, 1), some (.getfield 35, 3), none, none, some (.iload_n 2, 1), some (.iaload, 1)],
  [some (.aload_n 0, 1), some (.getfield 44, 3), none, none, some (.iload_n 2, 1), some (.iaload, 1), some (.iadd, 1), some (.invokestatic 162, 3)],
  [none, none, some (.iastore, 1), some (.aload_n 0, 1), some (.getfield 98, 3), none, none, some (.iload_n 1, 1)],
  [some (.aload_n 0, 1), some (.getfield 107, 3), none, none, some (.bipush 7, 2), none, some (.iload_n 1, 1), some (.imul, 1)],
  [some (.aload_n 0, 1), some (.getfield 98, 3), none, none, some (.iload_n 1, 1), some (.iaload, 1), some (.aload_n 0, 1), some (.getfield 38, 3)],
  [none, none, some (.iload_n 2, 1), some (.iaload, 1), some (.aload_n 0, 1), some (.getfield 47, 3), none, none],
  [some (.iload_n 2, 1), some (.iaload, 1), some (.iadd, 1), some (.invokestatic 162, 3), none, none, some (.iastore, 1), some (.aload_n 0, 1)],
  [some (.getfield 101, 3), none, none, some (.iload_n 1, 1), some (.aload_n 0, 1), some (.getfield 110, 3), none, none],
  [some (.bipush 7, 2), none, some (.iload_n 1, 1), some (.imul, 1), some (.aload_n 0, 1), some (.getfield 101, 3), none, none],
  [some (.iload_n 1, 1), some (.iaload, 1), some (.aload_n 0, 1), some (.getfield 41, 3), none, none, some (.iload_n 2, 1), some (.iaload, 1)],
  [some (.aload_n 0, 1), some (.getfield 50, 3), none, none, some (.iload_n 2, 1), some (.iaload, 1), some (.iadd, 1), some (.invokestatic 162, 3)],
  [none, none, some (.iastore, 1), some (.iinc 2 1, 3), none, none, some (.goto (-125), 3), none],
  [none, some (.return_, 1), none, none, none, none, none, none]]
def zi87 : List (List (Option (Instr × Nat))) := [
  [some (.iload_n 2, 1), some (.istore_n 3, 1), some (.aload_n 0, 1), some (.getfield 35, 3), none, none, some (.iload_n 1, 1), some (.aload_n 0, 1)],
  [some (.getfield 104, 3), none, none, some (.bipush 7, 2), none, some (.iload_n 1, 1), some (.imul, 1), some (.iload_n 3, 1)],
  [some (.aload_n 0, 1), some (.getfield 95, 3), none, none, some (.iload_n 1, 1), some (.iaload, 1), some (.irem, 1), some (.iadd, 1)],
  [some (.iaload, 1), some (.iastore, 1), some (.iload_n 3, 1), some (.aload_n 0, 1), some (.getfield 95, 3), none, none, some (.iload_n 1, 1)],
  [some (.iaload, 1), some (.idiv, 1), some (.istore_n 3, 1), some (.aload_n 0, 1), some (.getfield 41, 3), none, none, some (.iload_n 1, 1)],
  [some (.aload_n 0, 1), some (.getfield 110, 3), none, none, some (.bipush 7, 2), none, some (.iload_n 1, 1), some (.imul, 1)],
  [some (.iload_n 3, 1), some (.aload_n 0, 1), some (.getfield 101, 3), none, none, some (.iload_n 1, 1), some (.iaload, 1), some (.irem, 1)],
  [some (.iadd, 1), some (.iaload, 1), some (.iastore, 1), some (.iload_n 3, 1), some (.aload_n 0, 1), some (.getfield 101, 3), none, none],
  [some (.iload_n 1, 1), some (.iaload, 1), some (.idiv, 1), some (.istore_n 3, 1), some (.aload_n 0, 1), some (.getfield 38, 3), none, none],
  [some (.iload_n 1, 1), some (.aload_n 0, 1), some (.getfield 107, 3), none, none, some (.bipush 7, 2), none, some (.iload_n 1, 1)],
  [some (.imul, 1), some (.iload_n 3, 1), some (.aload_n 0, 1), some (.getfield 98, 3), none, none, some (.iload_n 1, 1), some (.iaload, 1)],
  [some (.irem, 1), some (.iadd, 1), some (.iaload, 1), some (.iastore, 1), some (.aload_n 0, 1), some (.getfield 53, 3), none, none],
  [some (.iload_n 1, 1), some (.aload_n 0, 1), some (.getfield 92, 3), none, none, some (.bipush 6, 2), none, some (.iload_n 1, 1)],
  [some (.imul, 1), some (.iload_n 3, 1), some (.aload_n 0, 1), some (.getfield 98, 3), none, none, some (.iload_n 1, 1), some (.iaload, 1)],
  [some (.idiv, 1), some (.iadd, 1), some (.iaload, 1), some (.iastore, 1), some (.aload_n 0, 1), some (.getfield 44, 3), none, none],
  [some (.iload_n 1, 1), some (.aload_n 0, 1), some (.iload_n 1, 1), some (.aload_n 0, 1), some (.getfield 53, 3), none, none, some (.iload_n 1, 1)],
  [some (.iaload, 1), some (.iconst 0, 1), some (.invokevirtual 141, 3), none, none, some (.iastore, 1), some (.aload_n 0, 1), some (.getfield 47, 3)],
  [none, none, some (.iload_n 1, 1), some (.aload_n 0, 1), some (.iload_n 1, 1), some (.aload_n 0, 1), some (.getfield 53, 3), none],
  [none, some (.iload_n 1, 1), some (.iaload, 1), some (.iconst 1, 1), some (.invokevirtual 141, 3), none, none, some (.iastore, 1)],
  [some (.aload_n 0, 1), some (.getfield 50, 3), none, none, some (.iload_n 1, 1), some (.aload_n 0, 1), some (.iload_n 1, 1), some (.aload_n 0, 1)],
  [some (.getfield 53, 3), none, none, some (.iload_n 1, 1), some (.iaload, 1), some (.iconst 2, 1), some (.invokevirtual 141, 3), none],
  [none, some (.iastore, 1), some (.return_, 1), none, none, none, none, none]]
def zi88 : List (List (Option (Instr × Nat))) := [
  [some (.iconst 0, 1), some (.istore_n 1, 1), some (.lconst 0, 1), some (.lstore_n 2, 1), some (.iconst 0, 1), some (.istore 4, 2), none, some (.iload 4, 2)],
  [none, some (.aload_n 0, 1), some (.getfield 127, 3), none, none, some (.if_icmp .ge 83, 3), none, none],
  [some (.iload_n 1, 1), some (.aload_n 0, 1), some (.getfield 31, 3), none, none, some (.iload 4, 2), none, some (.baload, 1)],
  [some (.ifCond .eq 29, 3), none, none, some (.aload_n 0, 1), some (.getfield 44, 3), none, none, some (.iload 4, 2)],
  [none, some (.iaload, 1), some (.aload_n 0, 1), some (.getfield 47, 3), none, none, some (.iload 4, 2), none],
  [some (.iaload, 1), some (.imul, 1), some (.aload_n 0, 1), some (.getfield 50, 3), none, none, some (.iload 4, 2), none],
  [some (.iaload, 1), some (.imul, 1), some (.goto 4, 3), none, none, some (.iconst 0, 1), some (.iadd, 1), some (.istore_n 1, 1)],
  [some (.lload_n 2, 1), some (.aload_n 0, 1), some (.getfield 31, 3), none, none, some (.iload 4, 2), none, some (.baload, 1)],
  [some (.ifCond .eq 23, 3), none, none, some (.aload_n 0, 1), some (.getfield 19, 3), none, none, some (.iload 4, 2)],
  [none, some (.iaload, 1), some (.i2l, 1), some (.aload_n 0, 1), some (.getfield 38, 3), none, none, some (.iload 4, 2)],
  [none, some (.iaload, 1), some (.i2l, 1), some (.lmul, 1), some (.goto 4, 3), none, none, some (.lconst 0, 1)],
  [some (.ladd, 1), some (.lstore_n 2, 1), some (.iinc 4 1, 3), none, none, some (.goto (-86), 3), none, none],
  [some (.aload_n 0, 1), some (.getfield 166, 3), none, none, some (.ifCond .eq 29, 3), none, none, some (.iload_n 1, 1)],
  [some (.aload_n 0, 1), some (.getfield 170, 3), none, none, some (.if_icmp .lt 20, 3), none, none, some (.iload_n 1, 1)],
  [some (.aload_n 0, 1), some (.getfield 170, 3), none, none, some (.if_icmp .ne 13, 3), none, none, some (.lload_n 2, 1)],
  [some (.aload_n 0, 1), some (.getfield 173, 3), none, none, some (.lcmp, 1), some (.ifCond .lt 4, 3), none, none],
  [some (.return_, 1), some (.aload_n 0, 1), some (.iconst 1, 1), some (.putfield 166, 3), none, none, some (.aload_n 0, 1), some (.iload_n 1, 1)],
  [some (.putfield 170, 3), none, none, some (.aload_n 0, 1), some (.lload_n 2, 1), some (.putfield 173, 3), none, none],
  [some (.iconst 0, 1), some (.istore 4, 2), none, some (.iload 4, 2), none, some (.bipush 6, 2), none, some (.if_icmp .ge 166, 3)],
  [none, none, some (.aload_n 0, 1), some (.getfield 56, 3), none, none, some (.iload 4, 2), none],
  [some (.iload 4, 2), none, some (.aload_n 0, 1), some (.getfield 127, 3), none, none, some (.if_icmp .ge 17, 3), none],
  [none, some (.aload_n 0, 1), some (.getfield 31, 3), none, none, some (.iload 4, 2), none, some (.baload, 1)],
  [some (.ifCond .eq 7, 3), none, none, some (.iconst 1, 1), some (.goto 4, 3), none, none, some (.iconst 0, 1)],
  [some (.bastore, 1), some (.aload_n 0, 1), some (.getfield 59, 3), none, none, some (.iload 4, 2), none, some (.aload_n 0, 1)],
  [some (.getfield 35, 3), none, none, some (.iload 4, 2), none, some (.iaload, 1), some (.iastore, 1), some (.aload_n 0, 1)],
  [some (.getfield 62, 3), none, none, some (.iload 4, 2), none, some (.aload_n 0, 1), some (.getfield 38, 3), none],
  [none, some (.iload 4, 2), none, some (.iaload, 1), some (.iastore, 1), some (.aload_n 0, 1), some (.getfield 65, 3), none],
  [none, some (.iload 4, 2), none, some (.aload_n 0, 1), some (.getfield 41, 3), none, none, some (.iload 4, 2)],
  [none, some (.iaload, 1), some (.iastore, 1), some (.aload_n 0, 1), some (.getfield 68, 3), none, none, some (.iload 4, 2)],
  [none, some (.aload_n 0, 1), some (.getfield 44, 3), none, none, some (.iload 4, 2), none, some (.iaload, 1)],
  [some (.iastore, 1), some (.aload_n 0, 1), some (.getfield 71, 3), none, none, some (.iload 4, 2), none, some (.aload_n 0, 1)],
  [some (.getfield 47, 3), none, none, some (.iload 4, 2), none, some (.iaload, 1), some (.iastore, 1), some (.aload_n 0, 1)],
  [some (.getfield 74, 3), none, none, some (.iload 4, 2), none, some (.aload_n 0, 1), some (.getfield 50, 3), none],
  [none, some (.iload 4, 2), none, some (.iaload, 1), some (.iastore, 1), some (.aload_n 0, 1), some (.getfield 77, 3), none],
  [none, some (.iload 4, 2), none, some (.aload_n 0, 1), some (.getfield 53, 3), none, none, some (.iload 4, 2)],
  [none, some (.iaload, 1), some (.iastore, 1), some (.aload_n 0, 1), some (.getfield 80, 3), none, none, some (.iload 4, 2)],
  [none, some (.aload_n 0, 1), some (.getfield 19, 3), none, none, some (.iload 4, 2), none, some (.iaload, 1)],
  [some (.iastore, 1), some (.aload_n 0, 1), some (.getfield 83, 3), none, none, some (.iload 4, 2), none, some (.aload_n 0, 1)],
  [some (.getfield 28, 3), none, none, some (.iload 4, 2), none, some (.iaload, 1), some (.iastore, 1), some (.iinc 4 1, 3)],
  [none, none, some (.goto (-167), 3), none, none, some (.return_, 1), none, none]]
def zi89 : List (List (Option (Instr × Nat))) := [
  [some (.iload_n 1, 1), some (.iconst 1, 1), some (.sipush 500, 3), none, none, some (.invokestatic 130, 3), none, none],
  [some (.ifCond .ne 6, 3), none, none, some (.bipush (-102), 2), none, some (.ireturn, 1), some (.aload_n 0, 1), some (.getfield 127, 3)],
  [none, none, some (.ifCond .ne 6, 3), none, none, some (.bipush (-103), 2), none, some (.ireturn, 1)],
  [some (.iload_n 1, 1), some (.sipush 3000, 3), none, none, some (.aload_n 0, 1), some (.getfield 177, 3), none, none],
  [some (.isub, 1), some (.if_icmp .le 6, 3), none, none, some (.bipush (-104), 2), none, some (.ireturn, 1), some (.aload_n 0, 1)],
  [some (.iconst 0, 1), some (.putfield 166, 3), none, none, some (.aload_n 0, 1), some (.iconst 0, 1), some (.putfield 180, 3), none],
  [none, some (.iconst 0, 1), some (.istore_n 2, 1), some (.iload_n 2, 1), some (.bipush 6, 2), none, some (.if_icmp .ge 16, 3), none],
  [none, some (.aload_n 0, 1), some (.getfield 31, 3), none, none, some (.iload_n 2, 1), some (.iconst 0, 1), some (.bastore, 1)],
  [some (.iinc 2 1, 3), none, none, some (.goto (-16), 3), none, none, some (.iconst 0, 1), some (.istore_n 2, 1)],
  [some (.aload_n 0, 1), some (.iconst 0, 1), some (.invokevirtual 183, 3), none, none, some (.iload_n 2, 1), some (.ifCond .lt 202, 3), none],
  [none, some (.aload_n 0, 1), some (.getfield 89, 3), none, none, some (.iload_n 2, 1), some (.iaload, 1), some (.aload_n 0, 1)],
  [some (.getfield 95, 3), none, none, some (.iload_n 2, 1), some (.iaload, 1), some (.imul, 1), some (.aload_n 0, 1), some (.getfield 98, 3)],
  [none, none, some (.iload_n 2, 1), some (.iaload, 1), some (.imul, 1), some (.aload_n 0, 1), some (.getfield 101, 3), none],
  [none, some (.iload_n 2, 1), some (.iaload, 1), some (.imul, 1), some (.istore_n 3, 1), some (.aload_n 0, 1), some (.getfield 31, 3), none],
  [none, some (.iload_n 2, 1), some (.iconst 0, 1), some (.bastore, 1), some (.aload_n 0, 1), some (.getfield 86, 3), none, none],
  [some (.iload_n 2, 1), some (.iaload, 1), some (.istore 4, 2), none, some (.aload_n 0, 1), some (.getfield 86, 3), none, none],
  [some (.iload_n 2, 1), some (.dup2, 1), some (.iaload, 1), some (.iconst 1, 1), some (.iadd, 1), some (.iastore, 1), some (.iload 4, 2), none],
  [some (.iload_n 3, 1), some (.if_icmp .ne 7, 3), none, none, some (.iconst 1, 1), some (.goto 4, 3), none, none],
  [some (.iconst 0, 1), some (.istore 5, 2), none, some (.iload 4, 2), none, some (.iload_n 3, 1), some (.if_icmp .ge 44, 3), none],
  [none, some (.aload_n 0, 1), some (.iload_n 2, 1), some (.iload 4, 2), none, some (.invokevirtual 187, 3), none, none],
  [some (.aload_n 0, 1), some (.iload_n 2, 1), some (.invokevirtual 191, 3), none, none, some (.istore 5, 2), none, some (.aload_n 0, 1)],
  [some (.getfield 31, 3), none, none, some (.iload_n 2, 1), some (.iload 5, 2), none, some (.bastore, 1), some (.aload_n 0, 1)],
  [some (.dup, 1), some (.getfield 180, 3), none, none, some (.iload 5, 2), none, some (.ifCond .eq 7, 3), none],
  [none, some (.iconst 1, 1), some (.goto 4, 3), none, none, some (.iconst 0, 1), some (.iadd, 1), some (.putfield 180, 3)],
  [none, none, some (.aload_n 0, 1), some (.getfield 31, 3), none, none, some (.iload_n 2, 1), some (.baload, 1)],
  [some (.ifCond .eq 15, 3), none, none, some (.aload_n 0, 1), some (.getfield 180, 3), none, none, some (.iload_n 1, 1)],
  [some (.if_icmp .ne 7, 3), none, none, some (.iconst 1, 1), some (.goto 4, 3), none, none, some (.iconst 0, 1)],
  [some (.istore 6, 2), none, some (.iload 5, 2), none, some (.ifCond .eq 25, 3), none, none, some (.iload 6, 2)],
  [none, some (.ifCond .ne 13, 3), none, none, some (.iload_n 2, 1), some (.aload_n 0, 1), some (.getfield 127, 3), none],
  [none, some (.iconst 1, 1), some (.isub, 1), some (.if_icmp .ne 10, 3), none, none, some (.aload_n 0, 1), some (.invokevirtual 194, 3)],
  [none, none, some (.goto 16, 3), none, none, some (.iload 5, 2), none, some (.ifCond .eq 11, 3)],
  [none, none, some (.iinc 2 1, 3), none, none, some (.aload_n 0, 1), some (.iload_n 2, 1), some (.invokevirtual 183, 3)],
  [none, none, some (.iload 6, 2), none, some (.ifCond .eq 8, 3), none, none, some (.iconst (-1), 1)],
  [some (.istore_n 2, 1), some (.goto 12, 3), none, none, some (.iload 4, 2), none, some (.iload_n 3, 1), some (.if_icmp .le 6, 3)],
  [none, none, some (.iinc 2 (-1), 3), none, none, some (.goto (-200), 3), none, none],
  [some (.aload_n 0, 1), some (.dup, 1), some (.getfield 177, 3), none, none, some (.aload_n 0, 1), some (.getfield 180, 3), none],
  [none, some (.iadd, 1), some (.putfield 177, 3), none, none, some (.aload_n 0, 1), some (.aload_n 0, 1), some (.getfield 180, 3)],
  [none, none, some (.iload_n 1, 1), some (.if_icmp .ge 7, 3), none, none, some (.iconst 1, 1), some (.goto 4, 3)],
  [none, none, some (.iconst 0, 1), some (.putfield 197, 3), none, none, some (.aload_n 0, 1), some (.getfield 170, 3)],
  [none, none, some (.ireturn, 1), none, none, none, none, none]]
def zi90 : List (List (Option (Instr × Nat))) := [
  [some (.aload_n 0, 1), some (.getfield 197, 3), none, none, some (.ireturn, 1), none, none, none]]
def zi91 : List (List (Option (Instr × Nat))) := [
  [some (.iload_n 1, 1), some (.ifCond .eq 14, 3), none, none, some (.sipush 3000, 3), none, none, some (.aload_n 0, 1)],
  [some (.getfield 177, 3), none, none, some (.isub, 1), some (.goto 7, 3), none, none, some (.aload_n 0, 1)],
  [some (.getfield 180, 3), none, none, some (.ireturn, 1), none, none, none, none]]
def zi92 : List (List (Option (Instr × Nat))) := [
  [some (.aload_n 0, 1), some (.iload_n 1, 1), some (.invokevirtual 134, 3), none, none, some (.ifCond .ne 6, 3), none, none],
  [some (.bipush (-101), 2), none, some (.ireturn, 1), some (.iload_n 2, 1), some (.iconst 0, 1), some (.iconst 3, 1), some (.invokestatic 130, 3), none],
  [none, some (.ifCond .ne 6, 3), none, none, some (.bipush (-102), 2), none, some (.ireturn, 1), some (.iload_n 1, 1)],
  [some (.iconst 1, 1), some (.isub, 1), some (.istore_n 3, 1), some (.aload_n 0, 1), some (.getfield 56, 3), none, none, some (.iload_n 3, 1)],
  [some (.baload, 1), some (.ifCond .ne 7, 3), none, none, some (.iconst (-1), 1), some (.goto 50, 3), none, none],
  [some (.iload_n 2, 1), some (.ifCond .ne 12, 3), none, none, some (.aload_n 0, 1), some (.getfield 59, 3), none, none],
  [some (.iload_n 3, 1), some (.iaload, 1), some (.goto 37, 3), none, none, some (.iload_n 2, 1), some (.iconst 1, 1), some (.if_icmp .ne 12, 3)],
  [none, none, some (.aload_n 0, 1), some (.getfield 62, 3), none, none, some (.iload_n 3, 1), some (.iaload, 1)],
  [some (.goto 23, 3), none, none, some (.iload_n 2, 1), some (.iconst 2, 1), some (.if_icmp .ne 12, 3), none, none],
  [some (.aload_n 0, 1), some (.getfield 65, 3), none, none, some (.iload_n 3, 1), some (.iaload, 1), some (.goto 9, 3), none],
  [none, some (.aload_n 0, 1), some (.getfield 77, 3), none, none, some (.iload_n 3, 1), some (.iaload, 1), some (.ireturn, 1)]]
def zi93 : List (List (Option (Instr × Nat))) := [
  [some (.aload_n 0, 1), some (.iload_n 1, 1), some (.invokevirtual 134, 3), none, none, some (.ifCond .eq 33, 3), none, none],
  [some (.aload_n 0, 1), some (.iload_n 2, 1), some (.invokevirtual 134, 3), none, none, some (.ifCond .eq 25, 3), none, none],
  [some (.aload_n 0, 1), some (.getfield 56, 3), none, none, some (.iload_n 1, 1), some (.iconst 1, 1), some (.isub, 1), some (.baload, 1)],
  [some (.ifCond .eq 14, 3), none, none, some (.aload_n 0, 1), some (.getfield 56, 3), none, none, some (.iload_n 2, 1)],
  [some (.iconst 1, 1), some (.isub, 1), some (.baload, 1), some (.ifCond .ne 5, 3), none, none, some (.iconst 0, 1), some (.ireturn, 1)],
  [some (.iload_n 1, 1), some (.iconst 1, 1), some (.isub, 1), some (.istore_n 3, 1), some (.iload_n 2, 1), some (.iconst 1, 1), some (.isub, 1), some (.istore 4, 2)],
  [none, some (.aload_n 0, 1), some (.getfield 59, 3), none, none, some (.iload_n 3, 1), some (.iaload, 1), some (.aload_n 0, 1)],
  [some (.getfield 68, 3), none, none, some (.iload_n 3, 1), some (.iaload, 1), some (.aload_n 0, 1), some (.getfield 59, 3), none],
  [none, some (.iload 4, 2), none, some (.iaload, 1), some (.aload_n 0, 1), some (.getfield 68, 3), none, none],
  [some (.iload 4, 2), none, some (.iaload, 1), some (.invokestatic 148, 3), none, none, some (.ifCond .le 71, 3), none],
  [none, some (.aload_n 0, 1), some (.getfield 62, 3), none, none, some (.iload_n 3, 1), some (.iaload, 1), some (.aload_n 0, 1)],
  [some (.getfield 71, 3), none, none, some (.iload_n 3, 1), some (.iaload, 1), some (.aload_n 0, 1), some (.getfield 62, 3), none],
  [none, some (.iload 4, 2), none, some (.iaload, 1), some (.aload_n 0, 1), some (.getfield 71, 3), none, none],
  [some (.iload 4, 2), none, some (.iaload, 1), some (.invokestatic 148, 3), none, none, some (.ifCond .le 39, 3), none],
  [none, some (.aload_n 0, 1), some (.getfield 65, 3), none, none, some (.iload_n 3, 1), some (.iaload, 1), some (.aload_n 0, 1)],
  [some (.getfield 74, 3), none, none, some (.iload_n 3, 1), some (.iaload, 1), some (.aload_n 0, 1), some (.getfield 65, 3), none],
  [none, some (.iload 4, 2), none, some (.iaload, 1), some (.aload_n 0, 1), some (.getfield 74, 3), none, none],
  [some (.iload 4, 2), none, some (.iaload, 1), some (.invokestatic 148, 3), none, none, some (.ifCond .le 7, 3), none],
  [none, some (.iconst 1, 1), some (.goto 4, 3), none, none, some (.iconst 0, 1), some (.ireturn, 1), none]]
def zi94 : List (List (Option (Instr × Nat))) := [
  [some (.iload_n 1, 1), some (.iconst 0, 1), some (.aload_n 0, 1), some (.getfield 117, 3), none, none, some (.iconst 1, 1), some (.isub, 1)],
  [some (.invokestatic 130, 3), none, none, some (.ifCond .eq 17, 3), none, none, some (.iload_n 2, 1), some (.iconst 0, 1)],
  [some (.aload_n 0, 1), some (.getfield 124, 3), none, none, some (.iconst 1, 1), some (.isub, 1), some (.invokestatic 130, 3), none],
  [none, some (.ifCond .ne 6, 3), none, none, some (.bipush (-102), 2), none, some (.ireturn, 1), some (.iconst 0, 1)],
  [some (.istore_n 3, 1), some (.iconst 0, 1), some (.istore 4, 2), none, some (.iconst 0, 1), some (.istore 5, 2), none, some (.iload 5, 2)],
  [none, some (.bipush 6, 2), none, some (.if_icmp .ge 105, 3), none, none, some (.aload_n 0, 1), some (.getfield 56, 3)],
  [none, none, some (.iload 5, 2), none, some (.baload, 1), some (.ifCond .eq 89, 3), none, none],
  [some (.iload_n 1, 1), some (.iconst 1, 1), some (.aload_n 0, 1), some (.getfield 59, 3), none, none, some (.iload 5, 2), none],
  [some (.iaload, 1), some (.aload_n 0, 1), some (.getfield 68, 3), none, none, some (.iload 5, 2), none, some (.iaload, 1)],
  [some (.invokestatic 148, 3), none, none, some (.ifCond .le 67, 3), none, none, some (.iload_n 2, 1), some (.iconst 1, 1)],
  [some (.aload_n 0, 1), some (.getfield 65, 3), none, none, some (.iload 5, 2), none, some (.iaload, 1), some (.aload_n 0, 1)],
  [some (.getfield 74, 3), none, none, some (.iload 5, 2), none, some (.iaload, 1), some (.invokestatic 148, 3), none],
  [none, some (.ifCond .le 45, 3), none, none, some (.aload_n 0, 1), some (.getfield 62, 3), none, none],
  [some (.iload 5, 2), none, some (.iaload, 1), some (.aload_n 0, 1), some (.getfield 71, 3), none, none, some (.iload 5, 2)],
  [none, some (.iaload, 1), some (.iadd, 1), some (.iload 4, 2), none, some (.if_icmp .le 25, 3), none, none],
  [some (.iload 5, 2), none, some (.iconst 1, 1), some (.iadd, 1), some (.istore_n 3, 1), some (.aload_n 0, 1), some (.getfield 62, 3), none],
  [none, some (.iload 5, 2), none, some (.iaload, 1), some (.aload_n 0, 1), some (.getfield 71, 3), none, none],
  [some (.iload 5, 2), none, some (.iaload, 1), some (.iadd, 1), some (.istore 4, 2), none, some (.iinc 5 1, 3), none],
  [none, some (.goto (-106), 3), none, none, some (.iload_n 3, 1), some (.ireturn, 1), none, none]]
def zi95 : List (List (Option (Instr × Nat))) := [
  [some (.aload_n 0, 1), some (.getfield 117, 3), none, none, some (.aload_n 0, 1), some (.getfield 121, 3), none, none],
  [some (.imul, 1), some (.aload_n 0, 1), some (.getfield 124, 3), none, none, some (.imul, 1), some (.istore_n 1, 1), some (.iconst 0, 1)],
  [some (.istore_n 2, 1), some (.iload_n 2, 1), some (.bipush 6, 2), none, some (.if_icmp .ge 45, 3), none, none, some (.iload_n 1, 1)],
  [some (.aload_n 0, 1), some (.getfield 56, 3), none, none, some (.iload_n 2, 1), some (.baload, 1), some (.ifCond .eq 26, 3), none],
  [none, some (.aload_n 0, 1), some (.getfield 68, 3), none, none, some (.iload_n 2, 1), some (.iaload, 1), some (.aload_n 0, 1)],
  [some (.getfield 71, 3), none, none, some (.iload_n 2, 1), some (.iaload, 1), some (.imul, 1), some (.aload_n 0, 1), some (.getfield 74, 3)],
  [none, none, some (.iload_n 2, 1), some (.iaload, 1), some (.imul, 1), some (.goto 4, 3), none, none],
  [some (.iconst 0, 1), some (.isub, 1), some (.istore_n 1, 1), some (.iinc 2 1, 3), none, none, some (.goto (-45), 3), none],
  [none, some (.iload_n 1, 1), some (.ireturn, 1), none, none, none, none, none]]
def zi96 : List (List (Option (Instr × Nat))) := [
  [some (.iconst 0, 1), some (.istore_n 1, 1), some (.iconst 0, 1), some (.istore_n 2, 1), some (.iload_n 2, 1), some (.aload_n 0, 1), some (.getfield 127, 3), none],
  [none, some (.if_icmp .ge 44, 3), none, none, some (.iload_n 1, 1), some (.aload_n 0, 1), some (.iload_n 2, 1), some (.invokevirtual 145, 3)],
  [none, none, some (.ifCond .eq 7, 3), none, none, some (.iconst 0, 1), some (.goto 23, 3), none],
  [none, some (.aload_n 0, 1), some (.getfield 7, 3), none, none, some (.iload_n 2, 1), some (.iaload, 1), some (.aload_n 0, 1)],
  [some (.getfield 13, 3), none, none, some (.iload_n 2, 1), some (.iaload, 1), some (.imul, 1), some (.aload_n 0, 1), some (.getfield 16, 3)],
  [none, none, some (.iload_n 2, 1), some (.iaload, 1), some (.imul, 1), some (.iadd, 1), some (.istore_n 1, 1), some (.iinc 2 1, 3)],
  [none, none, some (.goto (-46), 3), none, none, some (.aload_n 0, 1), some (.getfield 117, 3), none],
  [none, some (.aload_n 0, 1), some (.getfield 121, 3), none, none, some (.imul, 1), some (.aload_n 0, 1), some (.getfield 124, 3)],
  [none, none, some (.imul, 1), some (.istore_n 2, 1), some (.iload_n 1, 1), some (.iload_n 2, 1), some (.if_icmp .ge 7, 3), none],
  [none, some (.iload_n 1, 1), some (.goto 4, 3), none, none, some (.iload_n 2, 1), some (.ireturn, 1), none]]
def zi97 : List (List (Option (Instr × Nat))) := [
  [some (.lload_n 0, 1), some (.lstore 4, 2), none, some (.lload_n 2, 1), some (.lstore 6, 2), none, some (.lload 6, 2), none],
  [some (.lconst 0, 1), some (.lcmp, 1), some (.ifCond .eq 21, 3), none, none, some (.lload 4, 2), none, some (.lload 6, 2)],
  [none, some (.lrem, 1), some (.lstore 8, 2), none, some (.lload 6, 2), none, some (.lstore 4, 2), none],
  [some (.lload 8, 2), none, some (.lstore 6, 2), none, some (.goto (-22), 3), none, none, some (.lload 4, 2)],
  [none, some (.lreturn, 1), none, none, none, none, none, none]]
def zi98 : List (List (Option (Instr × Nat))) := [
  [some (.aload_n 0, 1), some (.getfield 200, 3), none, none, some (.ireturn, 1), none, none, none]]
def zi99 : List (List (Option (Instr × Nat))) := [
  [some (.aload_n 0, 1), some (.iconst 0, 1), some (.putfield 200, 3), none, none, some (.iload_n 1, 1), some (.iconst 0, 1), some (.iconst 1, 1)],
  [some (.invokestatic 130, 3), none, none, some (.ifCond .eq 12, 3), none, none, some (.iload_n 2, 1), some (.iconst 0, 1)],
  [some (.iconst 1, 1), some (.invokestatic 130, 3), none, none, some (.ifCond .ne 7, 3), none, none, some (.ldc2_w 203, 3)],
  [none, none, some (.lreturn, 1), some (.lconst 0, 1), some (.lstore_n 3, 1), some (.lconst 0, 1), some (.lstore 5, 2), none],
  [some (.iconst 0, 1), some (.istore 7, 2), none, some (.iload 7, 2), none, some (.bipush 6, 2), none, some (.if_icmp .ge 83, 3)],
  [none, none, some (.aload_n 0, 1), some (.getfield 56, 3), none, none, some (.iload 7, 2), none],
  [some (.baload, 1), some (.ifCond .eq 67, 3), none, none, some (.iconst 2, 1), some (.aload_n 0, 1), some (.getfield 65, 3), none],
  [none, some (.iload 7, 2), none, some (.iaload, 1), some (.imul, 1), some (.aload_n 0, 1), some (.getfield 74, 3), none],
  [none, some (.iload 7, 2), none, some (.iaload, 1), some (.iadd, 1), some (.istore 8, 2), none, some (.lload_n 3, 1)],
  [some (.aload_n 0, 1), some (.getfield 80, 3), none, none, some (.iload 7, 2), none, some (.iaload, 1), some (.i2l, 1)],
  [some (.iload_n 1, 1), some (.iconst 1, 1), some (.if_icmp .ne 8, 3), none, none, some (.iload 8, 2), none, some (.goto 12, 3)],
  [none, none, some (.iconst 2, 1), some (.aload_n 0, 1), some (.getfield 124, 3), none, none, some (.imul, 1)],
  [some (.iload 8, 2), none, some (.isub, 1), some (.i2l, 1), some (.lmul, 1), some (.ladd, 1), some (.lstore_n 3, 1), some (.lload 5, 2)],
  [none, some (.aload_n 0, 1), some (.getfield 80, 3), none, none, some (.iload 7, 2), none, some (.iaload, 1)],
  [some (.i2l, 1), some (.ladd, 1), some (.lstore 5, 2), none, some (.iinc 7 1, 3), none, none, some (.goto (-84), 3)],
  [none, none, some (.lload 5, 2), none, some (.lconst 0, 1), some (.lcmp, 1), some (.ifCond .ne 10, 3), none],
  [none, some (.aload_n 0, 1), some (.iconst 1, 1), some (.putfield 200, 3), none, none, some (.lconst 0, 1), some (.lreturn, 1)],
  [some (.lload 5, 2), none, some (.ldc2_w 205, 3), none, none, some (.lmul, 1), some (.aload_n 0, 1), some (.getfield 124, 3)],
  [none, none, some (.i2l, 1), some (.lmul, 1), some (.lstore 7, 2), none, some (.lload_n 3, 1), some (.lload 7, 2)],
  [none, some (.invokestatic 207, 3), none, none, some (.lstore 9, 2), none, some (.iload_n 2, 1), some (.ifCond .ne 10, 3)],
  [none, none, some (.lload_n 3, 1), some (.lload 9, 2), none, some (.ldiv, 1), some (.goto 8, 3), none],
  [none, some (.lload 7, 2), none, some (.lload 9, 2), none, some (.ldiv, 1), some (.lreturn, 1), none]]
def zi100 : List (List (Option (Instr × Nat))) := [
  [some (.iconst 1, 1), some (.istore_n 2, 1), some (.iconst 0, 1), some (.istore_n 3, 1), some (.iload_n 3, 1), some (.bipush 6, 2), none, some (.if_icmp .ge 208, 3)],
  [none, none, some (.iload_n 3, 1), some (.iload_n 1, 1), some (.if_icmp .eq 197, 3), none, none, some (.aload_n 0, 1)],
  [some (.getfield 56, 3), none, none, some (.iload_n 3, 1), some (.baload, 1), some (.ifCond .eq 188, 3), none, none],
  [some (.aload_n 0, 1), some (.getfield 59, 3), none, none, some (.iload_n 1, 1), some (.iaload, 1), some (.aload_n 0, 1), some (.getfield 68, 3)],
  [none, none, some (.iload_n 1, 1), some (.iaload, 1), some (.aload_n 0, 1), some (.getfield 59, 3), none, none],
  [some (.iload_n 3, 1), some (.iaload, 1), some (.aload_n 0, 1), some (.getfield 68, 3), none, none, some (.iload_n 3, 1), some (.iaload, 1)],
  [some (.invokestatic 148, 3), none, none, some (.ifCond .le 7, 3), none, none, some (.iconst 1, 1), some (.goto 4, 3)],
  [none, none, some (.iconst 0, 1), some (.istore 4, 2), none, some (.aload_n 0, 1), some (.getfield 62, 3), none],
  [none, some (.iload_n 1, 1), some (.iaload, 1), some (.aload_n 0, 1), some (.getfield 71, 3), none, none, some (.iload_n 1, 1)],
  [some (.iaload, 1), some (.aload_n 0, 1), some (.getfield 62, 3), none, none, some (.iload_n 3, 1), some (.iaload, 1), some (.aload_n 0, 1)],
  [some (.getfield 71, 3), none, none, some (.iload_n 3, 1), some (.iaload, 1), some (.invokestatic 148, 3), none, none],
  [some (.ifCond .le 7, 3), none, none, some (.iconst 1, 1), some (.goto 4, 3), none, none, some (.iconst 0, 1)],
  [some (.istore 5, 2), none, some (.aload_n 0, 1), some (.getfield 65, 3), none, none, some (.iload_n 1, 1), some (.iaload, 1)],
  [some (.aload_n 0, 1), some (.getfield 74, 3), none, none, some (.iload_n 1, 1), some (.iaload, 1), some (.aload_n 0, 1), some (.getfield 65, 3)],
  [none, none, some (.iload_n 3, 1), some (.iaload, 1), some (.aload_n 0, 1), some (.getfield 74, 3), none, none],
  [some (.iload_n 3, 1), some (.iaload, 1), some (.invokestatic 148, 3), none, none, some (.ifCond .le 7, 3), none, none],
  [some (.iconst 1, 1), some (.goto 4, 3), none, none, some (.iconst 0, 1), some (.istore 6, 2), none, some (.iload_n 2, 1)],
  [some (.ifCond .eq 71, 3), none, none, some (.iload 4, 2), none, some (.ifCond .eq 30, 3), none, none],
  [some (.iload 6, 2), none, some (.ifCond .eq 25, 3), none, none, some (.aload_n 0, 1), some (.getfield 62, 3), none],
  [none, some (.iload_n 3, 1), some (.iaload, 1), some (.aload_n 0, 1), some (.getfield 62, 3), none, none, some (.iload_n 1, 1)],
  [some (.iaload, 1), some (.aload_n 0, 1), some (.getfield 71, 3), none, none, some (.iload_n 1, 1), some (.iaload, 1), some (.iadd, 1)],
  [some (.if_icmp .ge 39, 3), none, none, some (.iload 4, 2), none, some (.ifCond .eq 30, 3), none, none],
  [some (.iload 5, 2), none, some (.ifCond .eq 25, 3), none, none, some (.aload_n 0, 1), some (.getfield 65, 3), none],
  [none, some (.iload_n 3, 1), some (.iaload, 1), some (.aload_n 0, 1), some (.getfield 65, 3), none, none, some (.iload_n 1, 1)],
  [some (.iaload, 1), some (.aload_n 0, 1), some (.getfield 74, 3), none, none, some (.iload_n 1, 1), some (.iaload, 1), some (.iadd, 1)],
  [some (.if_icmp .ge 7, 3), none, none, some (.iconst 1, 1), some (.goto 4, 3), none, none, some (.iconst 0, 1)],
  [some (.istore_n 2, 1), some (.iinc 3 1, 3), none, none, some (.goto (-208), 3), none, none, some (.iload_n 2, 1)],
  [some (.ireturn, 1), none, none, none, none, none, none, none]]
def zi101 : List (List (Option (Instr × Nat))) := [
  [some (.iload_n 1, 1), some (.iconst 0, 1), some (.bipush 9, 2), none, some (.invokestatic 130, 3), none, none, some (.ifCond .ne 6, 3)],
  [none, none, some (.bipush (-102), 2), none, some (.ireturn, 1), some (.iconst 0, 1), some (.istore_n 2, 1), some (.iconst 1, 1)],
  [some (.istore_n 3, 1), some (.iload_n 3, 1), some (.ifCond .eq 67, 3), none, none, some (.iconst 0, 1), some (.istore_n 3, 1), some (.iconst 0, 1)],
  [some (.istore 4, 2), none, some (.iload 4, 2), none, some (.bipush 6, 2), none, some (.if_icmp .ge 52, 3), none],
  [none, some (.aload_n 0, 1), some (.getfield 56, 3), none, none, some (.iload 4, 2), none, some (.baload, 1)],
  [some (.ifCond .eq 36, 3), none, none, some (.aload_n 0, 1), some (.getfield 83, 3), none, none, some (.iload 4, 2)],
  [none, some (.iaload, 1), some (.iload_n 1, 1), some (.if_icmp .ne 25, 3), none, none, some (.aload_n 0, 1), some (.iload 4, 2)],
  [none, some (.invokevirtual 211, 3), none, none, some (.ifCond .eq 16, 3), none, none, some (.aload_n 0, 1)],
  [some (.getfield 56, 3), none, none, some (.iload 4, 2), none, some (.iconst 0, 1), some (.bastore, 1), some (.iinc 2 1, 3)],
  [none, none, some (.iconst 1, 1), some (.istore_n 3, 1), some (.iinc 4 1, 3), none, none, some (.goto (-53), 3)],
  [none, none, some (.goto (-65), 3), none, none, some (.iload_n 2, 1), some (.ireturn, 1), none]]
def zIT : List (List (List (Option (Instr × Nat)))) := [zi0, zi1, zi2, zi3, zi4, zi5, zi6, zi7, zi8, zi9, zi10, zi11, zi12, zi13, zi14, zi15, zi16, zi17, zi18, zi19, zi20, zi21, zi22, zi23, zi24, zi25, zi26, zi27, zi28, zi29, zi30, zi31, zi32, zi33, zi34, zi35, zi36, zi37, zi38, zi39, zi40, zi41, zi42, zi43, zi44, zi45, zi46, zi47, zi48, zi49, zi50, zi51, zi52, zi53, zi54, zi55, zi56, zi57, zi58, zi59, zi60, zi61, zi62, zi63, zi64, zi65, zi66, zi67, zi68, zi69, zi70, zi71, zi72, zi73, zi74, zi75, zi76, zi77, zi78, zi79, zi80, zi81, zi82, zi83, zi84, zi85, zi86, zi87, zi88, zi89, zi90, zi91, zi92, zi93, zi94, zi95, zi96, zi97, zi98, zi99, zi100, zi101]
def zFT : List (List (Nat × Nat × Nat × Nat)) := [
  [(11, 0, 0, 141), (18, 2, 0, 94), (30, 2, 1, 97), (34, 2, 9, 114), (37, 2, 10, 117), (40, 2, 7, 109), (47, 2, 2, 99), (58, 2, 3, 101)],
  [(9, 1, 0, 219), (15, 1, 1, 220), (18, 1, 2, 221), (21, 1, 3, 222), (24, 1, 5, 226), (27, 1, 7, 231), (30, 1, 4, 224), (44, 4, 0, 62), (50, 4, 1, 66), (54, 4, 2, 69)],
  [(7, 2, 0, 93), (13, 1, 3, 223), (19, 2, 1, 96), (20, 1, 5, 227), (23, 2, 2, 98), (24, 1, 6, 229), (27, 2, 3, 100), (28, 2, 4, 102), (35, 2, 5, 103), (41, 2, 6, 105), (47, 2, 7, 107), (50, 2, 8, 110), (53, 2, 9, 112), (56, 2, 10, 115)],
  [(9, 3, 0, 154), (15, 3, 1, 155), (19, 3, 3, 157), (26, 3, 2, 156), (29, 3, 4, 158), (33, 3, 7, 161), (37, 3, 8, 163), (43, 3, 5, 159), (46, 3, 6, 160), (49, 0, 0, 142), (88, 4, 0, 61), (93, 2, 5, 104), (94, 4, 1, 65), (97, 2, 6, 106), (98, 4, 2, 68), (101, 2, 7, 108), (106, 2, 9, 113), (109, 2, 10, 116), (116, 2, 8, 111), (133, 2, 0, 95)],
  [(7, 4, 0, 60), (13, 4, 1, 64), (16, 4, 2, 67)],
  [(18, 5, 0, 185), (24, 5, 1, 186), (31, 5, 3, 188), (40, 5, 4, 189), (44, 5, 5, 190), (56, 5, 2, 187), (66, 1, 4, 225), (73, 1, 5, 228), (76, 1, 6, 230), (89, 3, 8, 164), (96, 3, 7, 162), (112, 4, 0, 63), (115, 4, 2, 70)],
  [(7, 6, 7, 577), (13, 6, 8, 578), (16, 6, 9, 579), (19, 6, 10, 580), (22, 6, 11, 581), (25, 6, 12, 582), (28, 6, 13, 583), (31, 6, 14, 584), (35, 6, 15, 585), (38, 6, 16, 586), (41, 6, 17, 587), (44, 6, 18, 588), (47, 6, 19, 589), (50, 6, 20, 590), (53, 6, 21, 591), (56, 6, 22, 592), (59, 6, 23, 593), (62, 6, 24, 594), (65, 6, 25, 595), (68, 6, 26, 596), (71, 6, 27, 597), (74, 6, 28, 598), (77, 6, 29, 599), (80, 6, 30, 600), (83, 6, 31, 601), (86, 6, 35, 605), (89, 6, 36, 606), (92, 6, 37, 607), (95, 6, 38, 608), (98, 6, 39, 609), (101, 6, 40, 610), (104, 6, 41, 611), (107, 6, 42, 612), (110, 6, 43, 613), (117, 6, 0, 570), (121, 6, 1, 571), (124, 6, 2, 572), (127, 6, 3, 573), (166, 6, 34, 604), (170, 6, 32, 602), (173, 6, 33, 603), (177, 6, 4, 574), (180, 6, 5, 575), (197, 6, 6, 576), (200, 6, 44, 614)]]
def zVT : List (List (Nat × Nat × Nat × Nat × Nat × Nat × Nat)) := [
  [(22, 26, 337, 338, 339, 29, 340), (26, 28, 325, 326, 327, 29, 328), (43, 32, 439, 440, 441, 29, 442), (50, 30, 380, 381, 382, 29, 383), (54, 10, 384, 386, 8, 28, 387), (61, 31, 392, 393, 394, 29, 395), (64, 13, 467, 469, 11, 28, 470)],
  [(33, 22, 261, 263, 1, 32, 264), (37, 16, 293, 294, 295, 32, 296), (40, 17, 265, 266, 267, 32, 268), (47, 18, 269, 270, 271, 32, 272), (51, 19, 273, 274, 275, 32, 276)],
  [(31, 17, 358, 266, 267, 32, 268), (38, 18, 359, 270, 271, 32, 272), (44, 19, 360, 274, 275, 32, 276)],
  [(40, 1, 305, 306, 307, 28, 308), (53, 24, 309, 310, 311, 29, 312), (59, 44, 317, 319, 2, 30, 320), (62, 42, 341, 343, 3, 30, 344), (66, 41, 349, 351, 4, 30, 352), (70, 16, 353, 294, 295, 32, 296), (76, 25, 354, 355, 356, 29, 357), (80, 36, 361, 363, 5, 30, 364), (84, 35, 404, 314, 315, 30, 316), (112, 37, 368, 370, 6, 30, 371), (119, 39, 372, 374, 7, 30, 375), (123, 9, 376, 377, 378, 28, 379), (126, 11, 388, 389, 390, 28, 391), (129, 38, 396, 398, 9, 30, 399), (137, 40, 400, 402, 10, 30, 403), (141, 27, 345, 346, 347, 29, 348), (144, 4, 321, 322, 323, 28, 324), (148, 6, 329, 330, 331, 28, 332), (151, 2, 333, 334, 335, 28, 336)],
  [],
  [(62, 63, 253, 255, 0, 25, 256), (69, 15, 257, 258, 259, 32, 260), (79, 20, 289, 290, 291, 32, 292), (83, 34, 301, 302, 303, 30, 304), (86, 35, 313, 314, 315, 30, 316), (92, 4, 405, 322, 323, 28, 324), (99, 3, 418, 419, 420, 28, 421), (103, 27, 422, 346, 347, 29, 348), (108, 29, 427, 428, 429, 29, 430), (118, 8, 435, 436, 437, 28, 438), (122, 46, 447, 448, 449, 26, 450), (123, 21, 455, 456, 457, 32, 458), (133, 5, 484, 485, 486, 28, 487), (143, 7, 554, 555, 556, 28, 557), (150, 12, 463, 464, 465, 28, 466)],
  [(134, 71, 718, 720, 13, 31, 721), (141, 76, 741, 743, 15, 31, 744), (145, 78, 734, 736, 14, 31, 737), (152, 82, 767, 769, 19, 31, 770), (156, 84, 771, 773, 20, 31, 774), (159, 81, 775, 777, 21, 31, 778), (183, 86, 749, 751, 16, 31, 752), (187, 87, 756, 758, 17, 31, 759), (191, 83, 760, 762, 18, 31, 763), (194, 88, 779, 781, 22, 31, 782), (211, 100, 828, 830, 23, 31, 831)]]
def zST : List (List (Nat × Nat × Nat × Nat × Nat × Nat)) := [
  [],
  [],
  [],
  [(102, 43, 365, 366, 30, 367)],
  [],
  [(9, 66, 47, 48, 25, 49), (48, 65, 208, 209, 25, 210), (52, 64, 211, 212, 25, 213), (146, 67, 558, 559, 25, 560)],
  [(113, 69, 567, 568, 31, 569), (130, 70, 711, 712, 31, 713), (138, 77, 738, 739, 31, 740), (148, 80, 764, 765, 31, 766), (162, 85, 753, 754, 31, 755), (207, 97, 821, 822, 31, 823)]]
def zQT : List (List (Nat × Nat × Nat × Nat × Nat × Nat)) := [
  [],
  [],
  [],
  [(25, 0, 153, 83, 28, 84)],
  [],
  [(15, 45, 56, 57, 26, 58), (30, 0, 82, 83, 28, 84), (37, 33, 148, 149, 30, 150), (59, 14, 215, 216, 32, 217)],
  []]
def zNT : List (List (Nat × Nat × Nat × Nat × Nat)) := [
  [(9, 2, 86, 88, 29)],
  [],
  [],
  [(23, 0, 152, 81, 28)],
  [],
  [(7, 4, 45, 46, 26), (22, 1, 78, 214, 32), (28, 0, 80, 81, 28), (35, 3, 146, 147, 30)],
  []]
def zAT : List (List (Nat × Nat × Nat × Nat × Nat)) := [
  [(9, 4, 2, 86, 87)],
  [],
  [],
  [],
  [],
  [(22, 3, 1, 78, 79)],
  []]
def zDF : List (List Value) := [
  [.null],
  [.int 0, .int 0, .int 0, .int 0, .int 0, .int 0, .int 0, .int 0],
  [.int 0, .int 0, .int 0, .int 0, .int 0, .int 0, .int 0, .int 0, .int 0, .int 0, .int 0],
  [.null, .null, .null, .null, .null, .int 0, .int 0, .int 0, .int 0],
  [.int 0, .int 0, .int 0],
  [.null, .null, .int 0, .null, .null, .int 0],
  [.int 0, .int 0, .int 0, .int 0, .int 0, .int 0, .int 0, .null, .null, .null, .null, .null, .null, .null, .null, .null, .null, .null, .null, .null, .null, .null, .null, .null, .null, .null, .null, .null, .null, .null, .null, .null, .int 0, .long 0, .int 0, .null, .null, .null, .null, .null, .null, .null, .null, .null, .int 0]]
def zOT : List (List (Nat × Nat × Nat × Nat)) := [[(3, 85, 43, 44)], [(3, 218, 43, 44)], [(1, 92, 43, 44)], [(3, 151, 43, 44)], [(1, 59, 43, 44)], [(1, 42, 43, 44)], [(1, 566, 43, 44)]]
def zXT : List (List (Nat × Nat × Nat × Nat × Nat × Nat)) := [[], [], [], [], [], [(124, 0, 50, 51, 27, 52), (153, 1, 53, 54, 27, 55)], []]
def zKT : List (List (Nat × Int64 × Nat)) := [[], [], [], [], [], [(129, (-102), 482), (131, 2, 483)], [(203, (-102), 819), (205, 2, 820)]]
def zWT : List (List (Nat × Nat × String × Nat × Nat × Nat × Nat)) := [[(17, 23, "LoadSpace", 90, 29, 91, 89)], [], [], [], [], [], []]
-- array kinds: 0 int, 1 boolean, 2 long, then 3 LoadSpace$Piece, 4 LoadSpace$Place
def zTY : List FieldType := [.int, .boolean, .long, .object RX1, .object RX2]
def zAC : List Nat := [184, 706, 832]
