section
-- ===== PART A: goes FIRST, ahead of the names: the tables' words, and 'selects' of the private methods out of them =====
/-- a private method of a class that the tables say can be made, by its rows of tables_1 -/
def lw_okq (q : MethodName × Nat) : Prop := (q.1.cls ≠ "java/lang/invoke/MethodHandle" ∧ q.1.cls ≠ "java/lang/invoke/VarHandle") ∧ Cond.instantiable q.1.cls q.2 ∈ tables_1 ∧ Cond.privateMethod q.1 ∈ tables_1 ∧ Cond.instanceMethod q.1 ∈ tables_1
theorem lw_p0 : lw_okq (⟨"LoadSpace", "pieceOf", "(I)LLoadSpace$Piece;"⟩, 6) := ⟨⟨by decide +kernel, by decide +kernel⟩, List.mem_of_getElem? (i := 14) (by decide +kernel), List.mem_of_getElem? (i := 230) (by decide +kernel), List.mem_of_getElem? (i := 231) (by decide +kernel)⟩
theorem lw_p1 : lw_okq (⟨"LoadSpace$Piece", "makesWhatOneBeforeMakes", "(I)Z"⟩, 8) := ⟨⟨by decide +kernel, by decide +kernel⟩, List.mem_of_getElem? (i := 190) (by decide +kernel), List.mem_of_getElem? (i := 238) (by decide +kernel), List.mem_of_getElem? (i := 239) (by decide +kernel)⟩
theorem lw_p2 : lw_okq (⟨"LoadSpace$Search", "keepIfBetter", "()V"⟩, 9) := ⟨⟨by decide +kernel, by decide +kernel⟩, List.mem_of_getElem? (i := 123) (by decide +kernel), List.mem_of_getElem? (i := 294) (by decide +kernel), List.mem_of_getElem? (i := 295) (by decide +kernel)⟩
theorem lw_p3 : lw_okq (⟨"LoadSpace$Search", "startsOn", "(I)I"⟩, 9) := ⟨⟨by decide +kernel, by decide +kernel⟩, List.mem_of_getElem? (i := 123) (by decide +kernel), List.mem_of_getElem? (i := 322) (by decide +kernel), List.mem_of_getElem? (i := 323) (by decide +kernel)⟩
theorem lw_p4 : lw_okq (⟨"LoadSpace$Search", "hasEnded", "()Z"⟩, 9) := ⟨⟨by decide +kernel, by decide +kernel⟩, List.mem_of_getElem? (i := 123) (by decide +kernel), List.mem_of_getElem? (i := 330) (by decide +kernel), List.mem_of_getElem? (i := 331) (by decide +kernel)⟩
theorem lw_p5 : lw_okq (⟨"LoadSpace$Search", "seekInTurn", "(ILLoadSpace$Place;III)V"⟩, 9) := ⟨⟨by decide +kernel, by decide +kernel⟩, List.mem_of_getElem? (i := 123) (by decide +kernel), List.mem_of_getElem? (i := 342) (by decide +kernel), List.mem_of_getElem? (i := 343) (by decide +kernel)⟩
theorem lw_p6 : lw_okq (⟨"LoadSpace$Search", "seekInRow", "(ILLoadSpace$Place;II)V"⟩, 9) := ⟨⟨by decide +kernel, by decide +kernel⟩, List.mem_of_getElem? (i := 123) (by decide +kernel), List.mem_of_getElem? (i := 350) (by decide +kernel), List.mem_of_getElem? (i := 351) (by decide +kernel)⟩
theorem lw_p7 : lw_okq (⟨"LoadSpace$Search", "isFreeAndBorne", "(LLoadSpace$Place;)Z"⟩, 9) := ⟨⟨by decide +kernel, by decide +kernel⟩, List.mem_of_getElem? (i := 123) (by decide +kernel), List.mem_of_getElem? (i := 354) (by decide +kernel), List.mem_of_getElem? (i := 355) (by decide +kernel)⟩
theorem lw_p8 : lw_okq (⟨"LoadSpace$Packing", "weightAbove", "(LLoadSpace$Place;)I"⟩, 1) := ⟨⟨by decide +kernel, by decide +kernel⟩, List.mem_of_getElem? (i := 57) (by decide +kernel), List.mem_of_getElem? (i := 366) (by decide +kernel), List.mem_of_getElem? (i := 367) (by decide +kernel)⟩
theorem lw_p9 : lw_okq (⟨"LoadSpace$Search", "makeStep", "(ILLoadSpace$Place;)V"⟩, 9) := ⟨⟨by decide +kernel, by decide +kernel⟩, List.mem_of_getElem? (i := 123) (by decide +kernel), List.mem_of_getElem? (i := 378) (by decide +kernel), List.mem_of_getElem? (i := 379) (by decide +kernel)⟩
theorem lw_p10 : lw_okq (⟨"LoadSpace$Search", "setHeights", "(LLoadSpace$Place;I)V"⟩, 9) := ⟨⟨by decide +kernel, by decide +kernel⟩, List.mem_of_getElem? (i := 123) (by decide +kernel), List.mem_of_getElem? (i := 382) (by decide +kernel), List.mem_of_getElem? (i := 383) (by decide +kernel)⟩
theorem lw_p11 : lw_okq (⟨"LoadSpace$Packing", "isOpen", "(LLoadSpace$Place;)Z"⟩, 1) := ⟨⟨by decide +kernel, by decide +kernel⟩, List.mem_of_getElem? (i := 57) (by decide +kernel), List.mem_of_getElem? (i := 449) (by decide +kernel), List.mem_of_getElem? (i := 450) (by decide +kernel)⟩
theorem lw_p12 : lw_okq (⟨"java/lang/Throwable", "fillInStackTrace", "(I)Ljava/lang/Throwable;"⟩, 6) := ⟨⟨by decide +kernel, by decide +kernel⟩, List.mem_of_getElem? (i := 506) (by decide +kernel), List.mem_of_getElem? (i := 504) (by decide +kernel), List.mem_of_getElem? (i := 505) (by decide +kernel)⟩
theorem lw_p13 : lw_okq (⟨"LoadSpaceModel", "isPiece", "(I)Z"⟩, 45) := ⟨⟨by decide +kernel, by decide +kernel⟩, List.mem_of_getElem? (i := 543) (by decide +kernel), List.mem_of_getElem? (i := 700) (by decide +kernel), List.mem_of_getElem? (i := 701) (by decide +kernel)⟩
theorem lw_p14 : lw_okq (⟨"LoadSpaceModel", "isLarge", "(I)Z"⟩, 45) := ⟨⟨by decide +kernel, by decide +kernel⟩, List.mem_of_getElem? (i := 543) (by decide +kernel), List.mem_of_getElem? (i := 716) (by decide +kernel), List.mem_of_getElem? (i := 717) (by decide +kernel)⟩
theorem lw_p15 : lw_okq (⟨"LoadSpaceModel", "measure", "(III)I"⟩, 45) := ⟨⟨by decide +kernel, by decide +kernel⟩, List.mem_of_getElem? (i := 543) (by decide +kernel), List.mem_of_getElem? (i := 723) (by decide +kernel), List.mem_of_getElem? (i := 724) (by decide +kernel)⟩
def lw_privs_1 : List (MethodName × Nat) := [(⟨"LoadSpace", "pieceOf", "(I)LLoadSpace$Piece;"⟩, 6), (⟨"LoadSpace$Piece", "makesWhatOneBeforeMakes", "(I)Z"⟩, 8), (⟨"LoadSpace$Search", "keepIfBetter", "()V"⟩, 9), (⟨"LoadSpace$Search", "startsOn", "(I)I"⟩, 9), (⟨"LoadSpace$Search", "hasEnded", "()Z"⟩, 9), (⟨"LoadSpace$Search", "seekInTurn", "(ILLoadSpace$Place;III)V"⟩, 9), (⟨"LoadSpace$Search", "seekInRow", "(ILLoadSpace$Place;II)V"⟩, 9), (⟨"LoadSpace$Search", "isFreeAndBorne", "(LLoadSpace$Place;)Z"⟩, 9), (⟨"LoadSpace$Packing", "weightAbove", "(LLoadSpace$Place;)I"⟩, 1), (⟨"LoadSpace$Search", "makeStep", "(ILLoadSpace$Place;)V"⟩, 9), (⟨"LoadSpace$Search", "setHeights", "(LLoadSpace$Place;I)V"⟩, 9), (⟨"LoadSpace$Packing", "isOpen", "(LLoadSpace$Place;)Z"⟩, 1), (⟨"java/lang/Throwable", "fillInStackTrace", "(I)Ljava/lang/Throwable;"⟩, 6), (⟨"LoadSpaceModel", "isPiece", "(I)Z"⟩, 45), (⟨"LoadSpaceModel", "isLarge", "(I)Z"⟩, 45), (⟨"LoadSpaceModel", "measure", "(III)I"⟩, 45)]
theorem lw_r1 : ∀ q ∈ lw_privs_1, lw_okq q := List.forall_mem_cons.mpr ⟨lw_p0, List.forall_mem_cons.mpr ⟨lw_p1, List.forall_mem_cons.mpr ⟨lw_p2, List.forall_mem_cons.mpr ⟨lw_p3, List.forall_mem_cons.mpr ⟨lw_p4, List.forall_mem_cons.mpr ⟨lw_p5, List.forall_mem_cons.mpr ⟨lw_p6, List.forall_mem_cons.mpr ⟨lw_p7, List.forall_mem_cons.mpr ⟨lw_p8, List.forall_mem_cons.mpr ⟨lw_p9, List.forall_mem_cons.mpr ⟨lw_p10, List.forall_mem_cons.mpr ⟨lw_p11, List.forall_mem_cons.mpr ⟨lw_p12, List.forall_mem_cons.mpr ⟨lw_p13, List.forall_mem_cons.mpr ⟨lw_p14, List.forall_mem_cons.mpr ⟨lw_p15, fun _ h => absurd h List.not_mem_nil⟩⟩⟩⟩⟩⟩⟩⟩⟩⟩⟩⟩⟩⟩⟩⟩
theorem lw_p16 : lw_okq (⟨"LoadSpaceModel", "begin", "(I)V"⟩, 45) := ⟨⟨by decide +kernel, by decide +kernel⟩, List.mem_of_getElem? (i := 543) (by decide +kernel), List.mem_of_getElem? (i := 731) (by decide +kernel), List.mem_of_getElem? (i := 732) (by decide +kernel)⟩
theorem lw_p17 : lw_okq (⟨"LoadSpaceModel", "setBox", "(II)V"⟩, 45) := ⟨⟨by decide +kernel, by decide +kernel⟩, List.mem_of_getElem? (i := 543) (by decide +kernel), List.mem_of_getElem? (i := 738) (by decide +kernel), List.mem_of_getElem? (i := 739) (by decide +kernel)⟩
theorem lw_p18 : lw_okq (⟨"LoadSpaceModel", "fits", "(I)Z"⟩, 45) := ⟨⟨by decide +kernel, by decide +kernel⟩, List.mem_of_getElem? (i := 543) (by decide +kernel), List.mem_of_getElem? (i := 742) (by decide +kernel), List.mem_of_getElem? (i := 743) (by decide +kernel)⟩
theorem lw_p19 : lw_okq (⟨"LoadSpaceModel", "isBefore", "(II)Z"⟩, 45) := ⟨⟨by decide +kernel, by decide +kernel⟩, List.mem_of_getElem? (i := 543) (by decide +kernel), List.mem_of_getElem? (i := 749) (by decide +kernel), List.mem_of_getElem? (i := 750) (by decide +kernel)⟩
theorem lw_p20 : lw_okq (⟨"LoadSpaceModel", "areBorne", "(I)Z"⟩, 45) := ⟨⟨by decide +kernel, by decide +kernel⟩, List.mem_of_getElem? (i := 543) (by decide +kernel), List.mem_of_getElem? (i := 753) (by decide +kernel), List.mem_of_getElem? (i := 754) (by decide +kernel)⟩
theorem lw_p21 : lw_okq (⟨"LoadSpaceModel", "isAbove", "(II)Z"⟩, 45) := ⟨⟨by decide +kernel, by decide +kernel⟩, List.mem_of_getElem? (i := 543) (by decide +kernel), List.mem_of_getElem? (i := 757) (by decide +kernel), List.mem_of_getElem? (i := 758) (by decide +kernel)⟩
theorem lw_p22 : lw_okq (⟨"LoadSpaceModel", "judge", "()V"⟩, 45) := ⟨⟨by decide +kernel, by decide +kernel⟩, List.mem_of_getElem? (i := 543) (by decide +kernel), List.mem_of_getElem? (i := 761) (by decide +kernel), List.mem_of_getElem? (i := 762) (by decide +kernel)⟩
theorem lw_p23 : lw_okq (⟨"LoadSpaceModel", "isClear", "(I)Z"⟩, 45) := ⟨⟨by decide +kernel, by decide +kernel⟩, List.mem_of_getElem? (i := 543) (by decide +kernel), List.mem_of_getElem? (i := 810) (by decide +kernel), List.mem_of_getElem? (i := 811) (by decide +kernel)⟩
def lw_privs_2 : List (MethodName × Nat) := [(⟨"LoadSpaceModel", "begin", "(I)V"⟩, 45), (⟨"LoadSpaceModel", "setBox", "(II)V"⟩, 45), (⟨"LoadSpaceModel", "fits", "(I)Z"⟩, 45), (⟨"LoadSpaceModel", "isBefore", "(II)Z"⟩, 45), (⟨"LoadSpaceModel", "areBorne", "(I)Z"⟩, 45), (⟨"LoadSpaceModel", "isAbove", "(II)Z"⟩, 45), (⟨"LoadSpaceModel", "judge", "()V"⟩, 45), (⟨"LoadSpaceModel", "isClear", "(I)Z"⟩, 45)]
theorem lw_r2 : ∀ q ∈ lw_privs_2, lw_okq q := List.forall_mem_cons.mpr ⟨lw_p16, List.forall_mem_cons.mpr ⟨lw_p17, List.forall_mem_cons.mpr ⟨lw_p18, List.forall_mem_cons.mpr ⟨lw_p19, List.forall_mem_cons.mpr ⟨lw_p20, List.forall_mem_cons.mpr ⟨lw_p21, List.forall_mem_cons.mpr ⟨lw_p22, List.forall_mem_cons.mpr ⟨lw_p23, fun _ h => absurd h List.not_mem_nil⟩⟩⟩⟩⟩⟩⟩⟩
def lw_privs : List (MethodName × Nat) := lw_privs_1 ++ (lw_privs_2)
def lw_tbl : List Cond := k2_sels lw_privs ++ tables_1
theorem lw_privs_ok : ∀ q ∈ lw_privs, lw_okq q := by
  show ∀ q ∈ lw_privs_1 ++ (lw_privs_2), lw_okq q
  exact List.forall_mem_append.mpr ⟨lw_r1, lw_r2⟩
end
section
def RX0 : String := "LoadSpace$Packing"
def TX0 : u_T := fun k => match k with
  | _ => ("LoadSpace$Packing", "places", "[LLoadSpace$Place;", true)
def tyX0 : Nat → FieldType := fun k => match k with
  | _ => .array (.object "LoadSpace$Place")
theorem nmX0 : ∀ a, a < 1 → ∀ b, b < 1 → a ≠ b → (TX0 a).2.1 ≠ (TX0 b).2.1 := by decide +kernel
theorem tyX0_ok : ∀ k, k < 1 → parseFieldDescriptor (TX0 k).2.2.1 = some (tyX0 k) := by decide +kernel
def RX1 : String := "LoadSpace$Piece"
def TX1 : u_T := fun k => match k with
  | 0 => ("LoadSpace$Piece", "width", "I", true)
  | 1 => ("LoadSpace$Piece", "height", "I", true)
  | 2 => ("LoadSpace$Piece", "depth", "I", true)
  | 3 => ("LoadSpace$Piece", "weight", "I", true)
  | 4 => ("LoadSpace$Piece", "mark", "I", false)
  | 5 => ("LoadSpace$Piece", "limit", "I", false)
  | 6 => ("LoadSpace$Piece", "stop", "I", false)
  | _ => ("LoadSpace$Piece", "turnBits", "I", false)
def tyX1 : Nat → FieldType := fun k => match k with
  | 0 => .int
  | 1 => .int
  | 2 => .int
  | 3 => .int
  | 4 => .int
  | 5 => .int
  | 6 => .int
  | _ => .int
theorem nmX1 : ∀ a, a < 8 → ∀ b, b < 8 → a ≠ b → (TX1 a).2.1 ≠ (TX1 b).2.1 := by decide +kernel
theorem tyX1_ok : ∀ k, k < 8 → parseFieldDescriptor (TX1 k).2.2.1 = some (tyX1 k) := by decide +kernel
def RX2 : String := "LoadSpace$Place"
def TX2 : u_T := fun k => match k with
  | 0 => ("LoadSpace$Place", "inside", "Z", false)
  | 1 => ("LoadSpace$Place", "weight", "I", false)
  | 2 => ("LoadSpace$Place", "limit", "I", false)
  | 3 => ("LoadSpace$Place", "stop", "I", false)
  | 4 => ("LoadSpace$Place", "turn", "I", false)
  | 5 => ("LoadSpace$Place", "width", "I", false)
  | 6 => ("LoadSpace$Place", "height", "I", false)
  | 7 => ("LoadSpace$Place", "depth", "I", false)
  | 8 => ("LoadSpace$Place", "x", "I", false)
  | 9 => ("LoadSpace$Place", "y", "I", false)
  | _ => ("LoadSpace$Place", "z", "I", false)
def tyX2 : Nat → FieldType := fun k => match k with
  | 0 => .boolean
  | 1 => .int
  | 2 => .int
  | 3 => .int
  | 4 => .int
  | 5 => .int
  | 6 => .int
  | 7 => .int
  | 8 => .int
  | 9 => .int
  | _ => .int
theorem nmX2 : ∀ a, a < 11 → ∀ b, b < 11 → a ≠ b → (TX2 a).2.1 ≠ (TX2 b).2.1 := by decide +kernel
theorem tyX2_ok : ∀ k, k < 11 → parseFieldDescriptor (TX2 k).2.2.1 = some (tyX2 k) := by decide +kernel
def RX3 : String := "LoadSpace$Search"
def TX3 : u_T := fun k => match k with
  | 0 => ("LoadSpace$Search", "space", "LLoadSpace$Space;", true)
  | 1 => ("LoadSpace$Search", "pieces", "[LLoadSpace$Piece;", true)
  | 2 => ("LoadSpace$Search", "trial", "LLoadSpace$Packing;", true)
  | 3 => ("LoadSpace$Search", "best", "LLoadSpace$Packing;", true)
  | 4 => ("LoadSpace$Search", "heights", "[I", true)
  | 5 => ("LoadSpace$Search", "bestCells", "I", false)
  | 6 => ("LoadSpace$Search", "bestWeightTimesY", "I", false)
  | 7 => ("LoadSpace$Search", "allowed", "I", false)
  | _ => ("LoadSpace$Search", "made", "I", false)
def tyX3 : Nat → FieldType := fun k => match k with
  | 0 => .object "LoadSpace$Space"
  | 1 => .array (.object "LoadSpace$Piece")
  | 2 => .object "LoadSpace$Packing"
  | 3 => .object "LoadSpace$Packing"
  | 4 => .array .int
  | 5 => .int
  | 6 => .int
  | 7 => .int
  | _ => .int
theorem nmX3 : ∀ a, a < 9 → ∀ b, b < 9 → a ≠ b → (TX3 a).2.1 ≠ (TX3 b).2.1 := by decide +kernel
theorem tyX3_ok : ∀ k, k < 9 → parseFieldDescriptor (TX3 k).2.2.1 = some (tyX3 k) := by decide +kernel
def RX4 : String := "LoadSpace$Space"
def TX4 : u_T := fun k => match k with
  | 0 => ("LoadSpace$Space", "width", "I", true)
  | 1 => ("LoadSpace$Space", "height", "I", true)
  | _ => ("LoadSpace$Space", "depth", "I", true)
def tyX4 : Nat → FieldType := fun k => match k with
  | 0 => .int
  | 1 => .int
  | _ => .int
theorem nmX4 : ∀ a, a < 3 → ∀ b, b < 3 → a ≠ b → (TX4 a).2.1 ≠ (TX4 b).2.1 := by decide +kernel
theorem tyX4_ok : ∀ k, k < 3 → parseFieldDescriptor (TX4 k).2.2.1 = some (tyX4 k) := by decide +kernel
def RX5 : String := "LoadSpace"
def TX5 : u_T := fun k => match k with
  | 0 => ("LoadSpace", "space", "LLoadSpace$Space;", true)
  | 1 => ("LoadSpace", "pieces", "[LLoadSpace$Piece;", true)
  | 2 => ("LoadSpace", "count", "I", false)
  | 3 => ("LoadSpace", "packing", "LLoadSpace$Packing;", true)
  | 4 => ("LoadSpace", "search", "LLoadSpace$Search;", true)
  | _ => ("LoadSpace", "stepsLeft", "I", false)
def tyX5 : Nat → FieldType := fun k => match k with
  | 0 => .object "LoadSpace$Space"
  | 1 => .array (.object "LoadSpace$Piece")
  | 2 => .int
  | 3 => .object "LoadSpace$Packing"
  | 4 => .object "LoadSpace$Search"
  | _ => .int
theorem nmX5 : ∀ a, a < 6 → ∀ b, b < 6 → a ≠ b → (TX5 a).2.1 ≠ (TX5 b).2.1 := by decide +kernel
theorem tyX5_ok : ∀ k, k < 6 → parseFieldDescriptor (TX5 k).2.2.1 = some (tyX5 k) := by decide +kernel
def RX6 : String := "LoadSpaceModel"
def TX6 : u_T := fun k => match k with
  | 0 => ("LoadSpaceModel", "wide", "I", true)
  | 1 => ("LoadSpaceModel", "tall", "I", true)
  | 2 => ("LoadSpaceModel", "deep", "I", true)
  | 3 => ("LoadSpaceModel", "pieces", "I", false)
  | 4 => ("LoadSpaceModel", "made", "I", false)
  | 5 => ("LoadSpaceModel", "latest", "I", false)
  | 6 => ("LoadSpaceModel", "isExact", "Z", false)
  | 7 => ("LoadSpaceModel", "w", "[I", true)
  | 8 => ("LoadSpaceModel", "h", "[I", true)
  | 9 => ("LoadSpaceModel", "d", "[I", true)
  | 10 => ("LoadSpaceModel", "weight", "[I", true)
  | 11 => ("LoadSpaceModel", "mark", "[I", true)
  | 12 => ("LoadSpaceModel", "most", "[I", true)
  | 13 => ("LoadSpaceModel", "stop", "[I", true)
  | 14 => ("LoadSpaceModel", "in", "[Z", true)
  | 15 => ("LoadSpaceModel", "x", "[I", true)
  | 16 => ("LoadSpaceModel", "y", "[I", true)
  | 17 => ("LoadSpaceModel", "z", "[I", true)
  | 18 => ("LoadSpaceModel", "bw", "[I", true)
  | 19 => ("LoadSpaceModel", "bh", "[I", true)
  | 20 => ("LoadSpaceModel", "bd", "[I", true)
  | 21 => ("LoadSpaceModel", "turned", "[I", true)
  | 22 => ("LoadSpaceModel", "pIn", "[Z", true)
  | 23 => ("LoadSpaceModel", "px", "[I", true)
  | 24 => ("LoadSpaceModel", "py", "[I", true)
  | 25 => ("LoadSpaceModel", "pz", "[I", true)
  | 26 => ("LoadSpaceModel", "pw", "[I", true)
  | 27 => ("LoadSpaceModel", "ph", "[I", true)
  | 28 => ("LoadSpaceModel", "pd", "[I", true)
  | 29 => ("LoadSpaceModel", "pTurn", "[I", true)
  | 30 => ("LoadSpaceModel", "pWeight", "[I", true)
  | 31 => ("LoadSpaceModel", "pStop", "[I", true)
  | 32 => ("LoadSpaceModel", "bestCells", "I", false)
  | 33 => ("LoadSpaceModel", "bestLow", "J", false)
  | 34 => ("LoadSpaceModel", "hasBest", "Z", false)
  | 35 => ("LoadSpaceModel", "counter", "[I", true)
  | 36 => ("LoadSpaceModel", "turns", "[I", true)
  | 37 => ("LoadSpaceModel", "turnAt", "[I", true)
  | 38 => ("LoadSpaceModel", "xs", "[I", true)
  | 39 => ("LoadSpaceModel", "ys", "[I", true)
  | 40 => ("LoadSpaceModel", "zs", "[I", true)
  | 41 => ("LoadSpaceModel", "xAt", "[I", true)
  | 42 => ("LoadSpaceModel", "yAt", "[I", true)
  | 43 => ("LoadSpaceModel", "zAt", "[I", true)
  | _ => ("LoadSpaceModel", "thrown", "I", false)
def tyX6 : Nat → FieldType := fun k => match k with
  | 0 => .int
  | 1 => .int
  | 2 => .int
  | 3 => .int
  | 4 => .int
  | 5 => .int
  | 6 => .boolean
  | 7 => .array .int
  | 8 => .array .int
  | 9 => .array .int
  | 10 => .array .int
  | 11 => .array .int
  | 12 => .array .int
  | 13 => .array .int
  | 14 => .array .boolean
  | 15 => .array .int
  | 16 => .array .int
  | 17 => .array .int
  | 18 => .array .int
  | 19 => .array .int
  | 20 => .array .int
  | 21 => .array .int
  | 22 => .array .boolean
  | 23 => .array .int
  | 24 => .array .int
  | 25 => .array .int
  | 26 => .array .int
  | 27 => .array .int
  | 28 => .array .int
  | 29 => .array .int
  | 30 => .array .int
  | 31 => .array .int
  | 32 => .int
  | 33 => .long
  | 34 => .boolean
  | 35 => .array .int
  | 36 => .array .int
  | 37 => .array .int
  | 38 => .array .int
  | 39 => .array .int
  | 40 => .array .int
  | 41 => .array .int
  | 42 => .array .int
  | 43 => .array .int
  | _ => .int
theorem nmX6 : ∀ a, a < 45 → ∀ b, b < 45 → a ≠ b → (TX6 a).2.1 ≠ (TX6 b).2.1 := by decide +kernel
theorem tyX6_ok : ∀ k, k < 45 → parseFieldDescriptor (TX6 k).2.2.1 = some (tyX6 k) := by decide +kernel
abbrev bX0_init : ByteArray := prog_2_method_1_code
def yX0_init : MethodName := ⟨RX0, "<init>", "()V"⟩
abbrev mX0_init : Nat := 0
abbrev bX0_empty : ByteArray := prog_2_method_2_code
def yX0_empty : MethodName := ⟨RX0, "empty", "()V"⟩
abbrev mX0_empty : Nat := 1
abbrev bX0_copyFrom : ByteArray := prog_2_method_3_code
def yX0_copyFrom : MethodName := ⟨RX0, "copyFrom", "(LLoadSpace$Packing;)V"⟩
abbrev mX0_copyFrom : Nat := 2
abbrev bX0_placeOf : ByteArray := prog_2_method_4_code
def yX0_placeOf : MethodName := ⟨RX0, "placeOf", "(I)LLoadSpace$Place;"⟩
abbrev mX0_placeOf : Nat := 3
abbrev bX0_cells : ByteArray := prog_2_method_5_code
def yX0_cells : MethodName := ⟨RX0, "cells", "()I"⟩
abbrev mX0_cells : Nat := 4
abbrev bX0_weight : ByteArray := prog_2_method_6_code
def yX0_weight : MethodName := ⟨RX0, "weight", "()I"⟩
abbrev mX0_weight : Nat := 5
abbrev bX0_weightTimesY : ByteArray := prog_2_method_7_code
def yX0_weightTimesY : MethodName := ⟨RX0, "weightTimesY", "()I"⟩
abbrev mX0_weightTimesY : Nat := 6
abbrev bX0_farWeight : ByteArray := prog_2_method_8_code
def yX0_farWeight : MethodName := ⟨RX0, "farWeight", "()I"⟩
abbrev mX0_farWeight : Nat := 7
abbrev bX0_uppermost : ByteArray := prog_2_method_9_code
def yX0_uppermost : MethodName := ⟨RX0, "uppermost", "(II)I"⟩
abbrev mX0_uppermost : Nat := 8
abbrev bX0_keepsLimits : ByteArray := prog_2_method_10_code
def yX0_keepsLimits : MethodName := ⟨RX0, "keepsLimits", "(LLoadSpace$Place;)Z"⟩
abbrev mX0_keepsLimits : Nat := 9
abbrev bX0_weightAbove : ByteArray := prog_2_method_11_code
def yX0_weightAbove : MethodName := ⟨RX0, "weightAbove", "(LLoadSpace$Place;)I"⟩
abbrev mX0_weightAbove : Nat := 10
abbrev bX0_keepsOrder : ByteArray := prog_2_method_12_code
def yX0_keepsOrder : MethodName := ⟨RX0, "keepsOrder", "(LLoadSpace$Place;)Z"⟩
abbrev mX0_keepsOrder : Nat := 11
abbrev bX0_takeOut : ByteArray := prog_2_method_13_code
def yX0_takeOut : MethodName := ⟨RX0, "takeOut", "(I)I"⟩
abbrev mX0_takeOut : Nat := 12
abbrev bX0_isOpen : ByteArray := prog_2_method_14_code
def yX0_isOpen : MethodName := ⟨RX0, "isOpen", "(LLoadSpace$Place;)Z"⟩
abbrev mX0_isOpen : Nat := 13
abbrev bX1_init : ByteArray := prog_3_method_1_code
def yX1_init : MethodName := ⟨RX1, "<init>", "(IIII)V"⟩
abbrev mX1_init : Nat := 14
abbrev bX1_setMark : ByteArray := prog_3_method_2_code
def yX1_setMark : MethodName := ⟨RX1, "setMark", "(I)V"⟩
abbrev mX1_setMark : Nat := 15
abbrev bX1_hasTurn : ByteArray := prog_3_method_3_code
def yX1_hasTurn : MethodName := ⟨RX1, "hasTurn", "(I)Z"⟩
abbrev mX1_hasTurn : Nat := 16
abbrev bX1_turnedWidth : ByteArray := prog_3_method_4_code
def yX1_turnedWidth : MethodName := ⟨RX1, "turnedWidth", "(I)I"⟩
abbrev mX1_turnedWidth : Nat := 17
abbrev bX1_turnedHeight : ByteArray := prog_3_method_5_code
def yX1_turnedHeight : MethodName := ⟨RX1, "turnedHeight", "(I)I"⟩
abbrev mX1_turnedHeight : Nat := 18
abbrev bX1_turnedDepth : ByteArray := prog_3_method_6_code
def yX1_turnedDepth : MethodName := ⟨RX1, "turnedDepth", "(I)I"⟩
abbrev mX1_turnedDepth : Nat := 19
abbrev bX1_isLargeFor : ByteArray := prog_3_method_7_code
def yX1_isLargeFor : MethodName := ⟨RX1, "isLargeFor", "(LLoadSpace$Space;)Z"⟩
abbrev mX1_isLargeFor : Nat := 20
abbrev bX1_cells : ByteArray := prog_3_method_8_code
def yX1_cells : MethodName := ⟨RX1, "cells", "()I"⟩
abbrev mX1_cells : Nat := 21
abbrev bX1_makesWhatOneBeforeMakes : ByteArray := prog_3_method_9_code
def yX1_makesWhatOneBeforeMakes : MethodName := ⟨RX1, "makesWhatOneBeforeMakes", "(I)Z"⟩
abbrev mX1_makesWhatOneBeforeMakes : Nat := 22
abbrev bX2_init : ByteArray := prog_4_method_1_code
def yX2_init : MethodName := ⟨RX2, "<init>", "()V"⟩
abbrev mX2_init : Nat := 23
abbrev bX2_startFor : ByteArray := prog_4_method_2_code
def yX2_startFor : MethodName := ⟨RX2, "startFor", "(LLoadSpace$Piece;)V"⟩
abbrev mX2_startFor : Nat := 24
abbrev bX2_turnTo : ByteArray := prog_4_method_3_code
def yX2_turnTo : MethodName := ⟨RX2, "turnTo", "(LLoadSpace$Piece;I)V"⟩
abbrev mX2_turnTo : Nat := 25
abbrev bX2_moveTo : ByteArray := prog_4_method_4_code
def yX2_moveTo : MethodName := ⟨RX2, "moveTo", "(III)V"⟩
abbrev mX2_moveTo : Nat := 26
abbrev bX2_copyFrom : ByteArray := prog_4_method_5_code
def yX2_copyFrom : MethodName := ⟨RX2, "copyFrom", "(LLoadSpace$Place;)V"⟩
abbrev mX2_copyFrom : Nat := 27
abbrev bX2_numberOn : ByteArray := prog_4_method_6_code
def yX2_numberOn : MethodName := ⟨RX2, "numberOn", "(I)I"⟩
abbrev mX2_numberOn : Nat := 28
abbrev bX2_cells : ByteArray := prog_4_method_7_code
def yX2_cells : MethodName := ⟨RX2, "cells", "()I"⟩
abbrev mX2_cells : Nat := 29
abbrev bX2_overlaps : ByteArray := prog_4_method_8_code
def yX2_overlaps : MethodName := ⟨RX2, "overlaps", "(LLoadSpace$Place;)Z"⟩
abbrev mX2_overlaps : Nat := 30
abbrev bX2_hasAbove : ByteArray := prog_4_method_9_code
def yX2_hasAbove : MethodName := ⟨RX2, "hasAbove", "(LLoadSpace$Place;)Z"⟩
abbrev mX2_hasAbove : Nat := 31
abbrev bX2_hasInFront : ByteArray := prog_4_method_10_code
def yX2_hasInFront : MethodName := ⟨RX2, "hasInFront", "(LLoadSpace$Place;)Z"⟩
abbrev mX2_hasInFront : Nat := 32
abbrev bX2_isOver : ByteArray := prog_4_method_11_code
def yX2_isOver : MethodName := ⟨RX2, "isOver", "(II)Z"⟩
abbrev mX2_isOver : Nat := 33
abbrev bX3_init : ByteArray := prog_5_method_1_code
def yX3_init : MethodName := ⟨RX3, "<init>", "(LLoadSpace$Space;[LLoadSpace$Piece;LLoadSpace$Packing;)V"⟩
abbrev mX3_init : Nat := 34
abbrev bX3_begin : ByteArray := prog_5_method_2_code
def yX3_begin : MethodName := ⟨RX3, "begin", "(I)V"⟩
abbrev mX3_begin : Nat := 35
abbrev bX3_seek : ByteArray := prog_5_method_3_code
def yX3_seek : MethodName := ⟨RX3, "seek", "(I)V"⟩
abbrev mX3_seek : Nat := 36
abbrev bX3_seekInTurn : ByteArray := prog_5_method_4_code
def yX3_seekInTurn : MethodName := ⟨RX3, "seekInTurn", "(ILLoadSpace$Place;III)V"⟩
abbrev mX3_seekInTurn : Nat := 37
abbrev bX3_seekInRow : ByteArray := prog_5_method_5_code
def yX3_seekInRow : MethodName := ⟨RX3, "seekInRow", "(ILLoadSpace$Place;II)V"⟩
abbrev mX3_seekInRow : Nat := 38
abbrev bX3_makeStep : ByteArray := prog_5_method_6_code
def yX3_makeStep : MethodName := ⟨RX3, "makeStep", "(ILLoadSpace$Place;)V"⟩
abbrev mX3_makeStep : Nat := 39
abbrev bX3_isFreeAndBorne : ByteArray := prog_5_method_7_code
def yX3_isFreeAndBorne : MethodName := ⟨RX3, "isFreeAndBorne", "(LLoadSpace$Place;)Z"⟩
abbrev mX3_isFreeAndBorne : Nat := 40
abbrev bX3_setHeights : ByteArray := prog_5_method_8_code
def yX3_setHeights : MethodName := ⟨RX3, "setHeights", "(LLoadSpace$Place;I)V"⟩
abbrev mX3_setHeights : Nat := 41
abbrev bX3_hasEnded : ByteArray := prog_5_method_9_code
def yX3_hasEnded : MethodName := ⟨RX3, "hasEnded", "()Z"⟩
abbrev mX3_hasEnded : Nat := 42
abbrev bX3_startsOn : ByteArray := prog_5_method_10_code
def yX3_startsOn : MethodName := ⟨RX3, "startsOn", "(I)I"⟩
abbrev mX3_startsOn : Nat := 43
abbrev bX3_hasBit : ByteArray := prog_5_method_11_code
def yX3_hasBit : MethodName := ⟨RX3, "hasBit", "(II)Z"⟩
abbrev mX3_hasBit : Nat := 44
abbrev bX3_keepIfBetter : ByteArray := prog_5_method_12_code
def yX3_keepIfBetter : MethodName := ⟨RX3, "keepIfBetter", "()V"⟩
abbrev mX3_keepIfBetter : Nat := 45
abbrev bX4_init : ByteArray := prog_6_method_1_code
def yX4_init : MethodName := ⟨RX4, "<init>", "(III)V"⟩
abbrev mX4_init : Nat := 46
abbrev bX4_cells : ByteArray := prog_6_method_2_code
def yX4_cells : MethodName := ⟨RX4, "cells", "()I"⟩
abbrev mX4_cells : Nat := 47
abbrev bX5_init : ByteArray := prog_1_method_1_code
def yX5_init : MethodName := ⟨RX5, "<init>", "(III)V"⟩
abbrev mX5_init : Nat := 48
abbrev bX5_piece : ByteArray := prog_1_method_2_code
def yX5_piece : MethodName := ⟨RX5, "piece", "(IIII)I"⟩
abbrev mX5_piece : Nat := 49
abbrev bX5_turn : ByteArray := prog_1_method_3_code
def yX5_turn : MethodName := ⟨RX5, "turn", "(II)I"⟩
abbrev mX5_turn : Nat := 50
abbrev bX5_limit : ByteArray := prog_1_method_4_code
def yX5_limit : MethodName := ⟨RX5, "limit", "(II)I"⟩
abbrev mX5_limit : Nat := 51
abbrev bX5_order : ByteArray := prog_1_method_5_code
def yX5_order : MethodName := ⟨RX5, "order", "(II)I"⟩
abbrev mX5_order : Nat := 52
abbrev bX5_large : ByteArray := prog_1_method_6_code
def yX5_large : MethodName := ⟨RX5, "large", "(I)I"⟩
abbrev mX5_large : Nat := 53
abbrev bX5_pack : ByteArray := prog_1_method_7_code
def yX5_pack : MethodName := ⟨RX5, "pack", "(I)I"⟩
abbrev mX5_pack : Nat := 54
abbrev bX5_exact : ByteArray := prog_1_method_8_code
def yX5_exact : MethodName := ⟨RX5, "exact", "()Z"⟩
abbrev mX5_exact : Nat := 55
abbrev bX5_steps : ByteArray := prog_1_method_9_code
def yX5_steps : MethodName := ⟨RX5, "steps", "(Z)I"⟩
abbrev mX5_steps : Nat := 56
abbrev bX5_at : ByteArray := prog_1_method_10_code
def yX5_at : MethodName := ⟨RX5, "at", "(II)I"⟩
abbrev mX5_at : Nat := 57
abbrev bX5_overlap : ByteArray := prog_1_method_11_code
def yX5_overlap : MethodName := ⟨RX5, "overlap", "(II)Z"⟩
abbrev mX5_overlap : Nat := 58
abbrev bX5_above : ByteArray := prog_1_method_12_code
def yX5_above : MethodName := ⟨RX5, "above", "(II)I"⟩
abbrev mX5_above : Nat := 59
abbrev bX5_free : ByteArray := prog_1_method_13_code
def yX5_free : MethodName := ⟨RX5, "free", "()I"⟩
abbrev mX5_free : Nat := 60
abbrev bX5_bound : ByteArray := prog_1_method_14_code
def yX5_bound : MethodName := ⟨RX5, "bound", "()I"⟩
abbrev mX5_bound : Nat := 61
abbrev bX5_axle : ByteArray := prog_1_method_15_code
def yX5_axle : MethodName := ⟨RX5, "axle", "(II)J"⟩
abbrev mX5_axle : Nat := 62
abbrev bX5_unload : ByteArray := prog_1_method_16_code
def yX5_unload : MethodName := ⟨RX5, "unload", "(I)I"⟩
abbrev mX5_unload : Nat := 63
abbrev bX5_pieceOf : ByteArray := prog_1_method_17_code
def yX5_pieceOf : MethodName := ⟨RX5, "pieceOf", "(I)LLoadSpace$Piece;"⟩
abbrev mX5_pieceOf : Nat := 64
abbrev bX5_isWithin : ByteArray := prog_1_method_18_code
def yX5_isWithin : MethodName := ⟨RX5, "isWithin", "(III)Z"⟩
abbrev mX5_isWithin : Nat := 65
abbrev bX5_isLength : ByteArray := prog_1_method_19_code
def yX5_isLength : MethodName := ⟨RX5, "isLength", "(I)Z"⟩
abbrev mX5_isLength : Nat := 66
abbrev bX5_nearestLength : ByteArray := prog_1_method_20_code
def yX5_nearestLength : MethodName := ⟨RX5, "nearestLength", "(I)I"⟩
abbrev mX5_nearestLength : Nat := 67
abbrev bX5_greatestDivisor : ByteArray := prog_1_method_21_code
def yX5_greatestDivisor : MethodName := ⟨RX5, "greatestDivisor", "(JJ)J"⟩
abbrev mX5_greatestDivisor : Nat := 68
abbrev bX6_init : ByteArray := prog_8_method_1_code
def yX6_init : MethodName := ⟨RX6, "<init>", "(III)V"⟩
abbrev mX6_init : Nat := 69
abbrev bX6_near : ByteArray := prog_8_method_2_code
def yX6_near : MethodName := ⟨RX6, "near", "(I)I"⟩
abbrev mX6_near : Nat := 70
abbrev bX6_within : ByteArray := prog_8_method_3_code
def yX6_within : MethodName := ⟨RX6, "within", "(III)Z"⟩
abbrev mX6_within : Nat := 71
abbrev bX6_isPiece : ByteArray := prog_8_method_4_code
def yX6_isPiece : MethodName := ⟨RX6, "isPiece", "(I)Z"⟩
abbrev mX6_isPiece : Nat := 72
abbrev bX6_piece : ByteArray := prog_8_method_5_code
def yX6_piece : MethodName := ⟨RX6, "piece", "(IIII)I"⟩
abbrev mX6_piece : Nat := 73
abbrev bX6_turn : ByteArray := prog_8_method_6_code
def yX6_turn : MethodName := ⟨RX6, "turn", "(II)I"⟩
abbrev mX6_turn : Nat := 74
abbrev bX6_limit : ByteArray := prog_8_method_7_code
def yX6_limit : MethodName := ⟨RX6, "limit", "(II)I"⟩
abbrev mX6_limit : Nat := 75
abbrev bX6_order : ByteArray := prog_8_method_8_code
def yX6_order : MethodName := ⟨RX6, "order", "(II)I"⟩
abbrev mX6_order : Nat := 76
abbrev bX6_measure : ByteArray := prog_8_method_9_code
def yX6_measure : MethodName := ⟨RX6, "measure", "(III)I"⟩
abbrev mX6_measure : Nat := 77
abbrev bX6_turnsOf : ByteArray := prog_8_method_10_code
def yX6_turnsOf : MethodName := ⟨RX6, "turnsOf", "(I)I"⟩
abbrev mX6_turnsOf : Nat := 78
abbrev bX6_isLarge : ByteArray := prog_8_method_11_code
def yX6_isLarge : MethodName := ⟨RX6, "isLarge", "(I)Z"⟩
abbrev mX6_isLarge : Nat := 79
abbrev bX6_large : ByteArray := prog_8_method_12_code
def yX6_large : MethodName := ⟨RX6, "large", "(I)I"⟩
abbrev mX6_large : Nat := 80
abbrev bX6_common : ByteArray := prog_8_method_13_code
def yX6_common : MethodName := ⟨RX6, "common", "(IIII)I"⟩
abbrev mX6_common : Nat := 81
abbrev bX6_isAbove : ByteArray := prog_8_method_14_code
def yX6_isAbove : MethodName := ⟨RX6, "isAbove", "(II)Z"⟩
abbrev mX6_isAbove : Nat := 82
abbrev bX6_isBefore : ByteArray := prog_8_method_15_code
def yX6_isBefore : MethodName := ⟨RX6, "isBefore", "(II)Z"⟩
abbrev mX6_isBefore : Nat := 83
abbrev bX6_fits : ByteArray := prog_8_method_16_code
def yX6_fits : MethodName := ⟨RX6, "fits", "(I)Z"⟩
abbrev mX6_fits : Nat := 84
abbrev bX6_areBorne : ByteArray := prog_8_method_17_code
def yX6_areBorne : MethodName := ⟨RX6, "areBorne", "(I)Z"⟩
abbrev mX6_areBorne : Nat := 85
abbrev bX6_enter : ByteArray := prog_8_method_18_code
def yX6_enter : MethodName := ⟨RX6, "enter", "([IIII)I"⟩
abbrev mX6_enter : Nat := 86
abbrev bX6_begin : ByteArray := prog_8_method_19_code
def yX6_begin : MethodName := ⟨RX6, "begin", "(I)V"⟩
abbrev mX6_begin : Nat := 87
abbrev bX6_setBox : ByteArray := prog_8_method_20_code
def yX6_setBox : MethodName := ⟨RX6, "setBox", "(II)V"⟩
abbrev mX6_setBox : Nat := 88
abbrev bX6_judge : ByteArray := prog_8_method_21_code
def yX6_judge : MethodName := ⟨RX6, "judge", "()V"⟩
abbrev mX6_judge : Nat := 89
abbrev bX6_pack : ByteArray := prog_8_method_22_code
def yX6_pack : MethodName := ⟨RX6, "pack", "(I)I"⟩
abbrev mX6_pack : Nat := 90
abbrev bX6_exact : ByteArray := prog_8_method_23_code
def yX6_exact : MethodName := ⟨RX6, "exact", "()Z"⟩
abbrev mX6_exact : Nat := 91
abbrev bX6_steps : ByteArray := prog_8_method_24_code
def yX6_steps : MethodName := ⟨RX6, "steps", "(Z)I"⟩
abbrev mX6_steps : Nat := 92
abbrev bX6_at : ByteArray := prog_8_method_25_code
def yX6_at : MethodName := ⟨RX6, "at", "(II)I"⟩
abbrev mX6_at : Nat := 93
abbrev bX6_overlap : ByteArray := prog_8_method_26_code
def yX6_overlap : MethodName := ⟨RX6, "overlap", "(II)Z"⟩
abbrev mX6_overlap : Nat := 94
abbrev bX6_above : ByteArray := prog_8_method_27_code
def yX6_above : MethodName := ⟨RX6, "above", "(II)I"⟩
abbrev mX6_above : Nat := 95
abbrev bX6_free : ByteArray := prog_8_method_28_code
def yX6_free : MethodName := ⟨RX6, "free", "()I"⟩
abbrev mX6_free : Nat := 96
abbrev bX6_bound : ByteArray := prog_8_method_29_code
def yX6_bound : MethodName := ⟨RX6, "bound", "()I"⟩
abbrev mX6_bound : Nat := 97
abbrev bX6_greatest : ByteArray := prog_8_method_30_code
def yX6_greatest : MethodName := ⟨RX6, "greatest", "(JJ)J"⟩
abbrev mX6_greatest : Nat := 98
abbrev bX6_thrown : ByteArray := prog_8_method_31_code
def yX6_thrown : MethodName := ⟨RX6, "thrown", "()I"⟩
abbrev mX6_thrown : Nat := 99
abbrev bX6_axle : ByteArray := prog_8_method_32_code
def yX6_axle : MethodName := ⟨RX6, "axle", "(II)J"⟩
abbrev mX6_axle : Nat := 100
abbrev bX6_isClear : ByteArray := prog_8_method_33_code
def yX6_isClear : MethodName := ⟨RX6, "isClear", "(I)Z"⟩
abbrev mX6_isClear : Nat := 101
abbrev bX6_unload : ByteArray := prog_8_method_34_code
def yX6_unload : MethodName := ⟨RX6, "unload", "(I)I"⟩
abbrev mX6_unload : Nat := 102
abbrev zCl : List vw_C := [(RX0, TX0, 1), (RX1, TX1, 8), (RX2, TX2, 11), (RX3, TX3, 9), (RX4, TX4, 3), (RX5, TX5, 6), (RX6, TX6, 45)]
def zTys : List (Nat → FieldType) := [tyX0, tyX1, tyX2, tyX3, tyX4, tyX5, tyX6]
abbrev zME : Type := MethodName × ByteArray × Nat × Option FieldType × Nat × Nat
def zMT : List zME := [
  (yX0_init, bX0_init, 2, none, 0, 0),
  (yX0_empty, bX0_empty, 2, none, 0, 0),
  (yX0_copyFrom, bX0_copyFrom, 3, none, 0, 1),
  (yX0_placeOf, bX0_placeOf, 2, (some (.object "LoadSpace$Place")), 0, 1),
  (yX0_cells, bX0_cells, 3, (some .int), 0, 0),
  (yX0_weight, bX0_weight, 3, (some .int), 0, 0),
  (yX0_weightTimesY, bX0_weightTimesY, 3, (some .int), 0, 0),
  (yX0_farWeight, bX0_farWeight, 4, (some .int), 0, 0),
  (yX0_uppermost, bX0_uppermost, 7, (some .int), 0, 2),
  (yX0_keepsLimits, bX0_keepsLimits, 4, (some .boolean), 0, 1),
  (yX0_weightAbove, bX0_weightAbove, 4, (some .int), 0, 1),
  (yX0_keepsOrder, bX0_keepsOrder, 4, (some .boolean), 0, 1),
  (yX0_takeOut, bX0_takeOut, 5, (some .int), 0, 1),
  (yX0_isOpen, bX0_isOpen, 4, (some .boolean), 0, 1),
  (yX1_init, bX1_init, 5, none, 1, 4),
  (yX1_setMark, bX1_setMark, 4, none, 1, 1),
  (yX1_hasTurn, bX1_hasTurn, 2, (some .boolean), 1, 1),
  (yX1_turnedWidth, bX1_turnedWidth, 2, (some .int), 1, 1),
  (yX1_turnedHeight, bX1_turnedHeight, 2, (some .int), 1, 1),
  (yX1_turnedDepth, bX1_turnedDepth, 2, (some .int), 1, 1),
  (yX1_isLargeFor, bX1_isLargeFor, 3, (some .boolean), 1, 1),
  (yX1_cells, bX1_cells, 1, (some .int), 1, 0),
  (yX1_makesWhatOneBeforeMakes, bX1_makesWhatOneBeforeMakes, 3, (some .boolean), 1, 1),
  (yX2_init, bX2_init, 1, none, 2, 0),
  (yX2_startFor, bX2_startFor, 2, none, 2, 1),
  (yX2_turnTo, bX2_turnTo, 3, none, 2, 2),
  (yX2_moveTo, bX2_moveTo, 4, none, 2, 3),
  (yX2_copyFrom, bX2_copyFrom, 2, none, 2, 1),
  (yX2_numberOn, bX2_numberOn, 2, (some .int), 2, 1),
  (yX2_cells, bX2_cells, 1, (some .int), 2, 0),
  (yX2_overlaps, bX2_overlaps, 2, (some .boolean), 2, 1),
  (yX2_hasAbove, bX2_hasAbove, 2, (some .boolean), 2, 1),
  (yX2_hasInFront, bX2_hasInFront, 2, (some .boolean), 2, 1),
  (yX2_isOver, bX2_isOver, 3, (some .boolean), 2, 2),
  (yX3_init, bX3_init, 4, none, 3, 3),
  (yX3_begin, bX3_begin, 3, none, 3, 1),
  (yX3_seek, bX3_seek, 8, none, 3, 1),
  (yX3_seekInTurn, bX3_seekInTurn, 11, none, 3, 5),
  (yX3_seekInRow, bX3_seekInRow, 6, none, 3, 4),
  (yX3_makeStep, bX3_makeStep, 3, none, 3, 2),
  (yX3_isFreeAndBorne, bX3_isFreeAndBorne, 5, (some .boolean), 3, 1),
  (yX3_setHeights, bX3_setHeights, 6, none, 3, 2),
  (yX3_hasEnded, bX3_hasEnded, 1, (some .boolean), 3, 0),
  (yX3_startsOn, bX3_startsOn, 6, (some .int), 3, 1),
  (yX3_hasBit, bX3_hasBit, 2, (some .boolean), 3, 2),
  (yX3_keepIfBetter, bX3_keepIfBetter, 3, none, 3, 0),
  (yX4_init, bX4_init, 4, none, 4, 3),
  (yX4_cells, bX4_cells, 1, (some .int), 4, 0),
  (yX5_init, bX5_init, 4, none, 5, 3),
  (yX5_piece, bX5_piece, 5, (some .int), 5, 4),
  (yX5_turn, bX5_turn, 5, (some .int), 5, 2),
  (yX5_limit, bX5_limit, 4, (some .int), 5, 2),
  (yX5_order, bX5_order, 5, (some .int), 5, 2),
  (yX5_large, bX5_large, 3, (some .int), 5, 1),
  (yX5_pack, bX5_pack, 2, (some .int), 5, 1),
  (yX5_exact, bX5_exact, 1, (some .boolean), 5, 0),
  (yX5_steps, bX5_steps, 2, (some .int), 5, 1),
  (yX5_at, bX5_at, 4, (some .int), 5, 2),
  (yX5_overlap, bX5_overlap, 5, (some .boolean), 5, 2),
  (yX5_above, bX5_above, 3, (some .int), 5, 2),
  (yX5_free, bX5_free, 1, (some .int), 5, 0),
  (yX5_bound, bX5_bound, 4, (some .int), 5, 0),
  (yX5_axle, bX5_axle, 11, (some .long), 5, 2),
  (yX5_unload, bX5_unload, 5, (some .int), 5, 1),
  (yX5_pieceOf, bX5_pieceOf, 2, (some (.object "LoadSpace$Piece")), 5, 1),
  (yX5_isWithin, bX5_isWithin, 3, (some .boolean), 5, 3),
  (yX5_isLength, bX5_isLength, 1, (some .boolean), 5, 1),
  (yX5_nearestLength, bX5_nearestLength, 1, (some .int), 5, 1),
  (yX5_greatestDivisor, bX5_greatestDivisor, 11, (some .long), 5, 2),
  (yX6_init, bX6_init, 4, none, 6, 3),
  (yX6_near, bX6_near, 1, (some .int), 6, 1),
  (yX6_within, bX6_within, 3, (some .boolean), 6, 3),
  (yX6_isPiece, bX6_isPiece, 2, (some .boolean), 6, 1),
  (yX6_piece, bX6_piece, 5, (some .int), 6, 4),
  (yX6_turn, bX6_turn, 4, (some .int), 6, 2),
  (yX6_limit, bX6_limit, 3, (some .int), 6, 2),
  (yX6_order, bX6_order, 4, (some .int), 6, 2),
  (yX6_measure, bX6_measure, 7, (some .int), 6, 3),
  (yX6_turnsOf, bX6_turnsOf, 1, (some .int), 6, 1),
  (yX6_isLarge, bX6_isLarge, 4, (some .boolean), 6, 1),
  (yX6_large, bX6_large, 2, (some .int), 6, 1),
  (yX6_common, bX6_common, 6, (some .int), 6, 4),
  (yX6_isAbove, bX6_isAbove, 3, (some .boolean), 6, 2),
  (yX6_isBefore, bX6_isBefore, 3, (some .boolean), 6, 2),
  (yX6_fits, bX6_fits, 7, (some .boolean), 6, 1),
  (yX6_areBorne, bX6_areBorne, 7, (some .boolean), 6, 1),
  (yX6_enter, bX6_enter, 6, (some .int), 6, 4),
  (yX6_begin, bX6_begin, 6, none, 6, 1),
  (yX6_setBox, bX6_setBox, 4, none, 6, 2),
  (yX6_judge, bX6_judge, 5, none, 6, 0),
  (yX6_pack, bX6_pack, 7, (some .int), 6, 1),
  (yX6_exact, bX6_exact, 1, (some .boolean), 6, 0),
  (yX6_steps, bX6_steps, 2, (some .int), 6, 1),
  (yX6_at, bX6_at, 4, (some .int), 6, 2),
  (yX6_overlap, bX6_overlap, 5, (some .boolean), 6, 2),
  (yX6_above, bX6_above, 6, (some .int), 6, 2),
  (yX6_free, bX6_free, 3, (some .int), 6, 0),
  (yX6_bound, bX6_bound, 3, (some .int), 6, 0),
  (yX6_greatest, bX6_greatest, 10, (some .long), 6, 2),
  (yX6_thrown, bX6_thrown, 1, (some .int), 6, 0),
  (yX6_axle, bX6_axle, 11, (some .long), 6, 2),
  (yX6_isClear, bX6_isClear, 7, (some .boolean), 6, 1),
  (yX6_unload, bX6_unload, 5, (some .int), 6, 1)]
def zi0 : List (List (Option (Instr × Nat))) := [
  [some (.aload_n 0, 1), some (.invokespecial 3, 3), none, none, some (.aload_n 0, 1), some (.bipush 6, 2), none, some (.anewarray 9, 3)],
  [none, none, some (.putfield 11, 3), none, none, some (.iconst 0, 1), some (.istore_n 1, 1), some (.iload_n 1, 1)],
  [some (.aload_n 0, 1), some (.getfield 11, 3), none, none, some (.arraylength, 1), some (.if_icmp .ge 22, 3), none, none],
  [some (.aload_n 0, 1), some (.getfield 11, 3), none, none, some (.iload_n 1, 1), some (.new 9, 3), none, none],
  [some (.dup, 1), some (.invokespecial 17, 3), none, none, some (.aastore, 1), some (.iinc 1 1, 3), none, none],
  [some (.goto (-25), 3), none, none, some (.return_, 1), none, none, none, none]]
def zi1 : List (List (Option (Instr × Nat))) := [
  [some (.iconst 0, 1), some (.istore_n 1, 1), some (.iload_n 1, 1), some (.aload_n 0, 1), some (.getfield 11, 3), none, none, some (.arraylength, 1)],
  [some (.if_icmp .ge 19, 3), none, none, some (.aload_n 0, 1), some (.getfield 11, 3), none, none, some (.iload_n 1, 1)],
  [some (.aaload, 1), some (.iconst 0, 1), some (.putfield 18, 3), none, none, some (.iinc 1 1, 3), none, none],
  [some (.goto (-22), 3), none, none, some (.return_, 1), none, none, none, none]]
def zi2 : List (List (Option (Instr × Nat))) := [
  [some (.iconst 0, 1), some (.istore_n 2, 1), some (.iload_n 2, 1), some (.aload_n 0, 1), some (.getfield 11, 3), none, none, some (.arraylength, 1)],
  [some (.if_icmp .ge 33, 3), none, none, some (.iload_n 2, 1), some (.aload_n 1, 1), some (.getfield 11, 3), none, none],
  [some (.arraylength, 1), some (.if_icmp .ge 24, 3), none, none, some (.aload_n 0, 1), some (.getfield 11, 3), none, none],
  [some (.iload_n 2, 1), some (.aaload, 1), some (.aload_n 1, 1), some (.getfield 11, 3), none, none, some (.iload_n 2, 1), some (.aaload, 1)],
  [some (.invokevirtual 22, 3), none, none, some (.iinc 2 1, 3), none, none, some (.goto (-36), 3), none],
  [none, some (.return_, 1), none, none, none, none, none, none]]
def zi3 : List (List (Option (Instr × Nat))) := [
  [some (.iload_n 1, 1), some (.iconst 1, 1), some (.if_icmp .lt 26, 3), none, none, some (.iload_n 1, 1), some (.aload_n 0, 1), some (.getfield 11, 3)],
  [none, none, some (.arraylength, 1), some (.if_icmp .gt 17, 3), none, none, some (.aload_n 0, 1), some (.getfield 11, 3)],
  [none, none, some (.iload_n 1, 1), some (.iconst 1, 1), some (.isub, 1), some (.aaload, 1), some (.getfield 18, 3), none],
  [none, some (.ifCond .ne 5, 3), none, none, some (.aconst_null, 1), some (.areturn, 1), some (.aload_n 0, 1), some (.getfield 11, 3)],
  [none, none, some (.iload_n 1, 1), some (.iconst 1, 1), some (.isub, 1), some (.aaload, 1), some (.areturn, 1), none]]
def zi4 : List (List (Option (Instr × Nat))) := [
  [some (.iconst 0, 1), some (.istore_n 1, 1), some (.iconst 0, 1), some (.istore_n 2, 1), some (.iload_n 2, 1), some (.aload_n 0, 1), some (.getfield 11, 3), none],
  [none, some (.arraylength, 1), some (.if_icmp .ge 37, 3), none, none, some (.iload_n 1, 1), some (.aload_n 0, 1), some (.getfield 11, 3)],
  [none, none, some (.iload_n 2, 1), some (.aaload, 1), some (.getfield 18, 3), none, none, some (.ifCond .eq 15, 3)],
  [none, none, some (.aload_n 0, 1), some (.getfield 11, 3), none, none, some (.iload_n 2, 1), some (.aaload, 1)],
  [some (.invokevirtual 26, 3), none, none, some (.goto 4, 3), none, none, some (.iconst 0, 1), some (.iadd, 1)],
  [some (.istore_n 1, 1), some (.iinc 2 1, 3), none, none, some (.goto (-40), 3), none, none, some (.iload_n 1, 1)],
  [some (.ireturn, 1), none, none, none, none, none, none, none]]
def zi5 : List (List (Option (Instr × Nat))) := [
  [some (.iconst 0, 1), some (.istore_n 1, 1), some (.iconst 0, 1), some (.istore_n 2, 1), some (.iload_n 2, 1), some (.aload_n 0, 1), some (.getfield 11, 3), none],
  [none, some (.arraylength, 1), some (.if_icmp .ge 37, 3), none, none, some (.iload_n 1, 1), some (.aload_n 0, 1), some (.getfield 11, 3)],
  [none, none, some (.iload_n 2, 1), some (.aaload, 1), some (.getfield 18, 3), none, none, some (.ifCond .eq 15, 3)],
  [none, none, some (.aload_n 0, 1), some (.getfield 11, 3), none, none, some (.iload_n 2, 1), some (.aaload, 1)],
  [some (.getfield 30, 3), none, none, some (.goto 4, 3), none, none, some (.iconst 0, 1), some (.iadd, 1)],
  [some (.istore_n 1, 1), some (.iinc 2 1, 3), none, none, some (.goto (-40), 3), none, none, some (.iload_n 1, 1)],
  [some (.ireturn, 1), none, none, none, none, none, none, none]]
def zi6 : List (List (Option (Instr × Nat))) := [
  [some (.iconst 0, 1), some (.istore_n 1, 1), some (.iconst 0, 1), some (.istore_n 2, 1), some (.iload_n 2, 1), some (.aload_n 0, 1), some (.getfield 11, 3), none],
  [none, some (.arraylength, 1), some (.if_icmp .ge 47, 3), none, none, some (.iload_n 1, 1), some (.aload_n 0, 1), some (.getfield 11, 3)],
  [none, none, some (.iload_n 2, 1), some (.aaload, 1), some (.getfield 18, 3), none, none, some (.ifCond .eq 25, 3)],
  [none, none, some (.aload_n 0, 1), some (.getfield 11, 3), none, none, some (.iload_n 2, 1), some (.aaload, 1)],
  [some (.getfield 30, 3), none, none, some (.aload_n 0, 1), some (.getfield 11, 3), none, none, some (.iload_n 2, 1)],
  [some (.aaload, 1), some (.getfield 34, 3), none, none, some (.imul, 1), some (.goto 4, 3), none, none],
  [some (.iconst 0, 1), some (.iadd, 1), some (.istore_n 1, 1), some (.iinc 2 1, 3), none, none, some (.goto (-50), 3), none],
  [none, some (.iload_n 1, 1), some (.ireturn, 1), none, none, none, none, none]]
def zi7 : List (List (Option (Instr × Nat))) := [
  [some (.iconst 0, 1), some (.istore_n 1, 1), some (.iconst 0, 1), some (.istore_n 2, 1), some (.iload_n 2, 1), some (.aload_n 0, 1), some (.getfield 11, 3), none],
  [none, some (.arraylength, 1), some (.if_icmp .ge 46, 3), none, none, some (.aload_n 0, 1), some (.getfield 11, 3), none],
  [none, some (.iload_n 2, 1), some (.aaload, 1), some (.astore_n 3, 1), some (.iload_n 1, 1), some (.aload_n 3, 1), some (.getfield 18, 3), none],
  [none, some (.ifCond .eq 22, 3), none, none, some (.aload_n 3, 1), some (.getfield 30, 3), none, none],
  [some (.iconst 2, 1), some (.aload_n 3, 1), some (.getfield 37, 3), none, none, some (.imul, 1), some (.aload_n 3, 1), some (.getfield 40, 3)],
  [none, none, some (.iadd, 1), some (.imul, 1), some (.goto 4, 3), none, none, some (.iconst 0, 1)],
  [some (.iadd, 1), some (.istore_n 1, 1), some (.iinc 2 1, 3), none, none, some (.goto (-49), 3), none, none],
  [some (.iload_n 1, 1), some (.ireturn, 1), none, none, none, none, none, none]]
def zi8 : List (List (Option (Instr × Nat))) := [
  [some (.iconst 0, 1), some (.istore_n 3, 1), some (.iconst (-1), 1), some (.istore 4, 2), none, some (.iconst 0, 1), some (.istore 5, 2), none],
  [some (.iload 5, 2), none, some (.aload_n 0, 1), some (.getfield 11, 3), none, none, some (.arraylength, 1), some (.if_icmp .ge 58, 3)],
  [none, none, some (.aload_n 0, 1), some (.getfield 11, 3), none, none, some (.iload 5, 2), none],
  [some (.aaload, 1), some (.astore 6, 2), none, some (.aload 6, 2), none, some (.getfield 18, 3), none, none],
  [some (.ifCond .eq 35, 3), none, none, some (.aload 6, 2), none, some (.iload_n 1, 1), some (.iload_n 2, 1), some (.invokevirtual 43, 3)],
  [none, none, some (.ifCond .eq 25, 3), none, none, some (.aload 6, 2), none, some (.getfield 34, 3)],
  [none, none, some (.iload 4, 2), none, some (.if_icmp .le 15, 3), none, none, some (.aload 6, 2)],
  [none, some (.getfield 34, 3), none, none, some (.istore 4, 2), none, some (.iload 5, 2), none],
  [some (.iconst 1, 1), some (.iadd, 1), some (.istore_n 3, 1), some (.iinc 5 1, 3), none, none, some (.goto (-62), 3), none],
  [none, some (.iload_n 3, 1), some (.ireturn, 1), none, none, none, none, none]]
def zi9 : List (List (Option (Instr × Nat))) := [
  [some (.iconst 0, 1), some (.istore_n 2, 1), some (.iload_n 2, 1), some (.aload_n 0, 1), some (.getfield 11, 3), none, none, some (.arraylength, 1)],
  [some (.if_icmp .ge 58, 3), none, none, some (.aload_n 0, 1), some (.getfield 11, 3), none, none, some (.iload_n 2, 1)],
  [some (.aaload, 1), some (.astore_n 3, 1), some (.aload_n 3, 1), some (.getfield 18, 3), none, none, some (.ifCond .eq 38, 3), none],
  [none, some (.aload_n 3, 1), some (.getfield 47, 3), none, none, some (.iconst (-1), 1), some (.if_icmp .eq 30, 3), none],
  [none, some (.aload_n 3, 1), some (.aload_n 1, 1), some (.invokevirtual 50, 3), none, none, some (.ifCond .eq 22, 3), none],
  [none, some (.aload_n 0, 1), some (.aload_n 3, 1), some (.invokevirtual 54, 3), none, none, some (.aload_n 1, 1), some (.getfield 30, 3)],
  [none, none, some (.iadd, 1), some (.aload_n 3, 1), some (.getfield 47, 3), none, none, some (.if_icmp .le 5, 3)],
  [none, none, some (.iconst 0, 1), some (.ireturn, 1), some (.iinc 2 1, 3), none, none, some (.goto (-61), 3)],
  [none, none, some (.iconst 1, 1), some (.ireturn, 1), none, none, none, none]]
def zi10 : List (List (Option (Instr × Nat))) := [
  [some (.iconst 0, 1), some (.istore_n 2, 1), some (.iconst 0, 1), some (.istore_n 3, 1), some (.iload_n 3, 1), some (.aload_n 0, 1), some (.getfield 11, 3), none],
  [none, some (.arraylength, 1), some (.if_icmp .ge 50, 3), none, none, some (.iload_n 2, 1), some (.aload_n 0, 1), some (.getfield 11, 3)],
  [none, none, some (.iload_n 3, 1), some (.aaload, 1), some (.getfield 18, 3), none, none, some (.ifCond .eq 28, 3)],
  [none, none, some (.aload_n 1, 1), some (.aload_n 0, 1), some (.getfield 11, 3), none, none, some (.iload_n 3, 1)],
  [some (.aaload, 1), some (.invokevirtual 50, 3), none, none, some (.ifCond .eq 15, 3), none, none, some (.aload_n 0, 1)],
  [some (.getfield 11, 3), none, none, some (.iload_n 3, 1), some (.aaload, 1), some (.getfield 30, 3), none, none],
  [some (.goto 4, 3), none, none, some (.iconst 0, 1), some (.iadd, 1), some (.istore_n 2, 1), some (.iinc 3 1, 3), none],
  [none, some (.goto (-53), 3), none, none, some (.iload_n 2, 1), some (.ireturn, 1), none, none]]
def zi11 : List (List (Option (Instr × Nat))) := [
  [some (.iconst 0, 1), some (.istore_n 2, 1), some (.iload_n 2, 1), some (.aload_n 0, 1), some (.getfield 11, 3), none, none, some (.arraylength, 1)],
  [some (.if_icmp .ge 63, 3), none, none, some (.aload_n 0, 1), some (.getfield 11, 3), none, none, some (.iload_n 2, 1)],
  [some (.aaload, 1), some (.astore_n 3, 1), some (.aload_n 3, 1), some (.getfield 18, 3), none, none, some (.ifCond .eq 43, 3), none],
  [none, some (.aload_n 3, 1), some (.getfield 58, 3), none, none, some (.aload_n 1, 1), some (.getfield 58, 3), none],
  [none, some (.if_icmp .ge 11, 3), none, none, some (.aload_n 3, 1), some (.aload_n 1, 1), some (.invokevirtual 61, 3), none],
  [none, some (.ifCond .ne 22, 3), none, none, some (.aload_n 1, 1), some (.getfield 58, 3), none, none],
  [some (.aload_n 3, 1), some (.getfield 58, 3), none, none, some (.if_icmp .ge 13, 3), none, none, some (.aload_n 1, 1)],
  [some (.aload_n 3, 1), some (.invokevirtual 61, 3), none, none, some (.ifCond .eq 5, 3), none, none, some (.iconst 0, 1)],
  [some (.ireturn, 1), some (.iinc 2 1, 3), none, none, some (.goto (-66), 3), none, none, some (.iconst 1, 1)],
  [some (.ireturn, 1), none, none, none, none, none, none, none]]
def zi12 : List (List (Option (Instr × Nat))) := [
  [some (.iconst 0, 1), some (.istore_n 2, 1), some (.iconst 0, 1), some (.istore_n 3, 1), some (.iload_n 3, 1), some (.aload_n 0, 1), some (.getfield 11, 3), none],
  [none, some (.arraylength, 1), some (.if_icmp .ge 52, 3), none, none, some (.aload_n 0, 1), some (.getfield 11, 3), none],
  [none, some (.iload_n 3, 1), some (.aaload, 1), some (.astore 4, 2), none, some (.aload 4, 2), none, some (.getfield 18, 3)],
  [none, none, some (.ifCond .eq 30, 3), none, none, some (.aload 4, 2), none, some (.getfield 58, 3)],
  [none, none, some (.iload_n 1, 1), some (.if_icmp .ne 21, 3), none, none, some (.aload_n 0, 1), some (.aload 4, 2)],
  [none, some (.invokevirtual 64, 3), none, none, some (.ifCond .eq 12, 3), none, none, some (.aload 4, 2)],
  [none, some (.iconst 0, 1), some (.putfield 18, 3), none, none, some (.iinc 2 1, 3), none, none],
  [some (.iinc 3 1, 3), none, none, some (.goto (-55), 3), none, none, some (.iload_n 2, 1), some (.ireturn, 1)]]
def zi13 : List (List (Option (Instr × Nat))) := [
  [some (.iconst 0, 1), some (.istore_n 2, 1), some (.iload_n 2, 1), some (.aload_n 0, 1), some (.getfield 11, 3), none, none, some (.arraylength, 1)],
  [some (.if_icmp .ge 41, 3), none, none, some (.aload_n 0, 1), some (.getfield 11, 3), none, none, some (.iload_n 2, 1)],
  [some (.aaload, 1), some (.astore_n 3, 1), some (.aload_n 3, 1), some (.getfield 18, 3), none, none, some (.ifCond .eq 21, 3), none],
  [none, some (.aload_n 1, 1), some (.aload_n 3, 1), some (.invokevirtual 50, 3), none, none, some (.ifCond .ne 11, 3), none],
  [none, some (.aload_n 1, 1), some (.aload_n 3, 1), some (.invokevirtual 61, 3), none, none, some (.ifCond .eq 5, 3), none],
  [none, some (.iconst 0, 1), some (.ireturn, 1), some (.iinc 2 1, 3), none, none, some (.goto (-44), 3), none],
  [none, some (.iconst 1, 1), some (.ireturn, 1), none, none, none, none, none]]
def zi14 : List (List (Option (Instr × Nat))) := [
  [some (.aload_n 0, 1), some (.invokespecial 3, 3), none, none, some (.aload_n 0, 1), some (.iload_n 1, 1), some (.putfield 9, 3), none],
  [none, some (.aload_n 0, 1), some (.iload_n 2, 1), some (.putfield 15, 3), none, none, some (.aload_n 0, 1), some (.iload_n 3, 1)],
  [some (.putfield 18, 3), none, none, some (.aload_n 0, 1), some (.iload 4, 2), none, some (.putfield 21, 3), none],
  [none, some (.aload_n 0, 1), some (.iconst (-1), 1), some (.putfield 24, 3), none, none, some (.aload_n 0, 1), some (.iconst 1, 1)],
  [some (.putfield 27, 3), none, none, some (.return_, 1), none, none, none, none]]
def zi15 : List (List (Option (Instr × Nat))) := [
  [some (.aload_n 0, 1), some (.iload_n 1, 1), some (.putfield 30, 3), none, none, some (.iload_n 1, 1), some (.ifCond .ne 7, 3), none],
  [none, some (.iconst 1, 1), some (.goto 14, 3), none, none, some (.iload_n 1, 1), some (.iconst 1, 1), some (.if_icmp .ne 7, 3)],
  [none, none, some (.iconst 2, 1), some (.goto 5, 3), none, none, some (.bipush 6, 2), none],
  [some (.istore_n 2, 1), some (.aload_n 0, 1), some (.iconst 0, 1), some (.putfield 27, 3), none, none, some (.iconst 0, 1), some (.istore_n 3, 1)],
  [some (.iload_n 3, 1), some (.iload_n 2, 1), some (.if_icmp .ge 29, 3), none, none, some (.aload_n 0, 1), some (.iload_n 3, 1), some (.invokevirtual 33, 3)],
  [none, none, some (.ifCond .ne 15, 3), none, none, some (.aload_n 0, 1), some (.dup, 1), some (.getfield 27, 3)],
  [none, none, some (.iconst 1, 1), some (.iload_n 3, 1), some (.ishl, 1), some (.ior, 1), some (.putfield 27, 3), none],
  [none, some (.iinc 3 1, 3), none, none, some (.goto (-28), 3), none, none, some (.return_, 1)]]
def zi16 : List (List (Option (Instr × Nat))) := [
  [some (.aload_n 0, 1), some (.getfield 27, 3), none, none, some (.iload_n 1, 1), some (.ishr, 1), some (.iconst 1, 1), some (.iand, 1)],
  [some (.ifCond .eq 7, 3), none, none, some (.iconst 1, 1), some (.goto 4, 3), none, none, some (.iconst 0, 1)],
  [some (.ireturn, 1), none, none, none, none, none, none, none]]
def zi17 : List (List (Option (Instr × Nat))) := [
  [some (.iload_n 1, 1), some (.tableswitch 45 1 5 #[35, 45, 40, 35, 40], 35), none, none, none, none, none, none],
  [none, none, none, none, none, none, none, none],
  [none, none, none, none, none, none, none, none],
  [none, none, none, none, none, none, none, none],
  [none, none, none, none, some (.aload_n 0, 1), some (.getfield 18, 3), none, none],
  [some (.ireturn, 1), some (.aload_n 0, 1), some (.getfield 15, 3), none, none, some (.ireturn, 1), some (.aload_n 0, 1), some (.getfield 9, 3)],
  [none, none, some (.ireturn, 1), none, none, none, none, none]]
def zi18 : List (List (Option (Instr × Nat))) := [
  [some (.iload_n 1, 1), some (.tableswitch 41 2 5 #[31, 31, 36, 36], 31), none, none, none, none, none, none],
  [none, none, none, none, none, none, none, none],
  [none, none, none, none, none, none, none, none],
  [none, none, none, none, none, none, none, none],
  [some (.aload_n 0, 1), some (.getfield 18, 3), none, none, some (.ireturn, 1), some (.aload_n 0, 1), some (.getfield 9, 3), none],
  [none, some (.ireturn, 1), some (.aload_n 0, 1), some (.getfield 15, 3), none, none, some (.ireturn, 1), none]]
def zi19 : List (List (Option (Instr × Nat))) := [
  [some (.iload_n 1, 1), some (.tableswitch 41 1 4 #[31, 36, 31, 36], 31), none, none, none, none, none, none],
  [none, none, none, none, none, none, none, none],
  [none, none, none, none, none, none, none, none],
  [none, none, none, none, none, none, none, none],
  [some (.aload_n 0, 1), some (.getfield 9, 3), none, none, some (.ireturn, 1), some (.aload_n 0, 1), some (.getfield 15, 3), none],
  [none, some (.ireturn, 1), some (.aload_n 0, 1), some (.getfield 18, 3), none, none, some (.ireturn, 1), none]]
def zi20 : List (List (Option (Instr × Nat))) := [
  [some (.iconst 0, 1), some (.istore_n 2, 1), some (.iload_n 2, 1), some (.bipush 6, 2), none, some (.if_icmp .ge 55, 3), none, none],
  [some (.aload_n 0, 1), some (.iload_n 2, 1), some (.invokevirtual 37, 3), none, none, some (.ifCond .eq 41, 3), none, none],
  [some (.aload_n 0, 1), some (.iload_n 2, 1), some (.invokevirtual 40, 3), none, none, some (.aload_n 1, 1), some (.getfield 44, 3), none],
  [none, some (.if_icmp .gt 29, 3), none, none, some (.aload_n 0, 1), some (.iload_n 2, 1), some (.invokevirtual 47, 3), none],
  [none, some (.aload_n 1, 1), some (.getfield 50, 3), none, none, some (.if_icmp .gt 17, 3), none, none],
  [some (.aload_n 0, 1), some (.iload_n 2, 1), some (.invokevirtual 51, 3), none, none, some (.aload_n 1, 1), some (.getfield 54, 3), none],
  [none, some (.if_icmp .gt 5, 3), none, none, some (.iconst 0, 1), some (.ireturn, 1), some (.iinc 2 1, 3), none],
  [none, some (.goto (-55), 3), none, none, some (.iconst 1, 1), some (.ireturn, 1), none, none]]
def zi21 : List (List (Option (Instr × Nat))) := [
  [some (.aload_n 0, 1), some (.getfield 9, 3), none, none, some (.aload_n 0, 1), some (.getfield 15, 3), none, none],
  [some (.imul, 1), some (.aload_n 0, 1), some (.getfield 18, 3), none, none, some (.imul, 1), some (.ireturn, 1), none]]
def zi22 : List (List (Option (Instr × Nat))) := [
  [some (.iconst 0, 1), some (.istore_n 2, 1), some (.iload_n 2, 1), some (.iload_n 1, 1), some (.if_icmp .ge 50, 3), none, none, some (.aload_n 0, 1)],
  [some (.iload_n 2, 1), some (.invokevirtual 40, 3), none, none, some (.aload_n 0, 1), some (.iload_n 1, 1), some (.invokevirtual 40, 3), none],
  [none, some (.if_icmp .ne 31, 3), none, none, some (.aload_n 0, 1), some (.iload_n 2, 1), some (.invokevirtual 47, 3), none],
  [none, some (.aload_n 0, 1), some (.iload_n 1, 1), some (.invokevirtual 47, 3), none, none, some (.if_icmp .ne 18, 3), none],
  [none, some (.aload_n 0, 1), some (.iload_n 2, 1), some (.invokevirtual 51, 3), none, none, some (.aload_n 0, 1), some (.iload_n 1, 1)],
  [some (.invokevirtual 51, 3), none, none, some (.if_icmp .ne 5, 3), none, none, some (.iconst 1, 1), some (.ireturn, 1)],
  [some (.iinc 2 1, 3), none, none, some (.goto (-49), 3), none, none, some (.iconst 0, 1), some (.ireturn, 1)]]
def zi23 : List (List (Option (Instr × Nat))) := [
  [some (.aload_n 0, 1), some (.invokespecial 1, 3), none, none, some (.return_, 1), none, none, none]]
def zi24 : List (List (Option (Instr × Nat))) := [
  [some (.aload_n 0, 1), some (.iconst 0, 1), some (.putfield 7, 3), none, none, some (.aload_n 0, 1), some (.aload_n 1, 1), some (.getfield 13, 3)],
  [none, none, some (.putfield 19, 3), none, none, some (.aload_n 0, 1), some (.aload_n 1, 1), some (.getfield 20, 3)],
  [none, none, some (.putfield 23, 3), none, none, some (.aload_n 0, 1), some (.aload_n 1, 1), some (.getfield 24, 3)],
  [none, none, some (.putfield 27, 3), none, none, some (.return_, 1), none, none]]
def zi25 : List (List (Option (Instr × Nat))) := [
  [some (.aload_n 0, 1), some (.iload_n 2, 1), some (.putfield 28, 3), none, none, some (.aload_n 0, 1), some (.aload_n 1, 1), some (.iload_n 2, 1)],
  [some (.invokevirtual 31, 3), none, none, some (.putfield 35, 3), none, none, some (.aload_n 0, 1), some (.aload_n 1, 1)],
  [some (.iload_n 2, 1), some (.invokevirtual 38, 3), none, none, some (.putfield 41, 3), none, none, some (.aload_n 0, 1)],
  [some (.aload_n 1, 1), some (.iload_n 2, 1), some (.invokevirtual 44, 3), none, none, some (.putfield 47, 3), none, none],
  [some (.return_, 1), none, none, none, none, none, none, none]]
def zi26 : List (List (Option (Instr × Nat))) := [
  [some (.aload_n 0, 1), some (.iload_n 1, 1), some (.putfield 50, 3), none, none, some (.aload_n 0, 1), some (.iload_n 2, 1), some (.putfield 53, 3)],
  [none, none, some (.aload_n 0, 1), some (.iload_n 3, 1), some (.putfield 56, 3), none, none, some (.return_, 1)]]
def zi27 : List (List (Option (Instr × Nat))) := [
  [some (.aload_n 0, 1), some (.aload_n 1, 1), some (.getfield 7, 3), none, none, some (.putfield 7, 3), none, none],
  [some (.aload_n 0, 1), some (.aload_n 1, 1), some (.getfield 19, 3), none, none, some (.putfield 19, 3), none, none],
  [some (.aload_n 0, 1), some (.aload_n 1, 1), some (.getfield 23, 3), none, none, some (.putfield 23, 3), none, none],
  [some (.aload_n 0, 1), some (.aload_n 1, 1), some (.getfield 27, 3), none, none, some (.putfield 27, 3), none, none],
  [some (.aload_n 0, 1), some (.aload_n 1, 1), some (.getfield 28, 3), none, none, some (.putfield 28, 3), none, none],
  [some (.aload_n 0, 1), some (.aload_n 1, 1), some (.getfield 35, 3), none, none, some (.putfield 35, 3), none, none],
  [some (.aload_n 0, 1), some (.aload_n 1, 1), some (.getfield 41, 3), none, none, some (.putfield 41, 3), none, none],
  [some (.aload_n 0, 1), some (.aload_n 1, 1), some (.getfield 47, 3), none, none, some (.putfield 47, 3), none, none],
  [some (.aload_n 0, 1), some (.aload_n 1, 1), some (.getfield 50, 3), none, none, some (.aload_n 1, 1), some (.getfield 53, 3), none],
  [none, some (.aload_n 1, 1), some (.getfield 56, 3), none, none, some (.invokevirtual 59, 3), none, none],
  [some (.return_, 1), none, none, none, none, none, none, none]]
def zi28 : List (List (Option (Instr × Nat))) := [
  [some (.iload_n 1, 1), some (.tableswitch 42 0 2 #[27, 32, 37], 27), none, none, none, none, none, none],
  [none, none, none, none, none, none, none, none],
  [none, none, none, none, none, none, none, none],
  [none, none, none, none, some (.aload_n 0, 1), some (.getfield 50, 3), none, none],
  [some (.ireturn, 1), some (.aload_n 0, 1), some (.getfield 53, 3), none, none, some (.ireturn, 1), some (.aload_n 0, 1), some (.getfield 56, 3)],
  [none, none, some (.ireturn, 1), some (.aload_n 0, 1), some (.getfield 28, 3), none, none, some (.ireturn, 1)]]
def zi29 : List (List (Option (Instr × Nat))) := [
  [some (.aload_n 0, 1), some (.getfield 35, 3), none, none, some (.aload_n 0, 1), some (.getfield 41, 3), none, none],
  [some (.imul, 1), some (.aload_n 0, 1), some (.getfield 47, 3), none, none, some (.imul, 1), some (.ireturn, 1), none]]
def zi30 : List (List (Option (Instr × Nat))) := [
  [some (.aload_n 0, 1), some (.getfield 50, 3), none, none, some (.aload_n 1, 1), some (.getfield 50, 3), none, none],
  [some (.aload_n 1, 1), some (.getfield 35, 3), none, none, some (.iadd, 1), some (.if_icmp .ge 87, 3), none, none],
  [some (.aload_n 1, 1), some (.getfield 50, 3), none, none, some (.aload_n 0, 1), some (.getfield 50, 3), none, none],
  [some (.aload_n 0, 1), some (.getfield 35, 3), none, none, some (.iadd, 1), some (.if_icmp .ge 71, 3), none, none],
  [some (.aload_n 0, 1), some (.getfield 53, 3), none, none, some (.aload_n 1, 1), some (.getfield 53, 3), none, none],
  [some (.aload_n 1, 1), some (.getfield 41, 3), none, none, some (.iadd, 1), some (.if_icmp .ge 55, 3), none, none],
  [some (.aload_n 1, 1), some (.getfield 53, 3), none, none, some (.aload_n 0, 1), some (.getfield 53, 3), none, none],
  [some (.aload_n 0, 1), some (.getfield 41, 3), none, none, some (.iadd, 1), some (.if_icmp .ge 39, 3), none, none],
  [some (.aload_n 0, 1), some (.getfield 56, 3), none, none, some (.aload_n 1, 1), some (.getfield 56, 3), none, none],
  [some (.aload_n 1, 1), some (.getfield 47, 3), none, none, some (.iadd, 1), some (.if_icmp .ge 23, 3), none, none],
  [some (.aload_n 1, 1), some (.getfield 56, 3), none, none, some (.aload_n 0, 1), some (.getfield 56, 3), none, none],
  [some (.aload_n 0, 1), some (.getfield 47, 3), none, none, some (.iadd, 1), some (.if_icmp .ge 7, 3), none, none],
  [some (.iconst 1, 1), some (.goto 4, 3), none, none, some (.iconst 0, 1), some (.ireturn, 1), none, none]]
def zi31 : List (List (Option (Instr × Nat))) := [
  [some (.aload_n 1, 1), some (.getfield 53, 3), none, none, some (.aload_n 0, 1), some (.getfield 53, 3), none, none],
  [some (.aload_n 0, 1), some (.getfield 41, 3), none, none, some (.iadd, 1), some (.if_icmp .lt 71, 3), none, none],
  [some (.aload_n 0, 1), some (.getfield 50, 3), none, none, some (.aload_n 1, 1), some (.getfield 50, 3), none, none],
  [some (.aload_n 1, 1), some (.getfield 35, 3), none, none, some (.iadd, 1), some (.if_icmp .ge 55, 3), none, none],
  [some (.aload_n 1, 1), some (.getfield 50, 3), none, none, some (.aload_n 0, 1), some (.getfield 50, 3), none, none],
  [some (.aload_n 0, 1), some (.getfield 35, 3), none, none, some (.iadd, 1), some (.if_icmp .ge 39, 3), none, none],
  [some (.aload_n 0, 1), some (.getfield 56, 3), none, none, some (.aload_n 1, 1), some (.getfield 56, 3), none, none],
  [some (.aload_n 1, 1), some (.getfield 47, 3), none, none, some (.iadd, 1), some (.if_icmp .ge 23, 3), none, none],
  [some (.aload_n 1, 1), some (.getfield 56, 3), none, none, some (.aload_n 0, 1), some (.getfield 56, 3), none, none],
  [some (.aload_n 0, 1), some (.getfield 47, 3), none, none, some (.iadd, 1), some (.if_icmp .ge 7, 3), none, none],
  [some (.iconst 1, 1), some (.goto 4, 3), none, none, some (.iconst 0, 1), some (.ireturn, 1), none, none]]
def zi32 : List (List (Option (Instr × Nat))) := [
  [some (.aload_n 1, 1), some (.getfield 56, 3), none, none, some (.aload_n 0, 1), some (.getfield 56, 3), none, none],
  [some (.aload_n 0, 1), some (.getfield 47, 3), none, none, some (.iadd, 1), some (.if_icmp .lt 71, 3), none, none],
  [some (.aload_n 0, 1), some (.getfield 50, 3), none, none, some (.aload_n 1, 1), some (.getfield 50, 3), none, none],
  [some (.aload_n 1, 1), some (.getfield 35, 3), none, none, some (.iadd, 1), some (.if_icmp .ge 55, 3), none, none],
  [some (.aload_n 1, 1), some (.getfield 50, 3), none, none, some (.aload_n 0, 1), some (.getfield 50, 3), none, none],
  [some (.aload_n 0, 1), some (.getfield 35, 3), none, none, some (.iadd, 1), some (.if_icmp .ge 39, 3), none, none],
  [some (.aload_n 0, 1), some (.getfield 53, 3), none, none, some (.aload_n 1, 1), some (.getfield 53, 3), none, none],
  [some (.aload_n 1, 1), some (.getfield 41, 3), none, none, some (.iadd, 1), some (.if_icmp .ge 23, 3), none, none],
  [some (.aload_n 1, 1), some (.getfield 53, 3), none, none, some (.aload_n 0, 1), some (.getfield 53, 3), none, none],
  [some (.aload_n 0, 1), some (.getfield 41, 3), none, none, some (.iadd, 1), some (.if_icmp .ge 7, 3), none, none],
  [some (.iconst 1, 1), some (.goto 4, 3), none, none, some (.iconst 0, 1), some (.ireturn, 1), none, none]]
def zi33 : List (List (Option (Instr × Nat))) := [
  [some (.aload_n 0, 1), some (.getfield 50, 3), none, none, some (.iload_n 1, 1), some (.if_icmp .gt 41, 3), none, none],
  [some (.iload_n 1, 1), some (.aload_n 0, 1), some (.getfield 50, 3), none, none, some (.aload_n 0, 1), some (.getfield 35, 3), none],
  [none, some (.iadd, 1), some (.if_icmp .ge 28, 3), none, none, some (.aload_n 0, 1), some (.getfield 56, 3), none],
  [none, some (.iload_n 2, 1), some (.if_icmp .gt 20, 3), none, none, some (.iload_n 2, 1), some (.aload_n 0, 1), some (.getfield 56, 3)],
  [none, none, some (.aload_n 0, 1), some (.getfield 47, 3), none, none, some (.iadd, 1), some (.if_icmp .ge 7, 3)],
  [none, none, some (.iconst 1, 1), some (.goto 4, 3), none, none, some (.iconst 0, 1), some (.ireturn, 1)]]
def zi34 : List (List (Option (Instr × Nat))) := [
  [some (.aload_n 0, 1), some (.invokespecial 3, 3), none, none, some (.aload_n 0, 1), some (.aload_n 1, 1), some (.putfield 9, 3), none],
  [none, some (.aload_n 0, 1), some (.aload_n 2, 1), some (.putfield 15, 3), none, none, some (.aload_n 0, 1), some (.aload_n 3, 1)],
  [some (.putfield 19, 3), none, none, some (.aload_n 0, 1), some (.new 23, 3), none, none, some (.dup, 1)],
  [some (.invokespecial 25, 3), none, none, some (.putfield 26, 3), none, none, some (.aload_n 0, 1), some (.sipush 144, 3)],
  [none, none, some (.newarray .int, 2), none, some (.putfield 29, 3), none, none, some (.return_, 1)]]
def zi35 : List (List (Option (Instr × Nat))) := [
  [some (.aload_n 0, 1), some (.iload_n 1, 1), some (.putfield 33, 3), none, none, some (.aload_n 0, 1), some (.iconst 0, 1), some (.putfield 37, 3)],
  [none, none, some (.aload_n 0, 1), some (.getfield 19, 3), none, none, some (.invokevirtual 40, 3), none],
  [none, some (.aload_n 0, 1), some (.iconst 0, 1), some (.putfield 43, 3), none, none, some (.aload_n 0, 1), some (.iconst 0, 1)],
  [some (.putfield 46, 3), none, none, some (.iconst 0, 1), some (.istore_n 2, 1), some (.iload_n 2, 1), some (.aload_n 0, 1), some (.getfield 15, 3)],
  [none, none, some (.arraylength, 1), some (.if_icmp .ge 48, 3), none, none, some (.iload_n 2, 1), some (.aload_n 0, 1)],
  [some (.getfield 26, 3), none, none, some (.getfield 49, 3), none, none, some (.arraylength, 1), some (.if_icmp .ge 36, 3)],
  [none, none, some (.aload_n 0, 1), some (.getfield 15, 3), none, none, some (.iload_n 2, 1), some (.aaload, 1)],
  [some (.ifnull 21, 3), none, none, some (.aload_n 0, 1), some (.getfield 26, 3), none, none, some (.getfield 49, 3)],
  [none, none, some (.iload_n 2, 1), some (.aaload, 1), some (.aload_n 0, 1), some (.getfield 15, 3), none, none],
  [some (.iload_n 2, 1), some (.aaload, 1), some (.invokevirtual 53, 3), none, none, some (.iinc 2 1, 3), none, none],
  [some (.goto (-51), 3), none, none, some (.return_, 1), none, none, none, none]]
def zi36 : List (List (Option (Instr × Nat))) := [
  [some (.iload_n 1, 1), some (.ifCond .lt 33, 3), none, none, some (.iload_n 1, 1), some (.aload_n 0, 1), some (.getfield 15, 3), none],
  [none, some (.arraylength, 1), some (.if_icmp .ge 24, 3), none, none, some (.iload_n 1, 1), some (.aload_n 0, 1), some (.getfield 26, 3)],
  [none, none, some (.getfield 49, 3), none, none, some (.arraylength, 1), some (.if_icmp .ge 12, 3), none],
  [none, some (.aload_n 0, 1), some (.getfield 15, 3), none, none, some (.iload_n 1, 1), some (.aaload, 1), some (.ifnonnull 8, 3)],
  [none, none, some (.aload_n 0, 1), some (.invokevirtual 59, 3), none, none, some (.return_, 1), some (.aload_n 0, 1)],
  [some (.getfield 15, 3), none, none, some (.iload_n 1, 1), some (.aaload, 1), some (.astore_n 2, 1), some (.aload_n 0, 1), some (.getfield 26, 3)],
  [none, none, some (.getfield 49, 3), none, none, some (.iload_n 1, 1), some (.aaload, 1), some (.astore_n 3, 1)],
  [some (.aload_n 0, 1), some (.iconst 0, 1), some (.invokevirtual 62, 3), none, none, some (.istore 4, 2), none, some (.aload_n 0, 1)],
  [some (.iconst 1, 1), some (.invokevirtual 62, 3), none, none, some (.istore 5, 2), none, some (.aload_n 0, 1), some (.iconst 2, 1)],
  [some (.invokevirtual 62, 3), none, none, some (.istore 6, 2), none, some (.iconst 0, 1), some (.istore 7, 2), none],
  [some (.iload 7, 2), none, some (.bipush 6, 2), none, some (.if_icmp .ge 44, 3), none, none, some (.aload_n 0, 1)],
  [some (.invokevirtual 66, 3), none, none, some (.ifCond .ne 37, 3), none, none, some (.aload_n 2, 1), some (.iload 7, 2)],
  [none, some (.invokevirtual 70, 3), none, none, some (.ifCond .eq 22, 3), none, none, some (.aload_n 3, 1)],
  [some (.aload_n 2, 1), some (.iload 7, 2), none, some (.invokevirtual 76, 3), none, none, some (.aload_n 0, 1), some (.iload_n 1, 1)],
  [some (.aload_n 3, 1), some (.iload 4, 2), none, some (.iload 5, 2), none, some (.iload 6, 2), none, some (.invokevirtual 80, 3)],
  [none, none, some (.iinc 7 1, 3), none, none, some (.goto (-45), 3), none, none],
  [some (.aload_n 0, 1), some (.invokevirtual 66, 3), none, none, some (.ifCond .ne 10, 3), none, none, some (.aload_n 0, 1)],
  [some (.iload_n 1, 1), some (.iconst 1, 1), some (.iadd, 1), some (.invokevirtual 84, 3), none, none, some (.return_, 1), none]]
def zi37 : List (List (Option (Instr × Nat))) := [
  [some (.aload_n 0, 1), some (.getfield 9, 3), none, none, some (.getfield 88, 3), none, none, some (.aload_n 2, 1)],
  [some (.getfield 93, 3), none, none, some (.isub, 1), some (.istore 6, 2), none, some (.aload_n 0, 1), some (.getfield 9, 3)],
  [none, none, some (.getfield 94, 3), none, none, some (.aload_n 2, 1), some (.getfield 97, 3), none],
  [none, some (.isub, 1), some (.istore 7, 2), none, some (.aload_n 0, 1), some (.getfield 9, 3), none, none],
  [some (.getfield 98, 3), none, none, some (.aload_n 2, 1), some (.getfield 101, 3), none, none, some (.isub, 1)],
  [some (.istore 8, 2), none, some (.iconst 0, 1), some (.istore 9, 2), none, some (.iload 9, 2), none, some (.iload 7, 2)],
  [none, some (.if_icmp .gt 73, 3), none, none, some (.iload 4, 2), none, some (.iload 9, 2), none],
  [some (.invokestatic 102, 3), none, none, some (.ifCond .ne 6, 3), none, none, some (.goto 54, 3), none],
  [none, some (.iconst 0, 1), some (.istore 10, 2), none, some (.iload 10, 2), none, some (.iload 8, 2), none],
  [some (.if_icmp .gt 44, 3), none, none, some (.aload_n 0, 1), some (.invokevirtual 66, 3), none, none, some (.ifCond .ne 37, 3)],
  [none, none, some (.iload 5, 2), none, some (.iload 10, 2), none, some (.invokestatic 102, 3), none],
  [none, some (.ifCond .eq 21, 3), none, none, some (.aload_n 2, 1), some (.iconst 0, 1), some (.iload 9, 2), none],
  [some (.iload 10, 2), none, some (.invokevirtual 106, 3), none, none, some (.aload_n 0, 1), some (.iload_n 1, 1), some (.aload_n 2, 1)],
  [some (.iload_n 3, 1), some (.iload 6, 2), none, some (.invokevirtual 110, 3), none, none, some (.iinc 10 1, 3), none],
  [none, some (.goto (-45), 3), none, none, some (.iinc 9 1, 3), none, none, some (.goto (-74), 3)],
  [none, none, some (.return_, 1), none, none, none, none, none]]
def zi38 : List (List (Option (Instr × Nat))) := [
  [some (.iconst 0, 1), some (.istore 5, 2), none, some (.iload 5, 2), none, some (.iload 4, 2), none, some (.if_icmp .gt 71, 3)],
  [none, none, some (.iload_n 3, 1), some (.iload 5, 2), none, some (.ishr, 1), some (.iconst 1, 1), some (.iand, 1)],
  [some (.ifCond .ne 6, 3), none, none, some (.goto 53, 3), none, none, some (.aload_n 2, 1), some (.iload 5, 2)],
  [none, some (.putfield 114, 3), none, none, some (.aload_n 0, 1), some (.aload_n 2, 1), some (.invokevirtual 117, 3), none],
  [none, some (.ifCond .eq 39, 3), none, none, some (.aload_n 0, 1), some (.getfield 26, 3), none, none],
  [some (.aload_n 2, 1), some (.invokevirtual 121, 3), none, none, some (.ifCond .eq 28, 3), none, none, some (.aload_n 0, 1)],
  [some (.getfield 26, 3), none, none, some (.aload_n 2, 1), some (.invokevirtual 124, 3), none, none, some (.ifCond .eq 17, 3)],
  [none, none, some (.aload_n 0, 1), some (.iload_n 1, 1), some (.aload_n 2, 1), some (.invokevirtual 127, 3), none, none],
  [some (.aload_n 0, 1), some (.invokevirtual 66, 3), none, none, some (.ifCond .eq 4, 3), none, none, some (.return_, 1)],
  [some (.iinc 5 1, 3), none, none, some (.goto (-72), 3), none, none, some (.return_, 1), none]]
def zi39 : List (List (Option (Instr × Nat))) := [
  [some (.aload_n 0, 1), some (.dup, 1), some (.getfield 37, 3), none, none, some (.iconst 1, 1), some (.iadd, 1), some (.putfield 37, 3)],
  [none, none, some (.aload_n 2, 1), some (.iconst 1, 1), some (.putfield 131, 3), none, none, some (.aload_n 0, 1)],
  [some (.aload_n 2, 1), some (.aload_n 2, 1), some (.getfield 135, 3), none, none, some (.aload_n 2, 1), some (.getfield 97, 3), none],
  [none, some (.iadd, 1), some (.invokevirtual 138, 3), none, none, some (.aload_n 0, 1), some (.invokevirtual 66, 3), none],
  [none, some (.ifCond .eq 10, 3), none, none, some (.aload_n 0, 1), some (.invokevirtual 59, 3), none, none],
  [some (.goto 10, 3), none, none, some (.aload_n 0, 1), some (.iload_n 1, 1), some (.iconst 1, 1), some (.iadd, 1), some (.invokevirtual 84, 3)],
  [none, none, some (.aload_n 0, 1), some (.aload_n 2, 1), some (.aload_n 2, 1), some (.getfield 135, 3), none, none],
  [some (.invokevirtual 138, 3), none, none, some (.aload_n 2, 1), some (.iconst 0, 1), some (.putfield 131, 3), none, none],
  [some (.return_, 1), none, none, none, none, none, none, none]]
def zi40 : List (List (Option (Instr × Nat))) := [
  [some (.aload_n 1, 1), some (.getfield 142, 3), none, none, some (.istore_n 2, 1), some (.iload_n 2, 1), some (.aload_n 1, 1), some (.getfield 142, 3)],
  [none, none, some (.aload_n 1, 1), some (.getfield 101, 3), none, none, some (.iadd, 1), some (.if_icmp .ge 72, 3)],
  [none, none, some (.aload_n 1, 1), some (.getfield 114, 3), none, none, some (.istore_n 3, 1), some (.iload_n 3, 1)],
  [some (.aload_n 1, 1), some (.getfield 114, 3), none, none, some (.aload_n 1, 1), some (.getfield 93, 3), none, none],
  [some (.iadd, 1), some (.if_icmp .ge 48, 3), none, none, some (.iload_n 2, 1), some (.bipush 12, 2), none, some (.imul, 1)],
  [some (.iload_n 3, 1), some (.iadd, 1), some (.istore 4, 2), none, some (.iload 4, 2), none, some (.ifCond .lt 27, 3), none],
  [none, some (.iload 4, 2), none, some (.aload_n 0, 1), some (.getfield 29, 3), none, none, some (.arraylength, 1)],
  [some (.if_icmp .ge 17, 3), none, none, some (.aload_n 0, 1), some (.getfield 29, 3), none, none, some (.iload 4, 2)],
  [none, some (.iaload, 1), some (.aload_n 1, 1), some (.getfield 135, 3), none, none, some (.if_icmp .eq 5, 3), none],
  [none, some (.iconst 0, 1), some (.ireturn, 1), some (.iinc 3 1, 3), none, none, some (.goto (-55), 3), none],
  [none, some (.iinc 2 1, 3), none, none, some (.goto (-79), 3), none, none, some (.iconst 1, 1)],
  [some (.ireturn, 1), none, none, none, none, none, none, none]]
def zi41 : List (List (Option (Instr × Nat))) := [
  [some (.aload_n 1, 1), some (.getfield 142, 3), none, none, some (.istore_n 3, 1), some (.iload_n 3, 1), some (.aload_n 1, 1), some (.getfield 142, 3)],
  [none, none, some (.aload_n 1, 1), some (.getfield 101, 3), none, none, some (.iadd, 1), some (.if_icmp .ge 67, 3)],
  [none, none, some (.aload_n 1, 1), some (.getfield 114, 3), none, none, some (.istore 4, 2), none],
  [some (.iload 4, 2), none, some (.aload_n 1, 1), some (.getfield 114, 3), none, none, some (.aload_n 1, 1), some (.getfield 93, 3)],
  [none, none, some (.iadd, 1), some (.if_icmp .ge 41, 3), none, none, some (.iload_n 3, 1), some (.bipush 12, 2)],
  [none, some (.imul, 1), some (.iload 4, 2), none, some (.iadd, 1), some (.istore 5, 2), none, some (.iload 5, 2)],
  [none, some (.ifCond .lt 21, 3), none, none, some (.iload 5, 2), none, some (.aload_n 0, 1), some (.getfield 29, 3)],
  [none, none, some (.arraylength, 1), some (.if_icmp .ge 11, 3), none, none, some (.aload_n 0, 1), some (.getfield 29, 3)],
  [none, none, some (.iload 5, 2), none, some (.iload_n 2, 1), some (.iastore, 1), some (.iinc 4 1, 3), none],
  [none, some (.goto (-49), 3), none, none, some (.iinc 3 1, 3), none, none, some (.goto (-74), 3)],
  [none, none, some (.return_, 1), none, none, none, none, none]]
def zi42 : List (List (Option (Instr × Nat))) := [
  [some (.aload_n 0, 1), some (.getfield 37, 3), none, none, some (.aload_n 0, 1), some (.getfield 33, 3), none, none],
  [some (.if_icmp .lt 7, 3), none, none, some (.iconst 1, 1), some (.goto 4, 3), none, none, some (.iconst 0, 1)],
  [some (.ireturn, 1), none, none, none, none, none, none, none]]
def zi43 : List (List (Option (Instr × Nat))) := [
  [some (.iconst 1, 1), some (.istore_n 2, 1), some (.iconst 0, 1), some (.istore_n 3, 1), some (.iload_n 3, 1), some (.aload_n 0, 1), some (.getfield 26, 3), none],
  [none, some (.getfield 49, 3), none, none, some (.arraylength, 1), some (.if_icmp .ge 74, 3), none, none],
  [some (.aload_n 0, 1), some (.getfield 26, 3), none, none, some (.getfield 49, 3), none, none, some (.iload_n 3, 1)],
  [some (.aaload, 1), some (.astore 4, 2), none, some (.aload 4, 2), none, some (.getfield 131, 3), none, none],
  [some (.ifCond .eq 49, 3), none, none, some (.iload_n 1, 1), some (.ifCond .ne 11, 3), none, none, some (.aload 4, 2)],
  [none, some (.getfield 93, 3), none, none, some (.goto 21, 3), none, none, some (.iload_n 1, 1)],
  [some (.iconst 1, 1), some (.if_icmp .ne 11, 3), none, none, some (.aload 4, 2), none, some (.getfield 97, 3), none],
  [none, some (.goto 8, 3), none, none, some (.aload 4, 2), none, some (.getfield 101, 3), none],
  [none, some (.istore 5, 2), none, some (.iload_n 2, 1), some (.iconst 1, 1), some (.aload 4, 2), none, some (.iload_n 1, 1)],
  [some (.invokevirtual 145, 3), none, none, some (.iload 5, 2), none, some (.iadd, 1), some (.ishl, 1), some (.ior, 1)],
  [some (.istore_n 2, 1), some (.iinc 3 1, 3), none, none, some (.goto (-80), 3), none, none, some (.iload_n 2, 1)],
  [some (.ireturn, 1), none, none, none, none, none, none, none]]
def zi44 : List (List (Option (Instr × Nat))) := [
  [some (.iload_n 0, 1), some (.iload_n 1, 1), some (.ishr, 1), some (.iconst 1, 1), some (.iand, 1), some (.ifCond .eq 7, 3), none, none],
  [some (.iconst 1, 1), some (.goto 4, 3), none, none, some (.iconst 0, 1), some (.ireturn, 1), none, none]]
def zi45 : List (List (Option (Instr × Nat))) := [
  [some (.aload_n 0, 1), some (.getfield 26, 3), none, none, some (.invokevirtual 148, 3), none, none, some (.istore_n 1, 1)],
  [some (.aload_n 0, 1), some (.getfield 26, 3), none, none, some (.invokevirtual 152, 3), none, none, some (.istore_n 2, 1)],
  [some (.iload_n 1, 1), some (.aload_n 0, 1), some (.getfield 43, 3), none, none, some (.if_icmp .gt 19, 3), none, none],
  [some (.iload_n 1, 1), some (.aload_n 0, 1), some (.getfield 43, 3), none, none, some (.if_icmp .ne 32, 3), none, none],
  [some (.iload_n 2, 1), some (.aload_n 0, 1), some (.getfield 46, 3), none, none, some (.if_icmp .ge 24, 3), none, none],
  [some (.aload_n 0, 1), some (.getfield 19, 3), none, none, some (.aload_n 0, 1), some (.getfield 26, 3), none, none],
  [some (.invokevirtual 155, 3), none, none, some (.aload_n 0, 1), some (.iload_n 1, 1), some (.putfield 43, 3), none, none],
  [some (.aload_n 0, 1), some (.iload_n 2, 1), some (.putfield 46, 3), none, none, some (.return_, 1), none, none]]
def zi46 : List (List (Option (Instr × Nat))) := [
  [some (.aload_n 0, 1), some (.invokespecial 1, 3), none, none, some (.aload_n 0, 1), some (.iload_n 1, 1), some (.putfield 7, 3), none],
  [none, some (.aload_n 0, 1), some (.iload_n 2, 1), some (.putfield 13, 3), none, none, some (.aload_n 0, 1), some (.iload_n 3, 1)],
  [some (.putfield 16, 3), none, none, some (.return_, 1), none, none, none, none]]
def zi47 : List (List (Option (Instr × Nat))) := [
  [some (.aload_n 0, 1), some (.getfield 7, 3), none, none, some (.aload_n 0, 1), some (.getfield 13, 3), none, none],
  [some (.imul, 1), some (.aload_n 0, 1), some (.getfield 16, 3), none, none, some (.imul, 1), some (.ireturn, 1), none]]
def zi48 : List (List (Option (Instr × Nat))) := [
  [some (.aload_n 0, 1), some (.invokespecial 1, 3), none, none, some (.aload_n 0, 1), some (.new 7, 3), none, none],
  [some (.dup, 1), some (.iload_n 1, 1), some (.invokestatic 9, 3), none, none, some (.iload_n 2, 1), some (.invokestatic 9, 3), none],
  [none, some (.iload_n 3, 1), some (.invokestatic 9, 3), none, none, some (.invokespecial 15, 3), none, none],
  [some (.putfield 18, 3), none, none, some (.aload_n 0, 1), some (.bipush 6, 2), none, some (.anewarray 22, 3), none],
  [none, some (.putfield 24, 3), none, none, some (.aload_n 0, 1), some (.new 28, 3), none, none],
  [some (.dup, 1), some (.invokespecial 30, 3), none, none, some (.putfield 31, 3), none, none, some (.aload_n 0, 1)],
  [some (.new 35, 3), none, none, some (.dup, 1), some (.aload_n 0, 1), some (.getfield 18, 3), none, none],
  [some (.aload_n 0, 1), some (.getfield 24, 3), none, none, some (.aload_n 0, 1), some (.getfield 31, 3), none, none],
  [some (.invokespecial 37, 3), none, none, some (.putfield 40, 3), none, none, some (.aload_n 0, 1), some (.sipush 3000, 3)],
  [none, none, some (.putfield 44, 3), none, none, some (.return_, 1), none, none]]
def zi49 : List (List (Option (Instr × Nat))) := [
  [some (.iload_n 1, 1), some (.invokestatic 48, 3), none, none, some (.ifCond .eq 29, 3), none, none, some (.iload_n 2, 1)],
  [some (.invokestatic 48, 3), none, none, some (.ifCond .eq 22, 3), none, none, some (.iload_n 3, 1), some (.invokestatic 48, 3)],
  [none, none, some (.ifCond .eq 15, 3), none, none, some (.iload 4, 2), none, some (.iconst 1, 1)],
  [some (.sipush 1000, 3), none, none, some (.invokestatic 52, 3), none, none, some (.ifCond .ne 6, 3), none],
  [none, some (.bipush (-102), 2), none, some (.ireturn, 1), some (.aload_n 0, 1), some (.getfield 56, 3), none, none],
  [some (.ifCond .lt 15, 3), none, none, some (.aload_n 0, 1), some (.getfield 56, 3), none, none, some (.aload_n 0, 1)],
  [some (.getfield 24, 3), none, none, some (.arraylength, 1), some (.if_icmp .lt 6, 3), none, none, some (.bipush (-104), 2)],
  [none, some (.ireturn, 1), some (.aload_n 0, 1), some (.getfield 24, 3), none, none, some (.aload_n 0, 1), some (.getfield 56, 3)],
  [none, none, some (.new 22, 3), none, none, some (.dup, 1), some (.iload_n 1, 1), some (.iload_n 2, 1)],
  [some (.iload_n 3, 1), some (.iload 4, 2), none, some (.invokespecial 59, 3), none, none, some (.aastore, 1), some (.aload_n 0, 1)],
  [some (.dup, 1), some (.getfield 56, 3), none, none, some (.iconst 1, 1), some (.iadd, 1), some (.putfield 56, 3), none],
  [none, some (.aload_n 0, 1), some (.getfield 56, 3), none, none, some (.ireturn, 1), none, none]]
def zi50 : List (List (Option (Instr × Nat))) := [
  [some (.aload_n 0, 1), some (.iload_n 1, 1), some (.invokevirtual 62, 3), none, none, some (.astore_n 3, 1), some (.aload_n 3, 1), some (.ifnonnull 6, 3)],
  [none, none, some (.bipush (-101), 2), none, some (.ireturn, 1), some (.iload_n 2, 1), some (.iconst 0, 1), some (.iconst 2, 1)],
  [some (.invokestatic 52, 3), none, none, some (.ifCond .ne 6, 3), none, none, some (.bipush (-102), 2), none],
  [some (.ireturn, 1), some (.aload_n 3, 1), some (.getfield 66, 3), none, none, some (.istore 4, 2), none, some (.aload_n 3, 1)],
  [some (.iload_n 2, 1), some (.invokevirtual 69, 3), none, none, some (.iload 4, 2), none, some (.ireturn, 1), none]]
def zi51 : List (List (Option (Instr × Nat))) := [
  [some (.aload_n 0, 1), some (.iload_n 1, 1), some (.invokevirtual 62, 3), none, none, some (.astore_n 3, 1), some (.aload_n 3, 1), some (.ifnonnull 6, 3)],
  [none, none, some (.bipush (-101), 2), none, some (.ireturn, 1), some (.iload_n 2, 1), some (.iconst (-1), 1), some (.if_icmp .eq 17, 3)],
  [none, none, some (.iload_n 2, 1), some (.iconst 0, 1), some (.sipush 6000, 3), none, none, some (.invokestatic 52, 3)],
  [none, none, some (.ifCond .ne 6, 3), none, none, some (.bipush (-102), 2), none, some (.ireturn, 1)],
  [some (.aload_n 3, 1), some (.iload_n 2, 1), some (.putfield 73, 3), none, none, some (.iconst 1, 1), some (.ireturn, 1), none]]
def zi52 : List (List (Option (Instr × Nat))) := [
  [some (.aload_n 0, 1), some (.iload_n 1, 1), some (.invokevirtual 62, 3), none, none, some (.astore_n 3, 1), some (.aload_n 3, 1), some (.ifnonnull 6, 3)],
  [none, none, some (.bipush (-101), 2), none, some (.ireturn, 1), some (.iload_n 2, 1), some (.iconst 0, 1), some (.bipush 9, 2)],
  [none, some (.invokestatic 52, 3), none, none, some (.ifCond .ne 6, 3), none, none, some (.bipush (-102), 2)],
  [none, some (.ireturn, 1), some (.aload_n 3, 1), some (.getfield 76, 3), none, none, some (.istore 4, 2), none],
  [some (.aload_n 3, 1), some (.iload_n 2, 1), some (.putfield 76, 3), none, none, some (.iload 4, 2), none, some (.ireturn, 1)]]
def zi53 : List (List (Option (Instr × Nat))) := [
  [some (.aload_n 0, 1), some (.iload_n 1, 1), some (.invokevirtual 62, 3), none, none, some (.astore_n 2, 1), some (.aload_n 2, 1), some (.ifnonnull 6, 3)],
  [none, none, some (.bipush (-101), 2), none, some (.ireturn, 1), some (.aload_n 2, 1), some (.aload_n 0, 1), some (.getfield 18, 3)],
  [none, none, some (.invokevirtual 79, 3), none, none, some (.ifCond .eq 7, 3), none, none],
  [some (.iconst 1, 1), some (.goto 4, 3), none, none, some (.iconst 0, 1), some (.ireturn, 1), none, none]]
def zi54 : List (List (Option (Instr × Nat))) := [
  [some (.iload_n 1, 1), some (.iconst 1, 1), some (.sipush 500, 3), none, none, some (.invokestatic 52, 3), none, none],
  [some (.ifCond .ne 6, 3), none, none, some (.bipush (-102), 2), none, some (.ireturn, 1), some (.aload_n 0, 1), some (.getfield 56, 3)],
  [none, none, some (.ifCond .ne 6, 3), none, none, some (.bipush (-103), 2), none, some (.ireturn, 1)],
  [some (.iload_n 1, 1), some (.aload_n 0, 1), some (.getfield 44, 3), none, none, some (.if_icmp .le 6, 3), none, none],
  [some (.bipush (-104), 2), none, some (.ireturn, 1), some (.aload_n 0, 1), some (.getfield 40, 3), none, none, some (.iload_n 1, 1)],
  [some (.invokevirtual 83, 3), none, none, some (.aload_n 0, 1), some (.getfield 40, 3), none, none, some (.iconst 0, 1)],
  [some (.invokevirtual 86, 3), none, none, some (.aload_n 0, 1), some (.dup, 1), some (.getfield 44, 3), none, none],
  [some (.aload_n 0, 1), some (.getfield 40, 3), none, none, some (.getfield 89, 3), none, none, some (.isub, 1)],
  [some (.putfield 44, 3), none, none, some (.aload_n 0, 1), some (.getfield 31, 3), none, none, some (.invokevirtual 92, 3)],
  [none, none, some (.ireturn, 1), none, none, none, none, none]]
def zi55 : List (List (Option (Instr × Nat))) := [
  [some (.aload_n 0, 1), some (.getfield 40, 3), none, none, some (.getfield 89, 3), none, none, some (.aload_n 0, 1)],
  [some (.getfield 40, 3), none, none, some (.getfield 96, 3), none, none, some (.if_icmp .ge 7, 3), none],
  [none, some (.iconst 1, 1), some (.goto 4, 3), none, none, some (.iconst 0, 1), some (.ireturn, 1), none]]
def zi56 : List (List (Option (Instr × Nat))) := [
  [some (.iload_n 1, 1), some (.ifCond .eq 10, 3), none, none, some (.aload_n 0, 1), some (.getfield 44, 3), none, none],
  [some (.goto 10, 3), none, none, some (.aload_n 0, 1), some (.getfield 40, 3), none, none, some (.getfield 89, 3)],
  [none, none, some (.ireturn, 1), none, none, none, none, none]]
def zi57 : List (List (Option (Instr × Nat))) := [
  [some (.aload_n 0, 1), some (.iload_n 1, 1), some (.invokevirtual 62, 3), none, none, some (.ifnonnull 6, 3), none, none],
  [some (.bipush (-101), 2), none, some (.ireturn, 1), some (.iload_n 2, 1), some (.iconst 0, 1), some (.iconst 3, 1), some (.invokestatic 52, 3), none],
  [none, some (.ifCond .ne 6, 3), none, none, some (.bipush (-102), 2), none, some (.ireturn, 1), some (.aload_n 0, 1)],
  [some (.getfield 31, 3), none, none, some (.iload_n 1, 1), some (.invokevirtual 99, 3), none, none, some (.astore_n 3, 1)],
  [some (.aload_n 3, 1), some (.ifnonnull 7, 3), none, none, some (.iconst (-1), 1), some (.goto 8, 3), none, none],
  [some (.aload_n 3, 1), some (.iload_n 2, 1), some (.invokevirtual 103, 3), none, none, some (.ireturn, 1), none, none]]
def zi58 : List (List (Option (Instr × Nat))) := [
  [some (.aload_n 0, 1), some (.getfield 31, 3), none, none, some (.iload_n 1, 1), some (.invokevirtual 99, 3), none, none],
  [some (.astore_n 3, 1), some (.aload_n 0, 1), some (.getfield 31, 3), none, none, some (.iload_n 2, 1), some (.invokevirtual 99, 3), none],
  [none, some (.astore 4, 2), none, some (.aload_n 3, 1), some (.ifnull 21, 3), none, none, some (.aload 4, 2)],
  [none, some (.ifnull 16, 3), none, none, some (.aload_n 3, 1), some (.aload 4, 2), none, some (.invokevirtual 108, 3)],
  [none, none, some (.ifCond .eq 7, 3), none, none, some (.iconst 1, 1), some (.goto 4, 3), none],
  [none, some (.iconst 0, 1), some (.ireturn, 1), none, none, none, none, none]]
def zi59 : List (List (Option (Instr × Nat))) := [
  [some (.iload_n 1, 1), some (.iconst 0, 1), some (.aload_n 0, 1), some (.getfield 18, 3), none, none, some (.getfield 112, 3), none],
  [none, some (.iconst 1, 1), some (.isub, 1), some (.invokestatic 52, 3), none, none, some (.ifCond .eq 20, 3), none],
  [none, some (.iload_n 2, 1), some (.iconst 0, 1), some (.aload_n 0, 1), some (.getfield 18, 3), none, none, some (.getfield 115, 3)],
  [none, none, some (.iconst 1, 1), some (.isub, 1), some (.invokestatic 52, 3), none, none, some (.ifCond .ne 6, 3)],
  [none, none, some (.bipush (-102), 2), none, some (.ireturn, 1), some (.aload_n 0, 1), some (.getfield 31, 3), none],
  [none, some (.iload_n 1, 1), some (.iload_n 2, 1), some (.invokevirtual 118, 3), none, none, some (.ireturn, 1), none]]
def zi60 : List (List (Option (Instr × Nat))) := [
  [some (.aload_n 0, 1), some (.getfield 18, 3), none, none, some (.invokevirtual 122, 3), none, none, some (.aload_n 0, 1)],
  [some (.getfield 31, 3), none, none, some (.invokevirtual 92, 3), none, none, some (.isub, 1), some (.ireturn, 1)]]
def zi61 : List (List (Option (Instr × Nat))) := [
  [some (.iconst 0, 1), some (.istore_n 1, 1), some (.iconst 0, 1), some (.istore_n 2, 1), some (.iload_n 2, 1), some (.aload_n 0, 1), some (.getfield 24, 3), none],
  [none, some (.arraylength, 1), some (.if_icmp .ge 38, 3), none, none, some (.aload_n 0, 1), some (.getfield 24, 3), none],
  [none, some (.iload_n 2, 1), some (.aaload, 1), some (.astore_n 3, 1), some (.aload_n 3, 1), some (.ifnull 21, 3), none, none],
  [some (.aload_n 3, 1), some (.aload_n 0, 1), some (.getfield 18, 3), none, none, some (.invokevirtual 79, 3), none, none],
  [some (.ifCond .ne 10, 3), none, none, some (.iload_n 1, 1), some (.aload_n 3, 1), some (.invokevirtual 123, 3), none, none],
  [some (.iadd, 1), some (.istore_n 1, 1), some (.iinc 2 1, 3), none, none, some (.goto (-41), 3), none, none],
  [some (.iload_n 1, 1), some (.aload_n 0, 1), some (.getfield 18, 3), none, none, some (.invokevirtual 122, 3), none, none],
  [some (.invokestatic 124, 3), none, none, some (.ireturn, 1), none, none, none, none]]
def zi62 : List (List (Option (Instr × Nat))) := [
  [some (.iload_n 1, 1), some (.iconst 0, 1), some (.iconst 1, 1), some (.invokestatic 52, 3), none, none, some (.ifCond .eq 12, 3), none],
  [none, some (.iload_n 2, 1), some (.iconst 0, 1), some (.iconst 1, 1), some (.invokestatic 52, 3), none, none, some (.ifCond .ne 7, 3)],
  [none, none, some (.ldc2_w 129, 3), none, none, some (.lreturn, 1), some (.ldc2_w 131, 3), none],
  [none, some (.aload_n 0, 1), some (.getfield 18, 3), none, none, some (.getfield 115, 3), none, none],
  [some (.i2l, 1), some (.lmul, 1), some (.aload_n 0, 1), some (.getfield 31, 3), none, none, some (.invokevirtual 133, 3), none],
  [none, some (.i2l, 1), some (.lmul, 1), some (.lstore_n 3, 1), some (.lload_n 3, 1), some (.lconst 0, 1), some (.lcmp, 1), some (.ifCond .gt 13, 3)],
  [none, none, some (.new 136, 3), none, none, some (.dup, 1), some (.ldc 138, 2), none],
  [some (.invokespecial 140, 3), none, none, some (.athrow, 1), some (.aload_n 0, 1), some (.getfield 31, 3), none, none],
  [some (.invokevirtual 143, 3), none, none, some (.i2l, 1), some (.lstore 5, 2), none, some (.iload_n 1, 1), some (.iconst 1, 1)],
  [some (.if_icmp .ne 8, 3), none, none, some (.lload 5, 2), none, some (.goto 7, 3), none, none],
  [some (.lload_n 3, 1), some (.lload 5, 2), none, some (.lsub, 1), some (.lstore 7, 2), none, some (.lload_n 3, 1), some (.lload 7, 2)],
  [none, some (.invokestatic 146, 3), none, none, some (.lstore 9, 2), none, some (.lload 9, 2), none],
  [some (.lconst 0, 1), some (.lcmp, 1), some (.ifCond .gt 6, 3), none, none, some (.lconst 1, 1), some (.lstore 9, 2), none],
  [some (.iload_n 2, 1), some (.ifCond .ne 8, 3), none, none, some (.lload 7, 2), none, some (.goto 4, 3), none],
  [none, some (.lload_n 3, 1), some (.lload 9, 2), none, some (.ldiv, 1), some (.lreturn, 1), none, none]]
def zi63 : List (List (Option (Instr × Nat))) := [
  [some (.iload_n 1, 1), some (.iconst 0, 1), some (.bipush 9, 2), none, some (.invokestatic 52, 3), none, none, some (.ifCond .ne 6, 3)],
  [none, none, some (.bipush (-102), 2), none, some (.ireturn, 1), some (.iconst 0, 1), some (.istore_n 2, 1), some (.iconst 0, 1)],
  [some (.istore_n 3, 1), some (.iload_n 3, 1), some (.bipush 6, 2), none, some (.if_icmp .gt 32, 3), none, none, some (.aload_n 0, 1)],
  [some (.getfield 31, 3), none, none, some (.iload_n 1, 1), some (.invokevirtual 150, 3), none, none, some (.istore 4, 2)],
  [none, some (.iload 4, 2), none, some (.ifCond .ne 6, 3), none, none, some (.goto 14, 3), none],
  [none, some (.iload_n 2, 1), some (.iload 4, 2), none, some (.iadd, 1), some (.istore_n 2, 1), some (.iinc 3 1, 3), none],
  [none, some (.goto (-32), 3), none, none, some (.iload_n 2, 1), some (.ireturn, 1), none, none]]
def zi64 : List (List (Option (Instr × Nat))) := [
  [some (.iload_n 1, 1), some (.iconst 1, 1), some (.if_icmp .lt 12, 3), none, none, some (.iload_n 1, 1), some (.aload_n 0, 1), some (.getfield 24, 3)],
  [none, none, some (.arraylength, 1), some (.if_icmp .le 5, 3), none, none, some (.aconst_null, 1), some (.areturn, 1)],
  [some (.aload_n 0, 1), some (.getfield 24, 3), none, none, some (.iload_n 1, 1), some (.iconst 1, 1), some (.isub, 1), some (.aaload, 1)],
  [some (.areturn, 1), none, none, none, none, none, none, none]]
def zi65 : List (List (Option (Instr × Nat))) := [
  [some (.iload_n 0, 1), some (.iload_n 1, 1), some (.if_icmp .lt 12, 3), none, none, some (.iload_n 0, 1), some (.iload_n 2, 1), some (.if_icmp .gt 7, 3)],
  [none, none, some (.iconst 1, 1), some (.goto 4, 3), none, none, some (.iconst 0, 1), some (.ireturn, 1)]]
def zi66 : List (List (Option (Instr × Nat))) := [
  [some (.iload_n 0, 1), some (.iconst 1, 1), some (.bipush 12, 2), none, some (.invokestatic 52, 3), none, none, some (.ireturn, 1)]]
def zi67 : List (List (Option (Instr × Nat))) := [
  [some (.iconst 1, 1), some (.bipush 12, 2), none, some (.iload_n 0, 1), some (.invokestatic 124, 3), none, none, some (.invokestatic 153, 3)],
  [none, none, some (.ireturn, 1), none, none, none, none, none]]
def zi68 : List (List (Option (Instr × Nat))) := [
  [some (.lload_n 0, 1), some (.lstore 4, 2), none, some (.lload_n 2, 1), some (.lstore 6, 2), none, some (.iconst 0, 1), some (.istore 8, 2)],
  [none, some (.iload 8, 2), none, some (.bipush 100, 2), none, some (.if_icmp .ge 31, 3), none, none],
  [some (.lload 6, 2), none, some (.lconst 0, 1), some (.lcmp, 1), some (.ifCond .eq 24, 3), none, none, some (.lload 4, 2)],
  [none, some (.lload 6, 2), none, some (.lrem, 1), some (.lstore 9, 2), none, some (.lload 6, 2), none],
  [some (.lstore 4, 2), none, some (.lload 9, 2), none, some (.lstore 6, 2), none, some (.iinc 8 1, 3), none],
  [none, some (.goto (-32), 3), none, none, some (.lload 4, 2), none, some (.lreturn, 1), none]]
def zi69 : List (List (Option (Instr × Nat))) := [
  [some (.aload_n 0, 1), some (.invokespecial 1, 3), none, none, some (.aload_n 0, 1), some (.bipush 6, 2), none, some (.newarray .int, 2)],
  [none, some (.putfield 7, 3), none, none, some (.aload_n 0, 1), some (.bipush 6, 2), none, some (.newarray .int, 2)],
  [none, some (.putfield 13, 3), none, none, some (.aload_n 0, 1), some (.bipush 6, 2), none, some (.newarray .int, 2)],
  [none, some (.putfield 16, 3), none, none, some (.aload_n 0, 1), some (.bipush 6, 2), none, some (.newarray .int, 2)],
  [none, some (.putfield 19, 3), none, none, some (.aload_n 0, 1), some (.bipush 6, 2), none, some (.newarray .int, 2)],
  [none, some (.putfield 22, 3), none, none, some (.aload_n 0, 1), some (.bipush 6, 2), none, some (.newarray .int, 2)],
  [none, some (.putfield 25, 3), none, none, some (.aload_n 0, 1), some (.bipush 6, 2), none, some (.newarray .int, 2)],
  [none, some (.putfield 28, 3), none, none, some (.aload_n 0, 1), some (.bipush 6, 2), none, some (.newarray .boolean, 2)],
  [none, some (.putfield 31, 3), none, none, some (.aload_n 0, 1), some (.bipush 6, 2), none, some (.newarray .int, 2)],
  [none, some (.putfield 35, 3), none, none, some (.aload_n 0, 1), some (.bipush 6, 2), none, some (.newarray .int, 2)],
  [none, some (.putfield 38, 3), none, none, some (.aload_n 0, 1), some (.bipush 6, 2), none, some (.newarray .int, 2)],
  [none, some (.putfield 41, 3), none, none, some (.aload_n 0, 1), some (.bipush 6, 2), none, some (.newarray .int, 2)],
  [none, some (.putfield 44, 3), none, none, some (.aload_n 0, 1), some (.bipush 6, 2), none, some (.newarray .int, 2)],
  [none, some (.putfield 47, 3), none, none, some (.aload_n 0, 1), some (.bipush 6, 2), none, some (.newarray .int, 2)],
  [none, some (.putfield 50, 3), none, none, some (.aload_n 0, 1), some (.bipush 6, 2), none, some (.newarray .int, 2)],
  [none, some (.putfield 53, 3), none, none, some (.aload_n 0, 1), some (.bipush 6, 2), none, some (.newarray .boolean, 2)],
  [none, some (.putfield 56, 3), none, none, some (.aload_n 0, 1), some (.bipush 6, 2), none, some (.newarray .int, 2)],
  [none, some (.putfield 59, 3), none, none, some (.aload_n 0, 1), some (.bipush 6, 2), none, some (.newarray .int, 2)],
  [none, some (.putfield 62, 3), none, none, some (.aload_n 0, 1), some (.bipush 6, 2), none, some (.newarray .int, 2)],
  [none, some (.putfield 65, 3), none, none, some (.aload_n 0, 1), some (.bipush 6, 2), none, some (.newarray .int, 2)],
  [none, some (.putfield 68, 3), none, none, some (.aload_n 0, 1), some (.bipush 6, 2), none, some (.newarray .int, 2)],
  [none, some (.putfield 71, 3), none, none, some (.aload_n 0, 1), some (.bipush 6, 2), none, some (.newarray .int, 2)],
  [none, some (.putfield 74, 3), none, none, some (.aload_n 0, 1), some (.bipush 6, 2), none, some (.newarray .int, 2)],
  [none, some (.putfield 77, 3), none, none, some (.aload_n 0, 1), some (.bipush 6, 2), none, some (.newarray .int, 2)],
  [none, some (.putfield 80, 3), none, none, some (.aload_n 0, 1), some (.bipush 6, 2), none, some (.newarray .int, 2)],
  [none, some (.putfield 83, 3), none, none, some (.aload_n 0, 1), some (.bipush 6, 2), none, some (.newarray .int, 2)],
  [none, some (.putfield 86, 3), none, none, some (.aload_n 0, 1), some (.bipush 6, 2), none, some (.newarray .int, 2)],
  [none, some (.putfield 89, 3), none, none, some (.aload_n 0, 1), some (.bipush 36, 2), none, some (.newarray .int, 2)],
  [none, some (.putfield 92, 3), none, none, some (.aload_n 0, 1), some (.bipush 6, 2), none, some (.newarray .int, 2)],
  [none, some (.putfield 95, 3), none, none, some (.aload_n 0, 1), some (.bipush 6, 2), none, some (.newarray .int, 2)],
  [none, some (.putfield 98, 3), none, none, some (.aload_n 0, 1), some (.bipush 6, 2), none, some (.newarray .int, 2)],
  [none, some (.putfield 101, 3), none, none, some (.aload_n 0, 1), some (.bipush 42, 2), none, some (.newarray .int, 2)],
  [none, some (.putfield 104, 3), none, none, some (.aload_n 0, 1), some (.bipush 42, 2), none, some (.newarray .int, 2)],
  [none, some (.putfield 107, 3), none, none, some (.aload_n 0, 1), some (.bipush 42, 2), none, some (.newarray .int, 2)],
  [none, some (.putfield 110, 3), none, none, some (.aload_n 0, 1), some (.iload_n 1, 1), some (.invokestatic 113, 3), none],
  [none, some (.putfield 117, 3), none, none, some (.aload_n 0, 1), some (.iload_n 2, 1), some (.invokestatic 113, 3), none],
  [none, some (.putfield 121, 3), none, none, some (.aload_n 0, 1), some (.iload_n 3, 1), some (.invokestatic 113, 3), none],
  [none, some (.putfield 124, 3), none, none, some (.return_, 1), none, none, none]]
def zi70 : List (List (Option (Instr × Nat))) := [
  [some (.iload_n 0, 1), some (.iconst 1, 1), some (.if_icmp .ge 7, 3), none, none, some (.iconst 1, 1), some (.goto 15, 3), none],
  [none, some (.iload_n 0, 1), some (.bipush 12, 2), none, some (.if_icmp .le 8, 3), none, none, some (.bipush 12, 2)],
  [none, some (.goto 4, 3), none, none, some (.iload_n 0, 1), some (.ireturn, 1), none, none]]
def zi71 : List (List (Option (Instr × Nat))) := [
  [some (.iload_n 0, 1), some (.iload_n 1, 1), some (.if_icmp .lt 12, 3), none, none, some (.iload_n 0, 1), some (.iload_n 2, 1), some (.if_icmp .gt 7, 3)],
  [none, none, some (.iconst 1, 1), some (.goto 4, 3), none, none, some (.iconst 0, 1), some (.ireturn, 1)]]
def zi72 : List (List (Option (Instr × Nat))) := [
  [some (.iload_n 1, 1), some (.iconst 1, 1), some (.aload_n 0, 1), some (.getfield 127, 3), none, none, some (.invokestatic 130, 3), none],
  [none, some (.ireturn, 1), none, none, none, none, none, none]]
def zi73 : List (List (Option (Instr × Nat))) := [
  [some (.iload_n 1, 1), some (.iconst 1, 1), some (.bipush 12, 2), none, some (.invokestatic 130, 3), none, none, some (.ifCond .eq 35, 3)],
  [none, none, some (.iload_n 2, 1), some (.iconst 1, 1), some (.bipush 12, 2), none, some (.invokestatic 130, 3), none],
  [none, some (.ifCond .eq 25, 3), none, none, some (.iload_n 3, 1), some (.iconst 1, 1), some (.bipush 12, 2), none],
  [some (.invokestatic 130, 3), none, none, some (.ifCond .eq 15, 3), none, none, some (.iload 4, 2), none],
  [some (.iconst 1, 1), some (.sipush 1000, 3), none, none, some (.invokestatic 130, 3), none, none, some (.ifCond .ne 6, 3)],
  [none, none, some (.bipush (-102), 2), none, some (.ireturn, 1), some (.aload_n 0, 1), some (.getfield 127, 3), none],
  [none, some (.bipush 6, 2), none, some (.if_icmp .ne 6, 3), none, none, some (.bipush (-104), 2), none],
  [some (.ireturn, 1), some (.aload_n 0, 1), some (.getfield 7, 3), none, none, some (.aload_n 0, 1), some (.getfield 127, 3), none],
  [none, some (.iload_n 1, 1), some (.iastore, 1), some (.aload_n 0, 1), some (.getfield 13, 3), none, none, some (.aload_n 0, 1)],
  [some (.getfield 127, 3), none, none, some (.iload_n 2, 1), some (.iastore, 1), some (.aload_n 0, 1), some (.getfield 16, 3), none],
  [none, some (.aload_n 0, 1), some (.getfield 127, 3), none, none, some (.iload_n 3, 1), some (.iastore, 1), some (.aload_n 0, 1)],
  [some (.getfield 19, 3), none, none, some (.aload_n 0, 1), some (.getfield 127, 3), none, none, some (.iload 4, 2)],
  [none, some (.iastore, 1), some (.aload_n 0, 1), some (.getfield 22, 3), none, none, some (.aload_n 0, 1), some (.getfield 127, 3)],
  [none, none, some (.iconst 0, 1), some (.iastore, 1), some (.aload_n 0, 1), some (.getfield 25, 3), none, none],
  [some (.aload_n 0, 1), some (.getfield 127, 3), none, none, some (.iconst (-1), 1), some (.iastore, 1), some (.aload_n 0, 1), some (.getfield 28, 3)],
  [none, none, some (.aload_n 0, 1), some (.getfield 127, 3), none, none, some (.iconst 0, 1), some (.iastore, 1)],
  [some (.aload_n 0, 1), some (.dup, 1), some (.getfield 127, 3), none, none, some (.iconst 1, 1), some (.iadd, 1), some (.putfield 127, 3)],
  [none, none, some (.aload_n 0, 1), some (.getfield 127, 3), none, none, some (.ireturn, 1), none]]
def zi74 : List (List (Option (Instr × Nat))) := [
  [some (.aload_n 0, 1), some (.iload_n 1, 1), some (.invokevirtual 134, 3), none, none, some (.ifCond .ne 6, 3), none, none],
  [some (.bipush (-101), 2), none, some (.ireturn, 1), some (.iload_n 2, 1), some (.iconst 0, 1), some (.iconst 2, 1), some (.invokestatic 130, 3), none],
  [none, some (.ifCond .ne 6, 3), none, none, some (.bipush (-102), 2), none, some (.ireturn, 1), some (.aload_n 0, 1)],
  [some (.getfield 22, 3), none, none, some (.iload_n 1, 1), some (.iconst 1, 1), some (.isub, 1), some (.iaload, 1), some (.istore_n 3, 1)],
  [some (.aload_n 0, 1), some (.getfield 22, 3), none, none, some (.iload_n 1, 1), some (.iconst 1, 1), some (.isub, 1), some (.iload_n 2, 1)],
  [some (.iastore, 1), some (.iload_n 3, 1), some (.ireturn, 1), none, none, none, none, none]]
def zi75 : List (List (Option (Instr × Nat))) := [
  [some (.aload_n 0, 1), some (.iload_n 1, 1), some (.invokevirtual 134, 3), none, none, some (.ifCond .ne 6, 3), none, none],
  [some (.bipush (-101), 2), none, some (.ireturn, 1), some (.iload_n 2, 1), some (.iconst (-1), 1), some (.sipush 6000, 3), none, none],
  [some (.invokestatic 130, 3), none, none, some (.ifCond .ne 6, 3), none, none, some (.bipush (-102), 2), none],
  [some (.ireturn, 1), some (.aload_n 0, 1), some (.getfield 25, 3), none, none, some (.iload_n 1, 1), some (.iconst 1, 1), some (.isub, 1)],
  [some (.iload_n 2, 1), some (.iastore, 1), some (.iconst 1, 1), some (.ireturn, 1), none, none, none, none]]
def zi76 : List (List (Option (Instr × Nat))) := [
  [some (.aload_n 0, 1), some (.iload_n 1, 1), some (.invokevirtual 134, 3), none, none, some (.ifCond .ne 6, 3), none, none],
  [some (.bipush (-101), 2), none, some (.ireturn, 1), some (.iload_n 2, 1), some (.iconst 0, 1), some (.bipush 9, 2), none, some (.invokestatic 130, 3)],
  [none, none, some (.ifCond .ne 6, 3), none, none, some (.bipush (-102), 2), none, some (.ireturn, 1)],
  [some (.aload_n 0, 1), some (.getfield 28, 3), none, none, some (.iload_n 1, 1), some (.iconst 1, 1), some (.isub, 1), some (.iaload, 1)],
  [some (.istore_n 3, 1), some (.aload_n 0, 1), some (.getfield 28, 3), none, none, some (.iload_n 1, 1), some (.iconst 1, 1), some (.isub, 1)],
  [some (.iload_n 2, 1), some (.iastore, 1), some (.iload_n 3, 1), some (.ireturn, 1), none, none, none, none]]
def zi77 : List (List (Option (Instr × Nat))) := [
  [some (.aload_n 0, 1), some (.getfield 7, 3), none, none, some (.iload_n 1, 1), some (.iaload, 1), some (.istore 4, 2), none],
  [some (.aload_n 0, 1), some (.getfield 13, 3), none, none, some (.iload_n 1, 1), some (.iaload, 1), some (.istore 5, 2), none],
  [some (.aload_n 0, 1), some (.getfield 16, 3), none, none, some (.iload_n 1, 1), some (.iaload, 1), some (.istore 6, 2), none],
  [some (.iload_n 2, 1), some (.tableswitch 145 1 5 #[35, 57, 79, 101, 123], 35), none, none, none, none, none, none],
  [none, none, none, none, none, none, none, none],
  [none, none, none, none, none, none, none, none],
  [none, none, none, none, none, none, none, none],
  [none, none, none, none, some (.iload_n 3, 1), some (.ifCond .ne 8, 3), none, none],
  [some (.iload 6, 2), none, some (.goto 15, 3), none, none, some (.iload_n 3, 1), some (.iconst 1, 1), some (.if_icmp .ne 8, 3)],
  [none, none, some (.iload 5, 2), none, some (.goto 5, 3), none, none, some (.iload 4, 2)],
  [none, some (.ireturn, 1), some (.iload_n 3, 1), some (.ifCond .ne 8, 3), none, none, some (.iload 4, 2), none],
  [some (.goto 15, 3), none, none, some (.iload_n 3, 1), some (.iconst 1, 1), some (.if_icmp .ne 8, 3), none, none],
  [some (.iload 6, 2), none, some (.goto 5, 3), none, none, some (.iload 5, 2), none, some (.ireturn, 1)],
  [some (.iload_n 3, 1), some (.ifCond .ne 8, 3), none, none, some (.iload 5, 2), none, some (.goto 15, 3), none],
  [none, some (.iload_n 3, 1), some (.iconst 1, 1), some (.if_icmp .ne 8, 3), none, none, some (.iload 6, 2), none],
  [some (.goto 5, 3), none, none, some (.iload 4, 2), none, some (.ireturn, 1), some (.iload_n 3, 1), some (.ifCond .ne 8, 3)],
  [none, none, some (.iload 6, 2), none, some (.goto 15, 3), none, none, some (.iload_n 3, 1)],
  [some (.iconst 1, 1), some (.if_icmp .ne 8, 3), none, none, some (.iload 4, 2), none, some (.goto 5, 3), none],
  [none, some (.iload 5, 2), none, some (.ireturn, 1), some (.iload_n 3, 1), some (.ifCond .ne 8, 3), none, none],
  [some (.iload 5, 2), none, some (.goto 15, 3), none, none, some (.iload_n 3, 1), some (.iconst 1, 1), some (.if_icmp .ne 8, 3)],
  [none, none, some (.iload 4, 2), none, some (.goto 5, 3), none, none, some (.iload 6, 2)],
  [none, some (.ireturn, 1), some (.iload_n 3, 1), some (.ifCond .ne 8, 3), none, none, some (.iload 4, 2), none],
  [some (.goto 15, 3), none, none, some (.iload_n 3, 1), some (.iconst 1, 1), some (.if_icmp .ne 8, 3), none, none],
  [some (.iload 5, 2), none, some (.goto 5, 3), none, none, some (.iload 6, 2), none, some (.ireturn, 1)]]
def zi78 : List (List (Option (Instr × Nat))) := [
  [some (.iload_n 0, 1), some (.ifCond .ne 7, 3), none, none, some (.iconst 1, 1), some (.goto 14, 3), none, none],
  [some (.iload_n 0, 1), some (.iconst 1, 1), some (.if_icmp .ne 7, 3), none, none, some (.iconst 2, 1), some (.goto 5, 3), none],
  [none, some (.bipush 6, 2), none, some (.ireturn, 1), none, none, none, none]]
def zi79 : List (List (Option (Instr × Nat))) := [
  [some (.iconst 0, 1), some (.istore_n 2, 1), some (.iconst 0, 1), some (.istore_n 3, 1), some (.iload_n 3, 1), some (.aload_n 0, 1), some (.getfield 22, 3), none],
  [none, some (.iload_n 1, 1), some (.iaload, 1), some (.invokestatic 138, 3), none, none, some (.if_icmp .ge 61, 3), none],
  [none, some (.iload_n 2, 1), some (.ifCond .ne 45, 3), none, none, some (.aload_n 0, 1), some (.iload_n 1, 1), some (.iload_n 3, 1)],
  [some (.iconst 0, 1), some (.invokevirtual 141, 3), none, none, some (.aload_n 0, 1), some (.getfield 117, 3), none, none],
  [some (.if_icmp .gt 35, 3), none, none, some (.aload_n 0, 1), some (.iload_n 1, 1), some (.iload_n 3, 1), some (.iconst 1, 1), some (.invokevirtual 141, 3)],
  [none, none, some (.aload_n 0, 1), some (.getfield 121, 3), none, none, some (.if_icmp .gt 21, 3), none],
  [none, some (.aload_n 0, 1), some (.iload_n 1, 1), some (.iload_n 3, 1), some (.iconst 2, 1), some (.invokevirtual 141, 3), none, none],
  [some (.aload_n 0, 1), some (.getfield 124, 3), none, none, some (.if_icmp .gt 7, 3), none, none, some (.iconst 1, 1)],
  [some (.goto 4, 3), none, none, some (.iconst 0, 1), some (.istore_n 2, 1), some (.iinc 3 1, 3), none, none],
  [some (.goto (-68), 3), none, none, some (.iload_n 2, 1), some (.ifCond .ne 7, 3), none, none, some (.iconst 1, 1)],
  [some (.goto 4, 3), none, none, some (.iconst 0, 1), some (.ireturn, 1), none, none, none]]
def zi80 : List (List (Option (Instr × Nat))) := [
  [some (.aload_n 0, 1), some (.iload_n 1, 1), some (.invokevirtual 134, 3), none, none, some (.ifCond .ne 8, 3), none, none],
  [some (.bipush (-101), 2), none, some (.goto 18, 3), none, none, some (.aload_n 0, 1), some (.iload_n 1, 1), some (.iconst 1, 1)],
  [some (.isub, 1), some (.invokevirtual 145, 3), none, none, some (.ifCond .eq 7, 3), none, none, some (.iconst 1, 1)],
  [some (.goto 4, 3), none, none, some (.iconst 0, 1), some (.ireturn, 1), none, none, none]]
def zi81 : List (List (Option (Instr × Nat))) := [
  [some (.iload_n 0, 1), some (.iload_n 2, 1), some (.if_icmp .le 7, 3), none, none, some (.iload_n 0, 1), some (.goto 4, 3), none],
  [none, some (.iload_n 2, 1), some (.istore 4, 2), none, some (.iload_n 0, 1), some (.iload_n 1, 1), some (.iadd, 1), some (.iload_n 2, 1)],
  [some (.iload_n 3, 1), some (.iadd, 1), some (.if_icmp .ge 9, 3), none, none, some (.iload_n 0, 1), some (.iload_n 1, 1), some (.iadd, 1)],
  [some (.goto 6, 3), none, none, some (.iload_n 2, 1), some (.iload_n 3, 1), some (.iadd, 1), some (.istore 5, 2), none],
  [some (.iload 5, 2), none, some (.iload 4, 2), none, some (.if_icmp .le 11, 3), none, none, some (.iload 5, 2)],
  [none, some (.iload 4, 2), none, some (.isub, 1), some (.goto 4, 3), none, none, some (.iconst 0, 1)],
  [some (.ireturn, 1), none, none, none, none, none, none, none]]
def zi82 : List (List (Option (Instr × Nat))) := [
  [some (.aload_n 0, 1), some (.getfield 35, 3), none, none, some (.iload_n 1, 1), some (.iaload, 1), some (.aload_n 0, 1), some (.getfield 44, 3)],
  [none, none, some (.iload_n 1, 1), some (.iaload, 1), some (.aload_n 0, 1), some (.getfield 35, 3), none, none],
  [some (.iload_n 2, 1), some (.iaload, 1), some (.aload_n 0, 1), some (.getfield 44, 3), none, none, some (.iload_n 2, 1), some (.iaload, 1)],
  [some (.invokestatic 148, 3), none, none, some (.ifCond .le 59, 3), none, none, some (.aload_n 0, 1), some (.getfield 41, 3)],
  [none, none, some (.iload_n 1, 1), some (.iaload, 1), some (.aload_n 0, 1), some (.getfield 50, 3), none, none],
  [some (.iload_n 1, 1), some (.iaload, 1), some (.aload_n 0, 1), some (.getfield 41, 3), none, none, some (.iload_n 2, 1), some (.iaload, 1)],
  [some (.aload_n 0, 1), some (.getfield 50, 3), none, none, some (.iload_n 2, 1), some (.iaload, 1), some (.invokestatic 148, 3), none],
  [none, some (.ifCond .le 29, 3), none, none, some (.aload_n 0, 1), some (.getfield 38, 3), none, none],
  [some (.iload_n 1, 1), some (.iaload, 1), some (.aload_n 0, 1), some (.getfield 38, 3), none, none, some (.iload_n 2, 1), some (.iaload, 1)],
  [some (.aload_n 0, 1), some (.getfield 47, 3), none, none, some (.iload_n 2, 1), some (.iaload, 1), some (.iadd, 1), some (.if_icmp .lt 7, 3)],
  [none, none, some (.iconst 1, 1), some (.goto 4, 3), none, none, some (.iconst 0, 1), some (.ireturn, 1)]]
def zi83 : List (List (Option (Instr × Nat))) := [
  [some (.aload_n 0, 1), some (.getfield 35, 3), none, none, some (.iload_n 1, 1), some (.iaload, 1), some (.aload_n 0, 1), some (.getfield 44, 3)],
  [none, none, some (.iload_n 1, 1), some (.iaload, 1), some (.aload_n 0, 1), some (.getfield 35, 3), none, none],
  [some (.iload_n 2, 1), some (.iaload, 1), some (.aload_n 0, 1), some (.getfield 44, 3), none, none, some (.iload_n 2, 1), some (.iaload, 1)],
  [some (.invokestatic 148, 3), none, none, some (.ifCond .le 59, 3), none, none, some (.aload_n 0, 1), some (.getfield 38, 3)],
  [none, none, some (.iload_n 1, 1), some (.iaload, 1), some (.aload_n 0, 1), some (.getfield 47, 3), none, none],
  [some (.iload_n 1, 1), some (.iaload, 1), some (.aload_n 0, 1), some (.getfield 38, 3), none, none, some (.iload_n 2, 1), some (.iaload, 1)],
  [some (.aload_n 0, 1), some (.getfield 47, 3), none, none, some (.iload_n 2, 1), some (.iaload, 1), some (.invokestatic 148, 3), none],
  [none, some (.ifCond .le 29, 3), none, none, some (.aload_n 0, 1), some (.getfield 41, 3), none, none],
  [some (.iload_n 1, 1), some (.iaload, 1), some (.aload_n 0, 1), some (.getfield 41, 3), none, none, some (.iload_n 2, 1), some (.iaload, 1)],
  [some (.aload_n 0, 1), some (.getfield 50, 3), none, none, some (.iload_n 2, 1), some (.iaload, 1), some (.iadd, 1), some (.if_icmp .lt 7, 3)],
  [none, none, some (.iconst 1, 1), some (.goto 4, 3), none, none, some (.iconst 0, 1), some (.ireturn, 1)]]
def zi84 : List (List (Option (Instr × Nat))) := [
  [some (.aload_n 0, 1), some (.getfield 35, 3), none, none, some (.iload_n 1, 1), some (.iaload, 1), some (.aload_n 0, 1), some (.getfield 44, 3)],
  [none, none, some (.iload_n 1, 1), some (.iaload, 1), some (.iadd, 1), some (.aload_n 0, 1), some (.getfield 117, 3), none],
  [none, some (.if_icmp .gt 43, 3), none, none, some (.aload_n 0, 1), some (.getfield 38, 3), none, none],
  [some (.iload_n 1, 1), some (.iaload, 1), some (.aload_n 0, 1), some (.getfield 47, 3), none, none, some (.iload_n 1, 1), some (.iaload, 1)],
  [some (.iadd, 1), some (.aload_n 0, 1), some (.getfield 121, 3), none, none, some (.if_icmp .gt 23, 3), none, none],
  [some (.aload_n 0, 1), some (.getfield 41, 3), none, none, some (.iload_n 1, 1), some (.iaload, 1), some (.aload_n 0, 1), some (.getfield 50, 3)],
  [none, none, some (.iload_n 1, 1), some (.iaload, 1), some (.iadd, 1), some (.aload_n 0, 1), some (.getfield 124, 3), none],
  [none, some (.if_icmp .le 5, 3), none, none, some (.iconst 0, 1), some (.ireturn, 1), some (.iconst 0, 1), some (.istore_n 2, 1)],
  [some (.iconst 0, 1), some (.istore_n 3, 1), some (.iload_n 3, 1), some (.iload_n 1, 1), some (.if_icmp .ge 197, 3), none, none, some (.aload_n 0, 1)],
  [some (.getfield 31, 3), none, none, some (.iload_n 3, 1), some (.baload, 1), some (.ifCond .eq 182, 3), none, none],
  [some (.aload_n 0, 1), some (.getfield 35, 3), none, none, some (.iload_n 1, 1), some (.iaload, 1), some (.aload_n 0, 1), some (.getfield 44, 3)],
  [none, none, some (.iload_n 1, 1), some (.iaload, 1), some (.aload_n 0, 1), some (.getfield 35, 3), none, none],
  [some (.iload_n 3, 1), some (.iaload, 1), some (.aload_n 0, 1), some (.getfield 44, 3), none, none, some (.iload_n 3, 1), some (.iaload, 1)],
  [some (.invokestatic 148, 3), none, none, some (.istore 4, 2), none, some (.aload_n 0, 1), some (.getfield 41, 3), none],
  [none, some (.iload_n 1, 1), some (.iaload, 1), some (.aload_n 0, 1), some (.getfield 50, 3), none, none, some (.iload_n 1, 1)],
  [some (.iaload, 1), some (.aload_n 0, 1), some (.getfield 41, 3), none, none, some (.iload_n 3, 1), some (.iaload, 1), some (.aload_n 0, 1)],
  [some (.getfield 50, 3), none, none, some (.iload_n 3, 1), some (.iaload, 1), some (.invokestatic 148, 3), none, none],
  [some (.istore 5, 2), none, some (.iload 4, 2), none, some (.ifCond .le 40, 3), none, none, some (.iload 5, 2)],
  [none, some (.ifCond .le 35, 3), none, none, some (.aload_n 0, 1), some (.getfield 38, 3), none, none],
  [some (.iload_n 1, 1), some (.iaload, 1), some (.aload_n 0, 1), some (.getfield 47, 3), none, none, some (.iload_n 1, 1), some (.iaload, 1)],
  [some (.aload_n 0, 1), some (.getfield 38, 3), none, none, some (.iload_n 3, 1), some (.iaload, 1), some (.aload_n 0, 1), some (.getfield 47, 3)],
  [none, none, some (.iload_n 3, 1), some (.iaload, 1), some (.invokestatic 148, 3), none, none, some (.ifCond .le 5, 3)],
  [none, none, some (.iconst 0, 1), some (.ireturn, 1), some (.iload_n 2, 1), some (.aload_n 0, 1), some (.getfield 38, 3), none],
  [none, some (.iload_n 3, 1), some (.iaload, 1), some (.aload_n 0, 1), some (.getfield 47, 3), none, none, some (.iload_n 3, 1)],
  [some (.iaload, 1), some (.iadd, 1), some (.aload_n 0, 1), some (.getfield 38, 3), none, none, some (.iload_n 1, 1), some (.iaload, 1)],
  [some (.if_icmp .ne 11, 3), none, none, some (.iload 4, 2), none, some (.iload 5, 2), none, some (.imul, 1)],
  [some (.goto 4, 3), none, none, some (.iconst 0, 1), some (.iadd, 1), some (.istore_n 2, 1), some (.aload_n 0, 1), some (.getfield 28, 3)],
  [none, none, some (.iload_n 1, 1), some (.iaload, 1), some (.aload_n 0, 1), some (.getfield 28, 3), none, none],
  [some (.iload_n 3, 1), some (.iaload, 1), some (.isub, 1), some (.istore 6, 2), none, some (.iload 6, 2), none, some (.ifCond .le 12, 3)],
  [none, none, some (.aload_n 0, 1), some (.iload_n 1, 1), some (.iload_n 3, 1), some (.invokevirtual 152, 3), none, none],
  [some (.ifCond .ne 17, 3), none, none, some (.iload 6, 2), none, some (.ifCond .ge 14, 3), none, none],
  [some (.aload_n 0, 1), some (.iload_n 3, 1), some (.iload_n 1, 1), some (.invokevirtual 152, 3), none, none, some (.ifCond .eq 5, 3), none],
  [none, some (.iconst 0, 1), some (.ireturn, 1), some (.iinc 3 1, 3), none, none, some (.goto (-196), 3), none],
  [none, some (.aload_n 0, 1), some (.getfield 38, 3), none, none, some (.iload_n 1, 1), some (.iaload, 1), some (.ifCond .eq 20, 3)],
  [none, none, some (.iload_n 2, 1), some (.aload_n 0, 1), some (.getfield 44, 3), none, none, some (.iload_n 1, 1)],
  [some (.iaload, 1), some (.aload_n 0, 1), some (.getfield 50, 3), none, none, some (.iload_n 1, 1), some (.iaload, 1), some (.imul, 1)],
  [some (.if_icmp .ne 15, 3), none, none, some (.aload_n 0, 1), some (.iload_n 1, 1), some (.invokevirtual 156, 3), none, none],
  [some (.ifCond .eq 7, 3), none, none, some (.iconst 1, 1), some (.goto 4, 3), none, none, some (.iconst 0, 1)],
  [some (.ireturn, 1), none, none, none, none, none, none, none]]
def zi85 : List (List (Option (Instr × Nat))) := [
  [some (.iconst 1, 1), some (.istore_n 2, 1), some (.iconst 0, 1), some (.istore_n 3, 1), some (.iload_n 3, 1), some (.iload_n 1, 1), some (.if_icmp .gt 132, 3), none],
  [none, some (.iconst 0, 1), some (.istore 4, 2), none, some (.iconst 0, 1), some (.istore 5, 2), none, some (.iload 5, 2)],
  [none, some (.iload_n 1, 1), some (.if_icmp .gt 83, 3), none, none, some (.iload_n 3, 1), some (.iload 5, 2), none],
  [some (.if_icmp .eq 47, 3), none, none, some (.iload_n 3, 1), some (.iload_n 1, 1), some (.if_icmp .eq 12, 3), none, none],
  [some (.aload_n 0, 1), some (.getfield 31, 3), none, none, some (.iload_n 3, 1), some (.baload, 1), some (.ifCond .eq 33, 3), none],
  [none, some (.iload 5, 2), none, some (.iload_n 1, 1), some (.if_icmp .eq 13, 3), none, none, some (.aload_n 0, 1)],
  [some (.getfield 31, 3), none, none, some (.iload 5, 2), none, some (.baload, 1), some (.ifCond .eq 17, 3), none],
  [none, some (.aload_n 0, 1), some (.iload 5, 2), none, some (.iload_n 3, 1), some (.invokevirtual 159, 3), none, none],
  [some (.ifCond .eq 7, 3), none, none, some (.iconst 1, 1), some (.goto 4, 3), none, none, some (.iconst 0, 1)],
  [some (.istore 6, 2), none, some (.iload 4, 2), none, some (.iload 6, 2), none, some (.ifCond .eq 13, 3), none],
  [none, some (.aload_n 0, 1), some (.getfield 19, 3), none, none, some (.iload 5, 2), none, some (.iaload, 1)],
  [some (.goto 4, 3), none, none, some (.iconst 0, 1), some (.iadd, 1), some (.istore 4, 2), none, some (.iinc 5 1, 3)],
  [none, none, some (.goto (-83), 3), none, none, some (.iload_n 2, 1), some (.ifCond .eq 28, 3), none],
  [none, some (.aload_n 0, 1), some (.getfield 25, 3), none, none, some (.iload_n 3, 1), some (.iaload, 1), some (.iconst (-1), 1)],
  [some (.if_icmp .eq 14, 3), none, none, some (.iload 4, 2), none, some (.aload_n 0, 1), some (.getfield 25, 3), none],
  [none, some (.iload_n 3, 1), some (.iaload, 1), some (.if_icmp .gt 7, 3), none, none, some (.iconst 1, 1), some (.goto 4, 3)],
  [none, none, some (.iconst 0, 1), some (.istore_n 2, 1), some (.iinc 3 1, 3), none, none, some (.goto (-131), 3)],
  [none, none, some (.iload_n 2, 1), some (.ireturn, 1), none, none, none, none]]
def zi86 : List (List (Option (Instr × Nat))) := [
  [some (.iconst 0, 1), some (.istore 4, 2), none, some (.iload 4, 2), none, some (.iload_n 2, 1), some (.if_icmp .ge 19, 3), none],
  [none, some (.aload_n 0, 1), some (.iload_n 1, 1), some (.iload 4, 2), none, some (.iadd, 1), some (.iaload, 1), some (.iload_n 3, 1)],
  [some (.if_icmp .ge 9, 3), none, none, some (.iinc 4 1, 3), none, none, some (.goto (-19), 3), none],
  [none, some (.iload 4, 2), none, some (.iload_n 2, 1), some (.if_icmp .ge 15, 3), none, none, some (.aload_n 0, 1)],
  [some (.iload_n 1, 1), some (.iload 4, 2), none, some (.iadd, 1), some (.iaload, 1), some (.iload_n 3, 1), some (.if_icmp .ne 5, 3), none],
  [none, some (.iload_n 2, 1), some (.ireturn, 1), some (.iload_n 2, 1), some (.istore 5, 2), none, some (.iload 5, 2), none],
  [some (.iload 4, 2), none, some (.if_icmp .le 23, 3), none, none, some (.aload_n 0, 1), some (.iload_n 1, 1), some (.iload 5, 2)],
  [none, some (.iadd, 1), some (.aload_n 0, 1), some (.iload_n 1, 1), some (.iload 5, 2), none, some (.iadd, 1), some (.iconst 1, 1)],
  [some (.isub, 1), some (.iaload, 1), some (.iastore, 1), some (.iinc 5 (-1), 3), none, none, some (.goto (-24), 3), none],
  [none, some (.aload_n 0, 1), some (.iload_n 1, 1), some (.iload 4, 2), none, some (.iadd, 1), some (.iload_n 3, 1), some (.iastore, 1)],
  [some (.iload_n 2, 1), some (.iconst 1, 1), some (.iadd, 1), some (.ireturn, 1), none, none, none, none]]
def zi87 : List (List (Option (Instr × Nat))) := [
  [some (.aload_n 0, 1), some (.getfield 86, 3), none, none, some (.iload_n 1, 1), some (.iconst 0, 1), some (.iastore, 1), some (.aload_n 0, 1)],
  [some (.getfield 89, 3), none, none, some (.iload_n 1, 1), some (.iconst 0, 1), some (.iastore, 1), some (.iconst 0, 1), some (.istore_n 2, 1)],
  [some (.iload_n 2, 1), some (.aload_n 0, 1), some (.getfield 22, 3), none, none, some (.iload_n 1, 1), some (.iaload, 1), some (.invokestatic 138, 3)],
  [none, none, some (.if_icmp .ge 140, 3), none, none, some (.iconst 0, 1), some (.istore_n 3, 1), some (.iconst 0, 1)],
  [some (.istore 4, 2), none, some (.iload 4, 2), none, some (.aload_n 0, 1), some (.getfield 89, 3), none, none],
  [some (.iload_n 1, 1), some (.iaload, 1), some (.if_icmp .ge 87, 3), none, none, some (.aload_n 0, 1), some (.getfield 92, 3), none],
  [none, some (.bipush 6, 2), none, some (.iload_n 1, 1), some (.imul, 1), some (.iload 4, 2), none, some (.iadd, 1)],
  [some (.iaload, 1), some (.istore 5, 2), none, some (.iload_n 3, 1), some (.ifCond .ne 57, 3), none, none, some (.aload_n 0, 1)],
  [some (.iload_n 1, 1), some (.iload 5, 2), none, some (.iconst 0, 1), some (.invokevirtual 141, 3), none, none, some (.aload_n 0, 1)],
  [some (.iload_n 1, 1), some (.iload_n 2, 1), some (.iconst 0, 1), some (.invokevirtual 141, 3), none, none, some (.if_icmp .ne 43, 3), none],
  [none, some (.aload_n 0, 1), some (.iload_n 1, 1), some (.iload 5, 2), none, some (.iconst 1, 1), some (.invokevirtual 141, 3), none],
  [none, some (.aload_n 0, 1), some (.iload_n 1, 1), some (.iload_n 2, 1), some (.iconst 1, 1), some (.invokevirtual 141, 3), none, none],
  [some (.if_icmp .ne 25, 3), none, none, some (.aload_n 0, 1), some (.iload_n 1, 1), some (.iload 5, 2), none, some (.iconst 2, 1)],
  [some (.invokevirtual 141, 3), none, none, some (.aload_n 0, 1), some (.iload_n 1, 1), some (.iload_n 2, 1), some (.iconst 2, 1), some (.invokevirtual 141, 3)],
  [none, none, some (.if_icmp .ne 7, 3), none, none, some (.iconst 1, 1), some (.goto 4, 3), none],
  [none, some (.iconst 0, 1), some (.istore_n 3, 1), some (.iinc 4 1, 3), none, none, some (.goto (-92), 3), none],
  [none, some (.iload_n 3, 1), some (.ifCond .ne 30, 3), none, none, some (.aload_n 0, 1), some (.getfield 92, 3), none],
  [none, some (.bipush 6, 2), none, some (.iload_n 1, 1), some (.imul, 1), some (.aload_n 0, 1), some (.getfield 89, 3), none],
  [none, some (.iload_n 1, 1), some (.iaload, 1), some (.iadd, 1), some (.iload_n 2, 1), some (.iastore, 1), some (.aload_n 0, 1), some (.getfield 89, 3)],
  [none, none, some (.iload_n 1, 1), some (.dup2, 1), some (.iaload, 1), some (.iconst 1, 1), some (.iadd, 1), some (.iastore, 1)],
  [some (.iinc 2 1, 3), none, none, some (.goto (-147), 3), none, none, some (.aload_n 0, 1), some (.getfield 95, 3)],
  [none, none, some (.iload_n 1, 1), some (.aload_n 0, 1), some (.getfield 104, 3), none, none, some (.bipush 7, 2)],
  [none, some (.iload_n 1, 1), some (.imul, 1), some (.iconst 0, 1), some (.iconst 0, 1), some (.invokestatic 162, 3), none, none],
  [some (.iastore, 1), some (.aload_n 0, 1), some (.getfield 98, 3), none, none, some (.iload_n 1, 1), some (.aload_n 0, 1), some (.getfield 107, 3)],
  [none, none, some (.bipush 7, 2), none, some (.iload_n 1, 1), some (.imul, 1), some (.iconst 0, 1), some (.iconst 0, 1)],
  [some (.invokestatic 162, 3), none, none, some (.iastore, 1), some (.aload_n 0, 1), some (.getfield 101, 3), none, none],
  [some (.iload_n 1, 1), some (.aload_n 0, 1), some (.getfield 110, 3), none, none, some (.bipush 7, 2), none, some (.iload_n 1, 1)],
  [some (.imul, 1), some (.iconst 0, 1), some (.iconst 0, 1), some (.invokestatic 162, 3), none, none, some (.iastore, 1), some (.iconst 0, 1)],
  [some (.istore_n 2, 1), some (.iload_n 2, 1), some (.iload_n 1, 1), some (.if_icmp .ge 126, 3), none, none, some (.aload_n 0, 1), some (.getfield 31, 3)],
  [none, none, some (.iload_n 2, 1), some (.baload, 1), some (.ifCond .eq 111, 3), none, none, some (.aload_n 0, 1)],
  [some (.getfield 95, 3), none, none, some (.iload_n 1, 1), some (.aload_n 0, 1), some (.getfield 104, 3), none, none],
  [some (.bipush 7, 2), none, some (.iload_n 1, 1), some (.imul, 1), some (.aload_n 0, 1), some (.getfield 95, 3), none, none],
  [some (.iload_n 1, 1), some (.iaload, 1), some (.aload_n 0, 1), some (.getfield 35, 3), none, none, some (.iload_n 2, 1), some (.iaload, 1)],
  [some (.aload_n 0, 1), some (.getfield 44, 3), none, none, some (.iload_n 2, 1), some (.iaload, 1), some (.iadd, 1), some (.invokestatic 162, 3)],
  [none, none, some (.iastore, 1), some (.aload_n 0, 1), some (.getfield 98, 3), none, none, some (.iload_n 1, 1)],
  [some (.aload_n 0, 1), some (.getfield 107, 3), none, none, some (.bipush 7, 2), none, some (.iload_n 1, 1), some (.imul, 1)],
  [some (.aload_n 0, 1), some (.getfield 98, 3), none, none, some (.iload_n 1, 1), some (.iaload, 1), some (.aload_n 0, 1), some (.getfield 38, 3)],
  [none, none, some (.iload_n 2, 1), some (.iaload, 1), some (.aload_n 0, 1), some (.getfield 47, 3), none, none],
  [some (.iload_n 2, 1), some (.iaload, 1), some (.iadd, 1), some (.invokestatic 162, 3), none, none, some (.iastore, 1), some (.aload_n 0, 1)],
  [some (.getfield 101, 3), none, none, some (.iload_n 1, 1), some (.aload_n 0, 1), some (.getfield 110, 3), none, none],
  [some (.bipush 7, 2), none, some (.iload_n 1, 1), some (.imul, 1), some (.aload_n 0, 1), some (.getfield 101, 3), none, none],
  [some (.iload_n 1, 1), some (.iaload, 1), some (.aload_n 0, 1), some (.getfield 41, 3), none, none, some (.iload_n 2, 1), some (.iaload, 1)],
  [some (.aload_n 0, 1), some (.getfield 50, 3), none, none, some (.iload_n 2, 1), some (.iaload, 1), some (.iadd, 1), some (.invokestatic 162, 3)],
  [none, none, some (.iastore, 1), some (.iinc 2 1, 3), none, none, some (.goto (-125), 3), none],
  [none, some (.return_, 1), none, none, none, none, none, none]]
def zi88 : List (List (Option (Instr × Nat))) := [
  [some (.iload_n 2, 1), some (.istore_n 3, 1), some (.aload_n 0, 1), some (.getfield 35, 3), none, none, some (.iload_n 1, 1), some (.aload_n 0, 1)],
  [some (.getfield 104, 3), none, none, some (.bipush 7, 2), none, some (.iload_n 1, 1), some (.imul, 1), some (.iload_n 3, 1)],
  [some (.aload_n 0, 1), some (.getfield 95, 3), none, none, some (.iload_n 1, 1), some (.iaload, 1), some (.irem, 1), some (.iadd, 1)],
  [some (.iaload, 1), some (.iastore, 1), some (.iload_n 3, 1), some (.aload_n 0, 1), some (.getfield 95, 3), none, none, some (.iload_n 1, 1)],
  [some (.iaload, 1), some (.idiv, 1), some (.istore_n 3, 1), some (.aload_n 0, 1), some (.getfield 41, 3), none, none, some (.iload_n 1, 1)],
  [some (.aload_n 0, 1), some (.getfield 110, 3), none, none, some (.bipush 7, 2), none, some (.iload_n 1, 1), some (.imul, 1)],
  [some (.iload_n 3, 1), some (.aload_n 0, 1), some (.getfield 101, 3), none, none, some (.iload_n 1, 1), some (.iaload, 1), some (.irem, 1)],
  [some (.iadd, 1), some (.iaload, 1), some (.iastore, 1), some (.iload_n 3, 1), some (.aload_n 0, 1), some (.getfield 101, 3), none, none],
  [some (.iload_n 1, 1), some (.iaload, 1), some (.idiv, 1), some (.istore_n 3, 1), some (.aload_n 0, 1), some (.getfield 38, 3), none, none],
  [some (.iload_n 1, 1), some (.aload_n 0, 1), some (.getfield 107, 3), none, none, some (.bipush 7, 2), none, some (.iload_n 1, 1)],
  [some (.imul, 1), some (.iload_n 3, 1), some (.aload_n 0, 1), some (.getfield 98, 3), none, none, some (.iload_n 1, 1), some (.iaload, 1)],
  [some (.irem, 1), some (.iadd, 1), some (.iaload, 1), some (.iastore, 1), some (.aload_n 0, 1), some (.getfield 53, 3), none, none],
  [some (.iload_n 1, 1), some (.aload_n 0, 1), some (.getfield 92, 3), none, none, some (.bipush 6, 2), none, some (.iload_n 1, 1)],
  [some (.imul, 1), some (.iload_n 3, 1), some (.aload_n 0, 1), some (.getfield 98, 3), none, none, some (.iload_n 1, 1), some (.iaload, 1)],
  [some (.idiv, 1), some (.iadd, 1), some (.iaload, 1), some (.iastore, 1), some (.aload_n 0, 1), some (.getfield 44, 3), none, none],
  [some (.iload_n 1, 1), some (.aload_n 0, 1), some (.iload_n 1, 1), some (.aload_n 0, 1), some (.getfield 53, 3), none, none, some (.iload_n 1, 1)],
  [some (.iaload, 1), some (.iconst 0, 1), some (.invokevirtual 141, 3), none, none, some (.iastore, 1), some (.aload_n 0, 1), some (.getfield 47, 3)],
  [none, none, some (.iload_n 1, 1), some (.aload_n 0, 1), some (.iload_n 1, 1), some (.aload_n 0, 1), some (.getfield 53, 3), none],
  [none, some (.iload_n 1, 1), some (.iaload, 1), some (.iconst 1, 1), some (.invokevirtual 141, 3), none, none, some (.iastore, 1)],
  [some (.aload_n 0, 1), some (.getfield 50, 3), none, none, some (.iload_n 1, 1), some (.aload_n 0, 1), some (.iload_n 1, 1), some (.aload_n 0, 1)],
  [some (.getfield 53, 3), none, none, some (.iload_n 1, 1), some (.iaload, 1), some (.iconst 2, 1), some (.invokevirtual 141, 3), none],
  [none, some (.iastore, 1), some (.return_, 1), none, none, none, none, none]]
def zi89 : List (List (Option (Instr × Nat))) := [
  [some (.iconst 0, 1), some (.istore_n 1, 1), some (.lconst 0, 1), some (.lstore_n 2, 1), some (.iconst 0, 1), some (.istore 4, 2), none, some (.iload 4, 2)],
  [none, some (.aload_n 0, 1), some (.getfield 127, 3), none, none, some (.if_icmp .ge 83, 3), none, none],
  [some (.iload_n 1, 1), some (.aload_n 0, 1), some (.getfield 31, 3), none, none, some (.iload 4, 2), none, some (.baload, 1)],
  [some (.ifCond .eq 29, 3), none, none, some (.aload_n 0, 1), some (.getfield 44, 3), none, none, some (.iload 4, 2)],
  [none, some (.iaload, 1), some (.aload_n 0, 1), some (.getfield 47, 3), none, none, some (.iload 4, 2), none],
  [some (.iaload, 1), some (.imul, 1), some (.aload_n 0, 1), some (.getfield 50, 3), none, none, some (.iload 4, 2), none],
  [some (.iaload, 1), some (.imul, 1), some (.goto 4, 3), none, none, some (.iconst 0, 1), some (.iadd, 1), some (.istore_n 1, 1)],
  [some (.lload_n 2, 1), some (.aload_n 0, 1), some (.getfield 31, 3), none, none, some (.iload 4, 2), none, some (.baload, 1)],
  [some (.ifCond .eq 23, 3), none, none, some (.aload_n 0, 1), some (.getfield 19, 3), none, none, some (.iload 4, 2)],
  [none, some (.iaload, 1), some (.i2l, 1), some (.aload_n 0, 1), some (.getfield 38, 3), none, none, some (.iload 4, 2)],
  [none, some (.iaload, 1), some (.i2l, 1), some (.lmul, 1), some (.goto 4, 3), none, none, some (.lconst 0, 1)],
  [some (.ladd, 1), some (.lstore_n 2, 1), some (.iinc 4 1, 3), none, none, some (.goto (-86), 3), none, none],
  [some (.aload_n 0, 1), some (.getfield 166, 3), none, none, some (.ifCond .eq 29, 3), none, none, some (.iload_n 1, 1)],
  [some (.aload_n 0, 1), some (.getfield 170, 3), none, none, some (.if_icmp .lt 20, 3), none, none, some (.iload_n 1, 1)],
  [some (.aload_n 0, 1), some (.getfield 170, 3), none, none, some (.if_icmp .ne 13, 3), none, none, some (.lload_n 2, 1)],
  [some (.aload_n 0, 1), some (.getfield 173, 3), none, none, some (.lcmp, 1), some (.ifCond .lt 4, 3), none, none],
  [some (.return_, 1), some (.aload_n 0, 1), some (.iconst 1, 1), some (.putfield 166, 3), none, none, some (.aload_n 0, 1), some (.iload_n 1, 1)],
  [some (.putfield 170, 3), none, none, some (.aload_n 0, 1), some (.lload_n 2, 1), some (.putfield 173, 3), none, none],
  [some (.iconst 0, 1), some (.istore 4, 2), none, some (.iload 4, 2), none, some (.bipush 6, 2), none, some (.if_icmp .ge 166, 3)],
  [none, none, some (.aload_n 0, 1), some (.getfield 56, 3), none, none, some (.iload 4, 2), none],
  [some (.iload 4, 2), none, some (.aload_n 0, 1), some (.getfield 127, 3), none, none, some (.if_icmp .ge 17, 3), none],
  [none, some (.aload_n 0, 1), some (.getfield 31, 3), none, none, some (.iload 4, 2), none, some (.baload, 1)],
  [some (.ifCond .eq 7, 3), none, none, some (.iconst 1, 1), some (.goto 4, 3), none, none, some (.iconst 0, 1)],
  [some (.bastore, 1), some (.aload_n 0, 1), some (.getfield 59, 3), none, none, some (.iload 4, 2), none, some (.aload_n 0, 1)],
  [some (.getfield 35, 3), none, none, some (.iload 4, 2), none, some (.iaload, 1), some (.iastore, 1), some (.aload_n 0, 1)],
  [some (.getfield 62, 3), none, none, some (.iload 4, 2), none, some (.aload_n 0, 1), some (.getfield 38, 3), none],
  [none, some (.iload 4, 2), none, some (.iaload, 1), some (.iastore, 1), some (.aload_n 0, 1), some (.getfield 65, 3), none],
  [none, some (.iload 4, 2), none, some (.aload_n 0, 1), some (.getfield 41, 3), none, none, some (.iload 4, 2)],
  [none, some (.iaload, 1), some (.iastore, 1), some (.aload_n 0, 1), some (.getfield 68, 3), none, none, some (.iload 4, 2)],
  [none, some (.aload_n 0, 1), some (.getfield 44, 3), none, none, some (.iload 4, 2), none, some (.iaload, 1)],
  [some (.iastore, 1), some (.aload_n 0, 1), some (.getfield 71, 3), none, none, some (.iload 4, 2), none, some (.aload_n 0, 1)],
  [some (.getfield 47, 3), none, none, some (.iload 4, 2), none, some (.iaload, 1), some (.iastore, 1), some (.aload_n 0, 1)],
  [some (.getfield 74, 3), none, none, some (.iload 4, 2), none, some (.aload_n 0, 1), some (.getfield 50, 3), none],
  [none, some (.iload 4, 2), none, some (.iaload, 1), some (.iastore, 1), some (.aload_n 0, 1), some (.getfield 77, 3), none],
  [none, some (.iload 4, 2), none, some (.aload_n 0, 1), some (.getfield 53, 3), none, none, some (.iload 4, 2)],
  [none, some (.iaload, 1), some (.iastore, 1), some (.aload_n 0, 1), some (.getfield 80, 3), none, none, some (.iload 4, 2)],
  [none, some (.aload_n 0, 1), some (.getfield 19, 3), none, none, some (.iload 4, 2), none, some (.iaload, 1)],
  [some (.iastore, 1), some (.aload_n 0, 1), some (.getfield 83, 3), none, none, some (.iload 4, 2), none, some (.aload_n 0, 1)],
  [some (.getfield 28, 3), none, none, some (.iload 4, 2), none, some (.iaload, 1), some (.iastore, 1), some (.iinc 4 1, 3)],
  [none, none, some (.goto (-167), 3), none, none, some (.return_, 1), none, none]]
def zi90 : List (List (Option (Instr × Nat))) := [
  [some (.iload_n 1, 1), some (.iconst 1, 1), some (.sipush 500, 3), none, none, some (.invokestatic 130, 3), none, none],
  [some (.ifCond .ne 6, 3), none, none, some (.bipush (-102), 2), none, some (.ireturn, 1), some (.aload_n 0, 1), some (.getfield 127, 3)],
  [none, none, some (.ifCond .ne 6, 3), none, none, some (.bipush (-103), 2), none, some (.ireturn, 1)],
  [some (.iload_n 1, 1), some (.sipush 3000, 3), none, none, some (.aload_n 0, 1), some (.getfield 177, 3), none, none],
  [some (.isub, 1), some (.if_icmp .le 6, 3), none, none, some (.bipush (-104), 2), none, some (.ireturn, 1), some (.aload_n 0, 1)],
  [some (.iconst 0, 1), some (.putfield 166, 3), none, none, some (.aload_n 0, 1), some (.iconst 0, 1), some (.putfield 180, 3), none],
  [none, some (.iconst 0, 1), some (.istore_n 2, 1), some (.iload_n 2, 1), some (.bipush 6, 2), none, some (.if_icmp .ge 16, 3), none],
  [none, some (.aload_n 0, 1), some (.getfield 31, 3), none, none, some (.iload_n 2, 1), some (.iconst 0, 1), some (.bastore, 1)],
  [some (.iinc 2 1, 3), none, none, some (.goto (-16), 3), none, none, some (.iconst 0, 1), some (.istore_n 2, 1)],
  [some (.aload_n 0, 1), some (.iconst 0, 1), some (.invokevirtual 183, 3), none, none, some (.iload_n 2, 1), some (.ifCond .lt 202, 3), none],
  [none, some (.aload_n 0, 1), some (.getfield 89, 3), none, none, some (.iload_n 2, 1), some (.iaload, 1), some (.aload_n 0, 1)],
  [some (.getfield 95, 3), none, none, some (.iload_n 2, 1), some (.iaload, 1), some (.imul, 1), some (.aload_n 0, 1), some (.getfield 98, 3)],
  [none, none, some (.iload_n 2, 1), some (.iaload, 1), some (.imul, 1), some (.aload_n 0, 1), some (.getfield 101, 3), none],
  [none, some (.iload_n 2, 1), some (.iaload, 1), some (.imul, 1), some (.istore_n 3, 1), some (.aload_n 0, 1), some (.getfield 31, 3), none],
  [none, some (.iload_n 2, 1), some (.iconst 0, 1), some (.bastore, 1), some (.aload_n 0, 1), some (.getfield 86, 3), none, none],
  [some (.iload_n 2, 1), some (.iaload, 1), some (.istore 4, 2), none, some (.aload_n 0, 1), some (.getfield 86, 3), none, none],
  [some (.iload_n 2, 1), some (.dup2, 1), some (.iaload, 1), some (.iconst 1, 1), some (.iadd, 1), some (.iastore, 1), some (.iload 4, 2), none],
  [some (.iload_n 3, 1), some (.if_icmp .ne 7, 3), none, none, some (.iconst 1, 1), some (.goto 4, 3), none, none],
  [some (.iconst 0, 1), some (.istore 5, 2), none, some (.iload 4, 2), none, some (.iload_n 3, 1), some (.if_icmp .ge 44, 3), none],
  [none, some (.aload_n 0, 1), some (.iload_n 2, 1), some (.iload 4, 2), none, some (.invokevirtual 187, 3), none, none],
  [some (.aload_n 0, 1), some (.iload_n 2, 1), some (.invokevirtual 191, 3), none, none, some (.istore 5, 2), none, some (.aload_n 0, 1)],
  [some (.getfield 31, 3), none, none, some (.iload_n 2, 1), some (.iload 5, 2), none, some (.bastore, 1), some (.aload_n 0, 1)],
  [some (.dup, 1), some (.getfield 180, 3), none, none, some (.iload 5, 2), none, some (.ifCond .eq 7, 3), none],
  [none, some (.iconst 1, 1), some (.goto 4, 3), none, none, some (.iconst 0, 1), some (.iadd, 1), some (.putfield 180, 3)],
  [none, none, some (.aload_n 0, 1), some (.getfield 31, 3), none, none, some (.iload_n 2, 1), some (.baload, 1)],
  [some (.ifCond .eq 15, 3), none, none, some (.aload_n 0, 1), some (.getfield 180, 3), none, none, some (.iload_n 1, 1)],
  [some (.if_icmp .ne 7, 3), none, none, some (.iconst 1, 1), some (.goto 4, 3), none, none, some (.iconst 0, 1)],
  [some (.istore 6, 2), none, some (.iload 5, 2), none, some (.ifCond .eq 25, 3), none, none, some (.iload 6, 2)],
  [none, some (.ifCond .ne 13, 3), none, none, some (.iload_n 2, 1), some (.aload_n 0, 1), some (.getfield 127, 3), none],
  [none, some (.iconst 1, 1), some (.isub, 1), some (.if_icmp .ne 10, 3), none, none, some (.aload_n 0, 1), some (.invokevirtual 194, 3)],
  [none, none, some (.goto 16, 3), none, none, some (.iload 5, 2), none, some (.ifCond .eq 11, 3)],
  [none, none, some (.iinc 2 1, 3), none, none, some (.aload_n 0, 1), some (.iload_n 2, 1), some (.invokevirtual 183, 3)],
  [none, none, some (.iload 6, 2), none, some (.ifCond .eq 8, 3), none, none, some (.iconst (-1), 1)],
  [some (.istore_n 2, 1), some (.goto 12, 3), none, none, some (.iload 4, 2), none, some (.iload_n 3, 1), some (.if_icmp .le 6, 3)],
  [none, none, some (.iinc 2 (-1), 3), none, none, some (.goto (-200), 3), none, none],
  [some (.aload_n 0, 1), some (.dup, 1), some (.getfield 177, 3), none, none, some (.aload_n 0, 1), some (.getfield 180, 3), none],
  [none, some (.iadd, 1), some (.putfield 177, 3), none, none, some (.aload_n 0, 1), some (.aload_n 0, 1), some (.getfield 180, 3)],
  [none, none, some (.iload_n 1, 1), some (.if_icmp .ge 7, 3), none, none, some (.iconst 1, 1), some (.goto 4, 3)],
  [none, none, some (.iconst 0, 1), some (.putfield 197, 3), none, none, some (.aload_n 0, 1), some (.getfield 170, 3)],
  [none, none, some (.ireturn, 1), none, none, none, none, none]]
def zi91 : List (List (Option (Instr × Nat))) := [
  [some (.aload_n 0, 1), some (.getfield 197, 3), none, none, some (.ireturn, 1), none, none, none]]
def zi92 : List (List (Option (Instr × Nat))) := [
  [some (.iload_n 1, 1), some (.ifCond .eq 14, 3), none, none, some (.sipush 3000, 3), none, none, some (.aload_n 0, 1)],
  [some (.getfield 177, 3), none, none, some (.isub, 1), some (.goto 7, 3), none, none, some (.aload_n 0, 1)],
  [some (.getfield 180, 3), none, none, some (.ireturn, 1), none, none, none, none]]
def zi93 : List (List (Option (Instr × Nat))) := [
  [some (.aload_n 0, 1), some (.iload_n 1, 1), some (.invokevirtual 134, 3), none, none, some (.ifCond .ne 6, 3), none, none],
  [some (.bipush (-101), 2), none, some (.ireturn, 1), some (.iload_n 2, 1), some (.iconst 0, 1), some (.iconst 3, 1), some (.invokestatic 130, 3), none],
  [none, some (.ifCond .ne 6, 3), none, none, some (.bipush (-102), 2), none, some (.ireturn, 1), some (.iload_n 1, 1)],
  [some (.iconst 1, 1), some (.isub, 1), some (.istore_n 3, 1), some (.aload_n 0, 1), some (.getfield 56, 3), none, none, some (.iload_n 3, 1)],
  [some (.baload, 1), some (.ifCond .ne 7, 3), none, none, some (.iconst (-1), 1), some (.goto 50, 3), none, none],
  [some (.iload_n 2, 1), some (.ifCond .ne 12, 3), none, none, some (.aload_n 0, 1), some (.getfield 59, 3), none, none],
  [some (.iload_n 3, 1), some (.iaload, 1), some (.goto 37, 3), none, none, some (.iload_n 2, 1), some (.iconst 1, 1), some (.if_icmp .ne 12, 3)],
  [none, none, some (.aload_n 0, 1), some (.getfield 62, 3), none, none, some (.iload_n 3, 1), some (.iaload, 1)],
  [some (.goto 23, 3), none, none, some (.iload_n 2, 1), some (.iconst 2, 1), some (.if_icmp .ne 12, 3), none, none],
  [some (.aload_n 0, 1), some (.getfield 65, 3), none, none, some (.iload_n 3, 1), some (.iaload, 1), some (.goto 9, 3), none],
  [none, some (.aload_n 0, 1), some (.getfield 77, 3), none, none, some (.iload_n 3, 1), some (.iaload, 1), some (.ireturn, 1)]]
def zi94 : List (List (Option (Instr × Nat))) := [
  [some (.aload_n 0, 1), some (.iload_n 1, 1), some (.invokevirtual 134, 3), none, none, some (.ifCond .eq 33, 3), none, none],
  [some (.aload_n 0, 1), some (.iload_n 2, 1), some (.invokevirtual 134, 3), none, none, some (.ifCond .eq 25, 3), none, none],
  [some (.aload_n 0, 1), some (.getfield 56, 3), none, none, some (.iload_n 1, 1), some (.iconst 1, 1), some (.isub, 1), some (.baload, 1)],
  [some (.ifCond .eq 14, 3), none, none, some (.aload_n 0, 1), some (.getfield 56, 3), none, none, some (.iload_n 2, 1)],
  [some (.iconst 1, 1), some (.isub, 1), some (.baload, 1), some (.ifCond .ne 5, 3), none, none, some (.iconst 0, 1), some (.ireturn, 1)],
  [some (.iload_n 1, 1), some (.iconst 1, 1), some (.isub, 1), some (.istore_n 3, 1), some (.iload_n 2, 1), some (.iconst 1, 1), some (.isub, 1), some (.istore 4, 2)],
  [none, some (.aload_n 0, 1), some (.getfield 59, 3), none, none, some (.iload_n 3, 1), some (.iaload, 1), some (.aload_n 0, 1)],
  [some (.getfield 68, 3), none, none, some (.iload_n 3, 1), some (.iaload, 1), some (.aload_n 0, 1), some (.getfield 59, 3), none],
  [none, some (.iload 4, 2), none, some (.iaload, 1), some (.aload_n 0, 1), some (.getfield 68, 3), none, none],
  [some (.iload 4, 2), none, some (.iaload, 1), some (.invokestatic 148, 3), none, none, some (.ifCond .le 71, 3), none],
  [none, some (.aload_n 0, 1), some (.getfield 62, 3), none, none, some (.iload_n 3, 1), some (.iaload, 1), some (.aload_n 0, 1)],
  [some (.getfield 71, 3), none, none, some (.iload_n 3, 1), some (.iaload, 1), some (.aload_n 0, 1), some (.getfield 62, 3), none],
  [none, some (.iload 4, 2), none, some (.iaload, 1), some (.aload_n 0, 1), some (.getfield 71, 3), none, none],
  [some (.iload 4, 2), none, some (.iaload, 1), some (.invokestatic 148, 3), none, none, some (.ifCond .le 39, 3), none],
  [none, some (.aload_n 0, 1), some (.getfield 65, 3), none, none, some (.iload_n 3, 1), some (.iaload, 1), some (.aload_n 0, 1)],
  [some (.getfield 74, 3), none, none, some (.iload_n 3, 1), some (.iaload, 1), some (.aload_n 0, 1), some (.getfield 65, 3), none],
  [none, some (.iload 4, 2), none, some (.iaload, 1), some (.aload_n 0, 1), some (.getfield 74, 3), none, none],
  [some (.iload 4, 2), none, some (.iaload, 1), some (.invokestatic 148, 3), none, none, some (.ifCond .le 7, 3), none],
  [none, some (.iconst 1, 1), some (.goto 4, 3), none, none, some (.iconst 0, 1), some (.ireturn, 1), none]]
def zi95 : List (List (Option (Instr × Nat))) := [
  [some (.iload_n 1, 1), some (.iconst 0, 1), some (.aload_n 0, 1), some (.getfield 117, 3), none, none, some (.iconst 1, 1), some (.isub, 1)],
  [some (.invokestatic 130, 3), none, none, some (.ifCond .eq 17, 3), none, none, some (.iload_n 2, 1), some (.iconst 0, 1)],
  [some (.aload_n 0, 1), some (.getfield 124, 3), none, none, some (.iconst 1, 1), some (.isub, 1), some (.invokestatic 130, 3), none],
  [none, some (.ifCond .ne 6, 3), none, none, some (.bipush (-102), 2), none, some (.ireturn, 1), some (.iconst 0, 1)],
  [some (.istore_n 3, 1), some (.iconst 0, 1), some (.istore 4, 2), none, some (.iconst 0, 1), some (.istore 5, 2), none, some (.iload 5, 2)],
  [none, some (.bipush 6, 2), none, some (.if_icmp .ge 105, 3), none, none, some (.aload_n 0, 1), some (.getfield 56, 3)],
  [none, none, some (.iload 5, 2), none, some (.baload, 1), some (.ifCond .eq 89, 3), none, none],
  [some (.iload_n 1, 1), some (.iconst 1, 1), some (.aload_n 0, 1), some (.getfield 59, 3), none, none, some (.iload 5, 2), none],
  [some (.iaload, 1), some (.aload_n 0, 1), some (.getfield 68, 3), none, none, some (.iload 5, 2), none, some (.iaload, 1)],
  [some (.invokestatic 148, 3), none, none, some (.ifCond .le 67, 3), none, none, some (.iload_n 2, 1), some (.iconst 1, 1)],
  [some (.aload_n 0, 1), some (.getfield 65, 3), none, none, some (.iload 5, 2), none, some (.iaload, 1), some (.aload_n 0, 1)],
  [some (.getfield 74, 3), none, none, some (.iload 5, 2), none, some (.iaload, 1), some (.invokestatic 148, 3), none],
  [none, some (.ifCond .le 45, 3), none, none, some (.aload_n 0, 1), some (.getfield 62, 3), none, none],
  [some (.iload 5, 2), none, some (.iaload, 1), some (.aload_n 0, 1), some (.getfield 71, 3), none, none, some (.iload 5, 2)],
  [none, some (.iaload, 1), some (.iadd, 1), some (.iload 4, 2), none, some (.if_icmp .le 25, 3), none, none],
  [some (.iload 5, 2), none, some (.iconst 1, 1), some (.iadd, 1), some (.istore_n 3, 1), some (.aload_n 0, 1), some (.getfield 62, 3), none],
  [none, some (.iload 5, 2), none, some (.iaload, 1), some (.aload_n 0, 1), some (.getfield 71, 3), none, none],
  [some (.iload 5, 2), none, some (.iaload, 1), some (.iadd, 1), some (.istore 4, 2), none, some (.iinc 5 1, 3), none],
  [none, some (.goto (-106), 3), none, none, some (.iload_n 3, 1), some (.ireturn, 1), none, none]]
def zi96 : List (List (Option (Instr × Nat))) := [
  [some (.aload_n 0, 1), some (.getfield 117, 3), none, none, some (.aload_n 0, 1), some (.getfield 121, 3), none, none],
  [some (.imul, 1), some (.aload_n 0, 1), some (.getfield 124, 3), none, none, some (.imul, 1), some (.istore_n 1, 1), some (.iconst 0, 1)],
  [some (.istore_n 2, 1), some (.iload_n 2, 1), some (.bipush 6, 2), none, some (.if_icmp .ge 45, 3), none, none, some (.iload_n 1, 1)],
  [some (.aload_n 0, 1), some (.getfield 56, 3), none, none, some (.iload_n 2, 1), some (.baload, 1), some (.ifCond .eq 26, 3), none],
  [none, some (.aload_n 0, 1), some (.getfield 68, 3), none, none, some (.iload_n 2, 1), some (.iaload, 1), some (.aload_n 0, 1)],
  [some (.getfield 71, 3), none, none, some (.iload_n 2, 1), some (.iaload, 1), some (.imul, 1), some (.aload_n 0, 1), some (.getfield 74, 3)],
  [none, none, some (.iload_n 2, 1), some (.iaload, 1), some (.imul, 1), some (.goto 4, 3), none, none],
  [some (.iconst 0, 1), some (.isub, 1), some (.istore_n 1, 1), some (.iinc 2 1, 3), none, none, some (.goto (-45), 3), none],
  [none, some (.iload_n 1, 1), some (.ireturn, 1), none, none, none, none, none]]
def zi97 : List (List (Option (Instr × Nat))) := [
  [some (.iconst 0, 1), some (.istore_n 1, 1), some (.iconst 0, 1), some (.istore_n 2, 1), some (.iload_n 2, 1), some (.aload_n 0, 1), some (.getfield 127, 3), none],
  [none, some (.if_icmp .ge 44, 3), none, none, some (.iload_n 1, 1), some (.aload_n 0, 1), some (.iload_n 2, 1), some (.invokevirtual 145, 3)],
  [none, none, some (.ifCond .eq 7, 3), none, none, some (.iconst 0, 1), some (.goto 23, 3), none],
  [none, some (.aload_n 0, 1), some (.getfield 7, 3), none, none, some (.iload_n 2, 1), some (.iaload, 1), some (.aload_n 0, 1)],
  [some (.getfield 13, 3), none, none, some (.iload_n 2, 1), some (.iaload, 1), some (.imul, 1), some (.aload_n 0, 1), some (.getfield 16, 3)],
  [none, none, some (.iload_n 2, 1), some (.iaload, 1), some (.imul, 1), some (.iadd, 1), some (.istore_n 1, 1), some (.iinc 2 1, 3)],
  [none, none, some (.goto (-46), 3), none, none, some (.aload_n 0, 1), some (.getfield 117, 3), none],
  [none, some (.aload_n 0, 1), some (.getfield 121, 3), none, none, some (.imul, 1), some (.aload_n 0, 1), some (.getfield 124, 3)],
  [none, none, some (.imul, 1), some (.istore_n 2, 1), some (.iload_n 1, 1), some (.iload_n 2, 1), some (.if_icmp .ge 7, 3), none],
  [none, some (.iload_n 1, 1), some (.goto 4, 3), none, none, some (.iload_n 2, 1), some (.ireturn, 1), none]]
def zi98 : List (List (Option (Instr × Nat))) := [
  [some (.lload_n 0, 1), some (.lstore 4, 2), none, some (.lload_n 2, 1), some (.lstore 6, 2), none, some (.lload 6, 2), none],
  [some (.lconst 0, 1), some (.lcmp, 1), some (.ifCond .eq 21, 3), none, none, some (.lload 4, 2), none, some (.lload 6, 2)],
  [none, some (.lrem, 1), some (.lstore 8, 2), none, some (.lload 6, 2), none, some (.lstore 4, 2), none],
  [some (.lload 8, 2), none, some (.lstore 6, 2), none, some (.goto (-22), 3), none, none, some (.lload 4, 2)],
  [none, some (.lreturn, 1), none, none, none, none, none, none]]
def zi99 : List (List (Option (Instr × Nat))) := [
  [some (.aload_n 0, 1), some (.getfield 200, 3), none, none, some (.ireturn, 1), none, none, none]]
def zi100 : List (List (Option (Instr × Nat))) := [
  [some (.aload_n 0, 1), some (.iconst 0, 1), some (.putfield 200, 3), none, none, some (.iload_n 1, 1), some (.iconst 0, 1), some (.iconst 1, 1)],
  [some (.invokestatic 130, 3), none, none, some (.ifCond .eq 12, 3), none, none, some (.iload_n 2, 1), some (.iconst 0, 1)],
  [some (.iconst 1, 1), some (.invokestatic 130, 3), none, none, some (.ifCond .ne 7, 3), none, none, some (.ldc2_w 203, 3)],
  [none, none, some (.lreturn, 1), some (.lconst 0, 1), some (.lstore_n 3, 1), some (.lconst 0, 1), some (.lstore 5, 2), none],
  [some (.iconst 0, 1), some (.istore 7, 2), none, some (.iload 7, 2), none, some (.bipush 6, 2), none, some (.if_icmp .ge 83, 3)],
  [none, none, some (.aload_n 0, 1), some (.getfield 56, 3), none, none, some (.iload 7, 2), none],
  [some (.baload, 1), some (.ifCond .eq 67, 3), none, none, some (.iconst 2, 1), some (.aload_n 0, 1), some (.getfield 65, 3), none],
  [none, some (.iload 7, 2), none, some (.iaload, 1), some (.imul, 1), some (.aload_n 0, 1), some (.getfield 74, 3), none],
  [none, some (.iload 7, 2), none, some (.iaload, 1), some (.iadd, 1), some (.istore 8, 2), none, some (.lload_n 3, 1)],
  [some (.aload_n 0, 1), some (.getfield 80, 3), none, none, some (.iload 7, 2), none, some (.iaload, 1), some (.i2l, 1)],
  [some (.iload_n 1, 1), some (.iconst 1, 1), some (.if_icmp .ne 8, 3), none, none, some (.iload 8, 2), none, some (.goto 12, 3)],
  [none, none, some (.iconst 2, 1), some (.aload_n 0, 1), some (.getfield 124, 3), none, none, some (.imul, 1)],
  [some (.iload 8, 2), none, some (.isub, 1), some (.i2l, 1), some (.lmul, 1), some (.ladd, 1), some (.lstore_n 3, 1), some (.lload 5, 2)],
  [none, some (.aload_n 0, 1), some (.getfield 80, 3), none, none, some (.iload 7, 2), none, some (.iaload, 1)],
  [some (.i2l, 1), some (.ladd, 1), some (.lstore 5, 2), none, some (.iinc 7 1, 3), none, none, some (.goto (-84), 3)],
  [none, none, some (.lload 5, 2), none, some (.lconst 0, 1), some (.lcmp, 1), some (.ifCond .ne 10, 3), none],
  [none, some (.aload_n 0, 1), some (.iconst 1, 1), some (.putfield 200, 3), none, none, some (.lconst 0, 1), some (.lreturn, 1)],
  [some (.lload 5, 2), none, some (.ldc2_w 205, 3), none, none, some (.lmul, 1), some (.aload_n 0, 1), some (.getfield 124, 3)],
  [none, none, some (.i2l, 1), some (.lmul, 1), some (.lstore 7, 2), none, some (.lload_n 3, 1), some (.lload 7, 2)],
  [none, some (.invokestatic 207, 3), none, none, some (.lstore 9, 2), none, some (.iload_n 2, 1), some (.ifCond .ne 10, 3)],
  [none, none, some (.lload_n 3, 1), some (.lload 9, 2), none, some (.ldiv, 1), some (.goto 8, 3), none],
  [none, some (.lload 7, 2), none, some (.lload 9, 2), none, some (.ldiv, 1), some (.lreturn, 1), none]]
def zi101 : List (List (Option (Instr × Nat))) := [
  [some (.iconst 1, 1), some (.istore_n 2, 1), some (.iconst 0, 1), some (.istore_n 3, 1), some (.iload_n 3, 1), some (.bipush 6, 2), none, some (.if_icmp .ge 208, 3)],
  [none, none, some (.iload_n 3, 1), some (.iload_n 1, 1), some (.if_icmp .eq 197, 3), none, none, some (.aload_n 0, 1)],
  [some (.getfield 56, 3), none, none, some (.iload_n 3, 1), some (.baload, 1), some (.ifCond .eq 188, 3), none, none],
  [some (.aload_n 0, 1), some (.getfield 59, 3), none, none, some (.iload_n 1, 1), some (.iaload, 1), some (.aload_n 0, 1), some (.getfield 68, 3)],
  [none, none, some (.iload_n 1, 1), some (.iaload, 1), some (.aload_n 0, 1), some (.getfield 59, 3), none, none],
  [some (.iload_n 3, 1), some (.iaload, 1), some (.aload_n 0, 1), some (.getfield 68, 3), none, none, some (.iload_n 3, 1), some (.iaload, 1)],
  [some (.invokestatic 148, 3), none, none, some (.ifCond .le 7, 3), none, none, some (.iconst 1, 1), some (.goto 4, 3)],
  [none, none, some (.iconst 0, 1), some (.istore 4, 2), none, some (.aload_n 0, 1), some (.getfield 62, 3), none],
  [none, some (.iload_n 1, 1), some (.iaload, 1), some (.aload_n 0, 1), some (.getfield 71, 3), none, none, some (.iload_n 1, 1)],
  [some (.iaload, 1), some (.aload_n 0, 1), some (.getfield 62, 3), none, none, some (.iload_n 3, 1), some (.iaload, 1), some (.aload_n 0, 1)],
  [some (.getfield 71, 3), none, none, some (.iload_n 3, 1), some (.iaload, 1), some (.invokestatic 148, 3), none, none],
  [some (.ifCond .le 7, 3), none, none, some (.iconst 1, 1), some (.goto 4, 3), none, none, some (.iconst 0, 1)],
  [some (.istore 5, 2), none, some (.aload_n 0, 1), some (.getfield 65, 3), none, none, some (.iload_n 1, 1), some (.iaload, 1)],
  [some (.aload_n 0, 1), some (.getfield 74, 3), none, none, some (.iload_n 1, 1), some (.iaload, 1), some (.aload_n 0, 1), some (.getfield 65, 3)],
  [none, none, some (.iload_n 3, 1), some (.iaload, 1), some (.aload_n 0, 1), some (.getfield 74, 3), none, none],
  [some (.iload_n 3, 1), some (.iaload, 1), some (.invokestatic 148, 3), none, none, some (.ifCond .le 7, 3), none, none],
  [some (.iconst 1, 1), some (.goto 4, 3), none, none, some (.iconst 0, 1), some (.istore 6, 2), none, some (.iload_n 2, 1)],
  [some (.ifCond .eq 71, 3), none, none, some (.iload 4, 2), none, some (.ifCond .eq 30, 3), none, none],
  [some (.iload 6, 2), none, some (.ifCond .eq 25, 3), none, none, some (.aload_n 0, 1), some (.getfield 62, 3), none],
  [none, some (.iload_n 3, 1), some (.iaload, 1), some (.aload_n 0, 1), some (.getfield 62, 3), none, none, some (.iload_n 1, 1)],
  [some (.iaload, 1), some (.aload_n 0, 1), some (.getfield 71, 3), none, none, some (.iload_n 1, 1), some (.iaload, 1), some (.iadd, 1)],
  [some (.if_icmp .ge 39, 3), none, none, some (.iload 4, 2), none, some (.ifCond .eq 30, 3), none, none],
  [some (.iload 5, 2), none, some (.ifCond .eq 25, 3), none, none, some (.aload_n 0, 1), some (.getfield 65, 3), none],
  [none, some (.iload_n 3, 1), some (.iaload, 1), some (.aload_n 0, 1), some (.getfield 65, 3), none, none, some (.iload_n 1, 1)],
  [some (.iaload, 1), some (.aload_n 0, 1), some (.getfield 74, 3), none, none, some (.iload_n 1, 1), some (.iaload, 1), some (.iadd, 1)],
  [some (.if_icmp .ge 7, 3), none, none, some (.iconst 1, 1), some (.goto 4, 3), none, none, some (.iconst 0, 1)],
  [some (.istore_n 2, 1), some (.iinc 3 1, 3), none, none, some (.goto (-208), 3), none, none, some (.iload_n 2, 1)],
  [some (.ireturn, 1), none, none, none, none, none, none, none]]
def zi102 : List (List (Option (Instr × Nat))) := [
  [some (.iload_n 1, 1), some (.iconst 0, 1), some (.bipush 9, 2), none, some (.invokestatic 130, 3), none, none, some (.ifCond .ne 6, 3)],
  [none, none, some (.bipush (-102), 2), none, some (.ireturn, 1), some (.iconst 0, 1), some (.istore_n 2, 1), some (.iconst 1, 1)],
  [some (.istore_n 3, 1), some (.iload_n 3, 1), some (.ifCond .eq 67, 3), none, none, some (.iconst 0, 1), some (.istore_n 3, 1), some (.iconst 0, 1)],
  [some (.istore 4, 2), none, some (.iload 4, 2), none, some (.bipush 6, 2), none, some (.if_icmp .ge 52, 3), none],
  [none, some (.aload_n 0, 1), some (.getfield 56, 3), none, none, some (.iload 4, 2), none, some (.baload, 1)],
  [some (.ifCond .eq 36, 3), none, none, some (.aload_n 0, 1), some (.getfield 83, 3), none, none, some (.iload 4, 2)],
  [none, some (.iaload, 1), some (.iload_n 1, 1), some (.if_icmp .ne 25, 3), none, none, some (.aload_n 0, 1), some (.iload 4, 2)],
  [none, some (.invokevirtual 211, 3), none, none, some (.ifCond .eq 16, 3), none, none, some (.aload_n 0, 1)],
  [some (.getfield 56, 3), none, none, some (.iload 4, 2), none, some (.iconst 0, 1), some (.bastore, 1), some (.iinc 2 1, 3)],
  [none, none, some (.iconst 1, 1), some (.istore_n 3, 1), some (.iinc 4 1, 3), none, none, some (.goto (-53), 3)],
  [none, none, some (.goto (-65), 3), none, none, some (.iload_n 2, 1), some (.ireturn, 1), none]]
def zIT : List (List (List (Option (Instr × Nat)))) := [zi0, zi1, zi2, zi3, zi4, zi5, zi6, zi7, zi8, zi9, zi10, zi11, zi12, zi13, zi14, zi15, zi16, zi17, zi18, zi19, zi20, zi21, zi22, zi23, zi24, zi25, zi26, zi27, zi28, zi29, zi30, zi31, zi32, zi33, zi34, zi35, zi36, zi37, zi38, zi39, zi40, zi41, zi42, zi43, zi44, zi45, zi46, zi47, zi48, zi49, zi50, zi51, zi52, zi53, zi54, zi55, zi56, zi57, zi58, zi59, zi60, zi61, zi62, zi63, zi64, zi65, zi66, zi67, zi68, zi69, zi70, zi71, zi72, zi73, zi74, zi75, zi76, zi77, zi78, zi79, zi80, zi81, zi82, zi83, zi84, zi85, zi86, zi87, zi88, zi89, zi90, zi91, zi92, zi93, zi94, zi95, zi96, zi97, zi98, zi99, zi100, zi101, zi102]
def zFT : List (List (Nat × Nat × Nat × Nat)) := [
  [(11, 0, 0, 141), (18, 2, 0, 94), (30, 2, 1, 97), (34, 2, 9, 114), (37, 2, 10, 117), (40, 2, 7, 109), (47, 2, 2, 99), (58, 2, 3, 101)],
  [(9, 1, 0, 219), (15, 1, 1, 220), (18, 1, 2, 221), (21, 1, 3, 222), (24, 1, 5, 226), (27, 1, 7, 231), (30, 1, 4, 224), (44, 4, 0, 62), (50, 4, 1, 66), (54, 4, 2, 69)],
  [(7, 2, 0, 93), (13, 1, 3, 223), (19, 2, 1, 96), (20, 1, 5, 227), (23, 2, 2, 98), (24, 1, 6, 229), (27, 2, 3, 100), (28, 2, 4, 102), (35, 2, 5, 103), (41, 2, 6, 105), (47, 2, 7, 107), (50, 2, 8, 110), (53, 2, 9, 112), (56, 2, 10, 115)],
  [(9, 3, 0, 154), (15, 3, 1, 155), (19, 3, 3, 157), (26, 3, 2, 156), (29, 3, 4, 158), (33, 3, 7, 161), (37, 3, 8, 163), (43, 3, 5, 159), (46, 3, 6, 160), (49, 0, 0, 142), (88, 4, 0, 61), (93, 2, 5, 104), (94, 4, 1, 65), (97, 2, 6, 106), (98, 4, 2, 68), (101, 2, 7, 108), (114, 2, 8, 111), (131, 2, 0, 95), (135, 2, 9, 113), (142, 2, 10, 116)],
  [(7, 4, 0, 60), (13, 4, 1, 64), (16, 4, 2, 67)],
  [(18, 5, 0, 185), (24, 5, 1, 186), (31, 5, 3, 188), (40, 5, 4, 189), (44, 5, 5, 190), (56, 5, 2, 187), (66, 1, 4, 225), (73, 1, 5, 228), (76, 1, 6, 230), (89, 3, 8, 164), (96, 3, 7, 162), (112, 4, 0, 63), (115, 4, 2, 70)],
  [(7, 6, 7, 582), (13, 6, 8, 583), (16, 6, 9, 584), (19, 6, 10, 585), (22, 6, 11, 586), (25, 6, 12, 587), (28, 6, 13, 588), (31, 6, 14, 589), (35, 6, 15, 590), (38, 6, 16, 591), (41, 6, 17, 592), (44, 6, 18, 593), (47, 6, 19, 594), (50, 6, 20, 595), (53, 6, 21, 596), (56, 6, 22, 597), (59, 6, 23, 598), (62, 6, 24, 599), (65, 6, 25, 600), (68, 6, 26, 601), (71, 6, 27, 602), (74, 6, 28, 603), (77, 6, 29, 604), (80, 6, 30, 605), (83, 6, 31, 606), (86, 6, 35, 610), (89, 6, 36, 611), (92, 6, 37, 612), (95, 6, 38, 613), (98, 6, 39, 614), (101, 6, 40, 615), (104, 6, 41, 616), (107, 6, 42, 617), (110, 6, 43, 618), (117, 6, 0, 575), (121, 6, 1, 576), (124, 6, 2, 577), (127, 6, 3, 578), (166, 6, 34, 609), (170, 6, 32, 607), (173, 6, 33, 608), (177, 6, 4, 579), (180, 6, 5, 580), (197, 6, 6, 581), (200, 6, 44, 619)]]
def zVT : List (List (Nat × Nat × Nat × Nat × Nat × Nat × Nat)) := [
  [(22, 27, 337, 338, 339, 29, 340), (26, 29, 325, 326, 327, 29, 328), (43, 33, 444, 445, 446, 29, 447), (50, 31, 385, 386, 387, 29, 388), (54, 10, 389, 391, 8, 28, 392), (61, 32, 397, 398, 399, 29, 400), (64, 13, 472, 474, 11, 28, 475)],
  [(33, 22, 261, 263, 1, 32, 264), (37, 16, 293, 294, 295, 32, 296), (40, 17, 265, 266, 267, 32, 268), (47, 18, 269, 270, 271, 32, 272), (51, 19, 273, 274, 275, 32, 276)],
  [(31, 17, 362, 266, 267, 32, 268), (38, 18, 363, 270, 271, 32, 272), (44, 19, 364, 274, 275, 32, 276), (59, 26, 341, 342, 343, 29, 344)],
  [(40, 1, 305, 306, 307, 28, 308), (53, 24, 309, 310, 311, 29, 312), (59, 45, 317, 319, 2, 30, 320), (62, 43, 345, 347, 3, 30, 348), (66, 42, 353, 355, 4, 30, 356), (70, 16, 357, 294, 295, 32, 296), (76, 25, 358, 359, 360, 29, 361), (80, 37, 365, 367, 5, 30, 368), (84, 36, 409, 314, 315, 30, 316), (106, 26, 372, 342, 343, 29, 344), (110, 38, 373, 375, 6, 30, 376), (117, 40, 377, 379, 7, 30, 380), (121, 9, 381, 382, 383, 28, 384), (124, 11, 393, 394, 395, 28, 396), (127, 39, 401, 403, 9, 30, 404), (138, 41, 405, 407, 10, 30, 408), (145, 28, 349, 350, 351, 29, 352), (148, 4, 321, 322, 323, 28, 324), (152, 6, 329, 330, 331, 28, 332), (155, 2, 333, 334, 335, 28, 336)],
  [],
  [(62, 64, 253, 255, 0, 25, 256), (69, 15, 257, 258, 259, 32, 260), (79, 20, 289, 290, 291, 32, 292), (83, 35, 301, 302, 303, 30, 304), (86, 36, 313, 314, 315, 30, 316), (92, 4, 410, 322, 323, 28, 324), (99, 3, 423, 424, 425, 28, 426), (103, 28, 427, 350, 351, 29, 352), (108, 30, 432, 433, 434, 29, 435), (118, 8, 440, 441, 442, 28, 443), (122, 47, 452, 453, 454, 26, 455), (123, 21, 460, 461, 462, 32, 463), (133, 5, 489, 490, 491, 28, 492), (143, 7, 559, 560, 561, 28, 562), (150, 12, 468, 469, 470, 28, 471)],
  [(134, 72, 723, 725, 13, 31, 726), (141, 77, 746, 748, 15, 31, 749), (145, 79, 739, 741, 14, 31, 742), (152, 83, 772, 774, 19, 31, 775), (156, 85, 776, 778, 20, 31, 779), (159, 82, 780, 782, 21, 31, 783), (183, 87, 754, 756, 16, 31, 757), (187, 88, 761, 763, 17, 31, 764), (191, 84, 765, 767, 18, 31, 768), (194, 89, 784, 786, 22, 31, 787), (211, 101, 833, 835, 23, 31, 836)]]
def zST : List (List (Nat × Nat × Nat × Nat × Nat × Nat)) := [
  [],
  [],
  [],
  [(102, 44, 369, 370, 30, 371)],
  [],
  [(9, 67, 47, 48, 25, 49), (48, 66, 208, 209, 25, 210), (52, 65, 211, 212, 25, 213), (146, 68, 563, 564, 25, 565)],
  [(113, 70, 572, 573, 31, 574), (130, 71, 716, 717, 31, 718), (138, 78, 743, 744, 31, 745), (148, 81, 769, 770, 31, 771), (162, 86, 758, 759, 31, 760), (207, 98, 826, 827, 31, 828)]]
def zQT : List (List (Nat × Nat × Nat × Nat × Nat × Nat)) := [
  [],
  [],
  [],
  [(25, 0, 153, 83, 28, 84)],
  [],
  [(15, 46, 56, 57, 26, 58), (30, 0, 82, 83, 28, 84), (37, 34, 148, 149, 30, 150), (59, 14, 215, 216, 32, 217)],
  []]
def zNT : List (List (Nat × Nat × Nat × Nat × Nat)) := [
  [(9, 2, 86, 88, 29)],
  [],
  [],
  [(23, 0, 152, 81, 28)],
  [],
  [(7, 4, 45, 46, 26), (22, 1, 78, 214, 32), (28, 0, 80, 81, 28), (35, 3, 146, 147, 30)],
  []]
def zAT : List (List (Nat × Nat × Nat × Nat × Nat)) := [
  [(9, 4, 2, 86, 87)],
  [],
  [],
  [],
  [],
  [(22, 3, 1, 78, 79)],
  []]
def zDF : List (List Value) := [
  [.null],
  [.int 0, .int 0, .int 0, .int 0, .int 0, .int 0, .int 0, .int 0],
  [.int 0, .int 0, .int 0, .int 0, .int 0, .int 0, .int 0, .int 0, .int 0, .int 0, .int 0],
  [.null, .null, .null, .null, .null, .int 0, .int 0, .int 0, .int 0],
  [.int 0, .int 0, .int 0],
  [.null, .null, .int 0, .null, .null, .int 0],
  [.int 0, .int 0, .int 0, .int 0, .int 0, .int 0, .int 0, .null, .null, .null, .null, .null, .null, .null, .null, .null, .null, .null, .null, .null, .null, .null, .null, .null, .null, .null, .null, .null, .null, .null, .null, .null, .int 0, .long 0, .int 0, .null, .null, .null, .null, .null, .null, .null, .null, .null, .int 0]]
def zOT : List (List (Nat × Nat × Nat × Nat)) := [[(3, 85, 43, 44)], [(3, 218, 43, 44)], [(1, 92, 43, 44)], [(3, 151, 43, 44)], [(1, 59, 43, 44)], [(1, 42, 43, 44)], [(1, 571, 43, 44)]]
def zXT : List (List (Nat × Nat × Nat × Nat × Nat × Nat)) := [[], [], [], [], [], [(124, 0, 50, 51, 27, 52), (153, 1, 53, 54, 27, 55)], []]
def zKT : List (List (Nat × Int64 × Nat)) := [[], [], [], [], [], [(129, (-102), 487), (131, 2, 488)], [(203, (-102), 824), (205, 2, 825)]]
def zWT : List (List (Nat × Nat × String × Nat × Nat × Nat × Nat)) := [[(17, 23, "LoadSpace", 90, 29, 91, 89)], [], [], [], [], [], []]
-- array kinds: 0 int, 1 boolean, 2 long, then 3 LoadSpace$Piece, 4 LoadSpace$Place
def zTY : List FieldType := [.int, .boolean, .long, .object RX1, .object RX2]
def zAC : List Nat := [184, 711, 837]
end
section
/-! ===== a small machine over handles: what a method of the program does to rows of cells, as a function ===== -/
abbrev zHp : Type := List va_E
abbrev zLs : Type := List (Option Value)
abbrev zCf : Type := Nat × zLs × List Value × zHp
def zfnd {α : Type} : List (Nat × α) → Nat → Option α
  | [], _ => none
  | e :: t, i => if i = e.1 then some e.2 else zfnd t i
def zrow {α : Type} (T : List (List (Nat × α))) (c i : Nat) : Option α := match T[c]? with
  | none => none
  | some l => zfnd l i
theorem zfnd_mem {α : Type} {i : Nat} {a : α} : ∀ {l : List (Nat × α)}, zfnd l i = some a → (i, a) ∈ l
  | [], h => by cases h
  | e :: t, h => by
    unfold zfnd at h
    split at h
    · next hi => cases h; rw [hi]; exact List.mem_cons_self
    · exact List.mem_cons_of_mem _ (zfnd_mem h)
theorem zrow_mem {α : Type} {T : List (List (Nat × α))} {c i : Nat} {a : α} (h : zrow T c i = some a) : ∃ l, T[c]? = some l ∧ (i, a) ∈ l := by
  unfold zrow at h
  split at h
  · cases h
  · next l hl => exact ⟨l, hl, zfnd_mem h⟩
def zE (mi : Nat) : zME := zMT.getD mi (⟨"", "", ""⟩, ⟨#[]⟩, 0, none, 0, 0)
abbrev zY (mi : Nat) : MethodName := (zE mi).1
abbrev zB (mi : Nat) : ByteArray := (zE mi).2.1
abbrev zL (mi : Nat) : Nat := (zE mi).2.2.1
abbrev zR (mi : Nat) : Option FieldType := (zE mi).2.2.2.1
abbrev zC (mi : Nat) : Nat := (zE mi).2.2.2.2.1
abbrev zN (mi : Nat) : Nat := (zE mi).2.2.2.2.2
def zI (mi pc : Nat) : Option (Instr × Nat) := match zIT[mi]? with
  | none => none
  | some t => match t[pc / 8]? with
    | none => none
    | some r => match r[pc % 8]? with
      | none => none
      | some x => x
end
section
/-! ===== the tables of the program are what the Statement's words and bytes say ===== -/
def zlen : Instr → Nat
  | .bipush _ | .iload _ | .lload _ | .aload _ | .istore _ | .lstore _ | .astore _ | .newarray _ | .ldc _ => 2
  | .sipush _ | .ldc2_w _ | .iinc _ _ | .goto _ | .ifCond _ _ | .if_icmp _ _ | .ifnull _ | .ifnonnull _ | .getfield _ | .putfield _ | .new _ | .anewarray _ | .invokevirtual _ | .invokestatic _ | .invokespecial _ => 3
  | .tableswitch _ _ _ _ | .lookupswitch _ _ => 0
  | _ => 1
def zck1 (b : ByteArray) : Nat → List (Option (Instr × Nat)) → Bool
  | _, [] => true
  | pc, none :: t => zck1 b (pc + 1) t
  | pc, some x :: t => decide (decode b pc = .ok x) && (decide (zlen x.1 = x.2) || decide (zlen x.1 = 0)) && zck1 b (pc + 1) t
def zck2 (b : ByteArray) : Nat → List (List (Option (Instr × Nat))) → Bool
  | _, [] => true
  | r, l :: t => zck1 b r l && zck2 b (r + 8) t
theorem zck1_use {b : ByteArray} {x : Instr × Nat} : ∀ {l : List (Option (Instr × Nat))} {pc k : Nat}, zck1 b pc l = true → l[k]? = some (some x) → decode b (pc + k) = .ok x ∧ (zlen x.1 = x.2 ∨ zlen x.1 = 0)
  | [], _, _, _, h => by simp at h
  | o :: t, pc, 0, h, hk => by
    simp at hk
    subst hk
    simp only [zck1, Bool.and_eq_true, Bool.or_eq_true, decide_eq_true_eq] at h
    exact h.1
  | o :: t, pc, k + 1, h, hk => by
    have h2 : zck1 b (pc + 1) t = true := by
      cases o with
      | none => exact h
      | some y =>
        simp only [zck1, Bool.and_eq_true] at h
        exact h.2
    have := zck1_use (k := k) h2 (by simpa using hk)
    rwa [show pc + 1 + k = pc + (k + 1) by omega] at this
theorem zck2_use {b : ByteArray} {l : List (Option (Instr × Nat))} : ∀ {T : List (List (Option (Instr × Nat)))} {r k : Nat}, zck2 b r T = true → T[k]? = some l → zck1 b (r + 8 * k) l = true
  | [], _, _, _, h => by simp at h
  | o :: t, r, 0, h, hk => by
    simp at hk
    subst hk
    simp only [zck2, Bool.and_eq_true] at h
    exact h.1
  | o :: t, r, k + 1, h, hk => by
    simp only [zck2, Bool.and_eq_true] at h
    have := zck2_use (k := k) h.2 (by simpa using hk)
    rwa [show r + 8 + 8 * k = r + 8 * (k + 1) by omega] at this
def zckI (mi : Nat) : Bool := zck2 (zB mi) 0 (zIT.getD mi [])

set_option maxRecDepth 100000 in
theorem zckI_0 : (List.range' 0 6).all zckI = true := by decide +kernel
set_option maxRecDepth 100000 in
theorem zckI_6 : (List.range' 6 6).all zckI = true := by decide +kernel
set_option maxRecDepth 100000 in
theorem zckI_12 : (List.range' 12 6).all zckI = true := by decide +kernel
set_option maxRecDepth 100000 in
theorem zckI_18 : (List.range' 18 6).all zckI = true := by decide +kernel
set_option maxRecDepth 100000 in
theorem zckI_24 : (List.range' 24 6).all zckI = true := by decide +kernel
set_option maxRecDepth 100000 in
theorem zckI_30 : (List.range' 30 6).all zckI = true := by decide +kernel
set_option maxRecDepth 100000 in
theorem zckI_36 : (List.range' 36 6).all zckI = true := by decide +kernel
set_option maxRecDepth 100000 in
theorem zckI_42 : (List.range' 42 6).all zckI = true := by decide +kernel
set_option maxRecDepth 100000 in
theorem zckI_48 : (List.range' 48 6).all zckI = true := by decide +kernel
set_option maxRecDepth 100000 in
theorem zckI_54 : (List.range' 54 6).all zckI = true := by decide +kernel
set_option maxRecDepth 100000 in
theorem zckI_60 : (List.range' 60 6).all zckI = true := by decide +kernel
set_option maxRecDepth 100000 in
theorem zckI_66 : (List.range' 66 6).all zckI = true := by decide +kernel
set_option maxRecDepth 100000 in
theorem zckI_72 : (List.range' 72 6).all zckI = true := by decide +kernel
set_option maxRecDepth 100000 in
theorem zckI_78 : (List.range' 78 6).all zckI = true := by decide +kernel
set_option maxRecDepth 100000 in
theorem zckI_84 : (List.range' 84 6).all zckI = true := by decide +kernel
set_option maxRecDepth 100000 in
theorem zckI_90 : (List.range' 90 6).all zckI = true := by decide +kernel
set_option maxRecDepth 100000 in
theorem zckI_96 : (List.range' 96 6).all zckI = true := by decide +kernel
set_option maxRecDepth 100000 in
theorem zckI_102 : (List.range' 102 1).all zckI = true := by decide +kernel
theorem zckI_all {mi : Nat} (h : mi < 103) : zckI mi = true := by
  by_cases h0 : mi < 6
  · exact List.all_eq_true.mp zckI_0 mi (List.mem_range'_1.mpr ⟨by omega, by omega⟩)
  by_cases h6 : mi < 12
  · exact List.all_eq_true.mp zckI_6 mi (List.mem_range'_1.mpr ⟨by omega, by omega⟩)
  by_cases h12 : mi < 18
  · exact List.all_eq_true.mp zckI_12 mi (List.mem_range'_1.mpr ⟨by omega, by omega⟩)
  by_cases h18 : mi < 24
  · exact List.all_eq_true.mp zckI_18 mi (List.mem_range'_1.mpr ⟨by omega, by omega⟩)
  by_cases h24 : mi < 30
  · exact List.all_eq_true.mp zckI_24 mi (List.mem_range'_1.mpr ⟨by omega, by omega⟩)
  by_cases h30 : mi < 36
  · exact List.all_eq_true.mp zckI_30 mi (List.mem_range'_1.mpr ⟨by omega, by omega⟩)
  by_cases h36 : mi < 42
  · exact List.all_eq_true.mp zckI_36 mi (List.mem_range'_1.mpr ⟨by omega, by omega⟩)
  by_cases h42 : mi < 48
  · exact List.all_eq_true.mp zckI_42 mi (List.mem_range'_1.mpr ⟨by omega, by omega⟩)
  by_cases h48 : mi < 54
  · exact List.all_eq_true.mp zckI_48 mi (List.mem_range'_1.mpr ⟨by omega, by omega⟩)
  by_cases h54 : mi < 60
  · exact List.all_eq_true.mp zckI_54 mi (List.mem_range'_1.mpr ⟨by omega, by omega⟩)
  by_cases h60 : mi < 66
  · exact List.all_eq_true.mp zckI_60 mi (List.mem_range'_1.mpr ⟨by omega, by omega⟩)
  by_cases h66 : mi < 72
  · exact List.all_eq_true.mp zckI_66 mi (List.mem_range'_1.mpr ⟨by omega, by omega⟩)
  by_cases h72 : mi < 78
  · exact List.all_eq_true.mp zckI_72 mi (List.mem_range'_1.mpr ⟨by omega, by omega⟩)
  by_cases h78 : mi < 84
  · exact List.all_eq_true.mp zckI_78 mi (List.mem_range'_1.mpr ⟨by omega, by omega⟩)
  by_cases h84 : mi < 90
  · exact List.all_eq_true.mp zckI_84 mi (List.mem_range'_1.mpr ⟨by omega, by omega⟩)
  by_cases h90 : mi < 96
  · exact List.all_eq_true.mp zckI_90 mi (List.mem_range'_1.mpr ⟨by omega, by omega⟩)
  by_cases h96 : mi < 102
  · exact List.all_eq_true.mp zckI_96 mi (List.mem_range'_1.mpr ⟨by omega, by omega⟩)
  by_cases h102 : mi < 103
  · exact List.all_eq_true.mp zckI_102 mi (List.mem_range'_1.mpr ⟨by omega, by omega⟩)
  omega
theorem zIT_len : zIT.length = 103 := rfl
theorem zMT_len : zMT.length = 103 := rfl
theorem zI_ok {mi pc : Nat} {i : Instr} {len : Nat} (h : zI mi pc = some (i, len)) : mi < 103 ∧ decode (zB mi) pc = .ok (i, len) ∧ (zlen i = len ∨ zlen i = 0) := by
  unfold zI at h
  split at h
  · cases h
  · next t ht =>
    split at h
    · cases h
    · next r hr =>
      split at h
      · cases h
      · next x hx =>
        have hm : mi < 103 := by
          have := (List.getElem?_eq_some_iff.mp ht).1
          rwa [zIT_len] at this
        have hc := zckI_all hm
        unfold zckI at hc
        have ht' : zIT.getD mi [] = t := by rw [List.getD_eq_getElem?_getD, ht]; rfl
        rw [ht'] at hc
        have h1 := zck2_use hc hr
        subst h
        have h2 := zck1_use h1 hx
        rw [show 0 + 8 * (pc / 8) + pc % 8 = pc by omega] at h2
        exact ⟨hm, h2⟩
end
section
/-- the words that every method may use: those of the tables that hold at every later state -/
def zG : List Cond := lw_tbl.filter goodWord
theorem zG_at {p : Nat} {w : Cond} (h : lw_tbl[p]? = some w) (hg : goodWord w = true) : w ∈ zG := List.mem_filter.mpr ⟨List.mem_of_getElem? h, hg⟩
theorem zG_good {w : Cond} (h : w ∈ zG) : goodWord w = true := (List.mem_filter.mp h).2
theorem zG_in : GoodIn lw_tbl zG := fun w hw => ⟨(List.mem_filter.mp hw).1, good_of_word (zG_good hw)⟩
def zCN (c : Nat) : String := match zCl[c]? with
  | some q => q.1
  | none => ""
def zallC {α : Type} (f : Nat → α → Bool) : Nat → List (List α) → Bool
  | _, [] => true
  | c, l :: t => l.all (f c) && zallC f (c + 1) t
theorem zallC_use {α : Type} {f : Nat → α → Bool} {l : List α} {a : α} : ∀ {T : List (List α)} {c k : Nat}, zallC f c T = true → T[k]? = some l → a ∈ l → f (c + k) a = true
  | [], _, _, _, h, _ => by simp at h
  | o :: t, c, 0, h, hk, ha => by
    simp at hk
    subst hk
    simp only [zallC, Bool.and_eq_true] at h
    exact List.all_eq_true.mp h.1 a ha
  | o :: t, c, k + 1, h, hk, ha => by
    simp only [zallC, Bool.and_eq_true] at h
    have := zallC_use (k := k) h.2 (by simpa using hk) ha
    rwa [show c + 1 + k = c + (k + 1) by omega] at this
theorem zrow_use {α : Type} {f : Nat → Nat × α → Bool} {T : List (List (Nat × α))} {c i : Nat} {a : α} (h : zallC f 0 T = true) (hr : zrow T c i = some a) : f c (i, a) = true := by
  obtain ⟨l, hl, hm⟩ := zrow_mem hr
  have := zallC_use h hl hm
  rwa [Nat.zero_add] at this
set_option maxRecDepth 100000 in
theorem zcw_0 : Cond.code (zY 0) (zB 0) (zL 0) (zR 0) ∈ zG := zG_at (p := 84) rfl rfl
set_option maxRecDepth 100000 in
theorem zcw_1 : Cond.code (zY 1) (zB 1) (zL 1) (zR 1) ∈ zG := zG_at (p := 308) rfl rfl
set_option maxRecDepth 100000 in
theorem zcw_2 : Cond.code (zY 2) (zB 2) (zL 2) (zR 2) ∈ zG := zG_at (p := 336) rfl rfl
set_option maxRecDepth 100000 in
theorem zcw_3 : Cond.code (zY 3) (zB 3) (zL 3) (zR 3) ∈ zG := zG_at (p := 426) rfl rfl
set_option maxRecDepth 100000 in
theorem zcw_4 : Cond.code (zY 4) (zB 4) (zL 4) (zR 4) ∈ zG := zG_at (p := 324) rfl rfl
set_option maxRecDepth 100000 in
theorem zcw_5 : Cond.code (zY 5) (zB 5) (zL 5) (zR 5) ∈ zG := zG_at (p := 492) rfl rfl
set_option maxRecDepth 100000 in
theorem zcw_6 : Cond.code (zY 6) (zB 6) (zL 6) (zR 6) ∈ zG := zG_at (p := 332) rfl rfl
set_option maxRecDepth 100000 in
theorem zcw_7 : Cond.code (zY 7) (zB 7) (zL 7) (zR 7) ∈ zG := zG_at (p := 562) rfl rfl
set_option maxRecDepth 100000 in
theorem zcw_8 : Cond.code (zY 8) (zB 8) (zL 8) (zR 8) ∈ zG := zG_at (p := 443) rfl rfl
set_option maxRecDepth 100000 in
theorem zcw_9 : Cond.code (zY 9) (zB 9) (zL 9) (zR 9) ∈ zG := zG_at (p := 384) rfl rfl
set_option maxRecDepth 100000 in
theorem zcw_10 : Cond.code (zY 10) (zB 10) (zL 10) (zR 10) ∈ zG := zG_at (p := 392) rfl rfl
set_option maxRecDepth 100000 in
theorem zcw_11 : Cond.code (zY 11) (zB 11) (zL 11) (zR 11) ∈ zG := zG_at (p := 396) rfl rfl
set_option maxRecDepth 100000 in
theorem zcw_12 : Cond.code (zY 12) (zB 12) (zL 12) (zR 12) ∈ zG := zG_at (p := 471) rfl rfl
set_option maxRecDepth 100000 in
theorem zcw_13 : Cond.code (zY 13) (zB 13) (zL 13) (zR 13) ∈ zG := zG_at (p := 475) rfl rfl
set_option maxRecDepth 100000 in
theorem zcw_14 : Cond.code (zY 14) (zB 14) (zL 14) (zR 14) ∈ zG := zG_at (p := 217) rfl rfl
set_option maxRecDepth 100000 in
theorem zcw_15 : Cond.code (zY 15) (zB 15) (zL 15) (zR 15) ∈ zG := zG_at (p := 260) rfl rfl
set_option maxRecDepth 100000 in
theorem zcw_16 : Cond.code (zY 16) (zB 16) (zL 16) (zR 16) ∈ zG := zG_at (p := 296) rfl rfl
set_option maxRecDepth 100000 in
theorem zcw_17 : Cond.code (zY 17) (zB 17) (zL 17) (zR 17) ∈ zG := zG_at (p := 268) rfl rfl
set_option maxRecDepth 100000 in
theorem zcw_18 : Cond.code (zY 18) (zB 18) (zL 18) (zR 18) ∈ zG := zG_at (p := 272) rfl rfl
set_option maxRecDepth 100000 in
theorem zcw_19 : Cond.code (zY 19) (zB 19) (zL 19) (zR 19) ∈ zG := zG_at (p := 276) rfl rfl
set_option maxRecDepth 100000 in
theorem zcw_20 : Cond.code (zY 20) (zB 20) (zL 20) (zR 20) ∈ zG := zG_at (p := 292) rfl rfl
set_option maxRecDepth 100000 in
theorem zcw_21 : Cond.code (zY 21) (zB 21) (zL 21) (zR 21) ∈ zG := zG_at (p := 463) rfl rfl
set_option maxRecDepth 100000 in
theorem zcw_22 : Cond.code (zY 22) (zB 22) (zL 22) (zR 22) ∈ zG := zG_at (p := 264) rfl rfl
set_option maxRecDepth 100000 in
theorem zcw_23 : Cond.code (zY 23) (zB 23) (zL 23) (zR 23) ∈ zG := zG_at (p := 91) rfl rfl
set_option maxRecDepth 100000 in
theorem zcw_24 : Cond.code (zY 24) (zB 24) (zL 24) (zR 24) ∈ zG := zG_at (p := 312) rfl rfl
set_option maxRecDepth 100000 in
theorem zcw_25 : Cond.code (zY 25) (zB 25) (zL 25) (zR 25) ∈ zG := zG_at (p := 361) rfl rfl
set_option maxRecDepth 100000 in
theorem zcw_26 : Cond.code (zY 26) (zB 26) (zL 26) (zR 26) ∈ zG := zG_at (p := 344) rfl rfl
set_option maxRecDepth 100000 in
theorem zcw_27 : Cond.code (zY 27) (zB 27) (zL 27) (zR 27) ∈ zG := zG_at (p := 340) rfl rfl
set_option maxRecDepth 100000 in
theorem zcw_28 : Cond.code (zY 28) (zB 28) (zL 28) (zR 28) ∈ zG := zG_at (p := 352) rfl rfl
set_option maxRecDepth 100000 in
theorem zcw_29 : Cond.code (zY 29) (zB 29) (zL 29) (zR 29) ∈ zG := zG_at (p := 328) rfl rfl
set_option maxRecDepth 100000 in
theorem zcw_30 : Cond.code (zY 30) (zB 30) (zL 30) (zR 30) ∈ zG := zG_at (p := 435) rfl rfl
set_option maxRecDepth 100000 in
theorem zcw_31 : Cond.code (zY 31) (zB 31) (zL 31) (zR 31) ∈ zG := zG_at (p := 388) rfl rfl
set_option maxRecDepth 100000 in
theorem zcw_32 : Cond.code (zY 32) (zB 32) (zL 32) (zR 32) ∈ zG := zG_at (p := 400) rfl rfl
set_option maxRecDepth 100000 in
theorem zcw_33 : Cond.code (zY 33) (zB 33) (zL 33) (zR 33) ∈ zG := zG_at (p := 447) rfl rfl
set_option maxRecDepth 100000 in
theorem zcw_34 : Cond.code (zY 34) (zB 34) (zL 34) (zR 34) ∈ zG := zG_at (p := 150) rfl rfl
set_option maxRecDepth 100000 in
theorem zcw_35 : Cond.code (zY 35) (zB 35) (zL 35) (zR 35) ∈ zG := zG_at (p := 304) rfl rfl
set_option maxRecDepth 100000 in
theorem zcw_36 : Cond.code (zY 36) (zB 36) (zL 36) (zR 36) ∈ zG := zG_at (p := 316) rfl rfl
set_option maxRecDepth 100000 in
theorem zcw_37 : Cond.code (zY 37) (zB 37) (zL 37) (zR 37) ∈ zG := zG_at (p := 368) rfl rfl
set_option maxRecDepth 100000 in
theorem zcw_38 : Cond.code (zY 38) (zB 38) (zL 38) (zR 38) ∈ zG := zG_at (p := 376) rfl rfl
set_option maxRecDepth 100000 in
theorem zcw_39 : Cond.code (zY 39) (zB 39) (zL 39) (zR 39) ∈ zG := zG_at (p := 404) rfl rfl
set_option maxRecDepth 100000 in
theorem zcw_40 : Cond.code (zY 40) (zB 40) (zL 40) (zR 40) ∈ zG := zG_at (p := 380) rfl rfl
set_option maxRecDepth 100000 in
theorem zcw_41 : Cond.code (zY 41) (zB 41) (zL 41) (zR 41) ∈ zG := zG_at (p := 408) rfl rfl
set_option maxRecDepth 100000 in
theorem zcw_42 : Cond.code (zY 42) (zB 42) (zL 42) (zR 42) ∈ zG := zG_at (p := 356) rfl rfl
set_option maxRecDepth 100000 in
theorem zcw_43 : Cond.code (zY 43) (zB 43) (zL 43) (zR 43) ∈ zG := zG_at (p := 348) rfl rfl
set_option maxRecDepth 100000 in
theorem zcw_44 : Cond.code (zY 44) (zB 44) (zL 44) (zR 44) ∈ zG := zG_at (p := 371) rfl rfl
set_option maxRecDepth 100000 in
theorem zcw_45 : Cond.code (zY 45) (zB 45) (zL 45) (zR 45) ∈ zG := zG_at (p := 320) rfl rfl
set_option maxRecDepth 100000 in
theorem zcw_46 : Cond.code (zY 46) (zB 46) (zL 46) (zR 46) ∈ zG := zG_at (p := 58) rfl rfl
set_option maxRecDepth 100000 in
theorem zcw_47 : Cond.code (zY 47) (zB 47) (zL 47) (zR 47) ∈ zG := zG_at (p := 455) rfl rfl
set_option maxRecDepth 100000 in
theorem zcw_48 : Cond.code (zY 48) (zB 48) (zL 48) (zR 48) ∈ zG := zG_at (p := 41) rfl rfl
set_option maxRecDepth 100000 in
theorem zcw_49 : Cond.code (zY 49) (zB 49) (zL 49) (zR 49) ∈ zG := zG_at (p := 207) rfl rfl
set_option maxRecDepth 100000 in
theorem zcw_50 : Cond.code (zY 50) (zB 50) (zL 50) (zR 50) ∈ zG := zG_at (p := 252) rfl rfl
set_option maxRecDepth 100000 in
theorem zcw_51 : Cond.code (zY 51) (zB 51) (zL 51) (zR 51) ∈ zG := zG_at (p := 280) rfl rfl
set_option maxRecDepth 100000 in
theorem zcw_52 : Cond.code (zY 52) (zB 52) (zL 52) (zR 52) ∈ zG := zG_at (p := 284) rfl rfl
set_option maxRecDepth 100000 in
theorem zcw_53 : Cond.code (zY 53) (zB 53) (zL 53) (zR 53) ∈ zG := zG_at (p := 288) rfl rfl
set_option maxRecDepth 100000 in
theorem zcw_54 : Cond.code (zY 54) (zB 54) (zL 54) (zR 54) ∈ zG := zG_at (p := 300) rfl rfl
set_option maxRecDepth 100000 in
theorem zcw_55 : Cond.code (zY 55) (zB 55) (zL 55) (zR 55) ∈ zG := zG_at (p := 414) rfl rfl
set_option maxRecDepth 100000 in
theorem zcw_56 : Cond.code (zY 56) (zB 56) (zL 56) (zR 56) ∈ zG := zG_at (p := 418) rfl rfl
set_option maxRecDepth 100000 in
theorem zcw_57 : Cond.code (zY 57) (zB 57) (zL 57) (zR 57) ∈ zG := zG_at (p := 422) rfl rfl
set_option maxRecDepth 100000 in
theorem zcw_58 : Cond.code (zY 58) (zB 58) (zL 58) (zR 58) ∈ zG := zG_at (p := 431) rfl rfl
set_option maxRecDepth 100000 in
theorem zcw_59 : Cond.code (zY 59) (zB 59) (zL 59) (zR 59) ∈ zG := zG_at (p := 439) rfl rfl
set_option maxRecDepth 100000 in
theorem zcw_60 : Cond.code (zY 60) (zB 60) (zL 60) (zR 60) ∈ zG := zG_at (p := 451) rfl rfl
set_option maxRecDepth 100000 in
theorem zcw_61 : Cond.code (zY 61) (zB 61) (zL 61) (zR 61) ∈ zG := zG_at (p := 459) rfl rfl
set_option maxRecDepth 100000 in
theorem zcw_62 : Cond.code (zY 62) (zB 62) (zL 62) (zR 62) ∈ zG := zG_at (p := 486) rfl rfl
set_option maxRecDepth 100000 in
theorem zcw_63 : Cond.code (zY 63) (zB 63) (zL 63) (zR 63) ∈ zG := zG_at (p := 467) rfl rfl
set_option maxRecDepth 100000 in
theorem zcw_64 : Cond.code (zY 64) (zB 64) (zL 64) (zR 64) ∈ zG := zG_at (p := 256) rfl rfl
set_option maxRecDepth 100000 in
theorem zcw_65 : Cond.code (zY 65) (zB 65) (zL 65) (zR 65) ∈ zG := zG_at (p := 213) rfl rfl
set_option maxRecDepth 100000 in
theorem zcw_66 : Cond.code (zY 66) (zB 66) (zL 66) (zR 66) ∈ zG := zG_at (p := 210) rfl rfl
set_option maxRecDepth 100000 in
theorem zcw_67 : Cond.code (zY 67) (zB 67) (zL 67) (zR 67) ∈ zG := zG_at (p := 49) rfl rfl
set_option maxRecDepth 100000 in
theorem zcw_68 : Cond.code (zY 68) (zB 68) (zL 68) (zR 68) ∈ zG := zG_at (p := 565) rfl rfl
set_option maxRecDepth 100000 in
theorem zcw_69 : Cond.code (zY 69) (zB 69) (zL 69) (zR 69) ∈ zG := zG_at (p := 570) rfl rfl
set_option maxRecDepth 100000 in
theorem zcw_70 : Cond.code (zY 70) (zB 70) (zL 70) (zR 70) ∈ zG := zG_at (p := 574) rfl rfl
set_option maxRecDepth 100000 in
theorem zcw_71 : Cond.code (zY 71) (zB 71) (zL 71) (zR 71) ∈ zG := zG_at (p := 718) rfl rfl
set_option maxRecDepth 100000 in
theorem zcw_72 : Cond.code (zY 72) (zB 72) (zL 72) (zR 72) ∈ zG := zG_at (p := 726) rfl rfl
set_option maxRecDepth 100000 in
theorem zcw_73 : Cond.code (zY 73) (zB 73) (zL 73) (zR 73) ∈ zG := zG_at (p := 715) rfl rfl
set_option maxRecDepth 100000 in
theorem zcw_74 : Cond.code (zY 74) (zB 74) (zL 74) (zR 74) ∈ zG := zG_at (p := 722) rfl rfl
set_option maxRecDepth 100000 in
theorem zcw_75 : Cond.code (zY 75) (zB 75) (zL 75) (zR 75) ∈ zG := zG_at (p := 730) rfl rfl
set_option maxRecDepth 100000 in
theorem zcw_76 : Cond.code (zY 76) (zB 76) (zL 76) (zR 76) ∈ zG := zG_at (p := 734) rfl rfl
set_option maxRecDepth 100000 in
theorem zcw_77 : Cond.code (zY 77) (zB 77) (zL 77) (zR 77) ∈ zG := zG_at (p := 749) rfl rfl
set_option maxRecDepth 100000 in
theorem zcw_78 : Cond.code (zY 78) (zB 78) (zL 78) (zR 78) ∈ zG := zG_at (p := 745) rfl rfl
set_option maxRecDepth 100000 in
theorem zcw_79 : Cond.code (zY 79) (zB 79) (zL 79) (zR 79) ∈ zG := zG_at (p := 742) rfl rfl
set_option maxRecDepth 100000 in
theorem zcw_80 : Cond.code (zY 80) (zB 80) (zL 80) (zR 80) ∈ zG := zG_at (p := 738) rfl rfl
set_option maxRecDepth 100000 in
theorem zcw_81 : Cond.code (zY 81) (zB 81) (zL 81) (zR 81) ∈ zG := zG_at (p := 771) rfl rfl
set_option maxRecDepth 100000 in
theorem zcw_82 : Cond.code (zY 82) (zB 82) (zL 82) (zR 82) ∈ zG := zG_at (p := 783) rfl rfl
set_option maxRecDepth 100000 in
theorem zcw_83 : Cond.code (zY 83) (zB 83) (zL 83) (zR 83) ∈ zG := zG_at (p := 775) rfl rfl
set_option maxRecDepth 100000 in
theorem zcw_84 : Cond.code (zY 84) (zB 84) (zL 84) (zR 84) ∈ zG := zG_at (p := 768) rfl rfl
set_option maxRecDepth 100000 in
theorem zcw_85 : Cond.code (zY 85) (zB 85) (zL 85) (zR 85) ∈ zG := zG_at (p := 779) rfl rfl
set_option maxRecDepth 100000 in
theorem zcw_86 : Cond.code (zY 86) (zB 86) (zL 86) (zR 86) ∈ zG := zG_at (p := 760) rfl rfl
set_option maxRecDepth 100000 in
theorem zcw_87 : Cond.code (zY 87) (zB 87) (zL 87) (zR 87) ∈ zG := zG_at (p := 757) rfl rfl
set_option maxRecDepth 100000 in
theorem zcw_88 : Cond.code (zY 88) (zB 88) (zL 88) (zR 88) ∈ zG := zG_at (p := 764) rfl rfl
set_option maxRecDepth 100000 in
theorem zcw_89 : Cond.code (zY 89) (zB 89) (zL 89) (zR 89) ∈ zG := zG_at (p := 787) rfl rfl
set_option maxRecDepth 100000 in
theorem zcw_90 : Cond.code (zY 90) (zB 90) (zL 90) (zR 90) ∈ zG := zG_at (p := 753) rfl rfl
set_option maxRecDepth 100000 in
theorem zcw_91 : Cond.code (zY 91) (zB 91) (zL 91) (zR 91) ∈ zG := zG_at (p := 791) rfl rfl
set_option maxRecDepth 100000 in
theorem zcw_92 : Cond.code (zY 92) (zB 92) (zL 92) (zR 92) ∈ zG := zG_at (p := 795) rfl rfl
set_option maxRecDepth 100000 in
theorem zcw_93 : Cond.code (zY 93) (zB 93) (zL 93) (zR 93) ∈ zG := zG_at (p := 799) rfl rfl
set_option maxRecDepth 100000 in
theorem zcw_94 : Cond.code (zY 94) (zB 94) (zL 94) (zR 94) ∈ zG := zG_at (p := 803) rfl rfl
set_option maxRecDepth 100000 in
theorem zcw_95 : Cond.code (zY 95) (zB 95) (zL 95) (zR 95) ∈ zG := zG_at (p := 807) rfl rfl
set_option maxRecDepth 100000 in
theorem zcw_96 : Cond.code (zY 96) (zB 96) (zL 96) (zR 96) ∈ zG := zG_at (p := 811) rfl rfl
set_option maxRecDepth 100000 in
theorem zcw_97 : Cond.code (zY 97) (zB 97) (zL 97) (zR 97) ∈ zG := zG_at (p := 815) rfl rfl
set_option maxRecDepth 100000 in
theorem zcw_98 : Cond.code (zY 98) (zB 98) (zL 98) (zR 98) ∈ zG := zG_at (p := 828) rfl rfl
set_option maxRecDepth 100000 in
theorem zcw_99 : Cond.code (zY 99) (zB 99) (zL 99) (zR 99) ∈ zG := zG_at (p := 819) rfl rfl
set_option maxRecDepth 100000 in
theorem zcw_100 : Cond.code (zY 100) (zB 100) (zL 100) (zR 100) ∈ zG := zG_at (p := 823) rfl rfl
set_option maxRecDepth 100000 in
theorem zcw_101 : Cond.code (zY 101) (zB 101) (zL 101) (zR 101) ∈ zG := zG_at (p := 836) rfl rfl
set_option maxRecDepth 100000 in
theorem zcw_102 : Cond.code (zY 102) (zB 102) (zL 102) (zR 102) ∈ zG := zG_at (p := 832) rfl rfl
theorem zcw {mi : Nat} (h : mi < 103) : Cond.code (zY mi) (zB mi) (zL mi) (zR mi) ∈ zG := by
  match mi, h with
  | 0, _ => exact zcw_0
  | 1, _ => exact zcw_1
  | 2, _ => exact zcw_2
  | 3, _ => exact zcw_3
  | 4, _ => exact zcw_4
  | 5, _ => exact zcw_5
  | 6, _ => exact zcw_6
  | 7, _ => exact zcw_7
  | 8, _ => exact zcw_8
  | 9, _ => exact zcw_9
  | 10, _ => exact zcw_10
  | 11, _ => exact zcw_11
  | 12, _ => exact zcw_12
  | 13, _ => exact zcw_13
  | 14, _ => exact zcw_14
  | 15, _ => exact zcw_15
  | 16, _ => exact zcw_16
  | 17, _ => exact zcw_17
  | 18, _ => exact zcw_18
  | 19, _ => exact zcw_19
  | 20, _ => exact zcw_20
  | 21, _ => exact zcw_21
  | 22, _ => exact zcw_22
  | 23, _ => exact zcw_23
  | 24, _ => exact zcw_24
  | 25, _ => exact zcw_25
  | 26, _ => exact zcw_26
  | 27, _ => exact zcw_27
  | 28, _ => exact zcw_28
  | 29, _ => exact zcw_29
  | 30, _ => exact zcw_30
  | 31, _ => exact zcw_31
  | 32, _ => exact zcw_32
  | 33, _ => exact zcw_33
  | 34, _ => exact zcw_34
  | 35, _ => exact zcw_35
  | 36, _ => exact zcw_36
  | 37, _ => exact zcw_37
  | 38, _ => exact zcw_38
  | 39, _ => exact zcw_39
  | 40, _ => exact zcw_40
  | 41, _ => exact zcw_41
  | 42, _ => exact zcw_42
  | 43, _ => exact zcw_43
  | 44, _ => exact zcw_44
  | 45, _ => exact zcw_45
  | 46, _ => exact zcw_46
  | 47, _ => exact zcw_47
  | 48, _ => exact zcw_48
  | 49, _ => exact zcw_49
  | 50, _ => exact zcw_50
  | 51, _ => exact zcw_51
  | 52, _ => exact zcw_52
  | 53, _ => exact zcw_53
  | 54, _ => exact zcw_54
  | 55, _ => exact zcw_55
  | 56, _ => exact zcw_56
  | 57, _ => exact zcw_57
  | 58, _ => exact zcw_58
  | 59, _ => exact zcw_59
  | 60, _ => exact zcw_60
  | 61, _ => exact zcw_61
  | 62, _ => exact zcw_62
  | 63, _ => exact zcw_63
  | 64, _ => exact zcw_64
  | 65, _ => exact zcw_65
  | 66, _ => exact zcw_66
  | 67, _ => exact zcw_67
  | 68, _ => exact zcw_68
  | 69, _ => exact zcw_69
  | 70, _ => exact zcw_70
  | 71, _ => exact zcw_71
  | 72, _ => exact zcw_72
  | 73, _ => exact zcw_73
  | 74, _ => exact zcw_74
  | 75, _ => exact zcw_75
  | 76, _ => exact zcw_76
  | 77, _ => exact zcw_77
  | 78, _ => exact zcw_78
  | 79, _ => exact zcw_79
  | 80, _ => exact zcw_80
  | 81, _ => exact zcw_81
  | 82, _ => exact zcw_82
  | 83, _ => exact zcw_83
  | 84, _ => exact zcw_84
  | 85, _ => exact zcw_85
  | 86, _ => exact zcw_86
  | 87, _ => exact zcw_87
  | 88, _ => exact zcw_88
  | 89, _ => exact zcw_89
  | 90, _ => exact zcw_90
  | 91, _ => exact zcw_91
  | 92, _ => exact zcw_92
  | 93, _ => exact zcw_93
  | 94, _ => exact zcw_94
  | 95, _ => exact zcw_95
  | 96, _ => exact zcw_96
  | 97, _ => exact zcw_97
  | 98, _ => exact zcw_98
  | 99, _ => exact zcw_99
  | 100, _ => exact zcw_100
  | 101, _ => exact zcw_101
  | 102, _ => exact zcw_102
  | k + 103, h => omega
-- methods
def zckM (mi : Nat) : Bool := decide ((zY mi).cls = zCN (zC mi)) && plainName (zY mi).cls && decide ((zY mi).cls ≠ "java/lang/invoke/MethodHandle") && decide ((zY mi).cls ≠ "java/lang/invoke/VarHandle") && decide ((parseMethodDescriptor (zY mi).desc).map (fun d => d.parameters.length) = some (zN mi)) && decide (zL mi ≤ 21)
set_option maxRecDepth 100000 in
theorem zckM_0 : (List.range 103).all zckM = true := by decide +kernel
theorem zM_ok {mi : Nat} (h : mi < 103) : (zY mi).cls = zCN (zC mi) ∧ plainName (zY mi).cls = true ∧ (zY mi).cls ≠ "java/lang/invoke/MethodHandle" ∧ (zY mi).cls ≠ "java/lang/invoke/VarHandle" ∧ (parseMethodDescriptor (zY mi).desc).map (fun d => d.parameters.length) = some (zN mi) ∧ zL mi ≤ 21 := by
  have := List.all_eq_true.mp zckM_0 mi (List.mem_range.mpr h)
  simp only [zckM, Bool.and_eq_true, decide_eq_true_eq] at this
  exact ⟨this.1.1.1.1.1, this.1.1.1.1.2, this.1.1.1.2, this.1.1.2, this.1.2, this.2⟩
-- fields
def zckF (c : Nat) (e : Nat × Nat × Nat × Nat) : Bool := match zCl[e.2.1]? with
  | none => false
  | some q => decide (e.2.2.1 < q.2.2) && decide (lw_tbl[e.2.2.2]? = some (.fieldLink (zCN c) e.1 (q.2.1 e.2.2.1).1 (q.2.1 e.2.2.1).2.1 (q.2.1 e.2.2.1).2.2.1))
set_option maxRecDepth 100000 in
theorem zckF_0 : zallC zckF 0 zFT = true := by decide +kernel
theorem zF_ok {c idx ci k p : Nat} (h : zrow zFT c idx = some (ci, k, p)) : ∃ q, zCl[ci]? = some q ∧ k < q.2.2 ∧ Cond.fieldLink (zCN c) idx (q.2.1 k).1 (q.2.1 k).2.1 (q.2.1 k).2.2.1 ∈ zG := by
  have := zrow_use zckF_0 h
  unfold zckF at this
  split at this
  · cases this
  · next q hq =>
    simp only [Bool.and_eq_true, decide_eq_true_eq] at this
    exact ⟨q, hq, this.1, zG_at this.2 rfl⟩
theorem zU_0 : zCl.all (fun q => (u_ws q.1 q.2.1 q.2.2).all (fun w => decide (w ∈ lw_tbl) && goodWord w)) = true := by decide +kernel
theorem zU_ok {ci : Nat} {q : vw_C} (h : zCl[ci]? = some q) : ∀ w ∈ u_ws q.1 q.2.1 q.2.2, w ∈ zG := by
  intro w hw
  have := List.all_eq_true.mp (List.all_eq_true.mp zU_0 q (List.mem_of_getElem? h)) w hw
  simp only [Bool.and_eq_true, decide_eq_true_eq] at this
  exact List.mem_filter.mpr this

theorem zT_ok {ci : Nat} {q : vw_C} (h : zCl[ci]? = some q) : ∃ ty, zTys[ci]? = some ty ∧ (∀ k, k < q.2.2 → parseFieldDescriptor (q.2.1 k).2.2.1 = some (ty k)) ∧ (∀ a, a < q.2.2 → ∀ b, b < q.2.2 → a ≠ b → (q.2.1 a).2.1 ≠ (q.2.1 b).2.1) ∧ ∃ fs, zDF[ci]? = some fs ∧ fs.length = q.2.2 ∧ ∀ j, j < q.2.2 → defaultValue (ty j) = vp_V fs j := by
  match ci, h with
  | 0, h => cases h; exact ⟨tyX0, rfl, tyX0_ok, nmX0, _, rfl, rfl, by decide +kernel⟩
  | 1, h => cases h; exact ⟨tyX1, rfl, tyX1_ok, nmX1, _, rfl, rfl, by decide +kernel⟩
  | 2, h => cases h; exact ⟨tyX2, rfl, tyX2_ok, nmX2, _, rfl, rfl, by decide +kernel⟩
  | 3, h => cases h; exact ⟨tyX3, rfl, tyX3_ok, nmX3, _, rfl, rfl, by decide +kernel⟩
  | 4, h => cases h; exact ⟨tyX4, rfl, tyX4_ok, nmX4, _, rfl, rfl, by decide +kernel⟩
  | 5, h => cases h; exact ⟨tyX5, rfl, tyX5_ok, nmX5, _, rfl, rfl, by decide +kernel⟩
  | 6, h => cases h; exact ⟨tyX6, rfl, tyX6_ok, nmX6, _, rfl, rfl, by decide +kernel⟩
  | k + 7, h => simp [zCl] at h
-- making
def zckN (c : Nat) (e : Nat × Nat × Nat × Nat × Nat) : Bool := match zCl[e.2.1]? with
  | none => false
  | some q => decide (lw_tbl[e.2.2.1]? = some (.classLink (zCN c) e.1 q.1)) && decide (lw_tbl[e.2.2.2.1]? = some (.instantiable q.1 q.2.2)) && decide (lw_tbl[e.2.2.2.2]? = some (.initialized q.1))
set_option maxRecDepth 100000 in
theorem zckN_0 : zallC zckN 0 zNT = true := by decide +kernel
theorem zN_ok {c idx ci : Nat} {r : Nat × Nat × Nat} (h : zrow zNT c idx = some (ci, r)) : ∃ q, zCl[ci]? = some q ∧ Cond.classLink (zCN c) idx q.1 ∈ zG ∧ Cond.instantiable q.1 q.2.2 ∈ zG ∧ Cond.initialized q.1 ∈ zG := by
  have := zrow_use zckN_0 h
  unfold zckN at this
  split at this
  · cases this
  · next q hq =>
    simp only [Bool.and_eq_true, decide_eq_true_eq] at this
    exact ⟨q, hq, zG_at this.1.1 rfl, zG_at this.1.2 rfl, zG_at this.2 rfl⟩
def zckA (c : Nat) (e : Nat × Nat × Nat × Nat × Nat) : Bool := match zCl[e.2.2.1]? with
  | none => false
  | some q => decide (zTY[e.2.1]? = some (.object q.1)) && decide (lw_tbl[e.2.2.2.1]? = some (.classLink (zCN c) e.1 q.1)) && decide (lw_tbl[e.2.2.2.2]? = some (.arrayOver (.object q.1)))
set_option maxRecDepth 100000 in
theorem zckA_0 : zallC zckA 0 zAT = true := by decide +kernel
theorem zA_ok {c idx t ci : Nat} {r : Nat × Nat} (h : zrow zAT c idx = some (t, ci, r)) : ∃ q, zCl[ci]? = some q ∧ zTY[t]? = some (.object q.1) ∧ Cond.classLink (zCN c) idx q.1 ∈ zG ∧ Cond.arrayOver (.object q.1) ∈ lw_tbl := by
  have := zrow_use zckA_0 h
  unfold zckA at this
  split at this
  · cases this
  · next q hq =>
    simp only [Bool.and_eq_true, decide_eq_true_eq] at this
    exact ⟨q, hq, this.1.1, zG_at this.1.2 rfl, List.mem_of_getElem? this.2⟩
-- calls
def zckV (c : Nat) (e : Nat × Nat × Nat × Nat × Nat × Nat × Nat) : Bool := decide (e.2.1 < 103) && decide (lw_tbl[e.2.2.1]? = some (.methodLink (zCN c) e.1 (zY e.2.1))) && decide (lw_tbl[e.2.2.2.1]? = some (.instanceMethod (zY e.2.1))) && decide (lw_tbl[e.2.2.2.2.1]? = some (.selects (zY e.2.1).cls (zY e.2.1) (zY e.2.1))) && decide (lw_tbl[e.2.2.2.2.2.1]? = some (.initialized (zY e.2.1).cls))
set_option maxRecDepth 100000 in
theorem zckV_0 : zallC zckV 0 zVT = true := by decide +kernel
theorem zV_ok {c idx mj : Nat} {r : Nat × Nat × Nat × Nat × Nat} (h : zrow zVT c idx = some (mj, r)) : mj < 103 ∧ Cond.methodLink (zCN c) idx (zY mj) ∈ zG ∧ Cond.instanceMethod (zY mj) ∈ zG ∧ Cond.selects (zY mj).cls (zY mj) (zY mj) ∈ zG ∧ Cond.initialized (zY mj).cls ∈ zG ∧ Cond.code (zY mj) (zB mj) (zL mj) (zR mj) ∈ zG := by
  have := zrow_use zckV_0 h
  simp only [zckV, Bool.and_eq_true, decide_eq_true_eq] at this
  exact ⟨this.1.1.1.1, zG_at this.1.1.1.2 rfl, zG_at this.1.1.2 rfl, zG_at this.1.2 rfl, zG_at this.2 rfl, zcw this.1.1.1.1⟩
def zckS (c : Nat) (e : Nat × Nat × Nat × Nat × Nat × Nat) : Bool := decide (e.2.1 < 103) && decide ((zY e.2.1).cls = zCN c) && decide (lw_tbl[e.2.2.1]? = some (.methodLink (zCN c) e.1 (zY e.2.1))) && decide (lw_tbl[e.2.2.2.1]? = some (.static (zY e.2.1))) && decide (lw_tbl[e.2.2.2.2.1]? = some (.initialized (zY e.2.1).cls))
set_option maxRecDepth 100000 in
theorem zckS_0 : zallC zckS 0 zST = true := by decide +kernel
theorem zS_ok {c idx mj : Nat} {r : Nat × Nat × Nat × Nat} (h : zrow zST c idx = some (mj, r)) : mj < 103 ∧ (zY mj).cls = zCN c ∧ Cond.methodLink (zCN c) idx (zY mj) ∈ zG ∧ Cond.static (zY mj) ∈ zG ∧ Cond.initialized (zY mj).cls ∈ zG ∧ Cond.code (zY mj) (zB mj) (zL mj) (zR mj) ∈ zG := by
  have := zrow_use zckS_0 h
  simp only [zckS, Bool.and_eq_true, decide_eq_true_eq] at this
  exact ⟨this.1.1.1.1, this.1.1.1.2, zG_at this.1.1.2 rfl, zG_at this.1.2 rfl, zG_at this.2 rfl, zcw this.1.1.1.1⟩
def zckQ (c : Nat) (e : Nat × Nat × Nat × Nat × Nat × Nat) : Bool := decide (e.2.1 < 103) && decide ((zY e.2.1).name = "<init>") && decide (zR e.2.1 = none) && decide (lw_tbl[e.2.2.1]? = some (.methodLink (zCN c) e.1 (zY e.2.1))) && decide (lw_tbl[e.2.2.2.1]? = some (.instanceMethod (zY e.2.1))) && decide (lw_tbl[e.2.2.2.2.1]? = some (.initialized (zY e.2.1).cls))
set_option maxRecDepth 100000 in
theorem zckQ_0 : zallC zckQ 0 zQT = true := by decide +kernel
theorem zQ_ok {c idx mj : Nat} {r : Nat × Nat × Nat × Nat} (h : zrow zQT c idx = some (mj, r)) : mj < 103 ∧ (zY mj).name = "<init>" ∧ zR mj = none ∧ Cond.methodLink (zCN c) idx (zY mj) ∈ zG ∧ Cond.instanceMethod (zY mj) ∈ zG ∧ Cond.initialized (zY mj).cls ∈ zG ∧ Cond.code (zY mj) (zB mj) (zL mj) (zR mj) ∈ zG := by
  have := zrow_use zckQ_0 h
  simp only [zckQ, Bool.and_eq_true, decide_eq_true_eq] at this
  exact ⟨this.1.1.1.1.1, this.1.1.1.1.2, this.1.1.1.2, zG_at this.1.1.2 rfl, zG_at this.1.2 rfl, zG_at this.2 rfl, zcw this.1.1.1.1.1⟩
def zckW (c : Nat) (e : Nat × Nat × String × Nat × Nat × Nat × Nat) : Bool := decide (e.2.1 < 103) && decide ((zY e.2.1).name = "<init>") && decide (zR e.2.1 = none) && decide (lw_tbl[e.2.2.2.2.2.2]? = some (.methodLinkNest (zCN c) e.1 (zY e.2.1) e.2.2.1)) && decide (lw_tbl[e.2.2.2.1]? = some (.instanceMethod (zY e.2.1))) && decide (lw_tbl[e.2.2.2.2.1]? = some (.initialized (zY e.2.1).cls))
set_option maxRecDepth 100000 in
theorem zckW_0 : zallC zckW 0 zWT = true := by decide +kernel
theorem zW_ok {c idx mj : Nat} {hs : String} {r : Nat × Nat × Nat × Nat} (h : zrow zWT c idx = some (mj, hs, r)) : mj < 103 ∧ (zY mj).name = "<init>" ∧ zR mj = none ∧ Cond.methodLinkNest (zCN c) idx (zY mj) hs ∈ lw_tbl ∧ Cond.instanceMethod (zY mj) ∈ zG ∧ Cond.initialized (zY mj).cls ∈ zG ∧ Cond.code (zY mj) (zB mj) (zL mj) (zR mj) ∈ zG := by
  have := zrow_use zckW_0 h
  simp only [zckW, Bool.and_eq_true, decide_eq_true_eq] at this
  exact ⟨this.1.1.1.1.1, this.1.1.1.1.2, this.1.1.1.2, List.mem_of_getElem? this.1.1.2, zG_at this.1.2 rfl, zG_at this.2 rfl, zcw this.1.1.1.1.1⟩
-- Object.<init>, Math, constants
def zckO (c : Nat) (e : Nat × Nat × Nat × Nat) : Bool := decide (lw_tbl[e.2.1]? = some (.methodLink (zCN c) e.1 objectInit)) && decide (lw_tbl[e.2.2.1]? = some (.instanceMethod objectInit)) && decide (lw_tbl[e.2.2.2]? = some (.code objectInit ⟨#[0xb1]⟩ 1 none))
set_option maxRecDepth 100000 in
theorem zckO_0 : zallC zckO 0 zOT = true := by decide +kernel
theorem zO_ok {c idx : Nat} {r : Nat × Nat × Nat} (h : zrow zOT c idx = some r) : Cond.methodLink (zCN c) idx objectInit ∈ zG ∧ Cond.instanceMethod objectInit ∈ zG ∧ Cond.code objectInit ⟨#[0xb1]⟩ 1 none ∈ zG := by
  have := zrow_use zckO_0 h
  simp only [zckO, Bool.and_eq_true, decide_eq_true_eq] at this
  exact ⟨zG_at this.1.1 rfl, zG_at this.1.2 rfl, zG_at this.2 rfl⟩
def zmn (w : Nat) : MethodName := if w = 0 then Lib.Math.min.name else Lib.Math.max.name
def zmc (w : Nat) : ByteArray := if w = 0 then Lib.Math.min.code else Lib.Math.max.code
def zckX (c : Nat) (e : Nat × Nat × Nat × Nat × Nat × Nat) : Bool := decide (lw_tbl[e.2.2.1]? = some (.methodLink (zCN c) e.1 (zmn e.2.1))) && decide (lw_tbl[e.2.2.2.1]? = some (.static (zmn e.2.1))) && decide (lw_tbl[e.2.2.2.2.1]? = some (.initialized "java/lang/Math")) && decide (lw_tbl[e.2.2.2.2.2]? = some (.code (zmn e.2.1) (zmc e.2.1) 2 (some .int)))
set_option maxRecDepth 100000 in
theorem zckX_0 : zallC zckX 0 zXT = true := by decide +kernel
theorem zX_ok {c idx w : Nat} {r : Nat × Nat × Nat × Nat} (h : zrow zXT c idx = some (w, r)) : Cond.methodLink (zCN c) idx (zmn w) ∈ zG ∧ Cond.static (zmn w) ∈ zG ∧ Cond.initialized "java/lang/Math" ∈ zG ∧ Cond.code (zmn w) (zmc w) 2 (some .int) ∈ zG := by
  have := zrow_use zckX_0 h
  simp only [zckX, Bool.and_eq_true, decide_eq_true_eq] at this
  exact ⟨zG_at this.1.1.1 rfl, zG_at this.1.1.2 rfl, zG_at this.1.2 rfl, zG_at this.2 rfl⟩
def zckK (c : Nat) (e : Nat × Int64 × Nat) : Bool := decide (lw_tbl[e.2.2]? = some (.constantLong (zCN c) e.1 e.2.1))
set_option maxRecDepth 100000 in
theorem zckK_0 : zallC zckK 0 zKT = true := by decide +kernel
theorem zK_ok {c idx : Nat} {v : Int64} {p : Nat} (h : zrow zKT c idx = some (v, p)) : Cond.constantLong (zCN c) idx v ∈ zG := by
  have := zrow_use zckK_0 h
  simp only [zckK, decide_eq_true_eq] at this
  exact zG_at this rfl
theorem zac_i : Cond.arrayClass .int ∈ zG := List.mem_filter.mpr ⟨by decide +kernel, rfl⟩
theorem zac_z : Cond.arrayClass .boolean ∈ zG := List.mem_filter.mpr ⟨by decide +kernel, rfl⟩
theorem zac_l : Cond.arrayClass .long ∈ zG := List.mem_filter.mpr ⟨by decide +kernel, rfl⟩
end
section
/-- the locals -/
def zkill (ls : zLs) : Nat → zLs
  | 0 => ls
  | k + 1 => match ls[k]? with
    | some (some w) => if w.category = 2 then ls.set k none else ls
    | _ => ls
def zset (ls : zLs) (i : Nat) (v : Value) : Option zLs := if i < ls.length then some ((zkill ls i).set i (some v)) else none
def zsetL (ls : zLs) (i : Nat) (v : Value) : Option zLs := if i + 1 < ls.length then some (((zkill ls i).set i (some v)).set (i + 1) none) else none
def zlo (ls : zLs) (i : Nat) : Option Value := match ls[i]? with
  | some (some v) => some v
  | _ => none
def zent0 : List Value → zLs
  | [] => []
  | v :: t => if v.category = 2 then some v :: none :: zent0 t else some v :: zent0 t
def zent (mi : Nat) (vs : List Value) : zLs := zent0 vs ++ List.replicate (zL mi - (zent0 vs).length) none
/-- where a jump goes -/
def ztg (pc : Nat) (off : Int) : Option Nat := match (pc : Int) + off with
  | .ofNat t => some t
  | _ => none
theorem ztg_ok {pc : Nat} {off : Int} {t : Nat} (h : ztg pc off = some t) : (pc : Int) + off = (t : Int) := by
  unfold ztg at h
  split at h
  · next e => cases h; exact e
  · cases h
def zbr (c : ClassFile.Cond) (x y : Int32) (t f : Nat) : Nat := match c with
  | .eq => if x = y then t else f
  | .ne => if x = y then f else t
  | .lt => if x < y then t else f
  | .ge => if y ≤ x then t else f
  | .gt => if y < x then t else f
  | .le => if x ≤ y then t else f
def zsw (dflt lo hi : Int) (offs : Array Int) (x : Int) : Option Int := if x < lo then some dflt else if hi < x then some dflt else offs[(x - lo).toNat]?
/-- an index in range -/
def zin (i : Int32) (n : Nat) : Option Nat := if i < 0 then none else if i.toNatClampNeg < n then some i.toNatClampNeg else none
def zfits (ty : FieldType) (v : Value) : Bool := match ty, v with
  | .int, .int _ => true
  | .long, .long _ => true
  | .boolean, .int x => decide (x = 0) || decide (x = 1)
  | .object _, .ref _ => true
  | .object _, .null => true
  | .array _, .ref _ => true
  | .array _, .null => true
  | _, _ => false
theorem zfits_ok {ty : FieldType} {v : Value} (h : zfits ty v = true) : narrow ty v = v ∧ fits ty v = true := by
  unfold zfits at h
  split at h
  · exact ⟨rfl, rfl⟩
  · exact ⟨rfl, rfl⟩
  · simp only [Bool.or_eq_true, decide_eq_true_eq] at h
    rcases h with rfl | rfl <;> exact ⟨by decide, by decide⟩
  · exact ⟨rfl, rfl⟩
  · exact ⟨rfl, rfl⟩
  · exact ⟨rfl, rfl⟩
  · exact ⟨rfl, rfl⟩
  · cases h
def zcell (hp : zHp) (v : Value) : Option (Nat × va_E) := match v with
  | .ref h => match hp[h]? with
    | some e => some (h, e)
    | none => none
  | _ => none
def zgetf (mi : Nat) (hp : zHp) (idx : Nat) (v : Value) : Option Value := match zcell hp v with
  | some (_, .inr (ci, fs)) => match zrow zFT (zC mi) idx with
    | some (cj, k, _) => if ci = cj then fs[k]? else none
    | none => none
  | _ => none
def zputf (mi : Nat) (hp : zHp) (idx : Nat) (o v : Value) : Option zHp := match zcell hp o with
  | some (h, .inr (ci, fs)) => match zrow zFT (zC mi) idx with
    | some (cj, k, _) => if ci = cj ∧ k < fs.length then
        match zTys[ci]? with
        | some ty => if zfits (ty k) v = true then some (hp.set h (.inr (ci, fs.set k v))) else none
        | none => none
      else none
    | none => none
  | _ => none
def zald (hp : zHp) (tag : Nat) (o : Value) (i : Int32) : Option Value := match zcell hp o with
  | some (_, .inl (t, n, d)) => if t = tag then
      match zin i n with
      | some k => match d with
        | .inl f => some (.int (f k))
        | .inr (.inl f) => some (.long (f k))
        | .inr (.inr (.inr (.inr f))) => some (va_rf (f k))
        | _ => none
      | none => none
    else none
  | _ => none
def zast (hp : zHp) (o : Value) (i : Int32) (v : Value) : Option zHp := match zcell hp o with
  | some (h, .inl (t, n, d)) => match zin i n with
    | some k => match d, v with
      | .inl f, .int x => if t = 0 then some (hp.set h (.inl (0, n, .inl (upd f k x)))) else if t = 1 ∧ vp_nar .boolean x = x then some (hp.set h (.inl (1, n, .inl (upd f k x)))) else none
      | .inr (.inl f), .long x => if t = 2 then some (hp.set h (.inl (2, n, .inr (.inl (vp_updL f k x))))) else none
      | .inr (.inr (.inr (.inr f))), .ref b => match hp[b]? with
        | some (.inr (ci, _)) => match zTY[t]?, zCl[ci]? with
          | some (.object C), some q => if C = q.1 then some (hp.set h (.inl (t, n, .inr (.inr (.inr (.inr (va_up f k (some b)))))))) else none
          | _, _ => none
        | _ => none
      | _, _ => none
    | none => none
  | _ => none
/-- one instruction that isn't a call, a return or a making of cells -/
def zst (mi : Nat) (i : Instr) (pc : Nat) (ls : zLs) (st : List Value) (hp : zHp) : Option zCf := match i with
  | .iconst n => some (pc + 1, ls, .int (Int32.ofInt n) :: st, hp)
  | .bipush n => some (pc + 2, ls, .int ((Int8.ofInt n).toInt32) :: st, hp)
  | .sipush n => some (pc + 3, ls, .int ((Int16.ofInt n).toInt32) :: st, hp)
  | .lconst n => some (pc + 1, ls, .long (Int64.ofNat (n : Nat)) :: st, hp)
  | .aconst_null => some (pc + 1, ls, .null :: st, hp)
  | .ldc2_w k => match zrow zKT (zC mi) k with
    | some (v, _) => some (pc + 3, ls, .long v :: st, hp)
    | none => none
  | .iload_n k => match zlo ls k with
    | some (.int x) => some (pc + 1, ls, .int x :: st, hp)
    | _ => none
  | .iload k => match zlo ls k with
    | some (.int x) => some (pc + 2, ls, .int x :: st, hp)
    | _ => none
  | .lload_n k => match zlo ls k with
    | some (.long x) => some (pc + 1, ls, .long x :: st, hp)
    | _ => none
  | .lload k => match zlo ls k with
    | some (.long x) => some (pc + 2, ls, .long x :: st, hp)
    | _ => none
  | .aload_n k => match zlo ls k with
    | some (.ref x) => some (pc + 1, ls, .ref x :: st, hp)
    | some .null => some (pc + 1, ls, .null :: st, hp)
    | _ => none
  | .aload k => match zlo ls k with
    | some (.ref x) => some (pc + 2, ls, .ref x :: st, hp)
    | some .null => some (pc + 2, ls, .null :: st, hp)
    | _ => none
  | .istore_n k => match st with
    | .int x :: r => match zset ls k (.int x) with
      | some ls' => some (pc + 1, ls', r, hp)
      | none => none
    | _ => none
  | .istore k => match st with
    | .int x :: r => match zset ls k (.int x) with
      | some ls' => some (pc + 2, ls', r, hp)
      | none => none
    | _ => none
  | .lstore_n k => match st with
    | .long x :: r => match zsetL ls k (.long x) with
      | some ls' => some (pc + 1, ls', r, hp)
      | none => none
    | _ => none
  | .lstore k => match st with
    | .long x :: r => match zsetL ls k (.long x) with
      | some ls' => some (pc + 2, ls', r, hp)
      | none => none
    | _ => none
  | .astore_n k => match st with
    | .ref x :: r => match zset ls k (.ref x) with
      | some ls' => some (pc + 1, ls', r, hp)
      | none => none
    | .null :: r => match zset ls k .null with
      | some ls' => some (pc + 1, ls', r, hp)
      | none => none
    | _ => none
  | .astore k => match st with
    | .ref x :: r => match zset ls k (.ref x) with
      | some ls' => some (pc + 2, ls', r, hp)
      | none => none
    | .null :: r => match zset ls k .null with
      | some ls' => some (pc + 2, ls', r, hp)
      | none => none
    | _ => none
  | .iinc k n => match zlo ls k with
    | some (.int x) => match zset ls k (.int (x + Int32.ofInt n)) with
      | some ls' => some (pc + 3, ls', st, hp)
      | none => none
    | _ => none
  | .iadd => match st with
    | .int y :: .int x :: r => some (pc + 1, ls, .int (x + y) :: r, hp)
    | _ => none
  | .isub => match st with
    | .int y :: .int x :: r => some (pc + 1, ls, .int (x - y) :: r, hp)
    | _ => none
  | .imul => match st with
    | .int y :: .int x :: r => some (pc + 1, ls, .int (x * y) :: r, hp)
    | _ => none
  | .iand => match st with
    | .int y :: .int x :: r => some (pc + 1, ls, .int (x &&& y) :: r, hp)
    | _ => none
  | .ior => match st with
    | .int y :: .int x :: r => some (pc + 1, ls, .int (x ||| y) :: r, hp)
    | _ => none
  | .ishl => match st with
    | .int y :: .int x :: r => some (pc + 1, ls, .int (x <<< (y &&& 31)) :: r, hp)
    | _ => none
  | .ishr => match st with
    | .int y :: .int x :: r => some (pc + 1, ls, .int (x >>> (y &&& 31)) :: r, hp)
    | _ => none
  | .idiv => match st with
    | .int y :: .int x :: r => if y = 0 then none else some (pc + 1, ls, .int (x / y) :: r, hp)
    | _ => none
  | .irem => match st with
    | .int y :: .int x :: r => if y = 0 then none else some (pc + 1, ls, .int (x - x / y * y) :: r, hp)
    | _ => none
  | .ineg => match st with
    | .int x :: r => some (pc + 1, ls, .int (-x) :: r, hp)
    | _ => none
  | .ladd => match st with
    | .long y :: .long x :: r => some (pc + 1, ls, .long (x + y) :: r, hp)
    | _ => none
  | .lsub => match st with
    | .long y :: .long x :: r => some (pc + 1, ls, .long (x - y) :: r, hp)
    | _ => none
  | .lmul => match st with
    | .long y :: .long x :: r => some (pc + 1, ls, .long (x * y) :: r, hp)
    | _ => none
  | .ldiv => match st with
    | .long y :: .long x :: r => if y = 0 then none else some (pc + 1, ls, .long (x / y) :: r, hp)
    | _ => none
  | .lrem => match st with
    | .long y :: .long x :: r => if y = 0 then none else some (pc + 1, ls, .long (x - x / y * y) :: r, hp)
    | _ => none
  | .lcmp => match st with
    | .long y :: .long x :: r => some (pc + 1, ls, .int (lg_cmp x y) :: r, hp)
    | _ => none
  | .i2l => match st with
    | .int x :: r => some (pc + 1, ls, .long x.toInt64 :: r, hp)
    | _ => none
  | .l2i => match st with
    | .long x :: r => some (pc + 1, ls, .int x.toInt32 :: r, hp)
    | _ => none
  | .dup => match st with
    | v :: r => if v.category = 1 then some (pc + 1, ls, v :: v :: r, hp) else none
    | _ => none
  | .pop => match st with
    | v :: r => if v.category = 1 then some (pc + 1, ls, r, hp) else none
    | _ => none
  | .dup2 => match st with
    | v :: w :: r => if v.category = 1 ∧ w.category = 1 then some (pc + 1, ls, v :: w :: v :: w :: r, hp) else none
    | _ => none
  | .dup_x1 => match st with
    | v :: w :: r => if v.category = 1 ∧ w.category = 1 then some (pc + 1, ls, v :: w :: v :: r, hp) else none
    | _ => none
  | .goto off => match ztg pc off with
    | some t => some (t, ls, st, hp)
    | none => none
  | .ifCond c off => match ztg pc off with
    | some t => match st with
      | .int x :: r => some (zbr c x 0 t (pc + 3), ls, r, hp)
      | _ => none
    | none => none
  | .if_icmp c off => match ztg pc off with
    | some t => match st with
      | .int y :: .int x :: r => some (zbr c x y t (pc + 3), ls, r, hp)
      | _ => none
    | none => none
  | .ifnull off => match ztg pc off with
    | some t => match st with
      | .ref _ :: r => some (pc + 3, ls, r, hp)
      | .null :: r => some (t, ls, r, hp)
      | _ => none
    | none => none
  | .ifnonnull off => match ztg pc off with
    | some t => match st with
      | .ref _ :: r => some (t, ls, r, hp)
      | .null :: r => some (pc + 3, ls, r, hp)
      | _ => none
    | none => none
  | .tableswitch dflt lo hi offs => match st with
    | .int x :: r => match zsw dflt lo hi offs x.toInt with
      | some off => match ztg pc off with
        | some t => some (t, ls, r, hp)
        | none => none
      | none => none
    | _ => none
  | .getfield k => match st with
    | o :: r => match zgetf mi hp k o with
      | some v => some (pc + 3, ls, v :: r, hp)
      | none => none
    | _ => none
  | .putfield k => match st with
    | v :: o :: r => match zputf mi hp k o v with
      | some hp' => some (pc + 3, ls, r, hp')
      | none => none
    | _ => none
  | .iaload => match st with
    | .int i :: o :: r => match zald hp 0 o i with
      | some (.int x) => some (pc + 1, ls, .int x :: r, hp)
      | _ => none
    | _ => none
  | .baload => match st with
    | .int i :: o :: r => match zald hp 1 o i with
      | some (.int x) => some (pc + 1, ls, .int x :: r, hp)
      | _ => none
    | _ => none
  | .laload => match st with
    | .int i :: o :: r => match zald hp 2 o i with
      | some (.long x) => some (pc + 1, ls, .long x :: r, hp)
      | _ => none
    | _ => none
  | .aaload => match st with
    | .int i :: o :: r => match zcell hp o with
      | some (_, .inl (t, _, .inr (.inr (.inr (.inr _))))) => match zTY[t]? with
        | some (.object _) => match zald hp t o i with
          | some v => some (pc + 1, ls, v :: r, hp)
          | none => none
        | _ => none
      | _ => none
    | _ => none
  | .iastore => match st with
    | .int x :: .int i :: o :: r => match zcell hp o with
      | some (_, .inl (0, _, _)) => match zast hp o i (.int x) with
        | some hp' => some (pc + 1, ls, r, hp')
        | none => none
      | _ => none
    | _ => none
  | .bastore => match st with
    | .int x :: .int i :: o :: r => match zcell hp o with
      | some (_, .inl (1, _, _)) => match zast hp o i (.int x) with
        | some hp' => some (pc + 1, ls, r, hp')
        | none => none
      | _ => none
    | _ => none
  | .lastore => match st with
    | .long x :: .int i :: o :: r => match zast hp o i (.long x) with
      | some hp' => some (pc + 1, ls, r, hp')
      | none => none
    | _ => none
  | .aastore => match st with
    | .ref b :: .int i :: o :: r => match zast hp o i (.ref b) with
      | some hp' => some (pc + 1, ls, r, hp')
      | none => none
    | _ => none
  | .arraylength => match st with
    | o :: r => match zcell hp o with
      | some (_, .inl (t, n, _)) => match zTY[t]? with
        | some _ => some (pc + 1, ls, .int (Int32.ofNat n) :: r, hp)
        | none => none
      | _ => none
    | _ => none
  | .new k => match zrow zNT (zC mi) k with
    | some (ci, _) => match zDF[ci]? with
      | some fs => some (pc + 3, ls, .ref hp.length :: st, hp ++ [.inr (ci, fs)])
      | none => none
    | none => none
  | .newarray aty => match st with
    | .int n :: r => if n < 0 ∨ 1000000 < n.toNatClampNeg then none else match aty with
      | .int => some (pc + 2, ls, .ref hp.length :: r, hp ++ [.inl (0, n.toNatClampNeg, .inl (fun _ => 0))])
      | .boolean => some (pc + 2, ls, .ref hp.length :: r, hp ++ [.inl (1, n.toNatClampNeg, .inl (fun _ => 0))])
      | .long => some (pc + 2, ls, .ref hp.length :: r, hp ++ [.inl (2, n.toNatClampNeg, .inr (.inl (fun _ => 0)))])
      | _ => none
    | _ => none
  | .anewarray k => match st with
    | .int n :: r => if n < 0 ∨ 1000000 < n.toNatClampNeg then none else match zrow zAT (zC mi) k with
      | some (t, _) => some (pc + 3, ls, .ref hp.length :: r, hp ++ [.inl (t, n.toNatClampNeg, .inr (.inr (.inr (.inr (fun _ => none)))))])
      | none => none
    | _ => none
  | .invokespecial k => match zrow zOT (zC mi) k with
    | some _ => match st with
      | .ref _ :: r => if (r.map fun v => v.category).sum ≤ 8 then some (pc + 3, ls, r, hp) else none
      | _ => none
    | none => none
  | .invokestatic k => match zrow zXT (zC mi) k with
    | some (w, _) => match st with
      | .int y :: .int x :: r => if (r.map fun v => v.category).sum ≤ 8 then some (pc + 3, ls, .int (if w = 0 then (if y < x then y else x) else (if x < y then y else x)) :: r, hp) else none
      | _ => none
    | none => none
  | _ => none
/-- a call: the callee, how many words it takes off the stack -/
def zcl (mi : Nat) (i : Instr) (st : List Value) (hp : zHp) : Option (Nat × Nat) := match i with
  | .invokevirtual k => match zrow zVT (zC mi) k with
    | some (mj, _) => match st[zN mj]? with
      | some (.ref h) => match hp[h]? with
        | some (.inr (ci, _)) => if ci = zC mj then some (mj, zN mj + 1) else none
        | _ => none
      | _ => none
    | none => none
  | .invokestatic k => match zrow zST (zC mi) k with
    | some (mj, _) => some (mj, zN mj)
    | none => none
  | .invokespecial k => match zrow zQT (zC mi) k with
    | some (mj, _) => match st[zN mj]? with
      | some (.ref _) => some (mj, zN mj + 1)
      | _ => none
    | none => match zrow zWT (zC mi) k with
      | some (mj, _) => match st[zN mj]? with
        | some (.ref _) => some (mj, zN mj + 1)
        | _ => none
      | none => none
  | _ => none
/-- where a run stops: at a return, or where an exception is made -/
def zsp (mi : Nat) : Instr → Bool
  | .ireturn | .lreturn | .areturn | .return_ => true
  | .new k => (zrow zNT (zC mi) k).isNone
  | _ => false
/-- what a method answers where it stopped -/
def zrt (mi : Nat) (pc : Nat) (st : List Value) : Option (Option Value) := match zI mi pc with
  | some (.ireturn, _) => match st, zR mi with
    | [.int v], some ty => if narrow ty (.int v) = .int v then some (some (.int v)) else none
    | _, _ => none
  | some (.lreturn, _) => match st, zR mi with
    | [.long v], some .long => some (some (.long v))
    | _, _ => none
  | some (.areturn, _) => match st, zR mi with
    | [.ref a], some (.object _) => some (some (.ref a))
    | [.null], some (.object _) => some (some .null)
    | _, _ => none
  | some (.return_, _) => match st, zR mi with
    | [], none => some none
    | _, _ => none
  | _ => none
/-- the run: n steps at most, d calls deep at most -/
def zgo : Nat → Nat → Nat → Nat → zLs → List Value → zHp → Option zCf
  | 0, _, _, _, _, _, _ => none
  | n + 1, d, mi, pc, ls, st, hp => match zI mi pc with
    | none => none
    | some (i, _) => if zsp mi i = true then some (pc, ls, st, hp) else
      match zcl mi i st hp with
      | some (mj, k) => match d with
        | 0 => none
        | d' + 1 => if st.length < k ∨ 8 < ((st.drop k).map fun v => v.category).sum ∨ zL mj < (zent0 (st.take k).reverse).length then none else
          match zgo n d' mj 0 (zent mj (st.take k).reverse) [] hp with
          | none => none
          | some (pc1, _, st1, hp1) => match zrt mj pc1 st1 with
            | none => none
            | some r => zgo n (d' + 1) mi (pc + 3) ls (r.toList ++ st.drop k) hp1
      | none => match zst mi i pc ls st hp with
        | none => none
        | some c => zgo n d mi c.1 c.2.1 c.2.2.1 c.2.2.2
end
section
/-! ===== the small machine and the machine: values, cells, locals ===== -/
def zv (ad : Nat → Nat) : Value → Value
  | .ref h => .ref (ad h)
  | v => v
def zc (dA : Nat → ClassId) (ad : Nat → Nat) : va_E → va_E
  | .inl (t, n, .inr (.inr (.inr (.inr f)))) => .inl (dA t, n, .inr (.inr (.inr (.inr (fun i => (f i).map ad)))))
  | .inl (t, n, .inl f) => .inl (dA t, n, .inl f)
  | .inl (t, n, .inr (.inl f)) => .inl (dA t, n, .inr (.inl f))
  | .inl (t, n, .inr (.inr (.inl f))) => .inl (dA t, n, .inr (.inr (.inl f)))
  | .inl (t, n, .inr (.inr (.inr (.inl f)))) => .inl (dA t, n, .inr (.inr (.inr (.inl f))))
  | .inr (ci, fs) => .inr (ci, fs.map (zv ad))
def zw (dA : Nat → ClassId) (ad : Nat → Nat) (hp : zHp) : va_W := hp.mapIdx (fun k c => (ad k, zc dA ad c))
def zsz : va_E → Nat
  | .inl (_, n, _) => n
  | .inr (_, fs) => fs.length
def zhs (hp : zHp) : Nat := (hp.map zsz).sum
theorem zv_cat (ad : Nat → Nat) (v : Value) : (zv ad v).category = v.category := by cases v <;> rfl
theorem zw_get {dA : Nat → ClassId} {ad : Nat → Nat} {hp : zHp} {k : Nat} {c : va_E} (h : hp[k]? = some c) : (zw dA ad hp)[k]? = some (ad k, zc dA ad c) := by
  simp [zw, List.getElem?_mapIdx, h]
theorem zw_got {dA : Nat → ClassId} {ad : Nat → Nat} {hp : zHp} {k : Nat} {q : Nat × va_E} (h : (zw dA ad hp)[k]? = some q) : ∃ c, hp[k]? = some c ∧ q = (ad k, zc dA ad c) := by
  simp only [zw, List.getElem?_mapIdx, Option.map_eq_some_iff] at h
  obtain ⟨c, h1, h2⟩ := h
  exact ⟨c, h1, h2.symm⟩
theorem zw_len (dA : Nat → ClassId) (ad : Nat → Nat) (hp : zHp) : (zw dA ad hp).length = hp.length := by simp [zw]
theorem zw_set (dA : Nat → ClassId) (ad : Nat → Nat) (hp : zHp) (k : Nat) (c : va_E) : (zw dA ad hp).set k (ad k, zc dA ad c) = zw dA ad (hp.set k c) := by
  apply List.ext_getElem?
  intro j
  simp only [zw, List.getElem?_set, List.getElem?_mapIdx, List.length_mapIdx]
  by_cases hj : k = j
  · subst hj
    by_cases hl : k < hp.length <;> simp [hl]
  · simp [hj]
theorem zw_push (dA : Nat → ClassId) (ad : Nat → Nat) (hp : zHp) (c : va_E) : zw dA ad (hp ++ [c]) = zw dA ad hp ++ [(ad hp.length, zc dA ad c)] := by
  simp [zw, List.mapIdx_append]
theorem zhs_push (hp : zHp) (c : va_E) : zhs (hp ++ [c]) = zhs hp + zsz c := by simp [zhs]
theorem zhs_set {hp : zHp} {k : Nat} {c c' : va_E} (h : hp[k]? = some c) (hs : zsz c' = zsz c) : zhs (hp.set k c') = zhs hp := by
  unfold zhs
  rw [List.map_set, hs]
  congr 1
  apply List.ext_getElem?
  intro j
  rw [List.getElem?_set]
  by_cases hj : k = j
  · subst hj
    obtain ⟨hl, he⟩ := List.getElem?_eq_some_iff.mp h
    simp [hl, he]
  · simp [hj]
-- locals
def zHl (arr : Array Slot) (nL : Nat) (ad : Nat → Nat) (ls : zLs) : Prop := arr.size = nL ∧ lv_wf arr ∧ ls.length = nL ∧ ∀ (j : Nat) (w : Value), ls[j]? = some (some w) → arr[j]? = some (.val (zv ad w))
def zpr (ad : Nat → Nat) (ls : zLs) : List (Nat × Value) := (List.range ls.length).filterMap (fun j => (zlo ls j).map (fun w => (j, zv ad w)))
theorem zlo_iff {ls : zLs} {j : Nat} {w : Value} : zlo ls j = some w ↔ ls[j]? = some (some w) := by
  unfold zlo
  split
  · next v h => rw [h]; simp
  · next h =>
    constructor
    · intro q; cases q
    · intro q; exact absurd q (h w)
theorem zpr_mem {ad : Nat → Nat} {ls : zLs} {q : Nat × Value} : q ∈ zpr ad ls ↔ ∃ w, ls[q.1]? = some (some w) ∧ q.2 = zv ad w := by
  unfold zpr
  rw [List.mem_filterMap]
  constructor
  · rintro ⟨j, -, h⟩
    rw [Option.map_eq_some_iff] at h
    obtain ⟨w, h1, h2⟩ := h
    subst h2
    exact ⟨w, zlo_iff.mp h1, rfl⟩
  · rintro ⟨w, h1, h2⟩
    refine ⟨q.1, List.mem_range.mpr (List.getElem?_eq_some_iff.mp h1).1, ?_⟩
    rw [Option.map_eq_some_iff]
    exact ⟨w, zlo_iff.mpr h1, by rw [← h2]⟩
theorem zHl.lo {arr : Array Slot} {nL : Nat} {ad : Nat → Nat} {ls : zLs} (h : zHl arr nL ad ls) {k : Nat} {v : Value} (hk : zlo ls k = some v) : arr[k]? = some (.val (zv ad v)) := h.2.2.2 k v (zlo_iff.mp hk)
theorem zHl.has {arr : Array Slot} {nL : Nat} {ad : Nat → Nat} {ls : zLs} (h : zHl arr nL ad ls) : lv_has arr nL (zpr ad ls) := by
  refine ⟨h.1, h.2.1, fun q hq => ?_⟩
  obtain ⟨w, h1, h2⟩ := zpr_mem.mp hq
  rw [h2]
  exact h.2.2.2 _ _ h1
theorem zkill_len (ls : zLs) (k : Nat) : (zkill ls k).length = ls.length := by
  cases k with
  | zero => rfl
  | succ k =>
    simp only [zkill]
    split
    · split <;> simp
    · rfl
theorem zkill_at {ls : zLs} {k j : Nat} {w : Value} (h : (zkill ls k)[j]? = some (some w)) : ls[j]? = some (some w) ∧ (j + 1 = k → ¬ w.category = 2) := by
  cases k with
  | zero => exact ⟨h, fun q => by omega⟩
  | succ k =>
    simp only [zkill] at h
    split at h
    · next u hu =>
      split at h
      · next hc =>
        rw [List.getElem?_set] at h
        split at h
        · split at h <;> cases h
        · next hne => exact ⟨h, fun q => absurd (by omega) hne⟩
      · next hc =>
        refine ⟨h, fun q => ?_⟩
        have : j = k := by omega
        subst this
        rw [hu] at h
        cases h
        exact hc
    · next hu =>
      refine ⟨h, fun q => ?_⟩
      have : j = k := by omega
      subst this
      exact absurd h (hu w)
theorem zHl_set {arr : Array Slot} {nL : Nat} {ad : Nat → Nat} {ls ls' : zLs} {k : Nat} {v : Value} {lv : List (Nat × Value)} (hs : zset ls k v = some ls') (hl : ls.length = nL) (h : lv_has arr nL lv)
    (hm : ∀ q : Nat × Value, q = (k, zv ad v) ∨ (q ∈ zpr ad ls ∧ (!(q.1 == k) && !(q.1 + 1 == k && q.2.category == 2)) = true) → q ∈ lv) : zHl arr nL ad ls' ∧ k < nL := by
  unfold zset at hs
  split at hs
  · next hk =>
    cases hs
    refine ⟨⟨h.1, h.2.1, by simp [zkill_len, hl], fun j w hj => ?_⟩, by omega⟩
    by_cases hjk : k = j
    · subst hjk
      rw [List.getElem?_set_self (by rw [zkill_len]; exact hk)] at hj
      cases hj
      exact h.2.2 (k, zv ad v) (hm _ (Or.inl rfl))
    · rw [List.getElem?_set_ne hjk] at hj
      obtain ⟨h1, h2⟩ := zkill_at hj
      refine h.2.2 (j, zv ad w) (hm _ (Or.inr ⟨zpr_mem.mpr ⟨w, h1, rfl⟩, ?_⟩))
      have e1 : (j == k) = false := by simp; omega
      simp only [e1, Bool.not_false, Bool.true_and, zv_cat]
      by_cases hq : j + 1 = k
      · simp [hq, h2 hq]
      · simp [hq]
  · cases hs
theorem zHl_setL {arr : Array Slot} {nL : Nat} {ad : Nat → Nat} {ls ls' : zLs} {k : Nat} {v : Value} {lv : List (Nat × Value)} (hs : zsetL ls k v = some ls') (hl : ls.length = nL) (h : lv_has arr nL lv)
    (hm : ∀ q : Nat × Value, q = (k, zv ad v) ∨ (q ∈ zpr ad ls ∧ (!(q.1 == k) && (!(q.1 == k + 1) && !(q.1 + 1 == k && q.2.category == 2))) = true) → q ∈ lv) : zHl arr nL ad ls' ∧ k + 1 < nL := by
  unfold zsetL at hs
  split at hs
  · next hk =>
    cases hs
    refine ⟨⟨h.1, h.2.1, by simp [zkill_len, hl], fun j w hj => ?_⟩, by omega⟩
    by_cases hj1 : k + 1 = j
    · subst hj1
      rw [List.getElem?_set_self (by simp [zkill_len]; omega)] at hj
      cases hj
    · rw [List.getElem?_set_ne hj1] at hj
      by_cases hjk : k = j
      · subst hjk
        rw [List.getElem?_set_self (by rw [zkill_len]; omega)] at hj
        cases hj
        exact h.2.2 (k, zv ad v) (hm _ (Or.inl rfl))
      · rw [List.getElem?_set_ne hjk] at hj
        obtain ⟨h1, h2⟩ := zkill_at hj
        refine h.2.2 (j, zv ad w) (hm _ (Or.inr ⟨zpr_mem.mpr ⟨w, h1, rfl⟩, ?_⟩))
        have e1 : (j == k) = false := by simp; omega
        have e2 : (j == k + 1) = false := by simp; omega
        simp only [e1, e2, Bool.not_false, Bool.true_and, zv_cat]
        by_cases hq : j + 1 = k
        · simp [hq, h2 hq]
        · simp [hq]
  · cases hs
theorem zset_lt {ls ls' : zLs} {k : Nat} {v : Value} (hs : zset ls k v = some ls') : k < ls.length := by
  unfold zset at hs
  split at hs
  · assumption
  · cases hs
theorem zsetL_lt {ls ls' : zLs} {k : Nat} {v : Value} (hs : zsetL ls k v = some ls') : k + 1 < ls.length := by
  unfold zsetL at hs
  split at hs
  · assumption
  · cases hs
-- the locals at a method's start
theorem zent_args {ad : Nat → Nat} {w : Value} : ∀ (vs : List Value) (i j : Nat), (zent0 vs)[j]? = some (some w) → (i + j, zv ad w) ∈ lv_args i (vs.map (zv ad))
  | [], _, _, h => by simp [zent0] at h
  | v :: t, i, j, h => by
    unfold zent0 at h
    simp only [List.map_cons, lv_args, zv_cat]
    split at h
    · next hc =>
      rw [if_pos hc]
      match j, h with
      | 0, h => simp at h; subst h; exact List.mem_cons_self
      | 1, h => simp at h
      | j + 2, h =>
        have := zent_args (ad := ad) t (i + 2) j (by simpa using h)
        rw [show i + 2 + j = i + (j + 2) by omega] at this
        exact List.mem_cons_of_mem _ this
    · next hc =>
      rw [if_neg hc]
      match j, h with
      | 0, h => simp at h; subst h; exact List.mem_cons_self
      | j + 1, h =>
        have := zent_args (ad := ad) t (i + 1) j (by simpa using h)
        rw [show i + 1 + j = i + (j + 1) by omega] at this
        exact List.mem_cons_of_mem _ this
theorem zent_len (ad : Nat → Nat) : ∀ vs : List Value, (lg_sl (vs.map (zv ad))).length = (zent0 vs).length
  | [] => rfl
  | v :: t => by
    have ih := zent_len ad t
    unfold lg_sl at ih
    simp only [List.map_cons, lg_sl, List.flatMap_cons, List.length_append, zv_cat, zent0]
    rw [ih]
    split <;> simp <;> omega
theorem zHl_entry {ad : Nat → Nat} {mi : Nat} {vs : List Value} (h : (zent0 vs).length ≤ zL mi) : zHl ((lg_sl (vs.map (zv ad)) ++ List.replicate (zL mi - (lg_sl (vs.map (zv ad))).length) Slot.unset).toArray) (zL mi) ad (zent mi vs) := by
  obtain ⟨h1, h2, h3⟩ := lv_entry (vs.map (zv ad)) (n := zL mi) (by rw [zent_len]; exact h)
  refine ⟨h1, h2, by simp [zent]; omega, fun j w hj => ?_⟩
  unfold zent at hj
  rw [List.getElem?_append] at hj
  split at hj
  · have := zent_args (ad := ad) vs 0 j hj
    rw [Nat.zero_add] at this
    exact h3 (j, zv ad w) this
  · rw [List.getElem?_replicate] at hj
    split at hj <;> cases hj
end
section
/-! ===== one instruction of the small machine is one of the machine ===== -/
def zty (dA : Nat → ClassId) : List (ClassId × FieldType) := zTY.mapIdx (fun t ty => (dA t, ty))
theorem zty_get {dA : Nat → ClassId} {t : Nat} {ty : FieldType} (h : zTY[t]? = some ty) : (zty dA)[t]? = some (dA t, ty) := by simp [zty, List.getElem?_mapIdx, h]
def zX (U : State) : Prop := (∀ (c idx mj : Nat) (hs : String) (r : Nat × Nat × Nat × Nat), zrow zWT c idx = some (mj, hs, r) → va_Nw (.methodLinkNest (zCN c) idx (zY mj) hs) U) ∧ ∀ (c idx t ci : Nat) (r : Nat × Nat) (q : vw_C), zrow zAT c idx = some (t, ci, r) → zCl[ci]? = some q → va_AO q.1 U
theorem zX.warm {s U : State} (hW : s.WarmedH U.vm) (h : zX s) : zX U := ⟨fun c idx mj hs r hr => va_Nw.warmM hW (h.1 c idx mj hs r hr), fun c idx t ci r q hr hq => va_AO.moved hW.alike (h.2 c idx t ci r q hr hq)⟩
def zws (mi : Nat) : List Cond := .code (zY mi) (zB mi) (zL mi) (zR mi) :: zG
/-- what holds of the machine in the body of method mi -/
def zCx (p : Program) (s : State) (m : MethodId) (args : Array Value) (meth : Method) (c : Code) (mi : Nat) (dC : Nat → ClassId) (dI : Nat → Nat → Nat) (dA : Nat → ClassId) : Prop :=
  p.tables.exec = Jvm.exec ∧ c.code = zB mi ∧ c.maxLocals = zL mi ∧ s.vm.findClass (zCN (zC mi)) = some m.cls ∧ (∀ w ∈ zws mi, w.before args s = true) ∧ meth.sig.returnType = zR mi ∧ meth.locks = false ∧ meth.name = (zY mi).name ∧ va_K (dC, dI) zCl (zty dA) s ∧ zX s
/-- the fixed of a body: where handles lie -/
def zFx (s : State) (dA : Nat → ClassId) (ad : Nat → Nat) (A : Nat → Prop) (n0 : Nat) : Prop :=
  (∀ j, ad (n0 + j) = s.heap.size + j) ∧ (∀ q, s.heap.size ≤ q → A q) ∧ ∀ q, A q → q < s.heap.size → ∃ k, k < n0 ∧ q = ad k
/-- the heap holds the rows -/
def zIn (dC : Nat → ClassId) (dI : Nat → Nat → Nat) (dA : Nat → ClassId) (ad : Nat → Nat) (A : Nat → Prop) (s : State) (n0 g0 : Nat) (hp : zHp) (H : Heap) (locs : List Loc) (cells slots : Nat) : Prop :=
  va_P (dC, dI) zCl (zw dA ad hp) H ∧ va_D A (zw dA ad hp) ∧ va_S A s.heap H locs ∧ H.size = s.heap.size + cells ∧ hp.length = n0 + cells ∧ zhs hp = g0 + slots
section ZST
variable {p : Program} {l : Launch} {e : Env} {R : Room} {s : State} {m : MethodId} {args : Array Value} {below : List Frame} {meth : Method} {c : Code} {H : Heap} {locs : List Loc} {cells slots : Nat} {Q : State → Prop}
variable {dC : Nat → ClassId} {dI : Nat → Nat → Nat} {dA : Nat → ClassId} {ad : Nat → Nat} {A : Nat → Prop} {n0 g0 : Nat}
theorem zW_size {g : JFrame} (k : H.size ≤ s.heap.size + cells → W p l e R s m args below meth c H locs cells slots Q g) : W p l e R s m args below meth c H locs cells slots Q g := by
  intro T hT X
  have h := X.same.2.2.1
  have e1 : (T.setVm s.vm).heap = H := hT
  rw [e1] at h
  exact k h T hT X
/-- the size stays where a cell of the world is written -/
theorem zsize_keep {hp' : zHp} {H1 : Heap} {locs1 : List Loc} (hF : zFx s dA ad A n0) (hl : hp'.length = n0 + cells) (hP : va_P (dC, dI) zCl (zw dA ad hp') H1) (hS : va_S A s.heap H1 locs1) (hle : H1.size ≤ s.heap.size + cells) : H1.size = s.heap.size + cells := by
  rcases Nat.eq_zero_or_pos cells with h0 | h0
  · have := hS.1
    omega
  · have hk : n0 + (cells - 1) < hp'.length := by omega
    have h1 := (hP _ _ (zw_get (dA := dA) (ad := ad) (List.getElem?_eq_getElem hk))).lt
    have h2 : ad (n0 + (cells - 1)) = s.heap.size + (cells - 1) := hF.1 (cells - 1)
    simp only [h2] at h1
    omega
/-- a new cell lies where its handle says -/
theorem znew_at {hp : zHp} {H1 : Heap} {q : Nat} {x : va_E} (hF : zFx s dA ad A n0) (hl : hp.length = n0 + cells) (hP : va_P (dC, dI) zCl (zw dA ad hp ++ [(q, x)]) H1) (hD : va_D A (zw dA ad hp ++ [(q, x)])) (hle : H1.size ≤ s.heap.size + (cells + 1)) : q = ad hp.length ∧ H1.size = s.heap.size + (cells + 1) := by
  have hlast : (zw dA ad hp ++ [(q, x)])[hp.length]? = some (q, x) := by
    rw [List.getElem?_append_right (by rw [zw_len]; exact Nat.le_refl _), zw_len]
    simp
  have hq : q < H1.size := (hP _ _ hlast).lt
  have hAq : A q := hD.2 _ _ hlast
  have hne : ∀ k, k < hp.length → q ≠ ad k := by
    intro k hk he
    have hg : (zw dA ad hp ++ [(q, x)])[k]? = some (ad k, zc dA ad hp[k]) := by
      rw [List.getElem?_append_left (by rw [zw_len]; exact hk)]
      exact zw_get (List.getElem?_eq_getElem hk)
    have := hD.1 k hp.length _ _ hg hlast he.symm
    omega
  have hge : s.heap.size ≤ q := by
    rcases Nat.lt_or_ge q s.heap.size with hlt | hge
    · obtain ⟨k, hk, e1⟩ := hF.2.2 q hAq hlt
      exact absurd e1 (hne k (by omega))
    · exact hge
  have hq2 : q = s.heap.size + cells := by
    rcases Nat.lt_or_ge q (s.heap.size + cells) with hlt | hge2
    · have h1 := hF.1 (q - s.heap.size)
      exact absurd (by rw [h1]; omega) (hne (n0 + (q - s.heap.size)) (by omega))
    · omega
  refine ⟨?_, by omega⟩
  rw [hl, hF.1 cells]
  exact hq2
theorem zRA_inj {U : State} {c1 c2 : ClassId} {ty : FieldType} (h1 : va_RA U c1 ty) (h2 : va_RA U c2 ty) : c1 = c2 := by
  cases ty with
  | object C =>
    obtain ⟨k1, q1, -, -, -, f1⟩ := h1
    obtain ⟨k2, q2, -, -, -, f2⟩ := h2
    exact Option.some.inj (f1.symm.trans f2)
  | _ => exact Option.some.inj (h1.symm.trans h2)
/-- from a state of the small machine on -/
def zWs (p : Program) (l : Launch) (e : Env) (R : Room) (s : State) (m : MethodId) (args : Array Value) (below : List Frame) (meth : Method) (c : Code) (Q : State → Prop) (dC : Nat → ClassId) (dI : Nat → Nat → Nat) (dA : Nat → ClassId) (ad : Nat → Nat) (A : Nat → Prop) (n0 g0 mi : Nat) (x : zCf) : Prop :=
  ∀ (H : Heap) (locs : List Loc) (cells slots : Nat) (arr : Array Slot), zIn dC dI dA ad A s n0 g0 x.2.2.2 H locs cells slots → zHl arr (zL mi) ad x.2.1 → W p l e R s m args below meth c H locs cells slots Q (F0 m x.1 arr (x.2.2.1.map (zv ad)))
theorem zin_ok {i : Int32} {n k : Nat} (h : zin i n = some k) : vp_in i n ∧ i.toNatClampNeg = k := by
  unfold zin at h
  split at h
  · cases h
  · next h1 =>
    split at h
    · next h2 =>
      cases h
      exact ⟨fun q => q.elim h1 (fun q => by omega), rfl⟩
    · cases h
theorem zcell_ok {hp : zHp} {v : Value} {h : Nat} {x : va_E} (hc : zcell hp v = some (h, x)) : v = .ref h ∧ hp[h]? = some x := by
  unfold zcell at hc
  split at hc
  · split at hc
    · next e he => cases hc; exact ⟨rfl, he⟩
    · cases hc
  · cases hc
/-- a cell of the rows is written -/
theorem zIn_set {hp : zHp} {H1 : Heap} {locs1 : List Loc} {k : Nat} {x x' : va_E} (hF : zFx s dA ad A n0) (hI : zIn dC dI dA ad A s n0 g0 hp H locs cells slots) (hk : hp[k]? = some x) (hs : zsz x' = zsz x)
    (hP : va_P (dC, dI) zCl ((zw dA ad hp).set k (ad k, zc dA ad x')) H1) (hD : va_D A ((zw dA ad hp).set k (ad k, zc dA ad x'))) (hS : va_S A s.heap H1 locs1) (hle : H1.size ≤ s.heap.size + cells) : zIn dC dI dA ad A s n0 g0 (hp.set k x') H1 locs1 cells slots := by
  rw [zw_set] at hP hD
  obtain ⟨-, -, -, -, h5, h6⟩ := hI
  exact ⟨hP, hD, hS, zsize_keep hF (by rw [List.length_set]; exact h5) hP hS hle, by rw [List.length_set]; exact h5, by rw [zhs_set hk hs]; exact h6⟩
/-- a cell comes -/
theorem zIn_push {hp : zHp} {H1 : Heap} {locs1 : List Loc} {q : Nat} {x : va_E} (hF : zFx s dA ad A n0) (hI : zIn dC dI dA ad A s n0 g0 hp H locs cells slots)
    (hP : va_P (dC, dI) zCl (zw dA ad hp ++ [(q, zc dA ad x)]) H1) (hD : va_D A (zw dA ad hp ++ [(q, zc dA ad x)])) (hS : va_S A s.heap H1 locs1) (hle : H1.size ≤ s.heap.size + (cells + 1)) : q = ad hp.length ∧ zIn dC dI dA ad A s n0 g0 (hp ++ [x]) H1 locs1 (cells + 1) (slots + zsz x) := by
  obtain ⟨-, -, -, -, h5, h6⟩ := hI
  obtain ⟨e1, e2⟩ := znew_at hF h5 hP hD hle
  subst e1
  rw [← zw_push] at hP hD
  exact ⟨rfl, hP, hD, hS, e2, by rw [List.length_append, h5]; rfl, by rw [zhs_push, h6]; omega⟩
end ZST
end
section
section ZST2
variable {p : Program} {l : Launch} {e : Env} {R : Room} {s : State} {m : MethodId} {args : Array Value} {below : List Frame} {meth : Method} {c : Code} {H : Heap} {locs : List Loc} {cells slots : Nat} {Q : State → Prop}
variable {dC : Nat → ClassId} {dI : Nat → Nat → Nat} {dA : Nat → ClassId} {ad : Nat → Nat} {A : Nat → Prop} {n0 g0 : Nat}
theorem zmapcat (r : List Value) : ((r.map (zv ad)).map fun v => v.category).sum = (r.map fun v => v.category).sum := by
  rw [List.map_map]
  congr 1
  apply List.map_congr_left
  intro v _
  exact zv_cat ad v
theorem zv_rf (r : Option Nat) : zv ad (va_rf r) = va_rf (r.map ad) := by cases r <;> rfl
theorem zmem {q a : Nat × Value} {l : List (Nat × Value)} {F : Nat × Value → Bool} (h : q = a ∨ (q ∈ l ∧ F q = true)) : q ∈ a :: l.filter F := h.elim (fun e => by rw [e]; exact List.mem_cons_self) (fun h => List.mem_cons_of_mem _ (List.mem_filter.mpr h))
theorem zmem2 {q a b : Nat × Value} {l : List (Nat × Value)} {F : Nat × Value → Bool} (h : q = a ∨ (q ∈ l ∧ F q = true)) : q ∈ a :: (b :: l).filter F := h.elim (fun e => by rw [e]; exact List.mem_cons_self) (fun h => List.mem_cons_of_mem _ (List.mem_filter.mpr ⟨List.mem_cons_of_mem _ h.1, h.2⟩))
def zckP (mi : Nat) (x : Option (Instr × Nat)) : Bool := match x with
  | some (.putfield k, _) => match zrow zFT (zC mi) k with
    | some (ci, kk, _) => match zCl[ci]? with
      | some q => !(q.2.1 kk).2.2.2 || (decide ((zY mi).name = "<init>") && decide ((q.2.1 kk).1 = zCN (zC mi)))
      | none => true
    | none => true
  | _ => true
set_option maxRecDepth 100000 in
theorem zckP_0 : (List.range zIT.length).all (fun mi => (zIT.getD mi []).all (fun r => r.all (zckP mi))) = true := by decide +kernel
theorem zPf_ok {mi pc k len ci kk pp : Nat} {q : vw_C} (hi : zI mi pc = some (.putfield k, len)) (hr : zrow zFT (zC mi) k = some (ci, kk, pp)) (hq : zCl[ci]? = some q) (hf : (q.2.1 kk).2.2.2 = true) : (zY mi).name = "<init>" ∧ (q.2.1 kk).1 = zCN (zC mi) := by
  unfold zI at hi
  split at hi
  · cases hi
  · next t ht =>
    split at hi
    · cases hi
    · next r hr2 =>
      split at hi
      · cases hi
      · next x hx =>
        subst hi
        have h1 := List.all_eq_true.mp zckP_0 mi (List.mem_range.mpr (List.getElem?_eq_some_iff.mp ht).1)
        have ht' : zIT.getD mi [] = t := by rw [List.getD_eq_getElem?_getD, ht]; rfl
        rw [ht'] at h1
        have h2 := List.all_eq_true.mp (List.all_eq_true.mp h1 r (List.mem_of_getElem? hr2)) _ (List.mem_of_getElem? hx)
        simp only [zckP, hr, hq, hf, Bool.not_true, Bool.false_or, Bool.and_eq_true, decide_eq_true_eq] at h2
        exact h2
theorem zdef_zv (ty : FieldType) : zv ad (defaultValue ty) = defaultValue ty := by cases ty <;> rfl
theorem zTY_0 : zTY[0]? = some .int := rfl
theorem zTY_1 : zTY[1]? = some .boolean := rfl
theorem zTY_2 : zTY[2]? = some .long := rfl
theorem znar {ty : FieldType} {v : Value} (h : narrow ty v = v) : narrow ty (zv ad v) = zv ad v := by
  cases v <;> first | exact h | (cases ty <;> rfl)
theorem zfit {ty : FieldType} {v : Value} (h : fits ty v = true) : fits ty (zv ad v) = true := by
  cases v <;> first | exact h | (cases ty <;> first | exact h | rfl)

set_option maxHeartbeats 4000000 in
theorem zst_sound {mi : Nat} {i : Instr} {len pc : Nat} {ls : zLs} {st : List Value} {hp : zHp} {x : zCf} (h : zst mi i pc ls st hp = some x) (hi : zI mi pc = some (i, len)) (CX : zCx p s m args meth c mi dC dI dA) (hF : zFx s dA ad A n0) (hfr : 1 ≤ R.frames) (hlo : 40 ≤ R.locals)
    (hrc : x.2.2.2.length ≤ n0 + R.cells) (hrs : zhs x.2.2.2 ≤ g0 + R.slots) (K : zWs p l e R s m args below meth c Q dC dI dA ad A n0 g0 mi x) : zWs p l e R s m args below meth c Q dC dI dA ad A n0 g0 mi (pc, ls, st, hp) := by
  obtain ⟨hx, hb, hml, hown, hts, hret, hlk, hnm, hK, hX⟩ := CX
  obtain ⟨hmi, hd, hlen⟩ := zI_ok hi
  have hd' : zlen i ≠ 0 → decode (zB mi) pc = .ok (i, zlen i) := fun hz => by
    rcases hlen with q | q
    · rw [q]; exact hd
    · exact absurd q hz
  have hG : ∀ w ∈ zG, w.before args s = true := fun w hw => hts w (List.mem_cons_of_mem _ hw)
  intro H locs cells slots arr hI hL
  dsimp only at hI hL ⊢
  have hP := hI.1
  have hD := hI.2.1
  have hS := hI.2.2.1
  cases i with
  | iconst n =>
    cases h
    exact lv_iconst hx hb (hd' (by simp [zlen])) rfl (K H locs cells slots arr hI hL)
  | bipush n =>
    cases h
    exact lv_bipush hx hb (hd' (by simp [zlen])) rfl (K H locs cells slots arr hI hL)
  | sipush n =>
    cases h
    exact lv_sipush hx hb (hd' (by simp [zlen])) rfl (K H locs cells slots arr hI hL)
  | lconst n =>
    cases h
    exact lv_lconst hx hb (hd' (by simp [zlen])) rfl (K H locs cells slots arr hI hL)
  | aconst_null =>
    cases h
    exact lv_null hx hb (hd' (by simp [zlen])) (K H locs cells slots arr hI hL)
  | ldc2_w k =>
    simp only [zst] at h
    split at h
    · rename_i v w hr
      cases h
      exact lv_ldc2 hx hb hown (hG _ (zK_ok hr)) (hd' (by simp [zlen])) (K H locs cells slots arr hI hL)
    · cases h
  | iload_n k =>
    simp only [zst] at h
    split at h
    · rename_i v hr
      cases h
      exact lv_iload_n hx hb (hd' (by simp [zlen])) rfl (hL.lo hr) (K H locs cells slots arr hI hL)
    · cases h
  | iload k =>
    simp only [zst] at h
    split at h
    · rename_i v hr
      cases h
      exact lv_iload hx hb (hd' (by simp [zlen])) (hL.lo hr) (K H locs cells slots arr hI hL)
    · cases h
  | lload_n k =>
    simp only [zst] at h
    split at h
    · rename_i v hr
      cases h
      exact lv_lload_n hx hb (hd' (by simp [zlen])) rfl (hL.lo hr) (K H locs cells slots arr hI hL)
    · cases h
  | lload k =>
    simp only [zst] at h
    split at h
    · rename_i v hr
      cases h
      exact lv_lload hx hb (hd' (by simp [zlen])) (hL.lo hr) (K H locs cells slots arr hI hL)
    · cases h
  | aload_n k =>
    simp only [zst] at h
    split at h
    · rename_i v hr
      cases h
      exact lv_aload_n hx hb (hd' (by simp [zlen])) rfl (hL.lo hr) (K H locs cells slots arr hI hL)
    · rename_i hr
      cases h
      exact lv_aload_nN hx hb (hd' (by simp [zlen])) rfl (hL.lo hr) (K H locs cells slots arr hI hL)
    · cases h
  | aload k =>
    simp only [zst] at h
    split at h
    · rename_i v hr
      cases h
      exact lv_aload hx hb (hd' (by simp [zlen])) (hL.lo hr) (K H locs cells slots arr hI hL)
    · rename_i hr
      cases h
      exact lv_aloadN hx hb (hd' (by simp [zlen])) (hL.lo hr) (K H locs cells slots arr hI hL)
    · cases h
  | istore_n k =>
    simp only [zst] at h
    split at h
    · rename_i v r
      split at h
      · rename_i ls' hr
        cases h
        exact lv_istore_n hx hb (hd' (by simp [zlen])) rfl hL.has (by rw [← hL.2.2.1]; exact zset_lt hr) rfl (fun arr' ha => K H locs cells slots arr' hI (zHl_set hr hL.2.2.1 ha (fun q hq => zmem hq)).1)
      · cases h
    · cases h
  | istore k =>
    simp only [zst] at h
    split at h
    · rename_i v r
      split at h
      · rename_i ls' hr
        cases h
        exact lv_istore hx hb (hd' (by simp [zlen])) hL.has (by rw [← hL.2.2.1]; exact zset_lt hr) rfl (fun arr' ha => K H locs cells slots arr' hI (zHl_set hr hL.2.2.1 ha (fun q hq => zmem hq)).1)
      · cases h
    · cases h
  | lstore_n k =>
    simp only [zst] at h
    split at h
    · rename_i v r
      split at h
      · rename_i ls' hr
        cases h
        exact lv_lstore_n hx hb (hd' (by simp [zlen])) rfl hL.has (by rw [← hL.2.2.1]; exact zsetL_lt hr) rfl (fun arr' ha => K H locs cells slots arr' hI (zHl_setL hr hL.2.2.1 ha (fun q hq => zmem hq)).1)
      · cases h
    · cases h
  | lstore k =>
    simp only [zst] at h
    split at h
    · rename_i v r
      split at h
      · rename_i ls' hr
        cases h
        exact lv_lstore hx hb (hd' (by simp [zlen])) hL.has (by rw [← hL.2.2.1]; exact zsetL_lt hr) rfl (fun arr' ha => K H locs cells slots arr' hI (zHl_setL hr hL.2.2.1 ha (fun q hq => zmem hq)).1)
      · cases h
    · cases h
  | astore_n k =>
    simp only [zst] at h
    split at h
    · rename_i v r
      split at h
      · rename_i ls' hr
        cases h
        exact lv_astore_n hx hb (hd' (by simp [zlen])) rfl hL.has (by rw [← hL.2.2.1]; exact zset_lt hr) rfl (fun arr' ha => K H locs cells slots arr' hI (zHl_set hr hL.2.2.1 ha (fun q hq => zmem hq)).1)
      · cases h
    · rename_i r
      split at h
      · rename_i ls' hr
        cases h
        exact lv_astore_nN hx hb (hd' (by simp [zlen])) rfl hL.has (by rw [← hL.2.2.1]; exact zset_lt hr) rfl (fun arr' ha => K H locs cells slots arr' hI (zHl_set hr hL.2.2.1 ha (fun q hq => zmem hq)).1)
      · cases h
    · cases h
  | astore k =>
    simp only [zst] at h
    split at h
    · rename_i v r
      split at h
      · rename_i ls' hr
        cases h
        exact lv_astore hx hb (hd' (by simp [zlen])) hL.has (by rw [← hL.2.2.1]; exact zset_lt hr) rfl (fun arr' ha => K H locs cells slots arr' hI (zHl_set hr hL.2.2.1 ha (fun q hq => zmem hq)).1)
      · cases h
    · rename_i r
      split at h
      · rename_i ls' hr
        cases h
        exact lv_astoreN hx hb (hd' (by simp [zlen])) hL.has (by rw [← hL.2.2.1]; exact zset_lt hr) rfl (fun arr' ha => K H locs cells slots arr' hI (zHl_set hr hL.2.2.1 ha (fun q hq => zmem hq)).1)
      · cases h
    · cases h
  | iinc k n =>
    simp only [zst] at h
    split at h
    · rename_i v hv
      split at h
      · rename_i ls' hr
        cases h
        have hh : lv_has arr (zL mi) ((k, .int v) :: zpr ad ls) := ⟨hL.1, hL.2.1, fun q hq => by
          rcases List.mem_cons.mp hq with rfl | hq
          · exact hL.lo hv
          · exact hL.has.2.2 q hq⟩
        exact lv_iinc hx hb (hd' (by simp [zlen])) hh (k := 0) rfl rfl (by rw [← hL.2.2.1]; exact zset_lt hr) rfl (fun arr' ha => K H locs cells slots arr' hI (zHl_set hr hL.2.2.1 ha (fun q hq => zmem2 hq)).1)
      · cases h
    · cases h
  | iadd =>
    simp only [zst] at h
    split at h
    · cases h
      exact lv_iadd hx hb (hd' (by simp [zlen])) (K H locs cells slots arr hI hL)
    · cases h
  | isub =>
    simp only [zst] at h
    split at h
    · cases h
      exact lv_isub hx hb (hd' (by simp [zlen])) (K H locs cells slots arr hI hL)
    · cases h
  | imul =>
    simp only [zst] at h
    split at h
    · cases h
      exact lv_imul hx hb (hd' (by simp [zlen])) (K H locs cells slots arr hI hL)
    · cases h
  | iand =>
    simp only [zst] at h
    split at h
    · cases h
      exact lv_iand hx hb (hd' (by simp [zlen])) (K H locs cells slots arr hI hL)
    · cases h
  | ior =>
    simp only [zst] at h
    split at h
    · cases h
      exact lv_ior hx hb (hd' (by simp [zlen])) (K H locs cells slots arr hI hL)
    · cases h
  | ishl =>
    simp only [zst] at h
    split at h
    · cases h
      exact lv_ishl hx hb (hd' (by simp [zlen])) (K H locs cells slots arr hI hL)
    · cases h
  | ishr =>
    simp only [zst] at h
    split at h
    · cases h
      exact lv_ishr hx hb (hd' (by simp [zlen])) (K H locs cells slots arr hI hL)
    · cases h
  | ladd =>
    simp only [zst] at h
    split at h
    · cases h
      exact lv_ladd hx hb (hd' (by simp [zlen])) (K H locs cells slots arr hI hL)
    · cases h
  | lsub =>
    simp only [zst] at h
    split at h
    · cases h
      exact lv_lsub hx hb (hd' (by simp [zlen])) (K H locs cells slots arr hI hL)
    · cases h
  | lmul =>
    simp only [zst] at h
    split at h
    · cases h
      exact lv_lmul hx hb (hd' (by simp [zlen])) (K H locs cells slots arr hI hL)
    · cases h
  | idiv =>
    simp only [zst] at h
    split at h
    · split at h
      · cases h
      · rename_i hne
        cases h
        exact lv_idiv hx hb (hd' (by simp [zlen])) hne (K H locs cells slots arr hI hL)
    · cases h
  | irem =>
    simp only [zst] at h
    split at h
    · split at h
      · cases h
      · rename_i hne
        cases h
        exact lv_irem hx hb (hd' (by simp [zlen])) hne (K H locs cells slots arr hI hL)
    · cases h
  | ldiv =>
    simp only [zst] at h
    split at h
    · split at h
      · cases h
      · rename_i hne
        cases h
        exact lv_ldiv hx hb (hd' (by simp [zlen])) hne (K H locs cells slots arr hI hL)
    · cases h
  | lrem =>
    simp only [zst] at h
    split at h
    · split at h
      · cases h
      · rename_i hne
        cases h
        exact lv_lrem hx hb (hd' (by simp [zlen])) hne (K H locs cells slots arr hI hL)
    · cases h
  | ineg =>
    simp only [zst] at h
    split at h
    · cases h
      exact lv_ineg hx hb (hd' (by simp [zlen])) (K H locs cells slots arr hI hL)
    · cases h
  | lcmp =>
    simp only [zst] at h
    split at h
    · cases h
      exact W.lcmp hx hb (hd' (by simp [zlen])) (K H locs cells slots arr hI hL)
    · cases h
  | i2l =>
    simp only [zst] at h
    split at h
    · cases h
      exact lv_i2l hx hb (hd' (by simp [zlen])) rfl (K H locs cells slots arr hI hL)
    · cases h
  | l2i =>
    simp only [zst] at h
    split at h
    · cases h
      exact lv_l2i hx hb (hd' (by simp [zlen])) rfl (K H locs cells slots arr hI hL)
    · cases h
  | dup =>
    simp only [zst] at h
    split at h
    · split at h
      · rename_i hc
        cases h
        exact lv_dup hx hb (hd' (by simp [zlen])) (by rw [zv_cat]; exact hc) (K H locs cells slots arr hI hL)
      · cases h
    · cases h
  | pop =>
    simp only [zst] at h
    split at h
    · split at h
      · rename_i hc
        cases h
        exact lv_pop hx hb (hd' (by simp [zlen])) (by rw [zv_cat]; exact hc) (K H locs cells slots arr hI hL)
      · cases h
    · cases h
  | dup2 =>
    simp only [zst] at h
    split at h
    · split at h
      · rename_i hc
        cases h
        exact lv_dup2_11 hx hb (hd' (by simp [zlen])) (by rw [zv_cat]; exact hc.1) (by rw [zv_cat]; exact hc.2) (K H locs cells slots arr hI hL)
      · cases h
    · cases h
  | dup_x1 =>
    simp only [zst] at h
    split at h
    · split at h
      · rename_i hc
        cases h
        exact lv_dup_x1 hx hb (hd' (by simp [zlen])) (by rw [zv_cat]; exact hc.1) (by rw [zv_cat]; exact hc.2) (K H locs cells slots arr hI hL)
      · cases h
    · cases h
  | goto off =>
    simp only [zst] at h
    split at h
    · rename_i t ht
      cases h
      exact lv_goto hx hb (hd' (by simp [zlen])) (ztg_ok ht) (K H locs cells slots arr hI hL)
    · cases h
  | ifCond cd off =>
    simp only [zst] at h
    split at h
    · rename_i t ht
      split at h
      · cases h
        cases cd with
        | eq =>
          refine lv_if_eq hx hb (hd' (by simp [zlen])) (ztg_ok ht) (fun hc => ?_) (fun hc => ?_)
          · have k := K H locs cells slots arr hI hL
            simp only [zbr, if_pos hc] at k
            exact k
          · have k := K H locs cells slots arr hI hL
            simp only [zbr, if_neg hc] at k
            exact k
        | ne =>
          refine lv_if_ne hx hb (hd' (by simp [zlen])) (ztg_ok ht) (fun hc => ?_) (fun hc => ?_)
          · have k := K H locs cells slots arr hI hL
            simp only [zbr, if_neg hc] at k
            exact k
          · have k := K H locs cells slots arr hI hL
            simp only [zbr, if_pos hc] at k
            exact k
        | lt =>
          refine lv_if_lt hx hb (hd' (by simp [zlen])) (ztg_ok ht) (fun hc => ?_) (fun hc => ?_)
          · have k := K H locs cells slots arr hI hL
            simp only [zbr, if_pos hc] at k
            exact k
          · have k := K H locs cells slots arr hI hL
            simp only [zbr, if_neg hc] at k
            exact k
        | ge =>
          refine lv_if_ge hx hb (hd' (by simp [zlen])) (ztg_ok ht) (fun hc => ?_) (fun hc => ?_)
          · have k := K H locs cells slots arr hI hL
            simp only [zbr, if_pos hc] at k
            exact k
          · have k := K H locs cells slots arr hI hL
            simp only [zbr, if_neg hc] at k
            exact k
        | gt =>
          refine lv_if_gt hx hb (hd' (by simp [zlen])) (ztg_ok ht) (fun hc => ?_) (fun hc => ?_)
          · have k := K H locs cells slots arr hI hL
            simp only [zbr, if_pos hc] at k
            exact k
          · have k := K H locs cells slots arr hI hL
            simp only [zbr, if_neg hc] at k
            exact k
        | le =>
          refine lv_if_le hx hb (hd' (by simp [zlen])) (ztg_ok ht) (fun hc => ?_) (fun hc => ?_)
          · have k := K H locs cells slots arr hI hL
            simp only [zbr, if_pos hc] at k
            exact k
          · have k := K H locs cells slots arr hI hL
            simp only [zbr, if_neg hc] at k
            exact k
      · cases h
    · cases h
  | if_icmp cd off =>
    simp only [zst] at h
    split at h
    · rename_i t ht
      split at h
      · cases h
        cases cd with
        | eq =>
          refine lv_icmp_eq hx hb (hd' (by simp [zlen])) (ztg_ok ht) (fun hc => ?_) (fun hc => ?_)
          · have k := K H locs cells slots arr hI hL
            simp only [zbr, if_pos hc] at k
            exact k
          · have k := K H locs cells slots arr hI hL
            simp only [zbr, if_neg hc] at k
            exact k
        | ne =>
          refine lv_icmp_ne hx hb (hd' (by simp [zlen])) (ztg_ok ht) (fun hc => ?_) (fun hc => ?_)
          · have k := K H locs cells slots arr hI hL
            simp only [zbr, if_neg hc] at k
            exact k
          · have k := K H locs cells slots arr hI hL
            simp only [zbr, if_pos hc] at k
            exact k
        | lt =>
          refine lv_icmp_lt hx hb (hd' (by simp [zlen])) (ztg_ok ht) (fun hc => ?_) (fun hc => ?_)
          · have k := K H locs cells slots arr hI hL
            simp only [zbr, if_pos hc] at k
            exact k
          · have k := K H locs cells slots arr hI hL
            simp only [zbr, if_neg hc] at k
            exact k
        | ge =>
          refine lv_icmp_ge hx hb (hd' (by simp [zlen])) (ztg_ok ht) (fun hc => ?_) (fun hc => ?_)
          · have k := K H locs cells slots arr hI hL
            simp only [zbr, if_pos hc] at k
            exact k
          · have k := K H locs cells slots arr hI hL
            simp only [zbr, if_neg hc] at k
            exact k
        | gt =>
          refine lv_icmp_gt hx hb (hd' (by simp [zlen])) (ztg_ok ht) (fun hc => ?_) (fun hc => ?_)
          · have k := K H locs cells slots arr hI hL
            simp only [zbr, if_pos hc] at k
            exact k
          · have k := K H locs cells slots arr hI hL
            simp only [zbr, if_neg hc] at k
            exact k
        | le =>
          refine lv_icmp_le hx hb (hd' (by simp [zlen])) (ztg_ok ht) (fun hc => ?_) (fun hc => ?_)
          · have k := K H locs cells slots arr hI hL
            simp only [zbr, if_pos hc] at k
            exact k
          · have k := K H locs cells slots arr hI hL
            simp only [zbr, if_neg hc] at k
            exact k
      · cases h
    · cases h
  | ifnull off =>
    simp only [zst] at h
    split at h
    · rename_i t ht
      split at h
      · cases h
        exact lv_ifnull hx hb (hd' (by simp [zlen])) (K H locs cells slots arr hI hL)
      · cases h
        exact lv_ifnullN hx hb (hd' (by simp [zlen])) (ztg_ok ht) (K H locs cells slots arr hI hL)
      · cases h
    · cases h
  | ifnonnull off =>
    simp only [zst] at h
    split at h
    · rename_i t ht
      split at h
      · cases h
        exact lv_ifnonnull hx hb (hd' (by simp [zlen])) (ztg_ok ht) (K H locs cells slots arr hI hL)
      · cases h
        exact lv_ifnonnullN hx hb (hd' (by simp [zlen])) (K H locs cells slots arr hI hL)
      · cases h
    · cases h
  | tableswitch dflt lo hi offs =>
    simp only [zst] at h
    split at h
    · rename_i v r
      split at h
      · rename_i off ho
        split at h
        · rename_i t ht
          cases h
          unfold zsw at ho
          split at ho
          · rename_i h1
            cases ho
            exact lv_tableOut hx hb hd (Or.inl h1) (ztg_ok ht) (K H locs cells slots arr hI hL)
          · rename_i h1
            split at ho
            · rename_i h2
              cases ho
              exact lv_tableOut hx hb hd (Or.inr h2) (ztg_ok ht) (K H locs cells slots arr hI hL)
            · rename_i h2
              exact lv_tableIn hx hb hd h1 h2 ho (ztg_ok ht) (K H locs cells slots arr hI hL)
        · cases h
      · cases h
    · cases h
  | getfield k =>
    simp only [zst] at h
    split at h
    · rename_i o r
      split at h
      · rename_i v hv
        cases h
        unfold zgetf at hv
        split at hv
        · rename_i h0 ci fs hc
          split at hv
          · rename_i cj kk pp hr
            split at hv
            · rename_i he
              subst he
              obtain ⟨rfl, hc2⟩ := zcell_ok hc
              obtain ⟨q, hq, hk, hw⟩ := zF_ok hr
              obtain ⟨q1, q2, q3⟩ := q
              exact va_get (D := (dC, dI)) (ci := ci) (v := zv ad v) (C := q1) (T := q2) (N := q3) hx hb hG (zU_ok hq) hown hK hP h0 (zw_get (c := .inr (ci, fs)) hc2) hq kk hk (hG _ hw) (fun _ h9 => h9) (by rw [List.getElem?_map, hv]; rfl) (hd' (by simp [zlen])) (K H locs cells slots arr hI hL)
            · cases hv
          · cases hv
        · cases hv
      · cases h
    · cases h
  | putfield k =>
    simp only [zst] at h
    split at h
    · rename_i v o r
      split at h
      · rename_i hp' hv
        cases h
        unfold zputf at hv
        split at hv
        · rename_i h0 ci fs hc
          split at hv
          · rename_i cj kk pp hr
            split at hv
            · rename_i he
              obtain ⟨he, hkl⟩ := he
              subst he
              split at hv
              · rename_i ty hty
                split at hv
                · rename_i hfit
                  cases hv
                  obtain ⟨rfl, hc2⟩ := zcell_ok hc
                  obtain ⟨q, hq, hk, hw⟩ := zF_ok hr
                  obtain ⟨ty', hty', hpd, hnmq, -⟩ := zT_ok hq
                  have hte : ty' = ty := Option.some.inj (hty'.symm.trans hty)
                  subst hte
                  replace hfit := zfits_ok hfit
                  obtain ⟨q1, q2, q3⟩ := q
                  by_cases hfin : (q2 kk).2.2.2 = false
                  · refine va_put (D := (dC, dI)) (ci := ci) (v := zv ad v) (ty := ty' kk) (C := q1) (T := q2) (N := q3) hx hb hG (zU_ok hq) ty' hpd hnmq hown hK hP hD hS h0 (zw_get (c := .inr (ci, fs)) hc2) hq kk hk (hG _ hw) (fun _ h9 => h9) hfin (hpd kk hk) (znar hfit.1) (zfit hfit.2) (by rw [List.length_map]; exact hkl) (hd' (by simp [zlen])) (fun H1 locs1 hP1 hD1 hS1 => zW_size (fun hle => ?_))
                    rw [← List.map_set] at hP1 hD1
                    exact K H1 locs1 cells slots arr (zIn_set (x' := .inr (ci, fs.set kk v)) hF hI hc2 (by simp [zsz]) hP1 hD1 hS1 hle) hL
                  · by_cases hini : (zY mi).name = "<init>" ∧ (q2 kk).1 = zCN (zC mi)
                    · refine va_putF (D := (dC, dI)) (ci := ci) (v := zv ad v) (ty := ty' kk) (C := q1) (T := q2) (N := q3) hx hb hG (zU_ok hq) ty' hpd hnmq hown hK hP hD hS h0 (zw_get (c := .inr (ci, fs)) hc2) hq kk hk (hG _ hw) (fun _ h9 => h9) (by simpa using hfin) (by rw [hnm]; exact hini.1) hini.2 (hpd kk hk) (znar hfit.1) (zfit hfit.2) (by rw [List.length_map]; exact hkl) (hd' (by simp [zlen])) (fun H1 locs1 hP1 hD1 hS1 => zW_size (fun hle => ?_))
                      rw [← List.map_set] at hP1 hD1
                      exact K H1 locs1 cells slots arr (zIn_set (x' := .inr (ci, fs.set kk v)) hF hI hc2 (by simp [zsz]) hP1 hD1 hS1 hle) hL
                    · exact absurd (zPf_ok hi hr hq (by simpa using hfin)) hini
                · cases hv
              · cases hv
            · cases hv
          · cases hv
        · cases hv
      · cases h
    · cases h
  | iaload =>
    simp only [zst] at h
    split at h
    · rename_i i o r
      split at h
      · rename_i v hv
        cases h
        unfold zald at hv
        split at hv
        · rename_i h0 t n d hc
          split at hv
          · rename_i ht
            subst ht
            split at hv
            · rename_i k hk
              obtain ⟨rfl, hc2⟩ := zcell_ok hc
              obtain ⟨hin, rfl⟩ := zin_ok hk
              rcases d with f | f | f | f | f
              · cases hv; exact va_iald (cA := dA 0) hx hb hK hP h0 0 (zw_get (c := .inl (0, n, .inl f)) hc2) (zty_get zTY_0) hin (hd' (by simp [zlen])) (K H locs cells slots arr hI hL)
              · cases hv
              · cases hv
              · cases hv
              · dsimp only at hv; cases hf : f i.toNatClampNeg <;> (rw [hf] at hv; cases hv)
            · cases hv
          · cases hv
        · cases hv
      · cases h
    · cases h
  | baload =>
    simp only [zst] at h
    split at h
    · rename_i i o r
      split at h
      · rename_i v hv
        cases h
        unfold zald at hv
        split at hv
        · rename_i h0 t n d hc
          split at hv
          · rename_i ht
            subst ht
            split at hv
            · rename_i k hk
              obtain ⟨rfl, hc2⟩ := zcell_ok hc
              obtain ⟨hin, rfl⟩ := zin_ok hk
              rcases d with f | f | f | f | f
              · cases hv; exact va_zald (cA := dA 1) hx hb hK hP h0 1 (zw_get (c := .inl (1, n, .inl f)) hc2) (zty_get zTY_1) hin (hd' (by simp [zlen])) (K H locs cells slots arr hI hL)
              · cases hv
              · cases hv
              · cases hv
              · dsimp only at hv; cases hf : f i.toNatClampNeg <;> (rw [hf] at hv; cases hv)
            · cases hv
          · cases hv
        · cases hv
      · cases h
    · cases h
  | laload =>
    simp only [zst] at h
    split at h
    · rename_i i o r
      split at h
      · rename_i v hv
        cases h
        unfold zald at hv
        split at hv
        · rename_i h0 t n d hc
          split at hv
          · rename_i ht
            subst ht
            split at hv
            · rename_i k hk
              obtain ⟨rfl, hc2⟩ := zcell_ok hc
              obtain ⟨hin, rfl⟩ := zin_ok hk
              rcases d with f | f | f | f | f
              · cases hv
              · cases hv; exact va_lald (cA := dA 2) hx hb hK hP h0 2 (zw_get (c := .inl (2, n, .inr (.inl f))) hc2) (zty_get zTY_2) hin (hd' (by simp [zlen])) (K H locs cells slots arr hI hL)
              · cases hv
              · cases hv
              · dsimp only at hv; cases hf : f i.toNatClampNeg <;> (rw [hf] at hv; cases hv)
            · cases hv
          · cases hv
        · cases hv
      · cases h
    · cases h
  | aaload =>
    simp only [zst] at h
    split at h
    · rename_i i o r
      split at h
      · rename_i h0 t n f hc
        split at h
        · rename_i C hty
          split at h
          · rename_i v hv
            cases h
            unfold zald at hv
            rw [hc] at hv
            simp only [if_true] at hv
            obtain ⟨rfl, hc2⟩ := zcell_ok hc
            split at hv
            · rename_i k hk
              obtain ⟨hin, rfl⟩ := zin_ok hk
              cases hv
              have k := K H locs cells slots arr hI hL
              simp only [List.map_cons, zv_rf] at k
              exact va_aldq (cA := dA t) (C := C) hx hb hK hP h0 t (zw_get (c := .inl (t, n, .inr (.inr (.inr (.inr f))))) hc2) (zty_get hty) hin (hd' (by simp [zlen])) k
            · cases hv
          · cases h
        · cases h
      · cases h
    · cases h
  | iastore =>
    simp only [zst] at h
    split at h
    · rename_i x i o r
      split at h
      · rename_i h0 n d hc
        split at h
        · rename_i hp' hv
          cases h
          unfold zast at hv
          rw [hc] at hv
          obtain ⟨rfl, hc2⟩ := zcell_ok hc
          dsimp only at hv
          split at hv
          · rename_i k hk
            obtain ⟨hin, rfl⟩ := zin_ok hk
            rcases d with f | f | f | f | f
            · simp only [if_true] at hv
              
              cases hv
              
              refine va_iast (cA := dA 0) hx hb hK hP hD hS h0 0 (zw_get (c := .inl (0, n, .inl f)) hc2) (zty_get zTY_0) hin (hd' (by simp [zlen])) (fun H1 locs1 hP1 hD1 hS1 => zW_size (fun hle => ?_))
              
              exact K H1 locs1 cells slots arr (zIn_set (x' := .inl (0, n, .inl (upd f i.toNatClampNeg x))) hF hI hc2 rfl hP1 hD1 hS1 hle) hL
              
            · exact absurd hv (by simp)
            · exact absurd hv (by simp)
            · exact absurd hv (by simp)
            · exact absurd hv (by simp)
          · cases hv
        · cases h
      · cases h
    · cases h
  | bastore =>
    simp only [zst] at h
    split at h
    · rename_i x i o r
      split at h
      · rename_i h0 n d hc
        split at h
        · rename_i hp' hv
          cases h
          unfold zast at hv
          rw [hc] at hv
          obtain ⟨rfl, hc2⟩ := zcell_ok hc
          dsimp only at hv
          split at hv
          · rename_i k hk
            obtain ⟨hin, rfl⟩ := zin_ok hk
            rcases d with f | f | f | f | f
            · simp only [Nat.one_ne_zero, if_false, true_and] at hv
              split at hv
              · rename_i hnr
                cases hv
                refine va_zast (cA := dA 1) hx hb hK hP hD hS h0 1 (zw_get (c := .inl (1, n, .inl f)) hc2) (zty_get zTY_1) hin (hd' (by simp [zlen])) (fun H1 locs1 hP1 hD1 hS1 => zW_size (fun hle => ?_))
                rw [hnr] at hP1 hD1
                exact K H1 locs1 cells slots arr (zIn_set (x' := .inl (1, n, .inl (upd f i.toNatClampNeg x))) hF hI hc2 rfl hP1 hD1 hS1 hle) hL
              · cases hv
            · exact absurd hv (by simp)
            · exact absurd hv (by simp)
            · exact absurd hv (by simp)
            · exact absurd hv (by simp)
          · cases hv
        · cases h
      · cases h
    · cases h
  | lastore =>
    simp only [zst] at h
    split at h
    · rename_i x i o r
      split at h
      · rename_i hp' hv
        cases h
        unfold zast at hv
        split at hv
        · rename_i h0 t n d hc
          obtain ⟨rfl, hc2⟩ := zcell_ok hc
          split at hv
          · rename_i k hk
            obtain ⟨hin, rfl⟩ := zin_ok hk
            rcases d with f | f | f | f | f
            · exact absurd hv (by simp)
            · dsimp only at hv
              split at hv
              · rename_i ht
                subst ht
                cases hv
                refine va_last (cA := dA 2) hx hb hK hP hD hS h0 2 (zw_get (c := .inl (2, n, .inr (.inl f))) hc2) (zty_get zTY_2) hin (hd' (by simp [zlen])) (fun H1 locs1 hP1 hD1 hS1 => zW_size (fun hle => ?_))
                exact K H1 locs1 cells slots arr (zIn_set (x' := .inl (2, n, .inr (.inl (vp_updL f i.toNatClampNeg x)))) hF hI hc2 rfl hP1 hD1 hS1 hle) hL
              · cases hv
            · exact absurd hv (by simp)
            · exact absurd hv (by simp)
            · exact absurd hv (by simp)
          · cases hv
        · cases hv
      · cases h
    · cases h
  | aastore =>
    simp only [zst] at h
    split at h
    · rename_i b i o r
      split at h
      · rename_i hp' hv
        cases h
        unfold zast at hv
        split at hv
        · rename_i h0 t n d hc
          obtain ⟨rfl, hc2⟩ := zcell_ok hc
          split at hv
          · rename_i k hk
            obtain ⟨hin, rfl⟩ := zin_ok hk
            rcases d with f | f | f | f | f
            · exact absurd hv (by simp)
            · exact absurd hv (by simp)
            · exact absurd hv (by simp)
            · exact absurd hv (by simp)
            · dsimp only at hv
              split at hv
              · rename_i ci vs hbv
                split at hv
                · rename_i C q hty hq
                  split at hv
                  · rename_i hC
                    subst hC
                    cases hv
                    refine va_astq (cA := dA t) hx hb hK hP hD hS h0 t b ci (zw_get (c := .inl (t, n, .inr (.inr (.inr (.inr f))))) hc2) (zty_get hty) (zw_get (c := .inr (ci, vs)) hbv) hq hin (hd' (by simp [zlen])) (fun H1 locs1 hP1 hD1 hS1 => zW_size (fun hle => ?_))
                    have e9 : (va_up (fun i => (f i).map ad) i.toNatClampNeg (some (ad b))) = fun j => (va_up f i.toNatClampNeg (some b) j).map ad := by
                      funext j
                      unfold va_up
                      split <;> rfl
                    rw [e9] at hP1 hD1
                    exact K H1 locs1 cells slots arr (zIn_set (x' := .inl (t, n, .inr (.inr (.inr (.inr (va_up f i.toNatClampNeg (some b))))))) hF hI hc2 rfl hP1 hD1 hS1 hle) hL
                  · cases hv
                · cases hv
              · cases hv
          · cases hv
        · cases hv
      · cases h
    · cases h
  | arraylength =>
    simp only [zst] at h
    split at h
    · rename_i o r
      split at h
      · rename_i h0 t n d hc
        split at h
        · rename_i ty hty
          cases h
          obtain ⟨rfl, hc2⟩ := zcell_ok hc
          have k := K H locs cells slots arr hI hL
          rcases d with f | f | f | f | f
          · exact va_alen (cA := dA t) hx hb hK hP h0 t (zw_get (c := .inl (t, n, .inl f)) hc2) (zty_get hty) rfl (hd' (by simp [zlen])) k
          · exact va_alen (cA := dA t) hx hb hK hP h0 t (zw_get (c := .inl (t, n, .inr (.inl f))) hc2) (zty_get hty) rfl (hd' (by simp [zlen])) k
          · exact va_alen (cA := dA t) hx hb hK hP h0 t (zw_get (c := .inl (t, n, .inr (.inr (.inl f)))) hc2) (zty_get hty) rfl (hd' (by simp [zlen])) k
          · exact va_alen (cA := dA t) hx hb hK hP h0 t (zw_get (c := .inl (t, n, .inr (.inr (.inr (.inl f))))) hc2) (zty_get hty) rfl (hd' (by simp [zlen])) k
          · exact va_alen (cA := dA t) hx hb hK hP h0 t (zw_get (c := .inl (t, n, .inr (.inr (.inr (.inr f))))) hc2) (zty_get hty) rfl (hd' (by simp [zlen])) k
        · cases h
      · cases h
    · cases h
  | new k =>
    simp only [zst] at h
    split at h
    · rename_i ci rr hr
      split at h
      · rename_i fs hfs
        cases h
        obtain ⟨q, hq, hw1, hw2, hw3⟩ := zN_ok hr
        obtain ⟨ty, hty, hpd, hnmq, fs', hfs', hfl, hdef⟩ := zT_ok hq
        have hfe : fs' = fs := Option.some.inj (hfs'.symm.trans hfs)
        subst hfe
        obtain ⟨q1, q2, q3⟩ := q
        have hlen5 := hI.2.2.2.2.1
        have hsl6 := hI.2.2.2.2.2
        dsimp only at hrc hrs
        rw [List.length_append] at hrc
        rw [zhs_push] at hrs
        simp only [List.length_cons, List.length_nil, zsz] at hrc hrs
        refine va_new (D := (dC, dI)) (ci := ci) (fs := fs'.map (zv ad)) (C := q1) (T := q2) (N := q3) hx hb hG (zU_ok hq) ty hpd hown (hG _ hw1) (hG _ hw2) (hG _ hw3) hK hP hD hS hF.2.1 hq (fun j hj => ?_) (by omega) (by dsimp only at hfl; omega) (hd' (by simp [zlen])) (fun a H1 hP1 hD1 hS1 => zW_size (fun hle => ?_))
        · rw [hdef j hj]
          have e8 : vp_V (fs'.map (zv ad)) j = zv ad (vp_V fs' j) := by
            unfold vp_V
            rw [List.getD_eq_getElem?_getD, List.getD_eq_getElem?_getD, List.getElem?_map]
            cases fs'[j]? <;> rfl
          rw [e8, ← hdef j hj, zdef_zv]
        · obtain ⟨rfl, hI1⟩ := zIn_push (x := .inr (ci, fs')) hF hI hP1 hD1 hS1 hle
          have k := K H1 locs (cells + 1) (slots + q3) arr (by dsimp only [zsz] at hI1; dsimp only at hfl; rw [hfl] at hI1; exact hI1) hL
          exact k
      · cases h
    · cases h
  | newarray aty =>
    simp only [zst] at h
    split at h
    · rename_i n r
      split at h
      · cases h
      · rename_i hn
        have hn0 : ¬ n < 0 := fun q => hn (Or.inl q)
        have hn1 : n.toNatClampNeg ≤ 1000000 := Nat.not_lt.mp fun q => hn (Or.inr q)
        have hlen5 := hI.2.2.2.2.1
        have hsl6 := hI.2.2.2.2.2
        split at h
        · cases h
          dsimp only at hrc hrs
          rw [List.length_append] at hrc
          rw [zhs_push] at hrs
          simp only [List.length_cons, List.length_nil, zsz] at hrc hrs
          refine va_newa (a0 := (n.toNatClampNeg, .inl (fun _ => 0))) (atype := .int) (ty := .int) hx hb (hG _ zac_i) rfl hK hP hD hS hF.2.1 (fun _ => rfl) hn0 rfl (by simp only [componentBytes]; omega) (by omega) (by omega) (hd' (by simp [zlen])) (fun q cA H1 hK1 hP1 hD1 hS1 => zW_size (fun hle => ?_))
          have hcA : cA = dA 0 := zRA_inj (hK1.2 (zty dA).length (cA, .int) (by simp)).2 (hK.2 0 _ (zty_get zTY_0)).2
          subst hcA
          obtain ⟨rfl, hI1⟩ := zIn_push (x := .inl (0, n.toNatClampNeg, .inl (fun _ => 0))) hF hI hP1 hD1 hS1 hle
          exact K H1 locs (cells + 1) (slots + n.toNatClampNeg) arr hI1 hL
        · cases h
          dsimp only at hrc hrs
          rw [List.length_append] at hrc
          rw [zhs_push] at hrs
          simp only [List.length_cons, List.length_nil, zsz] at hrc hrs
          refine va_newa (a0 := (n.toNatClampNeg, .inl (fun _ => 0))) (atype := .boolean) (ty := .boolean) hx hb (hG _ zac_z) rfl hK hP hD hS hF.2.1 (fun _ => rfl) hn0 rfl (by simp only [componentBytes]; omega) (by omega) (by omega) (hd' (by simp [zlen])) (fun q cA H1 hK1 hP1 hD1 hS1 => zW_size (fun hle => ?_))
          have hcA : cA = dA 1 := zRA_inj (hK1.2 (zty dA).length (cA, .boolean) (by simp)).2 (hK.2 1 _ (zty_get zTY_1)).2
          subst hcA
          obtain ⟨rfl, hI1⟩ := zIn_push (x := .inl (1, n.toNatClampNeg, .inl (fun _ => 0))) hF hI hP1 hD1 hS1 hle
          exact K H1 locs (cells + 1) (slots + n.toNatClampNeg) arr hI1 hL
        · cases h
          dsimp only at hrc hrs
          rw [List.length_append] at hrc
          rw [zhs_push] at hrs
          simp only [List.length_cons, List.length_nil, zsz] at hrc hrs
          refine va_newa (a0 := (n.toNatClampNeg, .inr (.inl (fun _ => 0)))) (atype := .long) (ty := .long) hx hb (hG _ zac_l) rfl hK hP hD hS hF.2.1 (fun _ => rfl) hn0 rfl (by simp only [componentBytes]; omega) (by omega) (by omega) (hd' (by simp [zlen])) (fun q cA H1 hK1 hP1 hD1 hS1 => zW_size (fun hle => ?_))
          have hcA : cA = dA 2 := zRA_inj (hK1.2 (zty dA).length (cA, .long) (by simp)).2 (hK.2 2 _ (zty_get zTY_2)).2
          subst hcA
          obtain ⟨rfl, hI1⟩ := zIn_push (x := .inl (2, n.toNatClampNeg, .inr (.inl (fun _ => 0)))) hF hI hP1 hD1 hS1 hle
          exact K H1 locs (cells + 1) (slots + n.toNatClampNeg) arr hI1 hL
        · cases h
    · cases h
  | anewarray k =>
    simp only [zst] at h
    split at h
    · rename_i n r
      split at h
      · cases h
      · rename_i hn
        have hn0 : ¬ n < 0 := fun q => hn (Or.inl q)
        have hn1 : n.toNatClampNeg ≤ 1000000 := Nat.not_lt.mp fun q => hn (Or.inr q)
        have hlen5 := hI.2.2.2.2.1
        have hsl6 := hI.2.2.2.2.2
        split at h
        · rename_i t rr hr
          cases h
          obtain ⟨ci, r2⟩ := rr
          obtain ⟨q, hq, hty, hw1, hw2⟩ := zA_ok hr
          dsimp only at hrc hrs
          rw [List.length_append] at hrc
          rw [zhs_push] at hrs
          simp only [List.length_cons, List.length_nil, zsz] at hrc hrs
          refine va_newq (C := q.1) hx hb hown (hG _ hw1) (hX.2 _ _ _ _ _ _ hr hq) hK hP hD hS hF.2.1 hn0 rfl (by omega) (by omega) (by omega) (hd' (by simp [zlen])) (fun a cA H1 hK1 hP1 hD1 hS1 => zW_size (fun hle => ?_))
          have hcA : cA = dA t := zRA_inj (hK1.2 (zty dA).length (cA, .object q.1) (by simp)).2 (hK.2 t _ (zty_get hty)).2
          subst hcA
          obtain ⟨rfl, hI1⟩ := zIn_push (x := .inl (t, n.toNatClampNeg, .inr (.inr (.inr (.inr (fun _ => none)))))) hF hI hP1 hD1 hS1 hle
          exact K H1 locs (cells + 1) (slots + n.toNatClampNeg) arr hI1 hL
        · cases h
    · cases h
  | invokespecial k =>
    simp only [zst] at h
    split at h
    · rename_i rr hr
      split at h
      · rename_i a r
        split at h
        · rename_i hc
          cases h
          obtain ⟨w1, w2, w3⟩ := zO_ok hr
          refine W.objInit (g := F0 m pc arr ((.ref (ad a)) :: r.map (zv ad))) hx hb hown (hG _ w1) (hG _ w2) (hG _ w3) rfl (by rw [hml]; exact hL.1) rfl (hd' (by simp [zlen])) hfr ?_ (K H locs cells slots arr hI hL)
          show 2 * 0 + ((r.map (zv ad)).map fun v => v.category).sum + 12 ≤ R.locals
          rw [zmapcat]
          omega
        · cases h
      · cases h
    · cases h
  | invokestatic k =>
    simp only [zst] at h
    split at h
    · rename_i w rr hr
      split at h
      · rename_i y x r
        split at h
        · rename_i hc
          cases h
          obtain ⟨w1, w2, w3, w4⟩ := zX_ok hr
          have hlen5 := hI.2.2.2.2.1
          have hsl6 := hI.2.2.2.2.2
          dsimp only at hrc hrs
          have hcat := zmapcat (ad := ad) r
          have k := K H locs cells slots arr hI hL
          by_cases hw0 : w = 0
          · simp only [hw0, zmn, zmc, if_true] at w1 w2 w4
            simp only [hw0, if_true] at k
            exact va_mmin hx hb (by rw [hml]; exact hL.1.symm) hown (hG _ w1) (hG _ w2) (hG _ w3) (hG _ w4) hfr (by rw [hcat]; omega) (by omega) (by omega) (hd' (by simp [zlen])) k
          · simp only [hw0, zmn, zmc, if_false] at w1 w2 w4
            simp only [hw0, if_false] at k
            exact va_mmax hx hb (by rw [hml]; exact hL.1.symm) hown (hG _ w1) (hG _ w2) (hG _ w3) (hG _ w4) hfr (by rw [hcat]; omega) (by omega) (by omega) (hd' (by simp [zlen])) k
        · cases h
      · cases h
    · cases h
  | _ => exact absurd h (by simp [zst])
end ZST2
end
section
/-! ===== a run of the small machine is a contract of the machine ===== -/
theorem zputf_len {mi : Nat} {hp hp' : zHp} {k : Nat} {o v : Value} (h : zputf mi hp k o v = some hp') : hp'.length = hp.length ∧ zhs hp' = zhs hp := by
  unfold zputf at h
  split at h
  · rename_i h0 ci fs hc
    split at h
    · split at h
      · split at h
        · split at h
          · cases h
            exact ⟨List.length_set, zhs_set (zcell_ok hc).2 (by simp [zsz])⟩
          · cases h
        · cases h
      · cases h
    · cases h
  · cases h
theorem zast_len {hp hp' : zHp} {i : Int32} {o v : Value} (h : zast hp o i v = some hp') : hp'.length = hp.length ∧ zhs hp' = zhs hp := by
  unfold zast at h
  split at h
  · rename_i h0 t n d hc
    split at h
    · split at h
      · split at h
        · cases h
          exact ⟨List.length_set, zhs_set (zcell_ok hc).2 rfl⟩
        · split at h
          · cases h
            exact ⟨List.length_set, zhs_set (zcell_ok hc).2 rfl⟩
          · cases h
      · split at h
        · cases h
          exact ⟨List.length_set, zhs_set (zcell_ok hc).2 rfl⟩
        · cases h
      · split at h
        · split at h
          · split at h
            · cases h
              exact ⟨List.length_set, zhs_set (zcell_ok hc).2 rfl⟩
            · cases h
          · cases h
        · cases h
      · cases h
    · cases h
  · cases h
theorem zle2 {a b : zHp} (h : b.length = a.length ∧ zhs b = zhs a) : a.length ≤ b.length ∧ zhs a ≤ zhs b := ⟨by omega, by omega⟩
theorem zle3 (a : zHp) (x : va_E) : a.length ≤ (a ++ [x]).length ∧ zhs a ≤ zhs (a ++ [x]) := ⟨by simp, by rw [zhs_push]; omega⟩
set_option maxHeartbeats 4000000 in
theorem zst_mono {mi : Nat} {i : Instr} {pc : Nat} {ls : zLs} {st : List Value} {hp : zHp} {x : zCf} (h : zst mi i pc ls st hp = some x) : hp.length ≤ x.2.2.2.length ∧ zhs hp ≤ zhs x.2.2.2 := by
  cases i <;> simp only [zst, reduceCtorEq] at h
  all_goals (repeat' split at h)
  all_goals first
    | (cases h; done)
    | (cases h; exact ⟨Nat.le_refl _, Nat.le_refl _⟩)
    | (cases h; exact zle3 _ _)
    | (cases h; exact zle2 (zputf_len (by assumption)))
    | (cases h; exact zle2 (zast_len (by assumption)))
set_option maxHeartbeats 1000000 in
theorem zgo_mono : ∀ (n d mi pc : Nat) (ls : zLs) (st : List Value) (hp : zHp) (x : zCf), zgo n d mi pc ls st hp = some x → hp.length ≤ x.2.2.2.length ∧ zhs hp ≤ zhs x.2.2.2 := by
  intro n
  induction n with
  | zero => intro d mi pc ls st hp x h; simp [zgo] at h
  | succ n ih =>
    intro d mi pc ls st hp x h
    simp only [zgo] at h
    split at h
    · cases h
    · split at h
      · cases h; exact ⟨Nat.le_refl _, Nat.le_refl _⟩
      · split at h
        · split at h
          · cases h
          · split at h
            · cases h
            · split at h
              · cases h
              · rename_i h1
                split at h
                · cases h
                · have a := ih _ _ _ _ _ _ _ h1
                  have b := ih _ _ _ _ _ _ _ h
                  exact ⟨Nat.le_trans a.1 b.1, Nat.le_trans a.2 b.2⟩
        · split at h
          · cases h
          · rename_i h1
            have a := zst_mono h1
            have b := ih _ _ _ _ _ _ _ h
            exact ⟨Nat.le_trans a.1 b.1, Nat.le_trans a.2 b.2⟩
def zrm (d mc ms : Nat) : Room := { frames := d + 1, cells := mc, slots := ms, locals := 40 * (d + 1) }
def zPc (dC : Nat → ClassId) (dI : Nat → Nat → Nat) (dA : Nat → ClassId) (ad : Nat → Nat) (hp : zHp) (sz : Nat) (vs : List Value) : Array Value → State → Prop := va_Pc (vs.map (zv ad)) (fun U => U.heap.size = sz ∧ va_P (dC, dI) zCl (zw dA ad hp) U.heap ∧ va_K (dC, dI) zCl (zty dA) U ∧ va_D (fun _ => True) (zw dA ad hp) ∧ zX U)
def zQc (dC : Nat → ClassId) (dI : Nat → Nat → Nat) (dA : Nat → ClassId) (ad : Nat → Nat) (hp : zHp) (sz : Nat) (r : Option Value) (hp' : zHp) : Array Value → State → Outcome → State → Prop := fun _ st oc t =>
  oc = .returned (r.map (zv ad)) ∧ t.heap.size = sz + (hp'.length - hp.length) ∧ va_P (dC, dI) zCl (zw dA ad hp') t.heap ∧ va_D (va_A (zw dA ad hp) sz) (zw dA ad hp') ∧ va_F (va_A (zw dA ad hp) sz) st t
def zMet (l : Launch) (mi d : Nat) (vs : List Value) (hp : zHp) (r : Option Value) (hp' : zHp) : Prop := ∀ (dC : Nat → ClassId) (dI : Nat → Nat → Nat) (dA : Nat → ClassId) (ad : Nat → Nat) (sz : Nat), (∀ j, ad (hp.length + j) = sz + j) →
  Met l (zY mi) (zws mi) (zrm d (hp'.length - hp.length) (zhs hp' - zhs hp)) (zPc dC dI dA ad hp sz vs) (zQc dC dI dA ad hp sz r hp') (hp'.length - hp.length) (zhs hp' - zhs hp) (va_A (zw dA ad hp) sz)
theorem zPc_blind {dC : Nat → ClassId} {dI : Nat → Nat → Nat} {dA : Nat → ClassId} {ad : Nat → Nat} {hp : zHp} {sz : Nat} {vs : List Value} : FrameBlind (zPc dC dI dA ad hp sz vs) := by
  intro a U g mk q
  obtain ⟨q0, q1, qP, qK, qD, qX⟩ := q
  exact ⟨q0, q1, qP, va_K.moved (u := U) (U := U.calling g mk a) (Vm.Alike.refl U.vm) qK, qD, qX⟩
theorem zGI {mi : Nat} {ws : List Cond} (h : ∀ w ∈ ws, w ∈ zG) : GoodIn (zws mi) ws := fun w hw => ⟨List.mem_cons_of_mem _ (h w hw), good_of_word (zG_good (h w hw))⟩
section ZGO
variable {p : Program} {l : Launch} {e : Env} {R : Room} {s : State} {m : MethodId} {args : Array Value} {below : List Frame} {meth : Method} {c : Code} {H : Heap} {locs : List Loc} {cells slots : Nat} {Q : State → Prop}
variable {dC : Nat → ClassId} {dI : Nat → Nat → Nat} {dA : Nat → ClassId} {ad : Nat → Nat} {A : Nat → Prop} {n0 g0 : Nat}
/-- behind a call -/
theorem zcallg {mi pc : Nat} {ls : zLs} {arr : Array Slot} {hp hp1 : zHp} {r : Option Value} {st0 : List Value} {rest : List Value} {a : Array Value} (hF : zFx s dA ad A n0) (hI : zIn dC dI dA ad A s n0 g0 hp H locs cells slots) (hL : zHl arr (zL mi) ad ls)
    (h1 : hp.length ≤ hp1.length) (h2 : zhs hp ≤ zhs hp1)
    (hr : va_Run p l e R s m args below meth c H locs cells slots (hp1.length - hp.length) (zhs hp1 - zhs hp) (F0 m pc arr st0) (rest.map (zv ad)) (zQc dC dI dA ad hp H.size r hp1 a) (va_A (zw dA ad hp) H.size))
    (K : zWs p l e R s m args below meth c Q dC dI dA ad A n0 g0 mi (pc + 3, ls, r.toList ++ rest, hp1)) : W p l e R s m args below meth c H locs cells slots Q (F0 m pc arr st0) := by
  intro T hT X
  obtain ⟨v, st₀, t, T', L, e0, X', hLc, e1, e2, ⟨hv, hsz, hP1, hD1, hF1⟩, stp⟩ := hr T hT X
  cases hv
  have hAA : ∀ q, va_A (zw dA ad hp) H.size q → A q := by
    intro q hq
    rcases hq with ⟨k, x, hk⟩ | hq
    · exact hI.2.1.2 k _ hk
    · exact hF.2.1 q (by have := hI.2.2.2.1; omega)
  have hI' : zIn dC dI dA ad A s n0 g0 hp1 T'.heap (locs ++ L) (cells + (hp1.length - hp.length)) (slots + (zhs hp1 - zhs hp)) := by
    refine ⟨by rw [e1]; exact hP1, hD1.weaken (fun _ q _ h => hAA q.1 h), ⟨?_, ?_, ?_⟩, ?_, ?_, ?_⟩
    · rw [e1, hsz]
      have := hI.2.2.1.1
      omega
    · intro q hq hA
      have hs := hI.2.2.1
      rw [e1, hF1.2 q (by rw [e0]; exact Nat.lt_of_lt_of_le hq hs.1) (fun z => hA (hAA q z)), e0]
      exact hs.2.1 q hq hA
    · intro q hq
      rcases List.mem_append.mp hq with h | h
      · exact hI.2.2.1.2.2 q h
      · exact hAA _ (hLc q h)
    · rw [e1, hsz, hI.2.2.2.1]
      omega
    · have := hI.2.2.2.2.1
      omega
    · have := hI.2.2.2.2.2
      omega
  have k := K T'.heap (locs ++ L) _ _ arr hI' hL
  have e5 : (r.toList ++ rest).map (zv ad) = (r.map (zv ad)).toList ++ rest.map (zv ad) := by cases r <;> rfl
  dsimp only at k
  rw [e5] at k
  obtain ⟨t2, a1, b1⟩ := k T' rfl X'
  exact ⟨t2, stp t2 a1, b1⟩
theorem ztake {st : List Value} {n : Nat} {v : Value} (h : st[n]? = some v) : (st.take (n + 1)).reverse = v :: (st.take n).reverse ∧ st = st.take n ++ v :: st.drop (n + 1) ∧ (st.take n).length = n := by
  obtain ⟨hl, he⟩ := List.getElem?_eq_some_iff.mp h
  refine ⟨?_, ?_, ?_⟩
  · rw [List.take_succ, h]
    simp
  · rw [← he]
    simp
  · rw [List.length_take]
    omega
set_option maxHeartbeats 2000000 in
theorem zcall_sound {mi : Nat} {i : Instr} {len pc : Nat} {ls : zLs} {st : List Value} {hp hp1 : zHp} {mj k d' : Nat} {r : Option Value} (hcl : zcl mi i st hp = some (mj, k)) (hi : zI mi pc = some (i, len)) (CX : zCx p s m args meth c mi dC dI dA) (hF : zFx s dA ad A n0)
    (hst : ¬ (st.length < k ∨ 8 < ((st.drop k).map fun v => v.category).sum ∨ zL mj < (zent0 (st.take k).reverse).length))
    (hfr : d' + 2 ≤ R.frames) (hlo : 40 * (d' + 2) ≤ R.locals) (h1 : hp.length ≤ hp1.length) (h2 : zhs hp ≤ zhs hp1) (hrc : hp1.length ≤ n0 + R.cells) (hrs : zhs hp1 ≤ g0 + R.slots)
    (hM : mj < zMT.length → zMet l mj d' (st.take k).reverse hp r hp1)
    (K : zWs p l e R s m args below meth c Q dC dI dA ad A n0 g0 mi (pc + 3, ls, r.toList ++ st.drop k, hp1)) : zWs p l e R s m args below meth c Q dC dI dA ad A n0 g0 mi (pc, ls, st, hp) := by
  obtain ⟨hx, hb, hml, hown, hts, hret, hlk, hnm, hK, hX⟩ := CX
  obtain ⟨hmi, hd, hlen⟩ := zI_ok hi
  have hd' : zlen i ≠ 0 → decode (zB mi) pc = .ok (i, zlen i) := fun hz => by
    rcases hlen with q | q
    · rw [q]; exact hd
    · exact absurd q hz
  have hG : ∀ w ∈ zG, w.before args s = true := fun w hw => hts w (List.mem_cons_of_mem _ hw)
  intro H locs cells slots arr hI hL
  dsimp only at hI hL ⊢
  have hP := hI.1
  have hD := hI.2.1
  have hS := hI.2.2.1
  have hz4 := hI.2.2.2.1
  have hz5 := hI.2.2.2.2.1
  have hz6 := hI.2.2.2.2.2
  have hcat : ((st.drop k).map fun v => v.category).sum ≤ 8 := Nat.not_lt.mp fun q => hst (Or.inr (Or.inl q))
  have hcat' : (((st.drop k).map (zv ad)).map fun v => v.category).sum ≤ 8 := by rw [zmapcat]; exact hcat
  have had : ∀ j, ad (hp.length + j) = H.size + j := by
    intro j
    have := hF.1 (cells + j)
    rw [hz5, hz4, Nat.add_assoc, this]
    omega
  have hPre : ∀ U : State, U.heap = H → s.WarmedH U.vm → zPc dC dI dA ad hp H.size (st.take k).reverse (((st.take k).reverse).map (zv ad)).toArray U := fun U hU hW => ⟨rfl, by rw [hU], by rw [hU]; exact hP, va_K.moved hW.alike hK, hD.weaken (fun _ _ _ _ => trivial), zX.warm hW hX⟩
  unfold zcl at hcl
  split at hcl
  · rename_i kx
    split at hcl
    · rename_i mj' rr hr
      split at hcl
      · rename_i b hb1
        split at hcl
        · rename_i ci fs hb2
          split at hcl
          · rename_i hci
            cases hcl
            obtain ⟨hj, w1, w2, w3, w4, w5⟩ := zV_ok hr
            obtain ⟨m1, m2, m3, m4, m5, m6⟩ := zM_ok hj
            obtain ⟨t1, t2, t3⟩ := ztake hb1
            rw [t1] at hPre hM
            refine zcallg hF hI hL h1 h2 (va_runV (As := ((st.take (zN mj)).reverse).map (zv ad)) (rest := (st.drop (zN mj + 1)).map (zv ad)) (b := ad b) ⟨hx, hb, hml, hown, hts⟩ (hM (by rw [zMT_len]; exact hj) dC dI dA ad H.size had) (cwV (zN mj) hts (zGI ?_) rfl rfl rfl ⟨rfl, m3, m4, m5⟩ ⟨?_, ?_⟩) ⟨zPc_blind, ?_, hPre⟩ rfl (by simp; omega) hL.1 ?_ (lv_room hcat') (hd' (by simp [zlen])) ⟨?_, ?_⟩) K
            · intro w hw
              unfold wsV at hw
              rcases List.mem_append.mp hw with hw | hw
              · simp only [List.mem_cons, List.not_mem_nil, or_false] at hw
                rcases hw with rfl | rfl | rfl | rfl
                · exact w1
                · exact w2
                · exact w3
                · exact w4
              · rcases List.mem_cons.mp hw with rfl | hw
                · exact w5
                · exact hw
            · show d' + 1 + 1 ≤ R.frames
              omega
            · show 8 + (zL mj + 11) + 40 * (d' + 1) ≤ R.locals
              omega
            · have hlt : zC mj < zCl.length := by
                rcases Nat.lt_or_ge (zC mj) zCl.length with q | q
                · exact q
                · exfalso
                  obtain ⟨r9, h9, -⟩ := hP b _ (zw_get hb2)
                  subst hci
                  simp only [zc] at h9
                  rw [List.getElem?_eq_none (by omega)] at h9
                  cases h9
              have e7 : zCl[zC mj]? = some zCl[zC mj] := List.getElem?_eq_getElem hlt
              have e8 : (zY mj).cls = (zCl[zC mj]).1 := by rw [m1]; unfold zCN; rw [e7]
              rw [e8]
              exact va_recv hK hP (ci := zC mj) (q0 := b) e7 (by rw [← hci]; exact zw_get (c := .inr (ci, fs)) hb2)
            · conv => lhs; rw [t2]
              simp [zv]
            · omega
            · omega
          · cases hcl
        · cases hcl
      · cases hcl
    · cases hcl
  · rename_i kx
    split at hcl
    · rename_i mj' rr hr
      cases hcl
      obtain ⟨hj, w0, w1, w2, w3, w4⟩ := zS_ok hr
      obtain ⟨m1, m2, m3, m4, m5, m6⟩ := zM_ok hj
      have hlt : zN mj ≤ st.length := Nat.not_lt.mp fun q => hst (Or.inl q)
      refine zcallg hF hI hL h1 h2 (va_runS (As := ((st.take (zN mj)).reverse).map (zv ad)) (rest := (st.drop (zN mj)).map (zv ad)) ⟨hx, hb, hml, hown, hts⟩ (hM (by rw [zMT_len]; exact hj) dC dI dA ad H.size had) (cwS (zN mj) hts (zGI ?_) rfl rfl rfl ⟨w0, m3, m4, m5⟩ ⟨?_, ?_⟩) ⟨zPc_blind, hPre⟩ rfl (by simp; omega) hL.1 ?_ (lv_room hcat') (hd' (by simp [zlen])) ⟨?_, ?_⟩) K
      · intro w hw
        unfold wsS at hw
        rcases List.mem_append.mp hw with hw | hw
        · simp only [List.mem_cons, List.not_mem_nil, or_false] at hw
          rcases hw with rfl | rfl | rfl
          · exact w1
          · exact w2
          · rw [← w0]; exact w3
        · rcases List.mem_cons.mp hw with rfl | hw
          · exact w4
          · exact hw
      · show d' + 1 + 1 ≤ R.frames
        omega
      · show 8 + (zL mj + 11) + 40 * (d' + 1) ≤ R.locals
        omega
      · rw [← List.map_reverse, List.reverse_reverse, ← List.map_append, List.take_append_drop]
      · omega
      · omega
    · cases hcl
  · rename_i kx
    split at hcl
    · rename_i mj' rr hr
      split at hcl
      · rename_i b hb1
        cases hcl
        obtain ⟨hj, w0, w00, w1, w2, w3, w4⟩ := zQ_ok hr
        obtain ⟨m1, m2, m3, m4, m5, m6⟩ := zM_ok hj
        obtain ⟨t1, t2, t3⟩ := ztake hb1
        rw [t1] at hPre hM
        refine zcallg hF hI hL h1 h2 (va_runI (As := ((st.take (zN mj)).reverse).map (zv ad)) (rest := (st.drop (zN mj + 1)).map (zv ad)) (b := ad b) ⟨hx, hb, hml, hown, hts⟩ (hM (by rw [zMT_len]; exact hj) dC dI dA ad H.size had) (cwI (zN mj) (maxL := zL mj) (bytes := zB mj) hts (zGI ?_) (by unfold zws; rw [w00]) rfl rfl (hG _ w3) (hG _ w1) (hG _ w2) w0 ⟨m3, m4, m5⟩ ⟨?_, ?_⟩) ⟨zPc_blind, hPre⟩ rfl (by simp; omega) hL.1 ?_ (lv_room hcat') (hd' (by simp [zlen])) ⟨?_, ?_⟩) K
        · intro w hw
          rcases List.mem_cons.mp hw with rfl | hw
          · exact w4
          · exact hw
        · show d' + 1 + 1 ≤ R.frames
          omega
        · show 8 + (zL mj + 11) + 40 * (d' + 1) ≤ R.locals
          omega
        · conv => lhs; rw [t2]
          simp [zv]
        · omega
        · omega
      · cases hcl
    · split at hcl
      · rename_i mj' rr hr
        split at hcl
        · rename_i b hb1
          cases hcl
          obtain ⟨hs0, r0⟩ := rr
          obtain ⟨hj, w0, w00, w1, w2, w3, w4⟩ := zW_ok hr
          obtain ⟨m1, m2, m3, m4, m5, m6⟩ := zM_ok hj
          obtain ⟨t1, t2, t3⟩ := ztake hb1
          rw [t1] at hPre hM
          refine zcallg hF hI hL h1 h2 (va_runIN (As := ((st.take (zN mj)).reverse).map (zv ad)) (rest := (st.drop (zN mj + 1)).map (zv ad)) (b := ad b) ⟨hx, hb, hml, hown, hts⟩ (hM (by rw [zMT_len]; exact hj) dC dI dA ad H.size had) ⟨va_cnB (zN mj) (maxL := zL mj) (bytes := zB mj) hts (zGI ?_) (by unfold zws; rw [w00]) rfl rfl (hX.1 _ _ _ _ _ hr) (hG _ w3) ⟨m3, m4, m5⟩ ⟨?_, ?_⟩, w0, hG _ w2⟩ ⟨zPc_blind, hPre⟩ rfl (by simp; omega) hL.1 ?_ (lv_room hcat') (hd' (by simp [zlen])) ⟨?_, ?_⟩) K
          · intro w hw
            rcases List.mem_cons.mp hw with rfl | hw
            · exact w4
            · exact hw
          · show d' + 1 + 1 ≤ R.frames
            omega
          · show 8 + (zL mj + 11) + 40 * (d' + 1) ≤ R.locals
            omega
          · conv => lhs; rw [t2]
            simp [zv]
          · omega
          · omega
        · cases hcl
      · cases hcl
  · cases hcl
end ZGO
/-! the induction -/
def zWL (n : Nat) : Prop := ∀ (d mi pc : Nat) (ls : zLs) (st : List Value) (hp : zHp) (x : zCf), zgo n d mi pc ls st hp = some x →
  ∀ (p : Program) (l : Launch) (e : Env) (R : Room) (s : State) (m : MethodId) (args : Array Value) (below : List Frame) (meth : Method) (c : Code) (Q : State → Prop) (dC : Nat → ClassId) (dI : Nat → Nat → Nat) (dA : Nat → ClassId) (ad : Nat → Nat) (A : Nat → Prop) (n0 g0 : Nat),
  zCx p s m args meth c mi dC dI dA → zFx s dA ad A n0 → d + 1 ≤ R.frames → 40 * (d + 1) ≤ R.locals → x.2.2.2.length ≤ n0 + R.cells → zhs x.2.2.2 ≤ g0 + R.slots →
  zWs p l e R s m args below meth c Q dC dI dA ad A n0 g0 mi x → zWs p l e R s m args below meth c Q dC dI dA ad A n0 g0 mi (pc, ls, st, hp)
def zMA (n : Nat) : Prop := ∀ (l : Launch) (d mj : Nat) (vs : List Value) (hp : zHp) (x : zCf) (r : Option Value), zgo n d mj 0 (zent mj vs) [] hp = some x → mj < zMT.length → (zent0 vs).length ≤ zL mj → zrt mj x.1 x.2.2.1 = some r → zMet l mj d vs hp r x.2.2.2
set_option maxHeartbeats 2000000 in
theorem zMA_of {n : Nat} (hw : zWL n) : zMA n := by
  intro l d mj vs hp x r hgo hj hvs hrt dC dI dA ad sz had
  rw [zMT_len] at hj
  obtain ⟨m1, m2, m3, m4, m5, m6⟩ := zM_ok hj
  have hmono := zgo_mono _ _ _ _ _ _ _ _ hgo
  refine Met.ofW (cc := zB mj) (maxL := zL mj) (ret := zR mj) m2 rfl ?_
  intro p e s m args below meth c s₁ B hml hv
  obtain ⟨rfl, hsz, hP, hK, hD0, hX⟩ := hv
  subst hsz
  have hts := atoms_spec (ws := zws mj) B.pre
  have hown : s.vm.findClass (zY mj).cls = some m.cls := findClass_of_methodNamed B.named
  rw [m1] at hown
  have CX : zCx p s m (vs.map (zv ad)).toArray meth c mj dC dI dA := ⟨B.exec, B.bytes, hml, hown, hts, B.returns, B.notSynchronized, (name_of_methodNamed B.named B.method).1, hK, hX⟩
  have hF : zFx s dA ad (va_A (zw dA ad hp) s.heap.size) hp.length := by
    refine ⟨had, fun q hq => Or.inr hq, fun q hq hlt => ?_⟩
    rcases hq with ⟨k, x9, hk⟩ | hq
    · obtain ⟨c9, h1, h2⟩ := zw_got hk
      have h3 : q = ad k := congrArg Prod.fst h2
      exact ⟨k, (List.getElem?_eq_some_iff.mp h1).1, h3⟩
    · omega
  have hI : zIn dC dI dA ad (va_A (zw dA ad hp) s.heap.size) s hp.length (zhs hp) hp s.heap [] 0 0 := ⟨hP, hD0.self, va_S.rf, rfl, rfl, rfl⟩
  rw [lg_entry_eq]
  refine hw d mj 0 (zent mj vs) [] hp x hgo p l e _ s m _ below meth c _ dC dI dA ad (va_A (zw dA ad hp) s.heap.size) hp.length (zhs hp) CX hF (Nat.le_refl _) (Nat.le_refl _) (by show _ ≤ hp.length + (x.2.2.2.length - hp.length); omega) (by show _ ≤ zhs hp + (zhs x.2.2.2 - zhs hp); omega) ?_ s.heap [] 0 0 _ hI (zHl_entry hvs)
  intro H locs cells slots arr hI1 hL1
  obtain ⟨hP1, hD1, hS1, hz4, hz5, hz6⟩ := hI1
  have hc1 : cells = x.2.2.2.length - hp.length := by omega
  have hc2 : slots = zhs x.2.2.2 - zhs hp := by omega
  have hq : ∀ t : State, t.heap = H → s.WarmedH t.vm → zQc dC dI dA ad hp s.heap.size r x.2.2.2 (vs.map (zv ad)).toArray s (.returned (r.map (zv ad))) t := fun t ht hW => ⟨rfl, by rw [ht, hz4, hc1], by rw [ht]; exact hP1, hD1, hS1.F ht⟩
  have hf : ∀ q ∈ locs, va_A (zw dA ad hp) s.heap.size q.base := hS1.2.2
  unfold zrt at hrt
  rw [← hc1, ← hc2]
  split at hrt
  · rename_i ln hi
    obtain ⟨-, hdd, hll⟩ := zI_ok hi
    have hln : ln = 1 := hll.elim (fun q => q.symm) (fun q => by simp [zlen] at q)
    subst hln
    split at hrt
    · rename_i v ty hst hty
      split at hrt
      · rename_i hn
        cases hrt
        rw [hst]
        exact W.zret B.exec B.bytes (by rw [B.returns]; exact hty) hn hq hf hdd
      · cases hrt
    · cases hrt
  · rename_i ln hi
    obtain ⟨-, hdd, hll⟩ := zI_ok hi
    have hln : ln = 1 := hll.elim (fun q => q.symm) (fun q => by simp [zlen] at q)
    subst hln
    split at hrt
    · rename_i v hst hty
      cases hrt
      rw [hst]
      exact W.lret B.exec B.bytes (by rw [B.returns]; exact hty) hq hf hdd
    · cases hrt
  · rename_i ln hi
    obtain ⟨-, hdd, hll⟩ := zI_ok hi
    have hln : ln = 1 := hll.elim (fun q => q.symm) (fun q => by simp [zlen] at q)
    subst hln
    split at hrt
    · rename_i a C hst hty
      cases hrt
      rw [hst]
      exact W.aret B.exec B.bytes (by rw [B.returns]; exact hty) (Or.inl ⟨_, rfl⟩) (Or.inr ⟨_, rfl⟩) hq hf hdd
    · rename_i C hst hty
      cases hrt
      rw [hst]
      exact W.aret B.exec B.bytes (by rw [B.returns]; exact hty) (Or.inl ⟨_, rfl⟩) (Or.inl rfl) hq hf hdd
    · cases hrt
  · rename_i ln hi
    obtain ⟨-, hdd, hll⟩ := zI_ok hi
    have hln : ln = 1 := hll.elim (fun q => q.symm) (fun q => by simp [zlen] at q)
    subst hln
    split at hrt
    · rename_i hst hty
      cases hrt
      rw [hst]
      exact W.vret B.exec B.bytes (by rw [B.returns]; exact hty) hq hf hdd
    · cases hrt
  · cases hrt
theorem zWL_0 : zWL 0 := by
  intro d mi pc ls st hp x h
  simp [zgo] at h
set_option maxHeartbeats 2000000 in
theorem zWL_s {n : Nat} (hw : zWL n) (hm : zMA n) : zWL (n + 1) := by
  intro d mi pc ls st hp x h p l e R s m args below meth c Q dC dI dA ad A n0 g0 CX hF hfr hlo hrc hrs K
  simp only [zgo] at h
  split at h
  · cases h
  · rename_i i len hi
    split at h
    · cases h; exact K
    · split at h
      · rename_i mj k hcl
        split at h
        · cases h
        · rename_i d'
          split at h
          · cases h
          · rename_i hst
            split at h
            · cases h
            · rename_i pc1 ls1 st1 hp1 h1
              split at h
              · cases h
              · rename_i r hr
                have a := zgo_mono _ _ _ _ _ _ _ _ h1
                have b := zgo_mono _ _ _ _ _ _ _ _ h
                exact zcall_sound hcl hi CX hF hst (by omega) (by omega) a.1 a.2 (Nat.le_trans b.1 hrc) (Nat.le_trans b.2 hrs) (fun hj => hm l d' mj _ hp _ r h1 hj (Nat.not_lt.mp fun q => hst (Or.inr (Or.inr q))) hr)
                  (hw _ _ _ _ _ _ _ h p l e R s m args below meth c Q dC dI dA ad A n0 g0 CX hF hfr hlo hrc hrs K)
      · split at h
        · cases h
        · rename_i y hy
          have b := zgo_mono _ _ _ _ _ _ _ _ h
          exact zst_sound hy hi CX hF (by omega) (by omega) (Nat.le_trans b.1 hrc) (Nat.le_trans b.2 hrs) (hw _ _ _ _ _ _ _ h p l e R s m args below meth c Q dC dI dA ad A n0 g0 CX hF hfr hlo hrc hrs K)
theorem zWL_all : ∀ n, zWL n
  | 0 => zWL_0
  | n + 1 => zWL_s (zWL_all n) (zMA_of (zWL_all n))
theorem zMA_all (n : Nat) : zMA n := zMA_of (zWL_all n)
end
section
/-! ===== runs of the small machine, goal first ===== -/
set_option maxHeartbeats 1000000 in
theorem zgo_more : ∀ (n d mi pc : Nat) (ls : zLs) (st : List Value) (hp : zHp) (x : zCf), zgo n d mi pc ls st hp = some x → zgo (n + 1) d mi pc ls st hp = some x := by
  intro n
  induction n with
  | zero => intro d mi pc ls st hp x h; simp [zgo] at h
  | succ n ih =>
    intro d mi pc ls st hp x h
    rw [zgo] at h ⊢
    split at h
    · cases h
    · split at h
      · next hs => rw [if_pos hs]; exact h
      · next hs =>
        rw [if_neg hs]
        split at h
        · split at h
          · cases h
          · split at h
            · cases h
            · next hst =>
              rw [if_neg hst]
              split at h
              · cases h
              · next h1 =>
                split at h
                · cases h
                · next h2 =>
                  rw [ih _ _ _ _ _ _ _ h1]
                  simp only [h2]
                  exact ih _ _ _ _ _ _ _ h
        · split at h
          · cases h
          · exact ih _ _ _ _ _ _ _ h
theorem zgo_le {n k d mi pc : Nat} {ls : zLs} {st : List Value} {hp : zHp} {x : zCf} (h : zgo n d mi pc ls st hp = some x) (hk : n ≤ k) : zgo k d mi pc ls st hp = some x := by
  obtain ⟨j, rfl⟩ := Nat.exists_eq_add_of_le hk
  clear hk
  induction j with
  | zero => exact h
  | succ j ih => exact zgo_more _ _ _ _ _ _ _ _ ih
def Ev (d mi pc : Nat) (ls : zLs) (st : List Value) (hp : zHp) (Q : zCf → Prop) : Prop := ∃ n x, zgo n d mi pc ls st hp = some x ∧ Q x
/-- method mj, called with the words vs, answers r and leaves the rows hp' -/
def Qr (mj : Nat) (r : Option Value) (hp' : zHp) : zCf → Prop := fun x => zrt mj x.1 x.2.2.1 = some r ∧ x.2.2.2 = hp'
def Rn (d mj : Nat) (vs : List Value) (hp : zHp) (r : Option Value) (hp' : zHp) : Prop := Ev d mj 0 (zent mj vs) [] hp (Qr mj r hp')
def zbrk : Instr → Bool
  | .ifCond _ _ | .if_icmp _ _ | .tableswitch _ _ _ _ => true
  | _ => false
/-- one step that is no call, no branch and no end -/
def zone (mi pc : Nat) (ls : zLs) (st : List Value) (hp : zHp) : Option zCf := match zI mi pc with
  | none => none
  | some (i, _) => match zsp mi i with
    | true => none
    | false => match zbrk i with
      | true => none
      | false => match zcl mi i st hp with
        | some _ => none
        | none => zst mi i pc ls st hp
theorem ev_s {d mi pc pc' : Nat} {ls ls' : zLs} {st st' : List Value} {hp hp' : zHp} {Q : zCf → Prop} (h : zone mi pc ls st hp = some (pc', ls', st', hp')) (K : Ev d mi pc' ls' st' hp' Q) : Ev d mi pc ls st hp Q := by
  obtain ⟨n, x, hx, hq⟩ := K
  refine ⟨n + 1, x, ?_, hq⟩
  unfold zone at h
  split at h
  · cases h
  · next i len hi =>
    rw [zgo, hi]
    split at h
    · cases h
    · next hs =>
      split at h
      · cases h
      · split at h
        · cases h
        · next hc =>
          simp only [hs, hc, h, Bool.false_eq_true, if_false]
          exact hx
theorem ev_ret {d mi pc : Nat} {ls : zLs} {st : List Value} {hp : zHp} {Q : zCf → Prop} {i : Instr} {len : Nat} (hi : zI mi pc = some (i, len)) (hs : zsp mi i = true) (K : Q (pc, ls, st, hp)) : Ev d mi pc ls st hp Q :=
  ⟨1, _, by rw [zgo, hi]; simp only [hs, if_true], K⟩
theorem ev_if {d mi pc t len : Nat} {ls : zLs} {st : List Value} {hp : zHp} {Q : zCf → Prop} {c : ClassFile.Cond} {off : Int} {x : Int32} (hi : zI mi pc = some (.ifCond c off, len)) (ht : ztg pc off = some t) (K : Ev d mi (zbr c x 0 t (pc + 3)) ls st hp Q) : Ev d mi pc ls (.int x :: st) hp Q := by
  obtain ⟨n, y, hy, hq⟩ := K
  refine ⟨n + 1, y, ?_, hq⟩
  rw [zgo, hi]
  simp only [zsp, zcl, zst, ht, Bool.false_eq_true, if_false]
  exact hy
theorem ev_ic {d mi pc t len : Nat} {ls : zLs} {st : List Value} {hp : zHp} {Q : zCf → Prop} {c : ClassFile.Cond} {off : Int} {x y : Int32} (hi : zI mi pc = some (.if_icmp c off, len)) (ht : ztg pc off = some t) (K : Ev d mi (zbr c x y t (pc + 3)) ls st hp Q) : Ev d mi pc ls (.int y :: .int x :: st) hp Q := by
  obtain ⟨n, z, hz, hq⟩ := K
  refine ⟨n + 1, z, ?_, hq⟩
  rw [zgo, hi]
  simp only [zsp, zcl, zst, ht, Bool.false_eq_true, if_false]
  exact hz
theorem ev_sw {d mi pc t len : Nat} {ls : zLs} {st : List Value} {hp : zHp} {Q : zCf → Prop} {df lo hi off : Int} {offs : Array Int} {x : Int32} (hI : zI mi pc = some (.tableswitch df lo hi offs, len)) (ho : zsw df lo hi offs x.toInt = some off) (ht : ztg pc off = some t) (K : Ev d mi t ls st hp Q) : Ev d mi pc ls (.int x :: st) hp Q := by
  obtain ⟨n, z, hz, hq⟩ := K
  refine ⟨n + 1, z, ?_, hq⟩
  rw [zgo, hI]
  simp only [zsp, zcl, zst, ho, ht, Bool.false_eq_true, if_false]
  exact hz
/-- the branch taken or not -/
theorem ev_br {d mi t f : Nat} {ls : zLs} {st : List Value} {hp : zHp} {Q : zCf → Prop} {x y : Int32} {c : ClassFile.Cond} {P : Prop} (hP : zbr c x y t f = t ∧ P ∨ zbr c x y t f = f ∧ ¬ P) (kt : P → Ev d mi t ls st hp Q) (kf : ¬ P → Ev d mi f ls st hp Q) : Ev d mi (zbr c x y t f) ls st hp Q := by
  rcases hP with ⟨e, h⟩ | ⟨e, h⟩
  · rw [e]; exact kt h
  · rw [e]; exact kf h
theorem zb_eq (x y : Int32) (t f : Nat) : zbr .eq x y t f = t ∧ x = y ∨ zbr .eq x y t f = f ∧ ¬ x = y := by
  by_cases h : x = y
  · exact Or.inl ⟨if_pos h, h⟩
  · exact Or.inr ⟨if_neg h, h⟩
theorem zb_ne (x y : Int32) (t f : Nat) : zbr .ne x y t f = t ∧ ¬ x = y ∨ zbr .ne x y t f = f ∧ ¬ ¬ x = y := by
  by_cases h : x = y
  · exact Or.inr ⟨if_pos h, fun q => q h⟩
  · exact Or.inl ⟨if_neg h, h⟩
theorem zb_lt (x y : Int32) (t f : Nat) : zbr .lt x y t f = t ∧ x < y ∨ zbr .lt x y t f = f ∧ ¬ x < y := by
  by_cases h : x < y
  · exact Or.inl ⟨if_pos h, h⟩
  · exact Or.inr ⟨if_neg h, h⟩
theorem zb_ge (x y : Int32) (t f : Nat) : zbr .ge x y t f = t ∧ y ≤ x ∨ zbr .ge x y t f = f ∧ ¬ y ≤ x := by
  by_cases h : y ≤ x
  · exact Or.inl ⟨if_pos h, h⟩
  · exact Or.inr ⟨if_neg h, h⟩
theorem zb_gt (x y : Int32) (t f : Nat) : zbr .gt x y t f = t ∧ y < x ∨ zbr .gt x y t f = f ∧ ¬ y < x := by
  by_cases h : y < x
  · exact Or.inl ⟨if_pos h, h⟩
  · exact Or.inr ⟨if_neg h, h⟩
theorem zb_le (x y : Int32) (t f : Nat) : zbr .le x y t f = t ∧ x ≤ y ∨ zbr .le x y t f = f ∧ ¬ x ≤ y := by
  by_cases h : x ≤ y
  · exact Or.inl ⟨if_pos h, h⟩
  · exact Or.inr ⟨if_neg h, h⟩
/-- a field of a cell that a hypothesis tells -/
theorem ev_gf {d mi pc idx len a ci kk pp : Nat} {ls : zLs} {r : List Value} {hp : zHp} {fs : List Value} {v : Value} {Q : zCf → Prop} (hc : hp[a]? = some (.inr (ci, fs))) (hi : zI mi pc = some (.getfield idx, len)) (hf : zrow zFT (zC mi) idx = some (ci, kk, pp)) (hv : fs[kk]? = some v) (K : Ev d mi (pc + 3) ls (v :: r) hp Q) : Ev d mi pc ls (.ref a :: r) hp Q := by
  refine ev_s (pc' := pc + 3) (ls' := ls) (st' := v :: r) (hp' := hp) ?_ K
  simp only [zone, hi, zsp, zbrk, zcl, zst, zgetf, zcell, hc, hf, if_true, hv]
/-- a call, by what its method does -/
theorem ev_call {d mi pc : Nat} {ls : zLs} {st : List Value} {hp hp' : zHp} {Q : zCf → Prop} {i : Instr} {len mj k : Nat} {r : Option Value} (hi : zI mi pc = some (i, len)) (hs : zsp mi i = false) (hc : zcl mi i st hp = some (mj, k)) (hst : (decide (st.length < k) || decide (8 < ((st.drop k).map fun v => v.category).sum) || decide (zL mj < (zent0 (st.take k).reverse).length)) = false)
    (hR : Rn d mj (st.take k).reverse hp r hp') (K : Ev (d + 1) mi (pc + 3) ls (r.toList ++ st.drop k) hp' Q) : Ev (d + 1) mi pc ls st hp Q := by
  obtain ⟨n1, x1, h1, h2, h3⟩ := hR
  obtain ⟨n2, x2, h4, h5⟩ := K
  refine ⟨max n1 n2 + 1, x2, ?_, h5⟩
  rw [zgo, hi]
  simp only [hs, Bool.false_eq_true, if_false, hc]
  have hst' : ¬ (st.length < k ∨ 8 < ((st.drop k).map fun v => v.category).sum ∨ zL mj < (zent0 (st.take k).reverse).length) := by
    simp only [Bool.or_eq_false_iff, decide_eq_false_iff_not] at hst
    rintro (q | q | q)
    · exact hst.1.1 q
    · exact hst.1.2 q
    · exact hst.2 q
  rw [if_neg hst', zgo_le h1 (Nat.le_max_left n1 n2)]
  simp only [h2]
  rw [h3]
  exact zgo_le h4 (Nat.le_max_right n1 n2)
theorem Ev.imp {d mi pc : Nat} {ls : zLs} {st : List Value} {hp : zHp} {Q Q' : zCf → Prop} (h : Ev d mi pc ls st hp Q) (hq : ∀ x, Q x → Q' x) : Ev d mi pc ls st hp Q' := by
  obtain ⟨n, x, h1, h2⟩ := h
  exact ⟨n, x, h1, hq x h2⟩
theorem ev_ri {d mi pc len : Nat} {ls : zLs} {v : Int32} {hp hp' : zHp} {r : Option Value} (hi : zI mi pc = some (.ireturn, len)) (hr : zR mi = some .int) (K : some (.int v) = r) (Kh : hp = hp') : Ev d mi pc ls [.int v] hp (Qr mi r hp') :=
  ev_ret hi rfl ⟨by
    simp only [zrt, hi]
    rw [hr]
    simp only [narrow, if_true, K], Kh⟩
theorem ev_rz {d mi pc len : Nat} {ls : zLs} {v : Int32} {hp hp' : zHp} {r : Option Value} (hi : zI mi pc = some (.ireturn, len)) (hr : zR mi = some .boolean) (hv : v = 0 ∨ v = 1) (K : some (.int v) = r) (Kh : hp = hp') : Ev d mi pc ls [.int v] hp (Qr mi r hp') :=
  ev_ret hi rfl ⟨by
    have hn : narrow .boolean (.int v) = .int v := by rcases hv with rfl | rfl <;> decide
    simp only [zrt, hi]
    rw [hr]
    simp only [hn, if_true, K], Kh⟩
theorem ev_rl {d mi pc len : Nat} {ls : zLs} {v : Int64} {hp hp' : zHp} {r : Option Value} (hi : zI mi pc = some (.lreturn, len)) (hr : zR mi = some .long) (K : some (.long v) = r) (Kh : hp = hp') : Ev d mi pc ls [.long v] hp (Qr mi r hp') :=
  ev_ret hi rfl ⟨by
    simp only [zrt, hi]
    rw [hr]
    simp only [K], Kh⟩
theorem ev_ra {d mi pc len : Nat} {ls : zLs} {a : Nat} {C : String} {hp hp' : zHp} {r : Option Value} (hi : zI mi pc = some (.areturn, len)) (hr : zR mi = some (.object C)) (K : some (.ref a) = r) (Kh : hp = hp') : Ev d mi pc ls [.ref a] hp (Qr mi r hp') :=
  ev_ret hi rfl ⟨by
    simp only [zrt, hi]
    rw [hr]
    simp only [K], Kh⟩
theorem ev_rn {d mi pc len : Nat} {ls : zLs} {C : String} {hp hp' : zHp} {r : Option Value} (hi : zI mi pc = some (.areturn, len)) (hr : zR mi = some (.object C)) (K : some .null = r) (Kh : hp = hp') : Ev d mi pc ls [.null] hp (Qr mi r hp') :=
  ev_ret hi rfl ⟨by
    simp only [zrt, hi]
    rw [hr]
    simp only [K], Kh⟩
theorem ev_rv {d mi pc len : Nat} {ls : zLs} {hp hp' : zHp} {r : Option Value} (hi : zI mi pc = some (.return_, len)) (hr : zR mi = none) (K : none = r) (Kh : hp = hp') : Ev d mi pc ls [] hp (Qr mi r hp') :=
  ev_ret hi rfl ⟨by
    simp only [zrt, hi]
    rw [hr]
    simp only [K], Kh⟩
end
section
/-! ===== rules for single instructions ===== -/
section ZR
variable {d mi pc len : Nat} {ls : zLs} {st r : List Value} {hp hp' : zHp} {Q : zCf → Prop}
theorem ev_ik {n : Int} {v : Int32} (hi : zI mi pc = some (.iconst n, len)) (hv : Int32.ofInt n = v) (K : Ev d mi (pc + 1) ls (.int v :: st) hp Q) : Ev d mi pc ls st hp Q := by
  subst hv
  exact ev_s (by simp only [zone, hi, zsp, zbrk, zcl, zst]) K
theorem ev_bi {n : Int} {v : Int32} (hi : zI mi pc = some (.bipush n, len)) (hv : (Int8.ofInt n).toInt32 = v) (K : Ev d mi (pc + 2) ls (.int v :: st) hp Q) : Ev d mi pc ls st hp Q := by
  subst hv
  exact ev_s (by simp only [zone, hi, zsp, zbrk, zcl, zst]) K
theorem ev_si {n : Int} {v : Int32} (hi : zI mi pc = some (.sipush n, len)) (hv : (Int16.ofInt n).toInt32 = v) (K : Ev d mi (pc + 3) ls (.int v :: st) hp Q) : Ev d mi pc ls st hp Q := by
  subst hv
  exact ev_s (by simp only [zone, hi, zsp, zbrk, zcl, zst]) K
theorem ev_lk {n : Fin 2} {v : Int64} (hi : zI mi pc = some (.lconst n, len)) (hv : Int64.ofNat (n : Nat) = v) (K : Ev d mi (pc + 1) ls (.long v :: st) hp Q) : Ev d mi pc ls st hp Q := by
  subst hv
  exact ev_s (by simp only [zone, hi, zsp, zbrk, zcl, zst]) K
theorem ev_inc {k : Nat} {n : Int} {x y v : Int32} {ls' : zLs} (hi : zI mi pc = some (.iinc k n, len)) (hl : zlo ls k = some (.int x)) (hn : Int32.ofInt n = y) (hv : x + y = v) (hs : zset ls k (.int v) = some ls') (K : Ev d mi (pc + 3) ls' st hp Q) : Ev d mi pc ls st hp Q := by
  subst hn
  subst hv
  exact ev_s (by simp only [zone, hi, zsp, zbrk, zcl, zst, hl, hs]) K
theorem ev_idiv {x y : Int32} (hi : zI mi pc = some (.idiv, len)) (hy : ¬ y = 0) (K : Ev d mi (pc + 1) ls (.int (x / y) :: st) hp Q) : Ev d mi pc ls (.int y :: .int x :: st) hp Q :=
  ev_s (by simp only [zone, hi, zsp, zbrk, zcl, zst, hy, if_false]) K
theorem ev_irem {x y : Int32} (hi : zI mi pc = some (.irem, len)) (hy : ¬ y = 0) (K : Ev d mi (pc + 1) ls (.int (x - x / y * y) :: st) hp Q) : Ev d mi pc ls (.int y :: .int x :: st) hp Q :=
  ev_s (by simp only [zone, hi, zsp, zbrk, zcl, zst, hy, if_false]) K
theorem ev_ldiv {x y : Int64} (hi : zI mi pc = some (.ldiv, len)) (hy : ¬ y = 0) (K : Ev d mi (pc + 1) ls (.long (x / y) :: st) hp Q) : Ev d mi pc ls (.long y :: .long x :: st) hp Q :=
  ev_s (by simp only [zone, hi, zsp, zbrk, zcl, zst, hy, if_false]) K
theorem ev_lrem {x y : Int64} (hi : zI mi pc = some (.lrem, len)) (hy : ¬ y = 0) (K : Ev d mi (pc + 1) ls (.long (x - x / y * y) :: st) hp Q) : Ev d mi pc ls (.long y :: .long x :: st) hp Q :=
  ev_s (by simp only [zone, hi, zsp, zbrk, zcl, zst, hy, if_false]) K
/-- a field is written -/
theorem ev_pf {idx a ci kk pp : Nat} {fs : List Value} {v : Value} {ty : Nat → FieldType} (hc : hp[a]? = some (.inr (ci, fs))) (hi : zI mi pc = some (.putfield idx, len)) (hf : zrow zFT (zC mi) idx = some (ci, kk, pp)) (hk : kk < fs.length) (hty : zTys[ci]? = some ty) (hz : zfits (ty kk) v = true) (hh : hp.set a (.inr (ci, fs.set kk v)) = hp') (K : Ev d mi (pc + 3) ls r hp' Q) : Ev d mi pc ls (v :: .ref a :: r) hp Q := by
  subst hh
  refine ev_s (pc' := pc + 3) (ls' := ls) (st' := r) ?_ K
  simp only [zone, hi, zsp, zbrk, zcl, zst, zputf, zcell, hc, hf, hk, and_self, if_true, hty, hz]
theorem zin_nI {k n : Nat} (h : k < n) (hn : n < 2 ^ 31) : zin (nI k) n = some k := by
  unfold zin
  rw [if_neg (nI_pos (by omega)), nI_clamp (by omega), if_pos h]
/-- rows -/
theorem ev_ia {a n k : Nat} {i : Int32} {f : Nat → Int32} (hc : hp[a]? = some (.inl (0, n, .inl f))) (hi : zI mi pc = some (.iaload, len)) (hk : zin i n = some k) (K : Ev d mi (pc + 1) ls (.int (f k) :: r) hp Q) : Ev d mi pc ls (.int i :: .ref a :: r) hp Q :=
  ev_s (by simp only [zone, hi, zsp, zbrk, zcl, zst, zald, zcell, hc, if_true, hk]) K
theorem ev_ba {a n k : Nat} {i : Int32} {f : Nat → Int32} (hc : hp[a]? = some (.inl (1, n, .inl f))) (hi : zI mi pc = some (.baload, len)) (hk : zin i n = some k) (K : Ev d mi (pc + 1) ls (.int (f k) :: r) hp Q) : Ev d mi pc ls (.int i :: .ref a :: r) hp Q :=
  ev_s (by simp only [zone, hi, zsp, zbrk, zcl, zst, zald, zcell, hc, if_true, hk]) K
theorem ev_aa {a n k t : Nat} {i : Int32} {C : String} {f : Nat → Option Nat} {v : Value} (hc : hp[a]? = some (.inl (t, n, .inr (.inr (.inr (.inr f)))))) (hi : zI mi pc = some (.aaload, len)) (ht : zTY[t]? = some (.object C)) (hk : zin i n = some k) (hv : va_rf (f k) = v) (K : Ev d mi (pc + 1) ls (v :: r) hp Q) : Ev d mi pc ls (.int i :: .ref a :: r) hp Q := by
  subst hv
  exact ev_s (by simp only [zone, hi, zsp, zbrk, zcl, zst, zald, zcell, hc, ht, if_true, hk]) K
theorem ev_is {a n k : Nat} {i x : Int32} {f : Nat → Int32} (hc : hp[a]? = some (.inl (0, n, .inl f))) (hi : zI mi pc = some (.iastore, len)) (hk : zin i n = some k) (hh : hp.set a (.inl (0, n, .inl (upd f k x))) = hp') (K : Ev d mi (pc + 1) ls r hp' Q) : Ev d mi pc ls (.int x :: .int i :: .ref a :: r) hp Q := by
  subst hh
  exact ev_s (by simp only [zone, hi, zsp, zbrk, zcl, zst, zast, zcell, hc, if_true, hk]) K
theorem znar_z {x : Int32} (h : x = 0 ∨ x = 1) : vp_nar .boolean x = x := by rcases h with rfl | rfl <;> decide
theorem ev_bs {a n k : Nat} {i x : Int32} {f : Nat → Int32} (hc : hp[a]? = some (.inl (1, n, .inl f))) (hi : zI mi pc = some (.bastore, len)) (hk : zin i n = some k) (hx : x = 0 ∨ x = 1) (hh : hp.set a (.inl (1, n, .inl (upd f k x))) = hp') (K : Ev d mi (pc + 1) ls r hp' Q) : Ev d mi pc ls (.int x :: .int i :: .ref a :: r) hp Q := by
  subst hh
  exact ev_s (by simp only [zone, hi, zsp, zbrk, zcl, zst, zast, zcell, hc, Nat.one_ne_zero, if_false, true_and, hk, znar_z hx, if_true]) K
theorem ev_as {a n k t b ci : Nat} {i : Int32} {f : Nat → Option Nat} {fs : List Value} {C : String} {q : vw_C} (hc : hp[a]? = some (.inl (t, n, .inr (.inr (.inr (.inr f)))))) (hi : zI mi pc = some (.aastore, len)) (hk : zin i n = some k) (hb : hp[b]? = some (.inr (ci, fs))) (ht : zTY[t]? = some (.object C)) (hq : zCl[ci]? = some q) (hC : C = q.1) (hh : hp.set a (.inl (t, n, .inr (.inr (.inr (.inr (va_up f k (some b))))))) = hp') (K : Ev d mi (pc + 1) ls r hp' Q) : Ev d mi pc ls (.ref b :: .int i :: .ref a :: r) hp Q := by
  subst hh
  exact ev_s (by simp only [zone, hi, zsp, zbrk, zcl, zst, zast, zcell, hc, hk, hb, ht, hq, hC, if_true]) K
theorem ev_al {a t : Nat} {x : vp_A} {ty : FieldType} {v : Int32} (hc : hp[a]? = some (.inl (t, x))) (hi : zI mi pc = some (.arraylength, len)) (ht : zTY[t]? = some ty) (hv : Int32.ofNat x.1 = v) (K : Ev d mi (pc + 1) ls (.int v :: r) hp Q) : Ev d mi pc ls (.ref a :: r) hp Q := by
  subst hv
  obtain ⟨n, y⟩ := x
  exact ev_s (by simp only [zone, hi, zsp, zbrk, zcl, zst, zcell, hc, ht]) K
/-- a call of a method of an object -/
theorem ev_cv {k mj h ci : Nat} {rr : Nat × Nat × Nat × Nat × Nat} {fs : List Value} {rest vs : List Value} {rv : Option Value} (hi : zI mi pc = some (.invokevirtual k, len)) (hr : zrow zVT (zC mi) k = some (mj, rr)) (hst : st[zN mj]? = some (.ref h)) (hc : hp[h]? = some (.inr (ci, fs))) (hci : ci = zC mj) (hvs : (st.take (zN mj + 1)).reverse = vs) (hre : st.drop (zN mj + 1) = rest)
    (hck : (decide (st.length < zN mj + 1) || decide (8 < (rest.map fun v => v.category).sum) || decide (zL mj < (zent0 vs).length)) = false) (hR : Rn d mj vs hp rv hp') (K : Ev (d + 1) mi (pc + 3) ls (rv.toList ++ rest) hp' Q) : Ev (d + 1) mi pc ls st hp Q := by
  subst hvs
  subst hre
  exact ev_call hi rfl (by simp only [zcl, hr, hst, hc, hci, if_true]) hck hR K
theorem ev_cs {k mj : Nat} {rr : Nat × Nat × Nat × Nat} {rest vs : List Value} {rv : Option Value} (hi : zI mi pc = some (.invokestatic k, len)) (hr : zrow zST (zC mi) k = some (mj, rr)) (hvs : (st.take (zN mj)).reverse = vs) (hre : st.drop (zN mj) = rest)
    (hck : (decide (st.length < zN mj) || decide (8 < (rest.map fun v => v.category).sum) || decide (zL mj < (zent0 vs).length)) = false) (hR : Rn d mj vs hp rv hp') (K : Ev (d + 1) mi (pc + 3) ls (rv.toList ++ rest) hp' Q) : Ev (d + 1) mi pc ls st hp Q := by
  subst hvs
  subst hre
  exact ev_call hi rfl (by simp only [zcl, hr]) hck hR K
theorem ev_ci {k mj h : Nat} {rr : Nat × Nat × Nat × Nat} {rest vs : List Value} {rv : Option Value} (hi : zI mi pc = some (.invokespecial k, len)) (hr : zrow zQT (zC mi) k = some (mj, rr)) (hst : st[zN mj]? = some (.ref h)) (hvs : (st.take (zN mj + 1)).reverse = vs) (hre : st.drop (zN mj + 1) = rest)
    (hck : (decide (st.length < zN mj + 1) || decide (8 < (rest.map fun v => v.category).sum) || decide (zL mj < (zent0 vs).length)) = false) (hR : Rn d mj vs hp rv hp') (K : Ev (d + 1) mi (pc + 3) ls (rv.toList ++ rest) hp' Q) : Ev (d + 1) mi pc ls st hp Q := by
  subst hvs
  subst hre
  exact ev_call hi rfl (by simp only [zcl, hr, hst]) hck hR K
end ZR
/-! ===== the rows of the class and of the reference ===== -/
abbrev pcl (f : Nat → Int32) : va_E := .inr (2, [.int (f 0), .int (f 1), .int (f 2), .int (f 3), .int (f 4), .int (f 5), .int (f 6), .int (f 7), .int (f 8), .int (f 9), .int (f 10)])
abbrev kcl (f : Nat → Int32) : va_E := .inr (1, [.int (f 0), .int (f 1), .int (f 2), .int (f 3), .int (f 4), .int (f 5), .int (f 6), .int (f 7)])
abbrev icl (n : Nat) (f : Nat → Int32) : va_E := .inl (0, n, .inl f)
abbrev bcl (n : Nat) (f : Nat → Int32) : va_E := .inl (1, n, .inl f)
abbrev qcl (t n : Nat) (f : Nat → Option Nat) : va_E := .inl (t, n, .inr (.inr (.inr (.inr f))))
def mcl (f : Nat → Int32) (g : Int64) : va_E := .inr (6, [.int (f 0), .int (f 1), .int (f 2), .int (f 3), .int (f 4), .int (f 5), .int (f 6),
  .ref 22, .ref 23, .ref 24, .ref 25, .ref 26, .ref 27, .ref 28, .ref 29, .ref 30, .ref 31, .ref 32, .ref 33, .ref 34, .ref 35, .ref 36, .ref 37, .ref 38, .ref 39, .ref 40, .ref 41, .ref 42, .ref 43, .ref 44, .ref 45, .ref 46,
  .int (f 32), .long g, .int (f 34), .ref 47, .ref 48, .ref 49, .ref 50, .ref 51, .ref 52, .ref 53, .ref 54, .ref 55, .int (f 44)])
/-- the cell of a handle: np pieces, its numbers f, its long g -/
def cel (np h : Nat) (f : Nat → Int32) (g : Int64) : va_E :=
  if h < 22 then
    if h < 5 then
      if h = 0 then .inr (5, [.ref 1, .ref 2, .int (f 2), .ref 3, .ref 11, .int (f 5)])
      else if h = 1 then .inr (4, [.int (f 0), .int (f 1), .int (f 2)])
      else if h = 2 then qcl 3 6 (fun i => if i < np then some (57 + i) else none)
      else if h = 3 then .inr (0, [.ref 4])
      else qcl 4 6 (fun i => if i < 6 then some (5 + i) else none)
    else if h < 11 then pcl f
    else if h < 14 then
      if h = 11 then .inr (3, [.ref 1, .ref 2, .ref 12, .ref 3, .ref 20, .int (f 5), .int (f 6), .int (f 7), .int (f 8)])
      else if h = 12 then .inr (0, [.ref 13])
      else qcl 4 6 (fun i => if i < 6 then some (14 + i) else none)
    else if h < 20 then pcl f
    else if h = 20 then icl 144 f
    else mcl f g
  else if h < 57 then
    if h = 29 then bcl 6 f
    else if h = 37 then bcl 6 f
    else if h = 49 then icl 36 f
    else if h < 53 then icl 6 f
    else if h < 56 then icl 42 f
    else .inl (2, 1, .inr (.inl (fun _ => g)))
  else kcl f
def mk (np : Nat) (M : Nat → Nat → Int32) (L : Nat → Int64) : zHp := (List.range (57 + np)).map (fun h => cel np h (M h) (L h))
theorem rd (np : Nat) (M : Nat → Nat → Int32) (L : Nat → Int64) {h : Nat} (hh : h < 57 + np) {c : va_E} (hc : cel np h (M h) (L h) = c) : (mk np M L)[h]? = some c := by
  subst hc
  simp [mk, hh]
theorem rl (np : Nat) (M : Nat → Nat → Int32) (L : Nat → Int64) (h : Nat) (hh : h < 57) {c : va_E} (hc : cel np h (M h) (L h) = c) : (mk np M L)[h]? = some c := rd np M L (by omega) hc
def up2 (M : Nat → Nat → Int32) (h k : Nat) (v : Int32) : Nat → Nat → Int32 := fun h' => if h' = h then upd (M h) k v else M h'
theorem up2_s (M : Nat → Nat → Int32) (h k : Nat) (v : Int32) : up2 M h k v h = upd (M h) k v := if_pos rfl
theorem up2_n {M : Nat → Nat → Int32} {h h' k : Nat} {v : Int32} (hn : h' ≠ h) : up2 M h k v h' = M h' := if_neg hn
theorem mk_set {np : Nat} {M : Nat → Nat → Int32} {L : Nat → Int64} {h k : Nat} {v : Int32} {c : va_E} (hc : c = cel np h (upd (M h) k v) (L h)) : (mk np M L).set h c = mk np (up2 M h k v) L := by
  apply List.ext_getElem?
  intro j
  rw [List.getElem?_set]
  by_cases hj : h = j
  · subst hj
    rw [if_pos rfl, hc]
    simp only [mk, List.length_map, List.length_range, List.getElem?_map]
    by_cases hl : h < 57 + np
    · simp [hl, up2_s]
    · simp [hl]
  · rw [if_neg hj]
    simp only [mk, List.getElem?_map]
    by_cases hl : j < 57 + np
    · simp [hl, up2_n (Ne.symm hj)]
    · simp [hl]
theorem cel_best {np i : Nat} (hi : i < 6) (f : Nat → Int32) (g : Int64) : cel np (5 + i) f g = pcl f := by
  unfold cel
  rw [if_pos (by omega), if_neg (by omega), if_pos (by omega)]
theorem cel_trial {np i : Nat} (hi : i < 6) (f : Nat → Int32) (g : Int64) : cel np (14 + i) f g = pcl f := by
  unfold cel
  rw [if_pos (by omega), if_neg (by omega), if_neg (by omega), if_neg (by omega), if_pos (by omega)]
theorem cel_piece {np i : Nat} (f : Nat → Int32) (g : Int64) : cel np (57 + i) f g = kcl f := by
  unfold cel
  rw [if_neg (by omega), if_neg (by omega)]
end
section
/-! ===== leaves: Space, Piece, Place ===== -/
noncomputable def zi (P : Prop) : Int32 := @ite _ P (Classical.propDecidable P) 1 0
theorem zi_t {P : Prop} (h : P) : zi P = 1 := by unfold zi; exact if_pos h
theorem zi_f {P : Prop} (h : ¬ P) : zi P = 0 := by unfold zi; exact if_neg h
theorem zi_01 (P : Prop) : zi P = 0 ∨ zi P = 1 := by
  by_cases h : P
  · exact Or.inr (zi_t h)
  · exact Or.inl (zi_f h)
theorem ev_bn {d mi t f : Nat} {ls : zLs} {st : List Value} {hp : zHp} {Q : zCf → Prop} {x y : Int32} (kt : ¬ x = y → Ev d mi t ls st hp Q) (kf : x = y → Ev d mi f ls st hp Q) : Ev d mi (zbr .ne x y t f) ls st hp Q := by
  by_cases h : x = y
  · rw [show zbr .ne x y t f = f from if_pos h]; exact kf h
  · rw [show zbr .ne x y t f = t from if_neg h]; exact kt h
theorem ev_bze {d mi t f : Nat} {ls : zLs} {st : List Value} {hp : zHp} {Q : zCf → Prop} {P : Prop} (kt : ¬ P → Ev d mi t ls st hp Q) (kf : P → Ev d mi f ls st hp Q) : Ev d mi (zbr .eq (zi P) 0 t f) ls st hp Q := by
  by_cases h : P
  · rw [zi_t h]; exact kf h
  · rw [zi_f h]; exact kt h
theorem ev_bzn {d mi t f : Nat} {ls : zLs} {st : List Value} {hp : zHp} {Q : zCf → Prop} {P : Prop} (kt : P → Ev d mi t ls st hp Q) (kf : ¬ P → Ev d mi f ls st hp Q) : Ev d mi (zbr .ne (zi P) 0 t f) ls st hp Q := by
  by_cases h : P
  · rw [zi_t h]; exact kt h
  · rw [zi_f h]; exact kf h
theorem some_i {a b : Int32} (h : a = b) : some (Value.int a) = some (Value.int b) := by rw [h]

def cOv (f g : Nat → Int32) : Prop := ¬ ((g 8) + (g 5)) ≤ (f 8) ∧ ¬ ((f 8) + (f 5)) ≤ (g 8) ∧ ¬ ((g 9) + (g 6)) ≤ (f 9) ∧ ¬ ((f 9) + (f 6)) ≤ (g 9) ∧ ¬ ((g 10) + (g 7)) ≤ (f 10) ∧ ¬ ((f 10) + (f 7)) ≤ (g 10)
set_option maxHeartbeats 4000000 in
theorem rn_overlaps {hp : zHp} {a b : Nat} {f g : Nat → Int32} (ha : hp[a]? = some (pcl f)) (hb : hp[b]? = some (pcl g)) (d : Nat) : Rn d mX2_overlaps [(.ref a), (.ref b)] hp (some (.int (zi (cOv f g)))) hp := by
  unfold Rn
  refine ev_s rfl ?_
  refine ev_gf ha rfl rfl rfl ?_
  refine ev_s rfl ?_
  refine ev_gf hb rfl rfl rfl ?_
  refine ev_s rfl ?_
  refine ev_gf hb rfl rfl rfl ?_
  refine ev_s rfl ?_
  refine ev_ic rfl rfl (ev_br (zb_ge _ _ _ _) (fun c1 => ?_) (fun c1 => ?_))
  · show Ev _ _ 100 _ _ _ _
    refine ev_ik (v := 0) rfl (by decide) ?_
    refine ev_rz rfl rfl (by decide) ?_ ?_
    · exact some_i (zi_f (fun h => h.1 c1)).symm
    · rfl
  · show Ev _ _ 16 _ _ _ _
    refine ev_s rfl ?_
    refine ev_gf hb rfl rfl rfl ?_
    refine ev_s rfl ?_
    refine ev_gf ha rfl rfl rfl ?_
    refine ev_s rfl ?_
    refine ev_gf ha rfl rfl rfl ?_
    refine ev_s rfl ?_
    refine ev_ic rfl rfl (ev_br (zb_ge _ _ _ _) (fun c2 => ?_) (fun c2 => ?_))
    · show Ev _ _ 100 _ _ _ _
      refine ev_ik (v := 0) rfl (by decide) ?_
      refine ev_rz rfl rfl (by decide) ?_ ?_
      · exact some_i (zi_f (fun h => h.2.1 c2)).symm
      · rfl
    · show Ev _ _ 32 _ _ _ _
      refine ev_s rfl ?_
      refine ev_gf ha rfl rfl rfl ?_
      refine ev_s rfl ?_
      refine ev_gf hb rfl rfl rfl ?_
      refine ev_s rfl ?_
      refine ev_gf hb rfl rfl rfl ?_
      refine ev_s rfl ?_
      refine ev_ic rfl rfl (ev_br (zb_ge _ _ _ _) (fun c3 => ?_) (fun c3 => ?_))
      · show Ev _ _ 100 _ _ _ _
        refine ev_ik (v := 0) rfl (by decide) ?_
        refine ev_rz rfl rfl (by decide) ?_ ?_
        · exact some_i (zi_f (fun h => h.2.2.1 c3)).symm
        · rfl
      · show Ev _ _ 48 _ _ _ _
        refine ev_s rfl ?_
        refine ev_gf hb rfl rfl rfl ?_
        refine ev_s rfl ?_
        refine ev_gf ha rfl rfl rfl ?_
        refine ev_s rfl ?_
        refine ev_gf ha rfl rfl rfl ?_
        refine ev_s rfl ?_
        refine ev_ic rfl rfl (ev_br (zb_ge _ _ _ _) (fun c4 => ?_) (fun c4 => ?_))
        · show Ev _ _ 100 _ _ _ _
          refine ev_ik (v := 0) rfl (by decide) ?_
          refine ev_rz rfl rfl (by decide) ?_ ?_
          · exact some_i (zi_f (fun h => h.2.2.2.1 c4)).symm
          · rfl
        · show Ev _ _ 64 _ _ _ _
          refine ev_s rfl ?_
          refine ev_gf ha rfl rfl rfl ?_
          refine ev_s rfl ?_
          refine ev_gf hb rfl rfl rfl ?_
          refine ev_s rfl ?_
          refine ev_gf hb rfl rfl rfl ?_
          refine ev_s rfl ?_
          refine ev_ic rfl rfl (ev_br (zb_ge _ _ _ _) (fun c5 => ?_) (fun c5 => ?_))
          · show Ev _ _ 100 _ _ _ _
            refine ev_ik (v := 0) rfl (by decide) ?_
            refine ev_rz rfl rfl (by decide) ?_ ?_
            · exact some_i (zi_f (fun h => h.2.2.2.2.1 c5)).symm
            · rfl
          · show Ev _ _ 80 _ _ _ _
            refine ev_s rfl ?_
            refine ev_gf hb rfl rfl rfl ?_
            refine ev_s rfl ?_
            refine ev_gf ha rfl rfl rfl ?_
            refine ev_s rfl ?_
            refine ev_gf ha rfl rfl rfl ?_
            refine ev_s rfl ?_
            refine ev_ic rfl rfl (ev_br (zb_ge _ _ _ _) (fun c6 => ?_) (fun c6 => ?_))
            · show Ev _ _ 100 _ _ _ _
              refine ev_ik (v := 0) rfl (by decide) ?_
              refine ev_rz rfl rfl (by decide) ?_ ?_
              · exact some_i (zi_f (fun h => h.2.2.2.2.2 c6)).symm
              · rfl
            · show Ev _ _ 96 _ _ _ _
              refine ev_ik (v := 1) rfl (by decide) ?_
              refine ev_s rfl ?_
              refine ev_rz rfl rfl (by decide) ?_ ?_
              · exact some_i (zi_t ⟨c1, c2, c3, c4, c5, c6⟩).symm
              · rfl
def cAb (f g : Nat → Int32) : Prop := ¬ (g 9) < ((f 9) + (f 6)) ∧ ¬ ((g 8) + (g 5)) ≤ (f 8) ∧ ¬ ((f 8) + (f 5)) ≤ (g 8) ∧ ¬ ((g 10) + (g 7)) ≤ (f 10) ∧ ¬ ((f 10) + (f 7)) ≤ (g 10)
set_option maxHeartbeats 4000000 in
theorem rn_hasAbove {hp : zHp} {a b : Nat} {f g : Nat → Int32} (ha : hp[a]? = some (pcl f)) (hb : hp[b]? = some (pcl g)) (d : Nat) : Rn d mX2_hasAbove [(.ref a), (.ref b)] hp (some (.int (zi (cAb f g)))) hp := by
  unfold Rn
  refine ev_s rfl ?_
  refine ev_gf hb rfl rfl rfl ?_
  refine ev_s rfl ?_
  refine ev_gf ha rfl rfl rfl ?_
  refine ev_s rfl ?_
  refine ev_gf ha rfl rfl rfl ?_
  refine ev_s rfl ?_
  refine ev_ic rfl rfl (ev_br (zb_lt _ _ _ _) (fun c1 => ?_) (fun c1 => ?_))
  · show Ev _ _ 84 _ _ _ _
    refine ev_ik (v := 0) rfl (by decide) ?_
    refine ev_rz rfl rfl (by decide) ?_ ?_
    · exact some_i (zi_f (fun h => h.1 c1)).symm
    · rfl
  · show Ev _ _ 16 _ _ _ _
    refine ev_s rfl ?_
    refine ev_gf ha rfl rfl rfl ?_
    refine ev_s rfl ?_
    refine ev_gf hb rfl rfl rfl ?_
    refine ev_s rfl ?_
    refine ev_gf hb rfl rfl rfl ?_
    refine ev_s rfl ?_
    refine ev_ic rfl rfl (ev_br (zb_ge _ _ _ _) (fun c2 => ?_) (fun c2 => ?_))
    · show Ev _ _ 84 _ _ _ _
      refine ev_ik (v := 0) rfl (by decide) ?_
      refine ev_rz rfl rfl (by decide) ?_ ?_
      · exact some_i (zi_f (fun h => h.2.1 c2)).symm
      · rfl
    · show Ev _ _ 32 _ _ _ _
      refine ev_s rfl ?_
      refine ev_gf hb rfl rfl rfl ?_
      refine ev_s rfl ?_
      refine ev_gf ha rfl rfl rfl ?_
      refine ev_s rfl ?_
      refine ev_gf ha rfl rfl rfl ?_
      refine ev_s rfl ?_
      refine ev_ic rfl rfl (ev_br (zb_ge _ _ _ _) (fun c3 => ?_) (fun c3 => ?_))
      · show Ev _ _ 84 _ _ _ _
        refine ev_ik (v := 0) rfl (by decide) ?_
        refine ev_rz rfl rfl (by decide) ?_ ?_
        · exact some_i (zi_f (fun h => h.2.2.1 c3)).symm
        · rfl
      · show Ev _ _ 48 _ _ _ _
        refine ev_s rfl ?_
        refine ev_gf ha rfl rfl rfl ?_
        refine ev_s rfl ?_
        refine ev_gf hb rfl rfl rfl ?_
        refine ev_s rfl ?_
        refine ev_gf hb rfl rfl rfl ?_
        refine ev_s rfl ?_
        refine ev_ic rfl rfl (ev_br (zb_ge _ _ _ _) (fun c4 => ?_) (fun c4 => ?_))
        · show Ev _ _ 84 _ _ _ _
          refine ev_ik (v := 0) rfl (by decide) ?_
          refine ev_rz rfl rfl (by decide) ?_ ?_
          · exact some_i (zi_f (fun h => h.2.2.2.1 c4)).symm
          · rfl
        · show Ev _ _ 64 _ _ _ _
          refine ev_s rfl ?_
          refine ev_gf hb rfl rfl rfl ?_
          refine ev_s rfl ?_
          refine ev_gf ha rfl rfl rfl ?_
          refine ev_s rfl ?_
          refine ev_gf ha rfl rfl rfl ?_
          refine ev_s rfl ?_
          refine ev_ic rfl rfl (ev_br (zb_ge _ _ _ _) (fun c5 => ?_) (fun c5 => ?_))
          · show Ev _ _ 84 _ _ _ _
            refine ev_ik (v := 0) rfl (by decide) ?_
            refine ev_rz rfl rfl (by decide) ?_ ?_
            · exact some_i (zi_f (fun h => h.2.2.2.2 c5)).symm
            · rfl
          · show Ev _ _ 80 _ _ _ _
            refine ev_ik (v := 1) rfl (by decide) ?_
            refine ev_s rfl ?_
            refine ev_rz rfl rfl (by decide) ?_ ?_
            · exact some_i (zi_t ⟨c1, c2, c3, c4, c5⟩).symm
            · rfl
def cFr (f g : Nat → Int32) : Prop := ¬ (g 10) < ((f 10) + (f 7)) ∧ ¬ ((g 8) + (g 5)) ≤ (f 8) ∧ ¬ ((f 8) + (f 5)) ≤ (g 8) ∧ ¬ ((g 9) + (g 6)) ≤ (f 9) ∧ ¬ ((f 9) + (f 6)) ≤ (g 9)
set_option maxHeartbeats 4000000 in
theorem rn_hasInFront {hp : zHp} {a b : Nat} {f g : Nat → Int32} (ha : hp[a]? = some (pcl f)) (hb : hp[b]? = some (pcl g)) (d : Nat) : Rn d mX2_hasInFront [(.ref a), (.ref b)] hp (some (.int (zi (cFr f g)))) hp := by
  unfold Rn
  refine ev_s rfl ?_
  refine ev_gf hb rfl rfl rfl ?_
  refine ev_s rfl ?_
  refine ev_gf ha rfl rfl rfl ?_
  refine ev_s rfl ?_
  refine ev_gf ha rfl rfl rfl ?_
  refine ev_s rfl ?_
  refine ev_ic rfl rfl (ev_br (zb_lt _ _ _ _) (fun c1 => ?_) (fun c1 => ?_))
  · show Ev _ _ 84 _ _ _ _
    refine ev_ik (v := 0) rfl (by decide) ?_
    refine ev_rz rfl rfl (by decide) ?_ ?_
    · exact some_i (zi_f (fun h => h.1 c1)).symm
    · rfl
  · show Ev _ _ 16 _ _ _ _
    refine ev_s rfl ?_
    refine ev_gf ha rfl rfl rfl ?_
    refine ev_s rfl ?_
    refine ev_gf hb rfl rfl rfl ?_
    refine ev_s rfl ?_
    refine ev_gf hb rfl rfl rfl ?_
    refine ev_s rfl ?_
    refine ev_ic rfl rfl (ev_br (zb_ge _ _ _ _) (fun c2 => ?_) (fun c2 => ?_))
    · show Ev _ _ 84 _ _ _ _
      refine ev_ik (v := 0) rfl (by decide) ?_
      refine ev_rz rfl rfl (by decide) ?_ ?_
      · exact some_i (zi_f (fun h => h.2.1 c2)).symm
      · rfl
    · show Ev _ _ 32 _ _ _ _
      refine ev_s rfl ?_
      refine ev_gf hb rfl rfl rfl ?_
      refine ev_s rfl ?_
      refine ev_gf ha rfl rfl rfl ?_
      refine ev_s rfl ?_
      refine ev_gf ha rfl rfl rfl ?_
      refine ev_s rfl ?_
      refine ev_ic rfl rfl (ev_br (zb_ge _ _ _ _) (fun c3 => ?_) (fun c3 => ?_))
      · show Ev _ _ 84 _ _ _ _
        refine ev_ik (v := 0) rfl (by decide) ?_
        refine ev_rz rfl rfl (by decide) ?_ ?_
        · exact some_i (zi_f (fun h => h.2.2.1 c3)).symm
        · rfl
      · show Ev _ _ 48 _ _ _ _
        refine ev_s rfl ?_
        refine ev_gf ha rfl rfl rfl ?_
        refine ev_s rfl ?_
        refine ev_gf hb rfl rfl rfl ?_
        refine ev_s rfl ?_
        refine ev_gf hb rfl rfl rfl ?_
        refine ev_s rfl ?_
        refine ev_ic rfl rfl (ev_br (zb_ge _ _ _ _) (fun c4 => ?_) (fun c4 => ?_))
        · show Ev _ _ 84 _ _ _ _
          refine ev_ik (v := 0) rfl (by decide) ?_
          refine ev_rz rfl rfl (by decide) ?_ ?_
          · exact some_i (zi_f (fun h => h.2.2.2.1 c4)).symm
          · rfl
        · show Ev _ _ 64 _ _ _ _
          refine ev_s rfl ?_
          refine ev_gf hb rfl rfl rfl ?_
          refine ev_s rfl ?_
          refine ev_gf ha rfl rfl rfl ?_
          refine ev_s rfl ?_
          refine ev_gf ha rfl rfl rfl ?_
          refine ev_s rfl ?_
          refine ev_ic rfl rfl (ev_br (zb_ge _ _ _ _) (fun c5 => ?_) (fun c5 => ?_))
          · show Ev _ _ 84 _ _ _ _
            refine ev_ik (v := 0) rfl (by decide) ?_
            refine ev_rz rfl rfl (by decide) ?_ ?_
            · exact some_i (zi_f (fun h => h.2.2.2.2 c5)).symm
            · rfl
          · show Ev _ _ 80 _ _ _ _
            refine ev_ik (v := 1) rfl (by decide) ?_
            refine ev_s rfl ?_
            refine ev_rz rfl rfl (by decide) ?_ ?_
            · exact some_i (zi_t ⟨c1, c2, c3, c4, c5⟩).symm
            · rfl
def cOver (f : Nat → Int32) (x z : Int32) : Prop := ¬ x < (f 8) ∧ ¬ ((f 8) + (f 5)) ≤ x ∧ ¬ z < (f 10) ∧ ¬ ((f 10) + (f 7)) ≤ z
set_option maxHeartbeats 4000000 in
theorem rn_isOver {hp : zHp} {a : Nat} {f : Nat → Int32} (ha : hp[a]? = some (pcl f)) {x z : Int32} (d : Nat) : Rn d mX2_isOver [(.ref a), (.int x), (.int z)] hp (some (.int (zi (cOver f x z)))) hp := by
  unfold Rn
  refine ev_s rfl ?_
  refine ev_gf ha rfl rfl rfl ?_
  refine ev_s rfl ?_
  refine ev_ic rfl rfl (ev_br (zb_gt _ _ _ _) (fun c1 => ?_) (fun c1 => ?_))
  · show Ev _ _ 46 _ _ _ _
    refine ev_ik (v := 0) rfl (by decide) ?_
    refine ev_rz rfl rfl (by decide) ?_ ?_
    · exact some_i (zi_f (fun h => h.1 c1)).symm
    · rfl
  · show Ev _ _ 8 _ _ _ _
    iterate 2 refine ev_s rfl ?_
    refine ev_gf ha rfl rfl rfl ?_
    refine ev_s rfl ?_
    refine ev_gf ha rfl rfl rfl ?_
    refine ev_s rfl ?_
    refine ev_ic rfl rfl (ev_br (zb_ge _ _ _ _) (fun c2 => ?_) (fun c2 => ?_))
    · show Ev _ _ 46 _ _ _ _
      refine ev_ik (v := 0) rfl (by decide) ?_
      refine ev_rz rfl rfl (by decide) ?_ ?_
      · exact some_i (zi_f (fun h => h.2.1 c2)).symm
      · rfl
    · show Ev _ _ 21 _ _ _ _
      refine ev_s rfl ?_
      refine ev_gf ha rfl rfl rfl ?_
      refine ev_s rfl ?_
      refine ev_ic rfl rfl (ev_br (zb_gt _ _ _ _) (fun c3 => ?_) (fun c3 => ?_))
      · show Ev _ _ 46 _ _ _ _
        refine ev_ik (v := 0) rfl (by decide) ?_
        refine ev_rz rfl rfl (by decide) ?_ ?_
        · exact some_i (zi_f (fun h => h.2.2.1 c3)).symm
        · rfl
      · show Ev _ _ 29 _ _ _ _
        iterate 2 refine ev_s rfl ?_
        refine ev_gf ha rfl rfl rfl ?_
        refine ev_s rfl ?_
        refine ev_gf ha rfl rfl rfl ?_
        refine ev_s rfl ?_
        refine ev_ic rfl rfl (ev_br (zb_ge _ _ _ _) (fun c4 => ?_) (fun c4 => ?_))
        · show Ev _ _ 46 _ _ _ _
          refine ev_ik (v := 0) rfl (by decide) ?_
          refine ev_rz rfl rfl (by decide) ?_ ?_
          · exact some_i (zi_f (fun h => h.2.2.2 c4)).symm
          · rfl
        · show Ev _ _ 42 _ _ _ _
          refine ev_ik (v := 1) rfl (by decide) ?_
          refine ev_s rfl ?_
          refine ev_rz rfl rfl (by decide) ?_ ?_
          · exact some_i (zi_t ⟨c1, c2, c3, c4⟩).symm
          · rfl
def cW (x y z : Int32) : Prop := ¬ x < y ∧ ¬ z < x
set_option maxHeartbeats 4000000 in
theorem rn_isWithin {hp : zHp} {x y z : Int32} (d : Nat) : Rn d mX5_isWithin [(.int x), (.int y), (.int z)] hp (some (.int (zi (cW x y z)))) hp := by
  unfold Rn
  iterate 2 refine ev_s rfl ?_
  refine ev_ic rfl rfl (ev_br (zb_lt _ _ _ _) (fun c1 => ?_) (fun c1 => ?_))
  · show Ev _ _ 14 _ _ _ _
    refine ev_ik (v := 0) rfl (by decide) ?_
    refine ev_rz rfl rfl (by decide) ?_ ?_
    · exact some_i (zi_f (fun h => h.1 c1)).symm
    · rfl
  · show Ev _ _ 5 _ _ _ _
    iterate 2 refine ev_s rfl ?_
    refine ev_ic rfl rfl (ev_br (zb_gt _ _ _ _) (fun c2 => ?_) (fun c2 => ?_))
    · show Ev _ _ 14 _ _ _ _
      refine ev_ik (v := 0) rfl (by decide) ?_
      refine ev_rz rfl rfl (by decide) ?_ ?_
      · exact some_i (zi_f (fun h => h.2 c2)).symm
      · rfl
    · show Ev _ _ 10 _ _ _ _
      refine ev_ik (v := 1) rfl (by decide) ?_
      refine ev_s rfl ?_
      refine ev_rz rfl rfl (by decide) ?_ ?_
      · exact some_i (zi_t ⟨c1, c2⟩).symm
      · rfl
def mW (x y z : Int32) : Prop := ¬ x < y ∧ ¬ z < x
set_option maxHeartbeats 4000000 in
theorem rn_within {hp : zHp} {x y z : Int32} (d : Nat) : Rn d mX6_within [(.int x), (.int y), (.int z)] hp (some (.int (zi (mW x y z)))) hp := by
  unfold Rn
  iterate 2 refine ev_s rfl ?_
  refine ev_ic rfl rfl (ev_br (zb_lt _ _ _ _) (fun c1 => ?_) (fun c1 => ?_))
  · show Ev _ _ 14 _ _ _ _
    refine ev_ik (v := 0) rfl (by decide) ?_
    refine ev_rz rfl rfl (by decide) ?_ ?_
    · exact some_i (zi_f (fun h => h.1 c1)).symm
    · rfl
  · show Ev _ _ 5 _ _ _ _
    iterate 2 refine ev_s rfl ?_
    refine ev_ic rfl rfl (ev_br (zb_gt _ _ _ _) (fun c2 => ?_) (fun c2 => ?_))
    · show Ev _ _ 14 _ _ _ _
      refine ev_ik (v := 0) rfl (by decide) ?_
      refine ev_rz rfl rfl (by decide) ?_ ?_
      · exact some_i (zi_f (fun h => h.2 c2)).symm
      · rfl
    · show Ev _ _ 10 _ _ _ _
      refine ev_ik (v := 1) rfl (by decide) ?_
      refine ev_s rfl ?_
      refine ev_rz rfl rfl (by decide) ?_ ?_
      · exact some_i (zi_t ⟨c1, c2⟩).symm
      · rfl
set_option maxHeartbeats 4000000 in
theorem rn_pcells {hp : zHp} {a : Nat} {f : Nat → Int32} (ha : hp[a]? = some (pcl f)) (d : Nat) : Rn d mX2_cells [(.ref a)] hp (some (.int (f 5 * f 6 * f 7))) hp := by
  unfold Rn
  refine ev_s rfl ?_
  refine ev_gf ha rfl rfl rfl ?_
  refine ev_s rfl ?_
  refine ev_gf ha rfl rfl rfl ?_
  iterate 2 refine ev_s rfl ?_
  refine ev_gf ha rfl rfl rfl ?_
  refine ev_s rfl ?_
  refine ev_ri rfl rfl ?_ ?_
  · rfl
  · rfl
set_option maxHeartbeats 4000000 in
theorem rn_kcells {hp : zHp} {a : Nat} {f : Nat → Int32} (ha : hp[a]? = some (kcl f)) (d : Nat) : Rn d mX1_cells [(.ref a)] hp (some (.int (f 0 * f 1 * f 2))) hp := by
  unfold Rn
  refine ev_s rfl ?_
  refine ev_gf ha rfl rfl rfl ?_
  refine ev_s rfl ?_
  refine ev_gf ha rfl rfl rfl ?_
  iterate 2 refine ev_s rfl ?_
  refine ev_gf ha rfl rfl rfl ?_
  refine ev_s rfl ?_
  refine ev_ri rfl rfl ?_ ?_
  · rfl
  · rfl
set_option maxHeartbeats 4000000 in
theorem rn_scells {hp : zHp} {a : Nat} {f : Nat → Int32} (ha : hp[a]? = some (.inr (4, [.int (f 0), .int (f 1), .int (f 2)]))) (d : Nat) : Rn d mX4_cells [(.ref a)] hp (some (.int (f 0 * f 1 * f 2))) hp := by
  unfold Rn
  refine ev_s rfl ?_
  refine ev_gf ha rfl rfl rfl ?_
  refine ev_s rfl ?_
  refine ev_gf ha rfl rfl rfl ?_
  iterate 2 refine ev_s rfl ?_
  refine ev_gf ha rfl rfl rfl ?_
  refine ev_s rfl ?_
  refine ev_ri rfl rfl ?_ ?_
  · rfl
  · rfl
def cHt (b t : Int32) : Prop := ¬ (b >>> (t &&& 31)) &&& 1 = 0
set_option maxHeartbeats 4000000 in
theorem rn_hasTurn {hp : zHp} {a : Nat} {f : Nat → Int32} (ha : hp[a]? = some (kcl f)) {t : Int32} (d : Nat) : Rn d mX1_hasTurn [(.ref a), (.int t)] hp (some (.int (zi (cHt (f 7) t)))) hp := by
  unfold Rn
  refine ev_s rfl ?_
  refine ev_gf ha rfl rfl rfl ?_
  iterate 2 refine ev_s rfl ?_
  refine ev_ik (v := 1) rfl (by decide) ?_
  refine ev_s rfl ?_
  refine ev_if rfl rfl (ev_br (zb_eq _ _ _ _) (fun c1 => ?_) (fun c1 => ?_))
  · show Ev _ _ 15 _ _ _ _
    refine ev_ik (v := 0) rfl (by decide) ?_
    refine ev_rz rfl rfl (by decide) ?_ ?_
    · exact some_i (zi_f (fun h => h c1)).symm
    · rfl
  · show Ev _ _ 11 _ _ _ _
    refine ev_ik (v := 1) rfl (by decide) ?_
    refine ev_s rfl ?_
    refine ev_rz rfl rfl (by decide) ?_ ?_
    · exact some_i (zi_t c1).symm
    · rfl
set_option maxHeartbeats 4000000 in
theorem rn_hasBit {hp : zHp} {b t : Int32} (d : Nat) : Rn d mX3_hasBit [(.int b), (.int t)] hp (some (.int (zi (cHt b t)))) hp := by
  unfold Rn
  iterate 3 refine ev_s rfl ?_
  refine ev_ik (v := 1) rfl (by decide) ?_
  refine ev_s rfl ?_
  refine ev_if rfl rfl (ev_br (zb_eq _ _ _ _) (fun c1 => ?_) (fun c1 => ?_))
  · show Ev _ _ 12 _ _ _ _
    refine ev_ik (v := 0) rfl (by decide) ?_
    refine ev_rz rfl rfl (by decide) ?_ ?_
    · exact some_i (zi_f (fun h => h c1)).symm
    · rfl
  · show Ev _ _ 8 _ _ _ _
    refine ev_ik (v := 1) rfl (by decide) ?_
    refine ev_s rfl ?_
    refine ev_rz rfl rfl (by decide) ?_ ?_
    · exact some_i (zi_t c1).symm
    · rfl
def tW (f : Nat → Int32) (t : Nat) : Int32 := match t with | 1 => f 2 | 4 => f 2 | 3 => f 1 | 5 => f 1 | _ => f 0
def tH (f : Nat → Int32) (t : Nat) : Int32 := match t with | 2 => f 2 | 3 => f 2 | 4 => f 0 | 5 => f 0 | _ => f 1
def tD (f : Nat → Int32) (t : Nat) : Int32 := match t with | 1 => f 0 | 3 => f 0 | 2 => f 1 | 4 => f 1 | _ => f 2
set_option maxHeartbeats 4000000 in
theorem rn_tW {hp : zHp} {a : Nat} {f : Nat → Int32} (ha : hp[a]? = some (kcl f)) {t : Nat} (ht : t < 6) (d : Nat) : Rn d mX1_turnedWidth [.ref a, .int (nI t)] hp (some (.int (tW f t))) hp := by
  unfold Rn
  match t, ht with
  | 0, _ =>
    refine ev_s rfl ?_
    refine ev_sw (off := 45) rfl (by decide) rfl ?_
    show Ev _ _ 46 _ _ _ _
    refine ev_s rfl ?_
    refine ev_gf ha rfl rfl rfl ?_
    refine ev_ri rfl rfl ?_ ?_
    · rfl
    · rfl
  | 1, _ =>
    refine ev_s rfl ?_
    refine ev_sw (off := 35) rfl (by decide) rfl ?_
    show Ev _ _ 36 _ _ _ _
    refine ev_s rfl ?_
    refine ev_gf ha rfl rfl rfl ?_
    refine ev_ri rfl rfl ?_ ?_
    · rfl
    · rfl
  | 2, _ =>
    refine ev_s rfl ?_
    refine ev_sw (off := 45) rfl (by decide) rfl ?_
    show Ev _ _ 46 _ _ _ _
    refine ev_s rfl ?_
    refine ev_gf ha rfl rfl rfl ?_
    refine ev_ri rfl rfl ?_ ?_
    · rfl
    · rfl
  | 3, _ =>
    refine ev_s rfl ?_
    refine ev_sw (off := 40) rfl (by decide) rfl ?_
    show Ev _ _ 41 _ _ _ _
    refine ev_s rfl ?_
    refine ev_gf ha rfl rfl rfl ?_
    refine ev_ri rfl rfl ?_ ?_
    · rfl
    · rfl
  | 4, _ =>
    refine ev_s rfl ?_
    refine ev_sw (off := 35) rfl (by decide) rfl ?_
    show Ev _ _ 36 _ _ _ _
    refine ev_s rfl ?_
    refine ev_gf ha rfl rfl rfl ?_
    refine ev_ri rfl rfl ?_ ?_
    · rfl
    · rfl
  | 5, _ =>
    refine ev_s rfl ?_
    refine ev_sw (off := 40) rfl (by decide) rfl ?_
    show Ev _ _ 41 _ _ _ _
    refine ev_s rfl ?_
    refine ev_gf ha rfl rfl rfl ?_
    refine ev_ri rfl rfl ?_ ?_
    · rfl
    · rfl
  | t + 6, h => exact absurd h (by omega)
set_option maxHeartbeats 4000000 in
theorem rn_tH {hp : zHp} {a : Nat} {f : Nat → Int32} (ha : hp[a]? = some (kcl f)) {t : Nat} (ht : t < 6) (d : Nat) : Rn d mX1_turnedHeight [.ref a, .int (nI t)] hp (some (.int (tH f t))) hp := by
  unfold Rn
  match t, ht with
  | 0, _ =>
    refine ev_s rfl ?_
    refine ev_sw (off := 41) rfl (by decide) rfl ?_
    show Ev _ _ 42 _ _ _ _
    refine ev_s rfl ?_
    refine ev_gf ha rfl rfl rfl ?_
    refine ev_ri rfl rfl ?_ ?_
    · rfl
    · rfl
  | 1, _ =>
    refine ev_s rfl ?_
    refine ev_sw (off := 41) rfl (by decide) rfl ?_
    show Ev _ _ 42 _ _ _ _
    refine ev_s rfl ?_
    refine ev_gf ha rfl rfl rfl ?_
    refine ev_ri rfl rfl ?_ ?_
    · rfl
    · rfl
  | 2, _ =>
    refine ev_s rfl ?_
    refine ev_sw (off := 31) rfl (by decide) rfl ?_
    show Ev _ _ 32 _ _ _ _
    refine ev_s rfl ?_
    refine ev_gf ha rfl rfl rfl ?_
    refine ev_ri rfl rfl ?_ ?_
    · rfl
    · rfl
  | 3, _ =>
    refine ev_s rfl ?_
    refine ev_sw (off := 31) rfl (by decide) rfl ?_
    show Ev _ _ 32 _ _ _ _
    refine ev_s rfl ?_
    refine ev_gf ha rfl rfl rfl ?_
    refine ev_ri rfl rfl ?_ ?_
    · rfl
    · rfl
  | 4, _ =>
    refine ev_s rfl ?_
    refine ev_sw (off := 36) rfl (by decide) rfl ?_
    show Ev _ _ 37 _ _ _ _
    refine ev_s rfl ?_
    refine ev_gf ha rfl rfl rfl ?_
    refine ev_ri rfl rfl ?_ ?_
    · rfl
    · rfl
  | 5, _ =>
    refine ev_s rfl ?_
    refine ev_sw (off := 36) rfl (by decide) rfl ?_
    show Ev _ _ 37 _ _ _ _
    refine ev_s rfl ?_
    refine ev_gf ha rfl rfl rfl ?_
    refine ev_ri rfl rfl ?_ ?_
    · rfl
    · rfl
  | t + 6, h => exact absurd h (by omega)
set_option maxHeartbeats 4000000 in
theorem rn_tD {hp : zHp} {a : Nat} {f : Nat → Int32} (ha : hp[a]? = some (kcl f)) {t : Nat} (ht : t < 6) (d : Nat) : Rn d mX1_turnedDepth [.ref a, .int (nI t)] hp (some (.int (tD f t))) hp := by
  unfold Rn
  match t, ht with
  | 0, _ =>
    refine ev_s rfl ?_
    refine ev_sw (off := 41) rfl (by decide) rfl ?_
    show Ev _ _ 42 _ _ _ _
    refine ev_s rfl ?_
    refine ev_gf ha rfl rfl rfl ?_
    refine ev_ri rfl rfl ?_ ?_
    · rfl
    · rfl
  | 1, _ =>
    refine ev_s rfl ?_
    refine ev_sw (off := 31) rfl (by decide) rfl ?_
    show Ev _ _ 32 _ _ _ _
    refine ev_s rfl ?_
    refine ev_gf ha rfl rfl rfl ?_
    refine ev_ri rfl rfl ?_ ?_
    · rfl
    · rfl
  | 2, _ =>
    refine ev_s rfl ?_
    refine ev_sw (off := 36) rfl (by decide) rfl ?_
    show Ev _ _ 37 _ _ _ _
    refine ev_s rfl ?_
    refine ev_gf ha rfl rfl rfl ?_
    refine ev_ri rfl rfl ?_ ?_
    · rfl
    · rfl
  | 3, _ =>
    refine ev_s rfl ?_
    refine ev_sw (off := 31) rfl (by decide) rfl ?_
    show Ev _ _ 32 _ _ _ _
    refine ev_s rfl ?_
    refine ev_gf ha rfl rfl rfl ?_
    refine ev_ri rfl rfl ?_ ?_
    · rfl
    · rfl
  | 4, _ =>
    refine ev_s rfl ?_
    refine ev_sw (off := 36) rfl (by decide) rfl ?_
    show Ev _ _ 37 _ _ _ _
    refine ev_s rfl ?_
    refine ev_gf ha rfl rfl rfl ?_
    refine ev_ri rfl rfl ?_ ?_
    · rfl
    · rfl
  | 5, _ =>
    refine ev_s rfl ?_
    refine ev_sw (off := 41) rfl (by decide) rfl ?_
    show Ev _ _ 42 _ _ _ _
    refine ev_s rfl ?_
    refine ev_gf ha rfl rfl rfl ?_
    refine ev_ri rfl rfl ?_ ?_
    · rfl
    · rfl
  | t + 6, h => exact absurd h (by omega)
def nOn (f : Nat → Int32) (k : Nat) : Int32 := match k with | 0 => f 8 | 1 => f 9 | 2 => f 10 | _ => f 4
set_option maxHeartbeats 4000000 in
theorem rn_numberOn {hp : zHp} {a : Nat} {f : Nat → Int32} (ha : hp[a]? = some (pcl f)) {t : Nat} (ht : t < 4) (d : Nat) : Rn d mX2_numberOn [.ref a, .int (nI t)] hp (some (.int (nOn f t))) hp := by
  unfold Rn
  match t, ht with
  | 0, _ =>
    refine ev_s rfl ?_
    refine ev_sw (off := 27) rfl (by decide) rfl ?_
    show Ev _ _ 28 _ _ _ _
    refine ev_s rfl ?_
    refine ev_gf ha rfl rfl rfl ?_
    refine ev_ri rfl rfl ?_ ?_
    · rfl
    · rfl
  | 1, _ =>
    refine ev_s rfl ?_
    refine ev_sw (off := 32) rfl (by decide) rfl ?_
    show Ev _ _ 33 _ _ _ _
    refine ev_s rfl ?_
    refine ev_gf ha rfl rfl rfl ?_
    refine ev_ri rfl rfl ?_ ?_
    · rfl
    · rfl
  | 2, _ =>
    refine ev_s rfl ?_
    refine ev_sw (off := 37) rfl (by decide) rfl ?_
    show Ev _ _ 38 _ _ _ _
    refine ev_s rfl ?_
    refine ev_gf ha rfl rfl rfl ?_
    refine ev_ri rfl rfl ?_ ?_
    · rfl
    · rfl
  | 3, _ =>
    refine ev_s rfl ?_
    refine ev_sw (off := 42) rfl (by decide) rfl ?_
    show Ev _ _ 43 _ _ _ _
    refine ev_s rfl ?_
    refine ev_gf ha rfl rfl rfl ?_
    refine ev_ri rfl rfl ?_ ?_
    · rfl
    · rfl
  | t + 4, h => exact absurd h (by omega)
end
section
/-! ===== Piece's loops, Place's writers ===== -/
theorem zge_f {i n t f : Nat} {y : Int32} (hy : y = nI n) (h : i < n) (hn : n < 2 ^ 31) : zbr .ge (nI i) y t f = f := by
  subst hy
  exact if_neg (nI_ge h hn)
theorem zge_t {i n t f : Nat} {y : Int32} (hy : y = nI n) (h : n ≤ i) (hn : i < 2 ^ 31) : zbr .ge (nI i) y t f = t := by
  subst hy
  exact if_pos (nI_le h hn)
theorem upd_s (f : Nat → Int32) (k : Nat) (v : Int32) : upd f k v k = v := if_pos rfl
theorem upd_n {f : Nat → Int32} {k j : Nat} {v : Int32} (h : j ≠ k) : upd f k v j = f j := if_neg h
theorem upd_upd (f : Nat → Int32) (k : Nat) (v w : Int32) : upd (upd f k v) k w = upd f k w := by
  funext j
  by_cases h : j = k
  · subst h; rw [upd_s, upd_s]
  · rw [upd_n h, upd_n h, upd_n h]
theorem up2_up2 (M : Nat → Nat → Int32) (h k : Nat) (v w : Int32) : up2 (up2 M h k v) h k w = up2 M h k w := by
  funext j
  by_cases hj : j = h
  · subst hj; rw [up2_s, up2_s, up2_s, upd_upd]
  · rw [up2_n hj, up2_n hj, up2_n hj]
theorem mk_setc {np : Nat} {M : Nat → Nat → Int32} {L : Nat → Int64} {h k : Nat} {v : Int32} {c c' : va_E} (hl : cel np h (upd (M h) k v) (L h) = c') (hc : c = c') : (mk np M L).set h c = mk np (up2 M h k v) L := mk_set (hc.trans hl.symm)
theorem zfits_b {x : Int32} (h : x = 0 ∨ x = 1) : zfits .boolean (.int x) = true := by
  rcases h with rfl | rfl <;> rfl
def smT (f : Nat → Int32) (b t : Nat) : Prop := tW f b = tW f t ∧ tH f b = tH f t ∧ tD f b = tD f t
def cMk (f : Nat → Int32) (t : Nat) : Prop := ∃ b, b < t ∧ smT f b t

set_option maxHeartbeats 4000000 in
theorem lp_mk {hp : zHp} {a : Nat} {f : Nat → Int32} (ha : hp[a]? = some (kcl f)) {t : Nat} (ht : t < 6) (d : Nat) : ∀ k b, b + k = t → (∀ j, j < b → ¬ smT f j t) → Ev (d + 1) mX1_makesWhatOneBeforeMakes 2 [some (.ref a), some (.int (nI t)), some (.int (nI b))] [] hp (Qr mX1_makesWhatOneBeforeMakes (some (.int (zi (cMk f t)))) hp) := by
  intro k
  induction k with
  | zero =>
    intro b hb hI
    iterate 2 refine ev_s rfl ?_
    refine ev_ic rfl rfl ?_
    rw [show zbr .ge (nI b) (nI t) 54 7 = 54 from zge_t (n := t) rfl (by omega) (by omega)]
    refine ev_ik (v := 0) rfl (by decide) ?_
    refine ev_rz rfl rfl (by decide) ?_ ?_
    · exact some_i (zi_f (fun ⟨j, hj, hs⟩ => hI j (by omega) hs)).symm
    · rfl
  | succ k ih =>
    intro b hb hI
    have hbt : b < t := by omega
    iterate 2 refine ev_s rfl ?_
    refine ev_ic rfl rfl ?_
    rw [show zbr .ge (nI b) (nI t) 54 7 = 7 from zge_f (n := t) rfl hbt (by omega)]
    iterate 2 refine ev_s rfl ?_
    refine ev_cv (vs := [(.ref a), (.int (nI b))]) (rest := []) (rv := (some (.int (tW f b)))) rfl rfl rfl ha rfl rfl rfl rfl (rn_tW ha (t := b) (by omega) _) ?_
    show Ev _ _ 12 _ [(.int (tW f b))] _ _
    iterate 2 refine ev_s rfl ?_
    refine ev_cv (vs := [(.ref a), (.int (nI t))]) (rest := [(.int (tW f b))]) (rv := (some (.int (tW f t)))) rfl rfl rfl ha rfl rfl rfl rfl (rn_tW ha (t := t) (by omega) _) ?_
    show Ev _ _ 17 _ [(.int (tW f t)), (.int (tW f b))] _ _
    refine ev_ic rfl rfl (ev_bn (fun c1 => ?_) (fun c1 => ?_))
    · show Ev _ _ 48 _ _ _ _
      refine ev_inc (y := 1) (v := nI (b + 1)) (ls' := [some (.ref a), some (.int (nI t)), some (.int (nI (b + 1)))]) rfl rfl (by decide) (nI_1 _) rfl ?_
      refine ev_s rfl ?_
      exact ih (b + 1) (by omega) (fun j hj hs => by
        rcases Nat.lt_or_ge j b with q | q
        · exact hI j q hs
        · obtain rfl : j = b := by omega
          exact c1 hs.1)
    · show Ev _ _ 20 _ _ _ _
      iterate 2 refine ev_s rfl ?_
      refine ev_cv (vs := [(.ref a), (.int (nI b))]) (rest := []) (rv := (some (.int (tH f b)))) rfl rfl rfl ha rfl rfl rfl rfl (rn_tH ha (t := b) (by omega) _) ?_
      show Ev _ _ 25 _ [(.int (tH f b))] _ _
      iterate 2 refine ev_s rfl ?_
      refine ev_cv (vs := [(.ref a), (.int (nI t))]) (rest := [(.int (tH f b))]) (rv := (some (.int (tH f t)))) rfl rfl rfl ha rfl rfl rfl rfl (rn_tH ha (t := t) (by omega) _) ?_
      show Ev _ _ 30 _ [(.int (tH f t)), (.int (tH f b))] _ _
      refine ev_ic rfl rfl (ev_bn (fun c2 => ?_) (fun c2 => ?_))
      · show Ev _ _ 48 _ _ _ _
        refine ev_inc (y := 1) (v := nI (b + 1)) (ls' := [some (.ref a), some (.int (nI t)), some (.int (nI (b + 1)))]) rfl rfl (by decide) (nI_1 _) rfl ?_
        refine ev_s rfl ?_
        exact ih (b + 1) (by omega) (fun j hj hs => by
          rcases Nat.lt_or_ge j b with q | q
          · exact hI j q hs
          · obtain rfl : j = b := by omega
            exact c2 hs.2.1)
      · show Ev _ _ 33 _ _ _ _
        iterate 2 refine ev_s rfl ?_
        refine ev_cv (vs := [(.ref a), (.int (nI b))]) (rest := []) (rv := (some (.int (tD f b)))) rfl rfl rfl ha rfl rfl rfl rfl (rn_tD ha (t := b) (by omega) _) ?_
        show Ev _ _ 38 _ [(.int (tD f b))] _ _
        iterate 2 refine ev_s rfl ?_
        refine ev_cv (vs := [(.ref a), (.int (nI t))]) (rest := [(.int (tD f b))]) (rv := (some (.int (tD f t)))) rfl rfl rfl ha rfl rfl rfl rfl (rn_tD ha (t := t) (by omega) _) ?_
        show Ev _ _ 43 _ [(.int (tD f t)), (.int (tD f b))] _ _
        refine ev_ic rfl rfl (ev_bn (fun c3 => ?_) (fun c3 => ?_))
        · show Ev _ _ 48 _ _ _ _
          refine ev_inc (y := 1) (v := nI (b + 1)) (ls' := [some (.ref a), some (.int (nI t)), some (.int (nI (b + 1)))]) rfl rfl (by decide) (nI_1 _) rfl ?_
          refine ev_s rfl ?_
          exact ih (b + 1) (by omega) (fun j hj hs => by
            rcases Nat.lt_or_ge j b with q | q
            · exact hI j q hs
            · obtain rfl : j = b := by omega
              exact c3 hs.2.2)
        · show Ev _ _ 46 _ _ _ _
          refine ev_ik (v := 1) rfl (by decide) ?_
          refine ev_rz rfl rfl (by decide) ?_ ?_
          · exact some_i (zi_t ⟨b, hbt, c1, c2, c3⟩).symm
          · rfl
set_option maxHeartbeats 4000000 in
theorem rn_mk {hp : zHp} {a : Nat} {f : Nat → Int32} (ha : hp[a]? = some (kcl f)) {t : Nat} (ht : t < 6) (d : Nat) : Rn (d + 1) mX1_makesWhatOneBeforeMakes [.ref a, .int (nI t)] hp (some (.int (zi (cMk f t)))) hp := by
  unfold Rn
  refine ev_ik (v := 0) rfl (by decide) ?_
  refine ev_s (ls' := [some (.ref a), some (.int (nI t)), some (.int 0)]) rfl ?_
  exact lp_mk ha ht d t 0 (by omega) (fun j hj => absurd hj (by omega))
def fitT (f g : Nat → Int32) (t : Nat) : Prop := cHt (f 7) (nI t) ∧ ¬ g 0 < tW f t ∧ ¬ g 1 < tH f t ∧ ¬ g 2 < tD f t
def cLg (f g : Nat → Int32) : Prop := ∀ t, t < 6 → ¬ fitT f g t
set_option maxHeartbeats 4000000 in
theorem lp_lg {hp : zHp} {a b : Nat} {f g : Nat → Int32} (ha : hp[a]? = some (kcl f)) (hb : hp[b]? = some (.inr (4, [.int (g 0), .int (g 1), .int (g 2)]))) (d : Nat) : ∀ k t, t + k = 6 → (∀ j, j < t → ¬ fitT f g j) → Ev (d + 1) mX1_isLargeFor 2 [some (.ref a), some (.ref b), some (.int (nI t))] [] hp (Qr mX1_isLargeFor (some (.int (zi (cLg f g)))) hp) := by
  intro k
  induction k with
  | zero =>
    intro t ht hI
    refine ev_s rfl ?_
    refine ev_bi (v := 6) rfl (by decide) ?_
    refine ev_ic rfl rfl ?_
    rw [show zbr .ge (nI t) 6 60 8 = 60 from zge_t (n := 6) (by decide) (by omega) (by omega)]
    refine ev_ik (v := 1) rfl (by decide) ?_
    refine ev_rz rfl rfl (by decide) ?_ ?_
    · exact some_i (zi_t (fun j hj => hI j (by omega))).symm
    · rfl
  | succ k ih =>
    intro t ht hI
    have htt : t < 6 := by omega
    refine ev_s rfl ?_
    refine ev_bi (v := 6) rfl (by decide) ?_
    refine ev_ic rfl rfl ?_
    rw [show zbr .ge (nI t) 6 60 8 = 8 from zge_f (n := 6) (by decide) htt (by decide)]
    iterate 2 refine ev_s rfl ?_
    refine ev_cv (vs := [(.ref a), (.int (nI t))]) (rest := []) (rv := (some (.int (zi (cHt (f 7) (nI t)))))) rfl rfl rfl ha rfl rfl rfl rfl (rn_hasTurn ha (t := nI t) _) ?_
    show Ev _ _ 13 _ [(.int (zi (cHt (f 7) (nI t))))] _ _
    refine ev_if rfl rfl (ev_bze (fun c1 => ?_) (fun c1 => ?_))
    · show Ev _ _ 54 _ _ _ _
      refine ev_inc (y := 1) (v := nI (t + 1)) (ls' := [some (.ref a), some (.ref b), some (.int (nI (t + 1)))]) rfl rfl (by decide) (nI_1 _) rfl ?_
      refine ev_s rfl ?_
      exact ih (t + 1) (by omega) (fun j hj hs => by
        rcases Nat.lt_or_ge j t with q | q
        · exact hI j q hs
        · obtain rfl : j = t := by omega
          exact c1 hs.1)
    · show Ev _ _ 16 _ _ _ _
      iterate 2 refine ev_s rfl ?_
      refine ev_cv (vs := [(.ref a), (.int (nI t))]) (rest := []) (rv := (some (.int (tW f t)))) rfl rfl rfl ha rfl rfl rfl rfl (rn_tW ha (t := t) (by omega) _) ?_
      show Ev _ _ 21 _ [(.int (tW f t))] _ _
      refine ev_s rfl ?_
      refine ev_gf hb rfl rfl rfl ?_
      refine ev_ic rfl rfl (ev_br (zb_gt _ _ _ _) (fun c2 => ?_) (fun c2 => ?_))
      · show Ev _ _ 54 _ _ _ _
        refine ev_inc (y := 1) (v := nI (t + 1)) (ls' := [some (.ref a), some (.ref b), some (.int (nI (t + 1)))]) rfl rfl (by decide) (nI_1 _) rfl ?_
        refine ev_s rfl ?_
        exact ih (t + 1) (by omega) (fun j hj hs => by
          rcases Nat.lt_or_ge j t with q | q
          · exact hI j q hs
          · obtain rfl : j = t := by omega
            exact hs.2.1 c2)
      · show Ev _ _ 28 _ _ _ _
        iterate 2 refine ev_s rfl ?_
        refine ev_cv (vs := [(.ref a), (.int (nI t))]) (rest := []) (rv := (some (.int (tH f t)))) rfl rfl rfl ha rfl rfl rfl rfl (rn_tH ha (t := t) (by omega) _) ?_
        show Ev _ _ 33 _ [(.int (tH f t))] _ _
        refine ev_s rfl ?_
        refine ev_gf hb rfl rfl rfl ?_
        refine ev_ic rfl rfl (ev_br (zb_gt _ _ _ _) (fun c3 => ?_) (fun c3 => ?_))
        · show Ev _ _ 54 _ _ _ _
          refine ev_inc (y := 1) (v := nI (t + 1)) (ls' := [some (.ref a), some (.ref b), some (.int (nI (t + 1)))]) rfl rfl (by decide) (nI_1 _) rfl ?_
          refine ev_s rfl ?_
          exact ih (t + 1) (by omega) (fun j hj hs => by
            rcases Nat.lt_or_ge j t with q | q
            · exact hI j q hs
            · obtain rfl : j = t := by omega
              exact hs.2.2.1 c3)
        · show Ev _ _ 40 _ _ _ _
          iterate 2 refine ev_s rfl ?_
          refine ev_cv (vs := [(.ref a), (.int (nI t))]) (rest := []) (rv := (some (.int (tD f t)))) rfl rfl rfl ha rfl rfl rfl rfl (rn_tD ha (t := t) (by omega) _) ?_
          show Ev _ _ 45 _ [(.int (tD f t))] _ _
          refine ev_s rfl ?_
          refine ev_gf hb rfl rfl rfl ?_
          refine ev_ic rfl rfl (ev_br (zb_gt _ _ _ _) (fun c4 => ?_) (fun c4 => ?_))
          · show Ev _ _ 54 _ _ _ _
            refine ev_inc (y := 1) (v := nI (t + 1)) (ls' := [some (.ref a), some (.ref b), some (.int (nI (t + 1)))]) rfl rfl (by decide) (nI_1 _) rfl ?_
            refine ev_s rfl ?_
            exact ih (t + 1) (by omega) (fun j hj hs => by
              rcases Nat.lt_or_ge j t with q | q
              · exact hI j q hs
              · obtain rfl : j = t := by omega
                exact hs.2.2.2 c4)
          · show Ev _ _ 52 _ _ _ _
            refine ev_ik (v := 0) rfl (by decide) ?_
            refine ev_rz rfl rfl (by decide) ?_ ?_
            · exact some_i (zi_f (fun h => h t htt ⟨c1, c2, c3, c4⟩)).symm
            · rfl
set_option maxHeartbeats 4000000 in
theorem rn_lg {hp : zHp} {a b : Nat} {f g : Nat → Int32} (ha : hp[a]? = some (kcl f)) (hb : hp[b]? = some (.inr (4, [.int (g 0), .int (g 1), .int (g 2)]))) (d : Nat) : Rn (d + 1) mX1_isLargeFor [.ref a, .ref b] hp (some (.int (zi (cLg f g)))) hp := by
  unfold Rn
  refine ev_ik (v := 0) rfl (by decide) ?_
  refine ev_s (ls' := [some (.ref a), some (.ref b), some (.int 0)]) rfl ?_
  exact lp_lg ha hb d 6 0 (by omega) (fun j hj => absurd hj (by omega))
def mvM (M : Nat → Nat → Int32) (h : Nat) (x y z : Int32) : Nat → Nat → Int32 := up2 (up2 (up2 M h 8 x) h 9 y) h 10 z
set_option maxHeartbeats 4000000 in
theorem rn_moveTo_t {np : Nat} {M : Nat → Nat → Int32} {L : Nat → Int64} {i : Nat} (hi : i < 6) {x y z : Int32} (d : Nat) : Rn d mX2_moveTo [(.ref (14 + i)), (.int x), (.int y), (.int z)] (mk np M L) none (mk np (mvM M (14 + i) x y z) L) := by
  unfold Rn
  iterate 2 refine ev_s rfl ?_
  refine ev_pf (hp' := (mk np (up2 M (14 + i) 8 x) L)) (rd np M L (by omega) (cel_trial hi _ _)) rfl rfl (by simp) rfl rfl (mk_setc (cel_trial hi _ _) rfl) ?_
  iterate 2 refine ev_s rfl ?_
  refine ev_pf (hp' := (mk np (up2 (up2 M (14 + i) 8 x) (14 + i) 9 y) L)) (rd np (up2 M (14 + i) 8 x) L (by omega) (cel_trial hi _ _)) rfl rfl (by simp) rfl rfl (mk_setc (cel_trial hi _ _) rfl) ?_
  iterate 2 refine ev_s rfl ?_
  refine ev_pf (hp' := (mk np (up2 (up2 (up2 M (14 + i) 8 x) (14 + i) 9 y) (14 + i) 10 z) L)) (rd np (up2 (up2 M (14 + i) 8 x) (14 + i) 9 y) L (by omega) (cel_trial hi _ _)) rfl rfl (by simp) rfl rfl (mk_setc (cel_trial hi _ _) rfl) ?_
  refine ev_rv rfl rfl ?_ ?_
  · rfl
  · rfl
set_option maxHeartbeats 4000000 in
theorem rn_moveTo_b {np : Nat} {M : Nat → Nat → Int32} {L : Nat → Int64} {i : Nat} (hi : i < 6) {x y z : Int32} (d : Nat) : Rn d mX2_moveTo [(.ref (5 + i)), (.int x), (.int y), (.int z)] (mk np M L) none (mk np (mvM M (5 + i) x y z) L) := by
  unfold Rn
  iterate 2 refine ev_s rfl ?_
  refine ev_pf (hp' := (mk np (up2 M (5 + i) 8 x) L)) (rd np M L (by omega) (cel_best hi _ _)) rfl rfl (by simp) rfl rfl (mk_setc (cel_best hi _ _) rfl) ?_
  iterate 2 refine ev_s rfl ?_
  refine ev_pf (hp' := (mk np (up2 (up2 M (5 + i) 8 x) (5 + i) 9 y) L)) (rd np (up2 M (5 + i) 8 x) L (by omega) (cel_best hi _ _)) rfl rfl (by simp) rfl rfl (mk_setc (cel_best hi _ _) rfl) ?_
  iterate 2 refine ev_s rfl ?_
  refine ev_pf (hp' := (mk np (up2 (up2 (up2 M (5 + i) 8 x) (5 + i) 9 y) (5 + i) 10 z) L)) (rd np (up2 (up2 M (5 + i) 8 x) (5 + i) 9 y) L (by omega) (cel_best hi _ _)) rfl rfl (by simp) rfl rfl (mk_setc (cel_best hi _ _) rfl) ?_
  refine ev_rv rfl rfl ?_ ?_
  · rfl
  · rfl
end
section
/-! ===== writers of Place and Piece ===== -/
theorem mk_setr {np : Nat} {M : Nat → Nat → Int32} {L : Nat → Int64} {h k : Nat} {v : Int32} {c c' : va_E} {row : Nat → Int32} (hr : M h = row) (hl : cel np h (upd row k v) (L h) = c') (hc : c = c') : (mk np M L).set h c = mk np (up2 M h k v) L := mk_set (by rw [hr]; exact hc.trans hl.symm)

def stM (M : Nat → Nat → Int32) (h q : Nat) : Nat → Nat → Int32 := up2 (up2 (up2 (up2 M h 0 0) h 1 (M q 3)) h 2 (M q 5)) h 3 (M q 6)
set_option maxHeartbeats 4000000 in
theorem rn_startFor {np : Nat} {M : Nat → Nat → Int32} {L : Nat → Int64} {i : Nat} (hi : i < 6) (hn : i < np) (d : Nat) : Rn (d) mX2_startFor [(.ref (14 + i)), (.ref (57 + i))] (mk np M L) none (mk np (stM M (14 + i) (57 + i)) L) := by
  unfold Rn
  refine ev_s rfl ?_
  refine ev_ik (v := 0) rfl (by decide) ?_
  refine ev_pf (hp' := (mk np (up2 M (14 + i) 0 0) L)) (rd np M L (by omega) (cel_trial (by omega) _ _)) rfl rfl (by simp) rfl rfl (mk_setr rfl (cel_trial (by omega) _ _) rfl) ?_
  iterate 2 refine ev_s rfl ?_
  refine ev_gf (rd np (up2 M (14 + i) 0 0) L (by omega) ((congrArg (fun r => cel np (57 + i) r (L (57 + i))) ((up2_n (by omega)).trans rfl)).trans (cel_piece _ _))) rfl rfl rfl ?_
  refine ev_pf (hp' := (mk np (up2 (up2 M (14 + i) 0 0) (14 + i) 1 (M (57 + i) 3)) L)) (rd np (up2 M (14 + i) 0 0) L (by omega) ((congrArg (fun r => cel np (14 + i) r (L (14 + i))) ((up2_s _ _ _ _).trans (congrArg (fun r => upd r 0 0) rfl))).trans (cel_trial (by omega) _ _))) rfl rfl (by simp) rfl rfl (mk_setr ((up2_s _ _ _ _).trans (congrArg (fun r => upd r 0 0) rfl)) (cel_trial (by omega) _ _) rfl) ?_
  iterate 2 refine ev_s rfl ?_
  refine ev_gf (rd np (up2 (up2 M (14 + i) 0 0) (14 + i) 1 (M (57 + i) 3)) L (by omega) ((congrArg (fun r => cel np (57 + i) r (L (57 + i))) ((up2_n (by omega)).trans ((up2_n (by omega)).trans rfl))).trans (cel_piece _ _))) rfl rfl rfl ?_
  refine ev_pf (hp' := (mk np (up2 (up2 (up2 M (14 + i) 0 0) (14 + i) 1 (M (57 + i) 3)) (14 + i) 2 (M (57 + i) 5)) L)) (rd np (up2 (up2 M (14 + i) 0 0) (14 + i) 1 (M (57 + i) 3)) L (by omega) ((congrArg (fun r => cel np (14 + i) r (L (14 + i))) ((up2_s _ _ _ _).trans (congrArg (fun r => upd r 1 (M (57 + i) 3)) ((up2_s _ _ _ _).trans (congrArg (fun r => upd r 0 0) rfl))))).trans (cel_trial (by omega) _ _))) rfl rfl (by simp) rfl rfl (mk_setr ((up2_s _ _ _ _).trans (congrArg (fun r => upd r 1 (M (57 + i) 3)) ((up2_s _ _ _ _).trans (congrArg (fun r => upd r 0 0) rfl)))) (cel_trial (by omega) _ _) rfl) ?_
  iterate 2 refine ev_s rfl ?_
  refine ev_gf (rd np (up2 (up2 (up2 M (14 + i) 0 0) (14 + i) 1 (M (57 + i) 3)) (14 + i) 2 (M (57 + i) 5)) L (by omega) ((congrArg (fun r => cel np (57 + i) r (L (57 + i))) ((up2_n (by omega)).trans ((up2_n (by omega)).trans ((up2_n (by omega)).trans rfl)))).trans (cel_piece _ _))) rfl rfl rfl ?_
  refine ev_pf (hp' := (mk np (up2 (up2 (up2 (up2 M (14 + i) 0 0) (14 + i) 1 (M (57 + i) 3)) (14 + i) 2 (M (57 + i) 5)) (14 + i) 3 (M (57 + i) 6)) L)) (rd np (up2 (up2 (up2 M (14 + i) 0 0) (14 + i) 1 (M (57 + i) 3)) (14 + i) 2 (M (57 + i) 5)) L (by omega) ((congrArg (fun r => cel np (14 + i) r (L (14 + i))) ((up2_s _ _ _ _).trans (congrArg (fun r => upd r 2 (M (57 + i) 5)) ((up2_s _ _ _ _).trans (congrArg (fun r => upd r 1 (M (57 + i) 3)) ((up2_s _ _ _ _).trans (congrArg (fun r => upd r 0 0) rfl))))))).trans (cel_trial (by omega) _ _))) rfl rfl (by simp) rfl rfl (mk_setr ((up2_s _ _ _ _).trans (congrArg (fun r => upd r 2 (M (57 + i) 5)) ((up2_s _ _ _ _).trans (congrArg (fun r => upd r 1 (M (57 + i) 3)) ((up2_s _ _ _ _).trans (congrArg (fun r => upd r 0 0) rfl)))))) (cel_trial (by omega) _ _) rfl) ?_
  refine ev_rv rfl rfl ?_ ?_
  · rfl
  · rfl
def toM (M : Nat → Nat → Int32) (h q t : Nat) : Nat → Nat → Int32 := up2 (up2 (up2 (up2 M h 4 (nI t)) h 5 (tW (M q) t)) h 6 (tH (M q) t)) h 7 (tD (M q) t)
set_option maxHeartbeats 4000000 in
theorem rn_turnTo {np : Nat} {M : Nat → Nat → Int32} {L : Nat → Int64} {i t : Nat} (hi : i < 6) (hn : i < np) (ht : t < 6) (d : Nat) : Rn (d + 1) mX2_turnTo [(.ref (14 + i)), (.ref (57 + i)), (.int (nI t))] (mk np M L) none (mk np (toM M (14 + i) (57 + i) t) L) := by
  unfold Rn
  iterate 2 refine ev_s rfl ?_
  refine ev_pf (hp' := (mk np (up2 M (14 + i) 4 (nI t)) L)) (rd np M L (by omega) (cel_trial (by omega) _ _)) rfl rfl (by simp) rfl rfl (mk_setr rfl (cel_trial (by omega) _ _) rfl) ?_
  iterate 3 refine ev_s rfl ?_
  refine ev_cv (vs := [(.ref (57 + i)), (.int (nI t))]) (rest := [(.ref (14 + i))]) (rv := (some (.int (tW (M (57 + i)) t)))) rfl rfl rfl (rd np (up2 M (14 + i) 4 (nI t)) L (by omega) ((congrArg (fun r => cel np (57 + i) r (L (57 + i))) ((up2_n (by omega)).trans rfl)).trans (cel_piece _ _))) rfl rfl rfl rfl (rn_tW (f := M (57 + i)) (rd np (up2 M (14 + i) 4 (nI t)) L (by omega) ((congrArg (fun r => cel np (57 + i) r (L (57 + i))) ((up2_n (by omega)).trans rfl)).trans (cel_piece _ _))) ht _) ?_
  show Ev _ _ 11 _ [(.int (tW (M (57 + i)) t)), (.ref (14 + i))] _ _
  refine ev_pf (hp' := (mk np (up2 (up2 M (14 + i) 4 (nI t)) (14 + i) 5 (tW (M (57 + i)) t)) L)) (rd np (up2 M (14 + i) 4 (nI t)) L (by omega) ((congrArg (fun r => cel np (14 + i) r (L (14 + i))) ((up2_s _ _ _ _).trans (congrArg (fun r => upd r 4 (nI t)) rfl))).trans (cel_trial (by omega) _ _))) rfl rfl (by simp) rfl rfl (mk_setr ((up2_s _ _ _ _).trans (congrArg (fun r => upd r 4 (nI t)) rfl)) (cel_trial (by omega) _ _) rfl) ?_
  iterate 3 refine ev_s rfl ?_
  refine ev_cv (vs := [(.ref (57 + i)), (.int (nI t))]) (rest := [(.ref (14 + i))]) (rv := (some (.int (tH (M (57 + i)) t)))) rfl rfl rfl (rd np (up2 (up2 M (14 + i) 4 (nI t)) (14 + i) 5 (tW (M (57 + i)) t)) L (by omega) ((congrArg (fun r => cel np (57 + i) r (L (57 + i))) ((up2_n (by omega)).trans ((up2_n (by omega)).trans rfl))).trans (cel_piece _ _))) rfl rfl rfl rfl (rn_tH (f := M (57 + i)) (rd np (up2 (up2 M (14 + i) 4 (nI t)) (14 + i) 5 (tW (M (57 + i)) t)) L (by omega) ((congrArg (fun r => cel np (57 + i) r (L (57 + i))) ((up2_n (by omega)).trans ((up2_n (by omega)).trans rfl))).trans (cel_piece _ _))) ht _) ?_
  show Ev _ _ 20 _ [(.int (tH (M (57 + i)) t)), (.ref (14 + i))] _ _
  refine ev_pf (hp' := (mk np (up2 (up2 (up2 M (14 + i) 4 (nI t)) (14 + i) 5 (tW (M (57 + i)) t)) (14 + i) 6 (tH (M (57 + i)) t)) L)) (rd np (up2 (up2 M (14 + i) 4 (nI t)) (14 + i) 5 (tW (M (57 + i)) t)) L (by omega) ((congrArg (fun r => cel np (14 + i) r (L (14 + i))) ((up2_s _ _ _ _).trans (congrArg (fun r => upd r 5 (tW (M (57 + i)) t)) ((up2_s _ _ _ _).trans (congrArg (fun r => upd r 4 (nI t)) rfl))))).trans (cel_trial (by omega) _ _))) rfl rfl (by simp) rfl rfl (mk_setr ((up2_s _ _ _ _).trans (congrArg (fun r => upd r 5 (tW (M (57 + i)) t)) ((up2_s _ _ _ _).trans (congrArg (fun r => upd r 4 (nI t)) rfl)))) (cel_trial (by omega) _ _) rfl) ?_
  iterate 3 refine ev_s rfl ?_
  refine ev_cv (vs := [(.ref (57 + i)), (.int (nI t))]) (rest := [(.ref (14 + i))]) (rv := (some (.int (tD (M (57 + i)) t)))) rfl rfl rfl (rd np (up2 (up2 (up2 M (14 + i) 4 (nI t)) (14 + i) 5 (tW (M (57 + i)) t)) (14 + i) 6 (tH (M (57 + i)) t)) L (by omega) ((congrArg (fun r => cel np (57 + i) r (L (57 + i))) ((up2_n (by omega)).trans ((up2_n (by omega)).trans ((up2_n (by omega)).trans rfl)))).trans (cel_piece _ _))) rfl rfl rfl rfl (rn_tD (f := M (57 + i)) (rd np (up2 (up2 (up2 M (14 + i) 4 (nI t)) (14 + i) 5 (tW (M (57 + i)) t)) (14 + i) 6 (tH (M (57 + i)) t)) L (by omega) ((congrArg (fun r => cel np (57 + i) r (L (57 + i))) ((up2_n (by omega)).trans ((up2_n (by omega)).trans ((up2_n (by omega)).trans rfl)))).trans (cel_piece _ _))) ht _) ?_
  show Ev _ _ 29 _ [(.int (tD (M (57 + i)) t)), (.ref (14 + i))] _ _
  refine ev_pf (hp' := (mk np (up2 (up2 (up2 (up2 M (14 + i) 4 (nI t)) (14 + i) 5 (tW (M (57 + i)) t)) (14 + i) 6 (tH (M (57 + i)) t)) (14 + i) 7 (tD (M (57 + i)) t)) L)) (rd np (up2 (up2 (up2 M (14 + i) 4 (nI t)) (14 + i) 5 (tW (M (57 + i)) t)) (14 + i) 6 (tH (M (57 + i)) t)) L (by omega) ((congrArg (fun r => cel np (14 + i) r (L (14 + i))) ((up2_s _ _ _ _).trans (congrArg (fun r => upd r 6 (tH (M (57 + i)) t)) ((up2_s _ _ _ _).trans (congrArg (fun r => upd r 5 (tW (M (57 + i)) t)) ((up2_s _ _ _ _).trans (congrArg (fun r => upd r 4 (nI t)) rfl))))))).trans (cel_trial (by omega) _ _))) rfl rfl (by simp) rfl rfl (mk_setr ((up2_s _ _ _ _).trans (congrArg (fun r => upd r 6 (tH (M (57 + i)) t)) ((up2_s _ _ _ _).trans (congrArg (fun r => upd r 5 (tW (M (57 + i)) t)) ((up2_s _ _ _ _).trans (congrArg (fun r => upd r 4 (nI t)) rfl)))))) (cel_trial (by omega) _ _) rfl) ?_
  refine ev_rv rfl rfl ?_ ?_
  · rfl
  · rfl
def cpM (M : Nat → Nat → Int32) (h q : Nat) : Nat → Nat → Int32 := mvM (up2 (up2 (up2 (up2 (up2 (up2 (up2 (up2 M h 0 (M q 0)) h 1 (M q 1)) h 2 (M q 2)) h 3 (M q 3)) h 4 (M q 4)) h 5 (M q 5)) h 6 (M q 6)) h 7 (M q 7)) h (M q 8) (M q 9) (M q 10)
set_option maxHeartbeats 4000000 in
theorem rn_pcopy {np : Nat} {M : Nat → Nat → Int32} {L : Nat → Int64} {i : Nat} (hi : i < 6) (hz : M (14 + i) 0 = 0 ∨ M (14 + i) 0 = 1) (d : Nat) : Rn (d + 1) mX2_copyFrom [(.ref (5 + i)), (.ref (14 + i))] (mk np M L) none (mk np (cpM M (5 + i) (14 + i)) L) := by
  unfold Rn
  iterate 2 refine ev_s rfl ?_
  refine ev_gf (rd np M L (by omega) (cel_trial (by omega) _ _)) rfl rfl rfl ?_
  refine ev_pf (hp' := (mk np (up2 M (5 + i) 0 (M (14 + i) 0)) L)) (rd np M L (by omega) (cel_best (by omega) _ _)) rfl rfl (by simp) rfl (zfits_b hz) (mk_setr rfl (cel_best (by omega) _ _) rfl) ?_
  iterate 2 refine ev_s rfl ?_
  refine ev_gf (rd np (up2 M (5 + i) 0 (M (14 + i) 0)) L (by omega) ((congrArg (fun r => cel np (14 + i) r (L (14 + i))) ((up2_n (by omega)).trans rfl)).trans (cel_trial (by omega) _ _))) rfl rfl rfl ?_
  refine ev_pf (hp' := (mk np (up2 (up2 M (5 + i) 0 (M (14 + i) 0)) (5 + i) 1 (M (14 + i) 1)) L)) (rd np (up2 M (5 + i) 0 (M (14 + i) 0)) L (by omega) ((congrArg (fun r => cel np (5 + i) r (L (5 + i))) ((up2_s _ _ _ _).trans (congrArg (fun r => upd r 0 (M (14 + i) 0)) rfl))).trans (cel_best (by omega) _ _))) rfl rfl (by simp) rfl rfl (mk_setr ((up2_s _ _ _ _).trans (congrArg (fun r => upd r 0 (M (14 + i) 0)) rfl)) (cel_best (by omega) _ _) rfl) ?_
  iterate 2 refine ev_s rfl ?_
  refine ev_gf (rd np (up2 (up2 M (5 + i) 0 (M (14 + i) 0)) (5 + i) 1 (M (14 + i) 1)) L (by omega) ((congrArg (fun r => cel np (14 + i) r (L (14 + i))) ((up2_n (by omega)).trans ((up2_n (by omega)).trans rfl))).trans (cel_trial (by omega) _ _))) rfl rfl rfl ?_
  refine ev_pf (hp' := (mk np (up2 (up2 (up2 M (5 + i) 0 (M (14 + i) 0)) (5 + i) 1 (M (14 + i) 1)) (5 + i) 2 (M (14 + i) 2)) L)) (rd np (up2 (up2 M (5 + i) 0 (M (14 + i) 0)) (5 + i) 1 (M (14 + i) 1)) L (by omega) ((congrArg (fun r => cel np (5 + i) r (L (5 + i))) ((up2_s _ _ _ _).trans (congrArg (fun r => upd r 1 (M (14 + i) 1)) ((up2_s _ _ _ _).trans (congrArg (fun r => upd r 0 (M (14 + i) 0)) rfl))))).trans (cel_best (by omega) _ _))) rfl rfl (by simp) rfl rfl (mk_setr ((up2_s _ _ _ _).trans (congrArg (fun r => upd r 1 (M (14 + i) 1)) ((up2_s _ _ _ _).trans (congrArg (fun r => upd r 0 (M (14 + i) 0)) rfl)))) (cel_best (by omega) _ _) rfl) ?_
  iterate 2 refine ev_s rfl ?_
  refine ev_gf (rd np (up2 (up2 (up2 M (5 + i) 0 (M (14 + i) 0)) (5 + i) 1 (M (14 + i) 1)) (5 + i) 2 (M (14 + i) 2)) L (by omega) ((congrArg (fun r => cel np (14 + i) r (L (14 + i))) ((up2_n (by omega)).trans ((up2_n (by omega)).trans ((up2_n (by omega)).trans rfl)))).trans (cel_trial (by omega) _ _))) rfl rfl rfl ?_
  refine ev_pf (hp' := (mk np (up2 (up2 (up2 (up2 M (5 + i) 0 (M (14 + i) 0)) (5 + i) 1 (M (14 + i) 1)) (5 + i) 2 (M (14 + i) 2)) (5 + i) 3 (M (14 + i) 3)) L)) (rd np (up2 (up2 (up2 M (5 + i) 0 (M (14 + i) 0)) (5 + i) 1 (M (14 + i) 1)) (5 + i) 2 (M (14 + i) 2)) L (by omega) ((congrArg (fun r => cel np (5 + i) r (L (5 + i))) ((up2_s _ _ _ _).trans (congrArg (fun r => upd r 2 (M (14 + i) 2)) ((up2_s _ _ _ _).trans (congrArg (fun r => upd r 1 (M (14 + i) 1)) ((up2_s _ _ _ _).trans (congrArg (fun r => upd r 0 (M (14 + i) 0)) rfl))))))).trans (cel_best (by omega) _ _))) rfl rfl (by simp) rfl rfl (mk_setr ((up2_s _ _ _ _).trans (congrArg (fun r => upd r 2 (M (14 + i) 2)) ((up2_s _ _ _ _).trans (congrArg (fun r => upd r 1 (M (14 + i) 1)) ((up2_s _ _ _ _).trans (congrArg (fun r => upd r 0 (M (14 + i) 0)) rfl)))))) (cel_best (by omega) _ _) rfl) ?_
  iterate 2 refine ev_s rfl ?_
  refine ev_gf (rd np (up2 (up2 (up2 (up2 M (5 + i) 0 (M (14 + i) 0)) (5 + i) 1 (M (14 + i) 1)) (5 + i) 2 (M (14 + i) 2)) (5 + i) 3 (M (14 + i) 3)) L (by omega) ((congrArg (fun r => cel np (14 + i) r (L (14 + i))) ((up2_n (by omega)).trans ((up2_n (by omega)).trans ((up2_n (by omega)).trans ((up2_n (by omega)).trans rfl))))).trans (cel_trial (by omega) _ _))) rfl rfl rfl ?_
  refine ev_pf (hp' := (mk np (up2 (up2 (up2 (up2 (up2 M (5 + i) 0 (M (14 + i) 0)) (5 + i) 1 (M (14 + i) 1)) (5 + i) 2 (M (14 + i) 2)) (5 + i) 3 (M (14 + i) 3)) (5 + i) 4 (M (14 + i) 4)) L)) (rd np (up2 (up2 (up2 (up2 M (5 + i) 0 (M (14 + i) 0)) (5 + i) 1 (M (14 + i) 1)) (5 + i) 2 (M (14 + i) 2)) (5 + i) 3 (M (14 + i) 3)) L (by omega) ((congrArg (fun r => cel np (5 + i) r (L (5 + i))) ((up2_s _ _ _ _).trans (congrArg (fun r => upd r 3 (M (14 + i) 3)) ((up2_s _ _ _ _).trans (congrArg (fun r => upd r 2 (M (14 + i) 2)) ((up2_s _ _ _ _).trans (congrArg (fun r => upd r 1 (M (14 + i) 1)) ((up2_s _ _ _ _).trans (congrArg (fun r => upd r 0 (M (14 + i) 0)) rfl))))))))).trans (cel_best (by omega) _ _))) rfl rfl (by simp) rfl rfl (mk_setr ((up2_s _ _ _ _).trans (congrArg (fun r => upd r 3 (M (14 + i) 3)) ((up2_s _ _ _ _).trans (congrArg (fun r => upd r 2 (M (14 + i) 2)) ((up2_s _ _ _ _).trans (congrArg (fun r => upd r 1 (M (14 + i) 1)) ((up2_s _ _ _ _).trans (congrArg (fun r => upd r 0 (M (14 + i) 0)) rfl)))))))) (cel_best (by omega) _ _) rfl) ?_
  iterate 2 refine ev_s rfl ?_
  refine ev_gf (rd np (up2 (up2 (up2 (up2 (up2 M (5 + i) 0 (M (14 + i) 0)) (5 + i) 1 (M (14 + i) 1)) (5 + i) 2 (M (14 + i) 2)) (5 + i) 3 (M (14 + i) 3)) (5 + i) 4 (M (14 + i) 4)) L (by omega) ((congrArg (fun r => cel np (14 + i) r (L (14 + i))) ((up2_n (by omega)).trans ((up2_n (by omega)).trans ((up2_n (by omega)).trans ((up2_n (by omega)).trans ((up2_n (by omega)).trans rfl)))))).trans (cel_trial (by omega) _ _))) rfl rfl rfl ?_
  refine ev_pf (hp' := (mk np (up2 (up2 (up2 (up2 (up2 (up2 M (5 + i) 0 (M (14 + i) 0)) (5 + i) 1 (M (14 + i) 1)) (5 + i) 2 (M (14 + i) 2)) (5 + i) 3 (M (14 + i) 3)) (5 + i) 4 (M (14 + i) 4)) (5 + i) 5 (M (14 + i) 5)) L)) (rd np (up2 (up2 (up2 (up2 (up2 M (5 + i) 0 (M (14 + i) 0)) (5 + i) 1 (M (14 + i) 1)) (5 + i) 2 (M (14 + i) 2)) (5 + i) 3 (M (14 + i) 3)) (5 + i) 4 (M (14 + i) 4)) L (by omega) ((congrArg (fun r => cel np (5 + i) r (L (5 + i))) ((up2_s _ _ _ _).trans (congrArg (fun r => upd r 4 (M (14 + i) 4)) ((up2_s _ _ _ _).trans (congrArg (fun r => upd r 3 (M (14 + i) 3)) ((up2_s _ _ _ _).trans (congrArg (fun r => upd r 2 (M (14 + i) 2)) ((up2_s _ _ _ _).trans (congrArg (fun r => upd r 1 (M (14 + i) 1)) ((up2_s _ _ _ _).trans (congrArg (fun r => upd r 0 (M (14 + i) 0)) rfl))))))))))).trans (cel_best (by omega) _ _))) rfl rfl (by simp) rfl rfl (mk_setr ((up2_s _ _ _ _).trans (congrArg (fun r => upd r 4 (M (14 + i) 4)) ((up2_s _ _ _ _).trans (congrArg (fun r => upd r 3 (M (14 + i) 3)) ((up2_s _ _ _ _).trans (congrArg (fun r => upd r 2 (M (14 + i) 2)) ((up2_s _ _ _ _).trans (congrArg (fun r => upd r 1 (M (14 + i) 1)) ((up2_s _ _ _ _).trans (congrArg (fun r => upd r 0 (M (14 + i) 0)) rfl)))))))))) (cel_best (by omega) _ _) rfl) ?_
  iterate 2 refine ev_s rfl ?_
  refine ev_gf (rd np (up2 (up2 (up2 (up2 (up2 (up2 M (5 + i) 0 (M (14 + i) 0)) (5 + i) 1 (M (14 + i) 1)) (5 + i) 2 (M (14 + i) 2)) (5 + i) 3 (M (14 + i) 3)) (5 + i) 4 (M (14 + i) 4)) (5 + i) 5 (M (14 + i) 5)) L (by omega) ((congrArg (fun r => cel np (14 + i) r (L (14 + i))) ((up2_n (by omega)).trans ((up2_n (by omega)).trans ((up2_n (by omega)).trans ((up2_n (by omega)).trans ((up2_n (by omega)).trans ((up2_n (by omega)).trans rfl))))))).trans (cel_trial (by omega) _ _))) rfl rfl rfl ?_
  refine ev_pf (hp' := (mk np (up2 (up2 (up2 (up2 (up2 (up2 (up2 M (5 + i) 0 (M (14 + i) 0)) (5 + i) 1 (M (14 + i) 1)) (5 + i) 2 (M (14 + i) 2)) (5 + i) 3 (M (14 + i) 3)) (5 + i) 4 (M (14 + i) 4)) (5 + i) 5 (M (14 + i) 5)) (5 + i) 6 (M (14 + i) 6)) L)) (rd np (up2 (up2 (up2 (up2 (up2 (up2 M (5 + i) 0 (M (14 + i) 0)) (5 + i) 1 (M (14 + i) 1)) (5 + i) 2 (M (14 + i) 2)) (5 + i) 3 (M (14 + i) 3)) (5 + i) 4 (M (14 + i) 4)) (5 + i) 5 (M (14 + i) 5)) L (by omega) ((congrArg (fun r => cel np (5 + i) r (L (5 + i))) ((up2_s _ _ _ _).trans (congrArg (fun r => upd r 5 (M (14 + i) 5)) ((up2_s _ _ _ _).trans (congrArg (fun r => upd r 4 (M (14 + i) 4)) ((up2_s _ _ _ _).trans (congrArg (fun r => upd r 3 (M (14 + i) 3)) ((up2_s _ _ _ _).trans (congrArg (fun r => upd r 2 (M (14 + i) 2)) ((up2_s _ _ _ _).trans (congrArg (fun r => upd r 1 (M (14 + i) 1)) ((up2_s _ _ _ _).trans (congrArg (fun r => upd r 0 (M (14 + i) 0)) rfl))))))))))))).trans (cel_best (by omega) _ _))) rfl rfl (by simp) rfl rfl (mk_setr ((up2_s _ _ _ _).trans (congrArg (fun r => upd r 5 (M (14 + i) 5)) ((up2_s _ _ _ _).trans (congrArg (fun r => upd r 4 (M (14 + i) 4)) ((up2_s _ _ _ _).trans (congrArg (fun r => upd r 3 (M (14 + i) 3)) ((up2_s _ _ _ _).trans (congrArg (fun r => upd r 2 (M (14 + i) 2)) ((up2_s _ _ _ _).trans (congrArg (fun r => upd r 1 (M (14 + i) 1)) ((up2_s _ _ _ _).trans (congrArg (fun r => upd r 0 (M (14 + i) 0)) rfl)))))))))))) (cel_best (by omega) _ _) rfl) ?_
  iterate 2 refine ev_s rfl ?_
  refine ev_gf (rd np (up2 (up2 (up2 (up2 (up2 (up2 (up2 M (5 + i) 0 (M (14 + i) 0)) (5 + i) 1 (M (14 + i) 1)) (5 + i) 2 (M (14 + i) 2)) (5 + i) 3 (M (14 + i) 3)) (5 + i) 4 (M (14 + i) 4)) (5 + i) 5 (M (14 + i) 5)) (5 + i) 6 (M (14 + i) 6)) L (by omega) ((congrArg (fun r => cel np (14 + i) r (L (14 + i))) ((up2_n (by omega)).trans ((up2_n (by omega)).trans ((up2_n (by omega)).trans ((up2_n (by omega)).trans ((up2_n (by omega)).trans ((up2_n (by omega)).trans ((up2_n (by omega)).trans rfl)))))))).trans (cel_trial (by omega) _ _))) rfl rfl rfl ?_
  refine ev_pf (hp' := (mk np (up2 (up2 (up2 (up2 (up2 (up2 (up2 (up2 M (5 + i) 0 (M (14 + i) 0)) (5 + i) 1 (M (14 + i) 1)) (5 + i) 2 (M (14 + i) 2)) (5 + i) 3 (M (14 + i) 3)) (5 + i) 4 (M (14 + i) 4)) (5 + i) 5 (M (14 + i) 5)) (5 + i) 6 (M (14 + i) 6)) (5 + i) 7 (M (14 + i) 7)) L)) (rd np (up2 (up2 (up2 (up2 (up2 (up2 (up2 M (5 + i) 0 (M (14 + i) 0)) (5 + i) 1 (M (14 + i) 1)) (5 + i) 2 (M (14 + i) 2)) (5 + i) 3 (M (14 + i) 3)) (5 + i) 4 (M (14 + i) 4)) (5 + i) 5 (M (14 + i) 5)) (5 + i) 6 (M (14 + i) 6)) L (by omega) ((congrArg (fun r => cel np (5 + i) r (L (5 + i))) ((up2_s _ _ _ _).trans (congrArg (fun r => upd r 6 (M (14 + i) 6)) ((up2_s _ _ _ _).trans (congrArg (fun r => upd r 5 (M (14 + i) 5)) ((up2_s _ _ _ _).trans (congrArg (fun r => upd r 4 (M (14 + i) 4)) ((up2_s _ _ _ _).trans (congrArg (fun r => upd r 3 (M (14 + i) 3)) ((up2_s _ _ _ _).trans (congrArg (fun r => upd r 2 (M (14 + i) 2)) ((up2_s _ _ _ _).trans (congrArg (fun r => upd r 1 (M (14 + i) 1)) ((up2_s _ _ _ _).trans (congrArg (fun r => upd r 0 (M (14 + i) 0)) rfl))))))))))))))).trans (cel_best (by omega) _ _))) rfl rfl (by simp) rfl rfl (mk_setr ((up2_s _ _ _ _).trans (congrArg (fun r => upd r 6 (M (14 + i) 6)) ((up2_s _ _ _ _).trans (congrArg (fun r => upd r 5 (M (14 + i) 5)) ((up2_s _ _ _ _).trans (congrArg (fun r => upd r 4 (M (14 + i) 4)) ((up2_s _ _ _ _).trans (congrArg (fun r => upd r 3 (M (14 + i) 3)) ((up2_s _ _ _ _).trans (congrArg (fun r => upd r 2 (M (14 + i) 2)) ((up2_s _ _ _ _).trans (congrArg (fun r => upd r 1 (M (14 + i) 1)) ((up2_s _ _ _ _).trans (congrArg (fun r => upd r 0 (M (14 + i) 0)) rfl)))))))))))))) (cel_best (by omega) _ _) rfl) ?_
  iterate 2 refine ev_s rfl ?_
  refine ev_gf (rd np (up2 (up2 (up2 (up2 (up2 (up2 (up2 (up2 M (5 + i) 0 (M (14 + i) 0)) (5 + i) 1 (M (14 + i) 1)) (5 + i) 2 (M (14 + i) 2)) (5 + i) 3 (M (14 + i) 3)) (5 + i) 4 (M (14 + i) 4)) (5 + i) 5 (M (14 + i) 5)) (5 + i) 6 (M (14 + i) 6)) (5 + i) 7 (M (14 + i) 7)) L (by omega) ((congrArg (fun r => cel np (14 + i) r (L (14 + i))) ((up2_n (by omega)).trans ((up2_n (by omega)).trans ((up2_n (by omega)).trans ((up2_n (by omega)).trans ((up2_n (by omega)).trans ((up2_n (by omega)).trans ((up2_n (by omega)).trans ((up2_n (by omega)).trans rfl))))))))).trans (cel_trial (by omega) _ _))) rfl rfl rfl ?_
  refine ev_s rfl ?_
  refine ev_gf (rd np (up2 (up2 (up2 (up2 (up2 (up2 (up2 (up2 M (5 + i) 0 (M (14 + i) 0)) (5 + i) 1 (M (14 + i) 1)) (5 + i) 2 (M (14 + i) 2)) (5 + i) 3 (M (14 + i) 3)) (5 + i) 4 (M (14 + i) 4)) (5 + i) 5 (M (14 + i) 5)) (5 + i) 6 (M (14 + i) 6)) (5 + i) 7 (M (14 + i) 7)) L (by omega) ((congrArg (fun r => cel np (14 + i) r (L (14 + i))) ((up2_n (by omega)).trans ((up2_n (by omega)).trans ((up2_n (by omega)).trans ((up2_n (by omega)).trans ((up2_n (by omega)).trans ((up2_n (by omega)).trans ((up2_n (by omega)).trans ((up2_n (by omega)).trans rfl))))))))).trans (cel_trial (by omega) _ _))) rfl rfl rfl ?_
  refine ev_s rfl ?_
  refine ev_gf (rd np (up2 (up2 (up2 (up2 (up2 (up2 (up2 (up2 M (5 + i) 0 (M (14 + i) 0)) (5 + i) 1 (M (14 + i) 1)) (5 + i) 2 (M (14 + i) 2)) (5 + i) 3 (M (14 + i) 3)) (5 + i) 4 (M (14 + i) 4)) (5 + i) 5 (M (14 + i) 5)) (5 + i) 6 (M (14 + i) 6)) (5 + i) 7 (M (14 + i) 7)) L (by omega) ((congrArg (fun r => cel np (14 + i) r (L (14 + i))) ((up2_n (by omega)).trans ((up2_n (by omega)).trans ((up2_n (by omega)).trans ((up2_n (by omega)).trans ((up2_n (by omega)).trans ((up2_n (by omega)).trans ((up2_n (by omega)).trans ((up2_n (by omega)).trans rfl))))))))).trans (cel_trial (by omega) _ _))) rfl rfl rfl ?_
  refine ev_cv (vs := [(.ref (5 + i)), (.int (M (14 + i) 8)), (.int (M (14 + i) 9)), (.int (M (14 + i) 10))]) (rest := []) (rv := none) rfl rfl rfl (rd np (up2 (up2 (up2 (up2 (up2 (up2 (up2 (up2 M (5 + i) 0 (M (14 + i) 0)) (5 + i) 1 (M (14 + i) 1)) (5 + i) 2 (M (14 + i) 2)) (5 + i) 3 (M (14 + i) 3)) (5 + i) 4 (M (14 + i) 4)) (5 + i) 5 (M (14 + i) 5)) (5 + i) 6 (M (14 + i) 6)) (5 + i) 7 (M (14 + i) 7)) L (by omega) ((congrArg (fun r => cel np (5 + i) r (L (5 + i))) ((up2_s _ _ _ _).trans (congrArg (fun r => upd r 7 (M (14 + i) 7)) ((up2_s _ _ _ _).trans (congrArg (fun r => upd r 6 (M (14 + i) 6)) ((up2_s _ _ _ _).trans (congrArg (fun r => upd r 5 (M (14 + i) 5)) ((up2_s _ _ _ _).trans (congrArg (fun r => upd r 4 (M (14 + i) 4)) ((up2_s _ _ _ _).trans (congrArg (fun r => upd r 3 (M (14 + i) 3)) ((up2_s _ _ _ _).trans (congrArg (fun r => upd r 2 (M (14 + i) 2)) ((up2_s _ _ _ _).trans (congrArg (fun r => upd r 1 (M (14 + i) 1)) ((up2_s _ _ _ _).trans (congrArg (fun r => upd r 0 (M (14 + i) 0)) rfl))))))))))))))))).trans (cel_best (by omega) _ _))) rfl rfl rfl rfl (rn_moveTo_b hi _) ?_
  show Ev _ _ 80 _ [] _ _
  refine ev_rv rfl rfl ?_ ?_
  · rfl
  · rfl
theorem tW_c {f g : Nat → Int32} (h0 : f 0 = g 0) (h1 : f 1 = g 1) (h2 : f 2 = g 2) (t : Nat) : tW f t = tW g t ∧ tH f t = tH g t ∧ tD f t = tD g t := by
  refine ⟨?_, ?_, ?_⟩
  · unfold tW; split <;> assumption
  · unfold tH; split <;> assumption
  · unfold tD; split <;> assumption
theorem cMk_c {f g : Nat → Int32} (h0 : f 0 = g 0) (h1 : f 1 = g 1) (h2 : f 2 = g 2) (t : Nat) : cMk f t = cMk g t := by
  unfold cMk smT
  congr 1
  funext b
  rw [(tW_c h0 h1 h2 b).1, (tW_c h0 h1 h2 b).2.1, (tW_c h0 h1 h2 b).2.2, (tW_c h0 h1 h2 t).1, (tW_c h0 h1 h2 t).2.1, (tW_c h0 h1 h2 t).2.2]
/-- the bits of the turns below t that make no turn before them -/
noncomputable def tbl (f : Nat → Int32) : Nat → Int32
  | 0 => 0
  | t + 1 => @ite _ (cMk f t) (Classical.propDecidable _) (tbl f t) (tbl f t ||| ((1 : Int32) <<< (nI t &&& 31)))
def tmo (x : Int32) : Nat := if x = 0 then 1 else if x = 1 then 2 else 6
noncomputable def smM (M : Nat → Nat → Int32) (h : Nat) (x : Int32) (b : Int32) : Nat → Nat → Int32 := up2 (up2 M h 4 x) h 7 b
theorem smM_s (M : Nat → Nat → Int32) (h : Nat) (x b : Int32) : smM M h x b h = upd (upd (M h) 4 x) 7 b := by unfold smM; rw [up2_s, up2_s]
theorem smM_up (M : Nat → Nat → Int32) (h : Nat) (x b v : Int32) : up2 (smM M h x b) h 7 v = smM M h x v := up2_up2 _ _ _ _ _
theorem mk_sm {np : Nat} {M : Nat → Nat → Int32} {L : Nat → Int64} {k : Nat} {x b v : Int32} {c : va_E} (hc : c = kcl (upd (upd (upd (M (57 + k)) 4 x) 7 b) 7 v)) : (mk np (smM M (57 + k) x b) L).set (57 + k) c = mk np (smM M (57 + k) x v) L := by
  rw [mk_setr (k := 7) (v := v) (smM_s M (57 + k) x b) (cel_piece _ _) hc, smM_up]
set_option maxHeartbeats 4000000 in
theorem lp_sm {np : Nat} {M : Nat → Nat → Int32} {L : Nat → Int64} {k : Nat} (hk : k < np) {x : Int32} {n : Nat} (hn : n ≤ 6) (d : Nat) : ∀ j t, t + j = n → Ev (d + 2) mX1_setMark 32 [some (.ref (57 + k)), some (.int x), some (.int (nI n)), some (.int (nI t))] [] (mk np (smM M (57 + k) x (tbl (M (57 + k)) t)) L) (Qr mX1_setMark none (mk np (smM M (57 + k) x (tbl (M (57 + k)) n)) L)) := by
  intro j
  induction j with
  | zero =>
    intro t ht
    obtain rfl : t = n := by omega
    iterate 2 refine ev_s rfl ?_
    refine ev_ic rfl rfl ?_
    rw [show zbr .ge (nI t) (nI t) 63 37 = 63 from zge_t (n := t) rfl (by omega) (by omega)]
    refine ev_rv rfl rfl ?_ ?_
    · rfl
    · rfl
  | succ j ih =>
    intro t ht
    have htn : t < n := by omega
    iterate 2 refine ev_s rfl ?_
    refine ev_ic rfl rfl ?_
    rw [show zbr .ge (nI t) (nI n) 63 37 = 37 from zge_f (n := n) rfl htn (by omega)]
    iterate 2 refine ev_s rfl ?_
    refine ev_cv (vs := [(.ref (57 + k)), (.int (nI t))]) (rest := []) (rv := (some (.int (zi (cMk (upd (upd (M (57 + k)) 4 x) 7 (tbl (M (57 + k)) t)) t))))) rfl rfl rfl (rd np (smM M (57 + k) x (tbl (M (57 + k)) t)) L (by omega) ((congrArg (fun r => cel np (57 + k) r (L (57 + k))) (smM_s _ _ _ _)).trans (cel_piece _ _))) rfl rfl rfl rfl (rn_mk (f := upd (upd (M (57 + k)) 4 x) 7 (tbl (M (57 + k)) t)) (rd np (smM M (57 + k) x (tbl (M (57 + k)) t)) L (by omega) ((congrArg (fun r => cel np (57 + k) r (L (57 + k))) (smM_s _ _ _ _)).trans (cel_piece _ _))) (t := t) (by omega) _) ?_
    show Ev _ _ 42 _ [(.int (zi (cMk (upd (upd (M (57 + k)) 4 x) 7 (tbl (M (57 + k)) t)) t)))] _ _
    refine ev_if rfl rfl (ev_bzn (fun c1 => ?_) (fun c1 => ?_))
    · show Ev _ _ 57 _ _ _ _
      refine ev_inc (y := 1) (v := nI (t + 1)) (ls' := [some (.ref (57 + k)), some (.int x), some (.int (nI n)), some (.int (nI (t + 1)))]) rfl rfl (by decide) (nI_1 _) rfl ?_
      refine ev_s rfl ?_
      rw [cMk_c (f := upd (upd (M (57 + k)) 4 x) 7 (tbl (M (57 + k)) t)) (g := M (57 + k)) rfl rfl rfl t] at c1
      have e9 := ih (t + 1) (by omega)
      simp only [tbl, if_pos c1] at e9
      exact e9
    · show Ev _ _ 45 _ _ _ _
      iterate 2 refine ev_s rfl ?_
      refine ev_gf (rd np (smM M (57 + k) x (tbl (M (57 + k)) t)) L (by omega) ((congrArg (fun r => cel np (57 + k) r (L (57 + k))) (smM_s _ _ _ _)).trans (cel_piece _ _))) rfl rfl rfl ?_
      refine ev_ik (v := 1) rfl (by decide) ?_
      iterate 3 refine ev_s rfl ?_
      refine ev_pf (hp' := (mk np (smM M (57 + k) x ((tbl (M (57 + k)) t) ||| (1 <<< ((nI t) &&& 31)))) L)) (rd np (smM M (57 + k) x (tbl (M (57 + k)) t)) L (by omega) ((congrArg (fun r => cel np (57 + k) r (L (57 + k))) (smM_s _ _ _ _)).trans (cel_piece _ _))) rfl rfl (by simp) rfl rfl (mk_sm rfl) ?_
      refine ev_inc (y := 1) (v := nI (t + 1)) (ls' := [some (.ref (57 + k)), some (.int x), some (.int (nI n)), some (.int (nI (t + 1)))]) rfl rfl (by decide) (nI_1 _) rfl ?_
      refine ev_s rfl ?_
      rw [cMk_c (f := upd (upd (M (57 + k)) 4 x) 7 (tbl (M (57 + k)) t)) (g := M (57 + k)) rfl rfl rfl t] at c1
      have e9 := ih (t + 1) (by omega)
      simp only [tbl, if_neg c1] at e9
      exact e9
set_option maxHeartbeats 4000000 in
theorem rn_setMark {np : Nat} {M : Nat → Nat → Int32} {L : Nat → Int64} {k : Nat} (hk : k < np) {x : Int32} (d : Nat) : Rn (d + 2) mX1_setMark [.ref (57 + k), .int x] (mk np M L) none (mk np (smM M (57 + k) x (tbl (M (57 + k)) (tmo x))) L) := by
  unfold Rn
  iterate 2 refine ev_s rfl ?_
  refine ev_pf (hp' := (mk np (up2 M (57 + k) 4 x) L)) (rd np M L (by omega) (cel_piece _ _)) rfl rfl (by simp) rfl rfl (mk_setr rfl (cel_piece _ _) rfl) ?_
  refine ev_s rfl ?_
  refine ev_if rfl rfl (ev_bn (fun c1 => ?_) (fun c1 => ?_))
  · show Ev _ _ 13 _ _ _ _
    refine ev_s rfl ?_
    refine ev_ik (v := 1) rfl (by decide) ?_
    refine ev_ic rfl rfl (ev_bn (fun c2 => ?_) (fun c2 => ?_))
    · show Ev _ _ 22 _ _ _ _
      refine ev_bi (v := 6) rfl (by decide) ?_
      refine ev_s (ls' := [some (.ref (57 + k)), some (.int x), some (.int 6), none]) rfl ?_
      refine ev_s rfl ?_
      refine ev_ik (v := 0) rfl (by decide) ?_
      refine ev_pf (hp' := (mk np (up2 (up2 M (57 + k) 4 x) (57 + k) 7 0) L)) (rd np (up2 M (57 + k) 4 x) L (by omega) ((congrArg (fun r => cel np (57 + k) r (L (57 + k))) ((up2_s _ _ _ _).trans (congrArg (fun r => upd r 4 x) rfl))).trans (cel_piece _ _))) rfl rfl (by simp) rfl rfl (mk_setr ((up2_s _ _ _ _).trans (congrArg (fun r => upd r 4 x) rfl)) (cel_piece _ _) rfl) ?_
      refine ev_ik (v := 0) rfl (by decide) ?_
      refine ev_s (ls' := [some (.ref (57 + k)), some (.int x), some (.int 6), some (.int 0)]) rfl ?_
      rw [show tmo x = 6 from by simp [tmo, c1, c2]]
      exact lp_sm hk (n := 6) (by omega) d 6 0 (by omega)
    · show Ev _ _ 18 _ _ _ _
      refine ev_ik (v := 2) rfl (by decide) ?_
      refine ev_s rfl ?_
      refine ev_s (ls' := [some (.ref (57 + k)), some (.int x), some (.int 2), none]) rfl ?_
      refine ev_s rfl ?_
      refine ev_ik (v := 0) rfl (by decide) ?_
      refine ev_pf (hp' := (mk np (up2 (up2 M (57 + k) 4 x) (57 + k) 7 0) L)) (rd np (up2 M (57 + k) 4 x) L (by omega) ((congrArg (fun r => cel np (57 + k) r (L (57 + k))) ((up2_s _ _ _ _).trans (congrArg (fun r => upd r 4 x) rfl))).trans (cel_piece _ _))) rfl rfl (by simp) rfl rfl (mk_setr ((up2_s _ _ _ _).trans (congrArg (fun r => upd r 4 x) rfl)) (cel_piece _ _) rfl) ?_
      refine ev_ik (v := 0) rfl (by decide) ?_
      refine ev_s (ls' := [some (.ref (57 + k)), some (.int x), some (.int 2), some (.int 0)]) rfl ?_
      rw [show tmo x = 2 from by simp [tmo, c1, c2]]
      exact lp_sm hk (n := 2) (by omega) d 2 0 (by omega)
  · show Ev _ _ 9 _ _ _ _
    refine ev_ik (v := 1) rfl (by decide) ?_
    refine ev_s rfl ?_
    refine ev_s (ls' := [some (.ref (57 + k)), some (.int x), some (.int 1), none]) rfl ?_
    refine ev_s rfl ?_
    refine ev_ik (v := 0) rfl (by decide) ?_
    refine ev_pf (hp' := (mk np (up2 (up2 M (57 + k) 4 x) (57 + k) 7 0) L)) (rd np (up2 M (57 + k) 4 x) L (by omega) ((congrArg (fun r => cel np (57 + k) r (L (57 + k))) ((up2_s _ _ _ _).trans (congrArg (fun r => upd r 4 x) rfl))).trans (cel_piece _ _))) rfl rfl (by simp) rfl rfl (mk_setr ((up2_s _ _ _ _).trans (congrArg (fun r => upd r 4 x) rfl)) (cel_piece _ _) rfl) ?_
    refine ev_ik (v := 0) rfl (by decide) ?_
    refine ev_s (ls' := [some (.ref (57 + k)), some (.int x), some (.int 1), some (.int 0)]) rfl ?_
    rw [show tmo x = 1 from by simp [tmo, c1]]
    exact lp_sm hk (n := 1) (by omega) d 1 0 (by omega)
end
section
/-! ===== Packing ===== -/
def csum (g : Nat → Int32) : Nat → Int32
  | 0 => 0
  | n + 1 => csum g n + g n
def gCell (M : Nat → Nat → Int32) (b i : Nat) : Int32 := if M (b + i) 0 = 0 then 0 else M (b + i) 5 * M (b + i) 6 * M (b + i) 7
def gWeight (M : Nat → Nat → Int32) (b i : Nat) : Int32 := if M (b + i) 0 = 0 then 0 else M (b + i) 1
def gWY (M : Nat → Nat → Int32) (b i : Nat) : Int32 := if M (b + i) 0 = 0 then 0 else M (b + i) 1 * M (b + i) 9
def gFar (M : Nat → Nat → Int32) (b i : Nat) : Int32 := if M (b + i) 0 = 0 then 0 else M (b + i) 1 * (2 * M (b + i) 10 + M (b + i) 7)
noncomputable def gAb (M : Nat → Nat → Int32) (b j i : Nat) : Int32 := if M (b + i) 0 = 0 then 0 else @ite _ (cAb (M (b + j)) (M (b + i))) (Classical.propDecidable _) (M (b + i) 1) 0
noncomputable def wAb (M : Nat → Nat → Int32) (b j : Nat) : Int32 := csum (gAb M b j) 6
def badL (M : Nat → Nat → Int32) (b j i : Nat) : Prop := ¬ M (b + i) 0 = 0 ∧ ¬ M (b + i) 2 = -1 ∧ cAb (M (b + i)) (M (b + j)) ∧ ¬ wAb M b i + M (b + j) 1 ≤ M (b + i) 2
def badO (M : Nat → Nat → Int32) (b j i : Nat) : Prop := ¬ M (b + i) 0 = 0 ∧ (¬ M (b + j) 3 ≤ M (b + i) 3 ∧ cFr (M (b + i)) (M (b + j)) ∨ ¬ M (b + i) 3 ≤ M (b + j) 3 ∧ cFr (M (b + j)) (M (b + i)))
def badP (M : Nat → Nat → Int32) (b j i : Nat) : Prop := ¬ M (b + i) 0 = 0 ∧ (cAb (M (b + j)) (M (b + i)) ∨ cFr (M (b + j)) (M (b + i)))
def opn (M : Nat → Nat → Int32) (b j : Nat) : Prop := ∀ i, i < 6 → ¬ badP M b j i
noncomputable def upS (M : Nat → Nat → Int32) (x z : Int32) : Nat → Int32 × Int32
  | 0 => (0, -1)
  | i + 1 => @ite _ (¬ M (5 + i) 0 = 0 ∧ cOver (M (5 + i)) x z ∧ ¬ M (5 + i) 9 ≤ (upS M x z i).2) (Classical.propDecidable _) (nI i + 1, M (5 + i) 9) (upS M x z i)
noncomputable def tkS (M : Nat → Nat → Int32) (s : Int32) : Nat → Int32 × (Nat → Nat → Int32)
  | 0 => (0, M)
  | i + 1 => @ite _ (¬ (tkS M s i).2 (5 + i) 0 = 0 ∧ (tkS M s i).2 (5 + i) 3 = s ∧ opn (tkS M s i).2 5 i) (Classical.propDecidable _) ((tkS M s i).1 + 1, up2 (tkS M s i).2 (5 + i) 0 0) (tkS M s i)
def emM (M : Nat → Nat → Int32) : Nat → Nat → Nat → Int32
  | 0 => M
  | i + 1 => up2 (emM M i) (5 + i) 0 0
def cyM (M : Nat → Nat → Int32) : Nat → Nat → Nat → Int32
  | 0 => M
  | i + 1 => cpM (cyM M i) (5 + i) (14 + i)
theorem cpM_n {M : Nat → Nat → Int32} {h q j : Nat} (hn : j ≠ h) : cpM M h q j = M j := by
  unfold cpM mvM
  simp only [up2_n hn]
theorem cyM_n {M : Nat → Nat → Int32} {j : Nat} (hj : j < 5 ∨ 11 ≤ j) : ∀ i, i ≤ 6 → cyM M i j = M j
  | 0, _ => rfl
  | i + 1, h => by
    unfold cyM
    rw [cpM_n (by omega)]
    exact cyM_n hj i (by omega)

set_option maxHeartbeats 4000000 in
theorem lp_cells_b {np : Nat} {M : Nat → Nat → Int32} {L : Nat → Int64}  (d : Nat) : ∀ k i, i + k = 6 → Ev (d + 1) mX0_cells 4 [some (.ref 3), some (.int (csum (gCell M 5) i)), some (.int (nI i))] [] (mk np M L) (Qr mX0_cells (some (.int (csum (gCell M 5) 6))) (mk np M L)) := by
  intro k
  induction k with
  | zero =>
    intro i hik 
    obtain rfl : i = 6 := by omega
    iterate 2 refine ev_s rfl ?_
    refine ev_gf (rd np M L (by omega) rfl) rfl rfl rfl ?_
    refine ev_al (v := 6) (rd np M L (by omega) rfl) rfl rfl (by decide) ?_
    refine ev_ic rfl rfl ?_
    rw [show zbr .ge (nI 6) 6 47 13 = 47 from zge_t (n := 6) (by decide) (by omega) (by decide)]
    refine ev_s rfl ?_
    refine ev_ri rfl rfl ?_ ?_
    · rfl
    · rfl
  | succ k ih =>
    intro i hik 
    have hi : i < 6 := by omega
    iterate 2 refine ev_s rfl ?_
    refine ev_gf (rd np M L (by omega) rfl) rfl rfl rfl ?_
    refine ev_al (v := 6) (rd np M L (by omega) rfl) rfl rfl (by decide) ?_
    refine ev_ic rfl rfl ?_
    rw [show zbr .ge (nI i) 6 47 13 = 13 from zge_f (n := 6) (by decide) hi (by decide)]
    iterate 2 refine ev_s rfl ?_
    refine ev_gf (rd np M L (by omega) rfl) rfl rfl rfl ?_
    refine ev_s rfl ?_
    refine ev_aa (v := (.ref (5 + i))) (rd np M L (by omega) rfl) rfl rfl (zin_nI (by omega) (by decide)) (by rw [if_pos (by omega)]; rfl) ?_
    refine ev_gf (rd np M L (by omega) (cel_best (by omega) _ _)) rfl rfl rfl ?_
    refine ev_if rfl rfl (ev_br (zb_eq _ _ _ _) (fun c1 => ?_) (fun c1 => ?_))
    · show Ev _ _ 38 _ _ _ _
      refine ev_ik (v := 0) rfl (by decide) ?_
      refine ev_s rfl ?_
      refine ev_s (ls' := [some (.ref 3), some (.int ((csum (gCell M 5) i) + 0)), some (.int (nI i))]) rfl ?_
      refine ev_inc (y := 1) (v := nI (i + 1)) (ls' := [some (.ref 3), some (.int ((csum (gCell M 5) i) + 0)), some (.int (nI (i + 1)))]) rfl rfl (by decide) (nI_1 _) rfl ?_
      refine ev_s rfl ?_
      have e9 := ih (i + 1) (by omega)
      simp only [csum, gCell, if_pos c1] at e9
      exact e9
    · show Ev _ _ 26 _ _ _ _
      refine ev_s rfl ?_
      refine ev_gf (rd np M L (by omega) rfl) rfl rfl rfl ?_
      refine ev_s rfl ?_
      refine ev_aa (v := (.ref (5 + i))) (rd np M L (by omega) rfl) rfl rfl (zin_nI (by omega) (by decide)) (by rw [if_pos (by omega)]; rfl) ?_
      refine ev_cv (vs := [(.ref (5 + i))]) (rest := [(.int (csum (gCell M 5) i))]) (rv := (some (.int (M (5 + i) 5 * M (5 + i) 6 * M (5 + i) 7)))) rfl rfl rfl (rd np M L (by omega) (cel_best (by omega) _ _)) rfl rfl rfl rfl (rn_pcells (f := M (5 + i)) (rd np M L (by omega) (cel_best (by omega) _ _)) _) ?_
      show Ev _ _ 35 _ [(.int (M (5 + i) 5 * M (5 + i) 6 * M (5 + i) 7)), (.int (csum (gCell M 5) i))] _ _
      iterate 2 refine ev_s rfl ?_
      refine ev_s (ls' := [some (.ref 3), some (.int ((csum (gCell M 5) i) + (M (5 + i) 5 * M (5 + i) 6 * M (5 + i) 7))), some (.int (nI i))]) rfl ?_
      refine ev_inc (y := 1) (v := nI (i + 1)) (ls' := [some (.ref 3), some (.int ((csum (gCell M 5) i) + (M (5 + i) 5 * M (5 + i) 6 * M (5 + i) 7))), some (.int (nI (i + 1)))]) rfl rfl (by decide) (nI_1 _) rfl ?_
      refine ev_s rfl ?_
      have e9 := ih (i + 1) (by omega)
      simp only [csum, gCell, if_neg c1] at e9
      exact e9
set_option maxHeartbeats 4000000 in
theorem rn_cells_b {np : Nat} {M : Nat → Nat → Int32} {L : Nat → Int64}  (d : Nat) : Rn (d + 1) mX0_cells [(.ref 3)] (mk np M L) (some (.int (csum (gCell M 5) 6))) (mk np M L) := by
  unfold Rn
  refine ev_ik (v := 0) rfl (by decide) ?_
  refine ev_s (ls' := [some (.ref 3), some (.int 0), none]) rfl ?_
  refine ev_ik (v := 0) rfl (by decide) ?_
  refine ev_s (ls' := [some (.ref 3), some (.int 0), some (.int 0)]) rfl ?_
  exact lp_cells_b d 6 0 (by omega)
set_option maxHeartbeats 4000000 in
theorem lp_cells_t {np : Nat} {M : Nat → Nat → Int32} {L : Nat → Int64}  (d : Nat) : ∀ k i, i + k = 6 → Ev (d + 1) mX0_cells 4 [some (.ref 12), some (.int (csum (gCell M 14) i)), some (.int (nI i))] [] (mk np M L) (Qr mX0_cells (some (.int (csum (gCell M 14) 6))) (mk np M L)) := by
  intro k
  induction k with
  | zero =>
    intro i hik 
    obtain rfl : i = 6 := by omega
    iterate 2 refine ev_s rfl ?_
    refine ev_gf (rd np M L (by omega) rfl) rfl rfl rfl ?_
    refine ev_al (v := 6) (rd np M L (by omega) rfl) rfl rfl (by decide) ?_
    refine ev_ic rfl rfl ?_
    rw [show zbr .ge (nI 6) 6 47 13 = 47 from zge_t (n := 6) (by decide) (by omega) (by decide)]
    refine ev_s rfl ?_
    refine ev_ri rfl rfl ?_ ?_
    · rfl
    · rfl
  | succ k ih =>
    intro i hik 
    have hi : i < 6 := by omega
    iterate 2 refine ev_s rfl ?_
    refine ev_gf (rd np M L (by omega) rfl) rfl rfl rfl ?_
    refine ev_al (v := 6) (rd np M L (by omega) rfl) rfl rfl (by decide) ?_
    refine ev_ic rfl rfl ?_
    rw [show zbr .ge (nI i) 6 47 13 = 13 from zge_f (n := 6) (by decide) hi (by decide)]
    iterate 2 refine ev_s rfl ?_
    refine ev_gf (rd np M L (by omega) rfl) rfl rfl rfl ?_
    refine ev_s rfl ?_
    refine ev_aa (v := (.ref (14 + i))) (rd np M L (by omega) rfl) rfl rfl (zin_nI (by omega) (by decide)) (by rw [if_pos (by omega)]; rfl) ?_
    refine ev_gf (rd np M L (by omega) (cel_trial (by omega) _ _)) rfl rfl rfl ?_
    refine ev_if rfl rfl (ev_br (zb_eq _ _ _ _) (fun c1 => ?_) (fun c1 => ?_))
    · show Ev _ _ 38 _ _ _ _
      refine ev_ik (v := 0) rfl (by decide) ?_
      refine ev_s rfl ?_
      refine ev_s (ls' := [some (.ref 12), some (.int ((csum (gCell M 14) i) + 0)), some (.int (nI i))]) rfl ?_
      refine ev_inc (y := 1) (v := nI (i + 1)) (ls' := [some (.ref 12), some (.int ((csum (gCell M 14) i) + 0)), some (.int (nI (i + 1)))]) rfl rfl (by decide) (nI_1 _) rfl ?_
      refine ev_s rfl ?_
      have e9 := ih (i + 1) (by omega)
      simp only [csum, gCell, if_pos c1] at e9
      exact e9
    · show Ev _ _ 26 _ _ _ _
      refine ev_s rfl ?_
      refine ev_gf (rd np M L (by omega) rfl) rfl rfl rfl ?_
      refine ev_s rfl ?_
      refine ev_aa (v := (.ref (14 + i))) (rd np M L (by omega) rfl) rfl rfl (zin_nI (by omega) (by decide)) (by rw [if_pos (by omega)]; rfl) ?_
      refine ev_cv (vs := [(.ref (14 + i))]) (rest := [(.int (csum (gCell M 14) i))]) (rv := (some (.int (M (14 + i) 5 * M (14 + i) 6 * M (14 + i) 7)))) rfl rfl rfl (rd np M L (by omega) (cel_trial (by omega) _ _)) rfl rfl rfl rfl (rn_pcells (f := M (14 + i)) (rd np M L (by omega) (cel_trial (by omega) _ _)) _) ?_
      show Ev _ _ 35 _ [(.int (M (14 + i) 5 * M (14 + i) 6 * M (14 + i) 7)), (.int (csum (gCell M 14) i))] _ _
      iterate 2 refine ev_s rfl ?_
      refine ev_s (ls' := [some (.ref 12), some (.int ((csum (gCell M 14) i) + (M (14 + i) 5 * M (14 + i) 6 * M (14 + i) 7))), some (.int (nI i))]) rfl ?_
      refine ev_inc (y := 1) (v := nI (i + 1)) (ls' := [some (.ref 12), some (.int ((csum (gCell M 14) i) + (M (14 + i) 5 * M (14 + i) 6 * M (14 + i) 7))), some (.int (nI (i + 1)))]) rfl rfl (by decide) (nI_1 _) rfl ?_
      refine ev_s rfl ?_
      have e9 := ih (i + 1) (by omega)
      simp only [csum, gCell, if_neg c1] at e9
      exact e9
set_option maxHeartbeats 4000000 in
theorem rn_cells_t {np : Nat} {M : Nat → Nat → Int32} {L : Nat → Int64}  (d : Nat) : Rn (d + 1) mX0_cells [(.ref 12)] (mk np M L) (some (.int (csum (gCell M 14) 6))) (mk np M L) := by
  unfold Rn
  refine ev_ik (v := 0) rfl (by decide) ?_
  refine ev_s (ls' := [some (.ref 12), some (.int 0), none]) rfl ?_
  refine ev_ik (v := 0) rfl (by decide) ?_
  refine ev_s (ls' := [some (.ref 12), some (.int 0), some (.int 0)]) rfl ?_
  exact lp_cells_t d 6 0 (by omega)
set_option maxHeartbeats 4000000 in
theorem lp_weight {np : Nat} {M : Nat → Nat → Int32} {L : Nat → Int64}  (d : Nat) : ∀ k i, i + k = 6 → Ev (d) mX0_weight 4 [some (.ref 3), some (.int (csum (gWeight M 5) i)), some (.int (nI i))] [] (mk np M L) (Qr mX0_weight (some (.int (csum (gWeight M 5) 6))) (mk np M L)) := by
  intro k
  induction k with
  | zero =>
    intro i hik 
    obtain rfl : i = 6 := by omega
    iterate 2 refine ev_s rfl ?_
    refine ev_gf (rd np M L (by omega) rfl) rfl rfl rfl ?_
    refine ev_al (v := 6) (rd np M L (by omega) rfl) rfl rfl (by decide) ?_
    refine ev_ic rfl rfl ?_
    rw [show zbr .ge (nI 6) 6 47 13 = 47 from zge_t (n := 6) (by decide) (by omega) (by decide)]
    refine ev_s rfl ?_
    refine ev_ri rfl rfl ?_ ?_
    · rfl
    · rfl
  | succ k ih =>
    intro i hik 
    have hi : i < 6 := by omega
    iterate 2 refine ev_s rfl ?_
    refine ev_gf (rd np M L (by omega) rfl) rfl rfl rfl ?_
    refine ev_al (v := 6) (rd np M L (by omega) rfl) rfl rfl (by decide) ?_
    refine ev_ic rfl rfl ?_
    rw [show zbr .ge (nI i) 6 47 13 = 13 from zge_f (n := 6) (by decide) hi (by decide)]
    iterate 2 refine ev_s rfl ?_
    refine ev_gf (rd np M L (by omega) rfl) rfl rfl rfl ?_
    refine ev_s rfl ?_
    refine ev_aa (v := (.ref (5 + i))) (rd np M L (by omega) rfl) rfl rfl (zin_nI (by omega) (by decide)) (by rw [if_pos (by omega)]; rfl) ?_
    refine ev_gf (rd np M L (by omega) (cel_best (by omega) _ _)) rfl rfl rfl ?_
    refine ev_if rfl rfl (ev_br (zb_eq _ _ _ _) (fun c1 => ?_) (fun c1 => ?_))
    · show Ev _ _ 38 _ _ _ _
      refine ev_ik (v := 0) rfl (by decide) ?_
      refine ev_s rfl ?_
      refine ev_s (ls' := [some (.ref 3), some (.int ((csum (gWeight M 5) i) + 0)), some (.int (nI i))]) rfl ?_
      refine ev_inc (y := 1) (v := nI (i + 1)) (ls' := [some (.ref 3), some (.int ((csum (gWeight M 5) i) + 0)), some (.int (nI (i + 1)))]) rfl rfl (by decide) (nI_1 _) rfl ?_
      refine ev_s rfl ?_
      have e9 := ih (i + 1) (by omega)
      simp only [csum, gWeight, if_pos c1] at e9
      exact e9
    · show Ev _ _ 26 _ _ _ _
      refine ev_s rfl ?_
      refine ev_gf (rd np M L (by omega) rfl) rfl rfl rfl ?_
      refine ev_s rfl ?_
      refine ev_aa (v := (.ref (5 + i))) (rd np M L (by omega) rfl) rfl rfl (zin_nI (by omega) (by decide)) (by rw [if_pos (by omega)]; rfl) ?_
      refine ev_gf (rd np M L (by omega) (cel_best (by omega) _ _)) rfl rfl rfl ?_
      iterate 2 refine ev_s rfl ?_
      refine ev_s (ls' := [some (.ref 3), some (.int ((csum (gWeight M 5) i) + (M (5 + i) 1))), some (.int (nI i))]) rfl ?_
      refine ev_inc (y := 1) (v := nI (i + 1)) (ls' := [some (.ref 3), some (.int ((csum (gWeight M 5) i) + (M (5 + i) 1))), some (.int (nI (i + 1)))]) rfl rfl (by decide) (nI_1 _) rfl ?_
      refine ev_s rfl ?_
      have e9 := ih (i + 1) (by omega)
      simp only [csum, gWeight, if_neg c1] at e9
      exact e9
set_option maxHeartbeats 4000000 in
theorem rn_weight {np : Nat} {M : Nat → Nat → Int32} {L : Nat → Int64}  (d : Nat) : Rn (d) mX0_weight [(.ref 3)] (mk np M L) (some (.int (csum (gWeight M 5) 6))) (mk np M L) := by
  unfold Rn
  refine ev_ik (v := 0) rfl (by decide) ?_
  refine ev_s (ls' := [some (.ref 3), some (.int 0), none]) rfl ?_
  refine ev_ik (v := 0) rfl (by decide) ?_
  refine ev_s (ls' := [some (.ref 3), some (.int 0), some (.int 0)]) rfl ?_
  exact lp_weight d 6 0 (by omega)
set_option maxHeartbeats 4000000 in
theorem lp_wy {np : Nat} {M : Nat → Nat → Int32} {L : Nat → Int64}  (d : Nat) : ∀ k i, i + k = 6 → Ev (d) mX0_weightTimesY 4 [some (.ref 12), some (.int (csum (gWY M 14) i)), some (.int (nI i))] [] (mk np M L) (Qr mX0_weightTimesY (some (.int (csum (gWY M 14) 6))) (mk np M L)) := by
  intro k
  induction k with
  | zero =>
    intro i hik 
    obtain rfl : i = 6 := by omega
    iterate 2 refine ev_s rfl ?_
    refine ev_gf (rd np M L (by omega) rfl) rfl rfl rfl ?_
    refine ev_al (v := 6) (rd np M L (by omega) rfl) rfl rfl (by decide) ?_
    refine ev_ic rfl rfl ?_
    rw [show zbr .ge (nI 6) 6 57 13 = 57 from zge_t (n := 6) (by decide) (by omega) (by decide)]
    refine ev_s rfl ?_
    refine ev_ri rfl rfl ?_ ?_
    · rfl
    · rfl
  | succ k ih =>
    intro i hik 
    have hi : i < 6 := by omega
    iterate 2 refine ev_s rfl ?_
    refine ev_gf (rd np M L (by omega) rfl) rfl rfl rfl ?_
    refine ev_al (v := 6) (rd np M L (by omega) rfl) rfl rfl (by decide) ?_
    refine ev_ic rfl rfl ?_
    rw [show zbr .ge (nI i) 6 57 13 = 13 from zge_f (n := 6) (by decide) hi (by decide)]
    iterate 2 refine ev_s rfl ?_
    refine ev_gf (rd np M L (by omega) rfl) rfl rfl rfl ?_
    refine ev_s rfl ?_
    refine ev_aa (v := (.ref (14 + i))) (rd np M L (by omega) rfl) rfl rfl (zin_nI (by omega) (by decide)) (by rw [if_pos (by omega)]; rfl) ?_
    refine ev_gf (rd np M L (by omega) (cel_trial (by omega) _ _)) rfl rfl rfl ?_
    refine ev_if rfl rfl (ev_br (zb_eq _ _ _ _) (fun c1 => ?_) (fun c1 => ?_))
    · show Ev _ _ 48 _ _ _ _
      refine ev_ik (v := 0) rfl (by decide) ?_
      refine ev_s rfl ?_
      refine ev_s (ls' := [some (.ref 12), some (.int ((csum (gWY M 14) i) + 0)), some (.int (nI i))]) rfl ?_
      refine ev_inc (y := 1) (v := nI (i + 1)) (ls' := [some (.ref 12), some (.int ((csum (gWY M 14) i) + 0)), some (.int (nI (i + 1)))]) rfl rfl (by decide) (nI_1 _) rfl ?_
      refine ev_s rfl ?_
      have e9 := ih (i + 1) (by omega)
      simp only [csum, gWY, if_pos c1] at e9
      exact e9
    · show Ev _ _ 26 _ _ _ _
      refine ev_s rfl ?_
      refine ev_gf (rd np M L (by omega) rfl) rfl rfl rfl ?_
      refine ev_s rfl ?_
      refine ev_aa (v := (.ref (14 + i))) (rd np M L (by omega) rfl) rfl rfl (zin_nI (by omega) (by decide)) (by rw [if_pos (by omega)]; rfl) ?_
      refine ev_gf (rd np M L (by omega) (cel_trial (by omega) _ _)) rfl rfl rfl ?_
      refine ev_s rfl ?_
      refine ev_gf (rd np M L (by omega) rfl) rfl rfl rfl ?_
      refine ev_s rfl ?_
      refine ev_aa (v := (.ref (14 + i))) (rd np M L (by omega) rfl) rfl rfl (zin_nI (by omega) (by decide)) (by rw [if_pos (by omega)]; rfl) ?_
      refine ev_gf (rd np M L (by omega) (cel_trial (by omega) _ _)) rfl rfl rfl ?_
      iterate 3 refine ev_s rfl ?_
      refine ev_s (ls' := [some (.ref 12), some (.int ((csum (gWY M 14) i) + ((M (14 + i) 1) * (M (14 + i) 9)))), some (.int (nI i))]) rfl ?_
      refine ev_inc (y := 1) (v := nI (i + 1)) (ls' := [some (.ref 12), some (.int ((csum (gWY M 14) i) + ((M (14 + i) 1) * (M (14 + i) 9)))), some (.int (nI (i + 1)))]) rfl rfl (by decide) (nI_1 _) rfl ?_
      refine ev_s rfl ?_
      have e9 := ih (i + 1) (by omega)
      simp only [csum, gWY, if_neg c1] at e9
      exact e9
set_option maxHeartbeats 4000000 in
theorem rn_wy {np : Nat} {M : Nat → Nat → Int32} {L : Nat → Int64}  (d : Nat) : Rn (d) mX0_weightTimesY [(.ref 12)] (mk np M L) (some (.int (csum (gWY M 14) 6))) (mk np M L) := by
  unfold Rn
  refine ev_ik (v := 0) rfl (by decide) ?_
  refine ev_s (ls' := [some (.ref 12), some (.int 0), none]) rfl ?_
  refine ev_ik (v := 0) rfl (by decide) ?_
  refine ev_s (ls' := [some (.ref 12), some (.int 0), some (.int 0)]) rfl ?_
  exact lp_wy d 6 0 (by omega)
set_option maxHeartbeats 4000000 in
theorem lp_far {np : Nat} {M : Nat → Nat → Int32} {L : Nat → Int64}  (d : Nat) : ∀ k i, i + k = 6 → ∀ v3 : Option Value, Ev (d) mX0_farWeight 4 [some (.ref 3), some (.int (csum (gFar M 5) i)), some (.int (nI i)), v3] [] (mk np M L) (Qr mX0_farWeight (some (.int (csum (gFar M 5) 6))) (mk np M L)) := by
  intro k
  induction k with
  | zero =>
    intro i hik v3 
    obtain rfl : i = 6 := by omega
    iterate 2 refine ev_s rfl ?_
    refine ev_gf (rd np M L (by omega) rfl) rfl rfl rfl ?_
    refine ev_al (v := 6) (rd np M L (by omega) rfl) rfl rfl (by decide) ?_
    refine ev_ic rfl rfl ?_
    rw [show zbr .ge (nI 6) 6 56 13 = 56 from zge_t (n := 6) (by decide) (by omega) (by decide)]
    refine ev_s rfl ?_
    refine ev_ri rfl rfl ?_ ?_
    · rfl
    · rfl
  | succ k ih =>
    intro i hik v3 
    have hi : i < 6 := by omega
    iterate 2 refine ev_s rfl ?_
    refine ev_gf (rd np M L (by omega) rfl) rfl rfl rfl ?_
    refine ev_al (v := 6) (rd np M L (by omega) rfl) rfl rfl (by decide) ?_
    refine ev_ic rfl rfl ?_
    rw [show zbr .ge (nI i) 6 56 13 = 13 from zge_f (n := 6) (by decide) hi (by decide)]
    refine ev_s rfl ?_
    refine ev_gf (rd np M L (by omega) rfl) rfl rfl rfl ?_
    refine ev_s rfl ?_
    refine ev_aa (v := (.ref (5 + i))) (rd np M L (by omega) rfl) rfl rfl (zin_nI (by omega) (by decide)) (by rw [if_pos (by omega)]; rfl) ?_
    refine ev_s (ls' := [some (.ref 3), some (.int (csum (gFar M 5) i)), some (.int (nI i)), some (.ref (5 + i))]) rfl ?_
    iterate 2 refine ev_s rfl ?_
    refine ev_gf (rd np M L (by omega) (cel_best (by omega) _ _)) rfl rfl rfl ?_
    refine ev_if rfl rfl (ev_br (zb_eq _ _ _ _) (fun c1 => ?_) (fun c1 => ?_))
    · show Ev _ _ 47 _ _ _ _
      refine ev_ik (v := 0) rfl (by decide) ?_
      refine ev_s rfl ?_
      refine ev_s (ls' := [some (.ref 3), some (.int ((csum (gFar M 5) i) + 0)), some (.int (nI i)), some (.ref (5 + i))]) rfl ?_
      refine ev_inc (y := 1) (v := nI (i + 1)) (ls' := [some (.ref 3), some (.int ((csum (gFar M 5) i) + 0)), some (.int (nI (i + 1))), some (.ref (5 + i))]) rfl rfl (by decide) (nI_1 _) rfl ?_
      refine ev_s rfl ?_
      have e9 := ih (i + 1) (by omega) (some (.ref (5 + i)))
      simp only [csum, gFar, if_pos c1] at e9
      exact e9
    · show Ev _ _ 28 _ _ _ _
      refine ev_s rfl ?_
      refine ev_gf (rd np M L (by omega) (cel_best (by omega) _ _)) rfl rfl rfl ?_
      refine ev_ik (v := 2) rfl (by decide) ?_
      refine ev_s rfl ?_
      refine ev_gf (rd np M L (by omega) (cel_best (by omega) _ _)) rfl rfl rfl ?_
      iterate 2 refine ev_s rfl ?_
      refine ev_gf (rd np M L (by omega) (cel_best (by omega) _ _)) rfl rfl rfl ?_
      iterate 4 refine ev_s rfl ?_
      refine ev_s (ls' := [some (.ref 3), some (.int ((csum (gFar M 5) i) + ((M (5 + i) 1) * ((2 * (M (5 + i) 10)) + (M (5 + i) 7))))), some (.int (nI i)), some (.ref (5 + i))]) rfl ?_
      refine ev_inc (y := 1) (v := nI (i + 1)) (ls' := [some (.ref 3), some (.int ((csum (gFar M 5) i) + ((M (5 + i) 1) * ((2 * (M (5 + i) 10)) + (M (5 + i) 7))))), some (.int (nI (i + 1))), some (.ref (5 + i))]) rfl rfl (by decide) (nI_1 _) rfl ?_
      refine ev_s rfl ?_
      have e9 := ih (i + 1) (by omega) (some (.ref (5 + i)))
      simp only [csum, gFar, if_neg c1] at e9
      exact e9
set_option maxHeartbeats 4000000 in
theorem rn_far {np : Nat} {M : Nat → Nat → Int32} {L : Nat → Int64}  (d : Nat) : Rn (d) mX0_farWeight [(.ref 3)] (mk np M L) (some (.int (csum (gFar M 5) 6))) (mk np M L) := by
  unfold Rn
  refine ev_ik (v := 0) rfl (by decide) ?_
  refine ev_s (ls' := [some (.ref 3), some (.int 0), none, none]) rfl ?_
  refine ev_ik (v := 0) rfl (by decide) ?_
  refine ev_s (ls' := [some (.ref 3), some (.int 0), some (.int 0), none]) rfl ?_
  exact lp_far d 6 0 (by omega) none
set_option maxHeartbeats 4000000 in
theorem lp_wAb {np : Nat} {M : Nat → Nat → Int32} {L : Nat → Int64} {j : Nat} (hj : j < 6) (d : Nat) : ∀ k i, i + k = 6 → Ev (d + 1) mX0_weightAbove 4 [some (.ref 12), some (.ref (14 + j)), some (.int (csum (gAb M 14 j) i)), some (.int (nI i))] [] (mk np M L) (Qr mX0_weightAbove (some (.int (wAb M 14 j))) (mk np M L)) := by
  intro k
  induction k with
  | zero =>
    intro i hik 
    obtain rfl : i = 6 := by omega
    iterate 2 refine ev_s rfl ?_
    refine ev_gf (rd np M L (by omega) rfl) rfl rfl rfl ?_
    refine ev_al (v := 6) (rd np M L (by omega) rfl) rfl rfl (by decide) ?_
    refine ev_ic rfl rfl ?_
    rw [show zbr .ge (nI 6) 6 60 13 = 60 from zge_t (n := 6) (by decide) (by omega) (by decide)]
    refine ev_s rfl ?_
    refine ev_ri rfl rfl ?_ ?_
    · rfl
    · rfl
  | succ k ih =>
    intro i hik 
    have hi : i < 6 := by omega
    iterate 2 refine ev_s rfl ?_
    refine ev_gf (rd np M L (by omega) rfl) rfl rfl rfl ?_
    refine ev_al (v := 6) (rd np M L (by omega) rfl) rfl rfl (by decide) ?_
    refine ev_ic rfl rfl ?_
    rw [show zbr .ge (nI i) 6 60 13 = 13 from zge_f (n := 6) (by decide) hi (by decide)]
    iterate 2 refine ev_s rfl ?_
    refine ev_gf (rd np M L (by omega) rfl) rfl rfl rfl ?_
    refine ev_s rfl ?_
    refine ev_aa (v := (.ref (14 + i))) (rd np M L (by omega) rfl) rfl rfl (zin_nI (by omega) (by decide)) (by rw [if_pos (by omega)]; rfl) ?_
    refine ev_gf (rd np M L (by omega) (cel_trial (by omega) _ _)) rfl rfl rfl ?_
    refine ev_if rfl rfl (ev_br (zb_eq _ _ _ _) (fun c1 => ?_) (fun c1 => ?_))
    · show Ev _ _ 51 _ _ _ _
      refine ev_ik (v := 0) rfl (by decide) ?_
      refine ev_s rfl ?_
      refine ev_s (ls' := [some (.ref 12), some (.ref (14 + j)), some (.int ((csum (gAb M 14 j) i) + 0)), some (.int (nI i))]) rfl ?_
      refine ev_inc (y := 1) (v := nI (i + 1)) (ls' := [some (.ref 12), some (.ref (14 + j)), some (.int ((csum (gAb M 14 j) i) + 0)), some (.int (nI (i + 1)))]) rfl rfl (by decide) (nI_1 _) rfl ?_
      refine ev_s rfl ?_
      have e9 := ih (i + 1) (by omega)
      simp only [csum, gAb, if_pos c1] at e9
      exact e9
    · show Ev _ _ 26 _ _ _ _
      iterate 2 refine ev_s rfl ?_
      refine ev_gf (rd np M L (by omega) rfl) rfl rfl rfl ?_
      refine ev_s rfl ?_
      refine ev_aa (v := (.ref (14 + i))) (rd np M L (by omega) rfl) rfl rfl (zin_nI (by omega) (by decide)) (by rw [if_pos (by omega)]; rfl) ?_
      refine ev_cv (vs := [(.ref (14 + j)), (.ref (14 + i))]) (rest := [(.int (csum (gAb M 14 j) i))]) (rv := (some (.int (zi (cAb (M (14 + j)) (M (14 + i))))))) rfl rfl rfl (rd np M L (by omega) (cel_trial (by omega) _ _)) rfl rfl rfl rfl (rn_hasAbove (f := M (14 + j)) (g := M (14 + i)) (rd np M L (by omega) (cel_trial (by omega) _ _)) (rd np M L (by omega) (cel_trial (by omega) _ _)) _) ?_
      show Ev _ _ 36 _ [(.int (zi (cAb (M (14 + j)) (M (14 + i))))), (.int (csum (gAb M 14 j) i))] _ _
      refine ev_if rfl rfl (ev_bze (fun c2 => ?_) (fun c2 => ?_))
      · show Ev _ _ 51 _ _ _ _
        refine ev_ik (v := 0) rfl (by decide) ?_
        refine ev_s rfl ?_
        refine ev_s (ls' := [some (.ref 12), some (.ref (14 + j)), some (.int ((csum (gAb M 14 j) i) + 0)), some (.int (nI i))]) rfl ?_
        refine ev_inc (y := 1) (v := nI (i + 1)) (ls' := [some (.ref 12), some (.ref (14 + j)), some (.int ((csum (gAb M 14 j) i) + 0)), some (.int (nI (i + 1)))]) rfl rfl (by decide) (nI_1 _) rfl ?_
        refine ev_s rfl ?_
        have e9 := ih (i + 1) (by omega)
        simp only [csum, gAb, if_neg c1, if_neg c2] at e9
        exact e9
      · show Ev _ _ 39 _ _ _ _
        refine ev_s rfl ?_
        refine ev_gf (rd np M L (by omega) rfl) rfl rfl rfl ?_
        refine ev_s rfl ?_
        refine ev_aa (v := (.ref (14 + i))) (rd np M L (by omega) rfl) rfl rfl (zin_nI (by omega) (by decide)) (by rw [if_pos (by omega)]; rfl) ?_
        refine ev_gf (rd np M L (by omega) (cel_trial (by omega) _ _)) rfl rfl rfl ?_
        iterate 2 refine ev_s rfl ?_
        refine ev_s (ls' := [some (.ref 12), some (.ref (14 + j)), some (.int ((csum (gAb M 14 j) i) + (M (14 + i) 1))), some (.int (nI i))]) rfl ?_
        refine ev_inc (y := 1) (v := nI (i + 1)) (ls' := [some (.ref 12), some (.ref (14 + j)), some (.int ((csum (gAb M 14 j) i) + (M (14 + i) 1))), some (.int (nI (i + 1)))]) rfl rfl (by decide) (nI_1 _) rfl ?_
        refine ev_s rfl ?_
        have e9 := ih (i + 1) (by omega)
        simp only [csum, gAb, if_neg c1, if_pos c2] at e9
        exact e9
set_option maxHeartbeats 4000000 in
theorem rn_wAb {np : Nat} {M : Nat → Nat → Int32} {L : Nat → Int64} {j : Nat} (hj : j < 6) (d : Nat) : Rn (d + 1) mX0_weightAbove [(.ref 12), (.ref (14 + j))] (mk np M L) (some (.int (wAb M 14 j))) (mk np M L) := by
  unfold Rn
  refine ev_ik (v := 0) rfl (by decide) ?_
  refine ev_s (ls' := [some (.ref 12), some (.ref (14 + j)), some (.int 0), none]) rfl ?_
  refine ev_ik (v := 0) rfl (by decide) ?_
  refine ev_s (ls' := [some (.ref 12), some (.ref (14 + j)), some (.int 0), some (.int 0)]) rfl ?_
  exact lp_wAb hj d 6 0 (by omega)
set_option maxHeartbeats 4000000 in
theorem lp_kl {np : Nat} {M : Nat → Nat → Int32} {L : Nat → Int64} {j : Nat} (hj : j < 6) (d : Nat) : ∀ k i, i + k = 6 → ∀ v3 : Option Value, (∀ q, q < i → ¬ badL M 14 j q) → Ev (d + 2) mX0_keepsLimits 2 [some (.ref 12), some (.ref (14 + j)), some (.int (nI i)), v3] [] (mk np M L) (Qr mX0_keepsLimits (some (.int (zi (∀ i, i < 6 → ¬ badL M 14 j i)))) (mk np M L)) := by
  intro k
  induction k with
  | zero =>
    intro i hik v3 hI
    obtain rfl : i = 6 := by omega
    iterate 2 refine ev_s rfl ?_
    refine ev_gf (rd np M L (by omega) rfl) rfl rfl rfl ?_
    refine ev_al (v := 6) (rd np M L (by omega) rfl) rfl rfl (by decide) ?_
    refine ev_ic rfl rfl ?_
    rw [show zbr .ge (nI 6) 6 66 11 = 66 from zge_t (n := 6) (by decide) (by omega) (by decide)]
    refine ev_ik (v := 1) rfl (by decide) ?_
    refine ev_rz rfl rfl (by decide) ?_ ?_
    · exact some_i (zi_t (fun q hq => hI q hq)).symm
    · rfl
  | succ k ih =>
    intro i hik v3 hI
    have hi : i < 6 := by omega
    iterate 2 refine ev_s rfl ?_
    refine ev_gf (rd np M L (by omega) rfl) rfl rfl rfl ?_
    refine ev_al (v := 6) (rd np M L (by omega) rfl) rfl rfl (by decide) ?_
    refine ev_ic rfl rfl ?_
    rw [show zbr .ge (nI i) 6 66 11 = 11 from zge_f (n := 6) (by decide) hi (by decide)]
    refine ev_s rfl ?_
    refine ev_gf (rd np M L (by omega) rfl) rfl rfl rfl ?_
    refine ev_s rfl ?_
    refine ev_aa (v := (.ref (14 + i))) (rd np M L (by omega) rfl) rfl rfl (zin_nI (by omega) (by decide)) (by rw [if_pos (by omega)]; rfl) ?_
    refine ev_s (ls' := [some (.ref 12), some (.ref (14 + j)), some (.int (nI i)), some (.ref (14 + i))]) rfl ?_
    refine ev_s rfl ?_
    refine ev_gf (rd np M L (by omega) (cel_trial (by omega) _ _)) rfl rfl rfl ?_
    refine ev_if rfl rfl (ev_br (zb_eq _ _ _ _) (fun c1 => ?_) (fun c1 => ?_))
    · show Ev _ _ 60 _ _ _ _
      refine ev_inc (y := 1) (v := nI (i + 1)) (ls' := [some (.ref 12), some (.ref (14 + j)), some (.int (nI (i + 1))), some (.ref (14 + i))]) rfl rfl (by decide) (nI_1 _) rfl ?_
      refine ev_s rfl ?_
      exact ih (i + 1) (by omega) (some (.ref (14 + i))) (fun q hq hs => by
        rcases Nat.lt_or_ge q i with q1 | q1
        · exact hI q q1 hs
        · obtain rfl : q = i := by omega
          exact hs.1 c1)
    · show Ev _ _ 25 _ _ _ _
      refine ev_s rfl ?_
      refine ev_gf (rd np M L (by omega) (cel_trial (by omega) _ _)) rfl rfl rfl ?_
      refine ev_ik (v := (-1)) rfl (by decide) ?_
      refine ev_ic rfl rfl (ev_br (zb_eq _ _ _ _) (fun c2 => ?_) (fun c2 => ?_))
      · show Ev _ _ 60 _ _ _ _
        refine ev_inc (y := 1) (v := nI (i + 1)) (ls' := [some (.ref 12), some (.ref (14 + j)), some (.int (nI (i + 1))), some (.ref (14 + i))]) rfl rfl (by decide) (nI_1 _) rfl ?_
        refine ev_s rfl ?_
        exact ih (i + 1) (by omega) (some (.ref (14 + i))) (fun q hq hs => by
          rcases Nat.lt_or_ge q i with q1 | q1
          · exact hI q q1 hs
          · obtain rfl : q = i := by omega
            exact hs.2.1 c2)
      · show Ev _ _ 33 _ _ _ _
        iterate 2 refine ev_s rfl ?_
        refine ev_cv (vs := [(.ref (14 + i)), (.ref (14 + j))]) (rest := []) (rv := (some (.int (zi (cAb (M (14 + i)) (M (14 + j))))))) rfl rfl rfl (rd np M L (by omega) (cel_trial (by omega) _ _)) rfl rfl rfl rfl (rn_hasAbove (f := M (14 + i)) (g := M (14 + j)) (rd np M L (by omega) (cel_trial (by omega) _ _)) (rd np M L (by omega) (cel_trial (by omega) _ _)) _) ?_
        show Ev _ _ 38 _ [(.int (zi (cAb (M (14 + i)) (M (14 + j)))))] _ _
        refine ev_if rfl rfl (ev_bze (fun c3 => ?_) (fun c3 => ?_))
        · show Ev _ _ 60 _ _ _ _
          refine ev_inc (y := 1) (v := nI (i + 1)) (ls' := [some (.ref 12), some (.ref (14 + j)), some (.int (nI (i + 1))), some (.ref (14 + i))]) rfl rfl (by decide) (nI_1 _) rfl ?_
          refine ev_s rfl ?_
          exact ih (i + 1) (by omega) (some (.ref (14 + i))) (fun q hq hs => by
            rcases Nat.lt_or_ge q i with q1 | q1
            · exact hI q q1 hs
            · obtain rfl : q = i := by omega
              exact c3 hs.2.2.1)
        · show Ev _ _ 41 _ _ _ _
          iterate 2 refine ev_s rfl ?_
          refine ev_cv (vs := [(.ref 12), (.ref (14 + i))]) (rest := []) (rv := (some (.int (wAb M 14 i)))) rfl rfl rfl (rd np M L (by omega) rfl) rfl rfl rfl rfl (rn_wAb (j := i) hi _) ?_
          show Ev _ _ 46 _ [(.int (wAb M 14 i))] _ _
          refine ev_s rfl ?_
          refine ev_gf (rd np M L (by omega) (cel_trial (by omega) _ _)) rfl rfl rfl ?_
          iterate 2 refine ev_s rfl ?_
          refine ev_gf (rd np M L (by omega) (cel_trial (by omega) _ _)) rfl rfl rfl ?_
          refine ev_ic rfl rfl (ev_br (zb_le _ _ _ _) (fun c4 => ?_) (fun c4 => ?_))
          · show Ev _ _ 60 _ _ _ _
            refine ev_inc (y := 1) (v := nI (i + 1)) (ls' := [some (.ref 12), some (.ref (14 + j)), some (.int (nI (i + 1))), some (.ref (14 + i))]) rfl rfl (by decide) (nI_1 _) rfl ?_
            refine ev_s rfl ?_
            exact ih (i + 1) (by omega) (some (.ref (14 + i))) (fun q hq hs => by
              rcases Nat.lt_or_ge q i with q1 | q1
              · exact hI q q1 hs
              · obtain rfl : q = i := by omega
                exact hs.2.2.2 c4)
          · show Ev _ _ 58 _ _ _ _
            refine ev_ik (v := 0) rfl (by decide) ?_
            refine ev_rz rfl rfl (by decide) ?_ ?_
            · exact some_i (zi_f (fun h => h i hi ⟨c1, c2, c3, c4⟩)).symm
            · rfl
set_option maxHeartbeats 4000000 in
theorem rn_kl {np : Nat} {M : Nat → Nat → Int32} {L : Nat → Int64} {j : Nat} (hj : j < 6) (d : Nat) : Rn (d + 2) mX0_keepsLimits [(.ref 12), (.ref (14 + j))] (mk np M L) (some (.int (zi (∀ i, i < 6 → ¬ badL M 14 j i)))) (mk np M L) := by
  unfold Rn
  refine ev_ik (v := 0) rfl (by decide) ?_
  refine ev_s (ls' := [some (.ref 12), some (.ref (14 + j)), some (.int 0), none]) rfl ?_
  exact lp_kl hj d 6 0 (by omega) none (fun q hq => absurd hq (by omega))
set_option maxHeartbeats 4000000 in
theorem lp_ko {np : Nat} {M : Nat → Nat → Int32} {L : Nat → Int64} {j : Nat} (hj : j < 6) (d : Nat) : ∀ k i, i + k = 6 → ∀ v3 : Option Value, (∀ q, q < i → ¬ badO M 14 j q) → Ev (d + 1) mX0_keepsOrder 2 [some (.ref 12), some (.ref (14 + j)), some (.int (nI i)), v3] [] (mk np M L) (Qr mX0_keepsOrder (some (.int (zi (∀ i, i < 6 → ¬ badO M 14 j i)))) (mk np M L)) := by
  intro k
  induction k with
  | zero =>
    intro i hik v3 hI
    obtain rfl : i = 6 := by omega
    iterate 2 refine ev_s rfl ?_
    refine ev_gf (rd np M L (by omega) rfl) rfl rfl rfl ?_
    refine ev_al (v := 6) (rd np M L (by omega) rfl) rfl rfl (by decide) ?_
    refine ev_ic rfl rfl ?_
    rw [show zbr .ge (nI 6) 6 71 11 = 71 from zge_t (n := 6) (by decide) (by omega) (by decide)]
    refine ev_ik (v := 1) rfl (by decide) ?_
    refine ev_rz rfl rfl (by decide) ?_ ?_
    · exact some_i (zi_t (fun q hq => hI q hq)).symm
    · rfl
  | succ k ih =>
    intro i hik v3 hI
    have hi : i < 6 := by omega
    iterate 2 refine ev_s rfl ?_
    refine ev_gf (rd np M L (by omega) rfl) rfl rfl rfl ?_
    refine ev_al (v := 6) (rd np M L (by omega) rfl) rfl rfl (by decide) ?_
    refine ev_ic rfl rfl ?_
    rw [show zbr .ge (nI i) 6 71 11 = 11 from zge_f (n := 6) (by decide) hi (by decide)]
    refine ev_s rfl ?_
    refine ev_gf (rd np M L (by omega) rfl) rfl rfl rfl ?_
    refine ev_s rfl ?_
    refine ev_aa (v := (.ref (14 + i))) (rd np M L (by omega) rfl) rfl rfl (zin_nI (by omega) (by decide)) (by rw [if_pos (by omega)]; rfl) ?_
    refine ev_s (ls' := [some (.ref 12), some (.ref (14 + j)), some (.int (nI i)), some (.ref (14 + i))]) rfl ?_
    refine ev_s rfl ?_
    refine ev_gf (rd np M L (by omega) (cel_trial (by omega) _ _)) rfl rfl rfl ?_
    refine ev_if rfl rfl (ev_br (zb_eq _ _ _ _) (fun c1 => ?_) (fun c1 => ?_))
    · show Ev _ _ 65 _ _ _ _
      refine ev_inc (y := 1) (v := nI (i + 1)) (ls' := [some (.ref 12), some (.ref (14 + j)), some (.int (nI (i + 1))), some (.ref (14 + i))]) rfl rfl (by decide) (nI_1 _) rfl ?_
      refine ev_s rfl ?_
      exact ih (i + 1) (by omega) (some (.ref (14 + i))) (fun q hq hs => by
        rcases Nat.lt_or_ge q i with q1 | q1
        · exact hI q q1 hs
        · obtain rfl : q = i := by omega
          simp_all [badO])
    · show Ev _ _ 25 _ _ _ _
      refine ev_s rfl ?_
      refine ev_gf (rd np M L (by omega) (cel_trial (by omega) _ _)) rfl rfl rfl ?_
      refine ev_s rfl ?_
      refine ev_gf (rd np M L (by omega) (cel_trial (by omega) _ _)) rfl rfl rfl ?_
      refine ev_ic rfl rfl (ev_br (zb_ge _ _ _ _) (fun c2 => ?_) (fun c2 => ?_))
      · show Ev _ _ 44 _ _ _ _
        refine ev_s rfl ?_
        refine ev_gf (rd np M L (by omega) (cel_trial (by omega) _ _)) rfl rfl rfl ?_
        refine ev_s rfl ?_
        refine ev_gf (rd np M L (by omega) (cel_trial (by omega) _ _)) rfl rfl rfl ?_
        refine ev_ic rfl rfl (ev_br (zb_ge _ _ _ _) (fun c3 => ?_) (fun c3 => ?_))
        · show Ev _ _ 65 _ _ _ _
          refine ev_inc (y := 1) (v := nI (i + 1)) (ls' := [some (.ref 12), some (.ref (14 + j)), some (.int (nI (i + 1))), some (.ref (14 + i))]) rfl rfl (by decide) (nI_1 _) rfl ?_
          refine ev_s rfl ?_
          exact ih (i + 1) (by omega) (some (.ref (14 + i))) (fun q hq hs => by
            rcases Nat.lt_or_ge q i with q1 | q1
            · exact hI q q1 hs
            · obtain rfl : q = i := by omega
              simp_all [badO])
        · show Ev _ _ 55 _ _ _ _
          iterate 2 refine ev_s rfl ?_
          refine ev_cv (vs := [(.ref (14 + j)), (.ref (14 + i))]) (rest := []) (rv := (some (.int (zi (cFr (M (14 + j)) (M (14 + i))))))) rfl rfl rfl (rd np M L (by omega) (cel_trial (by omega) _ _)) rfl rfl rfl rfl (rn_hasInFront (f := M (14 + j)) (g := M (14 + i)) (rd np M L (by omega) (cel_trial (by omega) _ _)) (rd np M L (by omega) (cel_trial (by omega) _ _)) _) ?_
          show Ev _ _ 60 _ [(.int (zi (cFr (M (14 + j)) (M (14 + i)))))] _ _
          refine ev_if rfl rfl (ev_bze (fun c4 => ?_) (fun c4 => ?_))
          · show Ev _ _ 65 _ _ _ _
            refine ev_inc (y := 1) (v := nI (i + 1)) (ls' := [some (.ref 12), some (.ref (14 + j)), some (.int (nI (i + 1))), some (.ref (14 + i))]) rfl rfl (by decide) (nI_1 _) rfl ?_
            refine ev_s rfl ?_
            exact ih (i + 1) (by omega) (some (.ref (14 + i))) (fun q hq hs => by
              rcases Nat.lt_or_ge q i with q1 | q1
              · exact hI q q1 hs
              · obtain rfl : q = i := by omega
                simp_all [badO])
          · show Ev _ _ 63 _ _ _ _
            refine ev_ik (v := 0) rfl (by decide) ?_
            refine ev_rz rfl rfl (by decide) ?_ ?_
            · exact some_i (zi_f (fun h => h i hi ⟨c1, Or.inr ⟨c3, c4⟩⟩)).symm
            · rfl
      · show Ev _ _ 36 _ _ _ _
        iterate 2 refine ev_s rfl ?_
        refine ev_cv (vs := [(.ref (14 + i)), (.ref (14 + j))]) (rest := []) (rv := (some (.int (zi (cFr (M (14 + i)) (M (14 + j))))))) rfl rfl rfl (rd np M L (by omega) (cel_trial (by omega) _ _)) rfl rfl rfl rfl (rn_hasInFront (f := M (14 + i)) (g := M (14 + j)) (rd np M L (by omega) (cel_trial (by omega) _ _)) (rd np M L (by omega) (cel_trial (by omega) _ _)) _) ?_
        show Ev _ _ 41 _ [(.int (zi (cFr (M (14 + i)) (M (14 + j)))))] _ _
        refine ev_if rfl rfl (ev_bzn (fun c5 => ?_) (fun c5 => ?_))
        · show Ev _ _ 63 _ _ _ _
          refine ev_ik (v := 0) rfl (by decide) ?_
          refine ev_rz rfl rfl (by decide) ?_ ?_
          · exact some_i (zi_f (fun h => h i hi ⟨c1, Or.inl ⟨c2, c5⟩⟩)).symm
          · rfl
        · show Ev _ _ 44 _ _ _ _
          refine ev_s rfl ?_
          refine ev_gf (rd np M L (by omega) (cel_trial (by omega) _ _)) rfl rfl rfl ?_
          refine ev_s rfl ?_
          refine ev_gf (rd np M L (by omega) (cel_trial (by omega) _ _)) rfl rfl rfl ?_
          refine ev_ic rfl rfl (ev_br (zb_ge _ _ _ _) (fun c6 => ?_) (fun c6 => ?_))
          · show Ev _ _ 65 _ _ _ _
            refine ev_inc (y := 1) (v := nI (i + 1)) (ls' := [some (.ref 12), some (.ref (14 + j)), some (.int (nI (i + 1))), some (.ref (14 + i))]) rfl rfl (by decide) (nI_1 _) rfl ?_
            refine ev_s rfl ?_
            exact ih (i + 1) (by omega) (some (.ref (14 + i))) (fun q hq hs => by
              rcases Nat.lt_or_ge q i with q1 | q1
              · exact hI q q1 hs
              · obtain rfl : q = i := by omega
                simp_all [badO])
          · show Ev _ _ 55 _ _ _ _
            iterate 2 refine ev_s rfl ?_
            refine ev_cv (vs := [(.ref (14 + j)), (.ref (14 + i))]) (rest := []) (rv := (some (.int (zi (cFr (M (14 + j)) (M (14 + i))))))) rfl rfl rfl (rd np M L (by omega) (cel_trial (by omega) _ _)) rfl rfl rfl rfl (rn_hasInFront (f := M (14 + j)) (g := M (14 + i)) (rd np M L (by omega) (cel_trial (by omega) _ _)) (rd np M L (by omega) (cel_trial (by omega) _ _)) _) ?_
            show Ev _ _ 60 _ [(.int (zi (cFr (M (14 + j)) (M (14 + i)))))] _ _
            refine ev_if rfl rfl (ev_bze (fun c7 => ?_) (fun c7 => ?_))
            · show Ev _ _ 65 _ _ _ _
              refine ev_inc (y := 1) (v := nI (i + 1)) (ls' := [some (.ref 12), some (.ref (14 + j)), some (.int (nI (i + 1))), some (.ref (14 + i))]) rfl rfl (by decide) (nI_1 _) rfl ?_
              refine ev_s rfl ?_
              exact ih (i + 1) (by omega) (some (.ref (14 + i))) (fun q hq hs => by
                rcases Nat.lt_or_ge q i with q1 | q1
                · exact hI q q1 hs
                · obtain rfl : q = i := by omega
                  simp_all [badO])
            · show Ev _ _ 63 _ _ _ _
              refine ev_ik (v := 0) rfl (by decide) ?_
              refine ev_rz rfl rfl (by decide) ?_ ?_
              · exact some_i (zi_f (fun h => h i hi ⟨c1, Or.inr ⟨c6, c7⟩⟩)).symm
              · rfl
set_option maxHeartbeats 4000000 in
theorem rn_ko {np : Nat} {M : Nat → Nat → Int32} {L : Nat → Int64} {j : Nat} (hj : j < 6) (d : Nat) : Rn (d + 1) mX0_keepsOrder [(.ref 12), (.ref (14 + j))] (mk np M L) (some (.int (zi (∀ i, i < 6 → ¬ badO M 14 j i)))) (mk np M L) := by
  unfold Rn
  refine ev_ik (v := 0) rfl (by decide) ?_
  refine ev_s (ls' := [some (.ref 12), some (.ref (14 + j)), some (.int 0), none]) rfl ?_
  exact lp_ko hj d 6 0 (by omega) none (fun q hq => absurd hq (by omega))
set_option maxHeartbeats 4000000 in
theorem lp_opn {np : Nat} {M : Nat → Nat → Int32} {L : Nat → Int64} {j : Nat} (hj : j < 6) (d : Nat) : ∀ k i, i + k = 6 → ∀ v3 : Option Value, (∀ q, q < i → ¬ badP M 5 j q) → Ev (d + 1) mX0_isOpen 2 [some (.ref 3), some (.ref (5 + j)), some (.int (nI i)), v3] [] (mk np M L) (Qr mX0_isOpen (some (.int (zi (∀ i, i < 6 → ¬ badP M 5 j i)))) (mk np M L)) := by
  intro k
  induction k with
  | zero =>
    intro i hik v3 hI
    obtain rfl : i = 6 := by omega
    iterate 2 refine ev_s rfl ?_
    refine ev_gf (rd np M L (by omega) rfl) rfl rfl rfl ?_
    refine ev_al (v := 6) (rd np M L (by omega) rfl) rfl rfl (by decide) ?_
    refine ev_ic rfl rfl ?_
    rw [show zbr .ge (nI 6) 6 49 11 = 49 from zge_t (n := 6) (by decide) (by omega) (by decide)]
    refine ev_ik (v := 1) rfl (by decide) ?_
    refine ev_rz rfl rfl (by decide) ?_ ?_
    · exact some_i (zi_t (fun q hq => hI q hq)).symm
    · rfl
  | succ k ih =>
    intro i hik v3 hI
    have hi : i < 6 := by omega
    iterate 2 refine ev_s rfl ?_
    refine ev_gf (rd np M L (by omega) rfl) rfl rfl rfl ?_
    refine ev_al (v := 6) (rd np M L (by omega) rfl) rfl rfl (by decide) ?_
    refine ev_ic rfl rfl ?_
    rw [show zbr .ge (nI i) 6 49 11 = 11 from zge_f (n := 6) (by decide) hi (by decide)]
    refine ev_s rfl ?_
    refine ev_gf (rd np M L (by omega) rfl) rfl rfl rfl ?_
    refine ev_s rfl ?_
    refine ev_aa (v := (.ref (5 + i))) (rd np M L (by omega) rfl) rfl rfl (zin_nI (by omega) (by decide)) (by rw [if_pos (by omega)]; rfl) ?_
    refine ev_s (ls' := [some (.ref 3), some (.ref (5 + j)), some (.int (nI i)), some (.ref (5 + i))]) rfl ?_
    refine ev_s rfl ?_
    refine ev_gf (rd np M L (by omega) (cel_best (by omega) _ _)) rfl rfl rfl ?_
    refine ev_if rfl rfl (ev_br (zb_eq _ _ _ _) (fun c1 => ?_) (fun c1 => ?_))
    · show Ev _ _ 43 _ _ _ _
      refine ev_inc (y := 1) (v := nI (i + 1)) (ls' := [some (.ref 3), some (.ref (5 + j)), some (.int (nI (i + 1))), some (.ref (5 + i))]) rfl rfl (by decide) (nI_1 _) rfl ?_
      refine ev_s rfl ?_
      exact ih (i + 1) (by omega) (some (.ref (5 + i))) (fun q hq hs => by
        rcases Nat.lt_or_ge q i with q1 | q1
        · exact hI q q1 hs
        · obtain rfl : q = i := by omega
          simp_all [badP])
    · show Ev _ _ 25 _ _ _ _
      iterate 2 refine ev_s rfl ?_
      refine ev_cv (vs := [(.ref (5 + j)), (.ref (5 + i))]) (rest := []) (rv := (some (.int (zi (cAb (M (5 + j)) (M (5 + i))))))) rfl rfl rfl (rd np M L (by omega) (cel_best (by omega) _ _)) rfl rfl rfl rfl (rn_hasAbove (f := M (5 + j)) (g := M (5 + i)) (rd np M L (by omega) (cel_best (by omega) _ _)) (rd np M L (by omega) (cel_best (by omega) _ _)) _) ?_
      show Ev _ _ 30 _ [(.int (zi (cAb (M (5 + j)) (M (5 + i)))))] _ _
      refine ev_if rfl rfl (ev_bzn (fun c2 => ?_) (fun c2 => ?_))
      · show Ev _ _ 41 _ _ _ _
        refine ev_ik (v := 0) rfl (by decide) ?_
        refine ev_rz rfl rfl (by decide) ?_ ?_
        · exact some_i (zi_f (fun h => h i hi ⟨c1, Or.inl c2⟩)).symm
        · rfl
      · show Ev _ _ 33 _ _ _ _
        iterate 2 refine ev_s rfl ?_
        refine ev_cv (vs := [(.ref (5 + j)), (.ref (5 + i))]) (rest := []) (rv := (some (.int (zi (cFr (M (5 + j)) (M (5 + i))))))) rfl rfl rfl (rd np M L (by omega) (cel_best (by omega) _ _)) rfl rfl rfl rfl (rn_hasInFront (f := M (5 + j)) (g := M (5 + i)) (rd np M L (by omega) (cel_best (by omega) _ _)) (rd np M L (by omega) (cel_best (by omega) _ _)) _) ?_
        show Ev _ _ 38 _ [(.int (zi (cFr (M (5 + j)) (M (5 + i)))))] _ _
        refine ev_if rfl rfl (ev_bze (fun c3 => ?_) (fun c3 => ?_))
        · show Ev _ _ 43 _ _ _ _
          refine ev_inc (y := 1) (v := nI (i + 1)) (ls' := [some (.ref 3), some (.ref (5 + j)), some (.int (nI (i + 1))), some (.ref (5 + i))]) rfl rfl (by decide) (nI_1 _) rfl ?_
          refine ev_s rfl ?_
          exact ih (i + 1) (by omega) (some (.ref (5 + i))) (fun q hq hs => by
            rcases Nat.lt_or_ge q i with q1 | q1
            · exact hI q q1 hs
            · obtain rfl : q = i := by omega
              simp_all [badP])
        · show Ev _ _ 41 _ _ _ _
          refine ev_ik (v := 0) rfl (by decide) ?_
          refine ev_rz rfl rfl (by decide) ?_ ?_
          · exact some_i (zi_f (fun h => h i hi ⟨c1, Or.inr c3⟩)).symm
          · rfl
set_option maxHeartbeats 4000000 in
theorem rn_opn {np : Nat} {M : Nat → Nat → Int32} {L : Nat → Int64} {j : Nat} (hj : j < 6) (d : Nat) : Rn (d + 1) mX0_isOpen [(.ref 3), (.ref (5 + j))] (mk np M L) (some (.int (zi (∀ i, i < 6 → ¬ badP M 5 j i)))) (mk np M L) := by
  unfold Rn
  refine ev_ik (v := 0) rfl (by decide) ?_
  refine ev_s (ls' := [some (.ref 3), some (.ref (5 + j)), some (.int 0), none]) rfl ?_
  exact lp_opn hj d 6 0 (by omega) none (fun q hq => absurd hq (by omega))
set_option maxHeartbeats 4000000 in
theorem lp_ups {np : Nat} {M : Nat → Nat → Int32} {L : Nat → Int64} {x z : Int32} (d : Nat) : ∀ k i, i + k = 6 → ∀ v6 : Option Value, Ev (d + 1) mX0_uppermost 8 [some (.ref 3), some (.int x), some (.int z), some (.int ((upS M x z i).1)), some (.int ((upS M x z i).2)), some (.int (nI i)), v6] [] (mk np M L) (Qr mX0_uppermost (some (.int (upS M x z 6).1)) (mk np M L)) := by
  intro k
  induction k with
  | zero =>
    intro i hik v6 
    obtain rfl : i = 6 := by omega
    iterate 2 refine ev_s rfl ?_
    refine ev_gf (rd np M L (by omega) rfl) rfl rfl rfl ?_
    refine ev_al (v := 6) (rd np M L (by omega) rfl) rfl rfl (by decide) ?_
    refine ev_ic rfl rfl ?_
    rw [show zbr .ge (nI 6) 6 73 18 = 73 from zge_t (n := 6) (by decide) (by omega) (by decide)]
    refine ev_s rfl ?_
    refine ev_ri rfl rfl ?_ ?_
    · rfl
    · rfl
  | succ k ih =>
    intro i hik v6 
    have hi : i < 6 := by omega
    iterate 2 refine ev_s rfl ?_
    refine ev_gf (rd np M L (by omega) rfl) rfl rfl rfl ?_
    refine ev_al (v := 6) (rd np M L (by omega) rfl) rfl rfl (by decide) ?_
    refine ev_ic rfl rfl ?_
    rw [show zbr .ge (nI i) 6 73 18 = 18 from zge_f (n := 6) (by decide) hi (by decide)]
    refine ev_s rfl ?_
    refine ev_gf (rd np M L (by omega) rfl) rfl rfl rfl ?_
    refine ev_s rfl ?_
    refine ev_aa (v := (.ref (5 + i))) (rd np M L (by omega) rfl) rfl rfl (zin_nI (by omega) (by decide)) (by rw [if_pos (by omega)]; rfl) ?_
    refine ev_s (ls' := [some (.ref 3), some (.int x), some (.int z), some (.int ((upS M x z i).1)), some (.int ((upS M x z i).2)), some (.int (nI i)), some (.ref (5 + i))]) rfl ?_
    refine ev_s rfl ?_
    refine ev_gf (rd np M L (by omega) (cel_best (by omega) _ _)) rfl rfl rfl ?_
    refine ev_if rfl rfl (ev_br (zb_eq _ _ _ _) (fun c1 => ?_) (fun c1 => ?_))
    · show Ev _ _ 67 _ _ _ _
      refine ev_inc (y := 1) (v := nI (i + 1)) (ls' := [some (.ref 3), some (.int x), some (.int z), some (.int ((upS M x z i).1)), some (.int ((upS M x z i).2)), some (.int (nI (i + 1))), some (.ref (5 + i))]) rfl rfl (by decide) (nI_1 _) rfl ?_
      refine ev_s rfl ?_
      have e9 := ih (i + 1) (by omega) (some (.ref (5 + i)))
      rw [show upS M x z (i + 1) = upS M x z i from if_neg (fun h => h.1 c1)] at e9
      exact e9
    · show Ev _ _ 35 _ _ _ _
      iterate 3 refine ev_s rfl ?_
      refine ev_cv (vs := [(.ref (5 + i)), (.int x), (.int z)]) (rest := []) (rv := (some (.int (zi (cOver (M (5 + i)) x z))))) rfl rfl rfl (rd np M L (by omega) (cel_best (by omega) _ _)) rfl rfl rfl rfl (rn_isOver (f := M (5 + i)) (rd np M L (by omega) (cel_best (by omega) _ _)) _) ?_
      show Ev _ _ 42 _ [(.int (zi (cOver (M (5 + i)) x z)))] _ _
      refine ev_if rfl rfl (ev_bze (fun c2 => ?_) (fun c2 => ?_))
      · show Ev _ _ 67 _ _ _ _
        refine ev_inc (y := 1) (v := nI (i + 1)) (ls' := [some (.ref 3), some (.int x), some (.int z), some (.int ((upS M x z i).1)), some (.int ((upS M x z i).2)), some (.int (nI (i + 1))), some (.ref (5 + i))]) rfl rfl (by decide) (nI_1 _) rfl ?_
        refine ev_s rfl ?_
        have e9 := ih (i + 1) (by omega) (some (.ref (5 + i)))
        rw [show upS M x z (i + 1) = upS M x z i from if_neg (fun h => c2 h.2.1)] at e9
        exact e9
      · show Ev _ _ 45 _ _ _ _
        refine ev_s rfl ?_
        refine ev_gf (rd np M L (by omega) (cel_best (by omega) _ _)) rfl rfl rfl ?_
        refine ev_s rfl ?_
        refine ev_ic rfl rfl (ev_br (zb_le _ _ _ _) (fun c3 => ?_) (fun c3 => ?_))
        · show Ev _ _ 67 _ _ _ _
          refine ev_inc (y := 1) (v := nI (i + 1)) (ls' := [some (.ref 3), some (.int x), some (.int z), some (.int ((upS M x z i).1)), some (.int ((upS M x z i).2)), some (.int (nI (i + 1))), some (.ref (5 + i))]) rfl rfl (by decide) (nI_1 _) rfl ?_
          refine ev_s rfl ?_
          have e9 := ih (i + 1) (by omega) (some (.ref (5 + i)))
          rw [show upS M x z (i + 1) = upS M x z i from if_neg (fun h => h.2.2 c3)] at e9
          exact e9
        · show Ev _ _ 55 _ _ _ _
          refine ev_s rfl ?_
          refine ev_gf (rd np M L (by omega) (cel_best (by omega) _ _)) rfl rfl rfl ?_
          refine ev_s (ls' := [some (.ref 3), some (.int x), some (.int z), some (.int ((upS M x z i).1)), some (.int (M (5 + i) 9)), some (.int (nI i)), some (.ref (5 + i))]) rfl ?_
          refine ev_s rfl ?_
          refine ev_ik (v := 1) rfl (by decide) ?_
          refine ev_s rfl ?_
          refine ev_s (ls' := [some (.ref 3), some (.int x), some (.int z), some (.int ((nI i) + 1)), some (.int (M (5 + i) 9)), some (.int (nI i)), some (.ref (5 + i))]) rfl ?_
          refine ev_inc (y := 1) (v := nI (i + 1)) (ls' := [some (.ref 3), some (.int x), some (.int z), some (.int ((nI i) + 1)), some (.int (M (5 + i) 9)), some (.int (nI (i + 1))), some (.ref (5 + i))]) rfl rfl (by decide) (nI_1 _) rfl ?_
          refine ev_s rfl ?_
          have e9 := ih (i + 1) (by omega) (some (.ref (5 + i)))
          rw [show upS M x z (i + 1) = (nI i + 1, M (5 + i) 9) from if_pos (show _ from ⟨c1, c2, c3⟩)] at e9
          exact e9
set_option maxHeartbeats 4000000 in
theorem rn_ups {np : Nat} {M : Nat → Nat → Int32} {L : Nat → Int64} {x z : Int32} (d : Nat) : Rn (d + 1) mX0_uppermost [(.ref 3), (.int x), (.int z)] (mk np M L) (some (.int (upS M x z 6).1)) (mk np M L) := by
  unfold Rn
  refine ev_ik (v := 0) rfl (by decide) ?_
  refine ev_s (ls' := [some (.ref 3), some (.int x), some (.int z), some (.int 0), none, none, none]) rfl ?_
  refine ev_ik (v := (-1)) rfl (by decide) ?_
  refine ev_s (ls' := [some (.ref 3), some (.int x), some (.int z), some (.int 0), some (.int (-1)), none, none]) rfl ?_
  refine ev_ik (v := 0) rfl (by decide) ?_
  refine ev_s (ls' := [some (.ref 3), some (.int x), some (.int z), some (.int 0), some (.int (-1)), some (.int 0), none]) rfl ?_
  exact lp_ups d 6 0 (by omega) none
set_option maxHeartbeats 4000000 in
theorem lp_empty {np : Nat} {M : Nat → Nat → Int32} {L : Nat → Int64}  (d : Nat) : ∀ k i, i + k = 6 → Ev (d) mX0_empty 2 [some (.ref 3), some (.int (nI i))] [] (mk np (emM M i) L) (Qr mX0_empty none (mk np (emM M 6) L)) := by
  intro k
  induction k with
  | zero =>
    intro i hik 
    obtain rfl : i = 6 := by omega
    iterate 2 refine ev_s rfl ?_
    refine ev_gf (rd np (emM M 6) L (by omega) rfl) rfl rfl rfl ?_
    refine ev_al (v := 6) (rd np (emM M 6) L (by omega) rfl) rfl rfl (by decide) ?_
    refine ev_ic rfl rfl ?_
    rw [show zbr .ge (nI 6) 6 27 11 = 27 from zge_t (n := 6) (by decide) (by omega) (by decide)]
    refine ev_rv rfl rfl ?_ ?_
    · rfl
    · rfl
  | succ k ih =>
    intro i hik 
    have hi : i < 6 := by omega
    iterate 2 refine ev_s rfl ?_
    refine ev_gf (rd np (emM M i) L (by omega) rfl) rfl rfl rfl ?_
    refine ev_al (v := 6) (rd np (emM M i) L (by omega) rfl) rfl rfl (by decide) ?_
    refine ev_ic rfl rfl ?_
    rw [show zbr .ge (nI i) 6 27 11 = 11 from zge_f (n := 6) (by decide) hi (by decide)]
    refine ev_s rfl ?_
    refine ev_gf (rd np (emM M i) L (by omega) rfl) rfl rfl rfl ?_
    refine ev_s rfl ?_
    refine ev_aa (v := (.ref (5 + i))) (rd np (emM M i) L (by omega) rfl) rfl rfl (zin_nI (by omega) (by decide)) (by rw [if_pos (by omega)]; rfl) ?_
    refine ev_ik (v := 0) rfl (by decide) ?_
    refine ev_pf (hp' := (mk np (up2 (emM M i) (5 + i) 0 0) L)) (rd np (emM M i) L (by omega) (cel_best (by omega) _ _)) rfl rfl (by simp) rfl rfl (mk_setr rfl (cel_best (by omega) _ _) rfl) ?_
    refine ev_inc (y := 1) (v := nI (i + 1)) (ls' := [some (.ref 3), some (.int (nI (i + 1)))]) rfl rfl (by decide) (nI_1 _) rfl ?_
    refine ev_s rfl ?_
    exact ih (i + 1) (by omega)
set_option maxHeartbeats 4000000 in
theorem rn_empty {np : Nat} {M : Nat → Nat → Int32} {L : Nat → Int64}  (d : Nat) : Rn (d) mX0_empty [(.ref 3)] (mk np M L) none (mk np (emM M 6) L) := by
  unfold Rn
  refine ev_ik (v := 0) rfl (by decide) ?_
  refine ev_s (ls' := [some (.ref 3), some (.int 0)]) rfl ?_
  exact lp_empty d 6 0 (by omega)
set_option maxHeartbeats 4000000 in
theorem lp_pkcopy {np : Nat} {M : Nat → Nat → Int32} {L : Nat → Int64} (hz : ∀ q, q < 6 → M (14 + q) 0 = 0 ∨ M (14 + q) 0 = 1) (d : Nat) : ∀ k i, i + k = 6 → Ev (d + 2) mX0_copyFrom 2 [some (.ref 3), some (.ref 12), some (.int (nI i))] [] (mk np (cyM M i) L) (Qr mX0_copyFrom none (mk np (cyM M 6) L)) := by
  intro k
  induction k with
  | zero =>
    intro i hik 
    obtain rfl : i = 6 := by omega
    iterate 2 refine ev_s rfl ?_
    refine ev_gf (rd np (cyM M 6) L (by omega) rfl) rfl rfl rfl ?_
    refine ev_al (v := 6) (rd np (cyM M 6) L (by omega) rfl) rfl rfl (by decide) ?_
    refine ev_ic rfl rfl ?_
    rw [show zbr .ge (nI 6) 6 41 11 = 41 from zge_t (n := 6) (by decide) (by omega) (by decide)]
    refine ev_rv rfl rfl ?_ ?_
    · rfl
    · rfl
  | succ k ih =>
    intro i hik 
    have hi : i < 6 := by omega
    iterate 2 refine ev_s rfl ?_
    refine ev_gf (rd np (cyM M i) L (by omega) rfl) rfl rfl rfl ?_
    refine ev_al (v := 6) (rd np (cyM M i) L (by omega) rfl) rfl rfl (by decide) ?_
    refine ev_ic rfl rfl ?_
    rw [show zbr .ge (nI i) 6 41 11 = 11 from zge_f (n := 6) (by decide) hi (by decide)]
    iterate 2 refine ev_s rfl ?_
    refine ev_gf (rd np (cyM M i) L (by omega) rfl) rfl rfl rfl ?_
    refine ev_al (v := 6) (rd np (cyM M i) L (by omega) rfl) rfl rfl (by decide) ?_
    refine ev_ic rfl rfl ?_
    rw [show zbr .ge (nI i) 6 41 20 = 20 from zge_f (n := 6) (by decide) hi (by decide)]
    refine ev_s rfl ?_
    refine ev_gf (rd np (cyM M i) L (by omega) rfl) rfl rfl rfl ?_
    refine ev_s rfl ?_
    refine ev_aa (v := (.ref (5 + i))) (rd np (cyM M i) L (by omega) rfl) rfl rfl (zin_nI (by omega) (by decide)) (by rw [if_pos (by omega)]; rfl) ?_
    refine ev_s rfl ?_
    refine ev_gf (rd np (cyM M i) L (by omega) rfl) rfl rfl rfl ?_
    refine ev_s rfl ?_
    refine ev_aa (v := (.ref (14 + i))) (rd np (cyM M i) L (by omega) rfl) rfl rfl (zin_nI (by omega) (by decide)) (by rw [if_pos (by omega)]; rfl) ?_
    refine ev_cv (vs := [(.ref (5 + i)), (.ref (14 + i))]) (rest := []) (rv := none) rfl rfl rfl (rd np (cyM M i) L (by omega) (cel_best (by omega) _ _)) rfl rfl rfl rfl (rn_pcopy hi (by rw [cyM_n (by omega) i (by omega)]; exact hz i hi) _) ?_
    show Ev _ _ 35 _ [] _ _
    refine ev_inc (y := 1) (v := nI (i + 1)) (ls' := [some (.ref 3), some (.ref 12), some (.int (nI (i + 1)))]) rfl rfl (by decide) (nI_1 _) rfl ?_
    refine ev_s rfl ?_
    exact ih (i + 1) (by omega)
set_option maxHeartbeats 4000000 in
theorem rn_pkcopy {np : Nat} {M : Nat → Nat → Int32} {L : Nat → Int64} (hz : ∀ q, q < 6 → M (14 + q) 0 = 0 ∨ M (14 + q) 0 = 1) (d : Nat) : Rn (d + 2) mX0_copyFrom [(.ref 3), (.ref 12)] (mk np M L) none (mk np (cyM M 6) L) := by
  unfold Rn
  refine ev_ik (v := 0) rfl (by decide) ?_
  refine ev_s (ls' := [some (.ref 3), some (.ref 12), some (.int 0)]) rfl ?_
  exact lp_pkcopy hz d 6 0 (by omega)
set_option maxHeartbeats 4000000 in
theorem lp_tk {np : Nat} {M : Nat → Nat → Int32} {L : Nat → Int64} {s : Int32} (d : Nat) : ∀ k i, i + k = 6 → ∀ v4 : Option Value, Ev (d + 2) mX0_takeOut 4 [some (.ref 3), some (.int s), some (.int ((tkS M s i).1)), some (.int (nI i)), v4] [] (mk np ((tkS M s i).2) L) (Qr mX0_takeOut (some (.int (tkS M s 6).1)) (mk np (tkS M s 6).2 L)) := by
  intro k
  induction k with
  | zero =>
    intro i hik v4 
    obtain rfl : i = 6 := by omega
    iterate 2 refine ev_s rfl ?_
    refine ev_gf (rd np ((tkS M s 6).2) L (by omega) rfl) rfl rfl rfl ?_
    refine ev_al (v := 6) (rd np ((tkS M s 6).2) L (by omega) rfl) rfl rfl (by decide) ?_
    refine ev_ic rfl rfl ?_
    rw [show zbr .ge (nI 6) 6 62 13 = 62 from zge_t (n := 6) (by decide) (by omega) (by decide)]
    refine ev_s rfl ?_
    refine ev_ri rfl rfl ?_ ?_
    · rfl
    · rfl
  | succ k ih =>
    intro i hik v4 
    have hi : i < 6 := by omega
    iterate 2 refine ev_s rfl ?_
    refine ev_gf (rd np ((tkS M s i).2) L (by omega) rfl) rfl rfl rfl ?_
    refine ev_al (v := 6) (rd np ((tkS M s i).2) L (by omega) rfl) rfl rfl (by decide) ?_
    refine ev_ic rfl rfl ?_
    rw [show zbr .ge (nI i) 6 62 13 = 13 from zge_f (n := 6) (by decide) hi (by decide)]
    refine ev_s rfl ?_
    refine ev_gf (rd np ((tkS M s i).2) L (by omega) rfl) rfl rfl rfl ?_
    refine ev_s rfl ?_
    refine ev_aa (v := (.ref (5 + i))) (rd np ((tkS M s i).2) L (by omega) rfl) rfl rfl (zin_nI (by omega) (by decide)) (by rw [if_pos (by omega)]; rfl) ?_
    refine ev_s (ls' := [some (.ref 3), some (.int s), some (.int ((tkS M s i).1)), some (.int (nI i)), some (.ref (5 + i))]) rfl ?_
    refine ev_s rfl ?_
    refine ev_gf (rd np ((tkS M s i).2) L (by omega) (cel_best (by omega) _ _)) rfl rfl rfl ?_
    refine ev_if rfl rfl (ev_br (zb_eq _ _ _ _) (fun c1 => ?_) (fun c1 => ?_))
    · show Ev _ _ 56 _ _ _ _
      refine ev_inc (y := 1) (v := nI (i + 1)) (ls' := [some (.ref 3), some (.int s), some (.int ((tkS M s i).1)), some (.int (nI (i + 1))), some (.ref (5 + i))]) rfl rfl (by decide) (nI_1 _) rfl ?_
      refine ev_s rfl ?_
      have e9 := ih (i + 1) (by omega) (some (.ref (5 + i)))
      rw [show tkS M s (i + 1) = tkS M s i from if_neg (fun h => h.1 c1)] at e9
      exact e9
    · show Ev _ _ 29 _ _ _ _
      refine ev_s rfl ?_
      refine ev_gf (rd np ((tkS M s i).2) L (by omega) (cel_best (by omega) _ _)) rfl rfl rfl ?_
      refine ev_s rfl ?_
      refine ev_ic rfl rfl (ev_bn (fun c2 => ?_) (fun c2 => ?_))
      · show Ev _ _ 56 _ _ _ _
        refine ev_inc (y := 1) (v := nI (i + 1)) (ls' := [some (.ref 3), some (.int s), some (.int ((tkS M s i).1)), some (.int (nI (i + 1))), some (.ref (5 + i))]) rfl rfl (by decide) (nI_1 _) rfl ?_
        refine ev_s rfl ?_
        have e9 := ih (i + 1) (by omega) (some (.ref (5 + i)))
        rw [show tkS M s (i + 1) = tkS M s i from if_neg (fun h => c2 h.2.1)] at e9
        exact e9
      · show Ev _ _ 38 _ _ _ _
        iterate 2 refine ev_s rfl ?_
        refine ev_cv (vs := [(.ref 3), (.ref (5 + i))]) (rest := []) (rv := (some (.int (zi (opn (tkS M s i).2 5 i))))) rfl rfl rfl (rd np ((tkS M s i).2) L (by omega) rfl) rfl rfl rfl rfl (rn_opn (M := (tkS M s i).2) hi _) ?_
        show Ev _ _ 44 _ [(.int (zi (opn (tkS M s i).2 5 i)))] _ _
        refine ev_if rfl rfl (ev_bze (fun c3 => ?_) (fun c3 => ?_))
        · show Ev _ _ 56 _ _ _ _
          refine ev_inc (y := 1) (v := nI (i + 1)) (ls' := [some (.ref 3), some (.int s), some (.int ((tkS M s i).1)), some (.int (nI (i + 1))), some (.ref (5 + i))]) rfl rfl (by decide) (nI_1 _) rfl ?_
          refine ev_s rfl ?_
          have e9 := ih (i + 1) (by omega) (some (.ref (5 + i)))
          rw [show tkS M s (i + 1) = tkS M s i from if_neg (fun h => c3 h.2.2)] at e9
          exact e9
        · show Ev _ _ 47 _ _ _ _
          refine ev_s rfl ?_
          refine ev_ik (v := 0) rfl (by decide) ?_
          refine ev_pf (hp' := (mk np (up2 ((tkS M s i).2) (5 + i) 0 0) L)) (rd np ((tkS M s i).2) L (by omega) (cel_best (by omega) _ _)) rfl rfl (by simp) rfl rfl (mk_setr rfl (cel_best (by omega) _ _) rfl) ?_
          refine ev_inc (y := 1) (v := ((tkS M s i).1) + 1) (ls' := [some (.ref 3), some (.int s), some (.int (((tkS M s i).1) + 1)), some (.int (nI i)), some (.ref (5 + i))]) rfl rfl (by decide) rfl rfl ?_
          refine ev_inc (y := 1) (v := nI (i + 1)) (ls' := [some (.ref 3), some (.int s), some (.int (((tkS M s i).1) + 1)), some (.int (nI (i + 1))), some (.ref (5 + i))]) rfl rfl (by decide) (nI_1 _) rfl ?_
          refine ev_s rfl ?_
          have e9 := ih (i + 1) (by omega) (some (.ref (5 + i)))
          rw [show tkS M s (i + 1) = ((tkS M s i).1 + 1, up2 (tkS M s i).2 (5 + i) 0 0) from if_pos (show _ from ⟨c1, c2, c3⟩)] at e9
          exact e9
set_option maxHeartbeats 4000000 in
theorem rn_tk {np : Nat} {M : Nat → Nat → Int32} {L : Nat → Int64} {s : Int32} (d : Nat) : Rn (d + 2) mX0_takeOut [(.ref 3), (.int s)] (mk np M L) (some (.int (tkS M s 6).1)) (mk np (tkS M s 6).2 L) := by
  unfold Rn
  refine ev_ik (v := 0) rfl (by decide) ?_
  refine ev_s (ls' := [some (.ref 3), some (.int s), some (.int 0), none, none]) rfl ?_
  refine ev_ik (v := 0) rfl (by decide) ?_
  refine ev_s (ls' := [some (.ref 3), some (.int s), some (.int 0), some (.int 0), none]) rfl ?_
  exact lp_tk d 6 0 (by omega) none
noncomputable def plO (M : Nat → Nat → Int32) (n : Int32) : Value := if n < 1 then .null else if 6 < n then .null else if M (5 + (n - 1).toNatClampNeg) 0 = 0 then .null else .ref (5 + (n - 1).toNatClampNeg)
theorem num_of {n m : Int32} {k : Nat} (hm : m = nI k) (hk : k < 2 ^ 30) (h1 : ¬ n < 1) (h2 : ¬ m < n) : ∃ j, j < k ∧ n = nI (j + 1) ∧ n - 1 = nI j ∧ (n - 1).toNatClampNeg = j := by
  subst hm
  have a1 : (1 : Int32).toInt = 1 := by decide
  have h3 : 1 ≤ n.toInt := by
    have := Int32.not_lt.mp h1
    have := Int32.le_iff_toInt_le.mp this
    omega
  have h4 : n.toInt ≤ k := by
    have := Int32.le_iff_toInt_le.mp (Int32.not_lt.mp h2)
    rw [nI_toInt (by omega)] at this
    exact this
  obtain ⟨j, hj, rfl⟩ := nI_of (x := n) (fun h => by have := Int32.lt_iff_toInt_lt.mp h; simp at this; omega)
  rw [nI_toInt hj] at h3 h4
  obtain ⟨i, rfl⟩ : ∃ i, j = i + 1 := ⟨j - 1, by omega⟩
  refine ⟨i, by omega, rfl, nI_pred i, ?_⟩
  rw [nI_pred, nI_clamp (by omega)]

set_option maxHeartbeats 4000000 in
theorem rn_placeOf {np : Nat} {M : Nat → Nat → Int32} {L : Nat → Int64} {n : Int32} (d : Nat) : Rn d mX0_placeOf [.ref 3, .int n] (mk np M L) (some (plO M n)) (mk np M L) := by
  unfold Rn plO
  refine ev_s rfl ?_
  refine ev_ik (v := 1) rfl (by decide) ?_
  refine ev_ic rfl rfl (ev_br (zb_lt _ _ _ _) (fun c1 => ?_) (fun c1 => ?_))
  · show Ev _ _ 28 _ _ _ _
    refine ev_s rfl ?_
    refine ev_rn rfl rfl ?_ ?_
    · rw [if_pos c1]
    · rfl
  · show Ev _ _ 5 _ _ _ _
    iterate 2 refine ev_s rfl ?_
    refine ev_gf (rd np M L (by omega) rfl) rfl rfl rfl ?_
    refine ev_al (v := 6) (rd np M L (by omega) rfl) rfl rfl (by decide) ?_
    refine ev_ic rfl rfl (ev_br (zb_gt _ _ _ _) (fun c2 => ?_) (fun c2 => ?_))
    · show Ev _ _ 28 _ _ _ _
      refine ev_s rfl ?_
      refine ev_rn rfl rfl ?_ ?_
      · rw [if_neg c1, if_pos c2]
      · rfl
    · show Ev _ _ 14 _ _ _ _
      refine ev_s rfl ?_
      refine ev_gf (rd np M L (by omega) rfl) rfl rfl rfl ?_
      refine ev_s rfl ?_
      refine ev_ik (v := 1) rfl (by decide) ?_
      refine ev_s rfl ?_
      obtain ⟨k, hk1, hk2, hk3, hk4⟩ := num_of (k := 6) (by decide) (by decide) c1 c2
      refine ev_aa (v := (.ref (5 + k))) (rd np M L (by omega) rfl) rfl rfl (by rw [hk3]; exact zin_nI hk1 (by decide)) (by rw [if_pos (by omega)]; rfl) ?_
      refine ev_gf (rd np M L (by omega) (cel_best (by omega) _ _)) rfl rfl rfl ?_
      refine ev_if rfl rfl (ev_bn (fun c3 => ?_) (fun c3 => ?_))
      · show Ev _ _ 30 _ _ _ _
        refine ev_s rfl ?_
        refine ev_gf (rd np M L (by omega) rfl) rfl rfl rfl ?_
        refine ev_s rfl ?_
        refine ev_ik (v := 1) rfl (by decide) ?_
        refine ev_s rfl ?_
        refine ev_aa (v := (.ref (5 + k))) (rd np M L (by omega) rfl) rfl rfl (by rw [hk3]; exact zin_nI hk1 (by decide)) (by rw [if_pos (by omega)]; rfl) ?_
        refine ev_ra rfl rfl ?_ ?_
        · rw [if_neg c1, if_neg c2, hk4, if_neg c3]
        · rfl
      · show Ev _ _ 28 _ _ _ _
        refine ev_s rfl ?_
        refine ev_rn rfl rfl ?_ ?_
        · rw [if_neg c1, if_neg c2, hk4, if_pos c3]
        · rfl
end
section
/-! ===== Search: what does not recur ===== -/
theorem cellI (z x : Nat) : nI z * 12 + nI x = nI (z * 12 + x) := by
  rw [show (12 : Int32) = nI 12 from by decide, pk_mul, nI_add]
theorem zlt_f {k t f : Nat} (hk : k < 2 ^ 31) : zbr .lt (nI k) 0 t f = f := if_neg (nI_pos hk)
def endd (M : Nat → Nat → Int32) : Prop := ¬ M 11 8 < M 11 7
def lnA (f : Nat → Int32) (a : Nat) : Int32 := match a with | 0 => f 5 | 1 => f 6 | _ => f 7
def stS (M : Nat → Nat → Int32) (a : Nat) : Nat → Int32
  | 0 => 1
  | i + 1 => if M (14 + i) 0 = 0 then stS M a i else stS M a i ||| ((1 : Int32) <<< ((nOn (M (14 + i)) a + lnA (M (14 + i)) a) &&& 31))
def okc (M : Nat → Nat → Int32) (j z x : Nat) : Prop := M 20 (z * 12 + x) = M (14 + j) 9
def frb (M : Nat → Nat → Int32) (j X Z Wd Dp : Nat) : Prop := ∀ z, Z ≤ z → z < Z + Dp → ∀ x, X ≤ x → x < X + Wd → okc M j z x
def rc (X Z Wd z x k : Nat) : Prop := ∃ z' x', k = z' * 12 + x' ∧ X ≤ x' ∧ x' < X + Wd ∧ (Z ≤ z' ∧ z' < z ∨ Z ≤ z' ∧ z' = z ∧ x' < x)
noncomputable def hst (M : Nat → Nat → Int32) (P : Nat → Prop) (v : Int32) : Nat → Nat → Int32 := fun h => if h = 20 then (fun k => @ite _ (P k) (Classical.propDecidable _) v (M 20 k)) else M h
theorem hst_n {M : Nat → Nat → Int32} {P : Nat → Prop} {v : Int32} {h : Nat} (hn : h ≠ 20) : hst M P v h = M h := if_neg hn
theorem hst_up {M : Nat → Nat → Int32} {P P' : Nat → Prop} {v : Int32} {k0 : Nat} (hp : ∀ k, P' k ↔ P k ∨ k = k0) : up2 (hst M P v) 20 k0 v = hst M P' v := by
  funext h k
  by_cases hh : h = 20
  · subst hh
    rw [up2_s]
    simp only [hst, if_true, upd]
    by_cases h1 : k = k0
    · rw [if_pos h1, if_pos ((hp k).mpr (Or.inr h1))]
    · rw [if_neg h1]
      by_cases h2 : P k
      · rw [if_pos h2, if_pos ((hp k).mpr (Or.inl h2))]
      · rw [if_neg h2, if_neg (fun q => ((hp k).mp q).elim h2 h1)]
  · rw [up2_n hh, hst_n hh, hst_n hh]
theorem rc_step {X Z Wd z x : Nat} (hz : Z ≤ z) (hx : X ≤ x) (hw : x < X + Wd) (k : Nat) : rc X Z Wd z (x + 1) k ↔ rc X Z Wd z x k ∨ k = z * 12 + x := by
  constructor
  · rintro ⟨z', x', h1, h2, h3, h4⟩
    rcases h4 with h4 | ⟨h4, h5, h6⟩
    · exact Or.inl ⟨z', x', h1, h2, h3, Or.inl h4⟩
    · rcases Nat.lt_or_ge x' x with q | q
      · exact Or.inl ⟨z', x', h1, h2, h3, Or.inr ⟨h4, h5, q⟩⟩
      · obtain rfl : x' = x := by omega
        subst h5
        exact Or.inr h1
  · rintro (⟨z', x', h1, h2, h3, h4⟩ | h)
    · refine ⟨z', x', h1, h2, h3, ?_⟩
      rcases h4 with h4 | ⟨h4, h5, h6⟩
      · exact Or.inl h4
      · exact Or.inr ⟨h4, h5, by omega⟩
    · exact ⟨z, x, h, hx, hw, Or.inr ⟨hz, rfl, by omega⟩⟩
theorem rc_row {X Z Wd z : Nat} (hz : Z ≤ z) : rc X Z Wd z (X + Wd) = rc X Z Wd (z + 1) X := by
  funext k
  apply propext
  constructor
  · rintro ⟨z', x', h1, h2, h3, h4⟩
    exact ⟨z', x', h1, h2, h3, Or.inl (by omega)⟩
  · rintro ⟨z', x', h1, h2, h3, h4⟩
    refine ⟨z', x', h1, h2, h3, ?_⟩
    rcases h4 with h4 | h4
    · rcases Nat.lt_or_ge z' z with q | q
      · exact Or.inl (by omega)
      · exact Or.inr (by omega)
    · exact absurd h4 (by omega)
theorem hst_0 {M : Nat → Nat → Int32} {X Z Wd : Nat} {v : Int32} : hst M (rc X Z Wd Z X) v = M := by
  funext h
  unfold hst
  split
  · next hh =>
    subst hh
    funext k
    exact if_neg (by rintro ⟨z', x', h1, h2, h3, h4⟩; omega)
  · rfl

set_option maxHeartbeats 4000000 in
theorem rn_ended {np : Nat} {M : Nat → Nat → Int32} {L : Nat → Int64} (d : Nat) : Rn d mX3_hasEnded [.ref 11] (mk np M L) (some (.int (zi (endd M)))) (mk np M L) := by
  unfold Rn
  refine ev_s rfl ?_
  refine ev_gf (rd np M L (by omega) rfl) rfl rfl rfl ?_
  refine ev_s rfl ?_
  refine ev_gf (rd np M L (by omega) rfl) rfl rfl rfl ?_
  refine ev_ic rfl rfl (ev_br (zb_lt _ _ _ _) (fun c1 => ?_) (fun c1 => ?_))
  · show Ev _ _ 15 _ _ _ _
    refine ev_ik (v := 0) rfl (by decide) ?_
    refine ev_rz rfl rfl (by decide) ?_ ?_
    · exact some_i (zi_f (fun h => h c1)).symm
    · rfl
  · show Ev _ _ 11 _ _ _ _
    refine ev_ik (v := 1) rfl (by decide) ?_
    refine ev_s rfl ?_
    refine ev_rz rfl rfl (by decide) ?_ ?_
    · exact some_i (zi_t c1).symm
    · rfl
set_option maxHeartbeats 4000000 in
theorem lp_st0 {np : Nat} {M : Nat → Nat → Int32} {L : Nat → Int64}  (d : Nat) : ∀ k i, i + k = 6 → ∀ v4 : Option Value, ∀ v5 : Option Value, Ev (d + 1) mX3_startsOn 4 [some (.ref 11), some (.int 0), some (.int (stS M 0 i)), some (.int (nI i)), v4, v5] [] (mk np M L) (Qr mX3_startsOn (some (.int (stS M 0 6))) (mk np M L)) := by
  intro k
  induction k with
  | zero =>
    intro i hik v4 v5 
    obtain rfl : i = 6 := by omega
    iterate 2 refine ev_s rfl ?_
    refine ev_gf (rd np M L (by omega) rfl) rfl rfl rfl ?_
    refine ev_gf (rd np M L (by omega) rfl) rfl rfl rfl ?_
    refine ev_al (v := 6) (rd np M L (by omega) rfl) rfl rfl rfl ?_
    refine ev_ic rfl rfl ?_
    rw [show zbr .ge (nI 6) 6 87 16 = 87 from zge_t (n := 6) (by decide) (by omega) (by decide)]
    refine ev_s rfl ?_
    refine ev_ri rfl rfl ?_ ?_
    · rfl
    · rfl
  | succ k ih =>
    intro i hik v4 v5 
    have hi : i < 6 := by omega
    iterate 2 refine ev_s rfl ?_
    refine ev_gf (rd np M L (by omega) rfl) rfl rfl rfl ?_
    refine ev_gf (rd np M L (by omega) rfl) rfl rfl rfl ?_
    refine ev_al (v := 6) (rd np M L (by omega) rfl) rfl rfl rfl ?_
    refine ev_ic rfl rfl ?_
    rw [show zbr .ge (nI i) 6 87 16 = 16 from zge_f (n := 6) (by decide) hi (by decide)]
    refine ev_s rfl ?_
    refine ev_gf (rd np M L (by omega) rfl) rfl rfl rfl ?_
    refine ev_gf (rd np M L (by omega) rfl) rfl rfl rfl ?_
    refine ev_s rfl ?_
    refine ev_aa (v := (.ref (14 + i))) (rd np M L (by omega) rfl) rfl rfl (zin_nI (by omega) (by decide)) (by rw [if_pos (by omega)]; rfl) ?_
    refine ev_s (ls' := [some (.ref 11), some (.int 0), some (.int (stS M 0 i)), some (.int (nI i)), some (.ref (14 + i)), v5]) rfl ?_
    refine ev_s rfl ?_
    refine ev_gf (rd np M L (by omega) (cel_trial (by omega) _ _)) rfl rfl rfl ?_
    refine ev_if rfl rfl (ev_br (zb_eq _ _ _ _) (fun c1 => ?_) (fun c1 => ?_))
    · show Ev _ _ 81 _ _ _ _
      refine ev_inc (y := 1) (v := nI (i + 1)) (ls' := [some (.ref 11), some (.int 0), some (.int (stS M 0 i)), some (.int (nI (i + 1))), some (.ref (14 + i)), v5]) rfl rfl (by decide) (nI_1 _) rfl ?_
      refine ev_s rfl ?_
      have e9 := ih (i + 1) (by omega) (some (.ref (14 + i))) (v5)
      rw [show stS M 0 (i + 1) = _ from if_pos c1] at e9
      exact e9
    · show Ev _ _ 35 _ _ _ _
      refine ev_s rfl ?_
      refine ev_if rfl rfl ?_
      show Ev _ _ 39 _ _ _ _
      refine ev_s rfl ?_
      refine ev_gf (rd np M L (by omega) (cel_trial (by omega) _ _)) rfl rfl rfl ?_
      refine ev_s rfl ?_
      refine ev_s (ls' := [some (.ref 11), some (.int 0), some (.int (stS M 0 i)), some (.int (nI i)), some (.ref (14 + i)), some (.int (M (14 + i) 5))]) rfl ?_
      refine ev_s rfl ?_
      refine ev_ik (v := 1) rfl (by decide) ?_
      iterate 2 refine ev_s rfl ?_
      refine ev_cv (vs := [(.ref (14 + i)), (.int 0)]) (rest := [(.int 1), (.int (stS M 0 i))]) (rv := (some (.int (nOn (M (14 + i)) 0)))) rfl rfl rfl (rd np M L (by omega) (cel_trial (by omega) _ _)) rfl rfl rfl rfl (rn_numberOn (t := 0) (f := M (14 + i)) (rd np M L (by omega) (cel_trial (by omega) _ _)) (by omega) _) ?_
      show Ev _ _ 75 _ [(.int (nOn (M (14 + i)) 0)), (.int 1), (.int (stS M 0 i))] _ _
      iterate 4 refine ev_s rfl ?_
      refine ev_s (ls' := [some (.ref 11), some (.int 0), some (.int ((stS M 0 i) ||| (1 <<< (((nOn (M (14 + i)) 0) + (M (14 + i) 5)) &&& 31)))), some (.int (nI i)), some (.ref (14 + i)), some (.int (M (14 + i) 5))]) rfl ?_
      refine ev_inc (y := 1) (v := nI (i + 1)) (ls' := [some (.ref 11), some (.int 0), some (.int ((stS M 0 i) ||| (1 <<< (((nOn (M (14 + i)) 0) + (M (14 + i) 5)) &&& 31)))), some (.int (nI (i + 1))), some (.ref (14 + i)), some (.int (M (14 + i) 5))]) rfl rfl (by decide) (nI_1 _) rfl ?_
      refine ev_s rfl ?_
      have e9 := ih (i + 1) (by omega) (some (.ref (14 + i))) (some (.int (M (14 + i) 5)))
      rw [show stS M 0 (i + 1) = _ from if_neg c1] at e9
      exact e9
set_option maxHeartbeats 4000000 in
theorem rn_st0 {np : Nat} {M : Nat → Nat → Int32} {L : Nat → Int64}  (d : Nat) : Rn (d + 1) mX3_startsOn [(.ref 11), (.int 0)] (mk np M L) (some (.int (stS M 0 6))) (mk np M L) := by
  unfold Rn
  refine ev_ik (v := 1) rfl (by decide) ?_
  refine ev_s (ls' := [some (.ref 11), some (.int 0), some (.int 1), none, none, none]) rfl ?_
  refine ev_ik (v := 0) rfl (by decide) ?_
  refine ev_s (ls' := [some (.ref 11), some (.int 0), some (.int 1), some (.int 0), none, none]) rfl ?_
  exact lp_st0 d 6 0 (by omega) none none
set_option maxHeartbeats 4000000 in
theorem lp_st1 {np : Nat} {M : Nat → Nat → Int32} {L : Nat → Int64}  (d : Nat) : ∀ k i, i + k = 6 → ∀ v4 : Option Value, ∀ v5 : Option Value, Ev (d + 1) mX3_startsOn 4 [some (.ref 11), some (.int 1), some (.int (stS M 1 i)), some (.int (nI i)), v4, v5] [] (mk np M L) (Qr mX3_startsOn (some (.int (stS M 1 6))) (mk np M L)) := by
  intro k
  induction k with
  | zero =>
    intro i hik v4 v5 
    obtain rfl : i = 6 := by omega
    iterate 2 refine ev_s rfl ?_
    refine ev_gf (rd np M L (by omega) rfl) rfl rfl rfl ?_
    refine ev_gf (rd np M L (by omega) rfl) rfl rfl rfl ?_
    refine ev_al (v := 6) (rd np M L (by omega) rfl) rfl rfl rfl ?_
    refine ev_ic rfl rfl ?_
    rw [show zbr .ge (nI 6) 6 87 16 = 87 from zge_t (n := 6) (by decide) (by omega) (by decide)]
    refine ev_s rfl ?_
    refine ev_ri rfl rfl ?_ ?_
    · rfl
    · rfl
  | succ k ih =>
    intro i hik v4 v5 
    have hi : i < 6 := by omega
    iterate 2 refine ev_s rfl ?_
    refine ev_gf (rd np M L (by omega) rfl) rfl rfl rfl ?_
    refine ev_gf (rd np M L (by omega) rfl) rfl rfl rfl ?_
    refine ev_al (v := 6) (rd np M L (by omega) rfl) rfl rfl rfl ?_
    refine ev_ic rfl rfl ?_
    rw [show zbr .ge (nI i) 6 87 16 = 16 from zge_f (n := 6) (by decide) hi (by decide)]
    refine ev_s rfl ?_
    refine ev_gf (rd np M L (by omega) rfl) rfl rfl rfl ?_
    refine ev_gf (rd np M L (by omega) rfl) rfl rfl rfl ?_
    refine ev_s rfl ?_
    refine ev_aa (v := (.ref (14 + i))) (rd np M L (by omega) rfl) rfl rfl (zin_nI (by omega) (by decide)) (by rw [if_pos (by omega)]; rfl) ?_
    refine ev_s (ls' := [some (.ref 11), some (.int 1), some (.int (stS M 1 i)), some (.int (nI i)), some (.ref (14 + i)), v5]) rfl ?_
    refine ev_s rfl ?_
    refine ev_gf (rd np M L (by omega) (cel_trial (by omega) _ _)) rfl rfl rfl ?_
    refine ev_if rfl rfl (ev_br (zb_eq _ _ _ _) (fun c1 => ?_) (fun c1 => ?_))
    · show Ev _ _ 81 _ _ _ _
      refine ev_inc (y := 1) (v := nI (i + 1)) (ls' := [some (.ref 11), some (.int 1), some (.int (stS M 1 i)), some (.int (nI (i + 1))), some (.ref (14 + i)), v5]) rfl rfl (by decide) (nI_1 _) rfl ?_
      refine ev_s rfl ?_
      have e9 := ih (i + 1) (by omega) (some (.ref (14 + i))) (v5)
      rw [show stS M 1 (i + 1) = _ from if_pos c1] at e9
      exact e9
    · show Ev _ _ 35 _ _ _ _
      refine ev_s rfl ?_
      refine ev_if rfl rfl ?_
      show Ev _ _ 47 _ _ _ _
      refine ev_s rfl ?_
      refine ev_ik (v := 1) rfl (by decide) ?_
      refine ev_ic rfl rfl ?_
      show Ev _ _ 52 _ _ _ _
      refine ev_s rfl ?_
      refine ev_gf (rd np M L (by omega) (cel_trial (by omega) _ _)) rfl rfl rfl ?_
      refine ev_s rfl ?_
      refine ev_s (ls' := [some (.ref 11), some (.int 1), some (.int (stS M 1 i)), some (.int (nI i)), some (.ref (14 + i)), some (.int (M (14 + i) 6))]) rfl ?_
      refine ev_s rfl ?_
      refine ev_ik (v := 1) rfl (by decide) ?_
      iterate 2 refine ev_s rfl ?_
      refine ev_cv (vs := [(.ref (14 + i)), (.int 1)]) (rest := [(.int 1), (.int (stS M 1 i))]) (rv := (some (.int (nOn (M (14 + i)) 1)))) rfl rfl rfl (rd np M L (by omega) (cel_trial (by omega) _ _)) rfl rfl rfl rfl (rn_numberOn (t := 1) (f := M (14 + i)) (rd np M L (by omega) (cel_trial (by omega) _ _)) (by omega) _) ?_
      show Ev _ _ 75 _ [(.int (nOn (M (14 + i)) 1)), (.int 1), (.int (stS M 1 i))] _ _
      iterate 4 refine ev_s rfl ?_
      refine ev_s (ls' := [some (.ref 11), some (.int 1), some (.int ((stS M 1 i) ||| (1 <<< (((nOn (M (14 + i)) 1) + (M (14 + i) 6)) &&& 31)))), some (.int (nI i)), some (.ref (14 + i)), some (.int (M (14 + i) 6))]) rfl ?_
      refine ev_inc (y := 1) (v := nI (i + 1)) (ls' := [some (.ref 11), some (.int 1), some (.int ((stS M 1 i) ||| (1 <<< (((nOn (M (14 + i)) 1) + (M (14 + i) 6)) &&& 31)))), some (.int (nI (i + 1))), some (.ref (14 + i)), some (.int (M (14 + i) 6))]) rfl rfl (by decide) (nI_1 _) rfl ?_
      refine ev_s rfl ?_
      have e9 := ih (i + 1) (by omega) (some (.ref (14 + i))) (some (.int (M (14 + i) 6)))
      rw [show stS M 1 (i + 1) = _ from if_neg c1] at e9
      exact e9
set_option maxHeartbeats 4000000 in
theorem rn_st1 {np : Nat} {M : Nat → Nat → Int32} {L : Nat → Int64}  (d : Nat) : Rn (d + 1) mX3_startsOn [(.ref 11), (.int 1)] (mk np M L) (some (.int (stS M 1 6))) (mk np M L) := by
  unfold Rn
  refine ev_ik (v := 1) rfl (by decide) ?_
  refine ev_s (ls' := [some (.ref 11), some (.int 1), some (.int 1), none, none, none]) rfl ?_
  refine ev_ik (v := 0) rfl (by decide) ?_
  refine ev_s (ls' := [some (.ref 11), some (.int 1), some (.int 1), some (.int 0), none, none]) rfl ?_
  exact lp_st1 d 6 0 (by omega) none none
set_option maxHeartbeats 4000000 in
theorem lp_st2 {np : Nat} {M : Nat → Nat → Int32} {L : Nat → Int64}  (d : Nat) : ∀ k i, i + k = 6 → ∀ v4 : Option Value, ∀ v5 : Option Value, Ev (d + 1) mX3_startsOn 4 [some (.ref 11), some (.int 2), some (.int (stS M 2 i)), some (.int (nI i)), v4, v5] [] (mk np M L) (Qr mX3_startsOn (some (.int (stS M 2 6))) (mk np M L)) := by
  intro k
  induction k with
  | zero =>
    intro i hik v4 v5 
    obtain rfl : i = 6 := by omega
    iterate 2 refine ev_s rfl ?_
    refine ev_gf (rd np M L (by omega) rfl) rfl rfl rfl ?_
    refine ev_gf (rd np M L (by omega) rfl) rfl rfl rfl ?_
    refine ev_al (v := 6) (rd np M L (by omega) rfl) rfl rfl rfl ?_
    refine ev_ic rfl rfl ?_
    rw [show zbr .ge (nI 6) 6 87 16 = 87 from zge_t (n := 6) (by decide) (by omega) (by decide)]
    refine ev_s rfl ?_
    refine ev_ri rfl rfl ?_ ?_
    · rfl
    · rfl
  | succ k ih =>
    intro i hik v4 v5 
    have hi : i < 6 := by omega
    iterate 2 refine ev_s rfl ?_
    refine ev_gf (rd np M L (by omega) rfl) rfl rfl rfl ?_
    refine ev_gf (rd np M L (by omega) rfl) rfl rfl rfl ?_
    refine ev_al (v := 6) (rd np M L (by omega) rfl) rfl rfl rfl ?_
    refine ev_ic rfl rfl ?_
    rw [show zbr .ge (nI i) 6 87 16 = 16 from zge_f (n := 6) (by decide) hi (by decide)]
    refine ev_s rfl ?_
    refine ev_gf (rd np M L (by omega) rfl) rfl rfl rfl ?_
    refine ev_gf (rd np M L (by omega) rfl) rfl rfl rfl ?_
    refine ev_s rfl ?_
    refine ev_aa (v := (.ref (14 + i))) (rd np M L (by omega) rfl) rfl rfl (zin_nI (by omega) (by decide)) (by rw [if_pos (by omega)]; rfl) ?_
    refine ev_s (ls' := [some (.ref 11), some (.int 2), some (.int (stS M 2 i)), some (.int (nI i)), some (.ref (14 + i)), v5]) rfl ?_
    refine ev_s rfl ?_
    refine ev_gf (rd np M L (by omega) (cel_trial (by omega) _ _)) rfl rfl rfl ?_
    refine ev_if rfl rfl (ev_br (zb_eq _ _ _ _) (fun c1 => ?_) (fun c1 => ?_))
    · show Ev _ _ 81 _ _ _ _
      refine ev_inc (y := 1) (v := nI (i + 1)) (ls' := [some (.ref 11), some (.int 2), some (.int (stS M 2 i)), some (.int (nI (i + 1))), some (.ref (14 + i)), v5]) rfl rfl (by decide) (nI_1 _) rfl ?_
      refine ev_s rfl ?_
      have e9 := ih (i + 1) (by omega) (some (.ref (14 + i))) (v5)
      rw [show stS M 2 (i + 1) = _ from if_pos c1] at e9
      exact e9
    · show Ev _ _ 35 _ _ _ _
      refine ev_s rfl ?_
      refine ev_if rfl rfl ?_
      show Ev _ _ 47 _ _ _ _
      refine ev_s rfl ?_
      refine ev_ik (v := 1) rfl (by decide) ?_
      refine ev_ic rfl rfl ?_
      show Ev _ _ 60 _ _ _ _
      refine ev_s rfl ?_
      refine ev_gf (rd np M L (by omega) (cel_trial (by omega) _ _)) rfl rfl rfl ?_
      refine ev_s (ls' := [some (.ref 11), some (.int 2), some (.int (stS M 2 i)), some (.int (nI i)), some (.ref (14 + i)), some (.int (M (14 + i) 7))]) rfl ?_
      refine ev_s rfl ?_
      refine ev_ik (v := 1) rfl (by decide) ?_
      iterate 2 refine ev_s rfl ?_
      refine ev_cv (vs := [(.ref (14 + i)), (.int 2)]) (rest := [(.int 1), (.int (stS M 2 i))]) (rv := (some (.int (nOn (M (14 + i)) 2)))) rfl rfl rfl (rd np M L (by omega) (cel_trial (by omega) _ _)) rfl rfl rfl rfl (rn_numberOn (t := 2) (f := M (14 + i)) (rd np M L (by omega) (cel_trial (by omega) _ _)) (by omega) _) ?_
      show Ev _ _ 75 _ [(.int (nOn (M (14 + i)) 2)), (.int 1), (.int (stS M 2 i))] _ _
      iterate 4 refine ev_s rfl ?_
      refine ev_s (ls' := [some (.ref 11), some (.int 2), some (.int ((stS M 2 i) ||| (1 <<< (((nOn (M (14 + i)) 2) + (M (14 + i) 7)) &&& 31)))), some (.int (nI i)), some (.ref (14 + i)), some (.int (M (14 + i) 7))]) rfl ?_
      refine ev_inc (y := 1) (v := nI (i + 1)) (ls' := [some (.ref 11), some (.int 2), some (.int ((stS M 2 i) ||| (1 <<< (((nOn (M (14 + i)) 2) + (M (14 + i) 7)) &&& 31)))), some (.int (nI (i + 1))), some (.ref (14 + i)), some (.int (M (14 + i) 7))]) rfl rfl (by decide) (nI_1 _) rfl ?_
      refine ev_s rfl ?_
      have e9 := ih (i + 1) (by omega) (some (.ref (14 + i))) (some (.int (M (14 + i) 7)))
      rw [show stS M 2 (i + 1) = _ from if_neg c1] at e9
      exact e9
set_option maxHeartbeats 4000000 in
theorem rn_st2 {np : Nat} {M : Nat → Nat → Int32} {L : Nat → Int64}  (d : Nat) : Rn (d + 1) mX3_startsOn [(.ref 11), (.int 2)] (mk np M L) (some (.int (stS M 2 6))) (mk np M L) := by
  unfold Rn
  refine ev_ik (v := 1) rfl (by decide) ?_
  refine ev_s (ls' := [some (.ref 11), some (.int 2), some (.int 1), none, none, none]) rfl ?_
  refine ev_ik (v := 0) rfl (by decide) ?_
  refine ev_s (ls' := [some (.ref 11), some (.int 2), some (.int 1), some (.int 0), none, none]) rfl ?_
  exact lp_st2 d 6 0 (by omega) none none
end
section
set_option maxHeartbeats 4000000 in
theorem lp_fbx {np : Nat} {M : Nat → Nat → Int32} {L : Nat → Int64} {j X Z Wd Dp : Nat} (hj : j < 6) (hX : M (14 + j) 8 = nI X) (hZ : M (14 + j) 10 = nI Z) (hW : M (14 + j) 5 = nI Wd) (hDp : M (14 + j) 7 = nI Dp) (hb1 : X + Wd ≤ 12) (hb2 : Z + Dp ≤ 12) (d : Nat) {z : Nat} (hz1 : Z ≤ z) (hz2 : z < Z + Dp) (hK : (∀ x, X ≤ x → x < X + Wd → okc M j z x) → ∀ v4, Ev d mX3_isFreeAndBorne 81 [some (.ref 11), some (.ref (14 + j)), some (.int (nI z)), some (.int (nI (X + Wd))), v4] [] (mk np M L) (Qr mX3_isFreeAndBorne (some (.int (zi (frb M j X Z Wd Dp)))) (mk np M L))) : ∀ k x, x + k = X + Wd → ∀ v4, X ≤ x → (∀ q, X ≤ q → q < x → okc M j z q) → Ev d mX3_isFreeAndBorne 23 [some (.ref 11), some (.ref (14 + j)), some (.int (nI z)), some (.int (nI x)), v4] [] (mk np M L) (Qr mX3_isFreeAndBorne (some (.int (zi (frb M j X Z Wd Dp)))) (mk np M L)) := by
  intro k
  induction k with
  | zero =>
    intro x hxk v4 hx1 hI
    obtain rfl : x = X + Wd := by omega
    iterate 2 refine ev_s rfl ?_
    refine ev_gf (rd np M L (by omega) (cel_trial (by omega) _ _)) rfl rfl rfl ?_
    rw [hX]
    refine ev_s rfl ?_
    refine ev_gf (rd np M L (by omega) (cel_trial (by omega) _ _)) rfl rfl rfl ?_
    rw [hW]
    refine ev_s rfl ?_
    refine ev_ic rfl rfl ?_
    rw [show zbr .ge (nI (X + Wd)) ((nI X) + (nI Wd)) 81 36 = 81 from zge_t (n := X + Wd) (nI_add X Wd) (by omega) (by omega)]
    exact hK (fun q h1 h2 => hI q h1 h2) v4
  | succ k ih =>
    intro x hxk v4 hx1 hI
    have hx2 : x < X + Wd := by omega
    iterate 2 refine ev_s rfl ?_
    refine ev_gf (rd np M L (by omega) (cel_trial (by omega) _ _)) rfl rfl rfl ?_
    rw [hX]
    refine ev_s rfl ?_
    refine ev_gf (rd np M L (by omega) (cel_trial (by omega) _ _)) rfl rfl rfl ?_
    rw [hW]
    refine ev_s rfl ?_
    refine ev_ic rfl rfl ?_
    rw [show zbr .ge (nI x) ((nI X) + (nI Wd)) 81 36 = 36 from zge_f (n := X + Wd) (nI_add X Wd) hx2 (by omega)]
    refine ev_s rfl ?_
    refine ev_bi (v := 12) rfl (by decide) ?_
    iterate 3 refine ev_s rfl ?_
    rw [cellI z x]
    refine ev_s (ls' := [some (.ref 11), some (.ref (14 + j)), some (.int (nI z)), some (.int (nI x)), some (.int (nI (z * 12 + x)))]) rfl ?_
    refine ev_s rfl ?_
    refine ev_if rfl rfl ?_
    rw [show zbr .lt (nI (z * 12 + x)) 0 73 49 = 49 from zlt_f (by omega)]
    iterate 2 refine ev_s rfl ?_
    refine ev_gf (rd np M L (by omega) rfl) rfl rfl rfl ?_
    refine ev_al (v := 144) (rd np M L (by omega) rfl) rfl rfl rfl ?_
    refine ev_ic rfl rfl ?_
    rw [show zbr .ge (nI (z * 12 + x)) 144 73 59 = 59 from zge_f (n := 144) (by decide) (by omega) (by decide)]
    refine ev_s rfl ?_
    refine ev_gf (rd np M L (by omega) rfl) rfl rfl rfl ?_
    refine ev_s rfl ?_
    refine ev_ia (rd np M L (by omega) rfl) rfl (zin_nI (by omega) (by decide)) ?_
    refine ev_s rfl ?_
    refine ev_gf (rd np M L (by omega) (cel_trial (by omega) _ _)) rfl rfl rfl ?_
    refine ev_ic rfl rfl (ev_br (zb_eq _ _ _ _) (fun c1 => ?_) (fun c1 => ?_))
    · show Ev _ _ 75 _ _ _ _
      refine ev_inc (y := 1) (v := nI (x + 1)) (ls' := [some (.ref 11), some (.ref (14 + j)), some (.int (nI z)), some (.int (nI (x + 1))), some (.int (nI (z * 12 + x)))]) rfl rfl (by decide) (nI_1 _) rfl ?_
      refine ev_s rfl ?_
      exact ih (x + 1) (by omega) _ (by omega) (fun q hq1 hq2 => by
        rcases Nat.lt_or_ge q x with h | h
        · exact hI q hq1 h
        · obtain rfl : q = x := by omega
          exact c1)
    · show Ev _ _ 73 _ _ _ _
      refine ev_ik (v := 0) rfl (by decide) ?_
      refine ev_rz rfl rfl (by decide) ?_ ?_
      · exact some_i (zi_f (fun h => c1 (h z hz1 hz2 x hx1 hx2))).symm
      · rfl
set_option maxHeartbeats 4000000 in
theorem lp_fbz {np : Nat} {M : Nat → Nat → Int32} {L : Nat → Int64} {j X Z Wd Dp : Nat} (hj : j < 6) (hX : M (14 + j) 8 = nI X) (hZ : M (14 + j) 10 = nI Z) (hW : M (14 + j) 5 = nI Wd) (hDp : M (14 + j) 7 = nI Dp) (hb1 : X + Wd ≤ 12) (hb2 : Z + Dp ≤ 12) (d : Nat) : ∀ k z, z + k = Z + Dp → ∀ v3 v4, Z ≤ z → (∀ q, Z ≤ q → q < z → ∀ x, X ≤ x → x < X + Wd → okc M j q x) → Ev d mX3_isFreeAndBorne 5 [some (.ref 11), some (.ref (14 + j)), some (.int (nI z)), v3, v4] [] (mk np M L) (Qr mX3_isFreeAndBorne (some (.int (zi (frb M j X Z Wd Dp)))) (mk np M L)) := by
  intro k
  induction k with
  | zero =>
    intro z hzk v3 v4 hz1 hI
    obtain rfl : z = Z + Dp := by omega
    iterate 2 refine ev_s rfl ?_
    refine ev_gf (rd np M L (by omega) (cel_trial (by omega) _ _)) rfl rfl rfl ?_
    rw [hZ]
    refine ev_s rfl ?_
    refine ev_gf (rd np M L (by omega) (cel_trial (by omega) _ _)) rfl rfl rfl ?_
    rw [hDp]
    refine ev_s rfl ?_
    refine ev_ic rfl rfl ?_
    rw [show zbr .ge (nI (Z + Dp)) ((nI Z) + (nI Dp)) 87 18 = 87 from zge_t (n := Z + Dp) (nI_add Z Dp) (by omega) (by omega)]
    refine ev_ik (v := 1) rfl (by decide) ?_
    refine ev_rz rfl rfl (by decide) ?_ ?_
    · exact some_i (zi_t (fun q h1 h2 => hI q h1 h2)).symm
    · rfl
  | succ k ih =>
    intro z hzk v3 v4 hz1 hI
    have hz2 : z < Z + Dp := by omega
    iterate 2 refine ev_s rfl ?_
    refine ev_gf (rd np M L (by omega) (cel_trial (by omega) _ _)) rfl rfl rfl ?_
    rw [hZ]
    refine ev_s rfl ?_
    refine ev_gf (rd np M L (by omega) (cel_trial (by omega) _ _)) rfl rfl rfl ?_
    rw [hDp]
    refine ev_s rfl ?_
    refine ev_ic rfl rfl ?_
    rw [show zbr .ge (nI z) ((nI Z) + (nI Dp)) 87 18 = 18 from zge_f (n := Z + Dp) (nI_add Z Dp) hz2 (by omega)]
    refine ev_s rfl ?_
    refine ev_gf (rd np M L (by omega) (cel_trial (by omega) _ _)) rfl rfl rfl ?_
    rw [hX]
    refine ev_s (ls' := [some (.ref 11), some (.ref (14 + j)), some (.int (nI z)), some (.int (nI X)), v4]) rfl ?_
    refine lp_fbx hj hX hZ hW hDp hb1 hb2 d hz1 hz2 (fun hall v4 => ?_) Wd X (by omega) _ (by omega) (fun q h1 h2 => absurd h2 (by omega))
    refine ev_inc (y := 1) (v := nI (z + 1)) (ls' := [some (.ref 11), some (.ref (14 + j)), some (.int (nI (z + 1))), some (.int (nI (X + Wd))), v4]) rfl rfl (by decide) (nI_1 _) rfl ?_
    refine ev_s rfl ?_
    exact ih (z + 1) (by omega) _ _ (by omega) (fun q hq1 hq2 => by
      rcases Nat.lt_or_ge q z with h | h
      · exact hI q hq1 h
      · obtain rfl : q = z := by omega
        exact hall)
set_option maxHeartbeats 4000000 in
theorem rn_fb {np : Nat} {M : Nat → Nat → Int32} {L : Nat → Int64} {j X Z Wd Dp : Nat} (hj : j < 6) (hX : M (14 + j) 8 = nI X) (hZ : M (14 + j) 10 = nI Z) (hW : M (14 + j) 5 = nI Wd) (hDp : M (14 + j) 7 = nI Dp) (hb1 : X + Wd ≤ 12) (hb2 : Z + Dp ≤ 12) (d : Nat) : Rn d mX3_isFreeAndBorne [.ref 11, .ref (14 + j)] (mk np M L) (some (.int (zi (frb M j X Z Wd Dp)))) (mk np M L) := by
  unfold Rn
  refine ev_s rfl ?_
  refine ev_gf (rd np M L (by omega) (cel_trial (by omega) _ _)) rfl rfl rfl ?_
  rw [hZ]
  refine ev_s (ls' := [some (.ref 11), some (.ref (14 + j)), some (.int (nI Z)), none, none]) rfl ?_
  exact lp_fbz hj hX hZ hW hDp hb1 hb2 d Dp Z (by omega) _ _ (by omega) (fun q h1 h2 => absurd h2 (by omega))
end
section
set_option maxHeartbeats 4000000 in
theorem lp_shx {np : Nat} {M : Nat → Nat → Int32} {L : Nat → Int64} {j X Z Wd Dp : Nat} (hj : j < 6) (hX : M (14 + j) 8 = nI X) (hZ : M (14 + j) 10 = nI Z) (hW : M (14 + j) 5 = nI Wd) (hDp : M (14 + j) 7 = nI Dp) (hb1 : X + Wd ≤ 12) (hb2 : Z + Dp ≤ 12) {v : Int32} (d : Nat) {z : Nat} (hz1 : Z ≤ z) (hz2 : z < Z + Dp) (hK : ∀ v5, Ev d mX3_setHeights 76 [some (.ref 11), some (.ref (14 + j)), some (.int v), some (.int (nI z)), some (.int (nI (X + Wd))), v5] [] (mk np (hst M (rc X Z Wd z (X + Wd)) v) L) (Qr mX3_setHeights none (mk np (hst M (rc X Z Wd (Z + Dp) X) v) L))) : ∀ k x, x + k = X + Wd → ∀ v5, X ≤ x → Ev d mX3_setHeights 24 [some (.ref 11), some (.ref (14 + j)), some (.int v), some (.int (nI z)), some (.int (nI x)), v5] [] (mk np (hst M (rc X Z Wd z x) v) L) (Qr mX3_setHeights none (mk np (hst M (rc X Z Wd (Z + Dp) X) v) L)) := by
  intro k
  induction k with
  | zero =>
    intro x hxk v5 hx1
    obtain rfl : x = X + Wd := by omega
    iterate 2 refine ev_s rfl ?_
    refine ev_gf (rd np (hst M (rc X Z Wd z (X + Wd)) v) L (by omega) ((congrArg (fun r => cel np (14 + j) r (L (14 + j))) (hst_n (by omega))).trans (cel_trial (by omega) _ _))) rfl rfl rfl ?_
    rw [hX]
    refine ev_s rfl ?_
    refine ev_gf (rd np (hst M (rc X Z Wd z (X + Wd)) v) L (by omega) ((congrArg (fun r => cel np (14 + j) r (L (14 + j))) (hst_n (by omega))).trans (cel_trial (by omega) _ _))) rfl rfl rfl ?_
    rw [hW]
    refine ev_s rfl ?_
    refine ev_ic rfl rfl ?_
    rw [show zbr .ge (nI (X + Wd)) ((nI X) + (nI Wd)) 76 38 = 76 from zge_t (n := X + Wd) (nI_add X Wd) (by omega) (by omega)]
    exact hK _
  | succ k ih =>
    intro x hxk v5 hx1
    have hx2 : x < X + Wd := by omega
    iterate 2 refine ev_s rfl ?_
    refine ev_gf (rd np (hst M (rc X Z Wd z x) v) L (by omega) ((congrArg (fun r => cel np (14 + j) r (L (14 + j))) (hst_n (by omega))).trans (cel_trial (by omega) _ _))) rfl rfl rfl ?_
    rw [hX]
    refine ev_s rfl ?_
    refine ev_gf (rd np (hst M (rc X Z Wd z x) v) L (by omega) ((congrArg (fun r => cel np (14 + j) r (L (14 + j))) (hst_n (by omega))).trans (cel_trial (by omega) _ _))) rfl rfl rfl ?_
    rw [hW]
    refine ev_s rfl ?_
    refine ev_ic rfl rfl ?_
    rw [show zbr .ge (nI x) ((nI X) + (nI Wd)) 76 38 = 38 from zge_f (n := X + Wd) (nI_add X Wd) hx2 (by omega)]
    refine ev_s rfl ?_
    refine ev_bi (v := 12) rfl (by decide) ?_
    iterate 3 refine ev_s rfl ?_
    rw [cellI z x]
    refine ev_s (ls' := [some (.ref 11), some (.ref (14 + j)), some (.int v), some (.int (nI z)), some (.int (nI x)), some (.int (nI (z * 12 + x)))]) rfl ?_
    refine ev_s rfl ?_
    refine ev_if rfl rfl ?_
    rw [show zbr .lt (nI (z * 12 + x)) 0 70 52 = 52 from zlt_f (by omega)]
    iterate 2 refine ev_s rfl ?_
    refine ev_gf (rd np (hst M (rc X Z Wd z x) v) L (by omega) ((congrArg (fun r => cel np 11 r (L 11)) (hst_n (by omega))).trans rfl)) rfl rfl rfl ?_
    refine ev_al (v := 144) (rd np (hst M (rc X Z Wd z x) v) L (by omega) rfl) rfl rfl rfl ?_
    refine ev_ic rfl rfl ?_
    rw [show zbr .ge (nI (z * 12 + x)) 144 70 62 = 62 from zge_f (n := 144) (by decide) (by omega) (by decide)]
    refine ev_s rfl ?_
    refine ev_gf (rd np (hst M (rc X Z Wd z x) v) L (by omega) ((congrArg (fun r => cel np 11 r (L 11)) (hst_n (by omega))).trans rfl)) rfl rfl rfl ?_
    iterate 2 refine ev_s rfl ?_
    refine ev_is (hp' := (mk np (hst M (rc X Z Wd z (x + 1)) v) L)) (rd np (hst M (rc X Z Wd z x) v) L (by omega) rfl) rfl (zin_nI (by omega) (by decide)) ((mk_setr rfl rfl rfl).trans (congrArg (fun m => mk np m L) (hst_up (rc_step hz1 hx1 hx2)))) ?_
    refine ev_inc (y := 1) (v := nI (x + 1)) (ls' := [some (.ref 11), some (.ref (14 + j)), some (.int v), some (.int (nI z)), some (.int (nI (x + 1))), some (.int (nI (z * 12 + x)))]) rfl rfl (by decide) (nI_1 _) rfl ?_
    refine ev_s rfl ?_
    exact ih (x + 1) (by omega) _ (by omega)
set_option maxHeartbeats 4000000 in
theorem lp_shz {np : Nat} {M : Nat → Nat → Int32} {L : Nat → Int64} {j X Z Wd Dp : Nat} (hj : j < 6) (hX : M (14 + j) 8 = nI X) (hZ : M (14 + j) 10 = nI Z) (hW : M (14 + j) 5 = nI Wd) (hDp : M (14 + j) 7 = nI Dp) (hb1 : X + Wd ≤ 12) (hb2 : Z + Dp ≤ 12) {v : Int32} (d : Nat) : ∀ k z, z + k = Z + Dp → ∀ v4 v5, Z ≤ z → Ev d mX3_setHeights 5 [some (.ref 11), some (.ref (14 + j)), some (.int v), some (.int (nI z)), v4, v5] [] (mk np (hst M (rc X Z Wd z X) v) L) (Qr mX3_setHeights none (mk np (hst M (rc X Z Wd (Z + Dp) X) v) L)) := by
  intro k
  induction k with
  | zero =>
    intro z hzk v4 v5 hz1
    obtain rfl : z = Z + Dp := by omega
    iterate 2 refine ev_s rfl ?_
    refine ev_gf (rd np (hst M (rc X Z Wd (Z + Dp) X) v) L (by omega) ((congrArg (fun r => cel np (14 + j) r (L (14 + j))) (hst_n (by omega))).trans (cel_trial (by omega) _ _))) rfl rfl rfl ?_
    rw [hZ]
    refine ev_s rfl ?_
    refine ev_gf (rd np (hst M (rc X Z Wd (Z + Dp) X) v) L (by omega) ((congrArg (fun r => cel np (14 + j) r (L (14 + j))) (hst_n (by omega))).trans (cel_trial (by omega) _ _))) rfl rfl rfl ?_
    rw [hDp]
    refine ev_s rfl ?_
    refine ev_ic rfl rfl ?_
    rw [show zbr .ge (nI (Z + Dp)) ((nI Z) + (nI Dp)) 82 18 = 82 from zge_t (n := Z + Dp) (nI_add Z Dp) (by omega) (by omega)]
    refine ev_rv rfl rfl ?_ ?_
    · rfl
    · rfl
  | succ k ih =>
    intro z hzk v4 v5 hz1
    have hz2 : z < Z + Dp := by omega
    iterate 2 refine ev_s rfl ?_
    refine ev_gf (rd np (hst M (rc X Z Wd z X) v) L (by omega) ((congrArg (fun r => cel np (14 + j) r (L (14 + j))) (hst_n (by omega))).trans (cel_trial (by omega) _ _))) rfl rfl rfl ?_
    rw [hZ]
    refine ev_s rfl ?_
    refine ev_gf (rd np (hst M (rc X Z Wd z X) v) L (by omega) ((congrArg (fun r => cel np (14 + j) r (L (14 + j))) (hst_n (by omega))).trans (cel_trial (by omega) _ _))) rfl rfl rfl ?_
    rw [hDp]
    refine ev_s rfl ?_
    refine ev_ic rfl rfl ?_
    rw [show zbr .ge (nI z) ((nI Z) + (nI Dp)) 82 18 = 18 from zge_f (n := Z + Dp) (nI_add Z Dp) hz2 (by omega)]
    refine ev_s rfl ?_
    refine ev_gf (rd np (hst M (rc X Z Wd z X) v) L (by omega) ((congrArg (fun r => cel np (14 + j) r (L (14 + j))) (hst_n (by omega))).trans (cel_trial (by omega) _ _))) rfl rfl rfl ?_
    rw [hX]
    refine ev_s (ls' := [some (.ref 11), some (.ref (14 + j)), some (.int v), some (.int (nI z)), some (.int (nI X)), v5]) rfl ?_
    refine lp_shx hj hX hZ hW hDp hb1 hb2 d hz1 hz2 (fun v5 => ?_) Wd X (by omega) _ (by omega)
    refine ev_inc (y := 1) (v := nI (z + 1)) (ls' := [some (.ref 11), some (.ref (14 + j)), some (.int v), some (.int (nI (z + 1))), some (.int (nI (X + Wd))), v5]) rfl rfl (by decide) (nI_1 _) rfl ?_
    refine ev_s rfl ?_
    rw [rc_row hz1]
    exact ih (z + 1) (by omega) _ _ (by omega)
set_option maxHeartbeats 4000000 in
theorem rn_sh {np : Nat} {M : Nat → Nat → Int32} {L : Nat → Int64} {j X Z Wd Dp : Nat} (hj : j < 6) (hX : M (14 + j) 8 = nI X) (hZ : M (14 + j) 10 = nI Z) (hW : M (14 + j) 5 = nI Wd) (hDp : M (14 + j) 7 = nI Dp) (hb1 : X + Wd ≤ 12) (hb2 : Z + Dp ≤ 12) {v : Int32} (d : Nat) : Rn d mX3_setHeights [.ref 11, .ref (14 + j), .int v] (mk np M L) none (mk np (hst M (rc X Z Wd (Z + Dp) X) v) L) := by
  unfold Rn
  refine ev_s rfl ?_
  refine ev_gf (rd np M L (by omega) (cel_trial (by omega) _ _)) rfl rfl rfl ?_
  rw [hZ]
  refine ev_s (ls' := [some (.ref 11), some (.ref (14 + j)), some (.int v), some (.int (nI Z)), none, none]) rfl ?_
  have e9 := lp_shz (v := v) (np := np) (L := L) hj hX hZ hW hDp hb1 hb2 d Dp Z (by omega) none none (by omega)
  rw [hst_0] at e9
  exact e9
end
section
def btr (M : Nat → Nat → Int32) : Prop := M 11 5 < csum (gCell M 14) 6 ∨ csum (gCell M 14) 6 = M 11 5 ∧ ¬ M 11 6 ≤ csum (gWY M 14) 6
noncomputable def kbM (M : Nat → Nat → Int32) : Nat → Nat → Int32 := @ite _ (btr M) (Classical.propDecidable _) (up2 (up2 (cyM M 6) 11 5 (csum (gCell M 14) 6)) 11 6 (csum (gWY M 14) 6)) M
theorem kbM_t {M : Nat → Nat → Int32} (h : btr M) : kbM M = up2 (up2 (cyM M 6) 11 5 (csum (gCell M 14) 6)) 11 6 (csum (gWY M 14) 6) := by unfold kbM; exact if_pos h
theorem kbM_f {M : Nat → Nat → Int32} (h : ¬ btr M) : kbM M = M := by unfold kbM; exact if_neg h
set_option maxHeartbeats 4000000 in
theorem rn_kib {np : Nat} {M : Nat → Nat → Int32} {L : Nat → Int64} (hz : ∀ q, q < 6 → M (14 + q) 0 = 0 ∨ M (14 + q) 0 = 1) (d : Nat) : Rn (d + 3) mX3_keepIfBetter [.ref 11] (mk np M L) none (mk np (kbM M) L) := by
  unfold Rn
  obtain ⟨M1, hM1⟩ : ∃ M1, M1 = cyM M 6 := ⟨_, rfl⟩
  refine ev_s rfl ?_
  refine ev_gf (rd np M L (by omega) rfl) rfl rfl rfl ?_
  refine ev_cv (vs := [(.ref 12)]) (rest := []) (rv := (some (.int (csum (gCell M 14) 6)))) rfl rfl rfl (rd np M L (by omega) rfl) rfl rfl rfl rfl (rn_cells_t _) ?_
  show Ev _ _ 7 _ [(.int (csum (gCell M 14) 6))] _ _
  refine ev_s (ls' := [some (.ref 11), some (.int (csum (gCell M 14) 6)), none]) rfl ?_
  refine ev_s rfl ?_
  refine ev_gf (rd np M L (by omega) rfl) rfl rfl rfl ?_
  refine ev_cv (vs := [(.ref 12)]) (rest := []) (rv := (some (.int (csum (gWY M 14) 6)))) rfl rfl rfl (rd np M L (by omega) rfl) rfl rfl rfl rfl (rn_wy _) ?_
  show Ev _ _ 15 _ [(.int (csum (gWY M 14) 6))] _ _
  refine ev_s (ls' := [some (.ref 11), some (.int (csum (gCell M 14) 6)), some (.int (csum (gWY M 14) 6))]) rfl ?_
  iterate 2 refine ev_s rfl ?_
  refine ev_gf (rd np M L (by omega) rfl) rfl rfl rfl ?_
  refine ev_ic rfl rfl (ev_br (zb_gt _ _ _ _) (fun c1 => ?_) (fun c1 => ?_))
  · show Ev _ _ 40 _ _ _ _
    refine ev_s rfl ?_
    refine ev_gf (rd np M L (by omega) rfl) rfl rfl rfl ?_
    refine ev_s rfl ?_
    refine ev_gf (rd np M L (by omega) rfl) rfl rfl rfl ?_
    refine ev_cv (vs := [(.ref 3), (.ref 12)]) (rest := []) (rv := none) (hp' := (mk np M1 L)) rfl rfl rfl (rd np M L (by omega) rfl) rfl rfl rfl rfl (by rw [hM1]; exact rn_pkcopy hz _) ?_
    show Ev _ _ 51 _ [] _ _
    iterate 2 refine ev_s rfl ?_
    refine ev_pf (hp' := (mk np (up2 M1 11 5 (csum (gCell M 14) 6)) L)) (rd np M1 L (by omega) rfl) rfl rfl (by simp) rfl rfl (mk_setr rfl rfl rfl) ?_
    iterate 2 refine ev_s rfl ?_
    refine ev_pf (hp' := (mk np (up2 (up2 M1 11 5 (csum (gCell M 14) 6)) 11 6 (csum (gWY M 14) 6)) L)) (rd np (up2 M1 11 5 (csum (gCell M 14) 6)) L (by omega) ((congrArg (fun r => cel np 11 r (L 11)) ((up2_s _ _ _ _).trans (congrArg (fun r => upd r 5 (csum (gCell M 14) 6)) rfl))).trans rfl)) rfl rfl (by simp) rfl rfl (mk_setr ((up2_s _ _ _ _).trans (congrArg (fun r => upd r 5 (csum (gCell M 14) 6)) rfl)) rfl rfl) ?_
    refine ev_rv rfl rfl ?_ ?_
    · rfl
    · rw [kbM_t (Or.inl c1), hM1]
  · show Ev _ _ 24 _ _ _ _
    iterate 2 refine ev_s rfl ?_
    refine ev_gf (rd np M L (by omega) rfl) rfl rfl rfl ?_
    refine ev_ic rfl rfl (ev_bn (fun c2 => ?_) (fun c2 => ?_))
    · show Ev _ _ 61 _ _ _ _
      refine ev_rv rfl rfl ?_ ?_
      · rfl
      · rw [kbM_f (fun h => h.elim (fun q => c1 q) (fun q => c2 q.1))]
    · show Ev _ _ 32 _ _ _ _
      iterate 2 refine ev_s rfl ?_
      refine ev_gf (rd np M L (by omega) rfl) rfl rfl rfl ?_
      refine ev_ic rfl rfl (ev_br (zb_ge _ _ _ _) (fun c3 => ?_) (fun c3 => ?_))
      · show Ev _ _ 61 _ _ _ _
        refine ev_rv rfl rfl ?_ ?_
        · rfl
        · rw [kbM_f (fun h => h.elim (fun q => c1 q) (fun q => q.2 c3))]
      · show Ev _ _ 40 _ _ _ _
        refine ev_s rfl ?_
        refine ev_gf (rd np M L (by omega) rfl) rfl rfl rfl ?_
        refine ev_s rfl ?_
        refine ev_gf (rd np M L (by omega) rfl) rfl rfl rfl ?_
        refine ev_cv (vs := [(.ref 3), (.ref 12)]) (rest := []) (rv := none) (hp' := (mk np M1 L)) rfl rfl rfl (rd np M L (by omega) rfl) rfl rfl rfl rfl (by rw [hM1]; exact rn_pkcopy hz _) ?_
        show Ev _ _ 51 _ [] _ _
        iterate 2 refine ev_s rfl ?_
        refine ev_pf (hp' := (mk np (up2 M1 11 5 (csum (gCell M 14) 6)) L)) (rd np M1 L (by omega) rfl) rfl rfl (by simp) rfl rfl (mk_setr rfl rfl rfl) ?_
        iterate 2 refine ev_s rfl ?_
        refine ev_pf (hp' := (mk np (up2 (up2 M1 11 5 (csum (gCell M 14) 6)) 11 6 (csum (gWY M 14) 6)) L)) (rd np (up2 M1 11 5 (csum (gCell M 14) 6)) L (by omega) ((congrArg (fun r => cel np 11 r (L 11)) ((up2_s _ _ _ _).trans (congrArg (fun r => upd r 5 (csum (gCell M 14) 6)) rfl))).trans rfl)) rfl rfl (by simp) rfl rfl (mk_setr ((up2_s _ _ _ _).trans (congrArg (fun r => upd r 5 (csum (gCell M 14) 6)) rfl)) rfl rfl) ?_
        refine ev_rv rfl rfl ?_ ?_
        · rfl
        · rw [kbM_t (Or.inr ⟨c2, c3⟩), hM1]
def bgM (M : Nat → Nat → Int32) (np : Nat) : Nat → Nat → Nat → Int32
  | 0 => M
  | i + 1 => if i < np then stM (bgM M np i) (14 + i) (57 + i) else bgM M np i
def bg0 (M : Nat → Nat → Int32) (s : Int32) : Nat → Nat → Int32 := up2 (up2 (emM (up2 (up2 M 11 7 s) 11 8 0) 6) 11 5 0) 11 6 0
set_option maxHeartbeats 4000000 in
theorem lp_bg {np : Nat} {M : Nat → Nat → Int32} {L : Nat → Int64} {s : Int32} (d : Nat) : ∀ k i, i + k = 6 → Ev (d + 1) mX3_begin 29 [some (.ref 11), some (.int s), some (.int (nI i))] [] (mk np (bgM M np i) L) (Qr mX3_begin none (mk np (bgM M np 6) L)) := by
  intro k
  induction k with
  | zero =>
    intro i hik
    obtain rfl : i = 6 := by omega
    iterate 2 refine ev_s rfl ?_
    refine ev_gf (rd np (bgM M np 6) L (by omega) rfl) rfl rfl rfl ?_
    refine ev_al (v := 6) (rd np (bgM M np 6) L (by omega) rfl) rfl rfl rfl ?_
    refine ev_ic rfl rfl ?_
    rw [show zbr .ge (nI 6) 6 83 38 = 83 from zge_t (n := 6) (by decide) (by omega) (by decide)]
    refine ev_rv rfl rfl ?_ ?_
    · rfl
    · rfl
  | succ k ih =>
    intro i hik
    have hi : i < 6 := by omega
    have e9 := ih (i + 1) (by omega)
    by_cases hn : i < np
    · rw [show bgM M np (i + 1) = _ from if_pos hn] at e9
      iterate 2 refine ev_s rfl ?_
      refine ev_gf (rd np (bgM M np i) L (by omega) rfl) rfl rfl rfl ?_
      refine ev_al (v := 6) (rd np (bgM M np i) L (by omega) rfl) rfl rfl rfl ?_
      refine ev_ic rfl rfl ?_
      rw [show zbr .ge (nI i) 6 83 38 = 38 from zge_f (n := 6) (by decide) hi (by decide)]
      iterate 2 refine ev_s rfl ?_
      refine ev_gf (rd np (bgM M np i) L (by omega) rfl) rfl rfl rfl ?_
      refine ev_gf (rd np (bgM M np i) L (by omega) rfl) rfl rfl rfl ?_
      refine ev_al (v := 6) (rd np (bgM M np i) L (by omega) rfl) rfl rfl rfl ?_
      refine ev_ic rfl rfl ?_
      rw [show zbr .ge (nI i) 6 83 50 = 50 from zge_f (n := 6) (by decide) hi (by decide)]
      refine ev_s rfl ?_
      refine ev_gf (rd np (bgM M np i) L (by omega) rfl) rfl rfl rfl ?_
      refine ev_s rfl ?_
      refine ev_aa (v := (.ref (57 + i))) (rd np (bgM M np i) L (by omega) rfl) rfl rfl (zin_nI (by omega) (by decide)) (by rw [if_pos hn]; rfl) ?_
      iterate 2 refine ev_s rfl ?_
      refine ev_gf (rd np (bgM M np i) L (by omega) rfl) rfl rfl rfl ?_
      refine ev_gf (rd np (bgM M np i) L (by omega) rfl) rfl rfl rfl ?_
      refine ev_s rfl ?_
      refine ev_aa (v := (.ref (14 + i))) (rd np (bgM M np i) L (by omega) rfl) rfl rfl (zin_nI (by omega) (by decide)) (by rw [if_pos (by omega)]; rfl) ?_
      refine ev_s rfl ?_
      refine ev_gf (rd np (bgM M np i) L (by omega) rfl) rfl rfl rfl ?_
      refine ev_s rfl ?_
      refine ev_aa (v := (.ref (57 + i))) (rd np (bgM M np i) L (by omega) rfl) rfl rfl (zin_nI (by omega) (by decide)) (by rw [if_pos hn]; rfl) ?_
      refine ev_cv (vs := [(.ref (14 + i)), (.ref (57 + i))]) (rest := []) (rv := none) (hp' := (mk np (stM (bgM M np i) (14 + i) (57 + i)) L)) rfl rfl rfl (rd np (bgM M np i) L (by omega) (cel_trial (by omega) _ _)) rfl rfl rfl rfl (rn_startFor hi hn _) ?_
      show Ev _ _ 77 _ [] _ _
      refine ev_inc (y := 1) (v := nI (i + 1)) (ls' := [some (.ref 11), some (.int s), some (.int (nI (i + 1)))]) rfl rfl (by decide) (nI_1 _) rfl ?_
      refine ev_s rfl ?_
      exact e9
    · rw [show bgM M np (i + 1) = _ from if_neg hn] at e9
      iterate 2 refine ev_s rfl ?_
      refine ev_gf (rd np (bgM M np i) L (by omega) rfl) rfl rfl rfl ?_
      refine ev_al (v := 6) (rd np (bgM M np i) L (by omega) rfl) rfl rfl rfl ?_
      refine ev_ic rfl rfl ?_
      rw [show zbr .ge (nI i) 6 83 38 = 38 from zge_f (n := 6) (by decide) hi (by decide)]
      iterate 2 refine ev_s rfl ?_
      refine ev_gf (rd np (bgM M np i) L (by omega) rfl) rfl rfl rfl ?_
      refine ev_gf (rd np (bgM M np i) L (by omega) rfl) rfl rfl rfl ?_
      refine ev_al (v := 6) (rd np (bgM M np i) L (by omega) rfl) rfl rfl rfl ?_
      refine ev_ic rfl rfl ?_
      rw [show zbr .ge (nI i) 6 83 50 = 50 from zge_f (n := 6) (by decide) hi (by decide)]
      refine ev_s rfl ?_
      refine ev_gf (rd np (bgM M np i) L (by omega) rfl) rfl rfl rfl ?_
      refine ev_s rfl ?_
      refine ev_aa (v := .null) (rd np (bgM M np i) L (by omega) rfl) rfl rfl (zin_nI (by omega) (by decide)) (by rw [if_neg hn]; rfl) ?_
      refine ev_s rfl ?_
      refine ev_inc (y := 1) (v := nI (i + 1)) (ls' := [some (.ref 11), some (.int s), some (.int (nI (i + 1)))]) rfl rfl (by decide) (nI_1 _) rfl ?_
      refine ev_s rfl ?_
      exact e9
set_option maxHeartbeats 4000000 in
theorem rn_begin {np : Nat} {M : Nat → Nat → Int32} {L : Nat → Int64} {s : Int32} (d : Nat) : Rn (d + 1) mX3_begin [.ref 11, .int s] (mk np M L) none (mk np (bgM (bg0 M s) np 6) L) := by
  unfold Rn
  iterate 2 refine ev_s rfl ?_
  refine ev_pf (hp' := (mk np (up2 M 11 7 s) L)) (rd np M L (by omega) rfl) rfl rfl (by simp) rfl rfl (mk_setr rfl rfl rfl) ?_
  refine ev_s rfl ?_
  refine ev_ik (v := 0) rfl (by decide) ?_
  refine ev_pf (hp' := (mk np (up2 (up2 M 11 7 s) 11 8 0) L)) (rd np (up2 M 11 7 s) L (by omega) ((congrArg (fun r => cel np 11 r (L 11)) ((up2_s _ _ _ _).trans (congrArg (fun r => upd r 7 s) rfl))).trans rfl)) rfl rfl (by simp) rfl rfl (mk_setr ((up2_s _ _ _ _).trans (congrArg (fun r => upd r 7 s) rfl)) rfl rfl) ?_
  refine ev_s rfl ?_
  refine ev_gf (rd np (up2 (up2 M 11 7 s) 11 8 0) L (by omega) ((congrArg (fun r => cel np 11 r (L 11)) ((up2_s _ _ _ _).trans (congrArg (fun r => upd r 8 0) ((up2_s _ _ _ _).trans (congrArg (fun r => upd r 7 s) rfl))))).trans rfl)) rfl rfl rfl ?_
  refine ev_cv (vs := [(.ref 3)]) (rest := []) (rv := none) (hp' := (mk np (emM (up2 (up2 M 11 7 s) 11 8 0) 6) L)) rfl rfl rfl (rd np (up2 (up2 M 11 7 s) 11 8 0) L (by omega) ((congrArg (fun r => cel np 3 r (L 3)) ((up2_n (by omega)).trans ((up2_n (by omega)).trans rfl))).trans rfl)) rfl rfl rfl rfl (rn_empty _) ?_
  show Ev _ _ 17 _ [] _ _
  refine ev_s rfl ?_
  refine ev_ik (v := 0) rfl (by decide) ?_
  refine ev_pf (hp' := (mk np (up2 (emM (up2 (up2 M 11 7 s) 11 8 0) 6) 11 5 0) L)) (rd np (emM (up2 (up2 M 11 7 s) 11 8 0) 6) L (by omega) rfl) rfl rfl (by simp) rfl rfl (mk_setr rfl rfl rfl) ?_
  refine ev_s rfl ?_
  refine ev_ik (v := 0) rfl (by decide) ?_
  refine ev_pf (hp' := (mk np (up2 (up2 (emM (up2 (up2 M 11 7 s) 11 8 0) 6) 11 5 0) 11 6 0) L)) (rd np (up2 (emM (up2 (up2 M 11 7 s) 11 8 0) 6) 11 5 0) L (by omega) ((congrArg (fun r => cel np 11 r (L 11)) ((up2_s _ _ _ _).trans (congrArg (fun r => upd r 5 0) rfl))).trans rfl)) rfl rfl (by simp) rfl rfl (mk_setr ((up2_s _ _ _ _).trans (congrArg (fun r => upd r 5 0) rfl)) rfl rfl) ?_
  refine ev_ik (v := 0) rfl (by decide) ?_
  refine ev_s (ls' := [some (.ref 11), some (.int s), some (.int 0)]) rfl ?_
  exact lp_bg (M := bg0 M s) d 6 0 (by omega)
end
section
/-! ===== the class's search as a function of the numbers ===== -/
def tch (i h : Nat) : Prop := (5 ≤ h ∧ h < 12) ∨ (14 + i ≤ h ∧ h < 21)
def Bz (M : Nat → Nat → Int32) : Prop := ∀ q, q < 6 → M (14 + q) 0 = 0 ∨ M (14 + q) 0 = 1
/-- from M to M' only what place i and those behind it, the best, the heights and the search's own numbers hold has changed -/
def St (i : Nat) (M M' : Nat → Nat → Int32) : Prop := (∀ h, ¬ tch i h → M' h = M h) ∧ (Bz M → Bz M')
theorem St.rf (i : Nat) (M : Nat → Nat → Int32) : St i M M := ⟨fun _ _ => rfl, id⟩
theorem St.tr {i : Nat} {M M1 M2 : Nat → Nat → Int32} (a : St i M M1) (b : St i M1 M2) : St i M M2 := ⟨fun h hh => (b.1 h hh).trans (a.1 h hh), fun h => b.2 (a.2 h)⟩
theorem St.lo {i k : Nat} {M M1 : Nat → Nat → Int32} (a : St k M M1) (h : i ≤ k) : St i M M1 := ⟨fun q hq => a.1 q (fun z => hq (by unfold tch at *; omega)), a.2⟩
theorem St_11 {i k : Nat} {M : Nat → Nat → Int32} {v : Int32} : St i M (up2 M 11 k v) := ⟨fun h hh => up2_n (fun e => hh (by unfold tch; omega)), fun hb q hq => by rw [up2_n (by omega)]; exact hb q hq⟩
theorem St_pl {i j k : Nat} {M : Nat → Nat → Int32} {v : Int32} (hij : i ≤ j) (hj : j < 6) (hk : k = 0 → v = 0 ∨ v = 1) : St i M (up2 M (14 + j) k v) := by
  refine ⟨fun h hh => up2_n (fun e => hh (by unfold tch; omega)), fun hb q hq => ?_⟩
  by_cases e : q = j
  · subst e
    rw [up2_s]
    by_cases hk0 : k = 0
    · subst hk0; rw [upd_s]; exact hk rfl
    · rw [upd_n (Ne.symm hk0)]; exact hb q hq
  · rw [up2_n (by omega)]; exact hb q hq
theorem St_h {i : Nat} {M : Nat → Nat → Int32} {P : Nat → Prop} {v : Int32} (hi : i ≤ 6) : St i M (hst M P v) := ⟨fun h hh => hst_n (fun e => hh (by unfold tch; omega)), fun hb q hq => by rw [hst_n (by omega)]; exact hb q hq⟩
theorem cyM_in {M : Nat → Nat → Int32} {j : Nat} (hj : j < 5 ∨ 11 ≤ j) : cyM M 6 j = M j := cyM_n hj 6 (by omega)
theorem St_kb {i : Nat} {M : Nat → Nat → Int32} : St i M (kbM M) := by
  by_cases h : btr M
  · rw [kbM_t h]
    refine St.tr (M1 := cyM M 6) ⟨fun q hq => cyM_in (by unfold tch at hq; omega), fun hb q hq => by rw [cyM_in (by omega)]; exact hb q hq⟩ (St.tr St_11 St_11)
  · rw [kbM_f h]; exact St.rf _ _
theorem St_mv {i j : Nat} {M : Nat → Nat → Int32} {x y z : Int32} (hij : i ≤ j) (hj : j < 6) : St i M (mvM M (14 + j) x y z) := by
  unfold mvM
  exact St.tr (St_pl hij hj (by omega)) (St.tr (St_pl hij hj (by omega)) (St_pl hij hj (by omega)))
theorem St_to {i j q t : Nat} {M : Nat → Nat → Int32} (hij : i ≤ j) (hj : j < 6) : St i M (toM M (14 + j) q t) := by
  unfold toM
  exact St.tr (St_pl hij hj (by omega)) (St.tr (St_pl hij hj (by omega)) (St.tr (St_pl hij hj (by omega)) (St_pl hij hj (by omega))))
def nF (M : Nat → Nat → Int32) (j k : Nat) : Nat := (M (14 + j) k).toNatClampNeg
/-- the cells of the floor under place j -/
def rect (M : Nat → Nat → Int32) (j : Nat) : Nat → Prop := rc (nF M j 8) (nF M j 10) (nF M j 5) (nF M j 10 + nF M j 7) (nF M j 8)
noncomputable def cIf {α : Type} (P : Prop) (a b : α) : α := @ite _ P (Classical.propDecidable P) a b
theorem cIf_t {α : Type} {P : Prop} (h : P) (a b : α) : cIf P a b = a := by unfold cIf; exact if_pos h
theorem cIf_f {α : Type} {P : Prop} (h : ¬ P) (a b : α) : cIf P a b = b := by unfold cIf; exact if_neg h
theorem cIf_ind {α : Type} {P : Prop} {R : α → Prop} {a b : α} (ha : P → R a) (hb : ¬ P → R b) : R (cIf P a b) := by
  by_cases h : P
  · rw [cIf_t h]; exact ha h
  · rw [cIf_f h]; exact hb h
/-- before and behind the search below a step -/
noncomputable def ms3 (j : Nat) (M : Nat → Nat → Int32) : Nat → Nat → Int32 := hst (up2 (up2 M 11 8 (M 11 8 + 1)) (14 + j) 0 1) (rect M j) (M (14 + j) 9 + M (14 + j) 6)
noncomputable def mkS (K : (Nat → Nat → Int32) → (Nat → Nat → Int32)) (j : Nat) (M : Nat → Nat → Int32) : Nat → Nat → Int32 := up2 (hst (cIf (endd (ms3 j M)) (kbM (ms3 j M)) (K (ms3 j M))) (rect M j) (M (14 + j) 9)) (14 + j) 0 0
def fitC (M : Nat → Nat → Int32) (j : Nat) : Prop := frb M j (nF M j 8) (nF M j 10) (nF M j 5) (nF M j 7) ∧ (∀ i, i < 6 → ¬ badL M 14 j i) ∧ (∀ i, i < 6 → ¬ badO M 14 j i)
noncomputable def rowM (K : (Nat → Nat → Int32) → (Nat → Nat → Int32)) (j : Nat) (sx : Int32) : Nat → Nat → (Nat → Nat → Int32) → Nat → Nat → Int32
  | 0, _, M => M
  | n + 1, x, M => cIf (cHt sx (nI x)) (cIf (fitC (up2 M (14 + j) 8 (nI x)) j) (cIf (endd (mkS K j (up2 M (14 + j) 8 (nI x)))) (mkS K j (up2 M (14 + j) 8 (nI x))) (rowM K j sx n (x + 1) (mkS K j (up2 M (14 + j) 8 (nI x))))) (rowM K j sx n (x + 1) (up2 M (14 + j) 8 (nI x)))) (rowM K j sx n (x + 1) M)
noncomputable def zlM (K : (Nat → Nat → Int32) → (Nat → Nat → Int32)) (j : Nat) (sx sz : Int32) (nx y : Nat) : Nat → Nat → (Nat → Nat → Int32) → Nat → Nat → Int32
  | 0, _, M => M
  | n + 1, z, M => cIf (endd M) M (cIf (cHt sz (nI z)) (zlM K j sx sz nx y n (z + 1) (rowM K j sx nx 0 (mvM M (14 + j) 0 (nI y) (nI z)))) (zlM K j sx sz nx y n (z + 1) M))
noncomputable def ylM (K : (Nat → Nat → Int32) → (Nat → Nat → Int32)) (j : Nat) (sx sy sz : Int32) (nx nz : Nat) : Nat → Nat → (Nat → Nat → Int32) → Nat → Nat → Int32
  | 0, _, M => M
  | n + 1, y, M => cIf (cHt sy (nI y)) (ylM K j sx sy sz nx nz n (y + 1) (zlM K j sx sz nx y nz 0 M)) (ylM K j sx sy sz nx nz n (y + 1) M)
/-- how many places there are for place j in a direction of length n (its own is field k) -/
def cnt (M : Nat → Nat → Int32) (j k n : Nat) : Nat := n + 1 - nF M j k
noncomputable def trM (K : (Nat → Nat → Int32) → (Nat → Nat → Int32)) (w h d j : Nat) (sx sy sz : Int32) (M : Nat → Nat → Int32) : Nat → Nat → Int32 := ylM K j sx sy sz (cnt M j 5 w) (cnt M j 7 d) (cnt M j 6 h) 0 M
noncomputable def tlM (K : (Nat → Nat → Int32) → (Nat → Nat → Int32)) (w h d j : Nat) (sx sy sz : Int32) : Nat → Nat → (Nat → Nat → Int32) → Nat → Nat → Int32
  | 0, _, M => M
  | n + 1, t, M => cIf (endd M) M (cIf (cHt (M (57 + j) 7) (nI t)) (tlM K w h d j sx sy sz n (t + 1) (trM K w h d j sx sy sz (toM M (14 + j) (57 + j) t))) (tlM K w h d j sx sy sz n (t + 1) M))
noncomputable def seM (K : (Nat → Nat → Int32) → (Nat → Nat → Int32)) (w h d j : Nat) (M : Nat → Nat → Int32) : Nat → Nat → Int32 :=
  cIf (endd (tlM K w h d j (stS M 0 6) (stS M 1 6) (stS M 2 6) 6 0 M)) (tlM K w h d j (stS M 0 6) (stS M 1 6) (stS M 2 6) 6 0 M) (K (tlM K w h d j (stS M 0 6) (stS M 1 6) (stS M 2 6) 6 0 M))
noncomputable def skM (w h d : Nat) : Nat → Nat → (Nat → Nat → Int32) → Nat → Nat → Int32
  | 0, _, M => kbM M
  | r + 1, j, M => seM (skM w h d r (j + 1)) w h d j M
section PS
variable {K : (Nat → Nat → Int32) → (Nat → Nat → Int32)} {j : Nat}
theorem ms3_St (hj : j < 6) (M : Nat → Nat → Int32) : St j M (ms3 j M) := St.tr St_11 (St.tr (St_pl (Nat.le_refl _) hj (fun _ => Or.inr rfl)) (St_h (by omega)))
theorem ms3_row (hj : j < 6) (M : Nat → Nat → Int32) : ms3 j M (14 + j) = upd (M (14 + j)) 0 1 := by
  unfold ms3
  rw [hst_n (by omega), up2_s, up2_n (by omega)]
theorem mk_K (hK : ∀ M, St (j + 1) M (K M)) (hj : j < 6) (M : Nat → Nat → Int32) : St (j + 1) M (cIf (endd M) (kbM M) (K M)) := cIf_ind (fun _ => St_kb) (fun _ => hK M)
theorem mkS_St (hK : ∀ M, St (j + 1) M (K M)) (hj : j < 6) (M : Nat → Nat → Int32) : St j M (mkS K j M) := St.tr (ms3_St hj M) (St.tr (St.lo (mk_K hK hj (ms3 j M)) (by omega)) (St.tr (St_h (by omega)) (St_pl (Nat.le_refl _) hj (fun _ => Or.inl rfl))))
/-- a step leaves its place as it was, out again -/
theorem mkS_row (hK : ∀ M, St (j + 1) M (K M)) (hj : j < 6) (M : Nat → Nat → Int32) : mkS K j M (14 + j) = upd (M (14 + j)) 0 0 := by
  unfold mkS
  rw [up2_s, hst_n (by omega), (mk_K hK hj (ms3 j M)).1 (14 + j) (by unfold tch; omega), ms3_row hj, upd_upd]
/-- what a walk below place j keeps: the frame, and place j's own numbers but where it is out (0), its x (8) -/
def Sj (j : Nat) (M M' : Nat → Nat → Int32) : Prop := St j M M' ∧ ∀ k, k ≠ 0 → k ≠ 8 → M' (14 + j) k = M (14 + j) k
theorem Sj.rf (M : Nat → Nat → Int32) : Sj j M M := ⟨St.rf _ _, fun _ _ _ => rfl⟩
theorem Sj.tr {M M1 M2 : Nat → Nat → Int32} (a : Sj j M M1) (b : Sj j M1 M2) : Sj j M M2 := ⟨a.1.tr b.1, fun k h0 h8 => (b.2 k h0 h8).trans (a.2 k h0 h8)⟩
theorem Sj_x (hj : j < 6) (M : Nat → Nat → Int32) (v : Int32) : Sj j M (up2 M (14 + j) 8 v) := ⟨St_pl (Nat.le_refl _) hj (by omega), fun k _ h8 => by rw [up2_s, upd_n h8]⟩
theorem mkS_Sj (hK : ∀ M, St (j + 1) M (K M)) (hj : j < 6) (M : Nat → Nat → Int32) : Sj j M (mkS K j M) := ⟨mkS_St hK hj M, fun k h0 _ => by rw [mkS_row hK hj, upd_n h0]⟩
theorem rowM_Sj (hK : ∀ M, St (j + 1) M (K M)) (hj : j < 6) (sx : Int32) : ∀ (n x : Nat) (M : Nat → Nat → Int32), Sj j M (rowM K j sx n x M)
  | 0, x, M => Sj.rf M
  | n + 1, x, M => by
    unfold rowM
    refine cIf_ind (fun _ => cIf_ind (fun _ => cIf_ind (fun _ => ?_) (fun _ => ?_)) (fun _ => ?_)) (fun _ => rowM_Sj hK hj sx n (x + 1) M)
    · exact (Sj_x hj M _).tr (mkS_Sj hK hj _)
    · exact (Sj_x hj M _).tr ((mkS_Sj hK hj _).tr (rowM_Sj hK hj sx n (x + 1) _))
    · exact (Sj_x hj M _).tr (rowM_Sj hK hj sx n (x + 1) _)
/-- what a walk through the places of a turn keeps: the frame, turn and lengths of place j -/
def Sl (j : Nat) (M M' : Nat → Nat → Int32) : Prop := St j M M' ∧ ∀ k, k = 5 ∨ k = 6 ∨ k = 7 → M' (14 + j) k = M (14 + j) k
theorem Sl.rf (M : Nat → Nat → Int32) : Sl j M M := ⟨St.rf _ _, fun _ _ => rfl⟩
theorem Sl.tr {M M1 M2 : Nat → Nat → Int32} (a : Sl j M M1) (b : Sl j M1 M2) : Sl j M M2 := ⟨a.1.tr b.1, fun k h => (b.2 k h).trans (a.2 k h)⟩
theorem Sj.sl {M M1 : Nat → Nat → Int32} (a : Sj j M M1) : Sl j M M1 := ⟨a.1, fun k h => a.2 k (by omega) (by omega)⟩
theorem Sl_mv (hj : j < 6) (M : Nat → Nat → Int32) (x y z : Int32) : Sl j M (mvM M (14 + j) x y z) := ⟨St_mv (Nat.le_refl _) hj, fun k h => by unfold mvM; rw [up2_s, upd_n (by omega), up2_s, upd_n (by omega), up2_s, upd_n (by omega)]⟩
theorem zlM_Sl (hK : ∀ M, St (j + 1) M (K M)) (hj : j < 6) (sx sz : Int32) (nx y : Nat) : ∀ (n z : Nat) (M : Nat → Nat → Int32), Sl j M (zlM K j sx sz nx y n z M)
  | 0, z, M => Sl.rf M
  | n + 1, z, M => by
    unfold zlM
    refine cIf_ind (fun _ => Sl.rf M) (fun _ => cIf_ind (fun _ => ?_) (fun _ => zlM_Sl hK hj sx sz nx y n (z + 1) M))
    exact (Sl_mv hj M _ _ _).tr ((rowM_Sj hK hj sx nx 0 _).sl.tr (zlM_Sl hK hj sx sz nx y n (z + 1) _))
theorem ylM_Sl (hK : ∀ M, St (j + 1) M (K M)) (hj : j < 6) (sx sy sz : Int32) (nx nz : Nat) : ∀ (n y : Nat) (M : Nat → Nat → Int32), Sl j M (ylM K j sx sy sz nx nz n y M)
  | 0, y, M => Sl.rf M
  | n + 1, y, M => by
    unfold ylM
    refine cIf_ind (fun _ => ?_) (fun _ => ylM_Sl hK hj sx sy sz nx nz n (y + 1) M)
    exact (zlM_Sl hK hj sx sz nx y nz 0 M).tr (ylM_Sl hK hj sx sy sz nx nz n (y + 1) _)
theorem trM_St (hK : ∀ M, St (j + 1) M (K M)) (hj : j < 6) (w h d : Nat) (sx sy sz : Int32) (M : Nat → Nat → Int32) : St j M (trM K w h d j sx sy sz M) := (ylM_Sl hK hj sx sy sz _ _ _ 0 M).1
theorem tlM_St (hK : ∀ M, St (j + 1) M (K M)) (hj : j < 6) (w h d : Nat) (sx sy sz : Int32) : ∀ (n t : Nat) (M : Nat → Nat → Int32), St j M (tlM K w h d j sx sy sz n t M)
  | 0, t, M => St.rf _ M
  | n + 1, t, M => by
    unfold tlM
    refine cIf_ind (fun _ => St.rf _ M) (fun _ => cIf_ind (fun _ => ?_) (fun _ => tlM_St hK hj w h d sx sy sz n (t + 1) M))
    exact (St_to (Nat.le_refl _) hj).tr ((trM_St hK hj w h d sx sy sz _).tr (tlM_St hK hj w h d sx sy sz n (t + 1) _))
theorem seM_St (hK : ∀ M, St (j + 1) M (K M)) (hj : j < 6) (w h d : Nat) (M : Nat → Nat → Int32) : St j M (seM K w h d j M) := by
  unfold seM
  exact cIf_ind (fun _ => tlM_St hK hj w h d _ _ _ 6 0 M) (fun _ => (tlM_St hK hj w h d _ _ _ 6 0 M).tr (St.lo (hK _) (by omega)))
end PS
theorem skM_St (w h d : Nat) : ∀ (r j : Nat) (M : Nat → Nat → Int32), j + r ≤ 6 → St j M (skM w h d r j M)
  | 0, j, M, _ => St_kb
  | r + 1, j, M, hr => by
    unfold skM
    exact seM_St (fun M => skM_St w h d r (j + 1) M (by omega)) (by omega) w h d M
end
section
/-! ===== Search: the recursion ===== -/
set_option maxHeartbeats 1000000 in
theorem zgo_deep : ∀ (n d mi pc : Nat) (ls : zLs) (st : List Value) (hp : zHp) (x : zCf), zgo n d mi pc ls st hp = some x → zgo n (d + 1) mi pc ls st hp = some x := by
  intro n
  induction n with
  | zero => intro d mi pc ls st hp x h; simp [zgo] at h
  | succ n ih =>
    intro d mi pc ls st hp x h
    rw [zgo] at h ⊢
    split at h
    · cases h
    · split at h
      · next hs => rw [if_pos hs]; exact h
      · next hs =>
        rw [if_neg hs]
        split at h
        · split at h
          · cases h
          · split at h
            · cases h
            · next hst =>
              rw [if_neg hst]
              split at h
              · cases h
              · next h1 =>
                split at h
                · cases h
                · next h2 =>
                  rw [ih _ _ _ _ _ _ _ h1]
                  simp only [h2]
                  exact ih _ _ _ _ _ _ _ h
        · split at h
          · cases h
          · exact ih _ _ _ _ _ _ _ h
theorem Rn_up {d mj : Nat} {vs : List Value} {hp hp' : zHp} {r : Option Value} (h : Rn d mj vs hp r hp') : Rn (d + 1) mj vs hp r hp' := by
  obtain ⟨n, x, h1, h2⟩ := h
  exact ⟨n, x, zgo_deep _ _ _ _ _ _ _ _ h1, h2⟩
theorem Rn_le {d e mj : Nat} {vs : List Value} {hp hp' : zHp} {r : Option Value} (h : Rn d mj vs hp r hp') (hd : d ≤ e) : Rn e mj vs hp r hp' := by
  obtain ⟨k, rfl⟩ := Nat.exists_eq_add_of_le hd
  clear hd
  induction k with
  | zero => exact h
  | succ k ih => exact Rn_up ih
def OKc (np w h d : Nat) (M : Nat → Nat → Int32) : Prop := np ≤ 6 ∧ Bz M ∧ M 1 0 = nI w ∧ M 1 1 = nI h ∧ M 1 2 = nI d ∧ w ≤ 12 ∧ h ≤ 12 ∧ d ≤ 12 ∧ ∀ p, p < np → ∀ k, k < 3 → ∃ a, 1 ≤ a ∧ a ≤ 12 ∧ M (57 + p) k = nI a
theorem OKc.st {np w h d i : Nat} {M M' : Nat → Nat → Int32} (o : OKc np w h d M) (s : St i M M') : OKc np w h d M' := by
  obtain ⟨h1, h2, h3, h4, h5, h6, h7, h8, h9⟩ := o
  have e1 : M' 1 = M 1 := s.1 1 (by unfold tch; omega)
  refine ⟨h1, s.2 h2, by rw [e1]; exact h3, by rw [e1]; exact h4, by rw [e1]; exact h5, h6, h7, h8, fun p hp k hk => ?_⟩
  rw [s.1 (57 + p) (by unfold tch; omega)]
  exact h9 p hp k hk
theorem nF_of {M : Nat → Nat → Int32} {j k a : Nat} (h : M (14 + j) k = nI a) (ha : a < 2 ^ 31) : nF M j k = a := by unfold nF; rw [h, nI_clamp ha]
theorem rect_of {M : Nat → Nat → Int32} {j X Z Wd Dp : Nat} (hX : M (14 + j) 8 = nI X) (hZ : M (14 + j) 10 = nI Z) (hW : M (14 + j) 5 = nI Wd) (hDp : M (14 + j) 7 = nI Dp) (h1 : X + Wd ≤ 12) (h2 : Z + Dp ≤ 12) : rect M j = rc X Z Wd (Z + Dp) X := by
  unfold rect
  rw [nF_of hX (by omega), nF_of hZ (by omega), nF_of hW (by omega), nF_of hDp (by omega)]

set_option maxHeartbeats 4000000 in
theorem tl_mkS {np : Nat} {M : Nat → Nat → Int32} {L : Nat → Int64} {j X Z Wd Dp : Nat} (hj : j < 6) (hX : M (14 + j) 8 = nI X) (hZ : M (14 + j) 10 = nI Z) (hW : M (14 + j) 5 = nI Wd) (hDp : M (14 + j) 7 = nI Dp) (hb1 : X + Wd ≤ 12) (hb2 : Z + Dp ≤ 12) {M4 : Nat → Nat → Int32} (h4 : M4 (14 + j) = upd (M (14 + j)) 0 1) (i1 : Int32) (f : Nat) : Ev (f + 5) mX3_makeStep 50 [some (.ref 11), some (.int i1), some (.ref (14 + j))] [] (mk np M4 L) (Qr mX3_makeStep none (mk np (up2 (hst M4 (rect M j) (M (14 + j) 9)) (14 + j) 0 0) L)) := by
  have hs2 : Rn (f + 4) mX3_setHeights [.ref 11, .ref (14 + j), .int (M (14 + j) 9)] (mk np M4 L) none (mk np (hst M4 (rect M j) (M (14 + j) 9)) L) := by
    rw [rect_of hX hZ hW hDp hb1 hb2]
    exact rn_sh (M := M4) hj (by rw [h4]; exact hX) (by rw [h4]; exact hZ) (by rw [h4]; exact hW) (by rw [h4]; exact hDp) hb1 hb2 _
  obtain ⟨M5, hM5⟩ : ∃ M5, M5 = hst M4 (rect M j) (M (14 + j) 9) := ⟨_, rfl⟩
  rw [← hM5] at hs2 ⊢
  iterate 3 refine ev_s rfl ?_
  refine ev_gf (rd np M4 L (by omega) ((congrArg (fun r => cel np (14 + j) r (L (14 + j))) h4).trans (cel_trial (by omega) _ _))) rfl rfl rfl ?_
  refine ev_cv (vs := [(.ref 11), (.ref (14 + j)), (.int (M (14 + j) 9))]) (rest := []) (rv := none) (hp' := (mk np M5 L)) rfl rfl rfl (rd np M4 L (by omega) rfl) rfl rfl rfl rfl hs2 ?_
  show Ev _ _ 59 _ [] _ _
  refine ev_s rfl ?_
  refine ev_ik (v := 0) rfl (by decide) ?_
  refine ev_pf (hp' := (mk np (up2 M5 (14 + j) 0 0) L)) (rd np M5 L (by omega) (cel_trial (by omega) _ _)) rfl rfl (by simp) rfl rfl (mk_setr rfl (cel_trial (by omega) _ _) rfl) ?_
  refine ev_rv rfl rfl ?_ ?_
  · rfl
  · rfl
set_option maxHeartbeats 4000000 in
theorem rn_mkS {np : Nat} {M : Nat → Nat → Int32} {L : Nat → Int64} {K : (Nat → Nat → Int32) → (Nat → Nat → Int32)} {w h dd : Nat} {j X Z Wd Dp : Nat} (hj : j < 6) (hX : M (14 + j) 8 = nI X) (hZ : M (14 + j) 10 = nI Z) (hW : M (14 + j) 5 = nI Wd) (hDp : M (14 + j) 7 = nI Dp) (hb1 : X + Wd ≤ 12) (hb2 : Z + Dp ≤ 12) {f : Nat} (hKs : ∀ M, St (j + 1) M (K M)) (hKr : ∀ M, OKc np w h dd M → Rn (f + 4) mX3_seek [.ref 11, .int (nI (j + 1))] (mk np M L) none (mk np (K M) L)) (ok : OKc np w h dd M) : Rn (f + 5) mX3_makeStep [.ref 11, .int (nI j), .ref (14 + j)] (mk np M L) none (mk np (mkS K j M) L) := by
  obtain ⟨M2, hM2⟩ : ∃ M2, M2 = up2 (up2 M 11 8 (M 11 8 + 1)) (14 + j) 0 1 := ⟨_, rfl⟩
  have r2 : M2 (14 + j) = upd (M (14 + j)) 0 1 := by rw [hM2, up2_s, up2_n (by omega)]
  have hs1 : Rn (f + 4) mX3_setHeights [.ref 11, .ref (14 + j), .int (M (14 + j) 9 + M (14 + j) 6)] (mk np M2 L) none (mk np (ms3 j M) L) := by
    unfold ms3
    rw [rect_of hX hZ hW hDp hb1 hb2, ← hM2]
    exact rn_sh (M := M2) hj (by rw [r2]; exact hX) (by rw [r2]; exact hZ) (by rw [r2]; exact hW) (by rw [r2]; exact hDp) hb1 hb2 _
  rw [hM2] at hs1
  have ok3 : OKc np w h dd (ms3 j M) := ok.st (ms3_St hj M)
  unfold Rn
  iterate 2 refine ev_s rfl ?_
  refine ev_gf (rd np M L (by omega) rfl) rfl rfl rfl ?_
  refine ev_ik (v := 1) rfl (by decide) ?_
  refine ev_s rfl ?_
  refine ev_pf (hp' := (mk np (up2 M 11 8 ((M 11 8) + 1)) L)) (rd np M L (by omega) rfl) rfl rfl (by simp) rfl rfl (mk_setr rfl rfl rfl) ?_
  refine ev_s rfl ?_
  refine ev_ik (v := 1) rfl (by decide) ?_
  refine ev_pf (hp' := (mk np (up2 (up2 M 11 8 ((M 11 8) + 1)) (14 + j) 0 1) L)) (rd np (up2 M 11 8 ((M 11 8) + 1)) L (by omega) ((congrArg (fun r => cel np (14 + j) r (L (14 + j))) ((up2_n (by omega)).trans rfl)).trans (cel_trial (by omega) _ _))) rfl rfl (by simp) rfl rfl (mk_setr ((up2_n (by omega)).trans rfl) (cel_trial (by omega) _ _) rfl) ?_
  iterate 3 refine ev_s rfl ?_
  refine ev_gf (rd np (up2 (up2 M 11 8 ((M 11 8) + 1)) (14 + j) 0 1) L (by omega) ((congrArg (fun r => cel np (14 + j) r (L (14 + j))) ((up2_s _ _ _ _).trans (congrArg (fun r => upd r 0 1) ((up2_n (by omega)).trans rfl)))).trans (cel_trial (by omega) _ _))) rfl rfl rfl ?_
  refine ev_s rfl ?_
  refine ev_gf (rd np (up2 (up2 M 11 8 ((M 11 8) + 1)) (14 + j) 0 1) L (by omega) ((congrArg (fun r => cel np (14 + j) r (L (14 + j))) ((up2_s _ _ _ _).trans (congrArg (fun r => upd r 0 1) ((up2_n (by omega)).trans rfl)))).trans (cel_trial (by omega) _ _))) rfl rfl rfl ?_
  refine ev_s rfl ?_
  refine ev_cv (vs := [(.ref 11), (.ref (14 + j)), (.int ((M (14 + j) 9) + (M (14 + j) 6)))]) (rest := []) (rv := none) (hp' := (mk np (ms3 j M) L)) rfl rfl rfl (rd np (up2 (up2 M 11 8 ((M 11 8) + 1)) (14 + j) 0 1) L (by omega) ((congrArg (fun r => cel np 11 r (L 11)) ((up2_n (by omega)).trans ((up2_s _ _ _ _).trans (congrArg (fun r => upd r 8 ((M 11 8) + 1)) rfl)))).trans rfl)) rfl rfl rfl rfl hs1 ?_
  show Ev _ _ 29 _ [] _ _
  refine ev_s rfl ?_
  refine ev_cv (vs := [(.ref 11)]) (rest := []) (rv := (some (.int (zi (endd (ms3 j M)))))) rfl rfl rfl (rd np (ms3 j M) L (by omega) rfl) rfl rfl rfl rfl (rn_ended (M := ms3 j M) _) ?_
  show Ev _ _ 33 _ [(.int (zi (endd (ms3 j M))))] _ _
  refine ev_if rfl rfl (ev_bze (fun c1 => ?_) (fun c1 => ?_))
  · show Ev _ _ 43 _ _ _ _
    iterate 2 refine ev_s rfl ?_
    refine ev_ik (v := 1) rfl (by decide) ?_
    refine ev_s rfl ?_
    rw [nI_1 j]
    refine ev_cv (vs := [(.ref 11), (.int (nI (j + 1)))]) (rest := []) (rv := none) (hp' := (mk np (K (ms3 j M)) L)) rfl rfl rfl (rd np (ms3 j M) L (by omega) rfl) rfl rfl rfl rfl (hKr (ms3 j M) ok3) ?_
    show Ev _ _ 50 _ [] _ _
    rw [show mkS K j M = _ from congrArg (fun q => up2 (hst q (rect M j) (M (14 + j) 9)) (14 + j) 0 0) (cIf_f c1 _ _)]
    exact tl_mkS hj hX hZ hW hDp hb1 hb2 (by rw [(hKs (ms3 j M)).1 (14 + j) (by unfold tch; omega)]; exact ms3_row hj M) _ f
  · show Ev _ _ 36 _ _ _ _
    refine ev_s rfl ?_
    refine ev_cv (vs := [(.ref 11)]) (rest := []) (rv := none) (hp' := (mk np (kbM (ms3 j M)) L)) rfl rfl rfl (rd np (ms3 j M) L (by omega) rfl) rfl rfl rfl rfl (rn_kib (M := ms3 j M) ok3.2.1 (f + 1)) ?_
    show Ev _ _ 40 _ [] _ _
    refine ev_s rfl ?_
    rw [show mkS K j M = _ from congrArg (fun q => up2 (hst q (rect M j) (M (14 + j) 9)) (14 + j) 0 0) (cIf_t c1 _ _)]
    exact tl_mkS hj hX hZ hW hDp hb1 hb2 (by rw [(St_kb (i := j + 1)).1 (14 + j) (by unfold tch; omega)]; exact ms3_row hj M) _ f
end
section
/-! ===== seekInRow, seekInTurn, seek ===== -/
theorem zgt_t {x w a t f : Nat} (h : w < x + a) (hx : x < 2 ^ 20) (hw : w < 2 ^ 20) (ha : a < 2 ^ 20) : zbr .gt (nI x) (nI w - nI a) t f = t := by
  refine if_pos ?_
  rw [Int32.lt_iff_toInt_lt, pk_sub_toInt (by omega) (by omega), nI_toInt (by omega)]
  omega
theorem zgt_f {x w a t f : Nat} (h : x + a ≤ w) (hx : x < 2 ^ 20) (hw : w < 2 ^ 20) (ha : a < 2 ^ 20) : zbr .gt (nI x) (nI w - nI a) t f = f := by
  refine if_neg ?_
  rw [Int32.lt_iff_toInt_lt, pk_sub_toInt (by omega) (by omega), nI_toInt (by omega)]
  omega
theorem tdim {np w h d : Nat} {M : Nat → Nat → Int32} (ok : OKc np w h d M) {j t : Nat} (hj : j < np) (ht : t < 6) : ∃ a b c, (1 ≤ a ∧ a ≤ 12) ∧ (1 ≤ b ∧ b ≤ 12) ∧ (1 ≤ c ∧ c ≤ 12) ∧ tW (M (57 + j)) t = nI a ∧ tH (M (57 + j)) t = nI b ∧ tD (M (57 + j)) t = nI c := by
  obtain ⟨a0, h1, h2, h3⟩ := ok.2.2.2.2.2.2.2.2 j hj 0 (by omega)
  obtain ⟨a1, h4, h5, h6⟩ := ok.2.2.2.2.2.2.2.2 j hj 1 (by omega)
  obtain ⟨a2, h7, h8, h9⟩ := ok.2.2.2.2.2.2.2.2 j hj 2 (by omega)
  match t, ht with
  | 0, _ => exact ⟨a0, a1, a2, ⟨h1, h2⟩, ⟨h4, h5⟩, ⟨h7, h8⟩, h3, h6, h9⟩
  | 1, _ => exact ⟨a2, a1, a0, ⟨h7, h8⟩, ⟨h4, h5⟩, ⟨h1, h2⟩, h9, h6, h3⟩
  | 2, _ => exact ⟨a0, a2, a1, ⟨h1, h2⟩, ⟨h7, h8⟩, ⟨h4, h5⟩, h3, h9, h6⟩
  | 3, _ => exact ⟨a1, a2, a0, ⟨h4, h5⟩, ⟨h7, h8⟩, ⟨h1, h2⟩, h6, h9, h3⟩
  | 4, _ => exact ⟨a2, a0, a1, ⟨h7, h8⟩, ⟨h1, h2⟩, ⟨h4, h5⟩, h9, h3, h6⟩
  | 5, _ => exact ⟨a1, a0, a2, ⟨h4, h5⟩, ⟨h1, h2⟩, ⟨h7, h8⟩, h6, h3, h9⟩
  | t + 6, ht => exact absurd ht (by omega)

set_option maxHeartbeats 4000000 in
theorem lp_row {np : Nat} {L : Nat → Int64} {K : (Nat → Nat → Int32) → (Nat → Nat → Int32)} {w h dd : Nat} {f j : Nat} (hj : j < 6) (hKs : ∀ M, St (j + 1) M (K M)) (hKr : ∀ M, OKc np w h dd M → Rn (f + 4) mX3_seek [.ref 11, .int (nI (j + 1))] (mk np M L) none (mk np (K M) L)) {sx : Int32} {wd dp z : Nat} (hz : z + dp ≤ 12) (hwd : wd ≤ 12) : ∀ n x M, n = w + 1 - (x + wd) → OKc np w h dd M → M (14 + j) 5 = nI wd → M (14 + j) 7 = nI dp → M (14 + j) 10 = nI z → x ≤ 13 → Ev (f + 6) mX3_seekInRow 3 [some (.ref 11), some (.int (nI j)), some (.ref (14 + j)), some (.int sx), some (.int (nI w - nI wd)), some (.int (nI x))] [] (mk np M L) (Qr mX3_seekInRow none (mk np (rowM K j sx n x M) L)) := by
  intro n
  induction n with
  | zero =>
    intro x M hn ok h5 h7 h10 hx13
    have hw12 := ok.2.2.2.2.2.1
    iterate 2 refine ev_s rfl ?_
    refine ev_ic rfl rfl ?_
    rw [show zbr .gt (nI x) ((nI w) - (nI wd)) 78 10 = 78 from zgt_t (by omega) (by omega) (by omega) (by omega)]
    refine ev_rv rfl rfl ?_ ?_
    · rfl
    · rfl
  | succ n ih =>
    intro x M hn ok h5 h7 h10 hx13
    have hw12 := ok.2.2.2.2.2.1
    have hxw : x + wd ≤ w := by omega
    obtain ⟨M1, hM1⟩ : ∃ M1, M1 = up2 M (14 + j) 8 (nI x) := ⟨_, rfl⟩
    have s1 : Sj j M M1 := by rw [hM1]; exact Sj_x hj M _
    have ok1 : OKc np w h dd M1 := ok.st s1.1
    have q5 : M1 (14 + j) 5 = nI wd := (s1.2 5 (by omega) (by omega)).trans h5
    have q7 : M1 (14 + j) 7 = nI dp := (s1.2 7 (by omega) (by omega)).trans h7
    have q10 : M1 (14 + j) 10 = nI z := (s1.2 10 (by omega) (by omega)).trans h10
    have q8 : M1 (14 + j) 8 = nI x := by rw [hM1, up2_s, upd_s]
    have hfr : frb M1 j (nF M1 j 8) (nF M1 j 10) (nF M1 j 5) (nF M1 j 7) = frb M1 j x z wd dp := by rw [nF_of q8 (by omega), nF_of q10 (by omega), nF_of q5 (by omega), nF_of q7 (by omega)]
    have hun : rowM K j sx (n + 1) x M = cIf (cHt sx (nI x)) (cIf (fitC M1 j) (cIf (endd (mkS K j M1)) (mkS K j M1) (rowM K j sx n (x + 1) (mkS K j M1))) (rowM K j sx n (x + 1) M1)) (rowM K j sx n (x + 1) M) := by rw [hM1]; rfl
    have s2 : Sj j M1 (mkS K j M1) := mkS_Sj hKs hj M1
    have hstep := rn_mkS (M := M1) (K := K) (np := np) (L := L) (f := f) hj q8 q10 q5 q7 (by omega) hz hKs hKr ok1
    rw [hun]
    iterate 2 refine ev_s rfl ?_
    refine ev_ic rfl rfl ?_
    rw [show zbr .gt (nI x) ((nI w) - (nI wd)) 78 10 = 10 from zgt_f hxw (by omega) (by omega) (by omega)]
    iterate 3 refine ev_s rfl ?_
    refine ev_ik (v := 1) rfl (by decide) ?_
    refine ev_s rfl ?_
    refine ev_if rfl rfl (ev_bn (fun c1 => ?_) (fun c1 => ?_))
    · show Ev _ _ 22 _ _ _ _
      iterate 2 refine ev_s rfl ?_
      refine ev_pf (hp' := (mk np (up2 M (14 + j) 8 (nI x)) L)) (rd np M L (by omega) (cel_trial (by omega) _ _)) rfl rfl (by simp) rfl rfl (mk_setr rfl (cel_trial (by omega) _ _) rfl) ?_
      rw [← hM1]
      iterate 2 refine ev_s rfl ?_
      refine ev_cv (vs := [(.ref 11), (.ref (14 + j))]) (rest := []) (rv := (some (.int (zi (frb M1 j x z wd dp))))) rfl rfl rfl (rd np M1 L (by omega) rfl) rfl rfl rfl rfl (rn_fb (M := M1) hj q8 q10 q5 q7 (by omega) hz _) ?_
      show Ev _ _ 33 _ [(.int (zi (frb M1 j x z wd dp)))] _ _
      refine ev_if rfl rfl (ev_bze (fun c2 => ?_) (fun c2 => ?_))
      · show Ev _ _ 72 _ _ _ _
        refine ev_inc (y := 1) (v := nI (x + 1)) (ls' := [some (.ref 11), some (.int (nI j)), some (.ref (14 + j)), some (.int sx), some (.int ((nI w) - (nI wd))), some (.int (nI (x + 1)))]) rfl rfl (by decide) (nI_1 _) rfl ?_
        refine ev_s rfl ?_
        rw [cIf_t (show cHt sx (nI x) from c1), cIf_f (show ¬ fitC M1 j from fun q => c2 (by rw [← hfr]; exact q.1))]
        exact ih (x + 1) M1 (by omega) ok1 q5 q7 q10 (by omega)
      · show Ev _ _ 36 _ _ _ _
        refine ev_s rfl ?_
        refine ev_gf (rd np M1 L (by omega) rfl) rfl rfl rfl ?_
        refine ev_s rfl ?_
        refine ev_cv (vs := [(.ref 12), (.ref (14 + j))]) (rest := []) (rv := (some (.int (zi (∀ i, i < 6 → ¬ badL M1 14 j i))))) rfl rfl rfl (rd np M1 L (by omega) rfl) rfl rfl rfl rfl (rn_kl (M := M1) hj _) ?_
        show Ev _ _ 44 _ [(.int (zi (∀ i, i < 6 → ¬ badL M1 14 j i)))] _ _
        refine ev_if rfl rfl (ev_bze (fun c3 => ?_) (fun c3 => ?_))
        · show Ev _ _ 72 _ _ _ _
          refine ev_inc (y := 1) (v := nI (x + 1)) (ls' := [some (.ref 11), some (.int (nI j)), some (.ref (14 + j)), some (.int sx), some (.int ((nI w) - (nI wd))), some (.int (nI (x + 1)))]) rfl rfl (by decide) (nI_1 _) rfl ?_
          refine ev_s rfl ?_
          rw [cIf_t (show cHt sx (nI x) from c1), cIf_f (show ¬ fitC M1 j from fun q => c3 q.2.1)]
          exact ih (x + 1) M1 (by omega) ok1 q5 q7 q10 (by omega)
        · show Ev _ _ 47 _ _ _ _
          refine ev_s rfl ?_
          refine ev_gf (rd np M1 L (by omega) rfl) rfl rfl rfl ?_
          refine ev_s rfl ?_
          refine ev_cv (vs := [(.ref 12), (.ref (14 + j))]) (rest := []) (rv := (some (.int (zi (∀ i, i < 6 → ¬ badO M1 14 j i))))) rfl rfl rfl (rd np M1 L (by omega) rfl) rfl rfl rfl rfl (rn_ko (M := M1) hj _) ?_
          show Ev _ _ 55 _ [(.int (zi (∀ i, i < 6 → ¬ badO M1 14 j i)))] _ _
          refine ev_if rfl rfl (ev_bze (fun c4 => ?_) (fun c4 => ?_))
          · show Ev _ _ 72 _ _ _ _
            refine ev_inc (y := 1) (v := nI (x + 1)) (ls' := [some (.ref 11), some (.int (nI j)), some (.ref (14 + j)), some (.int sx), some (.int ((nI w) - (nI wd))), some (.int (nI (x + 1)))]) rfl rfl (by decide) (nI_1 _) rfl ?_
            refine ev_s rfl ?_
            rw [cIf_t (show cHt sx (nI x) from c1), cIf_f (show ¬ fitC M1 j from fun q => c4 q.2.2)]
            exact ih (x + 1) M1 (by omega) ok1 q5 q7 q10 (by omega)
          · show Ev _ _ 58 _ _ _ _
            iterate 3 refine ev_s rfl ?_
            refine ev_cv (vs := [(.ref 11), (.int (nI j)), (.ref (14 + j))]) (rest := []) (rv := none) (hp' := (mk np (mkS K j M1) L)) rfl rfl rfl (rd np M1 L (by omega) rfl) rfl rfl rfl rfl hstep ?_
            show Ev _ _ 64 _ [] _ _
            refine ev_s rfl ?_
            refine ev_cv (vs := [(.ref 11)]) (rest := []) (rv := (some (.int (zi (endd (mkS K j M1)))))) rfl rfl rfl (rd np (mkS K j M1) L (by omega) rfl) rfl rfl rfl rfl (rn_ended (M := mkS K j M1) _) ?_
            show Ev _ _ 68 _ [(.int (zi (endd (mkS K j M1))))] _ _
            refine ev_if rfl rfl (ev_bze (fun c5 => ?_) (fun c5 => ?_))
            · show Ev _ _ 72 _ _ _ _
              refine ev_inc (y := 1) (v := nI (x + 1)) (ls' := [some (.ref 11), some (.int (nI j)), some (.ref (14 + j)), some (.int sx), some (.int ((nI w) - (nI wd))), some (.int (nI (x + 1)))]) rfl rfl (by decide) (nI_1 _) rfl ?_
              refine ev_s rfl ?_
              rw [cIf_t (show cHt sx (nI x) from c1), cIf_t (show fitC M1 j from ⟨by rw [hfr]; exact c2, c3, c4⟩), cIf_f c5]
              exact ih (x + 1) (mkS K j M1) (by omega) (ok1.st s2.1) ((s2.2 5 (by omega) (by omega)).trans q5) ((s2.2 7 (by omega) (by omega)).trans q7) ((s2.2 10 (by omega) (by omega)).trans q10) (by omega)
            · show Ev _ _ 71 _ _ _ _
              refine ev_rv rfl rfl ?_ ?_
              · rfl
              · rw [cIf_t (show cHt sx (nI x) from c1), cIf_t (show fitC M1 j from ⟨by rw [hfr]; exact c2, c3, c4⟩), cIf_t c5]
    · show Ev _ _ 19 _ _ _ _
      refine ev_s rfl ?_
      refine ev_inc (y := 1) (v := nI (x + 1)) (ls' := [some (.ref 11), some (.int (nI j)), some (.ref (14 + j)), some (.int sx), some (.int ((nI w) - (nI wd))), some (.int (nI (x + 1)))]) rfl rfl (by decide) (nI_1 _) rfl ?_
      refine ev_s rfl ?_
      rw [cIf_f (show ¬ cHt sx (nI x) from fun q => q c1)]
      exact ih (x + 1) M (by omega) ok h5 h7 h10 (by omega)
set_option maxHeartbeats 4000000 in
theorem rn_row {np : Nat} {L : Nat → Int64} {K : (Nat → Nat → Int32) → (Nat → Nat → Int32)} {w h dd : Nat} {f j : Nat} (hj : j < 6) (hKs : ∀ M, St (j + 1) M (K M)) (hKr : ∀ M, OKc np w h dd M → Rn (f + 4) mX3_seek [.ref 11, .int (nI (j + 1))] (mk np M L) none (mk np (K M) L)) {sx : Int32} {wd dp z : Nat} (hz : z + dp ≤ 12) (hwd : wd ≤ 12) {M : Nat → Nat → Int32} (ok : OKc np w h dd M) (h5 : M (14 + j) 5 = nI wd) (h7 : M (14 + j) 7 = nI dp) (h10 : M (14 + j) 10 = nI z) : Rn (f + 6) mX3_seekInRow [.ref 11, .int (nI j), .ref (14 + j), .int sx, .int (nI w - nI wd)] (mk np M L) none (mk np (rowM K j sx (w + 1 - wd) 0 M) L) := by
  unfold Rn
  refine ev_ik (v := 0) rfl (by decide) ?_
  refine ev_s (ls' := [some (.ref 11), some (.int (nI j)), some (.ref (14 + j)), some (.int sx), some (.int ((nI w) - (nI wd))), some (.int 0)]) rfl ?_
  exact lp_row hj hKs hKr hz hwd (w + 1 - wd) 0 M (by omega) ok h5 h7 h10 (by omega)
set_option maxHeartbeats 4000000 in
theorem lp_zl {np : Nat} {L : Nat → Int64} {K : (Nat → Nat → Int32) → (Nat → Nat → Int32)} {w h dd : Nat} {f j : Nat} (hj : j < 6) (hKs : ∀ M, St (j + 1) M (K M)) (hKr : ∀ M, OKc np w h dd M → Rn (f + 4) mX3_seek [.ref 11, .int (nI (j + 1))] (mk np M L) none (mk np (K M) L)) {sx sy sz : Int32} {wd hh dp y : Nat} (hwd : wd ≤ 12) (hdp : dp ≤ 12) {Q : zCf → Prop} : ∀ n z M, n = dd + 1 - (z + dp) → z ≤ 13 → OKc np w h dd M → M (14 + j) 5 = nI wd → M (14 + j) 7 = nI dp → (∀ v10, Ev (f + 7) mX3_seekInTurn 116 [some (.ref 11), some (.int (nI j)), some (.ref (14 + j)), some (.int sx), some (.int sy), some (.int sz), some (.int (nI w - nI wd)), some (.int (nI h - nI hh)), some (.int (nI dd - nI dp)), some (.int (nI y)), v10] [] (mk np (zlM K j sx sz (w + 1 - wd) y n z M) L) Q) → Ev (f + 7) mX3_seekInTurn 68 [some (.ref 11), some (.int (nI j)), some (.ref (14 + j)), some (.int sx), some (.int sy), some (.int sz), some (.int (nI w - nI wd)), some (.int (nI h - nI hh)), some (.int (nI dd - nI dp)), some (.int (nI y)), some (.int (nI z))] [] (mk np M L) Q := by
  intro n
  induction n with
  | zero =>
    intro z M hn hz13 ok h5 h7 hK
    have hd12 := ok.2.2.2.2.2.2.2.1
    iterate 2 refine ev_s rfl ?_
    refine ev_ic rfl rfl ?_
    rw [show zbr .gt (nI z) ((nI dd) - (nI dp)) 116 75 = 116 from zgt_t (by omega) (by omega) (by omega) (by omega)]
    exact hK _
  | succ n ih =>
    intro z M hn hz13 ok h5 h7 hK
    have hd12 := ok.2.2.2.2.2.2.2.1
    have hzd : z + dp ≤ dd := by omega
    have hun : zlM K j sx sz (w + 1 - wd) y (n + 1) z M = cIf (endd M) M (cIf (cHt sz (nI z)) (zlM K j sx sz (w + 1 - wd) y n (z + 1) (rowM K j sx (w + 1 - wd) 0 (mvM M (14 + j) 0 (nI y) (nI z)))) (zlM K j sx sz (w + 1 - wd) y n (z + 1) M)) := rfl
    rw [hun] at hK
    obtain ⟨M1, hM1⟩ : ∃ M1, M1 = mvM M (14 + j) 0 (nI y) (nI z) := ⟨_, rfl⟩
    have s1 : Sl j M M1 := by rw [hM1]; exact Sl_mv hj M _ _ _
    rw [← hM1] at hK
    have ok1 : OKc np w h dd M1 := ok.st s1.1
    have q5 : M1 (14 + j) 5 = nI wd := (s1.2 5 (by omega)).trans h5
    have q7 : M1 (14 + j) 7 = nI dp := (s1.2 7 (by omega)).trans h7
    have q10 : M1 (14 + j) 10 = nI z := by rw [hM1]; unfold mvM; rw [up2_s, upd_s]
    have hmv : Rn (f + 6) mX2_moveTo [.ref (14 + j), .int 0, .int (nI y), .int (nI z)] (mk np M L) none (mk np M1 L) := by rw [hM1]; exact rn_moveTo_t hj _
    have hrow := rn_row (K := K) (np := np) (L := L) (f := f) (sx := sx) hj hKs hKr (show z + dp ≤ 12 by omega) hwd ok1 q5 q7 q10
    have s2 : Sl j M1 (rowM K j sx (w + 1 - wd) 0 M1) := (rowM_Sj hKs hj sx _ 0 M1).sl
    iterate 2 refine ev_s rfl ?_
    refine ev_ic rfl rfl ?_
    rw [show zbr .gt (nI z) ((nI dd) - (nI dp)) 116 75 = 75 from zgt_f hzd (by omega) (by omega) (by omega)]
    refine ev_s rfl ?_
    refine ev_cv (vs := [(.ref 11)]) (rest := []) (rv := (some (.int (zi (endd M))))) rfl rfl rfl (rd np M L (by omega) rfl) rfl rfl rfl rfl (rn_ended _) ?_
    show Ev _ _ 79 _ [(.int (zi (endd M)))] _ _
    refine ev_if rfl rfl (ev_bzn (fun c1 => ?_) (fun c1 => ?_))
    · show Ev _ _ 116 _ _ _ _
      rw [cIf_t c1] at hK
      exact hK _
    · show Ev _ _ 82 _ _ _ _
      iterate 2 refine ev_s rfl ?_
      refine ev_cs (vs := [(.int sz), (.int (nI z))]) (rest := []) (rv := (some (.int (zi (cHt sz (nI z)))))) rfl rfl rfl rfl rfl (rn_hasBit _) ?_
      show Ev _ _ 89 _ [(.int (zi (cHt sz (nI z))))] _ _
      refine ev_if rfl rfl (ev_bze (fun c2 => ?_) (fun c2 => ?_))
      · show Ev _ _ 110 _ _ _ _
        refine ev_inc (y := 1) (v := nI (z + 1)) (ls' := [some (.ref 11), some (.int (nI j)), some (.ref (14 + j)), some (.int sx), some (.int sy), some (.int sz), some (.int ((nI w) - (nI wd))), some (.int ((nI h) - (nI hh))), some (.int ((nI dd) - (nI dp))), some (.int (nI y)), some (.int (nI (z + 1)))]) rfl rfl (by decide) (nI_1 _) rfl ?_
        refine ev_s rfl ?_
        rw [cIf_f c1, cIf_f c2] at hK
        exact ih (z + 1) M (by omega) (by omega) ok h5 h7 hK
      · show Ev _ _ 92 _ _ _ _
        refine ev_s rfl ?_
        refine ev_ik (v := 0) rfl (by decide) ?_
        iterate 2 refine ev_s rfl ?_
        refine ev_cv (vs := [(.ref (14 + j)), (.int 0), (.int (nI y)), (.int (nI z))]) (rest := []) (rv := none) (hp' := (mk np M1 L)) rfl rfl rfl (rd np M L (by omega) (cel_trial (by omega) _ _)) rfl rfl rfl rfl hmv ?_
        show Ev _ _ 101 _ [] _ _
        iterate 5 refine ev_s rfl ?_
        refine ev_cv (vs := [(.ref 11), (.int (nI j)), (.ref (14 + j)), (.int sx), (.int ((nI w) - (nI wd)))]) (rest := []) (rv := none) (hp' := (mk np (rowM K j sx (w + 1 - wd) 0 M1) L)) rfl rfl rfl (rd np M1 L (by omega) rfl) rfl rfl rfl rfl hrow ?_
        show Ev _ _ 110 _ [] _ _
        refine ev_inc (y := 1) (v := nI (z + 1)) (ls' := [some (.ref 11), some (.int (nI j)), some (.ref (14 + j)), some (.int sx), some (.int sy), some (.int sz), some (.int ((nI w) - (nI wd))), some (.int ((nI h) - (nI hh))), some (.int ((nI dd) - (nI dp))), some (.int (nI y)), some (.int (nI (z + 1)))]) rfl rfl (by decide) (nI_1 _) rfl ?_
        refine ev_s rfl ?_
        rw [cIf_f c1, cIf_t c2] at hK
        exact ih (z + 1) _ (by omega) (by omega) (ok1.st s2.1) ((s2.2 5 (by omega)).trans q5) ((s2.2 7 (by omega)).trans q7) hK
set_option maxHeartbeats 4000000 in
theorem lp_yl {np : Nat} {L : Nat → Int64} {K : (Nat → Nat → Int32) → (Nat → Nat → Int32)} {w h dd : Nat} {f j : Nat} (hj : j < 6) (hKs : ∀ M, St (j + 1) M (K M)) (hKr : ∀ M, OKc np w h dd M → Rn (f + 4) mX3_seek [.ref 11, .int (nI (j + 1))] (mk np M L) none (mk np (K M) L)) {sx sy sz : Int32} {wd hh dp : Nat} (hwd : wd ≤ 12) (hdp : dp ≤ 12) (hhh : hh ≤ 12) : ∀ n y M v10, n = h + 1 - (y + hh) → y ≤ 13 → OKc np w h dd M → M (14 + j) 5 = nI wd → M (14 + j) 7 = nI dp → Ev (f + 7) mX3_seekInTurn 45 [some (.ref 11), some (.int (nI j)), some (.ref (14 + j)), some (.int sx), some (.int sy), some (.int sz), some (.int (nI w - nI wd)), some (.int (nI h - nI hh)), some (.int (nI dd - nI dp)), some (.int (nI y)), v10] [] (mk np M L) (Qr mX3_seekInTurn none (mk np (ylM K j sx sy sz (w + 1 - wd) (dd + 1 - dp) n y M) L)) := by
  intro n
  induction n with
  | zero =>
    intro y M v10 hn hy13 ok h5 h7
    have hh12 := ok.2.2.2.2.2.2.1
    iterate 2 refine ev_s rfl ?_
    refine ev_ic rfl rfl ?_
    rw [show zbr .gt (nI y) ((nI h) - (nI hh)) 122 52 = 122 from zgt_t (by omega) (by omega) (by omega) (by omega)]
    refine ev_rv rfl rfl ?_ ?_
    · rfl
    · rfl
  | succ n ih =>
    intro y M v10 hn hy13 ok h5 h7
    have hh12 := ok.2.2.2.2.2.2.1
    have hyh : y + hh ≤ h := by omega
    have hun : ylM K j sx sy sz (w + 1 - wd) (dd + 1 - dp) (n + 1) y M = cIf (cHt sy (nI y)) (ylM K j sx sy sz (w + 1 - wd) (dd + 1 - dp) n (y + 1) (zlM K j sx sz (w + 1 - wd) y (dd + 1 - dp) 0 M)) (ylM K j sx sy sz (w + 1 - wd) (dd + 1 - dp) n (y + 1) M) := rfl
    rw [hun]
    have s2 : Sl j M (zlM K j sx sz (w + 1 - wd) y (dd + 1 - dp) 0 M) := zlM_Sl hKs hj sx sz _ y _ 0 M
    iterate 2 refine ev_s rfl ?_
    refine ev_ic rfl rfl ?_
    rw [show zbr .gt (nI y) ((nI h) - (nI hh)) 122 52 = 52 from zgt_f hyh (by omega) (by omega) (by omega)]
    iterate 2 refine ev_s rfl ?_
    refine ev_cs (vs := [(.int sy), (.int (nI y))]) (rest := []) (rv := (some (.int (zi (cHt sy (nI y)))))) rfl rfl rfl rfl rfl (rn_hasBit _) ?_
    show Ev _ _ 59 _ [(.int (zi (cHt sy (nI y))))] _ _
    refine ev_if rfl rfl (ev_bzn (fun c1 => ?_) (fun c1 => ?_))
    · show Ev _ _ 65 _ _ _ _
      refine ev_ik (v := 0) rfl (by decide) ?_
      refine ev_s (ls' := [some (.ref 11), some (.int (nI j)), some (.ref (14 + j)), some (.int sx), some (.int sy), some (.int sz), some (.int ((nI w) - (nI wd))), some (.int ((nI h) - (nI hh))), some (.int ((nI dd) - (nI dp))), some (.int (nI y)), some (.int 0)]) rfl ?_
      rw [cIf_t c1]
      refine lp_zl hj hKs hKr hwd hdp (dd + 1 - dp) 0 M (by omega) (by omega) ok h5 h7 (fun v11 => ?_)
      refine ev_inc (y := 1) (v := nI (y + 1)) (ls' := [some (.ref 11), some (.int (nI j)), some (.ref (14 + j)), some (.int sx), some (.int sy), some (.int sz), some (.int ((nI w) - (nI wd))), some (.int ((nI h) - (nI hh))), some (.int ((nI dd) - (nI dp))), some (.int (nI (y + 1))), v11]) rfl rfl (by decide) (nI_1 _) rfl ?_
      refine ev_s rfl ?_
      exact ih (y + 1) _ _ (by omega) (by omega) (ok.st s2.1) ((s2.2 5 (by omega)).trans h5) ((s2.2 7 (by omega)).trans h7)
    · show Ev _ _ 62 _ _ _ _
      refine ev_s rfl ?_
      refine ev_inc (y := 1) (v := nI (y + 1)) (ls' := [some (.ref 11), some (.int (nI j)), some (.ref (14 + j)), some (.int sx), some (.int sy), some (.int sz), some (.int ((nI w) - (nI wd))), some (.int ((nI h) - (nI hh))), some (.int ((nI dd) - (nI dp))), some (.int (nI (y + 1))), v10]) rfl rfl (by decide) (nI_1 _) rfl ?_
      refine ev_s rfl ?_
      rw [cIf_f c1]
      exact ih (y + 1) M _ (by omega) (by omega) ok h5 h7
set_option maxHeartbeats 4000000 in
theorem rn_tr {np : Nat} {L : Nat → Int64} {K : (Nat → Nat → Int32) → (Nat → Nat → Int32)} {w h dd : Nat} {f j : Nat} (hj : j < 6) (hKs : ∀ M, St (j + 1) M (K M)) (hKr : ∀ M, OKc np w h dd M → Rn (f + 4) mX3_seek [.ref 11, .int (nI (j + 1))] (mk np M L) none (mk np (K M) L)) {sx sy sz : Int32} {wd hh dp : Nat} (hwd : wd ≤ 12) (hdp : dp ≤ 12) (hhh : hh ≤ 12) {M : Nat → Nat → Int32} (ok : OKc np w h dd M) (h5 : M (14 + j) 5 = nI wd) (h6 : M (14 + j) 6 = nI hh) (h7 : M (14 + j) 7 = nI dp) : Rn (f + 7) mX3_seekInTurn [.ref 11, .int (nI j), .ref (14 + j), .int sx, .int sy, .int sz] (mk np M L) none (mk np (trM K w h dd j sx sy sz M) L) := by
  have e9 : trM K w h dd j sx sy sz M = ylM K j sx sy sz (w + 1 - wd) (dd + 1 - dp) (h + 1 - hh) 0 M := by
    unfold trM cnt
    rw [nF_of h5 (by omega), nF_of h6 (by omega), nF_of h7 (by omega)]
  rw [e9]
  have g0 := ok.2.2.1
  have g1 := ok.2.2.2.1
  have g2 := ok.2.2.2.2.1
  unfold Rn
  refine ev_s rfl ?_
  refine ev_gf (rd np M L (by omega) rfl) rfl rfl rfl ?_
  refine ev_gf (rd np M L (by omega) rfl) rfl rfl rfl ?_
  rw [g0]
  refine ev_s rfl ?_
  refine ev_gf (rd np M L (by omega) (cel_trial (by omega) _ _)) rfl rfl rfl ?_
  rw [h5]
  refine ev_s rfl ?_
  refine ev_s (ls' := [some (.ref 11), some (.int (nI j)), some (.ref (14 + j)), some (.int sx), some (.int sy), some (.int sz), some (.int ((nI w) - (nI wd))), none, none, none, none]) rfl ?_
  refine ev_s rfl ?_
  refine ev_gf (rd np M L (by omega) rfl) rfl rfl rfl ?_
  refine ev_gf (rd np M L (by omega) rfl) rfl rfl rfl ?_
  rw [g1]
  refine ev_s rfl ?_
  refine ev_gf (rd np M L (by omega) (cel_trial (by omega) _ _)) rfl rfl rfl ?_
  rw [h6]
  refine ev_s rfl ?_
  refine ev_s (ls' := [some (.ref 11), some (.int (nI j)), some (.ref (14 + j)), some (.int sx), some (.int sy), some (.int sz), some (.int ((nI w) - (nI wd))), some (.int ((nI h) - (nI hh))), none, none, none]) rfl ?_
  refine ev_s rfl ?_
  refine ev_gf (rd np M L (by omega) rfl) rfl rfl rfl ?_
  refine ev_gf (rd np M L (by omega) rfl) rfl rfl rfl ?_
  rw [g2]
  refine ev_s rfl ?_
  refine ev_gf (rd np M L (by omega) (cel_trial (by omega) _ _)) rfl rfl rfl ?_
  rw [h7]
  refine ev_s rfl ?_
  refine ev_s (ls' := [some (.ref 11), some (.int (nI j)), some (.ref (14 + j)), some (.int sx), some (.int sy), some (.int sz), some (.int ((nI w) - (nI wd))), some (.int ((nI h) - (nI hh))), some (.int ((nI dd) - (nI dp))), none, none]) rfl ?_
  refine ev_ik (v := 0) rfl (by decide) ?_
  refine ev_s (ls' := [some (.ref 11), some (.int (nI j)), some (.ref (14 + j)), some (.int sx), some (.int sy), some (.int sz), some (.int ((nI w) - (nI wd))), some (.int ((nI h) - (nI hh))), some (.int ((nI dd) - (nI dp))), some (.int 0), none]) rfl ?_
  exact lp_yl hj hKs hKr hwd hdp hhh (h + 1 - hh) 0 M none (by omega) (by omega) ok h5 h7
set_option maxHeartbeats 4000000 in
theorem lp_tl {np : Nat} {L : Nat → Int64} {K : (Nat → Nat → Int32) → (Nat → Nat → Int32)} {w h dd : Nat} {f j : Nat} (hj : j < 6) (hKs : ∀ M, St (j + 1) M (K M)) (hKr : ∀ M, OKc np w h dd M → Rn (f + 4) mX3_seek [.ref 11, .int (nI (j + 1))] (mk np M L) none (mk np (K M) L)) (hjn : j < np) {sx sy sz : Int32} {Q : zCf → Prop} : ∀ n t M, n + t = 6 → OKc np w h dd M → (∀ v7, Ev (f + 8) mX3_seek 128 [some (.ref 11), some (.int (nI j)), some (.ref (57 + j)), some (.ref (14 + j)), some (.int sx), some (.int sy), some (.int sz), v7] [] (mk np (tlM K w h dd j sx sy sz n t M) L) Q) → Ev (f + 8) mX3_seek 80 [some (.ref 11), some (.int (nI j)), some (.ref (57 + j)), some (.ref (14 + j)), some (.int sx), some (.int sy), some (.int sz), some (.int (nI t))] [] (mk np M L) Q := by
  intro n
  induction n with
  | zero =>
    intro t M hn ok hK
    obtain rfl : t = 6 := by omega
    refine ev_s rfl ?_
    refine ev_bi (v := 6) rfl (by decide) ?_
    refine ev_ic rfl rfl ?_
    rw [show zbr .ge (nI 6) 6 128 87 = 128 from zge_t (n := 6) (by decide) (by omega) (by decide)]
    exact hK _
  | succ n ih =>
    intro t M hn ok hK
    have ht : t < 6 := by omega
    have hun : tlM K w h dd j sx sy sz (n + 1) t M = cIf (endd M) M (cIf (cHt (M (57 + j) 7) (nI t)) (tlM K w h dd j sx sy sz n (t + 1) (trM K w h dd j sx sy sz (toM M (14 + j) (57 + j) t))) (tlM K w h dd j sx sy sz n (t + 1) M)) := rfl
    rw [hun] at hK
    obtain ⟨M1, hM1⟩ : ∃ M1, M1 = toM M (14 + j) (57 + j) t := ⟨_, rfl⟩
    rw [← hM1] at hK
    have s1 : St j M M1 := by rw [hM1]; exact St_to (Nat.le_refl _) hj
    have ok1 : OKc np w h dd M1 := ok.st s1
    obtain ⟨wd, hh, dp, ⟨b1, b2⟩, ⟨b3, b4⟩, ⟨b5, b6⟩, e5, e6, e7⟩ := tdim ok hjn ht
    have q5 : M1 (14 + j) 5 = nI wd := by rw [hM1]; unfold toM; rw [up2_s, upd_n (by omega), up2_s, upd_n (by omega), up2_s, upd_s]; exact e5
    have q6 : M1 (14 + j) 6 = nI hh := by rw [hM1]; unfold toM; rw [up2_s, upd_n (by omega), up2_s, upd_s]; exact e6
    have q7 : M1 (14 + j) 7 = nI dp := by rw [hM1]; unfold toM; rw [up2_s, upd_s]; exact e7
    have hto : Rn (f + 7) mX2_turnTo [.ref (14 + j), .ref (57 + j), .int (nI t)] (mk np M L) none (mk np M1 L) := by rw [hM1]; exact rn_turnTo hj hjn ht _
    have htr := rn_tr (K := K) (np := np) (L := L) (f := f) (sx := sx) (sy := sy) (sz := sz) hj hKs hKr b2 b6 b4 ok1 q5 q6 q7
    have s2 : St j M1 (trM K w h dd j sx sy sz M1) := trM_St hKs hj w h dd sx sy sz M1
    refine ev_s rfl ?_
    refine ev_bi (v := 6) rfl (by decide) ?_
    refine ev_ic rfl rfl ?_
    rw [show zbr .ge (nI t) 6 128 87 = 87 from zge_f (n := 6) (by decide) ht (by decide)]
    refine ev_s rfl ?_
    refine ev_cv (vs := [(.ref 11)]) (rest := []) (rv := (some (.int (zi (endd M))))) rfl rfl rfl (rd np M L (by omega) rfl) rfl rfl rfl rfl (rn_ended _) ?_
    show Ev _ _ 91 _ [(.int (zi (endd M)))] _ _
    refine ev_if rfl rfl (ev_bzn (fun c1 => ?_) (fun c1 => ?_))
    · show Ev _ _ 128 _ _ _ _
      rw [cIf_t c1] at hK
      exact hK _
    · show Ev _ _ 94 _ _ _ _
      iterate 2 refine ev_s rfl ?_
      refine ev_cv (vs := [(.ref (57 + j)), (.int (nI t))]) (rest := []) (rv := (some (.int (zi (cHt (M (57 + j) 7) (nI t)))))) rfl rfl rfl (rd np M L (by omega) (cel_piece _ _)) rfl rfl rfl rfl (rn_hasTurn (f := M (57 + j)) (rd np M L (by omega) (cel_piece _ _)) _) ?_
      show Ev _ _ 100 _ [(.int (zi (cHt (M (57 + j) 7) (nI t))))] _ _
      refine ev_if rfl rfl (ev_bze (fun c2 => ?_) (fun c2 => ?_))
      · show Ev _ _ 122 _ _ _ _
        refine ev_inc (y := 1) (v := nI (t + 1)) (ls' := [some (.ref 11), some (.int (nI j)), some (.ref (57 + j)), some (.ref (14 + j)), some (.int sx), some (.int sy), some (.int sz), some (.int (nI (t + 1)))]) rfl rfl (by decide) (nI_1 _) rfl ?_
        refine ev_s rfl ?_
        rw [cIf_f c1, cIf_f c2] at hK
        exact ih (t + 1) M (by omega) ok hK
      · show Ev _ _ 103 _ _ _ _
        iterate 3 refine ev_s rfl ?_
        refine ev_cv (vs := [(.ref (14 + j)), (.ref (57 + j)), (.int (nI t))]) (rest := []) (rv := none) (hp' := (mk np M1 L)) rfl rfl rfl (rd np M L (by omega) (cel_trial (by omega) _ _)) rfl rfl rfl rfl hto ?_
        show Ev _ _ 110 _ [] _ _
        iterate 6 refine ev_s rfl ?_
        refine ev_cv (vs := [(.ref 11), (.int (nI j)), (.ref (14 + j)), (.int sx), (.int sy), (.int sz)]) (rest := []) (rv := none) (hp' := (mk np (trM K w h dd j sx sy sz M1) L)) rfl rfl rfl (rd np M1 L (by omega) rfl) rfl rfl rfl rfl htr ?_
        show Ev _ _ 122 _ [] _ _
        refine ev_inc (y := 1) (v := nI (t + 1)) (ls' := [some (.ref 11), some (.int (nI j)), some (.ref (57 + j)), some (.ref (14 + j)), some (.int sx), some (.int sy), some (.int sz), some (.int (nI (t + 1)))]) rfl rfl (by decide) (nI_1 _) rfl ?_
        refine ev_s rfl ?_
        rw [cIf_f c1, cIf_t c2] at hK
        exact ih (t + 1) _ (by omega) (ok1.st s2) hK
set_option maxHeartbeats 4000000 in
theorem rn_seek1 {np : Nat} {L : Nat → Int64} {K : (Nat → Nat → Int32) → (Nat → Nat → Int32)} {w h dd : Nat} {f j : Nat} (hj : j < 6) (hKs : ∀ M, St (j + 1) M (K M)) (hKr : ∀ M, OKc np w h dd M → Rn (f + 4) mX3_seek [.ref 11, .int (nI (j + 1))] (mk np M L) none (mk np (K M) L)) (hjn : j < np) {M : Nat → Nat → Int32} (ok : OKc np w h dd M) : Rn (f + 8) mX3_seek [.ref 11, .int (nI j)] (mk np M L) none (mk np (seM K w h dd j M) L) := by
  unfold seM
  have s0 := tlM_St hKs hj w h dd (stS M 0 6) (stS M 1 6) (stS M 2 6) 6 0 M
  obtain ⟨M2, hM2⟩ : ∃ M2, M2 = tlM K w h dd j (stS M 0 6) (stS M 1 6) (stS M 2 6) 6 0 M := ⟨_, rfl⟩
  rw [← hM2] at s0 ⊢
  have ok2 : OKc np w h dd M2 := ok.st s0
  unfold Rn
  refine ev_s rfl ?_
  refine ev_if rfl rfl ?_
  rw [show zbr .lt (nI j) 0 34 4 = 4 from zlt_f (by omega)]
  iterate 2 refine ev_s rfl ?_
  refine ev_gf (rd np M L (by omega) rfl) rfl rfl rfl ?_
  refine ev_al (v := 6) (rd np M L (by omega) rfl) rfl rfl rfl ?_
  refine ev_ic rfl rfl ?_
  rw [show zbr .ge (nI j) 6 34 13 = 13 from zge_f (n := 6) (by decide) hj (by decide)]
  iterate 2 refine ev_s rfl ?_
  refine ev_gf (rd np M L (by omega) rfl) rfl rfl rfl ?_
  refine ev_gf (rd np M L (by omega) rfl) rfl rfl rfl ?_
  refine ev_al (v := 6) (rd np M L (by omega) rfl) rfl rfl rfl ?_
  refine ev_ic rfl rfl ?_
  rw [show zbr .ge (nI j) 6 34 25 = 25 from zge_f (n := 6) (by decide) hj (by decide)]
  refine ev_s rfl ?_
  refine ev_gf (rd np M L (by omega) rfl) rfl rfl rfl ?_
  refine ev_s rfl ?_
  refine ev_aa (v := (.ref (57 + j))) (rd np M L (by omega) rfl) rfl rfl (zin_nI hj (by decide)) (by rw [if_pos hjn]; rfl) ?_
  iterate 2 refine ev_s rfl ?_
  refine ev_gf (rd np M L (by omega) rfl) rfl rfl rfl ?_
  refine ev_s rfl ?_
  refine ev_aa (v := (.ref (57 + j))) (rd np M L (by omega) rfl) rfl rfl (zin_nI hj (by decide)) (by rw [if_pos hjn]; rfl) ?_
  refine ev_s (ls' := [some (.ref 11), some (.int (nI j)), some (.ref (57 + j)), none, none, none, none, none]) rfl ?_
  refine ev_s rfl ?_
  refine ev_gf (rd np M L (by omega) rfl) rfl rfl rfl ?_
  refine ev_gf (rd np M L (by omega) rfl) rfl rfl rfl ?_
  refine ev_s rfl ?_
  refine ev_aa (v := (.ref (14 + j))) (rd np M L (by omega) rfl) rfl rfl (zin_nI hj (by decide)) (by rw [if_pos (by omega)]; rfl) ?_
  refine ev_s (ls' := [some (.ref 11), some (.int (nI j)), some (.ref (57 + j)), some (.ref (14 + j)), none, none, none, none]) rfl ?_
  refine ev_s rfl ?_
  refine ev_ik (v := 0) rfl (by decide) ?_
  refine ev_cv (vs := [(.ref 11), (.int 0)]) (rest := []) (rv := (some (.int (stS M 0 6)))) rfl rfl rfl (rd np M L (by omega) rfl) rfl rfl rfl rfl (rn_st0 _) ?_
  show Ev _ _ 61 _ [(.int (stS M 0 6))] _ _
  refine ev_s (ls' := [some (.ref 11), some (.int (nI j)), some (.ref (57 + j)), some (.ref (14 + j)), some (.int (stS M 0 6)), none, none, none]) rfl ?_
  refine ev_s rfl ?_
  refine ev_ik (v := 1) rfl (by decide) ?_
  refine ev_cv (vs := [(.ref 11), (.int 1)]) (rest := []) (rv := (some (.int (stS M 1 6)))) rfl rfl rfl (rd np M L (by omega) rfl) rfl rfl rfl rfl (rn_st1 _) ?_
  show Ev _ _ 68 _ [(.int (stS M 1 6))] _ _
  refine ev_s (ls' := [some (.ref 11), some (.int (nI j)), some (.ref (57 + j)), some (.ref (14 + j)), some (.int (stS M 0 6)), some (.int (stS M 1 6)), none, none]) rfl ?_
  refine ev_s rfl ?_
  refine ev_ik (v := 2) rfl (by decide) ?_
  refine ev_cv (vs := [(.ref 11), (.int 2)]) (rest := []) (rv := (some (.int (stS M 2 6)))) rfl rfl rfl (rd np M L (by omega) rfl) rfl rfl rfl rfl (rn_st2 _) ?_
  show Ev _ _ 75 _ [(.int (stS M 2 6))] _ _
  refine ev_s (ls' := [some (.ref 11), some (.int (nI j)), some (.ref (57 + j)), some (.ref (14 + j)), some (.int (stS M 0 6)), some (.int (stS M 1 6)), some (.int (stS M 2 6)), none]) rfl ?_
  refine ev_ik (v := 0) rfl (by decide) ?_
  refine ev_s (ls' := [some (.ref 11), some (.int (nI j)), some (.ref (57 + j)), some (.ref (14 + j)), some (.int (stS M 0 6)), some (.int (stS M 1 6)), some (.int (stS M 2 6)), some (.int 0)]) rfl ?_
  refine lp_tl hj hKs hKr hjn 6 0 M (by omega) ok (fun v7 => ?_)
  rw [← hM2]
  refine ev_s rfl ?_
  refine ev_cv (vs := [(.ref 11)]) (rest := []) (rv := (some (.int (zi (endd M2))))) rfl rfl rfl (rd np M2 L (by omega) rfl) rfl rfl rfl rfl (rn_ended (M := M2) _) ?_
  show Ev _ _ 132 _ [(.int (zi (endd M2)))] _ _
  refine ev_if rfl rfl (ev_bzn (fun c1 => ?_) (fun c1 => ?_))
  · show Ev _ _ 142 _ _ _ _
    refine ev_rv rfl rfl ?_ ?_
    · rfl
    · rw [cIf_t c1]
  · show Ev _ _ 135 _ _ _ _
    iterate 2 refine ev_s rfl ?_
    refine ev_ik (v := 1) rfl (by decide) ?_
    refine ev_s rfl ?_
    rw [nI_1 j]
    refine ev_cv (vs := [(.ref 11), (.int (nI (j + 1)))]) (rest := []) (rv := none) (hp' := (mk np (K M2) L)) rfl rfl rfl (rd np M2 L (by omega) rfl) rfl rfl rfl rfl (Rn_up (Rn_up (Rn_up (hKr M2 ok2)))) ?_
    show Ev _ _ 142 _ [] _ _
    refine ev_rv rfl rfl ?_ ?_
    · rfl
    · rw [cIf_f c1]
set_option maxHeartbeats 4000000 in
theorem rn_seek0 {np : Nat} {M : Nat → Nat → Int32} {L : Nat → Int64} (hn : np ≤ 6) (hz : Bz M) (f : Nat) : Rn (f + 4) mX3_seek [.ref 11, .int (nI np)] (mk np M L) none (mk np (kbM M) L) := by
  unfold Rn
  by_cases h6 : np = 6
  · subst h6
    refine ev_s rfl ?_
    refine ev_if rfl rfl ?_
    rw [show zbr .lt (nI 6) 0 34 4 = 4 from zlt_f (by omega)]
    iterate 2 refine ev_s rfl ?_
    refine ev_gf (rd 6 M L (by omega) rfl) rfl rfl rfl ?_
    refine ev_al (v := 6) (rd 6 M L (by omega) rfl) rfl rfl rfl ?_
    refine ev_ic rfl rfl ?_
    rw [show zbr .ge (nI 6) 6 34 13 = 34 from zge_t (n := 6) (by decide) (by omega) (by omega)]
    refine ev_s rfl ?_
    refine ev_cv (vs := [(.ref 11)]) (rest := []) (rv := none) (hp' := (mk 6 (kbM M) L)) rfl rfl rfl (rd 6 M L (by omega) rfl) rfl rfl rfl rfl (rn_kib hz f) ?_
    show Ev _ _ 38 _ [] _ _
    refine ev_rv rfl rfl ?_ ?_
    · rfl
    · rfl
  · have h7 : np < 6 := by omega
    refine ev_s rfl ?_
    refine ev_if rfl rfl ?_
    rw [show zbr .lt (nI np) 0 34 4 = 4 from zlt_f (by omega)]
    iterate 2 refine ev_s rfl ?_
    refine ev_gf (rd np M L (by omega) rfl) rfl rfl rfl ?_
    refine ev_al (v := 6) (rd np M L (by omega) rfl) rfl rfl rfl ?_
    refine ev_ic rfl rfl ?_
    rw [show zbr .ge (nI np) 6 34 13 = 13 from zge_f (n := 6) (by decide) h7 (by decide)]
    iterate 2 refine ev_s rfl ?_
    refine ev_gf (rd np M L (by omega) rfl) rfl rfl rfl ?_
    refine ev_gf (rd np M L (by omega) rfl) rfl rfl rfl ?_
    refine ev_al (v := 6) (rd np M L (by omega) rfl) rfl rfl rfl ?_
    refine ev_ic rfl rfl ?_
    rw [show zbr .ge (nI np) 6 34 25 = 25 from zge_f (n := 6) (by decide) h7 (by decide)]
    refine ev_s rfl ?_
    refine ev_gf (rd np M L (by omega) rfl) rfl rfl rfl ?_
    refine ev_s rfl ?_
    refine ev_aa (v := .null) (rd np M L (by omega) rfl) rfl rfl (zin_nI h7 (by decide)) (by rw [if_neg (Nat.lt_irrefl _)]; rfl) ?_
    iterate 2 refine ev_s rfl ?_
    refine ev_cv (vs := [(.ref 11)]) (rest := []) (rv := none) (hp' := (mk np (kbM M) L)) rfl rfl rfl (rd np M L (by omega) rfl) rfl rfl rfl rfl (rn_kib hz f) ?_
    show Ev _ _ 38 _ [] _ _
    refine ev_rv rfl rfl ?_ ?_
    · rfl
    · rfl
theorem rn_seek {np w h dd : Nat} {L : Nat → Int64} : ∀ (r j : Nat) (M : Nat → Nat → Int32), j + r = np → OKc np w h dd M → Rn (4 * r + 4) mX3_seek [.ref 11, .int (nI j)] (mk np M L) none (mk np (skM w h dd r j M) L)
  | 0, j, M, hr, ok => by
    obtain rfl : j = np := by omega
    exact rn_seek0 ok.1 ok.2.1 0
  | r + 1, j, M, hr, ok => by
    have h6 := ok.1
    exact rn_seek1 (f := 4 * r) (by omega) (fun M => skM_St w h dd r (j + 1) M (by omega)) (fun M ok => rn_seek r (j + 1) M (by omega) ok) (by omega) ok
end
section
/-! ===== LoadSpace ===== -/
/-- number n is a piece -/
theorem mW_of {n : Int32} {np : Nat} (hn : np ≤ 6) (h : mW n 1 (nI np)) : ∃ k, k < np ∧ n = nI (k + 1) ∧ n - 1 = nI k := by
  obtain ⟨k, h1, h2, h3, h4⟩ := num_of (k := np) rfl (by omega) h.1 h.2
  exact ⟨k, h1, h2, h3⟩
theorem mW_nI {np k : Nat} (hn : np ≤ 6) (hk : k < np) : mW (nI (k + 1)) 1 (nI np) := by
  refine ⟨?_, ?_⟩
  · rw [show (1 : Int32) = nI 1 from by decide]; exact nI_nlt (by omega) (by omega)
  · exact nI_nlt (by omega) (by omega)

set_option maxHeartbeats 4000000 in
theorem rn_pieceOf_s {np : Nat} {M : Nat → Nat → Int32} {L : Nat → Int64} {k : Nat} (hn : np ≤ 6) (hk : k < np) (d : Nat) : Rn (d) mX5_pieceOf [(.ref 0), (.int (nI (k + 1)))] (mk np M L) (some (.ref (57 + k))) (mk np M L) := by
  unfold Rn
  refine ev_s rfl ?_
  refine ev_ik (v := 1) rfl (by decide) ?_
  refine ev_ic rfl rfl ?_
  rw [show zbr .lt (nI (k + 1)) 1 14 5 = 5 from if_neg (mW_nI hn hk).1]
  iterate 2 refine ev_s rfl ?_
  refine ev_gf (rd np M L (by omega) rfl) rfl rfl rfl ?_
  refine ev_al (v := 6) (rd np M L (by omega) rfl) rfl rfl rfl ?_
  refine ev_ic rfl rfl ?_
  rw [show zbr .le (nI (k + 1)) 6 16 14 = 16 from if_pos (by rw [show (6 : Int32) = nI 6 from by decide]; exact nI_le (by omega) (by omega))]
  refine ev_s rfl ?_
  refine ev_gf (rd np M L (by omega) rfl) rfl rfl rfl ?_
  refine ev_s rfl ?_
  refine ev_ik (v := 1) rfl (by decide) ?_
  refine ev_s rfl ?_
  refine ev_aa (v := (.ref (57 + k))) (rd np M L (by omega) rfl) rfl rfl (by rw [nI_pred]; exact zin_nI (by omega) (by decide)) (by rw [if_pos hk]; rfl) ?_
  refine ev_ra rfl rfl ?_ ?_
  · rfl
  · rfl
set_option maxHeartbeats 4000000 in
theorem rn_pieceOf_n {np : Nat} {M : Nat → Nat → Int32} {L : Nat → Int64} {n : Int32} (hn : np ≤ 6) (hu : ¬ mW n 1 (nI np)) (d : Nat) : Rn (d) mX5_pieceOf [(.ref 0), (.int n)] (mk np M L) (some .null) (mk np M L) := by
  unfold Rn
  refine ev_s rfl ?_
  refine ev_ik (v := 1) rfl (by decide) ?_
  refine ev_ic rfl rfl (ev_br (zb_lt _ _ _ _) (fun c1 => ?_) (fun c1 => ?_))
  · show Ev _ _ 14 _ _ _ _
    refine ev_s rfl ?_
    refine ev_rn rfl rfl ?_ ?_
    · rfl
    · rfl
  · show Ev _ _ 5 _ _ _ _
    iterate 2 refine ev_s rfl ?_
    refine ev_gf (rd np M L (by omega) rfl) rfl rfl rfl ?_
    refine ev_al (v := 6) (rd np M L (by omega) rfl) rfl rfl rfl ?_
    refine ev_ic rfl rfl (ev_br (zb_le _ _ _ _) (fun c2 => ?_) (fun c2 => ?_))
    · show Ev _ _ 16 _ _ _ _
      refine ev_s rfl ?_
      refine ev_gf (rd np M L (by omega) rfl) rfl rfl rfl ?_
      refine ev_s rfl ?_
      refine ev_ik (v := 1) rfl (by decide) ?_
      refine ev_s rfl ?_
      obtain ⟨k, hk1, hk2, hk3, hk4⟩ := num_of (k := 6) (by decide) (by decide) c1 (Int32.not_lt.mpr c2)
      have hkn : ¬ k < np := fun q => hu (by rw [hk2]; exact mW_nI hn q)
      refine ev_aa (v := .null) (rd np M L (by omega) rfl) rfl rfl (by rw [hk3]; exact zin_nI hk1 (by decide)) (by rw [if_neg (fun q => hkn q)]; rfl) ?_
      refine ev_rn rfl rfl ?_ ?_
      · rfl
      · rfl
    · show Ev _ _ 14 _ _ _ _
      refine ev_s rfl ?_
      refine ev_rn rfl rfl ?_ ?_
      · rfl
      · rfl
set_option maxHeartbeats 4000000 in
theorem rn_turn_u {np : Nat} {M : Nat → Nat → Int32} {L : Nat → Int64} {n x : Int32} (hn : np ≤ 6) (hu : ¬ mW n 1 (nI np)) (d : Nat) : Rn (d + 1) mX5_turn [(.ref 0), (.int n), (.int x)] (mk np M L) (some (.int (-101))) (mk np M L) := by
  unfold Rn
  iterate 2 refine ev_s rfl ?_
  refine ev_cv (vs := [(.ref 0), (.int n)]) (rest := []) (rv := (some .null)) rfl rfl rfl (rd np M L (by omega) rfl) rfl rfl rfl rfl (rn_pieceOf_n hn hu _) ?_
  show Ev _ _ 5 _ [.null] _ _
  refine ev_s (ls' := [some (.ref 0), some (.int n), some (.int x), some .null, none]) rfl ?_
  iterate 2 refine ev_s rfl ?_
  refine ev_bi (v := (-101)) rfl (by decide) ?_
  refine ev_ri rfl rfl ?_ ?_
  · rfl
  · rfl
set_option maxHeartbeats 4000000 in
theorem rn_limit_u {np : Nat} {M : Nat → Nat → Int32} {L : Nat → Int64} {n x : Int32} (hn : np ≤ 6) (hu : ¬ mW n 1 (nI np)) (d : Nat) : Rn (d + 1) mX5_limit [(.ref 0), (.int n), (.int x)] (mk np M L) (some (.int (-101))) (mk np M L) := by
  unfold Rn
  iterate 2 refine ev_s rfl ?_
  refine ev_cv (vs := [(.ref 0), (.int n)]) (rest := []) (rv := (some .null)) rfl rfl rfl (rd np M L (by omega) rfl) rfl rfl rfl rfl (rn_pieceOf_n hn hu _) ?_
  show Ev _ _ 5 _ [.null] _ _
  refine ev_s (ls' := [some (.ref 0), some (.int n), some (.int x), some .null]) rfl ?_
  iterate 2 refine ev_s rfl ?_
  refine ev_bi (v := (-101)) rfl (by decide) ?_
  refine ev_ri rfl rfl ?_ ?_
  · rfl
  · rfl
set_option maxHeartbeats 4000000 in
theorem rn_order_u {np : Nat} {M : Nat → Nat → Int32} {L : Nat → Int64} {n x : Int32} (hn : np ≤ 6) (hu : ¬ mW n 1 (nI np)) (d : Nat) : Rn (d + 1) mX5_order [(.ref 0), (.int n), (.int x)] (mk np M L) (some (.int (-101))) (mk np M L) := by
  unfold Rn
  iterate 2 refine ev_s rfl ?_
  refine ev_cv (vs := [(.ref 0), (.int n)]) (rest := []) (rv := (some .null)) rfl rfl rfl (rd np M L (by omega) rfl) rfl rfl rfl rfl (rn_pieceOf_n hn hu _) ?_
  show Ev _ _ 5 _ [.null] _ _
  refine ev_s (ls' := [some (.ref 0), some (.int n), some (.int x), some .null, none]) rfl ?_
  iterate 2 refine ev_s rfl ?_
  refine ev_bi (v := (-101)) rfl (by decide) ?_
  refine ev_ri rfl rfl ?_ ?_
  · rfl
  · rfl
set_option maxHeartbeats 4000000 in
theorem rn_at_u {np : Nat} {M : Nat → Nat → Int32} {L : Nat → Int64} {n x : Int32} (hn : np ≤ 6) (hu : ¬ mW n 1 (nI np)) (d : Nat) : Rn (d + 1) mX5_at [(.ref 0), (.int n), (.int x)] (mk np M L) (some (.int (-101))) (mk np M L) := by
  unfold Rn
  iterate 2 refine ev_s rfl ?_
  refine ev_cv (vs := [(.ref 0), (.int n)]) (rest := []) (rv := (some .null)) rfl rfl rfl (rd np M L (by omega) rfl) rfl rfl rfl rfl (rn_pieceOf_n hn hu _) ?_
  show Ev _ _ 5 _ [.null] _ _
  refine ev_s rfl ?_
  refine ev_bi (v := (-101)) rfl (by decide) ?_
  refine ev_ri rfl rfl ?_ ?_
  · rfl
  · rfl
set_option maxHeartbeats 4000000 in
theorem rn_large_u {np : Nat} {M : Nat → Nat → Int32} {L : Nat → Int64} {n : Int32} (hn : np ≤ 6) (hu : ¬ mW n 1 (nI np)) (d : Nat) : Rn (d + 1) mX5_large [(.ref 0), (.int n)] (mk np M L) (some (.int (-101))) (mk np M L) := by
  unfold Rn
  iterate 2 refine ev_s rfl ?_
  refine ev_cv (vs := [(.ref 0), (.int n)]) (rest := []) (rv := (some .null)) rfl rfl rfl (rd np M L (by omega) rfl) rfl rfl rfl rfl (rn_pieceOf_n hn hu _) ?_
  show Ev _ _ 5 _ [.null] _ _
  refine ev_s (ls' := [some (.ref 0), some (.int n), some .null]) rfl ?_
  iterate 2 refine ev_s rfl ?_
  refine ev_bi (v := (-101)) rfl (by decide) ?_
  refine ev_ri rfl rfl ?_ ?_
  · rfl
  · rfl
set_option maxHeartbeats 4000000 in
theorem rn_turn_k {np : Nat} {M : Nat → Nat → Int32} {L : Nat → Int64} {k : Nat} {x : Int32} (hn : np ≤ 6) (hk : k < np) (d : Nat) : Rn (d + 3) mX5_turn [(.ref 0), (.int (nI (k + 1))), (.int x)] (mk np M L) (some (.int (cIf (cW x 0 2) (M (57 + k) 4) (-102)))) (mk np (cIf (cW x 0 2) (smM M (57 + k) x (tbl (M (57 + k)) (tmo x))) M) L) := by
  unfold Rn
  iterate 2 refine ev_s rfl ?_
  refine ev_cv (vs := [(.ref 0), (.int (nI (k + 1)))]) (rest := []) (rv := (some (.ref (57 + k)))) rfl rfl rfl (rd np M L (by omega) rfl) rfl rfl rfl rfl (rn_pieceOf_s hn hk _) ?_
  show Ev _ _ 5 _ [(.ref (57 + k))] _ _
  refine ev_s (ls' := [some (.ref 0), some (.int (nI (k + 1))), some (.int x), some (.ref (57 + k)), none]) rfl ?_
  iterate 3 refine ev_s rfl ?_
  refine ev_ik (v := 0) rfl (by decide) ?_
  refine ev_ik (v := 2) rfl (by decide) ?_
  refine ev_cs (vs := [(.int x), (.int 0), (.int 2)]) (rest := []) (rv := (some (.int (zi (cW x 0 2))))) rfl rfl rfl rfl rfl (rn_isWithin _) ?_
  show Ev _ _ 19 _ [(.int (zi (cW x 0 2)))] _ _
  refine ev_if rfl rfl (ev_bzn (fun c1 => ?_) (fun c1 => ?_))
  · show Ev _ _ 25 _ _ _ _
    refine ev_s rfl ?_
    refine ev_gf (rd np M L (by omega) (cel_piece _ _)) rfl rfl rfl ?_
    refine ev_s (ls' := [some (.ref 0), some (.int (nI (k + 1))), some (.int x), some (.ref (57 + k)), some (.int (M (57 + k) 4))]) rfl ?_
    iterate 2 refine ev_s rfl ?_
    refine ev_cv (vs := [(.ref (57 + k)), (.int x)]) (rest := []) (rv := none) (hp' := (mk np (smM M (57 + k) x (tbl (M (57 + k)) (tmo x))) L)) rfl rfl rfl (rd np M L (by omega) (cel_piece _ _)) rfl rfl rfl rfl (rn_setMark hk _) ?_
    show Ev _ _ 36 _ [] _ _
    refine ev_s rfl ?_
    refine ev_ri rfl rfl ?_ ?_
    · rw [cIf_t c1]
    · rw [cIf_t c1]
  · show Ev _ _ 22 _ _ _ _
    refine ev_bi (v := (-102)) rfl (by decide) ?_
    refine ev_ri rfl rfl ?_ ?_
    · rw [cIf_f c1]
    · rw [cIf_f c1]
set_option maxHeartbeats 4000000 in
theorem rn_order_k {np : Nat} {M : Nat → Nat → Int32} {L : Nat → Int64} {k : Nat} {x : Int32} (hn : np ≤ 6) (hk : k < np) (d : Nat) : Rn (d + 1) mX5_order [(.ref 0), (.int (nI (k + 1))), (.int x)] (mk np M L) (some (.int (cIf (cW x 0 9) (M (57 + k) 6) (-102)))) (mk np (cIf (cW x 0 9) (up2 M (57 + k) 6 x) M) L) := by
  unfold Rn
  iterate 2 refine ev_s rfl ?_
  refine ev_cv (vs := [(.ref 0), (.int (nI (k + 1)))]) (rest := []) (rv := (some (.ref (57 + k)))) rfl rfl rfl (rd np M L (by omega) rfl) rfl rfl rfl rfl (rn_pieceOf_s hn hk _) ?_
  show Ev _ _ 5 _ [(.ref (57 + k))] _ _
  refine ev_s (ls' := [some (.ref 0), some (.int (nI (k + 1))), some (.int x), some (.ref (57 + k)), none]) rfl ?_
  iterate 3 refine ev_s rfl ?_
  refine ev_ik (v := 0) rfl (by decide) ?_
  refine ev_bi (v := 9) rfl (by decide) ?_
  refine ev_cs (vs := [(.int x), (.int 0), (.int 9)]) (rest := []) (rv := (some (.int (zi (cW x 0 9))))) rfl rfl rfl rfl rfl (rn_isWithin _) ?_
  show Ev _ _ 20 _ [(.int (zi (cW x 0 9)))] _ _
  refine ev_if rfl rfl (ev_bzn (fun c1 => ?_) (fun c1 => ?_))
  · show Ev _ _ 26 _ _ _ _
    refine ev_s rfl ?_
    refine ev_gf (rd np M L (by omega) (cel_piece _ _)) rfl rfl rfl ?_
    refine ev_s (ls' := [some (.ref 0), some (.int (nI (k + 1))), some (.int x), some (.ref (57 + k)), some (.int (M (57 + k) 6))]) rfl ?_
    iterate 2 refine ev_s rfl ?_
    refine ev_pf (hp' := (mk np (up2 M (57 + k) 6 x) L)) (rd np M L (by omega) (cel_piece _ _)) rfl rfl (by simp) rfl rfl (mk_setr rfl (cel_piece _ _) rfl) ?_
    refine ev_s rfl ?_
    refine ev_ri rfl rfl ?_ ?_
    · rw [cIf_t c1]
    · rw [cIf_t c1]
  · show Ev _ _ 23 _ _ _ _
    refine ev_bi (v := (-102)) rfl (by decide) ?_
    refine ev_ri rfl rfl ?_ ?_
    · rw [cIf_f c1]
    · rw [cIf_f c1]
def lmt (x : Int32) : Prop := x = -1 ∨ cW x 0 6000
set_option maxHeartbeats 4000000 in
theorem rn_limit_k {np : Nat} {M : Nat → Nat → Int32} {L : Nat → Int64} {k : Nat} {x : Int32} (hn : np ≤ 6) (hk : k < np) (d : Nat) : Rn (d + 1) mX5_limit [(.ref 0), (.int (nI (k + 1))), (.int x)] (mk np M L) (some (.int (cIf (lmt x) 1 (-102)))) (mk np (cIf (lmt x) (up2 M (57 + k) 5 x) M) L) := by
  unfold Rn
  iterate 2 refine ev_s rfl ?_
  refine ev_cv (vs := [(.ref 0), (.int (nI (k + 1)))]) (rest := []) (rv := (some (.ref (57 + k)))) rfl rfl rfl (rd np M L (by omega) rfl) rfl rfl rfl rfl (rn_pieceOf_s hn hk _) ?_
  show Ev _ _ 5 _ [(.ref (57 + k))] _ _
  refine ev_s (ls' := [some (.ref 0), some (.int (nI (k + 1))), some (.int x), some (.ref (57 + k))]) rfl ?_
  iterate 3 refine ev_s rfl ?_
  refine ev_ik (v := (-1)) rfl (by decide) ?_
  refine ev_ic rfl rfl (ev_br (zb_eq _ _ _ _) (fun c1 => ?_) (fun c1 => ?_))
  · show Ev _ _ 32 _ _ _ _
    iterate 2 refine ev_s rfl ?_
    refine ev_pf (hp' := (mk np (up2 M (57 + k) 5 x) L)) (rd np M L (by omega) (cel_piece _ _)) rfl rfl (by simp) rfl rfl (mk_setr rfl (cel_piece _ _) rfl) ?_
    refine ev_ik (v := 1) rfl (by decide) ?_
    refine ev_ri rfl rfl ?_ ?_
    · rw [cIf_t (show lmt x from Or.inl c1)]
    · rw [cIf_t (show lmt x from Or.inl c1)]
  · show Ev _ _ 18 _ _ _ _
    refine ev_s rfl ?_
    refine ev_ik (v := 0) rfl (by decide) ?_
    refine ev_si (v := 6000) rfl (by decide) ?_
    refine ev_cs (vs := [(.int x), (.int 0), (.int 6000)]) (rest := []) (rv := (some (.int (zi (cW x 0 6000))))) rfl rfl rfl rfl rfl (rn_isWithin _) ?_
    show Ev _ _ 26 _ [(.int (zi (cW x 0 6000)))] _ _
    refine ev_if rfl rfl (ev_bzn (fun c2 => ?_) (fun c2 => ?_))
    · show Ev _ _ 32 _ _ _ _
      iterate 2 refine ev_s rfl ?_
      refine ev_pf (hp' := (mk np (up2 M (57 + k) 5 x) L)) (rd np M L (by omega) (cel_piece _ _)) rfl rfl (by simp) rfl rfl (mk_setr rfl (cel_piece _ _) rfl) ?_
      refine ev_ik (v := 1) rfl (by decide) ?_
      refine ev_ri rfl rfl ?_ ?_
      · rw [cIf_t (show lmt x from Or.inr c2)]
      · rw [cIf_t (show lmt x from Or.inr c2)]
    · show Ev _ _ 29 _ _ _ _
      refine ev_bi (v := (-102)) rfl (by decide) ?_
      refine ev_ri rfl rfl ?_ ?_
      · rw [cIf_f (show ¬ lmt x from fun q => q.elim c1 c2)]
      · rw [cIf_f (show ¬ lmt x from fun q => q.elim c1 c2)]
set_option maxHeartbeats 4000000 in
theorem rn_large_k {np : Nat} {M : Nat → Nat → Int32} {L : Nat → Int64} {k : Nat} (hn : np ≤ 6) (hk : k < np) (d : Nat) : Rn (d + 2) mX5_large [(.ref 0), (.int (nI (k + 1)))] (mk np M L) (some (.int (zi (cLg (M (57 + k)) (M 1))))) (mk np M L) := by
  unfold Rn
  iterate 2 refine ev_s rfl ?_
  refine ev_cv (vs := [(.ref 0), (.int (nI (k + 1)))]) (rest := []) (rv := (some (.ref (57 + k)))) rfl rfl rfl (rd np M L (by omega) rfl) rfl rfl rfl rfl (rn_pieceOf_s hn hk _) ?_
  show Ev _ _ 5 _ [(.ref (57 + k))] _ _
  refine ev_s (ls' := [some (.ref 0), some (.int (nI (k + 1))), some (.ref (57 + k))]) rfl ?_
  iterate 4 refine ev_s rfl ?_
  refine ev_gf (rd np M L (by omega) rfl) rfl rfl rfl ?_
  refine ev_cv (vs := [(.ref (57 + k)), (.ref 1)]) (rest := []) (rv := (some (.int (zi (cLg (M (57 + k)) (M 1)))))) rfl rfl rfl (rd np M L (by omega) (cel_piece _ _)) rfl rfl rfl rfl (rn_lg (f := M (57 + k)) (g := M 1) (rd np M L (by omega) (cel_piece _ _)) (rd np M L (by omega) rfl) _) ?_
  show Ev _ _ 21 _ [(.int (zi (cLg (M (57 + k)) (M 1))))] _ _
  refine ev_if rfl rfl (ev_bze (fun c1 => ?_) (fun c1 => ?_))
  · show Ev _ _ 28 _ _ _ _
    refine ev_ik (v := 0) rfl (by decide) ?_
    refine ev_ri rfl rfl ?_ ?_
    · exact some_i (zi_f c1).symm
    · rfl
  · show Ev _ _ 24 _ _ _ _
    refine ev_ik (v := 1) rfl (by decide) ?_
    refine ev_s rfl ?_
    refine ev_ri rfl rfl ?_ ?_
    · exact some_i (zi_t c1).symm
    · rfl
set_option maxHeartbeats 4000000 in
theorem rn_exact {np : Nat} {M : Nat → Nat → Int32} {L : Nat → Int64}  (d : Nat) : Rn (d) mX5_exact [(.ref 0)] (mk np M L) (some (.int (zi (¬ M 11 7 ≤ M 11 8)))) (mk np M L) := by
  unfold Rn
  refine ev_s rfl ?_
  refine ev_gf (rd np M L (by omega) rfl) rfl rfl rfl ?_
  refine ev_gf (rd np M L (by omega) rfl) rfl rfl rfl ?_
  refine ev_s rfl ?_
  refine ev_gf (rd np M L (by omega) rfl) rfl rfl rfl ?_
  refine ev_gf (rd np M L (by omega) rfl) rfl rfl rfl ?_
  refine ev_ic rfl rfl (ev_br (zb_ge _ _ _ _) (fun c1 => ?_) (fun c1 => ?_))
  · show Ev _ _ 21 _ _ _ _
    refine ev_ik (v := 0) rfl (by decide) ?_
    refine ev_rz rfl rfl (by decide) ?_ ?_
    · exact some_i (zi_f (fun q => q c1)).symm
    · rfl
  · show Ev _ _ 17 _ _ _ _
    refine ev_ik (v := 1) rfl (by decide) ?_
    refine ev_s rfl ?_
    refine ev_rz rfl rfl (by decide) ?_ ?_
    · exact some_i (zi_t c1).symm
    · rfl
set_option maxHeartbeats 4000000 in
theorem rn_steps {np : Nat} {M : Nat → Nat → Int32} {L : Nat → Int64} {x : Int32} (d : Nat) : Rn (d) mX5_steps [(.ref 0), (.int x)] (mk np M L) (some (.int (if x = 0 then M 11 8 else M 0 5))) (mk np M L) := by
  unfold Rn
  refine ev_s rfl ?_
  refine ev_if rfl rfl (ev_br (zb_eq _ _ _ _) (fun c1 => ?_) (fun c1 => ?_))
  · show Ev _ _ 11 _ _ _ _
    refine ev_s rfl ?_
    refine ev_gf (rd np M L (by omega) rfl) rfl rfl rfl ?_
    refine ev_gf (rd np M L (by omega) rfl) rfl rfl rfl ?_
    refine ev_ri rfl rfl ?_ ?_
    · rw [if_pos c1]
    · rfl
  · show Ev _ _ 4 _ _ _ _
    refine ev_s rfl ?_
    refine ev_gf (rd np M L (by omega) rfl) rfl rfl rfl ?_
    refine ev_s rfl ?_
    refine ev_ri rfl rfl ?_ ?_
    · rw [if_neg c1]
    · rfl
set_option maxHeartbeats 4000000 in
theorem rn_free {np : Nat} {M : Nat → Nat → Int32} {L : Nat → Int64}  (d : Nat) : Rn (d + 2) mX5_free [(.ref 0)] (mk np M L) (some (.int (M 1 0 * M 1 1 * M 1 2 - csum (gCell M 5) 6))) (mk np M L) := by
  unfold Rn
  refine ev_s rfl ?_
  refine ev_gf (rd np M L (by omega) rfl) rfl rfl rfl ?_
  refine ev_cv (vs := [(.ref 1)]) (rest := []) (rv := (some (.int (M 1 0 * M 1 1 * M 1 2)))) rfl rfl rfl (rd np M L (by omega) rfl) rfl rfl rfl rfl (rn_scells (f := M 1) (rd np M L (by omega) rfl) _) ?_
  show Ev _ _ 7 _ [(.int (M 1 0 * M 1 1 * M 1 2))] _ _
  refine ev_s rfl ?_
  refine ev_gf (rd np M L (by omega) rfl) rfl rfl rfl ?_
  refine ev_cv (vs := [(.ref 3)]) (rest := [(.int (M 1 0 * M 1 1 * M 1 2))]) (rv := (some (.int (csum (gCell M 5) 6)))) rfl rfl rfl (rd np M L (by omega) rfl) rfl rfl rfl rfl (rn_cells_b _) ?_
  show Ev _ _ 14 _ [(.int (csum (gCell M 5) 6)), (.int (M 1 0 * M 1 1 * M 1 2))] _ _
  refine ev_s rfl ?_
  refine ev_ri rfl rfl ?_ ?_
  · rfl
  · rfl
def inF (M : Nat → Nat → Int32) (x z : Int32) : Prop := cW x 0 (M 1 0 - 1) ∧ cW z 0 (M 1 2 - 1)
set_option maxHeartbeats 4000000 in
theorem rn_above {np : Nat} {M : Nat → Nat → Int32} {L : Nat → Int64} {x z : Int32} (d : Nat) : Rn (d + 2) mX5_above [(.ref 0), (.int x), (.int z)] (mk np M L) (some (.int (cIf (inF M x z) (upS M x z 6).1 (-102)))) (mk np M L) := by
  unfold Rn
  refine ev_s rfl ?_
  refine ev_ik (v := 0) rfl (by decide) ?_
  refine ev_s rfl ?_
  refine ev_gf (rd np M L (by omega) rfl) rfl rfl rfl ?_
  refine ev_gf (rd np M L (by omega) rfl) rfl rfl rfl ?_
  refine ev_ik (v := 1) rfl (by decide) ?_
  refine ev_s rfl ?_
  refine ev_cs (vs := [(.int x), (.int 0), (.int ((M 1 0) - 1))]) (rest := []) (rv := (some (.int (zi (cW x 0 ((M 1 0) - 1)))))) rfl rfl rfl rfl rfl (rn_isWithin _) ?_
  show Ev _ _ 14 _ [(.int (zi (cW x 0 ((M 1 0) - 1))))] _ _
  refine ev_if rfl rfl (ev_bze (fun c1 => ?_) (fun c1 => ?_))
  · show Ev _ _ 34 _ _ _ _
    refine ev_bi (v := (-102)) rfl (by decide) ?_
    refine ev_ri rfl rfl ?_ ?_
    · rw [cIf_f (show ¬ inF M x z from fun q => c1 q.1)]
    · rfl
  · show Ev _ _ 17 _ _ _ _
    refine ev_s rfl ?_
    refine ev_ik (v := 0) rfl (by decide) ?_
    refine ev_s rfl ?_
    refine ev_gf (rd np M L (by omega) rfl) rfl rfl rfl ?_
    refine ev_gf (rd np M L (by omega) rfl) rfl rfl rfl ?_
    refine ev_ik (v := 1) rfl (by decide) ?_
    refine ev_s rfl ?_
    refine ev_cs (vs := [(.int z), (.int 0), (.int ((M 1 2) - 1))]) (rest := []) (rv := (some (.int (zi (cW z 0 ((M 1 2) - 1)))))) rfl rfl rfl rfl rfl (rn_isWithin _) ?_
    show Ev _ _ 31 _ [(.int (zi (cW z 0 ((M 1 2) - 1))))] _ _
    refine ev_if rfl rfl (ev_bzn (fun c2 => ?_) (fun c2 => ?_))
    · show Ev _ _ 37 _ _ _ _
      refine ev_s rfl ?_
      refine ev_gf (rd np M L (by omega) rfl) rfl rfl rfl ?_
      iterate 2 refine ev_s rfl ?_
      refine ev_cv (vs := [(.ref 3), (.int x), (.int z)]) (rest := []) (rv := (some (.int ((upS M x z 6).1)))) rfl rfl rfl (rd np M L (by omega) rfl) rfl rfl rfl rfl (rn_ups _) ?_
      show Ev _ _ 46 _ [(.int ((upS M x z 6).1))] _ _
      refine ev_ri rfl rfl ?_ ?_
      · rw [cIf_t (show inF M x z from ⟨c1, c2⟩)]
      · rfl
    · show Ev _ _ 34 _ _ _ _
      refine ev_bi (v := (-102)) rfl (by decide) ?_
      refine ev_ri rfl rfl ?_ ?_
      · rw [cIf_f (show ¬ inF M x z from fun q => c2 q.2)]
      · rfl
theorem plO_k {M : Nat → Nat → Int32} {k : Nat} (hk : k < 6) : plO M (nI (k + 1)) = if M (5 + k) 0 = 0 then .null else .ref (5 + k) := by
  unfold plO
  rw [if_neg (by rw [show (1 : Int32) = nI 1 from by decide]; exact nI_nlt (by omega) (by omega)), if_neg (by rw [show (6 : Int32) = nI 6 from by decide]; exact nI_nlt (by omega) (by omega)), nI_pred, nI_clamp (by omega)]
theorem rn_placeOf_in {np : Nat} {M : Nat → Nat → Int32} {L : Nat → Int64} {k : Nat} (hk : k < 6) (hi : ¬ M (5 + k) 0 = 0) (d : Nat) : Rn d mX0_placeOf [.ref 3, .int (nI (k + 1))] (mk np M L) (some (.ref (5 + k))) (mk np M L) := by
  have := rn_placeOf (np := np) (M := M) (L := L) (n := nI (k + 1)) d
  rwa [plO_k hk, if_neg hi] at this
theorem rn_placeOf_out {np : Nat} {M : Nat → Nat → Int32} {L : Nat → Int64} {k : Nat} (hk : k < 6) (hi : M (5 + k) 0 = 0) (d : Nat) : Rn d mX0_placeOf [.ref 3, .int (nI (k + 1))] (mk np M L) (some .null) (mk np M L) := by
  have := rn_placeOf (np := np) (M := M) (L := L) (n := nI (k + 1)) d
  rwa [plO_k hk, if_pos hi] at this
theorem cW_of {x m : Int32} {k : Nat} (hm : m = nI k) (hk : k < 2 ^ 30) (h : cW x 0 m) : ∃ j, j ≤ k ∧ x = nI j := by
  subst hm
  obtain ⟨j, hj, rfl⟩ := nI_of h.1
  refine ⟨j, ?_, rfl⟩
  have := h.2
  rcases Nat.lt_or_ge k j with q | q
  · exact absurd (nI_lt q hj) this
  · exact q
set_option maxHeartbeats 4000000 in
theorem rn_at_in {np : Nat} {M : Nat → Nat → Int32} {L : Nat → Int64} {k : Nat} {x : Int32} (hn : np ≤ 6) (hk : k < np) (hi : ¬ M (5 + k) 0 = 0) (d : Nat) : Rn (d + 1) mX5_at [(.ref 0), (.int (nI (k + 1))), (.int x)] (mk np M L) (some (.int (cIf (cW x 0 3) (nOn (M (5 + k)) x.toNatClampNeg) (-102)))) (mk np M L) := by
  unfold Rn
  iterate 2 refine ev_s rfl ?_
  refine ev_cv (vs := [(.ref 0), (.int (nI (k + 1)))]) (rest := []) (rv := (some (.ref (57 + k)))) rfl rfl rfl (rd np M L (by omega) rfl) rfl rfl rfl rfl (rn_pieceOf_s hn hk _) ?_
  show Ev _ _ 5 _ [(.ref (57 + k))] _ _
  iterate 2 refine ev_s rfl ?_
  refine ev_ik (v := 0) rfl (by decide) ?_
  refine ev_ik (v := 3) rfl (by decide) ?_
  refine ev_cs (vs := [(.int x), (.int 0), (.int 3)]) (rest := []) (rv := (some (.int (zi (cW x 0 3))))) rfl rfl rfl rfl rfl (rn_isWithin _) ?_
  show Ev _ _ 17 _ [(.int (zi (cW x 0 3)))] _ _
  refine ev_if rfl rfl (ev_bzn (fun c1 => ?_) (fun c1 => ?_))
  · show Ev _ _ 23 _ _ _ _
    refine ev_s rfl ?_
    refine ev_gf (rd np M L (by omega) rfl) rfl rfl rfl ?_
    refine ev_s rfl ?_
    refine ev_cv (vs := [(.ref 3), (.int (nI (k + 1)))]) (rest := []) (rv := (some (.ref (5 + k)))) rfl rfl rfl (rd np M L (by omega) rfl) rfl rfl rfl rfl (rn_placeOf_in (by omega) hi _) ?_
    show Ev _ _ 31 _ [(.ref (5 + k))] _ _
    refine ev_s (ls' := [some (.ref 0), some (.int (nI (k + 1))), some (.int x), some (.ref (5 + k))]) rfl ?_
    iterate 4 refine ev_s rfl ?_
    obtain ⟨t, ht, hxt⟩ := cW_of (k := 3) (by decide) (by decide) c1
    refine ev_cv (vs := [(.ref (5 + k)), (.int x)]) (rest := []) (rv := (some (.int (nOn (M (5 + k)) t)))) rfl rfl rfl (rd np M L (by omega) (cel_best (by omega) _ _)) rfl rfl rfl rfl (by rw [hxt]; exact rn_numberOn (t := t) (f := M (5 + k)) (rd np M L (by omega) (cel_best (by omega) _ _)) (by omega) _) ?_
    show Ev _ _ 45 _ [(.int (nOn (M (5 + k)) t))] _ _
    refine ev_ri rfl rfl ?_ ?_
    · rw [cIf_t c1, hxt, nI_clamp (by omega)]
    · rfl
  · show Ev _ _ 20 _ _ _ _
    refine ev_bi (v := (-102)) rfl (by decide) ?_
    refine ev_ri rfl rfl ?_ ?_
    · rw [cIf_f c1]
    · rfl
set_option maxHeartbeats 4000000 in
theorem rn_at_out {np : Nat} {M : Nat → Nat → Int32} {L : Nat → Int64} {k : Nat} {x : Int32} (hn : np ≤ 6) (hk : k < np) (hi : M (5 + k) 0 = 0) (d : Nat) : Rn (d + 1) mX5_at [(.ref 0), (.int (nI (k + 1))), (.int x)] (mk np M L) (some (.int (cIf (cW x 0 3) ((-1)) (-102)))) (mk np M L) := by
  unfold Rn
  iterate 2 refine ev_s rfl ?_
  refine ev_cv (vs := [(.ref 0), (.int (nI (k + 1)))]) (rest := []) (rv := (some (.ref (57 + k)))) rfl rfl rfl (rd np M L (by omega) rfl) rfl rfl rfl rfl (rn_pieceOf_s hn hk _) ?_
  show Ev _ _ 5 _ [(.ref (57 + k))] _ _
  iterate 2 refine ev_s rfl ?_
  refine ev_ik (v := 0) rfl (by decide) ?_
  refine ev_ik (v := 3) rfl (by decide) ?_
  refine ev_cs (vs := [(.int x), (.int 0), (.int 3)]) (rest := []) (rv := (some (.int (zi (cW x 0 3))))) rfl rfl rfl rfl rfl (rn_isWithin _) ?_
  show Ev _ _ 17 _ [(.int (zi (cW x 0 3)))] _ _
  refine ev_if rfl rfl (ev_bzn (fun c1 => ?_) (fun c1 => ?_))
  · show Ev _ _ 23 _ _ _ _
    refine ev_s rfl ?_
    refine ev_gf (rd np M L (by omega) rfl) rfl rfl rfl ?_
    refine ev_s rfl ?_
    refine ev_cv (vs := [(.ref 3), (.int (nI (k + 1)))]) (rest := []) (rv := (some .null)) rfl rfl rfl (rd np M L (by omega) rfl) rfl rfl rfl rfl (rn_placeOf_out (by omega) hi _) ?_
    show Ev _ _ 31 _ [.null] _ _
    refine ev_s (ls' := [some (.ref 0), some (.int (nI (k + 1))), some (.int x), some .null]) rfl ?_
    iterate 2 refine ev_s rfl ?_
    refine ev_ik (v := (-1)) rfl (by decide) ?_
    refine ev_s rfl ?_
    refine ev_ri rfl rfl ?_ ?_
    · rw [cIf_t c1]
    · rfl
  · show Ev _ _ 20 _ _ _ _
    refine ev_bi (v := (-102)) rfl (by decide) ?_
    refine ev_ri rfl rfl ?_ ?_
    · rw [cIf_f c1]
    · rfl
set_option maxHeartbeats 4000000 in
theorem rn_ov_nn {np : Nat} {M : Nat → Nat → Int32} {L : Nat → Int64} {a b : Int32} {i k : Nat} (hi : i < 6) (hk : k < 6) (h1 : ∀ d, Rn d mX0_placeOf [.ref 3, .int a] (mk np M L) (some .null) (mk np M L)) (h2 : ∀ d, Rn d mX0_placeOf [.ref 3, .int b] (mk np M L) (some .null) (mk np M L)) (d : Nat) : Rn (d + 1) mX5_overlap [(.ref 0), (.int a), (.int b)] (mk np M L) (some (.int (0))) (mk np M L) := by
  unfold Rn
  refine ev_s rfl ?_
  refine ev_gf (rd np M L (by omega) rfl) rfl rfl rfl ?_
  refine ev_s rfl ?_
  refine ev_cv (vs := [(.ref 3), (.int a)]) (rest := []) (rv := (some .null)) rfl rfl rfl (rd np M L (by omega) rfl) rfl rfl rfl rfl (h1 _) ?_
  show Ev _ _ 8 _ [.null] _ _
  refine ev_s (ls' := [some (.ref 0), some (.int a), some (.int b), some .null, none]) rfl ?_
  refine ev_s rfl ?_
  refine ev_gf (rd np M L (by omega) rfl) rfl rfl rfl ?_
  refine ev_s rfl ?_
  refine ev_cv (vs := [(.ref 3), (.int b)]) (rest := []) (rv := (some .null)) rfl rfl rfl (rd np M L (by omega) rfl) rfl rfl rfl rfl (h2 _) ?_
  show Ev _ _ 17 _ [.null] _ _
  refine ev_s (ls' := [some (.ref 0), some (.int a), some (.int b), some .null, some .null]) rfl ?_
  iterate 2 refine ev_s rfl ?_
  refine ev_ik (v := 0) rfl (by decide) ?_
  refine ev_rz rfl rfl (by decide) ?_ ?_
  · rfl
  · rfl
set_option maxHeartbeats 4000000 in
theorem rn_ov_nr {np : Nat} {M : Nat → Nat → Int32} {L : Nat → Int64} {a b : Int32} {i k : Nat} (hi : i < 6) (hk : k < 6) (h1 : ∀ d, Rn d mX0_placeOf [.ref 3, .int a] (mk np M L) (some .null) (mk np M L)) (h2 : ∀ d, Rn d mX0_placeOf [.ref 3, .int b] (mk np M L) (some (.ref (5 + k))) (mk np M L)) (d : Nat) : Rn (d + 1) mX5_overlap [(.ref 0), (.int a), (.int b)] (mk np M L) (some (.int (0))) (mk np M L) := by
  unfold Rn
  refine ev_s rfl ?_
  refine ev_gf (rd np M L (by omega) rfl) rfl rfl rfl ?_
  refine ev_s rfl ?_
  refine ev_cv (vs := [(.ref 3), (.int a)]) (rest := []) (rv := (some .null)) rfl rfl rfl (rd np M L (by omega) rfl) rfl rfl rfl rfl (h1 _) ?_
  show Ev _ _ 8 _ [.null] _ _
  refine ev_s (ls' := [some (.ref 0), some (.int a), some (.int b), some .null, none]) rfl ?_
  refine ev_s rfl ?_
  refine ev_gf (rd np M L (by omega) rfl) rfl rfl rfl ?_
  refine ev_s rfl ?_
  refine ev_cv (vs := [(.ref 3), (.int b)]) (rest := []) (rv := (some (.ref (5 + k)))) rfl rfl rfl (rd np M L (by omega) rfl) rfl rfl rfl rfl (h2 _) ?_
  show Ev _ _ 17 _ [(.ref (5 + k))] _ _
  refine ev_s (ls' := [some (.ref 0), some (.int a), some (.int b), some .null, some (.ref (5 + k))]) rfl ?_
  iterate 2 refine ev_s rfl ?_
  refine ev_ik (v := 0) rfl (by decide) ?_
  refine ev_rz rfl rfl (by decide) ?_ ?_
  · rfl
  · rfl
set_option maxHeartbeats 4000000 in
theorem rn_ov_rn {np : Nat} {M : Nat → Nat → Int32} {L : Nat → Int64} {a b : Int32} {i k : Nat} (hi : i < 6) (hk : k < 6) (h1 : ∀ d, Rn d mX0_placeOf [.ref 3, .int a] (mk np M L) (some (.ref (5 + i))) (mk np M L)) (h2 : ∀ d, Rn d mX0_placeOf [.ref 3, .int b] (mk np M L) (some .null) (mk np M L)) (d : Nat) : Rn (d + 1) mX5_overlap [(.ref 0), (.int a), (.int b)] (mk np M L) (some (.int (0))) (mk np M L) := by
  unfold Rn
  refine ev_s rfl ?_
  refine ev_gf (rd np M L (by omega) rfl) rfl rfl rfl ?_
  refine ev_s rfl ?_
  refine ev_cv (vs := [(.ref 3), (.int a)]) (rest := []) (rv := (some (.ref (5 + i)))) rfl rfl rfl (rd np M L (by omega) rfl) rfl rfl rfl rfl (h1 _) ?_
  show Ev _ _ 8 _ [(.ref (5 + i))] _ _
  refine ev_s (ls' := [some (.ref 0), some (.int a), some (.int b), some (.ref (5 + i)), none]) rfl ?_
  refine ev_s rfl ?_
  refine ev_gf (rd np M L (by omega) rfl) rfl rfl rfl ?_
  refine ev_s rfl ?_
  refine ev_cv (vs := [(.ref 3), (.int b)]) (rest := []) (rv := (some .null)) rfl rfl rfl (rd np M L (by omega) rfl) rfl rfl rfl rfl (h2 _) ?_
  show Ev _ _ 17 _ [.null] _ _
  refine ev_s (ls' := [some (.ref 0), some (.int a), some (.int b), some (.ref (5 + i)), some .null]) rfl ?_
  iterate 4 refine ev_s rfl ?_
  refine ev_ik (v := 0) rfl (by decide) ?_
  refine ev_rz rfl rfl (by decide) ?_ ?_
  · rfl
  · rfl
set_option maxHeartbeats 4000000 in
theorem rn_ov_rr {np : Nat} {M : Nat → Nat → Int32} {L : Nat → Int64} {a b : Int32} {i k : Nat} (hi : i < 6) (hk : k < 6) (h1 : ∀ d, Rn d mX0_placeOf [.ref 3, .int a] (mk np M L) (some (.ref (5 + i))) (mk np M L)) (h2 : ∀ d, Rn d mX0_placeOf [.ref 3, .int b] (mk np M L) (some (.ref (5 + k))) (mk np M L)) (d : Nat) : Rn (d + 1) mX5_overlap [(.ref 0), (.int a), (.int b)] (mk np M L) (some (.int (zi (cOv (M (5 + i)) (M (5 + k)))))) (mk np M L) := by
  unfold Rn
  refine ev_s rfl ?_
  refine ev_gf (rd np M L (by omega) rfl) rfl rfl rfl ?_
  refine ev_s rfl ?_
  refine ev_cv (vs := [(.ref 3), (.int a)]) (rest := []) (rv := (some (.ref (5 + i)))) rfl rfl rfl (rd np M L (by omega) rfl) rfl rfl rfl rfl (h1 _) ?_
  show Ev _ _ 8 _ [(.ref (5 + i))] _ _
  refine ev_s (ls' := [some (.ref 0), some (.int a), some (.int b), some (.ref (5 + i)), none]) rfl ?_
  refine ev_s rfl ?_
  refine ev_gf (rd np M L (by omega) rfl) rfl rfl rfl ?_
  refine ev_s rfl ?_
  refine ev_cv (vs := [(.ref 3), (.int b)]) (rest := []) (rv := (some (.ref (5 + k)))) rfl rfl rfl (rd np M L (by omega) rfl) rfl rfl rfl rfl (h2 _) ?_
  show Ev _ _ 17 _ [(.ref (5 + k))] _ _
  refine ev_s (ls' := [some (.ref 0), some (.int a), some (.int b), some (.ref (5 + i)), some (.ref (5 + k))]) rfl ?_
  iterate 6 refine ev_s rfl ?_
  refine ev_cv (vs := [(.ref (5 + i)), (.ref (5 + k))]) (rest := []) (rv := (some (.int (zi (cOv (M (5 + i)) (M (5 + k))))))) rfl rfl rfl (rd np M L (by omega) (cel_best (by omega) _ _)) rfl rfl rfl rfl (rn_overlaps (f := M (5 + i)) (g := M (5 + k)) (rd np M L (by omega) (cel_best (by omega) _ _)) (rd np M L (by omega) (cel_best (by omega) _ _)) _) ?_
  show Ev _ _ 34 _ [(.int (zi (cOv (M (5 + i)) (M (5 + k)))))] _ _
  refine ev_if rfl rfl (ev_bze (fun c1 => ?_) (fun c1 => ?_))
  · show Ev _ _ 41 _ _ _ _
    refine ev_ik (v := 0) rfl (by decide) ?_
    refine ev_rz rfl rfl (by decide) ?_ ?_
    · exact some_i (zi_f c1).symm
    · rfl
  · show Ev _ _ 37 _ _ _ _
    refine ev_ik (v := 1) rfl (by decide) ?_
    refine ev_s rfl ?_
    refine ev_rz rfl rfl (by decide) ?_ ?_
    · exact some_i (zi_t c1).symm
    · rfl
noncomputable def bdS (M : Nat → Nat → Int32) (np : Nat) : Nat → Int32
  | 0 => 0
  | i + 1 => cIf (i < np ∧ ¬ cLg (M (57 + i)) (M 1)) (bdS M np i + M (57 + i) 0 * M (57 + i) 1 * M (57 + i) 2) (bdS M np i)
set_option maxHeartbeats 4000000 in
theorem lp_bd {np : Nat} {M : Nat → Nat → Int32} {L : Nat → Int64} (d : Nat) : ∀ k i, i + k = 6 → ∀ v3, Ev (d + 2) mX5_bound 4 [some (.ref 0), some (.int (bdS M np i)), some (.int (nI i)), v3] [] (mk np M L) (Qr mX5_bound (some (.int (if M 1 0 * M 1 1 * M 1 2 < bdS M np 6 then M 1 0 * M 1 1 * M 1 2 else bdS M np 6))) (mk np M L)) := by
  intro k
  induction k with
  | zero =>
    intro i hik v3
    obtain rfl : i = 6 := by omega
    iterate 2 refine ev_s rfl ?_
    refine ev_gf (rd np M L (by omega) rfl) rfl rfl rfl ?_
    refine ev_al (v := 6) (rd np M L (by omega) rfl) rfl rfl rfl ?_
    refine ev_ic rfl rfl ?_
    rw [show zbr .ge (nI 6) 6 48 13 = 48 from zge_t (n := 6) (by decide) (by omega) (by decide)]
    iterate 2 refine ev_s rfl ?_
    refine ev_gf (rd np M L (by omega) rfl) rfl rfl rfl ?_
    refine ev_cv (vs := [(.ref 1)]) (rest := [(.int (bdS M np 6))]) (rv := (some (.int (M 1 0 * M 1 1 * M 1 2)))) rfl rfl rfl (rd np M L (by omega) rfl) rfl rfl rfl rfl (rn_scells (f := M 1) (rd np M L (by omega) rfl) _) ?_
    show Ev _ _ 56 _ [(.int (M 1 0 * M 1 1 * M 1 2)), (.int (bdS M np 6))] _ _
    refine ev_s rfl ?_
    refine ev_ri rfl rfl ?_ ?_
    · rfl
    · rfl
  | succ k ih =>
    intro i hik v3
    have hi : i < 6 := by omega
    have hun : bdS M np (i + 1) = cIf (i < np ∧ ¬ cLg (M (57 + i)) (M 1)) (bdS M np i + M (57 + i) 0 * M (57 + i) 1 * M (57 + i) 2) (bdS M np i) := rfl
    by_cases hn : i < np
    · have hh := hn
      iterate 2 refine ev_s rfl ?_
      refine ev_gf (rd np M L (by omega) rfl) rfl rfl rfl ?_
      refine ev_al (v := 6) (rd np M L (by omega) rfl) rfl rfl rfl ?_
      refine ev_ic rfl rfl ?_
      rw [show zbr .ge (nI i) 6 48 13 = 13 from zge_f (n := 6) (by decide) hi (by decide)]
      refine ev_s rfl ?_
      refine ev_gf (rd np M L (by omega) rfl) rfl rfl rfl ?_
      refine ev_s rfl ?_
      refine ev_aa (v := (.ref (57 + i))) (rd np M L (by omega) rfl) rfl rfl (zin_nI (by omega) (by decide)) (by rw [if_pos hn]; rfl) ?_
      refine ev_s (ls' := [some (.ref 0), some (.int (bdS M np i)), some (.int (nI i)), some (.ref (57 + i))]) rfl ?_
      iterate 4 refine ev_s rfl ?_
      refine ev_gf (rd np M L (by omega) rfl) rfl rfl rfl ?_
      refine ev_cv (vs := [(.ref (57 + i)), (.ref 1)]) (rest := []) (rv := (some (.int (zi (cLg (M (57 + i)) (M 1)))))) rfl rfl rfl (rd np M L (by omega) (cel_piece _ _)) rfl rfl rfl rfl (rn_lg (f := M (57 + i)) (g := M 1) (rd np M L (by omega) (cel_piece _ _)) (rd np M L (by omega) rfl) _) ?_
      show Ev _ _ 32 _ [(.int (zi (cLg (M (57 + i)) (M 1))))] _ _
      refine ev_if rfl rfl (ev_bzn (fun c1 => ?_) (fun c1 => ?_))
      · show Ev _ _ 42 _ _ _ _
        refine ev_inc (y := 1) (v := nI (i + 1)) (ls' := [some (.ref 0), some (.int (bdS M np i)), some (.int (nI (i + 1))), some (.ref (57 + i))]) rfl rfl (by decide) (nI_1 _) rfl ?_
        refine ev_s rfl ?_
        have e9 := ih (i + 1) (by omega) (some (.ref (57 + i)))
        rw [hun, cIf_f (fun q => q.2 c1)] at e9
        exact e9
      · show Ev _ _ 35 _ _ _ _
        iterate 2 refine ev_s rfl ?_
        refine ev_cv (vs := [(.ref (57 + i))]) (rest := [(.int (bdS M np i))]) (rv := (some (.int (M (57 + i) 0 * M (57 + i) 1 * M (57 + i) 2)))) rfl rfl rfl (rd np M L (by omega) (cel_piece _ _)) rfl rfl rfl rfl (rn_kcells (f := M (57 + i)) (rd np M L (by omega) (cel_piece _ _)) _) ?_
        show Ev _ _ 40 _ [(.int (M (57 + i) 0 * M (57 + i) 1 * M (57 + i) 2)), (.int (bdS M np i))] _ _
        refine ev_s rfl ?_
        refine ev_s (ls' := [some (.ref 0), some (.int ((bdS M np i) + (M (57 + i) 0 * M (57 + i) 1 * M (57 + i) 2))), some (.int (nI i)), some (.ref (57 + i))]) rfl ?_
        refine ev_inc (y := 1) (v := nI (i + 1)) (ls' := [some (.ref 0), some (.int ((bdS M np i) + (M (57 + i) 0 * M (57 + i) 1 * M (57 + i) 2))), some (.int (nI (i + 1))), some (.ref (57 + i))]) rfl rfl (by decide) (nI_1 _) rfl ?_
        refine ev_s rfl ?_
        have e9 := ih (i + 1) (by omega) (some (.ref (57 + i)))
        rw [hun, cIf_t ⟨hn, c1⟩] at e9
        exact e9
    · have hh := hn
      iterate 2 refine ev_s rfl ?_
      refine ev_gf (rd np M L (by omega) rfl) rfl rfl rfl ?_
      refine ev_al (v := 6) (rd np M L (by omega) rfl) rfl rfl rfl ?_
      refine ev_ic rfl rfl ?_
      rw [show zbr .ge (nI i) 6 48 13 = 13 from zge_f (n := 6) (by decide) hi (by decide)]
      refine ev_s rfl ?_
      refine ev_gf (rd np M L (by omega) rfl) rfl rfl rfl ?_
      refine ev_s rfl ?_
      refine ev_aa (v := .null) (rd np M L (by omega) rfl) rfl rfl (zin_nI (by omega) (by decide)) (by rw [if_neg hn]; rfl) ?_
      refine ev_s (ls' := [some (.ref 0), some (.int (bdS M np i)), some (.int (nI i)), some .null]) rfl ?_
      iterate 2 refine ev_s rfl ?_
      refine ev_inc (y := 1) (v := nI (i + 1)) (ls' := [some (.ref 0), some (.int (bdS M np i)), some (.int (nI (i + 1))), some .null]) rfl rfl (by decide) (nI_1 _) rfl ?_
      refine ev_s rfl ?_
      have e9 := ih (i + 1) (by omega) (some .null)
      rw [hun, cIf_f (fun q => hn q.1)] at e9
      exact e9
set_option maxHeartbeats 4000000 in
theorem rn_bound {np : Nat} {M : Nat → Nat → Int32} {L : Nat → Int64}  (d : Nat) : Rn (d + 2) mX5_bound [(.ref 0)] (mk np M L) (some (.int (if M 1 0 * M 1 1 * M 1 2 < bdS M np 6 then M 1 0 * M 1 1 * M 1 2 else bdS M np 6))) (mk np M L) := by
  unfold Rn
  refine ev_ik (v := 0) rfl (by decide) ?_
  refine ev_s (ls' := [some (.ref 0), some (.int 0), none, none]) rfl ?_
  refine ev_ik (v := 0) rfl (by decide) ?_
  refine ev_s (ls' := [some (.ref 0), some (.int 0), some (.int 0), none]) rfl ?_
  exact lp_bd d 6 0 (by omega) none
noncomputable def ulS (s : Int32) : Nat → Int32 → (Nat → Nat → Int32) → Int32 × (Nat → Nat → Int32)
  | 0, c, M => (c, M)
  | n + 1, c, M => if (tkS M s 6).1 = 0 then (c, (tkS M s 6).2) else ulS s n (c + (tkS M s 6).1) (tkS M s 6).2
theorem zgti_t {i n t f : Nat} {y : Int32} (hy : y = nI n) (h : n < i) (hn : i < 2 ^ 31) : zbr .gt (nI i) y t f = t := by
  subst hy; exact if_pos (nI_lt h hn)
theorem zgti_f {i n t f : Nat} {y : Int32} (hy : y = nI n) (h : i ≤ n) (hn : n < 2 ^ 31) : zbr .gt (nI i) y t f = f := by
  subst hy; exact if_neg (nI_nlt h hn)
set_option maxHeartbeats 4000000 in
theorem lp_ul {np : Nat} {L : Nat → Int64} {s : Int32} (d : Nat) : ∀ n i c M v4, i + n = 7 → Ev (d + 3) mX5_unload 17 [some (.ref 0), some (.int s), some (.int c), some (.int (nI i)), v4] [] (mk np M L) (Qr mX5_unload (some (.int (ulS s n c M).1)) (mk np (ulS s n c M).2 L)) := by
  intro n
  induction n with
  | zero =>
    intro i c M v4 hik
    obtain rfl : i = 7 := by omega
    refine ev_s rfl ?_
    refine ev_bi (v := 6) rfl (by decide) ?_
    refine ev_ic rfl rfl ?_
    rw [show zbr .gt (nI 7) 6 52 23 = 52 from zgti_t (n := 6) (by decide) (by omega) (by decide)]
    refine ev_s rfl ?_
    refine ev_ri rfl rfl ?_ ?_
    · rfl
    · rfl
  | succ n ih =>
    intro i c M v4 hik
    have hi : i ≤ 6 := by omega
    have hun : ulS s (n + 1) c M = if (tkS M s 6).1 = 0 then (c, (tkS M s 6).2) else ulS s n (c + (tkS M s 6).1) (tkS M s 6).2 := rfl
    refine ev_s rfl ?_
    refine ev_bi (v := 6) rfl (by decide) ?_
    refine ev_ic rfl rfl ?_
    rw [show zbr .gt (nI i) 6 52 23 = 23 from zgti_f (n := 6) (by decide) hi (by decide)]
    refine ev_s rfl ?_
    refine ev_gf (rd np M L (by omega) rfl) rfl rfl rfl ?_
    refine ev_s rfl ?_
    refine ev_cv (vs := [(.ref 3), (.int s)]) (rest := []) (rv := (some (.int ((tkS M s 6).1)))) (hp' := (mk np ((tkS M s 6).2) L)) rfl rfl rfl (rd np M L (by omega) rfl) rfl rfl rfl rfl (rn_tk _) ?_
    show Ev _ _ 31 _ [(.int ((tkS M s 6).1))] _ _
    refine ev_s (ls' := [some (.ref 0), some (.int s), some (.int c), some (.int (nI i)), some (.int ((tkS M s 6).1))]) rfl ?_
    refine ev_s rfl ?_
    refine ev_if rfl rfl (ev_bn (fun c1 => ?_) (fun c1 => ?_))
    · show Ev _ _ 41 _ _ _ _
      iterate 3 refine ev_s rfl ?_
      refine ev_s (ls' := [some (.ref 0), some (.int s), some (.int (c + ((tkS M s 6).1))), some (.int (nI i)), some (.int ((tkS M s 6).1))]) rfl ?_
      refine ev_inc (y := 1) (v := nI (i + 1)) (ls' := [some (.ref 0), some (.int s), some (.int (c + ((tkS M s 6).1))), some (.int (nI (i + 1))), some (.int ((tkS M s 6).1))]) rfl rfl (by decide) (nI_1 _) rfl ?_
      refine ev_s rfl ?_
      rw [hun, if_neg c1]
      exact ih (i + 1) _ _ _ (by omega)
    · show Ev _ _ 38 _ _ _ _
      iterate 2 refine ev_s rfl ?_
      refine ev_ri rfl rfl ?_ ?_
      · rw [hun, if_pos c1]
      · rw [hun, if_pos c1]
set_option maxHeartbeats 4000000 in
theorem rn_unload {np : Nat} {M : Nat → Nat → Int32} {L : Nat → Int64} {s : Int32} (d : Nat) : Rn (d + 3) mX5_unload [(.ref 0), (.int s)] (mk np M L) (some (.int (cIf (cW s 0 9) (ulS s 7 0 M).1 (-102)))) (mk np (cIf (cW s 0 9) (ulS s 7 0 M).2 M) L) := by
  unfold Rn
  refine ev_s rfl ?_
  refine ev_ik (v := 0) rfl (by decide) ?_
  refine ev_bi (v := 9) rfl (by decide) ?_
  refine ev_cs (vs := [(.int s), (.int 0), (.int 9)]) (rest := []) (rv := (some (.int (zi (cW s 0 9))))) rfl rfl rfl rfl rfl (rn_isWithin _) ?_
  show Ev _ _ 7 _ [(.int (zi (cW s 0 9)))] _ _
  refine ev_if rfl rfl (ev_bzn (fun c1 => ?_) (fun c1 => ?_))
  · show Ev _ _ 13 _ _ _ _
    refine ev_ik (v := 0) rfl (by decide) ?_
    refine ev_s (ls' := [some (.ref 0), some (.int s), some (.int 0), none, none]) rfl ?_
    refine ev_ik (v := 0) rfl (by decide) ?_
    refine ev_s (ls' := [some (.ref 0), some (.int s), some (.int 0), some (.int 0), none]) rfl ?_
    rw [cIf_t c1, cIf_t c1]
    exact lp_ul d 7 0 0 M none (by omega)
  · show Ev _ _ 10 _ _ _ _
    refine ev_bi (v := (-102)) rfl (by decide) ?_
    refine ev_ri rfl rfl ?_ ?_
    · rw [cIf_f c1]
    · rw [cIf_f c1]
noncomputable def pk1 (w h dd np : Nat) (s : Int32) (M : Nat → Nat → Int32) : Nat → Nat → Int32 := skM w h dd np 0 (bgM (bg0 M s) np 6)
noncomputable def pkM (w h dd np : Nat) (s : Int32) (M : Nat → Nat → Int32) : Nat → Nat → Int32 := up2 (pk1 w h dd np s M) 0 5 (pk1 w h dd np s M 0 5 - pk1 w h dd np s M 11 8)
noncomputable def pkR (w h dd np : Nat) (s : Int32) (M : Nat → Nat → Int32) : Int32 := cIf (cW s 1 500) (if M 0 2 = 0 then -103 else if s ≤ M 0 5 then csum (gCell (pkM w h dd np s M) 5) 6 else -104) (-102)
noncomputable def pkH (w h dd np : Nat) (s : Int32) (M : Nat → Nat → Int32) : Nat → Nat → Int32 := cIf (cW s 1 500) (if M 0 2 = 0 then M else if s ≤ M 0 5 then pkM w h dd np s M else M) M
set_option maxHeartbeats 4000000 in
theorem rn_pack {np : Nat} {M : Nat → Nat → Int32} {L : Nat → Int64} {w h dd : Nat} {s : Int32} (ok : OKc np w h dd (bgM (bg0 M s) np 6)) (d : Nat) : Rn (d + 40) mX5_pack [(.ref 0), (.int s)] (mk np M L) (some (.int (pkR w h dd np s M))) (mk np (pkH w h dd np s M) L) := by
  obtain ⟨M1, hM1⟩ : ∃ M1, M1 = pk1 w h dd np s M := ⟨_, rfl⟩
  unfold Rn
  refine ev_s rfl ?_
  refine ev_ik (v := 1) rfl (by decide) ?_
  refine ev_si (v := 500) rfl (by decide) ?_
  refine ev_cs (vs := [(.int s), (.int 1), (.int 500)]) (rest := []) (rv := (some (.int (zi (cW s 1 500))))) rfl rfl rfl rfl rfl (rn_isWithin _) ?_
  show Ev _ _ 8 _ [(.int (zi (cW s 1 500)))] _ _
  refine ev_if rfl rfl (ev_bzn (fun c1 => ?_) (fun c1 => ?_))
  · show Ev _ _ 14 _ _ _ _
    refine ev_s rfl ?_
    refine ev_gf (rd np M L (by omega) rfl) rfl rfl rfl ?_
    refine ev_if rfl rfl (ev_bn (fun c2 => ?_) (fun c2 => ?_))
    · show Ev _ _ 24 _ _ _ _
      iterate 2 refine ev_s rfl ?_
      refine ev_gf (rd np M L (by omega) rfl) rfl rfl rfl ?_
      refine ev_ic rfl rfl (ev_br (zb_le _ _ _ _) (fun c3 => ?_) (fun c3 => ?_))
      · show Ev _ _ 35 _ _ _ _
        refine ev_s rfl ?_
        refine ev_gf (rd np M L (by omega) rfl) rfl rfl rfl ?_
        refine ev_s rfl ?_
        refine ev_cv (vs := [(.ref 11), (.int s)]) (rest := []) (rv := none) (hp' := (mk np (bgM (bg0 M s) np 6) L)) rfl rfl rfl (rd np M L (by omega) rfl) rfl rfl rfl rfl (rn_begin _) ?_
        show Ev _ _ 43 _ [] _ _
        refine ev_s rfl ?_
        refine ev_gf (rd np (bgM (bg0 M s) np 6) L (by omega) rfl) rfl rfl rfl ?_
        refine ev_ik (v := 0) rfl (by decide) ?_
        refine ev_cv (vs := [(.ref 11), (.int 0)]) (rest := []) (rv := none) (hp' := (mk np M1 L)) rfl rfl rfl (rd np (bgM (bg0 M s) np 6) L (by omega) rfl) rfl rfl rfl rfl (by rw [hM1]; exact Rn_le (rn_seek np 0 _ (by omega) ok) (by have := ok.1; omega)) ?_
        show Ev _ _ 51 _ [] _ _
        iterate 2 refine ev_s rfl ?_
        refine ev_gf (rd np M1 L (by omega) rfl) rfl rfl rfl ?_
        refine ev_s rfl ?_
        refine ev_gf (rd np M1 L (by omega) rfl) rfl rfl rfl ?_
        refine ev_gf (rd np M1 L (by omega) rfl) rfl rfl rfl ?_
        refine ev_s rfl ?_
        refine ev_pf (hp' := (mk np (up2 M1 0 5 ((M1 0 5) - (M1 11 8))) L)) (rd np M1 L (by omega) rfl) rfl rfl (by simp) rfl rfl (mk_setr rfl rfl rfl) ?_
        refine ev_s rfl ?_
        refine ev_gf (rd np (up2 M1 0 5 ((M1 0 5) - (M1 11 8))) L (by omega) ((congrArg (fun r => cel np 0 r (L 0)) ((up2_s _ _ _ _).trans (congrArg (fun r => upd r 5 ((M1 0 5) - (M1 11 8))) rfl))).trans rfl)) rfl rfl rfl ?_
        refine ev_cv (vs := [(.ref 3)]) (rest := []) (rv := (some (.int (csum (gCell (up2 M1 0 5 ((M1 0 5) - (M1 11 8))) 5) 6)))) rfl rfl rfl (rd np (up2 M1 0 5 ((M1 0 5) - (M1 11 8))) L (by omega) ((congrArg (fun r => cel np 3 r (L 3)) ((up2_n (by omega)).trans rfl)).trans rfl)) rfl rfl rfl rfl (rn_cells_b (M := (up2 M1 0 5 ((M1 0 5) - (M1 11 8)))) _) ?_
        show Ev _ _ 74 _ [(.int (csum (gCell (up2 M1 0 5 ((M1 0 5) - (M1 11 8))) 5) 6))] _ _
        refine ev_ri rfl rfl ?_ ?_
        · unfold pkR; rw [cIf_t c1, if_neg c2, if_pos c3]; unfold pkM; rw [← hM1]
        · unfold pkH; rw [cIf_t c1, if_neg c2, if_pos c3]; unfold pkM; rw [← hM1]
      · show Ev _ _ 32 _ _ _ _
        refine ev_bi (v := (-104)) rfl (by decide) ?_
        refine ev_ri rfl rfl ?_ ?_
        · unfold pkR; rw [cIf_t c1, if_neg c2, if_neg c3]
        · unfold pkH; rw [cIf_t c1, if_neg c2, if_neg c3]
    · show Ev _ _ 21 _ _ _ _
      refine ev_bi (v := (-103)) rfl (by decide) ?_
      refine ev_ri rfl rfl ?_ ?_
      · unfold pkR; rw [cIf_t c1, if_pos c2]
      · unfold pkH; rw [cIf_t c1, if_pos c2]
  · show Ev _ _ 11 _ _ _ _
    refine ev_bi (v := (-102)) rfl (by decide) ?_
    refine ev_ri rfl rfl ?_ ?_
    · unfold pkR; rw [cIf_f c1]
    · unfold pkH; rw [cIf_f c1]
end
section
/-! ===== LoadSpaceModel: what isn't its search ===== -/
def nrL (v : Int32) : Int32 := if 1 ≤ v then (if v ≤ 12 then v else 12) else 1
def cmn (a n b m : Int32) : Int32 :=
  if (if b + m ≤ a + n then b + m else a + n) ≤ (if a ≤ b then b else a) then 0 else (if b + m ≤ a + n then b + m else a + n) - (if a ≤ b then b else a)
/-- the lengths of piece k as the model holds them -/
def pf (M : Nat → Nat → Int32) (k : Nat) : Nat → Int32 := fun i => M (22 + i) k

set_option maxHeartbeats 4000000 in
theorem rn_near {hp : zHp} {v : Int32} (d : Nat) : Rn d mX6_near [(.int v)] hp (some (.int (nrL v))) hp := by
  unfold Rn
  refine ev_s rfl ?_
  refine ev_ik (v := 1) rfl (by decide) ?_
  refine ev_ic rfl rfl (ev_br (zb_ge _ _ _ _) (fun c1 => ?_) (fun c1 => ?_))
  · show Ev _ _ 9 _ _ _ _
    refine ev_s rfl ?_
    refine ev_bi (v := 12) rfl (by decide) ?_
    refine ev_ic rfl rfl (ev_br (zb_le _ _ _ _) (fun c2 => ?_) (fun c2 => ?_))
    · show Ev _ _ 20 _ _ _ _
      refine ev_s rfl ?_
      refine ev_ri rfl rfl ?_ ?_
      · unfold nrL; rw [if_pos c1, if_pos c2]
      · rfl
    · show Ev _ _ 15 _ _ _ _
      refine ev_bi (v := 12) rfl (by decide) ?_
      refine ev_s rfl ?_
      refine ev_ri rfl rfl ?_ ?_
      · unfold nrL; rw [if_pos c1, if_neg c2]
      · rfl
  · show Ev _ _ 5 _ _ _ _
    refine ev_ik (v := 1) rfl (by decide) ?_
    refine ev_s rfl ?_
    refine ev_ri rfl rfl ?_ ?_
    · unfold nrL; rw [if_neg c1]
    · rfl
set_option maxHeartbeats 4000000 in
theorem rn_turnsOf {hp : zHp} {x : Int32} (d : Nat) : Rn d mX6_turnsOf [(.int x)] hp (some (.int (nI (tmo x)))) hp := by
  unfold Rn
  refine ev_s rfl ?_
  refine ev_if rfl rfl (ev_bn (fun c1 => ?_) (fun c1 => ?_))
  · show Ev _ _ 8 _ _ _ _
    refine ev_s rfl ?_
    refine ev_ik (v := 1) rfl (by decide) ?_
    refine ev_ic rfl rfl (ev_bn (fun c2 => ?_) (fun c2 => ?_))
    · show Ev _ _ 17 _ _ _ _
      refine ev_bi (v := 6) rfl (by decide) ?_
      refine ev_ri rfl rfl ?_ ?_
      · rw [show tmo x = 6 from by simp [tmo, c1, c2]]; rfl
      · rfl
    · show Ev _ _ 13 _ _ _ _
      refine ev_ik (v := 2) rfl (by decide) ?_
      refine ev_s rfl ?_
      refine ev_ri rfl rfl ?_ ?_
      · rw [show tmo x = 2 from by simp [tmo, c1, c2]]; rfl
      · rfl
  · show Ev _ _ 4 _ _ _ _
    refine ev_ik (v := 1) rfl (by decide) ?_
    refine ev_s rfl ?_
    refine ev_ri rfl rfl ?_ ?_
    · rw [show tmo x = 1 from by simp [tmo, c1]]; rfl
    · rfl
set_option maxHeartbeats 4000000 in
theorem rn_common {hp : zHp} {a n b m : Int32} (d : Nat) : Rn d mX6_common [(.int a), (.int n), (.int b), (.int m)] hp (some (.int (cmn a n b m))) hp := by
  unfold Rn
  iterate 2 refine ev_s rfl ?_
  refine ev_ic rfl rfl (ev_br (zb_le _ _ _ _) (fun c1 => ?_) (fun c1 => ?_))
  · show Ev _ _ 9 _ _ _ _
    refine ev_s rfl ?_
    refine ev_s (ls' := [some (.int a), some (.int n), some (.int b), some (.int m), some (.int b), none]) rfl ?_
    iterate 6 refine ev_s rfl ?_
    refine ev_ic rfl rfl (ev_br (zb_ge _ _ _ _) (fun c2 => ?_) (fun c2 => ?_))
    · show Ev _ _ 27 _ _ _ _
      iterate 3 refine ev_s rfl ?_
      refine ev_s (ls' := [some (.int a), some (.int n), some (.int b), some (.int m), some (.int b), some (.int (b + m))]) rfl ?_
      iterate 2 refine ev_s rfl ?_
      refine ev_ic rfl rfl (ev_br (zb_le _ _ _ _) (fun c3 => ?_) (fun c3 => ?_))
      · show Ev _ _ 47 _ _ _ _
        refine ev_ik (v := 0) rfl (by decide) ?_
        refine ev_ri rfl rfl ?_ ?_
        · unfold cmn; simp only [if_pos c1, if_pos c2, if_pos c3]
        · rfl
      · show Ev _ _ 39 _ _ _ _
        iterate 4 refine ev_s rfl ?_
        refine ev_ri rfl rfl ?_ ?_
        · unfold cmn; simp only [if_pos c1, if_pos c2, if_neg c3]
        · rfl
    · show Ev _ _ 21 _ _ _ _
      iterate 4 refine ev_s rfl ?_
      refine ev_s (ls' := [some (.int a), some (.int n), some (.int b), some (.int m), some (.int b), some (.int (a + n))]) rfl ?_
      iterate 2 refine ev_s rfl ?_
      refine ev_ic rfl rfl (ev_br (zb_le _ _ _ _) (fun c4 => ?_) (fun c4 => ?_))
      · show Ev _ _ 47 _ _ _ _
        refine ev_ik (v := 0) rfl (by decide) ?_
        refine ev_ri rfl rfl ?_ ?_
        · unfold cmn; simp only [if_pos c1, if_neg c2, if_pos c4]
        · rfl
      · show Ev _ _ 39 _ _ _ _
        iterate 4 refine ev_s rfl ?_
        refine ev_ri rfl rfl ?_ ?_
        · unfold cmn; simp only [if_pos c1, if_neg c2, if_neg c4]
        · rfl
  · show Ev _ _ 5 _ _ _ _
    iterate 2 refine ev_s rfl ?_
    refine ev_s (ls' := [some (.int a), some (.int n), some (.int b), some (.int m), some (.int a), none]) rfl ?_
    iterate 6 refine ev_s rfl ?_
    refine ev_ic rfl rfl (ev_br (zb_ge _ _ _ _) (fun c5 => ?_) (fun c5 => ?_))
    · show Ev _ _ 27 _ _ _ _
      iterate 3 refine ev_s rfl ?_
      refine ev_s (ls' := [some (.int a), some (.int n), some (.int b), some (.int m), some (.int a), some (.int (b + m))]) rfl ?_
      iterate 2 refine ev_s rfl ?_
      refine ev_ic rfl rfl (ev_br (zb_le _ _ _ _) (fun c6 => ?_) (fun c6 => ?_))
      · show Ev _ _ 47 _ _ _ _
        refine ev_ik (v := 0) rfl (by decide) ?_
        refine ev_ri rfl rfl ?_ ?_
        · unfold cmn; simp only [if_neg c1, if_pos c5, if_pos c6]
        · rfl
      · show Ev _ _ 39 _ _ _ _
        iterate 4 refine ev_s rfl ?_
        refine ev_ri rfl rfl ?_ ?_
        · unfold cmn; simp only [if_neg c1, if_pos c5, if_neg c6]
        · rfl
    · show Ev _ _ 21 _ _ _ _
      iterate 4 refine ev_s rfl ?_
      refine ev_s (ls' := [some (.int a), some (.int n), some (.int b), some (.int m), some (.int a), some (.int (a + n))]) rfl ?_
      iterate 2 refine ev_s rfl ?_
      refine ev_ic rfl rfl (ev_br (zb_le _ _ _ _) (fun c7 => ?_) (fun c7 => ?_))
      · show Ev _ _ 47 _ _ _ _
        refine ev_ik (v := 0) rfl (by decide) ?_
        refine ev_ri rfl rfl ?_ ?_
        · unfold cmn; simp only [if_neg c1, if_neg c5, if_pos c7]
        · rfl
      · show Ev _ _ 39 _ _ _ _
        iterate 4 refine ev_s rfl ?_
        refine ev_ri rfl rfl ?_ ?_
        · unfold cmn; simp only [if_neg c1, if_neg c5, if_neg c7]
        · rfl
set_option maxHeartbeats 4000000 in
theorem rn_isPiece {np : Nat} {M : Nat → Nat → Int32} {L : Nat → Int64} {n : Int32} (d : Nat) : Rn (d + 1) mX6_isPiece [(.ref 21), (.int n)] (mk np M L) (some (.int (zi (mW n 1 (M 21 3))))) (mk np M L) := by
  unfold Rn
  refine ev_s rfl ?_
  refine ev_ik (v := 1) rfl (by decide) ?_
  refine ev_s rfl ?_
  refine ev_gf (rd np M L (by omega) rfl) rfl rfl rfl ?_
  refine ev_cs (vs := [(.int n), (.int 1), (.int (M 21 3))]) (rest := []) (rv := (some (.int (zi (mW n 1 (M 21 3)))))) rfl rfl rfl rfl rfl (rn_within _) ?_
  show Ev _ _ 9 _ [(.int (zi (mW n 1 (M 21 3))))] _ _
  refine ev_rz rfl rfl (zi_01 _) ?_ ?_
  · rfl
  · rfl
set_option maxHeartbeats 4000000 in
theorem rn_measure0 {np : Nat} {M : Nat → Nat → Int32} {L : Nat → Int64} {k t : Nat} (hk : k < 6) (ht : t < 6) (d : Nat) : Rn d mX6_measure [.ref 21, .int (nI k), .int (nI t), .int 0] (mk np M L) (some (.int (tW (pf M k) t))) (mk np M L) := by
  unfold Rn
  match t, ht with
  | 0, _ =>
    refine ev_s rfl ?_
    refine ev_gf (rd np M L (by omega) rfl) rfl rfl rfl ?_
    refine ev_s rfl ?_
    refine ev_ia (rd np M L (by omega) rfl) rfl (zin_nI (by omega) (by decide)) ?_
    refine ev_s (ls' := [some (.ref 21), some (.int (nI k)), some (.int (nI 0)), some (.int 0), some (.int (M 22 k)), none, none]) rfl ?_
    refine ev_s rfl ?_
    refine ev_gf (rd np M L (by omega) rfl) rfl rfl rfl ?_
    refine ev_s rfl ?_
    refine ev_ia (rd np M L (by omega) rfl) rfl (zin_nI (by omega) (by decide)) ?_
    refine ev_s (ls' := [some (.ref 21), some (.int (nI k)), some (.int (nI 0)), some (.int 0), some (.int (M 22 k)), some (.int (M 23 k)), none]) rfl ?_
    refine ev_s rfl ?_
    refine ev_gf (rd np M L (by omega) rfl) rfl rfl rfl ?_
    refine ev_s rfl ?_
    refine ev_ia (rd np M L (by omega) rfl) rfl (zin_nI (by omega) (by decide)) ?_
    refine ev_s (ls' := [some (.ref 21), some (.int (nI k)), some (.int (nI 0)), some (.int 0), some (.int (M 22 k)), some (.int (M 23 k)), some (.int (M 24 k))]) rfl ?_
    refine ev_s rfl ?_
    refine ev_sw (off := 145) rfl (by decide) rfl ?_
    show Ev _ _ 170 _ _ _ _
    refine ev_s rfl ?_
    refine ev_if rfl rfl ?_
    show Ev _ _ 174 _ _ _ _
    iterate 2 refine ev_s rfl ?_
    refine ev_ri rfl rfl ?_ ?_
    · rfl
    · rfl
  | 1, _ =>
    refine ev_s rfl ?_
    refine ev_gf (rd np M L (by omega) rfl) rfl rfl rfl ?_
    refine ev_s rfl ?_
    refine ev_ia (rd np M L (by omega) rfl) rfl (zin_nI (by omega) (by decide)) ?_
    refine ev_s (ls' := [some (.ref 21), some (.int (nI k)), some (.int (nI 1)), some (.int 0), some (.int (M 22 k)), none, none]) rfl ?_
    refine ev_s rfl ?_
    refine ev_gf (rd np M L (by omega) rfl) rfl rfl rfl ?_
    refine ev_s rfl ?_
    refine ev_ia (rd np M L (by omega) rfl) rfl (zin_nI (by omega) (by decide)) ?_
    refine ev_s (ls' := [some (.ref 21), some (.int (nI k)), some (.int (nI 1)), some (.int 0), some (.int (M 22 k)), some (.int (M 23 k)), none]) rfl ?_
    refine ev_s rfl ?_
    refine ev_gf (rd np M L (by omega) rfl) rfl rfl rfl ?_
    refine ev_s rfl ?_
    refine ev_ia (rd np M L (by omega) rfl) rfl (zin_nI (by omega) (by decide)) ?_
    refine ev_s (ls' := [some (.ref 21), some (.int (nI k)), some (.int (nI 1)), some (.int 0), some (.int (M 22 k)), some (.int (M 23 k)), some (.int (M 24 k))]) rfl ?_
    refine ev_s rfl ?_
    refine ev_sw (off := 35) rfl (by decide) rfl ?_
    show Ev _ _ 60 _ _ _ _
    refine ev_s rfl ?_
    refine ev_if rfl rfl ?_
    show Ev _ _ 64 _ _ _ _
    iterate 2 refine ev_s rfl ?_
    refine ev_ri rfl rfl ?_ ?_
    · rfl
    · rfl
  | 2, _ =>
    refine ev_s rfl ?_
    refine ev_gf (rd np M L (by omega) rfl) rfl rfl rfl ?_
    refine ev_s rfl ?_
    refine ev_ia (rd np M L (by omega) rfl) rfl (zin_nI (by omega) (by decide)) ?_
    refine ev_s (ls' := [some (.ref 21), some (.int (nI k)), some (.int (nI 2)), some (.int 0), some (.int (M 22 k)), none, none]) rfl ?_
    refine ev_s rfl ?_
    refine ev_gf (rd np M L (by omega) rfl) rfl rfl rfl ?_
    refine ev_s rfl ?_
    refine ev_ia (rd np M L (by omega) rfl) rfl (zin_nI (by omega) (by decide)) ?_
    refine ev_s (ls' := [some (.ref 21), some (.int (nI k)), some (.int (nI 2)), some (.int 0), some (.int (M 22 k)), some (.int (M 23 k)), none]) rfl ?_
    refine ev_s rfl ?_
    refine ev_gf (rd np M L (by omega) rfl) rfl rfl rfl ?_
    refine ev_s rfl ?_
    refine ev_ia (rd np M L (by omega) rfl) rfl (zin_nI (by omega) (by decide)) ?_
    refine ev_s (ls' := [some (.ref 21), some (.int (nI k)), some (.int (nI 2)), some (.int 0), some (.int (M 22 k)), some (.int (M 23 k)), some (.int (M 24 k))]) rfl ?_
    refine ev_s rfl ?_
    refine ev_sw (off := 57) rfl (by decide) rfl ?_
    show Ev _ _ 82 _ _ _ _
    refine ev_s rfl ?_
    refine ev_if rfl rfl ?_
    show Ev _ _ 86 _ _ _ _
    iterate 2 refine ev_s rfl ?_
    refine ev_ri rfl rfl ?_ ?_
    · rfl
    · rfl
  | 3, _ =>
    refine ev_s rfl ?_
    refine ev_gf (rd np M L (by omega) rfl) rfl rfl rfl ?_
    refine ev_s rfl ?_
    refine ev_ia (rd np M L (by omega) rfl) rfl (zin_nI (by omega) (by decide)) ?_
    refine ev_s (ls' := [some (.ref 21), some (.int (nI k)), some (.int (nI 3)), some (.int 0), some (.int (M 22 k)), none, none]) rfl ?_
    refine ev_s rfl ?_
    refine ev_gf (rd np M L (by omega) rfl) rfl rfl rfl ?_
    refine ev_s rfl ?_
    refine ev_ia (rd np M L (by omega) rfl) rfl (zin_nI (by omega) (by decide)) ?_
    refine ev_s (ls' := [some (.ref 21), some (.int (nI k)), some (.int (nI 3)), some (.int 0), some (.int (M 22 k)), some (.int (M 23 k)), none]) rfl ?_
    refine ev_s rfl ?_
    refine ev_gf (rd np M L (by omega) rfl) rfl rfl rfl ?_
    refine ev_s rfl ?_
    refine ev_ia (rd np M L (by omega) rfl) rfl (zin_nI (by omega) (by decide)) ?_
    refine ev_s (ls' := [some (.ref 21), some (.int (nI k)), some (.int (nI 3)), some (.int 0), some (.int (M 22 k)), some (.int (M 23 k)), some (.int (M 24 k))]) rfl ?_
    refine ev_s rfl ?_
    refine ev_sw (off := 79) rfl (by decide) rfl ?_
    show Ev _ _ 104 _ _ _ _
    refine ev_s rfl ?_
    refine ev_if rfl rfl ?_
    show Ev _ _ 108 _ _ _ _
    iterate 2 refine ev_s rfl ?_
    refine ev_ri rfl rfl ?_ ?_
    · rfl
    · rfl
  | 4, _ =>
    refine ev_s rfl ?_
    refine ev_gf (rd np M L (by omega) rfl) rfl rfl rfl ?_
    refine ev_s rfl ?_
    refine ev_ia (rd np M L (by omega) rfl) rfl (zin_nI (by omega) (by decide)) ?_
    refine ev_s (ls' := [some (.ref 21), some (.int (nI k)), some (.int (nI 4)), some (.int 0), some (.int (M 22 k)), none, none]) rfl ?_
    refine ev_s rfl ?_
    refine ev_gf (rd np M L (by omega) rfl) rfl rfl rfl ?_
    refine ev_s rfl ?_
    refine ev_ia (rd np M L (by omega) rfl) rfl (zin_nI (by omega) (by decide)) ?_
    refine ev_s (ls' := [some (.ref 21), some (.int (nI k)), some (.int (nI 4)), some (.int 0), some (.int (M 22 k)), some (.int (M 23 k)), none]) rfl ?_
    refine ev_s rfl ?_
    refine ev_gf (rd np M L (by omega) rfl) rfl rfl rfl ?_
    refine ev_s rfl ?_
    refine ev_ia (rd np M L (by omega) rfl) rfl (zin_nI (by omega) (by decide)) ?_
    refine ev_s (ls' := [some (.ref 21), some (.int (nI k)), some (.int (nI 4)), some (.int 0), some (.int (M 22 k)), some (.int (M 23 k)), some (.int (M 24 k))]) rfl ?_
    refine ev_s rfl ?_
    refine ev_sw (off := 101) rfl (by decide) rfl ?_
    show Ev _ _ 126 _ _ _ _
    refine ev_s rfl ?_
    refine ev_if rfl rfl ?_
    show Ev _ _ 130 _ _ _ _
    iterate 2 refine ev_s rfl ?_
    refine ev_ri rfl rfl ?_ ?_
    · rfl
    · rfl
  | 5, _ =>
    refine ev_s rfl ?_
    refine ev_gf (rd np M L (by omega) rfl) rfl rfl rfl ?_
    refine ev_s rfl ?_
    refine ev_ia (rd np M L (by omega) rfl) rfl (zin_nI (by omega) (by decide)) ?_
    refine ev_s (ls' := [some (.ref 21), some (.int (nI k)), some (.int (nI 5)), some (.int 0), some (.int (M 22 k)), none, none]) rfl ?_
    refine ev_s rfl ?_
    refine ev_gf (rd np M L (by omega) rfl) rfl rfl rfl ?_
    refine ev_s rfl ?_
    refine ev_ia (rd np M L (by omega) rfl) rfl (zin_nI (by omega) (by decide)) ?_
    refine ev_s (ls' := [some (.ref 21), some (.int (nI k)), some (.int (nI 5)), some (.int 0), some (.int (M 22 k)), some (.int (M 23 k)), none]) rfl ?_
    refine ev_s rfl ?_
    refine ev_gf (rd np M L (by omega) rfl) rfl rfl rfl ?_
    refine ev_s rfl ?_
    refine ev_ia (rd np M L (by omega) rfl) rfl (zin_nI (by omega) (by decide)) ?_
    refine ev_s (ls' := [some (.ref 21), some (.int (nI k)), some (.int (nI 5)), some (.int 0), some (.int (M 22 k)), some (.int (M 23 k)), some (.int (M 24 k))]) rfl ?_
    refine ev_s rfl ?_
    refine ev_sw (off := 123) rfl (by decide) rfl ?_
    show Ev _ _ 148 _ _ _ _
    refine ev_s rfl ?_
    refine ev_if rfl rfl ?_
    show Ev _ _ 152 _ _ _ _
    iterate 2 refine ev_s rfl ?_
    refine ev_ri rfl rfl ?_ ?_
    · rfl
    · rfl
  | t + 6, h => exact absurd h (by omega)
set_option maxHeartbeats 4000000 in
theorem rn_measure1 {np : Nat} {M : Nat → Nat → Int32} {L : Nat → Int64} {k t : Nat} (hk : k < 6) (ht : t < 6) (d : Nat) : Rn d mX6_measure [.ref 21, .int (nI k), .int (nI t), .int 1] (mk np M L) (some (.int (tH (pf M k) t))) (mk np M L) := by
  unfold Rn
  match t, ht with
  | 0, _ =>
    refine ev_s rfl ?_
    refine ev_gf (rd np M L (by omega) rfl) rfl rfl rfl ?_
    refine ev_s rfl ?_
    refine ev_ia (rd np M L (by omega) rfl) rfl (zin_nI (by omega) (by decide)) ?_
    refine ev_s (ls' := [some (.ref 21), some (.int (nI k)), some (.int (nI 0)), some (.int 1), some (.int (M 22 k)), none, none]) rfl ?_
    refine ev_s rfl ?_
    refine ev_gf (rd np M L (by omega) rfl) rfl rfl rfl ?_
    refine ev_s rfl ?_
    refine ev_ia (rd np M L (by omega) rfl) rfl (zin_nI (by omega) (by decide)) ?_
    refine ev_s (ls' := [some (.ref 21), some (.int (nI k)), some (.int (nI 0)), some (.int 1), some (.int (M 22 k)), some (.int (M 23 k)), none]) rfl ?_
    refine ev_s rfl ?_
    refine ev_gf (rd np M L (by omega) rfl) rfl rfl rfl ?_
    refine ev_s rfl ?_
    refine ev_ia (rd np M L (by omega) rfl) rfl (zin_nI (by omega) (by decide)) ?_
    refine ev_s (ls' := [some (.ref 21), some (.int (nI k)), some (.int (nI 0)), some (.int 1), some (.int (M 22 k)), some (.int (M 23 k)), some (.int (M 24 k))]) rfl ?_
    refine ev_s rfl ?_
    refine ev_sw (off := 145) rfl (by decide) rfl ?_
    show Ev _ _ 170 _ _ _ _
    refine ev_s rfl ?_
    refine ev_if rfl rfl ?_
    show Ev _ _ 179 _ _ _ _
    refine ev_s rfl ?_
    refine ev_ik (v := 1) rfl (by decide) ?_
    refine ev_ic rfl rfl ?_
    show Ev _ _ 184 _ _ _ _
    iterate 2 refine ev_s rfl ?_
    refine ev_ri rfl rfl ?_ ?_
    · rfl
    · rfl
  | 1, _ =>
    refine ev_s rfl ?_
    refine ev_gf (rd np M L (by omega) rfl) rfl rfl rfl ?_
    refine ev_s rfl ?_
    refine ev_ia (rd np M L (by omega) rfl) rfl (zin_nI (by omega) (by decide)) ?_
    refine ev_s (ls' := [some (.ref 21), some (.int (nI k)), some (.int (nI 1)), some (.int 1), some (.int (M 22 k)), none, none]) rfl ?_
    refine ev_s rfl ?_
    refine ev_gf (rd np M L (by omega) rfl) rfl rfl rfl ?_
    refine ev_s rfl ?_
    refine ev_ia (rd np M L (by omega) rfl) rfl (zin_nI (by omega) (by decide)) ?_
    refine ev_s (ls' := [some (.ref 21), some (.int (nI k)), some (.int (nI 1)), some (.int 1), some (.int (M 22 k)), some (.int (M 23 k)), none]) rfl ?_
    refine ev_s rfl ?_
    refine ev_gf (rd np M L (by omega) rfl) rfl rfl rfl ?_
    refine ev_s rfl ?_
    refine ev_ia (rd np M L (by omega) rfl) rfl (zin_nI (by omega) (by decide)) ?_
    refine ev_s (ls' := [some (.ref 21), some (.int (nI k)), some (.int (nI 1)), some (.int 1), some (.int (M 22 k)), some (.int (M 23 k)), some (.int (M 24 k))]) rfl ?_
    refine ev_s rfl ?_
    refine ev_sw (off := 35) rfl (by decide) rfl ?_
    show Ev _ _ 60 _ _ _ _
    refine ev_s rfl ?_
    refine ev_if rfl rfl ?_
    show Ev _ _ 69 _ _ _ _
    refine ev_s rfl ?_
    refine ev_ik (v := 1) rfl (by decide) ?_
    refine ev_ic rfl rfl ?_
    show Ev _ _ 74 _ _ _ _
    iterate 2 refine ev_s rfl ?_
    refine ev_ri rfl rfl ?_ ?_
    · rfl
    · rfl
  | 2, _ =>
    refine ev_s rfl ?_
    refine ev_gf (rd np M L (by omega) rfl) rfl rfl rfl ?_
    refine ev_s rfl ?_
    refine ev_ia (rd np M L (by omega) rfl) rfl (zin_nI (by omega) (by decide)) ?_
    refine ev_s (ls' := [some (.ref 21), some (.int (nI k)), some (.int (nI 2)), some (.int 1), some (.int (M 22 k)), none, none]) rfl ?_
    refine ev_s rfl ?_
    refine ev_gf (rd np M L (by omega) rfl) rfl rfl rfl ?_
    refine ev_s rfl ?_
    refine ev_ia (rd np M L (by omega) rfl) rfl (zin_nI (by omega) (by decide)) ?_
    refine ev_s (ls' := [some (.ref 21), some (.int (nI k)), some (.int (nI 2)), some (.int 1), some (.int (M 22 k)), some (.int (M 23 k)), none]) rfl ?_
    refine ev_s rfl ?_
    refine ev_gf (rd np M L (by omega) rfl) rfl rfl rfl ?_
    refine ev_s rfl ?_
    refine ev_ia (rd np M L (by omega) rfl) rfl (zin_nI (by omega) (by decide)) ?_
    refine ev_s (ls' := [some (.ref 21), some (.int (nI k)), some (.int (nI 2)), some (.int 1), some (.int (M 22 k)), some (.int (M 23 k)), some (.int (M 24 k))]) rfl ?_
    refine ev_s rfl ?_
    refine ev_sw (off := 57) rfl (by decide) rfl ?_
    show Ev _ _ 82 _ _ _ _
    refine ev_s rfl ?_
    refine ev_if rfl rfl ?_
    show Ev _ _ 91 _ _ _ _
    refine ev_s rfl ?_
    refine ev_ik (v := 1) rfl (by decide) ?_
    refine ev_ic rfl rfl ?_
    show Ev _ _ 96 _ _ _ _
    iterate 2 refine ev_s rfl ?_
    refine ev_ri rfl rfl ?_ ?_
    · rfl
    · rfl
  | 3, _ =>
    refine ev_s rfl ?_
    refine ev_gf (rd np M L (by omega) rfl) rfl rfl rfl ?_
    refine ev_s rfl ?_
    refine ev_ia (rd np M L (by omega) rfl) rfl (zin_nI (by omega) (by decide)) ?_
    refine ev_s (ls' := [some (.ref 21), some (.int (nI k)), some (.int (nI 3)), some (.int 1), some (.int (M 22 k)), none, none]) rfl ?_
    refine ev_s rfl ?_
    refine ev_gf (rd np M L (by omega) rfl) rfl rfl rfl ?_
    refine ev_s rfl ?_
    refine ev_ia (rd np M L (by omega) rfl) rfl (zin_nI (by omega) (by decide)) ?_
    refine ev_s (ls' := [some (.ref 21), some (.int (nI k)), some (.int (nI 3)), some (.int 1), some (.int (M 22 k)), some (.int (M 23 k)), none]) rfl ?_
    refine ev_s rfl ?_
    refine ev_gf (rd np M L (by omega) rfl) rfl rfl rfl ?_
    refine ev_s rfl ?_
    refine ev_ia (rd np M L (by omega) rfl) rfl (zin_nI (by omega) (by decide)) ?_
    refine ev_s (ls' := [some (.ref 21), some (.int (nI k)), some (.int (nI 3)), some (.int 1), some (.int (M 22 k)), some (.int (M 23 k)), some (.int (M 24 k))]) rfl ?_
    refine ev_s rfl ?_
    refine ev_sw (off := 79) rfl (by decide) rfl ?_
    show Ev _ _ 104 _ _ _ _
    refine ev_s rfl ?_
    refine ev_if rfl rfl ?_
    show Ev _ _ 113 _ _ _ _
    refine ev_s rfl ?_
    refine ev_ik (v := 1) rfl (by decide) ?_
    refine ev_ic rfl rfl ?_
    show Ev _ _ 118 _ _ _ _
    iterate 2 refine ev_s rfl ?_
    refine ev_ri rfl rfl ?_ ?_
    · rfl
    · rfl
  | 4, _ =>
    refine ev_s rfl ?_
    refine ev_gf (rd np M L (by omega) rfl) rfl rfl rfl ?_
    refine ev_s rfl ?_
    refine ev_ia (rd np M L (by omega) rfl) rfl (zin_nI (by omega) (by decide)) ?_
    refine ev_s (ls' := [some (.ref 21), some (.int (nI k)), some (.int (nI 4)), some (.int 1), some (.int (M 22 k)), none, none]) rfl ?_
    refine ev_s rfl ?_
    refine ev_gf (rd np M L (by omega) rfl) rfl rfl rfl ?_
    refine ev_s rfl ?_
    refine ev_ia (rd np M L (by omega) rfl) rfl (zin_nI (by omega) (by decide)) ?_
    refine ev_s (ls' := [some (.ref 21), some (.int (nI k)), some (.int (nI 4)), some (.int 1), some (.int (M 22 k)), some (.int (M 23 k)), none]) rfl ?_
    refine ev_s rfl ?_
    refine ev_gf (rd np M L (by omega) rfl) rfl rfl rfl ?_
    refine ev_s rfl ?_
    refine ev_ia (rd np M L (by omega) rfl) rfl (zin_nI (by omega) (by decide)) ?_
    refine ev_s (ls' := [some (.ref 21), some (.int (nI k)), some (.int (nI 4)), some (.int 1), some (.int (M 22 k)), some (.int (M 23 k)), some (.int (M 24 k))]) rfl ?_
    refine ev_s rfl ?_
    refine ev_sw (off := 101) rfl (by decide) rfl ?_
    show Ev _ _ 126 _ _ _ _
    refine ev_s rfl ?_
    refine ev_if rfl rfl ?_
    show Ev _ _ 135 _ _ _ _
    refine ev_s rfl ?_
    refine ev_ik (v := 1) rfl (by decide) ?_
    refine ev_ic rfl rfl ?_
    show Ev _ _ 140 _ _ _ _
    iterate 2 refine ev_s rfl ?_
    refine ev_ri rfl rfl ?_ ?_
    · rfl
    · rfl
  | 5, _ =>
    refine ev_s rfl ?_
    refine ev_gf (rd np M L (by omega) rfl) rfl rfl rfl ?_
    refine ev_s rfl ?_
    refine ev_ia (rd np M L (by omega) rfl) rfl (zin_nI (by omega) (by decide)) ?_
    refine ev_s (ls' := [some (.ref 21), some (.int (nI k)), some (.int (nI 5)), some (.int 1), some (.int (M 22 k)), none, none]) rfl ?_
    refine ev_s rfl ?_
    refine ev_gf (rd np M L (by omega) rfl) rfl rfl rfl ?_
    refine ev_s rfl ?_
    refine ev_ia (rd np M L (by omega) rfl) rfl (zin_nI (by omega) (by decide)) ?_
    refine ev_s (ls' := [some (.ref 21), some (.int (nI k)), some (.int (nI 5)), some (.int 1), some (.int (M 22 k)), some (.int (M 23 k)), none]) rfl ?_
    refine ev_s rfl ?_
    refine ev_gf (rd np M L (by omega) rfl) rfl rfl rfl ?_
    refine ev_s rfl ?_
    refine ev_ia (rd np M L (by omega) rfl) rfl (zin_nI (by omega) (by decide)) ?_
    refine ev_s (ls' := [some (.ref 21), some (.int (nI k)), some (.int (nI 5)), some (.int 1), some (.int (M 22 k)), some (.int (M 23 k)), some (.int (M 24 k))]) rfl ?_
    refine ev_s rfl ?_
    refine ev_sw (off := 123) rfl (by decide) rfl ?_
    show Ev _ _ 148 _ _ _ _
    refine ev_s rfl ?_
    refine ev_if rfl rfl ?_
    show Ev _ _ 157 _ _ _ _
    refine ev_s rfl ?_
    refine ev_ik (v := 1) rfl (by decide) ?_
    refine ev_ic rfl rfl ?_
    show Ev _ _ 162 _ _ _ _
    iterate 2 refine ev_s rfl ?_
    refine ev_ri rfl rfl ?_ ?_
    · rfl
    · rfl
  | t + 6, h => exact absurd h (by omega)
set_option maxHeartbeats 4000000 in
theorem rn_measure2 {np : Nat} {M : Nat → Nat → Int32} {L : Nat → Int64} {k t : Nat} (hk : k < 6) (ht : t < 6) (d : Nat) : Rn d mX6_measure [.ref 21, .int (nI k), .int (nI t), .int 2] (mk np M L) (some (.int (tD (pf M k) t))) (mk np M L) := by
  unfold Rn
  match t, ht with
  | 0, _ =>
    refine ev_s rfl ?_
    refine ev_gf (rd np M L (by omega) rfl) rfl rfl rfl ?_
    refine ev_s rfl ?_
    refine ev_ia (rd np M L (by omega) rfl) rfl (zin_nI (by omega) (by decide)) ?_
    refine ev_s (ls' := [some (.ref 21), some (.int (nI k)), some (.int (nI 0)), some (.int 2), some (.int (M 22 k)), none, none]) rfl ?_
    refine ev_s rfl ?_
    refine ev_gf (rd np M L (by omega) rfl) rfl rfl rfl ?_
    refine ev_s rfl ?_
    refine ev_ia (rd np M L (by omega) rfl) rfl (zin_nI (by omega) (by decide)) ?_
    refine ev_s (ls' := [some (.ref 21), some (.int (nI k)), some (.int (nI 0)), some (.int 2), some (.int (M 22 k)), some (.int (M 23 k)), none]) rfl ?_
    refine ev_s rfl ?_
    refine ev_gf (rd np M L (by omega) rfl) rfl rfl rfl ?_
    refine ev_s rfl ?_
    refine ev_ia (rd np M L (by omega) rfl) rfl (zin_nI (by omega) (by decide)) ?_
    refine ev_s (ls' := [some (.ref 21), some (.int (nI k)), some (.int (nI 0)), some (.int 2), some (.int (M 22 k)), some (.int (M 23 k)), some (.int (M 24 k))]) rfl ?_
    refine ev_s rfl ?_
    refine ev_sw (off := 145) rfl (by decide) rfl ?_
    show Ev _ _ 170 _ _ _ _
    refine ev_s rfl ?_
    refine ev_if rfl rfl ?_
    show Ev _ _ 179 _ _ _ _
    refine ev_s rfl ?_
    refine ev_ik (v := 1) rfl (by decide) ?_
    refine ev_ic rfl rfl ?_
    show Ev _ _ 189 _ _ _ _
    refine ev_s rfl ?_
    refine ev_ri rfl rfl ?_ ?_
    · rfl
    · rfl
  | 1, _ =>
    refine ev_s rfl ?_
    refine ev_gf (rd np M L (by omega) rfl) rfl rfl rfl ?_
    refine ev_s rfl ?_
    refine ev_ia (rd np M L (by omega) rfl) rfl (zin_nI (by omega) (by decide)) ?_
    refine ev_s (ls' := [some (.ref 21), some (.int (nI k)), some (.int (nI 1)), some (.int 2), some (.int (M 22 k)), none, none]) rfl ?_
    refine ev_s rfl ?_
    refine ev_gf (rd np M L (by omega) rfl) rfl rfl rfl ?_
    refine ev_s rfl ?_
    refine ev_ia (rd np M L (by omega) rfl) rfl (zin_nI (by omega) (by decide)) ?_
    refine ev_s (ls' := [some (.ref 21), some (.int (nI k)), some (.int (nI 1)), some (.int 2), some (.int (M 22 k)), some (.int (M 23 k)), none]) rfl ?_
    refine ev_s rfl ?_
    refine ev_gf (rd np M L (by omega) rfl) rfl rfl rfl ?_
    refine ev_s rfl ?_
    refine ev_ia (rd np M L (by omega) rfl) rfl (zin_nI (by omega) (by decide)) ?_
    refine ev_s (ls' := [some (.ref 21), some (.int (nI k)), some (.int (nI 1)), some (.int 2), some (.int (M 22 k)), some (.int (M 23 k)), some (.int (M 24 k))]) rfl ?_
    refine ev_s rfl ?_
    refine ev_sw (off := 35) rfl (by decide) rfl ?_
    show Ev _ _ 60 _ _ _ _
    refine ev_s rfl ?_
    refine ev_if rfl rfl ?_
    show Ev _ _ 69 _ _ _ _
    refine ev_s rfl ?_
    refine ev_ik (v := 1) rfl (by decide) ?_
    refine ev_ic rfl rfl ?_
    show Ev _ _ 79 _ _ _ _
    refine ev_s rfl ?_
    refine ev_ri rfl rfl ?_ ?_
    · rfl
    · rfl
  | 2, _ =>
    refine ev_s rfl ?_
    refine ev_gf (rd np M L (by omega) rfl) rfl rfl rfl ?_
    refine ev_s rfl ?_
    refine ev_ia (rd np M L (by omega) rfl) rfl (zin_nI (by omega) (by decide)) ?_
    refine ev_s (ls' := [some (.ref 21), some (.int (nI k)), some (.int (nI 2)), some (.int 2), some (.int (M 22 k)), none, none]) rfl ?_
    refine ev_s rfl ?_
    refine ev_gf (rd np M L (by omega) rfl) rfl rfl rfl ?_
    refine ev_s rfl ?_
    refine ev_ia (rd np M L (by omega) rfl) rfl (zin_nI (by omega) (by decide)) ?_
    refine ev_s (ls' := [some (.ref 21), some (.int (nI k)), some (.int (nI 2)), some (.int 2), some (.int (M 22 k)), some (.int (M 23 k)), none]) rfl ?_
    refine ev_s rfl ?_
    refine ev_gf (rd np M L (by omega) rfl) rfl rfl rfl ?_
    refine ev_s rfl ?_
    refine ev_ia (rd np M L (by omega) rfl) rfl (zin_nI (by omega) (by decide)) ?_
    refine ev_s (ls' := [some (.ref 21), some (.int (nI k)), some (.int (nI 2)), some (.int 2), some (.int (M 22 k)), some (.int (M 23 k)), some (.int (M 24 k))]) rfl ?_
    refine ev_s rfl ?_
    refine ev_sw (off := 57) rfl (by decide) rfl ?_
    show Ev _ _ 82 _ _ _ _
    refine ev_s rfl ?_
    refine ev_if rfl rfl ?_
    show Ev _ _ 91 _ _ _ _
    refine ev_s rfl ?_
    refine ev_ik (v := 1) rfl (by decide) ?_
    refine ev_ic rfl rfl ?_
    show Ev _ _ 101 _ _ _ _
    refine ev_s rfl ?_
    refine ev_ri rfl rfl ?_ ?_
    · rfl
    · rfl
  | 3, _ =>
    refine ev_s rfl ?_
    refine ev_gf (rd np M L (by omega) rfl) rfl rfl rfl ?_
    refine ev_s rfl ?_
    refine ev_ia (rd np M L (by omega) rfl) rfl (zin_nI (by omega) (by decide)) ?_
    refine ev_s (ls' := [some (.ref 21), some (.int (nI k)), some (.int (nI 3)), some (.int 2), some (.int (M 22 k)), none, none]) rfl ?_
    refine ev_s rfl ?_
    refine ev_gf (rd np M L (by omega) rfl) rfl rfl rfl ?_
    refine ev_s rfl ?_
    refine ev_ia (rd np M L (by omega) rfl) rfl (zin_nI (by omega) (by decide)) ?_
    refine ev_s (ls' := [some (.ref 21), some (.int (nI k)), some (.int (nI 3)), some (.int 2), some (.int (M 22 k)), some (.int (M 23 k)), none]) rfl ?_
    refine ev_s rfl ?_
    refine ev_gf (rd np M L (by omega) rfl) rfl rfl rfl ?_
    refine ev_s rfl ?_
    refine ev_ia (rd np M L (by omega) rfl) rfl (zin_nI (by omega) (by decide)) ?_
    refine ev_s (ls' := [some (.ref 21), some (.int (nI k)), some (.int (nI 3)), some (.int 2), some (.int (M 22 k)), some (.int (M 23 k)), some (.int (M 24 k))]) rfl ?_
    refine ev_s rfl ?_
    refine ev_sw (off := 79) rfl (by decide) rfl ?_
    show Ev _ _ 104 _ _ _ _
    refine ev_s rfl ?_
    refine ev_if rfl rfl ?_
    show Ev _ _ 113 _ _ _ _
    refine ev_s rfl ?_
    refine ev_ik (v := 1) rfl (by decide) ?_
    refine ev_ic rfl rfl ?_
    show Ev _ _ 123 _ _ _ _
    refine ev_s rfl ?_
    refine ev_ri rfl rfl ?_ ?_
    · rfl
    · rfl
  | 4, _ =>
    refine ev_s rfl ?_
    refine ev_gf (rd np M L (by omega) rfl) rfl rfl rfl ?_
    refine ev_s rfl ?_
    refine ev_ia (rd np M L (by omega) rfl) rfl (zin_nI (by omega) (by decide)) ?_
    refine ev_s (ls' := [some (.ref 21), some (.int (nI k)), some (.int (nI 4)), some (.int 2), some (.int (M 22 k)), none, none]) rfl ?_
    refine ev_s rfl ?_
    refine ev_gf (rd np M L (by omega) rfl) rfl rfl rfl ?_
    refine ev_s rfl ?_
    refine ev_ia (rd np M L (by omega) rfl) rfl (zin_nI (by omega) (by decide)) ?_
    refine ev_s (ls' := [some (.ref 21), some (.int (nI k)), some (.int (nI 4)), some (.int 2), some (.int (M 22 k)), some (.int (M 23 k)), none]) rfl ?_
    refine ev_s rfl ?_
    refine ev_gf (rd np M L (by omega) rfl) rfl rfl rfl ?_
    refine ev_s rfl ?_
    refine ev_ia (rd np M L (by omega) rfl) rfl (zin_nI (by omega) (by decide)) ?_
    refine ev_s (ls' := [some (.ref 21), some (.int (nI k)), some (.int (nI 4)), some (.int 2), some (.int (M 22 k)), some (.int (M 23 k)), some (.int (M 24 k))]) rfl ?_
    refine ev_s rfl ?_
    refine ev_sw (off := 101) rfl (by decide) rfl ?_
    show Ev _ _ 126 _ _ _ _
    refine ev_s rfl ?_
    refine ev_if rfl rfl ?_
    show Ev _ _ 135 _ _ _ _
    refine ev_s rfl ?_
    refine ev_ik (v := 1) rfl (by decide) ?_
    refine ev_ic rfl rfl ?_
    show Ev _ _ 145 _ _ _ _
    refine ev_s rfl ?_
    refine ev_ri rfl rfl ?_ ?_
    · rfl
    · rfl
  | 5, _ =>
    refine ev_s rfl ?_
    refine ev_gf (rd np M L (by omega) rfl) rfl rfl rfl ?_
    refine ev_s rfl ?_
    refine ev_ia (rd np M L (by omega) rfl) rfl (zin_nI (by omega) (by decide)) ?_
    refine ev_s (ls' := [some (.ref 21), some (.int (nI k)), some (.int (nI 5)), some (.int 2), some (.int (M 22 k)), none, none]) rfl ?_
    refine ev_s rfl ?_
    refine ev_gf (rd np M L (by omega) rfl) rfl rfl rfl ?_
    refine ev_s rfl ?_
    refine ev_ia (rd np M L (by omega) rfl) rfl (zin_nI (by omega) (by decide)) ?_
    refine ev_s (ls' := [some (.ref 21), some (.int (nI k)), some (.int (nI 5)), some (.int 2), some (.int (M 22 k)), some (.int (M 23 k)), none]) rfl ?_
    refine ev_s rfl ?_
    refine ev_gf (rd np M L (by omega) rfl) rfl rfl rfl ?_
    refine ev_s rfl ?_
    refine ev_ia (rd np M L (by omega) rfl) rfl (zin_nI (by omega) (by decide)) ?_
    refine ev_s (ls' := [some (.ref 21), some (.int (nI k)), some (.int (nI 5)), some (.int 2), some (.int (M 22 k)), some (.int (M 23 k)), some (.int (M 24 k))]) rfl ?_
    refine ev_s rfl ?_
    refine ev_sw (off := 123) rfl (by decide) rfl ?_
    show Ev _ _ 148 _ _ _ _
    refine ev_s rfl ?_
    refine ev_if rfl rfl ?_
    show Ev _ _ 157 _ _ _ _
    refine ev_s rfl ?_
    refine ev_ik (v := 1) rfl (by decide) ?_
    refine ev_ic rfl rfl ?_
    show Ev _ _ 167 _ _ _ _
    refine ev_s rfl ?_
    refine ev_ri rfl rfl ?_ ?_
    · rfl
    · rfl
  | t + 6, h => exact absurd h (by omega)
def mAb (M : Nat → Nat → Int32) (a b : Nat) : Prop := ¬ (cmn (M 30 a) (M 33 a) (M 30 b) (M 33 b)) ≤ 0 ∧ ¬ (cmn (M 32 a) (M 35 a) (M 32 b) (M 35 b)) ≤ 0 ∧ ¬ (M 31 a) < ((M 31 b) + (M 34 b))
set_option maxHeartbeats 4000000 in
theorem rn_isAbove {np : Nat} {M : Nat → Nat → Int32} {L : Nat → Int64} {a b : Nat} (ha : a < 6) (hb : b < 6) (d : Nat) : Rn (d + 1) mX6_isAbove [(.ref 21), (.int (nI a)), (.int (nI b))] (mk np M L) (some (.int (zi (mAb M a b)))) (mk np M L) := by
  unfold Rn
  refine ev_s rfl ?_
  refine ev_gf (rd np M L (by omega) rfl) rfl rfl rfl ?_
  refine ev_s rfl ?_
  refine ev_ia (rd np M L (by omega) rfl) rfl (zin_nI (by omega) (by decide)) ?_
  refine ev_s rfl ?_
  refine ev_gf (rd np M L (by omega) rfl) rfl rfl rfl ?_
  refine ev_s rfl ?_
  refine ev_ia (rd np M L (by omega) rfl) rfl (zin_nI (by omega) (by decide)) ?_
  refine ev_s rfl ?_
  refine ev_gf (rd np M L (by omega) rfl) rfl rfl rfl ?_
  refine ev_s rfl ?_
  refine ev_ia (rd np M L (by omega) rfl) rfl (zin_nI (by omega) (by decide)) ?_
  refine ev_s rfl ?_
  refine ev_gf (rd np M L (by omega) rfl) rfl rfl rfl ?_
  refine ev_s rfl ?_
  refine ev_ia (rd np M L (by omega) rfl) rfl (zin_nI (by omega) (by decide)) ?_
  refine ev_cs (vs := [(.int (M 30 a)), (.int (M 33 a)), (.int (M 30 b)), (.int (M 33 b))]) (rest := []) (rv := (some (.int (cmn (M 30 a) (M 33 a) (M 30 b) (M 33 b))))) rfl rfl rfl rfl rfl (rn_common _) ?_
  show Ev _ _ 27 _ [(.int (cmn (M 30 a) (M 33 a) (M 30 b) (M 33 b)))] _ _
  refine ev_if rfl rfl (ev_br (zb_le _ _ _ _) (fun c1 => ?_) (fun c1 => ?_))
  · show Ev _ _ 86 _ _ _ _
    refine ev_ik (v := 0) rfl (by decide) ?_
    refine ev_rz rfl rfl (by decide) ?_ ?_
    · exact some_i (zi_f (fun h => h.1 c1)).symm
    · rfl
  · show Ev _ _ 30 _ _ _ _
    refine ev_s rfl ?_
    refine ev_gf (rd np M L (by omega) rfl) rfl rfl rfl ?_
    refine ev_s rfl ?_
    refine ev_ia (rd np M L (by omega) rfl) rfl (zin_nI (by omega) (by decide)) ?_
    refine ev_s rfl ?_
    refine ev_gf (rd np M L (by omega) rfl) rfl rfl rfl ?_
    refine ev_s rfl ?_
    refine ev_ia (rd np M L (by omega) rfl) rfl (zin_nI (by omega) (by decide)) ?_
    refine ev_s rfl ?_
    refine ev_gf (rd np M L (by omega) rfl) rfl rfl rfl ?_
    refine ev_s rfl ?_
    refine ev_ia (rd np M L (by omega) rfl) rfl (zin_nI (by omega) (by decide)) ?_
    refine ev_s rfl ?_
    refine ev_gf (rd np M L (by omega) rfl) rfl rfl rfl ?_
    refine ev_s rfl ?_
    refine ev_ia (rd np M L (by omega) rfl) rfl (zin_nI (by omega) (by decide)) ?_
    refine ev_cs (vs := [(.int (M 32 a)), (.int (M 35 a)), (.int (M 32 b)), (.int (M 35 b))]) (rest := []) (rv := (some (.int (cmn (M 32 a) (M 35 a) (M 32 b) (M 35 b))))) rfl rfl rfl rfl rfl (rn_common _) ?_
    show Ev _ _ 57 _ [(.int (cmn (M 32 a) (M 35 a) (M 32 b) (M 35 b)))] _ _
    refine ev_if rfl rfl (ev_br (zb_le _ _ _ _) (fun c2 => ?_) (fun c2 => ?_))
    · show Ev _ _ 86 _ _ _ _
      refine ev_ik (v := 0) rfl (by decide) ?_
      refine ev_rz rfl rfl (by decide) ?_ ?_
      · exact some_i (zi_f (fun h => h.2.1 c2)).symm
      · rfl
    · show Ev _ _ 60 _ _ _ _
      refine ev_s rfl ?_
      refine ev_gf (rd np M L (by omega) rfl) rfl rfl rfl ?_
      refine ev_s rfl ?_
      refine ev_ia (rd np M L (by omega) rfl) rfl (zin_nI (by omega) (by decide)) ?_
      refine ev_s rfl ?_
      refine ev_gf (rd np M L (by omega) rfl) rfl rfl rfl ?_
      refine ev_s rfl ?_
      refine ev_ia (rd np M L (by omega) rfl) rfl (zin_nI (by omega) (by decide)) ?_
      refine ev_s rfl ?_
      refine ev_gf (rd np M L (by omega) rfl) rfl rfl rfl ?_
      refine ev_s rfl ?_
      refine ev_ia (rd np M L (by omega) rfl) rfl (zin_nI (by omega) (by decide)) ?_
      refine ev_s rfl ?_
      refine ev_ic rfl rfl (ev_br (zb_lt _ _ _ _) (fun c3 => ?_) (fun c3 => ?_))
      · show Ev _ _ 86 _ _ _ _
        refine ev_ik (v := 0) rfl (by decide) ?_
        refine ev_rz rfl rfl (by decide) ?_ ?_
        · exact some_i (zi_f (fun h => h.2.2 c3)).symm
        · rfl
      · show Ev _ _ 82 _ _ _ _
        refine ev_ik (v := 1) rfl (by decide) ?_
        refine ev_s rfl ?_
        refine ev_rz rfl rfl (by decide) ?_ ?_
        · exact some_i (zi_t ⟨c1, c2, c3⟩).symm
        · rfl
def mBf (M : Nat → Nat → Int32) (a b : Nat) : Prop := ¬ (cmn (M 30 a) (M 33 a) (M 30 b) (M 33 b)) ≤ 0 ∧ ¬ (cmn (M 31 a) (M 34 a) (M 31 b) (M 34 b)) ≤ 0 ∧ ¬ (M 32 a) < ((M 32 b) + (M 35 b))
set_option maxHeartbeats 4000000 in
theorem rn_isBefore {np : Nat} {M : Nat → Nat → Int32} {L : Nat → Int64} {a b : Nat} (ha : a < 6) (hb : b < 6) (d : Nat) : Rn (d + 1) mX6_isBefore [(.ref 21), (.int (nI a)), (.int (nI b))] (mk np M L) (some (.int (zi (mBf M a b)))) (mk np M L) := by
  unfold Rn
  refine ev_s rfl ?_
  refine ev_gf (rd np M L (by omega) rfl) rfl rfl rfl ?_
  refine ev_s rfl ?_
  refine ev_ia (rd np M L (by omega) rfl) rfl (zin_nI (by omega) (by decide)) ?_
  refine ev_s rfl ?_
  refine ev_gf (rd np M L (by omega) rfl) rfl rfl rfl ?_
  refine ev_s rfl ?_
  refine ev_ia (rd np M L (by omega) rfl) rfl (zin_nI (by omega) (by decide)) ?_
  refine ev_s rfl ?_
  refine ev_gf (rd np M L (by omega) rfl) rfl rfl rfl ?_
  refine ev_s rfl ?_
  refine ev_ia (rd np M L (by omega) rfl) rfl (zin_nI (by omega) (by decide)) ?_
  refine ev_s rfl ?_
  refine ev_gf (rd np M L (by omega) rfl) rfl rfl rfl ?_
  refine ev_s rfl ?_
  refine ev_ia (rd np M L (by omega) rfl) rfl (zin_nI (by omega) (by decide)) ?_
  refine ev_cs (vs := [(.int (M 30 a)), (.int (M 33 a)), (.int (M 30 b)), (.int (M 33 b))]) (rest := []) (rv := (some (.int (cmn (M 30 a) (M 33 a) (M 30 b) (M 33 b))))) rfl rfl rfl rfl rfl (rn_common _) ?_
  show Ev _ _ 27 _ [(.int (cmn (M 30 a) (M 33 a) (M 30 b) (M 33 b)))] _ _
  refine ev_if rfl rfl (ev_br (zb_le _ _ _ _) (fun c1 => ?_) (fun c1 => ?_))
  · show Ev _ _ 86 _ _ _ _
    refine ev_ik (v := 0) rfl (by decide) ?_
    refine ev_rz rfl rfl (by decide) ?_ ?_
    · exact some_i (zi_f (fun h => h.1 c1)).symm
    · rfl
  · show Ev _ _ 30 _ _ _ _
    refine ev_s rfl ?_
    refine ev_gf (rd np M L (by omega) rfl) rfl rfl rfl ?_
    refine ev_s rfl ?_
    refine ev_ia (rd np M L (by omega) rfl) rfl (zin_nI (by omega) (by decide)) ?_
    refine ev_s rfl ?_
    refine ev_gf (rd np M L (by omega) rfl) rfl rfl rfl ?_
    refine ev_s rfl ?_
    refine ev_ia (rd np M L (by omega) rfl) rfl (zin_nI (by omega) (by decide)) ?_
    refine ev_s rfl ?_
    refine ev_gf (rd np M L (by omega) rfl) rfl rfl rfl ?_
    refine ev_s rfl ?_
    refine ev_ia (rd np M L (by omega) rfl) rfl (zin_nI (by omega) (by decide)) ?_
    refine ev_s rfl ?_
    refine ev_gf (rd np M L (by omega) rfl) rfl rfl rfl ?_
    refine ev_s rfl ?_
    refine ev_ia (rd np M L (by omega) rfl) rfl (zin_nI (by omega) (by decide)) ?_
    refine ev_cs (vs := [(.int (M 31 a)), (.int (M 34 a)), (.int (M 31 b)), (.int (M 34 b))]) (rest := []) (rv := (some (.int (cmn (M 31 a) (M 34 a) (M 31 b) (M 34 b))))) rfl rfl rfl rfl rfl (rn_common _) ?_
    show Ev _ _ 57 _ [(.int (cmn (M 31 a) (M 34 a) (M 31 b) (M 34 b)))] _ _
    refine ev_if rfl rfl (ev_br (zb_le _ _ _ _) (fun c2 => ?_) (fun c2 => ?_))
    · show Ev _ _ 86 _ _ _ _
      refine ev_ik (v := 0) rfl (by decide) ?_
      refine ev_rz rfl rfl (by decide) ?_ ?_
      · exact some_i (zi_f (fun h => h.2.1 c2)).symm
      · rfl
    · show Ev _ _ 60 _ _ _ _
      refine ev_s rfl ?_
      refine ev_gf (rd np M L (by omega) rfl) rfl rfl rfl ?_
      refine ev_s rfl ?_
      refine ev_ia (rd np M L (by omega) rfl) rfl (zin_nI (by omega) (by decide)) ?_
      refine ev_s rfl ?_
      refine ev_gf (rd np M L (by omega) rfl) rfl rfl rfl ?_
      refine ev_s rfl ?_
      refine ev_ia (rd np M L (by omega) rfl) rfl (zin_nI (by omega) (by decide)) ?_
      refine ev_s rfl ?_
      refine ev_gf (rd np M L (by omega) rfl) rfl rfl rfl ?_
      refine ev_s rfl ?_
      refine ev_ia (rd np M L (by omega) rfl) rfl (zin_nI (by omega) (by decide)) ?_
      refine ev_s rfl ?_
      refine ev_ic rfl rfl (ev_br (zb_lt _ _ _ _) (fun c3 => ?_) (fun c3 => ?_))
      · show Ev _ _ 86 _ _ _ _
        refine ev_ik (v := 0) rfl (by decide) ?_
        refine ev_rz rfl rfl (by decide) ?_ ?_
        · exact some_i (zi_f (fun h => h.2.2 c3)).symm
        · rfl
      · show Ev _ _ 82 _ _ _ _
        refine ev_ik (v := 1) rfl (by decide) ?_
        refine ev_s rfl ?_
        refine ev_rz rfl rfl (by decide) ?_ ?_
        · exact some_i (zi_t ⟨c1, c2, c3⟩).symm
        · rfl
def fitM (M : Nat → Nat → Int32) (k t : Nat) : Prop := ¬ M 21 0 < tW (pf M k) t ∧ ¬ M 21 1 < tH (pf M k) t ∧ ¬ M 21 2 < tD (pf M k) t
def mLg (M : Nat → Nat → Int32) (k : Nat) : Prop := ¬ ∃ t, t < tmo (M 26 k) ∧ fitM M k t
theorem tmo_le (x : Int32) : tmo x ≤ 6 := by unfold tmo; split <;> (try split) <;> omega
set_option maxHeartbeats 4000000 in
theorem lp_mlg {np : Nat} {M : Nat → Nat → Int32} {L : Nat → Int64} {k : Nat} (hk : k < 6) (d : Nat) : ∀ n t, t + n = tmo (M 26 k) → Ev (d + 1) mX6_isLarge 4 [some (.ref 21), some (.int (nI k)), some (.int (zi (∃ q, q < t ∧ fitM M k q))), some (.int (nI t))] [] (mk np M L) (Qr mX6_isLarge (some (.int (zi (mLg M k)))) (mk np M L)) := by
  intro n
  have ht6 := tmo_le (M 26 k)
  induction n with
  | zero =>
    intro t htn
    iterate 2 refine ev_s rfl ?_
    refine ev_gf (rd np M L (by omega) rfl) rfl rfl rfl ?_
    refine ev_s rfl ?_
    refine ev_ia (rd np M L (by omega) rfl) rfl (zin_nI (by omega) (by decide)) ?_
    refine ev_cs (vs := [(.int (M 26 k))]) (rest := [(.int (nI t))]) (rv := (some (.int (nI (tmo (M 26 k)))))) rfl rfl rfl rfl rfl (rn_turnsOf _) ?_
    show Ev _ _ 14 _ [(.int (nI (tmo (M 26 k)))), (.int (nI t))] _ _
    refine ev_ic rfl rfl ?_
    rw [show zbr .ge (nI t) (nI (tmo (M 26 k))) 75 17 = 75 from zge_t (n := tmo (M 26 k)) rfl (by omega) (by omega)]
    refine ev_s rfl ?_
    refine ev_if rfl rfl (ev_bzn (fun c1 => ?_) (fun c1 => ?_))
    · show Ev _ _ 83 _ _ _ _
      refine ev_ik (v := 0) rfl (by decide) ?_
      refine ev_rz rfl rfl (by decide) ?_ ?_
      · exact some_i (zi_f (show ¬ mLg M k from fun h => h ⟨c1.choose, by have := c1.choose_spec.1; omega, c1.choose_spec.2⟩)).symm
      · rfl
    · show Ev _ _ 79 _ _ _ _
      refine ev_ik (v := 1) rfl (by decide) ?_
      refine ev_s rfl ?_
      refine ev_rz rfl rfl (by decide) ?_ ?_
      · exact some_i (zi_t (show mLg M k from fun ⟨q, h1, h2⟩ => c1 ⟨q, by omega, h2⟩)).symm
      · rfl
  | succ n ih =>
    intro t htn
    have htt : t < tmo (M 26 k) := by omega
    have e9 := ih (t + 1) (by omega)
    iterate 2 refine ev_s rfl ?_
    refine ev_gf (rd np M L (by omega) rfl) rfl rfl rfl ?_
    refine ev_s rfl ?_
    refine ev_ia (rd np M L (by omega) rfl) rfl (zin_nI (by omega) (by decide)) ?_
    refine ev_cs (vs := [(.int (M 26 k))]) (rest := [(.int (nI t))]) (rv := (some (.int (nI (tmo (M 26 k)))))) rfl rfl rfl rfl rfl (rn_turnsOf _) ?_
    show Ev _ _ 14 _ [(.int (nI (tmo (M 26 k)))), (.int (nI t))] _ _
    refine ev_ic rfl rfl ?_
    rw [show zbr .ge (nI t) (nI (tmo (M 26 k))) 75 17 = 17 from zge_f (n := tmo (M 26 k)) rfl htt (by omega)]
    refine ev_s rfl ?_
    refine ev_if rfl rfl (ev_bzn (fun c1 => ?_) (fun c1 => ?_))
    · show Ev _ _ 63 _ _ _ _
      refine ev_ik (v := 1) rfl (by decide) ?_
      refine ev_s rfl ?_
      refine ev_s (ls' := [some (.ref 21), some (.int (nI k)), some (.int 1), some (.int (nI t))]) rfl ?_
      refine ev_inc (y := 1) (v := nI (t + 1)) (ls' := [some (.ref 21), some (.int (nI k)), some (.int 1), some (.int (nI (t + 1)))]) rfl rfl (by decide) (nI_1 _) rfl ?_
      refine ev_s rfl ?_
      rw [zi_t (show ∃ q, q < t + 1 ∧ fitM M k q from ⟨c1.choose, by have := c1.choose_spec.1; omega, c1.choose_spec.2⟩)] at e9
      exact e9
    · show Ev _ _ 21 _ _ _ _
      iterate 3 refine ev_s rfl ?_
      refine ev_ik (v := 0) rfl (by decide) ?_
      refine ev_cv (vs := [(.ref 21), (.int (nI k)), (.int (nI t)), (.int 0)]) (rest := []) (rv := (some (.int (tW (pf M k) t)))) rfl rfl rfl (rd np M L (by omega) rfl) rfl rfl rfl rfl (rn_measure0 (k := k) (t := t) (by omega) (by omega) _) ?_
      show Ev _ _ 28 _ [(.int (tW (pf M k) t))] _ _
      refine ev_s rfl ?_
      refine ev_gf (rd np M L (by omega) rfl) rfl rfl rfl ?_
      refine ev_ic rfl rfl (ev_br (zb_gt _ _ _ _) (fun c2 => ?_) (fun c2 => ?_))
      · show Ev _ _ 67 _ _ _ _
        refine ev_ik (v := 0) rfl (by decide) ?_
        refine ev_s (ls' := [some (.ref 21), some (.int (nI k)), some (.int 0), some (.int (nI t))]) rfl ?_
        refine ev_inc (y := 1) (v := nI (t + 1)) (ls' := [some (.ref 21), some (.int (nI k)), some (.int 0), some (.int (nI (t + 1)))]) rfl rfl (by decide) (nI_1 _) rfl ?_
        refine ev_s rfl ?_
        rw [zi_f (show ¬ ∃ q, q < t + 1 ∧ fitM M k q from fun ⟨q, h1, h2⟩ => by
          rcases Nat.lt_or_ge q t with z | z
          · exact c1 ⟨q, z, h2⟩
          · obtain rfl : q = t := by omega
            exact h2.1 c2)] at e9
        exact e9
      · show Ev _ _ 35 _ _ _ _
        iterate 3 refine ev_s rfl ?_
        refine ev_ik (v := 1) rfl (by decide) ?_
        refine ev_cv (vs := [(.ref 21), (.int (nI k)), (.int (nI t)), (.int 1)]) (rest := []) (rv := (some (.int (tH (pf M k) t)))) rfl rfl rfl (rd np M L (by omega) rfl) rfl rfl rfl rfl (rn_measure1 (k := k) (t := t) (by omega) (by omega) _) ?_
        show Ev _ _ 42 _ [(.int (tH (pf M k) t))] _ _
        refine ev_s rfl ?_
        refine ev_gf (rd np M L (by omega) rfl) rfl rfl rfl ?_
        refine ev_ic rfl rfl (ev_br (zb_gt _ _ _ _) (fun c3 => ?_) (fun c3 => ?_))
        · show Ev _ _ 67 _ _ _ _
          refine ev_ik (v := 0) rfl (by decide) ?_
          refine ev_s (ls' := [some (.ref 21), some (.int (nI k)), some (.int 0), some (.int (nI t))]) rfl ?_
          refine ev_inc (y := 1) (v := nI (t + 1)) (ls' := [some (.ref 21), some (.int (nI k)), some (.int 0), some (.int (nI (t + 1)))]) rfl rfl (by decide) (nI_1 _) rfl ?_
          refine ev_s rfl ?_
          rw [zi_f (show ¬ ∃ q, q < t + 1 ∧ fitM M k q from fun ⟨q, h1, h2⟩ => by
            rcases Nat.lt_or_ge q t with z | z
            · exact c1 ⟨q, z, h2⟩
            · obtain rfl : q = t := by omega
              exact h2.2.1 c3)] at e9
          exact e9
        · show Ev _ _ 49 _ _ _ _
          iterate 3 refine ev_s rfl ?_
          refine ev_ik (v := 2) rfl (by decide) ?_
          refine ev_cv (vs := [(.ref 21), (.int (nI k)), (.int (nI t)), (.int 2)]) (rest := []) (rv := (some (.int (tD (pf M k) t)))) rfl rfl rfl (rd np M L (by omega) rfl) rfl rfl rfl rfl (rn_measure2 (k := k) (t := t) (by omega) (by omega) _) ?_
          show Ev _ _ 56 _ [(.int (tD (pf M k) t))] _ _
          refine ev_s rfl ?_
          refine ev_gf (rd np M L (by omega) rfl) rfl rfl rfl ?_
          refine ev_ic rfl rfl (ev_br (zb_gt _ _ _ _) (fun c4 => ?_) (fun c4 => ?_))
          · show Ev _ _ 67 _ _ _ _
            refine ev_ik (v := 0) rfl (by decide) ?_
            refine ev_s (ls' := [some (.ref 21), some (.int (nI k)), some (.int 0), some (.int (nI t))]) rfl ?_
            refine ev_inc (y := 1) (v := nI (t + 1)) (ls' := [some (.ref 21), some (.int (nI k)), some (.int 0), some (.int (nI (t + 1)))]) rfl rfl (by decide) (nI_1 _) rfl ?_
            refine ev_s rfl ?_
            rw [zi_f (show ¬ ∃ q, q < t + 1 ∧ fitM M k q from fun ⟨q, h1, h2⟩ => by
              rcases Nat.lt_or_ge q t with z | z
              · exact c1 ⟨q, z, h2⟩
              · obtain rfl : q = t := by omega
                exact h2.2.2 c4)] at e9
            exact e9
          · show Ev _ _ 63 _ _ _ _
            refine ev_ik (v := 1) rfl (by decide) ?_
            refine ev_s rfl ?_
            refine ev_s (ls' := [some (.ref 21), some (.int (nI k)), some (.int 1), some (.int (nI t))]) rfl ?_
            refine ev_inc (y := 1) (v := nI (t + 1)) (ls' := [some (.ref 21), some (.int (nI k)), some (.int 1), some (.int (nI (t + 1)))]) rfl rfl (by decide) (nI_1 _) rfl ?_
            refine ev_s rfl ?_
            rw [zi_t (show ∃ q, q < t + 1 ∧ fitM M k q from ⟨t, by omega, c2, c3, c4⟩)] at e9
            exact e9
set_option maxHeartbeats 4000000 in
theorem rn_mlg {np : Nat} {M : Nat → Nat → Int32} {L : Nat → Int64} {k : Nat} (hk : k < 6) (d : Nat) : Rn (d + 1) mX6_isLarge [(.ref 21), (.int (nI k))] (mk np M L) (some (.int (zi (mLg M k)))) (mk np M L) := by
  unfold Rn
  refine ev_ik (v := 0) rfl (by decide) ?_
  refine ev_s (ls' := [some (.ref 21), some (.int (nI k)), some (.int 0), none]) rfl ?_
  refine ev_ik (v := 0) rfl (by decide) ?_
  refine ev_s (ls' := [some (.ref 21), some (.int (nI k)), some (.int 0), some (.int 0)]) rfl ?_
  have e9 := lp_mlg (np := np) (M := M) (L := L) hk d (tmo (M 26 k)) 0 (by omega)
  rw [zi_f (show ¬ ∃ q, q < 0 ∧ fitM M k q from fun ⟨q, h, _⟩ => absurd h (by omega))] at e9
  exact e9
set_option maxHeartbeats 4000000 in
theorem rn_mturn_u {np : Nat} {M : Nat → Nat → Int32} {L : Nat → Int64} {n x : Int32} (hu : ¬ mW n 1 (M 21 3)) (d : Nat) : Rn (d + 2) mX6_turn [(.ref 21), (.int n), (.int x)] (mk np M L) (some (.int (-101))) (mk np M L) := by
  unfold Rn
  iterate 2 refine ev_s rfl ?_
  refine ev_cv (vs := [(.ref 21), (.int n)]) (rest := []) (rv := (some (.int 0))) rfl rfl rfl (rd np M L (by omega) rfl) rfl rfl rfl rfl (by have e9 := rn_isPiece (np := np) (M := M) (L := L) (n := n) d; rwa [zi_f hu] at e9) ?_
  show Ev _ _ 5 _ [(.int 0)] _ _
  refine ev_if rfl rfl ?_
  show Ev _ _ 8 _ _ _ _
  refine ev_bi (v := (-101)) rfl (by decide) ?_
  refine ev_ri rfl rfl ?_ ?_
  · rfl
  · rfl
set_option maxHeartbeats 4000000 in
theorem rn_mlimit_u {np : Nat} {M : Nat → Nat → Int32} {L : Nat → Int64} {n x : Int32} (hu : ¬ mW n 1 (M 21 3)) (d : Nat) : Rn (d + 2) mX6_limit [(.ref 21), (.int n), (.int x)] (mk np M L) (some (.int (-101))) (mk np M L) := by
  unfold Rn
  iterate 2 refine ev_s rfl ?_
  refine ev_cv (vs := [(.ref 21), (.int n)]) (rest := []) (rv := (some (.int 0))) rfl rfl rfl (rd np M L (by omega) rfl) rfl rfl rfl rfl (by have e9 := rn_isPiece (np := np) (M := M) (L := L) (n := n) d; rwa [zi_f hu] at e9) ?_
  show Ev _ _ 5 _ [(.int 0)] _ _
  refine ev_if rfl rfl ?_
  show Ev _ _ 8 _ _ _ _
  refine ev_bi (v := (-101)) rfl (by decide) ?_
  refine ev_ri rfl rfl ?_ ?_
  · rfl
  · rfl
set_option maxHeartbeats 4000000 in
theorem rn_morder_u {np : Nat} {M : Nat → Nat → Int32} {L : Nat → Int64} {n x : Int32} (hu : ¬ mW n 1 (M 21 3)) (d : Nat) : Rn (d + 2) mX6_order [(.ref 21), (.int n), (.int x)] (mk np M L) (some (.int (-101))) (mk np M L) := by
  unfold Rn
  iterate 2 refine ev_s rfl ?_
  refine ev_cv (vs := [(.ref 21), (.int n)]) (rest := []) (rv := (some (.int 0))) rfl rfl rfl (rd np M L (by omega) rfl) rfl rfl rfl rfl (by have e9 := rn_isPiece (np := np) (M := M) (L := L) (n := n) d; rwa [zi_f hu] at e9) ?_
  show Ev _ _ 5 _ [(.int 0)] _ _
  refine ev_if rfl rfl ?_
  show Ev _ _ 8 _ _ _ _
  refine ev_bi (v := (-101)) rfl (by decide) ?_
  refine ev_ri rfl rfl ?_ ?_
  · rfl
  · rfl
set_option maxHeartbeats 4000000 in
theorem rn_mat_u {np : Nat} {M : Nat → Nat → Int32} {L : Nat → Int64} {n x : Int32} (hu : ¬ mW n 1 (M 21 3)) (d : Nat) : Rn (d + 2) mX6_at [(.ref 21), (.int n), (.int x)] (mk np M L) (some (.int (-101))) (mk np M L) := by
  unfold Rn
  iterate 2 refine ev_s rfl ?_
  refine ev_cv (vs := [(.ref 21), (.int n)]) (rest := []) (rv := (some (.int 0))) rfl rfl rfl (rd np M L (by omega) rfl) rfl rfl rfl rfl (by have e9 := rn_isPiece (np := np) (M := M) (L := L) (n := n) d; rwa [zi_f hu] at e9) ?_
  show Ev _ _ 5 _ [(.int 0)] _ _
  refine ev_if rfl rfl ?_
  show Ev _ _ 8 _ _ _ _
  refine ev_bi (v := (-101)) rfl (by decide) ?_
  refine ev_ri rfl rfl ?_ ?_
  · rfl
  · rfl
set_option maxHeartbeats 4000000 in
theorem rn_mlarge_u {np : Nat} {M : Nat → Nat → Int32} {L : Nat → Int64} {n : Int32} (hu : ¬ mW n 1 (M 21 3)) (d : Nat) : Rn (d + 2) mX6_large [(.ref 21), (.int n)] (mk np M L) (some (.int (-101))) (mk np M L) := by
  unfold Rn
  iterate 2 refine ev_s rfl ?_
  refine ev_cv (vs := [(.ref 21), (.int n)]) (rest := []) (rv := (some (.int 0))) rfl rfl rfl (rd np M L (by omega) rfl) rfl rfl rfl rfl (by have e9 := rn_isPiece (np := np) (M := M) (L := L) (n := n) d; rwa [zi_f hu] at e9) ?_
  show Ev _ _ 5 _ [(.int 0)] _ _
  refine ev_if rfl rfl ?_
  show Ev _ _ 8 _ _ _ _
  refine ev_bi (v := (-101)) rfl (by decide) ?_
  refine ev_s rfl ?_
  refine ev_ri rfl rfl ?_ ?_
  · rfl
  · rfl
set_option maxHeartbeats 4000000 in
theorem rn_mturn_k {np : Nat} {M : Nat → Nat → Int32} {L : Nat → Int64} {k : Nat} {x : Int32} (hn : np ≤ 6) (hk : k < np) (hc : M 21 3 = nI np) (d : Nat) : Rn (d + 2) mX6_turn [(.ref 21), (.int (nI (k + 1))), (.int x)] (mk np M L) (some (.int (cIf (mW x 0 2) (M 26 k) (-102)))) (mk np (cIf (mW x 0 2) (up2 M 26 k x) M) L) := by
  unfold Rn
  iterate 2 refine ev_s rfl ?_
  refine ev_cv (vs := [(.ref 21), (.int (nI (k + 1)))]) (rest := []) (rv := (some (.int 1))) rfl rfl rfl (rd np M L (by omega) rfl) rfl rfl rfl rfl (Rn_le (show Rn 1 _ _ _ _ _ from by have e9 := rn_isPiece (np := np) (M := M) (L := L) (n := nI (k + 1)) 0; rwa [hc, zi_t (mW_nI hn hk)] at e9) (by omega)) ?_
  show Ev _ _ 5 _ [(.int 1)] _ _
  refine ev_if rfl rfl ?_
  show Ev _ _ 11 _ _ _ _
  refine ev_s rfl ?_
  refine ev_ik (v := 0) rfl (by decide) ?_
  refine ev_ik (v := 2) rfl (by decide) ?_
  refine ev_cs (vs := [(.int x), (.int 0), (.int 2)]) (rest := []) (rv := (some (.int (zi (mW x 0 2))))) rfl rfl rfl rfl rfl (rn_within _) ?_
  show Ev _ _ 17 _ [(.int (zi (mW x 0 2)))] _ _
  refine ev_if rfl rfl (ev_bzn (fun c1 => ?_) (fun c1 => ?_))
  · show Ev _ _ 23 _ _ _ _
    refine ev_s rfl ?_
    refine ev_gf (rd np M L (by omega) rfl) rfl rfl rfl ?_
    refine ev_s rfl ?_
    refine ev_ik (v := 1) rfl (by decide) ?_
    refine ev_s rfl ?_
    refine ev_ia (rd np M L (by omega) rfl) rfl (by rw [nI_pred]; exact zin_nI (by omega) (by decide)) ?_
    refine ev_s (ls' := [some (.ref 21), some (.int (nI (k + 1))), some (.int x), some (.int (M 26 k))]) rfl ?_
    refine ev_s rfl ?_
    refine ev_gf (rd np M L (by omega) rfl) rfl rfl rfl ?_
    refine ev_s rfl ?_
    refine ev_ik (v := 1) rfl (by decide) ?_
    iterate 2 refine ev_s rfl ?_
    refine ev_is (hp' := (mk np (up2 M 26 k x) L)) (rd np M L (by omega) rfl) rfl (by rw [nI_pred]; exact zin_nI (by omega) (by decide)) (mk_setr rfl rfl rfl) ?_
    refine ev_s rfl ?_
    refine ev_ri rfl rfl ?_ ?_
    · rw [cIf_t c1]
    · rw [cIf_t c1]
  · show Ev _ _ 20 _ _ _ _
    refine ev_bi (v := (-102)) rfl (by decide) ?_
    refine ev_ri rfl rfl ?_ ?_
    · rw [cIf_f c1]
    · rw [cIf_f c1]
set_option maxHeartbeats 4000000 in
theorem rn_mlimit_k {np : Nat} {M : Nat → Nat → Int32} {L : Nat → Int64} {k : Nat} {x : Int32} (hn : np ≤ 6) (hk : k < np) (hc : M 21 3 = nI np) (d : Nat) : Rn (d + 2) mX6_limit [(.ref 21), (.int (nI (k + 1))), (.int x)] (mk np M L) (some (.int (cIf (mW x (-1) 6000) 1 (-102)))) (mk np (cIf (mW x (-1) 6000) (up2 M 27 k x) M) L) := by
  unfold Rn
  iterate 2 refine ev_s rfl ?_
  refine ev_cv (vs := [(.ref 21), (.int (nI (k + 1)))]) (rest := []) (rv := (some (.int 1))) rfl rfl rfl (rd np M L (by omega) rfl) rfl rfl rfl rfl (Rn_le (show Rn 1 _ _ _ _ _ from by have e9 := rn_isPiece (np := np) (M := M) (L := L) (n := nI (k + 1)) 0; rwa [hc, zi_t (mW_nI hn hk)] at e9) (by omega)) ?_
  show Ev _ _ 5 _ [(.int 1)] _ _
  refine ev_if rfl rfl ?_
  show Ev _ _ 11 _ _ _ _
  refine ev_s rfl ?_
  refine ev_ik (v := (-1)) rfl (by decide) ?_
  refine ev_si (v := 6000) rfl (by decide) ?_
  refine ev_cs (vs := [(.int x), (.int (-1)), (.int 6000)]) (rest := []) (rv := (some (.int (zi (mW x (-1) 6000))))) rfl rfl rfl rfl rfl (rn_within _) ?_
  show Ev _ _ 19 _ [(.int (zi (mW x (-1) 6000)))] _ _
  refine ev_if rfl rfl (ev_bzn (fun c1 => ?_) (fun c1 => ?_))
  · show Ev _ _ 25 _ _ _ _
    refine ev_s rfl ?_
    refine ev_gf (rd np M L (by omega) rfl) rfl rfl rfl ?_
    refine ev_s rfl ?_
    refine ev_ik (v := 1) rfl (by decide) ?_
    iterate 2 refine ev_s rfl ?_
    refine ev_is (hp' := (mk np (up2 M 27 k x) L)) (rd np M L (by omega) rfl) rfl (by rw [nI_pred]; exact zin_nI (by omega) (by decide)) (mk_setr rfl rfl rfl) ?_
    refine ev_ik (v := 1) rfl (by decide) ?_
    refine ev_ri rfl rfl ?_ ?_
    · rw [cIf_t c1]
    · rw [cIf_t c1]
  · show Ev _ _ 22 _ _ _ _
    refine ev_bi (v := (-102)) rfl (by decide) ?_
    refine ev_ri rfl rfl ?_ ?_
    · rw [cIf_f c1]
    · rw [cIf_f c1]
set_option maxHeartbeats 4000000 in
theorem rn_morder_k {np : Nat} {M : Nat → Nat → Int32} {L : Nat → Int64} {k : Nat} {x : Int32} (hn : np ≤ 6) (hk : k < np) (hc : M 21 3 = nI np) (d : Nat) : Rn (d + 2) mX6_order [(.ref 21), (.int (nI (k + 1))), (.int x)] (mk np M L) (some (.int (cIf (mW x 0 9) (M 28 k) (-102)))) (mk np (cIf (mW x 0 9) (up2 M 28 k x) M) L) := by
  unfold Rn
  iterate 2 refine ev_s rfl ?_
  refine ev_cv (vs := [(.ref 21), (.int (nI (k + 1)))]) (rest := []) (rv := (some (.int 1))) rfl rfl rfl (rd np M L (by omega) rfl) rfl rfl rfl rfl (Rn_le (show Rn 1 _ _ _ _ _ from by have e9 := rn_isPiece (np := np) (M := M) (L := L) (n := nI (k + 1)) 0; rwa [hc, zi_t (mW_nI hn hk)] at e9) (by omega)) ?_
  show Ev _ _ 5 _ [(.int 1)] _ _
  refine ev_if rfl rfl ?_
  show Ev _ _ 11 _ _ _ _
  refine ev_s rfl ?_
  refine ev_ik (v := 0) rfl (by decide) ?_
  refine ev_bi (v := 9) rfl (by decide) ?_
  refine ev_cs (vs := [(.int x), (.int 0), (.int 9)]) (rest := []) (rv := (some (.int (zi (mW x 0 9))))) rfl rfl rfl rfl rfl (rn_within _) ?_
  show Ev _ _ 18 _ [(.int (zi (mW x 0 9)))] _ _
  refine ev_if rfl rfl (ev_bzn (fun c1 => ?_) (fun c1 => ?_))
  · show Ev _ _ 24 _ _ _ _
    refine ev_s rfl ?_
    refine ev_gf (rd np M L (by omega) rfl) rfl rfl rfl ?_
    refine ev_s rfl ?_
    refine ev_ik (v := 1) rfl (by decide) ?_
    refine ev_s rfl ?_
    refine ev_ia (rd np M L (by omega) rfl) rfl (by rw [nI_pred]; exact zin_nI (by omega) (by decide)) ?_
    refine ev_s (ls' := [some (.ref 21), some (.int (nI (k + 1))), some (.int x), some (.int (M 28 k))]) rfl ?_
    refine ev_s rfl ?_
    refine ev_gf (rd np M L (by omega) rfl) rfl rfl rfl ?_
    refine ev_s rfl ?_
    refine ev_ik (v := 1) rfl (by decide) ?_
    iterate 2 refine ev_s rfl ?_
    refine ev_is (hp' := (mk np (up2 M 28 k x) L)) (rd np M L (by omega) rfl) rfl (by rw [nI_pred]; exact zin_nI (by omega) (by decide)) (mk_setr rfl rfl rfl) ?_
    refine ev_s rfl ?_
    refine ev_ri rfl rfl ?_ ?_
    · rw [cIf_t c1]
    · rw [cIf_t c1]
  · show Ev _ _ 21 _ _ _ _
    refine ev_bi (v := (-102)) rfl (by decide) ?_
    refine ev_ri rfl rfl ?_ ?_
    · rw [cIf_f c1]
    · rw [cIf_f c1]
set_option maxHeartbeats 4000000 in
theorem rn_mlarge_k {np : Nat} {M : Nat → Nat → Int32} {L : Nat → Int64} {k : Nat} (hn : np ≤ 6) (hk : k < np) (hc : M 21 3 = nI np) (d : Nat) : Rn (d + 2) mX6_large [(.ref 21), (.int (nI (k + 1)))] (mk np M L) (some (.int (zi (mLg M k)))) (mk np M L) := by
  unfold Rn
  iterate 2 refine ev_s rfl ?_
  refine ev_cv (vs := [(.ref 21), (.int (nI (k + 1)))]) (rest := []) (rv := (some (.int 1))) rfl rfl rfl (rd np M L (by omega) rfl) rfl rfl rfl rfl (Rn_le (show Rn 1 _ _ _ _ _ from by have e9 := rn_isPiece (np := np) (M := M) (L := L) (n := nI (k + 1)) 0; rwa [hc, zi_t (mW_nI hn hk)] at e9) (by omega)) ?_
  show Ev _ _ 5 _ [(.int 1)] _ _
  refine ev_if rfl rfl ?_
  show Ev _ _ 13 _ _ _ _
  iterate 2 refine ev_s rfl ?_
  refine ev_ik (v := 1) rfl (by decide) ?_
  refine ev_s rfl ?_
  refine ev_cv (vs := [(.ref 21), (.int ((nI (k + 1)) - 1))]) (rest := []) (rv := (some (.int (zi (mLg M k))))) rfl rfl rfl (rd np M L (by omega) rfl) rfl rfl rfl rfl (by rw [nI_pred]; exact rn_mlg (by omega) _) ?_
  show Ev _ _ 20 _ [(.int (zi (mLg M k)))] _ _
  refine ev_if rfl rfl (ev_bze (fun c1 => ?_) (fun c1 => ?_))
  · show Ev _ _ 27 _ _ _ _
    refine ev_ik (v := 0) rfl (by decide) ?_
    refine ev_ri rfl rfl ?_ ?_
    · exact some_i (zi_f c1).symm
    · rfl
  · show Ev _ _ 23 _ _ _ _
    refine ev_ik (v := 1) rfl (by decide) ?_
    refine ev_s rfl ?_
    refine ev_ri rfl rfl ?_ ?_
    · exact some_i (zi_t c1).symm
    · rfl
set_option maxHeartbeats 4000000 in
theorem rn_mexact {np : Nat} {M : Nat → Nat → Int32} {L : Nat → Int64} (hz : M 21 6 = 0 ∨ M 21 6 = 1) (d : Nat) : Rn (d) mX6_exact [(.ref 21)] (mk np M L) (some (.int (M 21 6))) (mk np M L) := by
  unfold Rn
  refine ev_s rfl ?_
  refine ev_gf (rd np M L (by omega) rfl) rfl rfl rfl ?_
  refine ev_rz rfl rfl hz ?_ ?_
  · rfl
  · rfl
set_option maxHeartbeats 4000000 in
theorem rn_msteps {np : Nat} {M : Nat → Nat → Int32} {L : Nat → Int64} {x : Int32} (d : Nat) : Rn (d) mX6_steps [(.ref 21), (.int x)] (mk np M L) (some (.int (if x = 0 then M 21 5 else 3000 - M 21 4))) (mk np M L) := by
  unfold Rn
  refine ev_s rfl ?_
  refine ev_if rfl rfl (ev_br (zb_eq _ _ _ _) (fun c1 => ?_) (fun c1 => ?_))
  · show Ev _ _ 15 _ _ _ _
    refine ev_s rfl ?_
    refine ev_gf (rd np M L (by omega) rfl) rfl rfl rfl ?_
    refine ev_ri rfl rfl ?_ ?_
    · rw [if_pos c1]
    · rfl
  · show Ev _ _ 4 _ _ _ _
    refine ev_si (v := 3000) rfl (by decide) ?_
    refine ev_s rfl ?_
    refine ev_gf (rd np M L (by omega) rfl) rfl rfl rfl ?_
    iterate 2 refine ev_s rfl ?_
    refine ev_ri rfl rfl ?_ ?_
    · rw [if_neg c1]
    · rfl
set_option maxHeartbeats 4000000 in
theorem rn_thrown {np : Nat} {M : Nat → Nat → Int32} {L : Nat → Int64}  (d : Nat) : Rn (d) mX6_thrown [(.ref 21)] (mk np M L) (some (.int (M 21 44))) (mk np M L) := by
  unfold Rn
  refine ev_s rfl ?_
  refine ev_gf (rd np M L (by omega) rfl) rfl rfl rfl ?_
  refine ev_ri rfl rfl ?_ ?_
  · rfl
  · rfl
def mOn (M : Nat → Nat → Int32) (k : Nat) (x : Int32) : Int32 := if M 37 k = 0 then -1 else if x = 0 then M 38 k else if x = 1 then M 39 k else if x = 2 then M 40 k else M 44 k
set_option maxHeartbeats 4000000 in
theorem rn_mat_k {np : Nat} {M : Nat → Nat → Int32} {L : Nat → Int64} {k : Nat} {x : Int32} (hn : np ≤ 6) (hk : k < np) (hc : M 21 3 = nI np) (d : Nat) : Rn (d + 2) mX6_at [(.ref 21), (.int (nI (k + 1))), (.int x)] (mk np M L) (some (.int (cIf (mW x 0 3) (mOn M k x) (-102)))) (mk np M L) := by
  unfold Rn
  iterate 2 refine ev_s rfl ?_
  refine ev_cv (vs := [(.ref 21), (.int (nI (k + 1)))]) (rest := []) (rv := (some (.int 1))) rfl rfl rfl (rd np M L (by omega) rfl) rfl rfl rfl rfl (Rn_le (show Rn 1 _ _ _ _ _ from by have e9 := rn_isPiece (np := np) (M := M) (L := L) (n := nI (k + 1)) 0; rwa [hc, zi_t (mW_nI hn hk)] at e9) (by omega)) ?_
  show Ev _ _ 5 _ [(.int 1)] _ _
  refine ev_if rfl rfl ?_
  show Ev _ _ 11 _ _ _ _
  refine ev_s rfl ?_
  refine ev_ik (v := 0) rfl (by decide) ?_
  refine ev_ik (v := 3) rfl (by decide) ?_
  refine ev_cs (vs := [(.int x), (.int 0), (.int 3)]) (rest := []) (rv := (some (.int (zi (mW x 0 3))))) rfl rfl rfl rfl rfl (rn_within _) ?_
  show Ev _ _ 17 _ [(.int (zi (mW x 0 3)))] _ _
  refine ev_if rfl rfl (ev_bzn (fun c1 => ?_) (fun c1 => ?_))
  · show Ev _ _ 23 _ _ _ _
    refine ev_s rfl ?_
    refine ev_ik (v := 1) rfl (by decide) ?_
    refine ev_s rfl ?_
    rw [nI_pred k]
    refine ev_s (ls' := [some (.ref 21), some (.int (nI (k + 1))), some (.int x), some (.int (nI k))]) rfl ?_
    refine ev_s rfl ?_
    refine ev_gf (rd np M L (by omega) rfl) rfl rfl rfl ?_
    refine ev_s rfl ?_
    refine ev_ba (rd np M L (by omega) rfl) rfl (zin_nI (by omega) (by decide)) ?_
    refine ev_if rfl rfl (ev_bn (fun c2 => ?_) (fun c2 => ?_))
    · show Ev _ _ 40 _ _ _ _
      refine ev_s rfl ?_
      refine ev_if rfl rfl (ev_bn (fun c3 => ?_) (fun c3 => ?_))
      · show Ev _ _ 53 _ _ _ _
        refine ev_s rfl ?_
        refine ev_ik (v := 1) rfl (by decide) ?_
        refine ev_ic rfl rfl (ev_bn (fun c4 => ?_) (fun c4 => ?_))
        · show Ev _ _ 67 _ _ _ _
          refine ev_s rfl ?_
          refine ev_ik (v := 2) rfl (by decide) ?_
          refine ev_ic rfl rfl (ev_bn (fun c5 => ?_) (fun c5 => ?_))
          · show Ev _ _ 81 _ _ _ _
            refine ev_s rfl ?_
            refine ev_gf (rd np M L (by omega) rfl) rfl rfl rfl ?_
            refine ev_s rfl ?_
            refine ev_ia (rd np M L (by omega) rfl) rfl (zin_nI (by omega) (by decide)) ?_
            refine ev_ri rfl rfl ?_ ?_
            · rw [cIf_t c1]; unfold mOn; rw [if_neg c2, if_neg c3, if_neg c4, if_neg c5]
            · rfl
          · show Ev _ _ 72 _ _ _ _
            refine ev_s rfl ?_
            refine ev_gf (rd np M L (by omega) rfl) rfl rfl rfl ?_
            refine ev_s rfl ?_
            refine ev_ia (rd np M L (by omega) rfl) rfl (zin_nI (by omega) (by decide)) ?_
            refine ev_s rfl ?_
            refine ev_ri rfl rfl ?_ ?_
            · rw [cIf_t c1]; unfold mOn; rw [if_neg c2, if_neg c3, if_neg c4, if_pos c5]
            · rfl
        · show Ev _ _ 58 _ _ _ _
          refine ev_s rfl ?_
          refine ev_gf (rd np M L (by omega) rfl) rfl rfl rfl ?_
          refine ev_s rfl ?_
          refine ev_ia (rd np M L (by omega) rfl) rfl (zin_nI (by omega) (by decide)) ?_
          refine ev_s rfl ?_
          refine ev_ri rfl rfl ?_ ?_
          · rw [cIf_t c1]; unfold mOn; rw [if_neg c2, if_neg c3, if_pos c4]
          · rfl
      · show Ev _ _ 44 _ _ _ _
        refine ev_s rfl ?_
        refine ev_gf (rd np M L (by omega) rfl) rfl rfl rfl ?_
        refine ev_s rfl ?_
        refine ev_ia (rd np M L (by omega) rfl) rfl (zin_nI (by omega) (by decide)) ?_
        refine ev_s rfl ?_
        refine ev_ri rfl rfl ?_ ?_
        · rw [cIf_t c1]; unfold mOn; rw [if_neg c2, if_pos c3]
        · rfl
    · show Ev _ _ 36 _ _ _ _
      refine ev_ik (v := (-1)) rfl (by decide) ?_
      refine ev_s rfl ?_
      refine ev_ri rfl rfl ?_ ?_
      · rw [cIf_t c1]; unfold mOn; rw [if_pos c2]
      · rfl
  · show Ev _ _ 20 _ _ _ _
    refine ev_bi (v := (-102)) rfl (by decide) ?_
    refine ev_ri rfl rfl ?_ ?_
    · rw [cIf_f c1]
    · rfl
def mOv (M : Nat → Nat → Int32) (i k : Nat) : Prop := ¬ cmn (M 38 i) (M 41 i) (M 38 k) (M 41 k) ≤ 0 ∧ ¬ cmn (M 39 i) (M 42 i) (M 39 k) (M 42 k) ≤ 0 ∧ ¬ cmn (M 40 i) (M 43 i) (M 40 k) (M 43 k) ≤ 0
set_option maxHeartbeats 4000000 in
theorem rn_mov_u {np : Nat} {M : Nat → Nat → Int32} {L : Nat → Int64} {a b : Int32} (hu : ¬ mW a 1 (M 21 3)) (d : Nat) : Rn (d + 2) mX6_overlap [(.ref 21), (.int a), (.int b)] (mk np M L) (some (.int 0)) (mk np M L) := by
  unfold Rn
  iterate 2 refine ev_s rfl ?_
  refine ev_cv (vs := [(.ref 21), (.int a)]) (rest := []) (rv := (some (.int 0))) rfl rfl rfl (rd np M L (by omega) rfl) rfl rfl rfl rfl (by have e9 := rn_isPiece (np := np) (M := M) (L := L) (n := a) d; rwa [zi_f hu] at e9) ?_
  show Ev _ _ 5 _ [(.int 0)] _ _
  refine ev_if rfl rfl ?_
  show Ev _ _ 38 _ _ _ _
  refine ev_ik (v := 0) rfl (by decide) ?_
  refine ev_rz rfl rfl (by decide) ?_ ?_
  · rfl
  · rfl
set_option maxHeartbeats 4000000 in
theorem rn_mov_ku {np : Nat} {M : Nat → Nat → Int32} {L : Nat → Int64} {i : Nat} {b : Int32} (hn : np ≤ 6) (hi : i < np) (hc : M 21 3 = nI np) (hu2 : ¬ mW b 1 (M 21 3)) (d : Nat) : Rn (d + 2) mX6_overlap [(.ref 21), (.int (nI (i + 1))), (.int b)] (mk np M L) (some (.int 0)) (mk np M L) := by
  unfold Rn
  iterate 2 refine ev_s rfl ?_
  refine ev_cv (vs := [(.ref 21), (.int (nI (i + 1)))]) (rest := []) (rv := (some (.int 1))) rfl rfl rfl (rd np M L (by omega) rfl) rfl rfl rfl rfl (by have e9 := rn_isPiece (np := np) (M := M) (L := L) (n := nI (i + 1)) d; rwa [hc, zi_t (mW_nI hn hi)] at e9) ?_
  show Ev _ _ 5 _ [(.int 1)] _ _
  refine ev_if rfl rfl ?_
  show Ev _ _ 8 _ _ _ _
  iterate 2 refine ev_s rfl ?_
  refine ev_cv (vs := [(.ref 21), (.int b)]) (rest := []) (rv := (some (.int 0))) rfl rfl rfl (rd np M L (by omega) rfl) rfl rfl rfl rfl (by have e9 := rn_isPiece (np := np) (M := M) (L := L) (n := b) d; rwa [zi_f hu2] at e9) ?_
  show Ev _ _ 13 _ [(.int 0)] _ _
  refine ev_if rfl rfl ?_
  show Ev _ _ 38 _ _ _ _
  refine ev_ik (v := 0) rfl (by decide) ?_
  refine ev_rz rfl rfl (by decide) ?_ ?_
  · rfl
  · rfl
set_option maxHeartbeats 4000000 in
theorem rn_mov_kk {np : Nat} {M : Nat → Nat → Int32} {L : Nat → Int64} {i k : Nat} (hn : np ≤ 6) (hi : i < np) (hk : k < np) (hc : M 21 3 = nI np) (d : Nat) : Rn (d + 2) mX6_overlap [(.ref 21), (.int (nI (i + 1))), (.int (nI (k + 1)))] (mk np M L) (some (.int (zi (¬ M 37 i = 0 ∧ ¬ M 37 k = 0 ∧ mOv M i k)))) (mk np M L) := by
  unfold Rn
  iterate 2 refine ev_s rfl ?_
  refine ev_cv (vs := [(.ref 21), (.int (nI (i + 1)))]) (rest := []) (rv := (some (.int 1))) rfl rfl rfl (rd np M L (by omega) rfl) rfl rfl rfl rfl (by have e9 := rn_isPiece (np := np) (M := M) (L := L) (n := nI (i + 1)) d; rwa [hc, zi_t (mW_nI hn hi)] at e9) ?_
  show Ev _ _ 5 _ [(.int 1)] _ _
  refine ev_if rfl rfl ?_
  show Ev _ _ 8 _ _ _ _
  iterate 2 refine ev_s rfl ?_
  refine ev_cv (vs := [(.ref 21), (.int (nI (k + 1)))]) (rest := []) (rv := (some (.int 1))) rfl rfl rfl (rd np M L (by omega) rfl) rfl rfl rfl rfl (by have e9 := rn_isPiece (np := np) (M := M) (L := L) (n := nI (k + 1)) d; rwa [hc, zi_t (mW_nI hn hk)] at e9) ?_
  show Ev _ _ 13 _ [(.int 1)] _ _
  refine ev_if rfl rfl ?_
  show Ev _ _ 16 _ _ _ _
  refine ev_s rfl ?_
  refine ev_gf (rd np M L (by omega) rfl) rfl rfl rfl ?_
  refine ev_s rfl ?_
  refine ev_ik (v := 1) rfl (by decide) ?_
  refine ev_s rfl ?_
  refine ev_ba (rd np M L (by omega) rfl) rfl (by rw [nI_pred]; exact zin_nI (by omega) (by decide)) ?_
  refine ev_if rfl rfl (ev_br (zb_eq _ _ _ _) (fun c1 => ?_) (fun c1 => ?_))
  · show Ev _ _ 38 _ _ _ _
    refine ev_ik (v := 0) rfl (by decide) ?_
    refine ev_rz rfl rfl (by decide) ?_ ?_
    · exact some_i (zi_f (show ¬ (¬ M 37 i = 0 ∧ ¬ M 37 k = 0 ∧ mOv M i k) from fun h => h.1 c1)).symm
    · rfl
  · show Ev _ _ 27 _ _ _ _
    refine ev_s rfl ?_
    refine ev_gf (rd np M L (by omega) rfl) rfl rfl rfl ?_
    refine ev_s rfl ?_
    refine ev_ik (v := 1) rfl (by decide) ?_
    refine ev_s rfl ?_
    refine ev_ba (rd np M L (by omega) rfl) rfl (by rw [nI_pred]; exact zin_nI (by omega) (by decide)) ?_
    refine ev_if rfl rfl (ev_bn (fun c2 => ?_) (fun c2 => ?_))
    · show Ev _ _ 40 _ _ _ _
      refine ev_s rfl ?_
      refine ev_ik (v := 1) rfl (by decide) ?_
      refine ev_s rfl ?_
      rw [nI_pred i]
      refine ev_s (ls' := [some (.ref 21), some (.int (nI (i + 1))), some (.int (nI (k + 1))), some (.int (nI i)), none]) rfl ?_
      refine ev_s rfl ?_
      refine ev_ik (v := 1) rfl (by decide) ?_
      refine ev_s rfl ?_
      rw [nI_pred k]
      refine ev_s (ls' := [some (.ref 21), some (.int (nI (i + 1))), some (.int (nI (k + 1))), some (.int (nI i)), some (.int (nI k))]) rfl ?_
      refine ev_s rfl ?_
      refine ev_gf (rd np M L (by omega) rfl) rfl rfl rfl ?_
      refine ev_s rfl ?_
      refine ev_ia (rd np M L (by omega) rfl) rfl (zin_nI (by omega) (by decide)) ?_
      refine ev_s rfl ?_
      refine ev_gf (rd np M L (by omega) rfl) rfl rfl rfl ?_
      refine ev_s rfl ?_
      refine ev_ia (rd np M L (by omega) rfl) rfl (zin_nI (by omega) (by decide)) ?_
      refine ev_s rfl ?_
      refine ev_gf (rd np M L (by omega) rfl) rfl rfl rfl ?_
      refine ev_s rfl ?_
      refine ev_ia (rd np M L (by omega) rfl) rfl (zin_nI (by omega) (by decide)) ?_
      refine ev_s rfl ?_
      refine ev_gf (rd np M L (by omega) rfl) rfl rfl rfl ?_
      refine ev_s rfl ?_
      refine ev_ia (rd np M L (by omega) rfl) rfl (zin_nI (by omega) (by decide)) ?_
      refine ev_cs (vs := [(.int (M 38 i)), (.int (M 41 i)), (.int (M 38 k)), (.int (M 41 k))]) (rest := []) (rv := (some (.int (cmn (M 38 i) (M 41 i) (M 38 k) (M 41 k))))) rfl rfl rfl rfl rfl (rn_common _) ?_
      show Ev _ _ 78 _ [(.int (cmn (M 38 i) (M 41 i) (M 38 k) (M 41 k)))] _ _
      refine ev_if rfl rfl (ev_br (zb_le _ _ _ _) (fun c3 => ?_) (fun c3 => ?_))
      · show Ev _ _ 149 _ _ _ _
        refine ev_ik (v := 0) rfl (by decide) ?_
        refine ev_rz rfl rfl (by decide) ?_ ?_
        · exact some_i (zi_f (show ¬ (¬ M 37 i = 0 ∧ ¬ M 37 k = 0 ∧ mOv M i k) from fun h => h.2.2.1 c3)).symm
        · rfl
      · show Ev _ _ 81 _ _ _ _
        refine ev_s rfl ?_
        refine ev_gf (rd np M L (by omega) rfl) rfl rfl rfl ?_
        refine ev_s rfl ?_
        refine ev_ia (rd np M L (by omega) rfl) rfl (zin_nI (by omega) (by decide)) ?_
        refine ev_s rfl ?_
        refine ev_gf (rd np M L (by omega) rfl) rfl rfl rfl ?_
        refine ev_s rfl ?_
        refine ev_ia (rd np M L (by omega) rfl) rfl (zin_nI (by omega) (by decide)) ?_
        refine ev_s rfl ?_
        refine ev_gf (rd np M L (by omega) rfl) rfl rfl rfl ?_
        refine ev_s rfl ?_
        refine ev_ia (rd np M L (by omega) rfl) rfl (zin_nI (by omega) (by decide)) ?_
        refine ev_s rfl ?_
        refine ev_gf (rd np M L (by omega) rfl) rfl rfl rfl ?_
        refine ev_s rfl ?_
        refine ev_ia (rd np M L (by omega) rfl) rfl (zin_nI (by omega) (by decide)) ?_
        refine ev_cs (vs := [(.int (M 39 i)), (.int (M 42 i)), (.int (M 39 k)), (.int (M 42 k))]) (rest := []) (rv := (some (.int (cmn (M 39 i) (M 42 i) (M 39 k) (M 42 k))))) rfl rfl rfl rfl rfl (rn_common _) ?_
        show Ev _ _ 110 _ [(.int (cmn (M 39 i) (M 42 i) (M 39 k) (M 42 k)))] _ _
        refine ev_if rfl rfl (ev_br (zb_le _ _ _ _) (fun c4 => ?_) (fun c4 => ?_))
        · show Ev _ _ 149 _ _ _ _
          refine ev_ik (v := 0) rfl (by decide) ?_
          refine ev_rz rfl rfl (by decide) ?_ ?_
          · exact some_i (zi_f (show ¬ (¬ M 37 i = 0 ∧ ¬ M 37 k = 0 ∧ mOv M i k) from fun h => h.2.2.2.1 c4)).symm
          · rfl
        · show Ev _ _ 113 _ _ _ _
          refine ev_s rfl ?_
          refine ev_gf (rd np M L (by omega) rfl) rfl rfl rfl ?_
          refine ev_s rfl ?_
          refine ev_ia (rd np M L (by omega) rfl) rfl (zin_nI (by omega) (by decide)) ?_
          refine ev_s rfl ?_
          refine ev_gf (rd np M L (by omega) rfl) rfl rfl rfl ?_
          refine ev_s rfl ?_
          refine ev_ia (rd np M L (by omega) rfl) rfl (zin_nI (by omega) (by decide)) ?_
          refine ev_s rfl ?_
          refine ev_gf (rd np M L (by omega) rfl) rfl rfl rfl ?_
          refine ev_s rfl ?_
          refine ev_ia (rd np M L (by omega) rfl) rfl (zin_nI (by omega) (by decide)) ?_
          refine ev_s rfl ?_
          refine ev_gf (rd np M L (by omega) rfl) rfl rfl rfl ?_
          refine ev_s rfl ?_
          refine ev_ia (rd np M L (by omega) rfl) rfl (zin_nI (by omega) (by decide)) ?_
          refine ev_cs (vs := [(.int (M 40 i)), (.int (M 43 i)), (.int (M 40 k)), (.int (M 43 k))]) (rest := []) (rv := (some (.int (cmn (M 40 i) (M 43 i) (M 40 k) (M 43 k))))) rfl rfl rfl rfl rfl (rn_common _) ?_
          show Ev _ _ 142 _ [(.int (cmn (M 40 i) (M 43 i) (M 40 k) (M 43 k)))] _ _
          refine ev_if rfl rfl (ev_br (zb_le _ _ _ _) (fun c5 => ?_) (fun c5 => ?_))
          · show Ev _ _ 149 _ _ _ _
            refine ev_ik (v := 0) rfl (by decide) ?_
            refine ev_rz rfl rfl (by decide) ?_ ?_
            · exact some_i (zi_f (show ¬ (¬ M 37 i = 0 ∧ ¬ M 37 k = 0 ∧ mOv M i k) from fun h => h.2.2.2.2 c5)).symm
            · rfl
          · show Ev _ _ 145 _ _ _ _
            refine ev_ik (v := 1) rfl (by decide) ?_
            refine ev_s rfl ?_
            refine ev_rz rfl rfl (by decide) ?_ ?_
            · exact some_i (zi_t (show ¬ M 37 i = 0 ∧ ¬ M 37 k = 0 ∧ mOv M i k from ⟨c1, c2, c3, c4, c5⟩)).symm
            · rfl
    · show Ev _ _ 38 _ _ _ _
      refine ev_ik (v := 0) rfl (by decide) ?_
      refine ev_rz rfl rfl (by decide) ?_ ?_
      · exact some_i (zi_f (show ¬ (¬ M 37 i = 0 ∧ ¬ M 37 k = 0 ∧ mOv M i k) from fun h => h.2.1 c2)).symm
      · rfl
noncomputable def muS (M : Nat → Nat → Int32) (x z : Int32) : Nat → Int32 × Int32
  | 0 => (0, 0)
  | i + 1 => cIf (¬ M 37 i = 0 ∧ ¬ cmn x 1 (M 38 i) (M 41 i) ≤ 0 ∧ ¬ cmn z 1 (M 40 i) (M 43 i) ≤ 0 ∧ ¬ M 39 i + M 42 i ≤ (muS M x z i).2) (nI i + 1, M 39 i + M 42 i) (muS M x z i)
def inG (M : Nat → Nat → Int32) (x z : Int32) : Prop := mW x 0 (M 21 0 - 1) ∧ mW z 0 (M 21 2 - 1)
set_option maxHeartbeats 4000000 in
theorem lp_mabove {np : Nat} {M : Nat → Nat → Int32} {L : Nat → Int64} {x z : Int32} (d : Nat) : ∀ k i, i + k = 6 → Ev (d + 1) mX6_above 39 [some (.ref 21), some (.int x), some (.int z), some (.int ((muS M x z i).1)), some (.int ((muS M x z i).2)), some (.int (nI i))] [] (mk np M L) (Qr mX6_above (some (.int (muS M x z 6).1)) (mk np M L)) := by
  intro k
  induction k with
  | zero =>
    intro i hik 
    obtain rfl : i = 6 := by omega
    refine ev_s rfl ?_
    refine ev_bi (v := 6) rfl (by decide) ?_
    refine ev_ic rfl rfl ?_
    rw [show zbr .ge (nI 6) 6 148 46 = 148 from zge_t (n := 6) (by decide) (by omega) (by decide)]
    refine ev_s rfl ?_
    refine ev_ri rfl rfl ?_ ?_
    · rfl
    · rfl
  | succ k ih =>
    intro i hik 
    have hi : i < 6 := by omega
    refine ev_s rfl ?_
    refine ev_bi (v := 6) rfl (by decide) ?_
    refine ev_ic rfl rfl ?_
    rw [show zbr .ge (nI i) 6 148 46 = 46 from zge_f (n := 6) (by decide) hi (by decide)]
    refine ev_s rfl ?_
    refine ev_gf (rd np M L (by omega) rfl) rfl rfl rfl ?_
    refine ev_s rfl ?_
    refine ev_ba (rd np M L (by omega) rfl) rfl (zin_nI (by omega) (by decide)) ?_
    refine ev_if rfl rfl (ev_br (zb_eq _ _ _ _) (fun c1 => ?_) (fun c1 => ?_))
    · show Ev _ _ 142 _ _ _ _
      refine ev_inc (y := 1) (v := nI (i + 1)) (ls' := [some (.ref 21), some (.int x), some (.int z), some (.int ((muS M x z i).1)), some (.int ((muS M x z i).2)), some (.int (nI (i + 1)))]) rfl rfl (by decide) (nI_1 _) rfl ?_
      refine ev_s rfl ?_
      have e9 := ih (i + 1) (by omega)
      rw [show muS M x z (i + 1) = muS M x z i from cIf_f (fun h => h.1 c1) _ _] at e9
      exact e9
    · show Ev _ _ 56 _ _ _ _
      refine ev_s rfl ?_
      refine ev_ik (v := 1) rfl (by decide) ?_
      refine ev_s rfl ?_
      refine ev_gf (rd np M L (by omega) rfl) rfl rfl rfl ?_
      refine ev_s rfl ?_
      refine ev_ia (rd np M L (by omega) rfl) rfl (zin_nI (by omega) (by decide)) ?_
      refine ev_s rfl ?_
      refine ev_gf (rd np M L (by omega) rfl) rfl rfl rfl ?_
      refine ev_s rfl ?_
      refine ev_ia (rd np M L (by omega) rfl) rfl (zin_nI (by omega) (by decide)) ?_
      refine ev_cs (vs := [(.int x), (.int 1), (.int (M 38 i)), (.int (M 41 i))]) (rest := []) (rv := (some (.int (cmn x 1 (M 38 i) (M 41 i))))) rfl rfl rfl rfl rfl (rn_common _) ?_
      show Ev _ _ 75 _ [(.int (cmn x 1 (M 38 i) (M 41 i)))] _ _
      refine ev_if rfl rfl (ev_br (zb_le _ _ _ _) (fun c2 => ?_) (fun c2 => ?_))
      · show Ev _ _ 142 _ _ _ _
        refine ev_inc (y := 1) (v := nI (i + 1)) (ls' := [some (.ref 21), some (.int x), some (.int z), some (.int ((muS M x z i).1)), some (.int ((muS M x z i).2)), some (.int (nI (i + 1)))]) rfl rfl (by decide) (nI_1 _) rfl ?_
        refine ev_s rfl ?_
        have e9 := ih (i + 1) (by omega)
        rw [show muS M x z (i + 1) = muS M x z i from cIf_f (fun h => h.2.1 c2) _ _] at e9
        exact e9
      · show Ev _ _ 78 _ _ _ _
        refine ev_s rfl ?_
        refine ev_ik (v := 1) rfl (by decide) ?_
        refine ev_s rfl ?_
        refine ev_gf (rd np M L (by omega) rfl) rfl rfl rfl ?_
        refine ev_s rfl ?_
        refine ev_ia (rd np M L (by omega) rfl) rfl (zin_nI (by omega) (by decide)) ?_
        refine ev_s rfl ?_
        refine ev_gf (rd np M L (by omega) rfl) rfl rfl rfl ?_
        refine ev_s rfl ?_
        refine ev_ia (rd np M L (by omega) rfl) rfl (zin_nI (by omega) (by decide)) ?_
        refine ev_cs (vs := [(.int z), (.int 1), (.int (M 40 i)), (.int (M 43 i))]) (rest := []) (rv := (some (.int (cmn z 1 (M 40 i) (M 43 i))))) rfl rfl rfl rfl rfl (rn_common _) ?_
        show Ev _ _ 97 _ [(.int (cmn z 1 (M 40 i) (M 43 i)))] _ _
        refine ev_if rfl rfl (ev_br (zb_le _ _ _ _) (fun c3 => ?_) (fun c3 => ?_))
        · show Ev _ _ 142 _ _ _ _
          refine ev_inc (y := 1) (v := nI (i + 1)) (ls' := [some (.ref 21), some (.int x), some (.int z), some (.int ((muS M x z i).1)), some (.int ((muS M x z i).2)), some (.int (nI (i + 1)))]) rfl rfl (by decide) (nI_1 _) rfl ?_
          refine ev_s rfl ?_
          have e9 := ih (i + 1) (by omega)
          rw [show muS M x z (i + 1) = muS M x z i from cIf_f (fun h => h.2.2.1 c3) _ _] at e9
          exact e9
        · show Ev _ _ 100 _ _ _ _
          refine ev_s rfl ?_
          refine ev_gf (rd np M L (by omega) rfl) rfl rfl rfl ?_
          refine ev_s rfl ?_
          refine ev_ia (rd np M L (by omega) rfl) rfl (zin_nI (by omega) (by decide)) ?_
          refine ev_s rfl ?_
          refine ev_gf (rd np M L (by omega) rfl) rfl rfl rfl ?_
          refine ev_s rfl ?_
          refine ev_ia (rd np M L (by omega) rfl) rfl (zin_nI (by omega) (by decide)) ?_
          iterate 2 refine ev_s rfl ?_
          refine ev_ic rfl rfl (ev_br (zb_le _ _ _ _) (fun c4 => ?_) (fun c4 => ?_))
          · show Ev _ _ 142 _ _ _ _
            refine ev_inc (y := 1) (v := nI (i + 1)) (ls' := [some (.ref 21), some (.int x), some (.int z), some (.int ((muS M x z i).1)), some (.int ((muS M x z i).2)), some (.int (nI (i + 1)))]) rfl rfl (by decide) (nI_1 _) rfl ?_
            refine ev_s rfl ?_
            have e9 := ih (i + 1) (by omega)
            rw [show muS M x z (i + 1) = muS M x z i from cIf_f (fun h => h.2.2.2 c4) _ _] at e9
            exact e9
          · show Ev _ _ 120 _ _ _ _
            refine ev_s rfl ?_
            refine ev_ik (v := 1) rfl (by decide) ?_
            refine ev_s rfl ?_
            refine ev_s (ls' := [some (.ref 21), some (.int x), some (.int z), some (.int ((nI i) + 1)), some (.int ((muS M x z i).2)), some (.int (nI i))]) rfl ?_
            refine ev_s rfl ?_
            refine ev_gf (rd np M L (by omega) rfl) rfl rfl rfl ?_
            refine ev_s rfl ?_
            refine ev_ia (rd np M L (by omega) rfl) rfl (zin_nI (by omega) (by decide)) ?_
            refine ev_s rfl ?_
            refine ev_gf (rd np M L (by omega) rfl) rfl rfl rfl ?_
            refine ev_s rfl ?_
            refine ev_ia (rd np M L (by omega) rfl) rfl (zin_nI (by omega) (by decide)) ?_
            refine ev_s rfl ?_
            refine ev_s (ls' := [some (.ref 21), some (.int x), some (.int z), some (.int ((nI i) + 1)), some (.int ((M 39 i) + (M 42 i))), some (.int (nI i))]) rfl ?_
            refine ev_inc (y := 1) (v := nI (i + 1)) (ls' := [some (.ref 21), some (.int x), some (.int z), some (.int ((nI i) + 1)), some (.int ((M 39 i) + (M 42 i))), some (.int (nI (i + 1)))]) rfl rfl (by decide) (nI_1 _) rfl ?_
            refine ev_s rfl ?_
            have e9 := ih (i + 1) (by omega)
            rw [show muS M x z (i + 1) = (nI i + 1, M 39 i + M 42 i) from cIf_t ⟨c1, c2, c3, c4⟩ _ _] at e9
            exact e9
set_option maxHeartbeats 4000000 in
theorem rn_mabove {np : Nat} {M : Nat → Nat → Int32} {L : Nat → Int64} {x z : Int32} (d : Nat) : Rn (d + 1) mX6_above [(.ref 21), (.int x), (.int z)] (mk np M L) (some (.int (cIf (inG M x z) (muS M x z 6).1 (-102)))) (mk np M L) := by
  unfold Rn
  refine ev_s rfl ?_
  refine ev_ik (v := 0) rfl (by decide) ?_
  refine ev_s rfl ?_
  refine ev_gf (rd np M L (by omega) rfl) rfl rfl rfl ?_
  refine ev_ik (v := 1) rfl (by decide) ?_
  refine ev_s rfl ?_
  refine ev_cs (vs := [(.int x), (.int 0), (.int ((M 21 0) - 1))]) (rest := []) (rv := (some (.int (zi (mW x 0 ((M 21 0) - 1)))))) rfl rfl rfl rfl rfl (rn_within _) ?_
  show Ev _ _ 11 _ [(.int (zi (mW x 0 ((M 21 0) - 1))))] _ _
  refine ev_if rfl rfl (ev_bze (fun c1 => ?_) (fun c1 => ?_))
  · show Ev _ _ 28 _ _ _ _
    refine ev_bi (v := (-102)) rfl (by decide) ?_
    refine ev_ri rfl rfl ?_ ?_
    · rw [cIf_f (show ¬ inG M x z from fun q => c1 q.1)]
    · rfl
  · show Ev _ _ 14 _ _ _ _
    refine ev_s rfl ?_
    refine ev_ik (v := 0) rfl (by decide) ?_
    refine ev_s rfl ?_
    refine ev_gf (rd np M L (by omega) rfl) rfl rfl rfl ?_
    refine ev_ik (v := 1) rfl (by decide) ?_
    refine ev_s rfl ?_
    refine ev_cs (vs := [(.int z), (.int 0), (.int ((M 21 2) - 1))]) (rest := []) (rv := (some (.int (zi (mW z 0 ((M 21 2) - 1)))))) rfl rfl rfl rfl rfl (rn_within _) ?_
    show Ev _ _ 25 _ [(.int (zi (mW z 0 ((M 21 2) - 1))))] _ _
    refine ev_if rfl rfl (ev_bzn (fun c2 => ?_) (fun c2 => ?_))
    · show Ev _ _ 31 _ _ _ _
      refine ev_ik (v := 0) rfl (by decide) ?_
      refine ev_s (ls' := [some (.ref 21), some (.int x), some (.int z), some (.int 0), none, none]) rfl ?_
      refine ev_ik (v := 0) rfl (by decide) ?_
      refine ev_s (ls' := [some (.ref 21), some (.int x), some (.int z), some (.int 0), some (.int 0), none]) rfl ?_
      refine ev_ik (v := 0) rfl (by decide) ?_
      refine ev_s (ls' := [some (.ref 21), some (.int x), some (.int z), some (.int 0), some (.int 0), some (.int 0)]) rfl ?_
      rw [cIf_t (show inG M x z from ⟨c1, c2⟩)]
      exact lp_mabove d 6 0 (by omega)
    · show Ev _ _ 28 _ _ _ _
      refine ev_bi (v := (-102)) rfl (by decide) ?_
      refine ev_ri rfl rfl ?_ ?_
      · rw [cIf_f (show ¬ inG M x z from fun q => c2 q.2)]
      · rfl
def mfS (M : Nat → Nat → Int32) : Nat → Int32
  | 0 => M 21 0 * M 21 1 * M 21 2
  | i + 1 => mfS M i - (if M 37 i = 0 then 0 else M 41 i * M 42 i * M 43 i)
set_option maxHeartbeats 4000000 in
theorem lp_mfree {np : Nat} {M : Nat → Nat → Int32} {L : Nat → Int64}  (d : Nat) : ∀ k i, i + k = 6 → Ev (d) mX6_free 17 [some (.ref 21), some (.int (mfS M i)), some (.int (nI i))] [] (mk np M L) (Qr mX6_free (some (.int (mfS M 6))) (mk np M L)) := by
  intro k
  induction k with
  | zero =>
    intro i hik 
    obtain rfl : i = 6 := by omega
    refine ev_s rfl ?_
    refine ev_bi (v := 6) rfl (by decide) ?_
    refine ev_ic rfl rfl ?_
    rw [show zbr .ge (nI 6) 6 65 23 = 65 from zge_t (n := 6) (by decide) (by omega) (by decide)]
    refine ev_s rfl ?_
    refine ev_ri rfl rfl ?_ ?_
    · rfl
    · rfl
  | succ k ih =>
    intro i hik 
    have hi : i < 6 := by omega
    refine ev_s rfl ?_
    refine ev_bi (v := 6) rfl (by decide) ?_
    refine ev_ic rfl rfl ?_
    rw [show zbr .ge (nI i) 6 65 23 = 23 from zge_f (n := 6) (by decide) hi (by decide)]
    iterate 2 refine ev_s rfl ?_
    refine ev_gf (rd np M L (by omega) rfl) rfl rfl rfl ?_
    refine ev_s rfl ?_
    refine ev_ba (rd np M L (by omega) rfl) rfl (zin_nI (by omega) (by decide)) ?_
    refine ev_if rfl rfl (ev_br (zb_eq _ _ _ _) (fun c1 => ?_) (fun c1 => ?_))
    · show Ev _ _ 56 _ _ _ _
      refine ev_ik (v := 0) rfl (by decide) ?_
      refine ev_s rfl ?_
      refine ev_s (ls' := [some (.ref 21), some (.int ((mfS M i) - 0)), some (.int (nI i))]) rfl ?_
      refine ev_inc (y := 1) (v := nI (i + 1)) (ls' := [some (.ref 21), some (.int ((mfS M i) - 0)), some (.int (nI (i + 1)))]) rfl rfl (by decide) (nI_1 _) rfl ?_
      refine ev_s rfl ?_
      have e9 := ih (i + 1) (by omega)
      simp only [mfS, if_pos c1] at e9
      exact e9
    · show Ev _ _ 33 _ _ _ _
      refine ev_s rfl ?_
      refine ev_gf (rd np M L (by omega) rfl) rfl rfl rfl ?_
      refine ev_s rfl ?_
      refine ev_ia (rd np M L (by omega) rfl) rfl (zin_nI (by omega) (by decide)) ?_
      refine ev_s rfl ?_
      refine ev_gf (rd np M L (by omega) rfl) rfl rfl rfl ?_
      refine ev_s rfl ?_
      refine ev_ia (rd np M L (by omega) rfl) rfl (zin_nI (by omega) (by decide)) ?_
      iterate 2 refine ev_s rfl ?_
      refine ev_gf (rd np M L (by omega) rfl) rfl rfl rfl ?_
      refine ev_s rfl ?_
      refine ev_ia (rd np M L (by omega) rfl) rfl (zin_nI (by omega) (by decide)) ?_
      iterate 3 refine ev_s rfl ?_
      refine ev_s (ls' := [some (.ref 21), some (.int ((mfS M i) - (((M 41 i) * (M 42 i)) * (M 43 i)))), some (.int (nI i))]) rfl ?_
      refine ev_inc (y := 1) (v := nI (i + 1)) (ls' := [some (.ref 21), some (.int ((mfS M i) - (((M 41 i) * (M 42 i)) * (M 43 i)))), some (.int (nI (i + 1)))]) rfl rfl (by decide) (nI_1 _) rfl ?_
      refine ev_s rfl ?_
      have e9 := ih (i + 1) (by omega)
      simp only [mfS, if_neg c1] at e9
      exact e9
set_option maxHeartbeats 4000000 in
theorem rn_mfree {np : Nat} {M : Nat → Nat → Int32} {L : Nat → Int64}  (d : Nat) : Rn (d) mX6_free [(.ref 21)] (mk np M L) (some (.int (mfS M 6))) (mk np M L) := by
  unfold Rn
  refine ev_s rfl ?_
  refine ev_gf (rd np M L (by omega) rfl) rfl rfl rfl ?_
  refine ev_s rfl ?_
  refine ev_gf (rd np M L (by omega) rfl) rfl rfl rfl ?_
  iterate 2 refine ev_s rfl ?_
  refine ev_gf (rd np M L (by omega) rfl) rfl rfl rfl ?_
  refine ev_s rfl ?_
  refine ev_s (ls' := [some (.ref 21), some (.int (((M 21 0) * (M 21 1)) * (M 21 2))), none]) rfl ?_
  refine ev_ik (v := 0) rfl (by decide) ?_
  refine ev_s (ls' := [some (.ref 21), some (.int (((M 21 0) * (M 21 1)) * (M 21 2))), some (.int 0)]) rfl ?_
  exact lp_mfree d 6 0 (by omega)
noncomputable def mbS (M : Nat → Nat → Int32) : Nat → Int32
  | 0 => 0
  | i + 1 => mbS M i + cIf (mLg M i) 0 (M 22 i * M 23 i * M 24 i)
set_option maxHeartbeats 4000000 in
theorem lp_mbd {np : Nat} {M : Nat → Nat → Int32} {L : Nat → Int64} (hn : np ≤ 6) (hc : M 21 3 = nI np) (d : Nat) : ∀ k i, i + k = np → Ev (d + 2) mX6_bound 4 [some (.ref 21), some (.int (mbS M i)), some (.int (nI i))] [] (mk np M L) (Qr mX6_bound (some (.int (if M 21 0 * M 21 1 * M 21 2 ≤ mbS M np then M 21 0 * M 21 1 * M 21 2 else mbS M np))) (mk np M L)) := by
  intro k
  induction k with
  | zero =>
    intro i hik
    obtain rfl : i = np := by omega
    iterate 2 refine ev_s rfl ?_
    refine ev_gf (rd i M L (by omega) rfl) rfl rfl rfl ?_
    rw [hc]
    refine ev_ic rfl rfl ?_
    rw [show zbr .ge (nI i) (nI i) 53 12 = 53 from zge_t (n := i) rfl (by omega) (by omega)]
    refine ev_s rfl ?_
    refine ev_gf (rd i M L (by omega) rfl) rfl rfl rfl ?_
    refine ev_s rfl ?_
    refine ev_gf (rd i M L (by omega) rfl) rfl rfl rfl ?_
    iterate 2 refine ev_s rfl ?_
    refine ev_gf (rd i M L (by omega) rfl) rfl rfl rfl ?_
    refine ev_s rfl ?_
    refine ev_s (ls' := [some (.ref 21), some (.int (mbS M i)), some (.int (((M 21 0) * (M 21 1)) * (M 21 2)))]) rfl ?_
    iterate 2 refine ev_s rfl ?_
    refine ev_ic rfl rfl (ev_br (zb_ge _ _ _ _) (fun c1 => ?_) (fun c1 => ?_))
    · show Ev _ _ 77 _ _ _ _
      refine ev_s rfl ?_
      refine ev_ri rfl rfl ?_ ?_
      · rw [if_pos c1]
      · rfl
    · show Ev _ _ 73 _ _ _ _
      iterate 2 refine ev_s rfl ?_
      refine ev_ri rfl rfl ?_ ?_
      · rw [if_neg c1]
      · rfl
  | succ k ih =>
    intro i hik
    have hi : i < np := by omega
    iterate 2 refine ev_s rfl ?_
    refine ev_gf (rd np M L (by omega) rfl) rfl rfl rfl ?_
    rw [hc]
    refine ev_ic rfl rfl ?_
    rw [show zbr .ge (nI i) (nI np) 53 12 = 12 from zge_f (n := np) rfl hi (by omega)]
    iterate 3 refine ev_s rfl ?_
    refine ev_cv (vs := [(.ref 21), (.int (nI i))]) (rest := [(.int (mbS M i))]) (rv := (some (.int (zi (mLg M i))))) rfl rfl rfl (rd np M L (by omega) rfl) rfl rfl rfl rfl (rn_mlg (by omega) _) ?_
    show Ev _ _ 18 _ [(.int (zi (mLg M i))), (.int (mbS M i))] _ _
    refine ev_if rfl rfl (ev_bze (fun c1 => ?_) (fun c1 => ?_))
    · show Ev _ _ 25 _ _ _ _
      refine ev_s rfl ?_
      refine ev_gf (rd np M L (by omega) rfl) rfl rfl rfl ?_
      refine ev_s rfl ?_
      refine ev_ia (rd np M L (by omega) rfl) rfl (zin_nI (by omega) (by decide)) ?_
      refine ev_s rfl ?_
      refine ev_gf (rd np M L (by omega) rfl) rfl rfl rfl ?_
      refine ev_s rfl ?_
      refine ev_ia (rd np M L (by omega) rfl) rfl (zin_nI (by omega) (by decide)) ?_
      iterate 2 refine ev_s rfl ?_
      refine ev_gf (rd np M L (by omega) rfl) rfl rfl rfl ?_
      refine ev_s rfl ?_
      refine ev_ia (rd np M L (by omega) rfl) rfl (zin_nI (by omega) (by decide)) ?_
      iterate 2 refine ev_s rfl ?_
      refine ev_s (ls' := [some (.ref 21), some (.int ((mbS M i) + (((M 22 i) * (M 23 i)) * (M 24 i)))), some (.int (nI i))]) rfl ?_
      refine ev_inc (y := 1) (v := nI (i + 1)) (ls' := [some (.ref 21), some (.int ((mbS M i) + (((M 22 i) * (M 23 i)) * (M 24 i)))), some (.int (nI (i + 1)))]) rfl rfl (by decide) (nI_1 _) rfl ?_
      refine ev_s rfl ?_
      have e9 := ih (i + 1) (by omega)
      rw [show mbS M (i + 1) = mbS M i + (M 22 i * M 23 i * M 24 i) from congrArg (fun q => mbS M i + q) (cIf_f c1 _ _)] at e9
      exact e9
    · show Ev _ _ 21 _ _ _ _
      refine ev_ik (v := 0) rfl (by decide) ?_
      iterate 2 refine ev_s rfl ?_
      refine ev_s (ls' := [some (.ref 21), some (.int ((mbS M i) + 0)), some (.int (nI i))]) rfl ?_
      refine ev_inc (y := 1) (v := nI (i + 1)) (ls' := [some (.ref 21), some (.int ((mbS M i) + 0)), some (.int (nI (i + 1)))]) rfl rfl (by decide) (nI_1 _) rfl ?_
      refine ev_s rfl ?_
      have e9 := ih (i + 1) (by omega)
      rw [show mbS M (i + 1) = mbS M i + 0 from congrArg (fun q => mbS M i + q) (cIf_t c1 _ _)] at e9
      exact e9
set_option maxHeartbeats 4000000 in
theorem rn_mbound {np : Nat} {M : Nat → Nat → Int32} {L : Nat → Int64} (hn : np ≤ 6) (hc : M 21 3 = nI np) (d : Nat) : Rn (d + 2) mX6_bound [(.ref 21)] (mk np M L) (some (.int (if M 21 0 * M 21 1 * M 21 2 ≤ mbS M np then M 21 0 * M 21 1 * M 21 2 else mbS M np))) (mk np M L) := by
  unfold Rn
  refine ev_ik (v := 0) rfl (by decide) ?_
  refine ev_s (ls' := [some (.ref 21), some (.int 0), none]) rfl ?_
  refine ev_ik (v := 0) rfl (by decide) ?_
  refine ev_s (ls' := [some (.ref 21), some (.int 0), some (.int 0)]) rfl ?_
  exact lp_mbd hn hc d np 0 (by omega)
end
section
/-! ===== LoadSpaceModel: isClear, unload, piece, fits ===== -/
theorem ev_cut {d mi pc pc2 : Nat} {ls ls2 : zLs} {st st2 : List Value} {hp hp2 : zHp} {Q : zCf → Prop} (K : Ev d mi pc2 ls2 st2 hp2 Q) (h : Ev d mi pc2 ls2 st2 hp2 Q → Ev d mi pc ls st hp Q) : Ev d mi pc ls st hp Q := h K

def ovX (M : Nat → Nat → Int32) (p q : Nat) : Prop := ¬ cmn (M 38 p) (M 41 p) (M 38 q) (M 41 q) ≤ 0
def ovY (M : Nat → Nat → Int32) (p q : Nat) : Prop := ¬ cmn (M 39 p) (M 42 p) (M 39 q) (M 42 q) ≤ 0
def ovZ (M : Nat → Nat → Int32) (p q : Nat) : Prop := ¬ cmn (M 40 p) (M 43 p) (M 40 q) (M 43 q) ≤ 0
def mBad (M : Nat → Nat → Int32) (p q : Nat) : Prop := ¬ nI q = nI p ∧ ¬ M 37 q = 0 ∧ (ovX M p q ∧ ovZ M p q ∧ M 39 p + M 42 p ≤ M 39 q ∨ ovX M p q ∧ ovY M p q ∧ M 40 p + M 43 p ≤ M 40 q)
def mCl (M : Nat → Nat → Int32) (p : Nat) : Prop := ∀ q, q < 6 → ¬ mBad M p q
set_option maxHeartbeats 4000000 in
theorem lp_mclear {np : Nat} {M : Nat → Nat → Int32} {L : Nat → Int64} {p : Nat} (hp : p < 6) (d : Nat) : ∀ k i, i + k = 6 → ∀ v4 : Option Value, ∀ v5 : Option Value, ∀ v6 : Option Value, Ev (d + 1) mX6_isClear 4 [some (.ref 21), some (.int (nI p)), some (.int (zi (∀ q, q < i → ¬ mBad M p q))), some (.int (nI i)), v4, v5, v6] [] (mk np M L) (Qr mX6_isClear (some (.int (zi (mCl M p)))) (mk np M L)) := by
  intro k
  induction k with
  | zero =>
    intro i hik v4 v5 v6
    obtain rfl : i = 6 := by omega
    refine ev_s rfl ?_
    refine ev_bi (v := 6) rfl (by decide) ?_
    refine ev_ic rfl rfl ?_
    rw [show zbr .ge (nI 6) 6 215 10 = 215 from zge_t (n := 6) (by decide) (by omega) (by decide)]
    refine ev_s rfl ?_
    refine ev_rz rfl rfl (zi_01 _) ?_ ?_
    · rfl
    · rfl
  | succ k ih =>
    intro i hik v4 v5 v6
    have hi : i < 6 := by omega
    refine ev_s rfl ?_
    refine ev_bi (v := 6) rfl (by decide) ?_
    refine ev_ic rfl rfl ?_
    rw [show zbr .ge (nI i) 6 215 10 = 10 from zge_f (n := 6) (by decide) hi (by decide)]
    iterate 2 refine ev_s rfl ?_
    refine ev_ic rfl rfl (ev_br (zb_eq _ _ _ _) (fun c1 => ?_) (fun c1 => ?_))
    · show Ev _ _ 209 _ _ _ _
      refine ev_inc (y := 1) (v := nI (i + 1)) (ls' := [some (.ref 21), some (.int (nI p)), some (.int (zi (∀ q, q < i → ¬ mBad M p q))), some (.int (nI (i + 1))), v4, v5, v6]) rfl rfl (by decide) (nI_1 _) rfl ?_
      refine ev_s rfl ?_
      have e9 := ih (i + 1) (by omega) (v4) (v5) (v6)
      rw [show (∀ q, q < i + 1 → ¬ mBad M p q) = (∀ q, q < i → ¬ mBad M p q) from propext ⟨fun hA q hq => hA q (by omega), fun hA => (show ∀ q, q < i + 1 → ¬ mBad M p q from fun q hq hb => by
        rcases Nat.lt_or_ge q i with z | z
        · exact hA q z hb
        · obtain rfl : q = i := by omega
          exact hb.1 c1)⟩] at e9
      exact e9
    · show Ev _ _ 15 _ _ _ _
      refine ev_s rfl ?_
      refine ev_gf (rd np M L (by omega) rfl) rfl rfl rfl ?_
      refine ev_s rfl ?_
      refine ev_ba (rd np M L (by omega) rfl) rfl (zin_nI (by omega) (by decide)) ?_
      refine ev_if rfl rfl (ev_br (zb_eq _ _ _ _) (fun c2 => ?_) (fun c2 => ?_))
      · show Ev _ _ 209 _ _ _ _
        refine ev_inc (y := 1) (v := nI (i + 1)) (ls' := [some (.ref 21), some (.int (nI p)), some (.int (zi (∀ q, q < i → ¬ mBad M p q))), some (.int (nI (i + 1))), v4, v5, v6]) rfl rfl (by decide) (nI_1 _) rfl ?_
        refine ev_s rfl ?_
        have e9 := ih (i + 1) (by omega) (v4) (v5) (v6)
        rw [show (∀ q, q < i + 1 → ¬ mBad M p q) = (∀ q, q < i → ¬ mBad M p q) from propext ⟨fun hA q hq => hA q (by omega), fun hA => (show ∀ q, q < i + 1 → ¬ mBad M p q from fun q hq hb => by
          rcases Nat.lt_or_ge q i with z | z
          · exact hA q z hb
          · obtain rfl : q = i := by omega
            exact hb.2.1 c2)⟩] at e9
        exact e9
      · show Ev _ _ 24 _ _ _ _
        refine ev_s rfl ?_
        refine ev_gf (rd np M L (by omega) rfl) rfl rfl rfl ?_
        refine ev_s rfl ?_
        refine ev_ia (rd np M L (by omega) rfl) rfl (zin_nI (by omega) (by decide)) ?_
        refine ev_s rfl ?_
        refine ev_gf (rd np M L (by omega) rfl) rfl rfl rfl ?_
        refine ev_s rfl ?_
        refine ev_ia (rd np M L (by omega) rfl) rfl (zin_nI (by omega) (by decide)) ?_
        refine ev_s rfl ?_
        refine ev_gf (rd np M L (by omega) rfl) rfl rfl rfl ?_
        refine ev_s rfl ?_
        refine ev_ia (rd np M L (by omega) rfl) rfl (zin_nI (by omega) (by decide)) ?_
        refine ev_s rfl ?_
        refine ev_gf (rd np M L (by omega) rfl) rfl rfl rfl ?_
        refine ev_s rfl ?_
        refine ev_ia (rd np M L (by omega) rfl) rfl (zin_nI (by omega) (by decide)) ?_
        refine ev_cs (vs := [(.int (M 38 p)), (.int (M 41 p)), (.int (M 38 i)), (.int (M 41 i))]) (rest := []) (rv := (some (.int (cmn (M 38 p) (M 41 p) (M 38 i) (M 41 i))))) rfl rfl rfl rfl rfl (rn_common _) ?_
        show Ev _ _ 51 _ [(.int (cmn (M 38 p) (M 41 p) (M 38 i) (M 41 i)))] _ _
        refine ev_cut (pc2 := 59) (ls2 := [some (.ref 21), some (.int (nI p)), some (.int (zi (∀ q, q < i → ¬ mBad M p q))), some (.int (nI i)), v4, v5, v6]) (st2 := [(.int (zi (ovX M p i)))]) (hp2 := (mk np M L)) ?_ (fun hK1 => ?_)
        · show Ev _ _ 59 _ _ _ _
          refine ev_s (ls' := [some (.ref 21), some (.int (nI p)), some (.int (zi (∀ q, q < i → ¬ mBad M p q))), some (.int (nI i)), some (.int (zi (ovX M p i))), v5, v6]) rfl ?_
          refine ev_s rfl ?_
          refine ev_gf (rd np M L (by omega) rfl) rfl rfl rfl ?_
          refine ev_s rfl ?_
          refine ev_ia (rd np M L (by omega) rfl) rfl (zin_nI (by omega) (by decide)) ?_
          refine ev_s rfl ?_
          refine ev_gf (rd np M L (by omega) rfl) rfl rfl rfl ?_
          refine ev_s rfl ?_
          refine ev_ia (rd np M L (by omega) rfl) rfl (zin_nI (by omega) (by decide)) ?_
          refine ev_s rfl ?_
          refine ev_gf (rd np M L (by omega) rfl) rfl rfl rfl ?_
          refine ev_s rfl ?_
          refine ev_ia (rd np M L (by omega) rfl) rfl (zin_nI (by omega) (by decide)) ?_
          refine ev_s rfl ?_
          refine ev_gf (rd np M L (by omega) rfl) rfl rfl rfl ?_
          refine ev_s rfl ?_
          refine ev_ia (rd np M L (by omega) rfl) rfl (zin_nI (by omega) (by decide)) ?_
          refine ev_cs (vs := [(.int (M 39 p)), (.int (M 42 p)), (.int (M 39 i)), (.int (M 42 i))]) (rest := []) (rv := (some (.int (cmn (M 39 p) (M 42 p) (M 39 i) (M 42 i))))) rfl rfl rfl rfl rfl (rn_common _) ?_
          show Ev _ _ 88 _ [(.int (cmn (M 39 p) (M 42 p) (M 39 i) (M 42 i)))] _ _
          refine ev_cut (pc2 := 96) (ls2 := [some (.ref 21), some (.int (nI p)), some (.int (zi (∀ q, q < i → ¬ mBad M p q))), some (.int (nI i)), some (.int (zi (ovX M p i))), v5, v6]) (st2 := [(.int (zi (ovY M p i)))]) (hp2 := (mk np M L)) ?_ (fun hK2 => ?_)
          · show Ev _ _ 96 _ _ _ _
            refine ev_s (ls' := [some (.ref 21), some (.int (nI p)), some (.int (zi (∀ q, q < i → ¬ mBad M p q))), some (.int (nI i)), some (.int (zi (ovX M p i))), some (.int (zi (ovY M p i))), v6]) rfl ?_
            refine ev_s rfl ?_
            refine ev_gf (rd np M L (by omega) rfl) rfl rfl rfl ?_
            refine ev_s rfl ?_
            refine ev_ia (rd np M L (by omega) rfl) rfl (zin_nI (by omega) (by decide)) ?_
            refine ev_s rfl ?_
            refine ev_gf (rd np M L (by omega) rfl) rfl rfl rfl ?_
            refine ev_s rfl ?_
            refine ev_ia (rd np M L (by omega) rfl) rfl (zin_nI (by omega) (by decide)) ?_
            refine ev_s rfl ?_
            refine ev_gf (rd np M L (by omega) rfl) rfl rfl rfl ?_
            refine ev_s rfl ?_
            refine ev_ia (rd np M L (by omega) rfl) rfl (zin_nI (by omega) (by decide)) ?_
            refine ev_s rfl ?_
            refine ev_gf (rd np M L (by omega) rfl) rfl rfl rfl ?_
            refine ev_s rfl ?_
            refine ev_ia (rd np M L (by omega) rfl) rfl (zin_nI (by omega) (by decide)) ?_
            refine ev_cs (vs := [(.int (M 40 p)), (.int (M 43 p)), (.int (M 40 i)), (.int (M 43 i))]) (rest := []) (rv := (some (.int (cmn (M 40 p) (M 43 p) (M 40 i) (M 43 i))))) rfl rfl rfl rfl rfl (rn_common _) ?_
            show Ev _ _ 125 _ [(.int (cmn (M 40 p) (M 43 p) (M 40 i) (M 43 i)))] _ _
            refine ev_cut (pc2 := 133) (ls2 := [some (.ref 21), some (.int (nI p)), some (.int (zi (∀ q, q < i → ¬ mBad M p q))), some (.int (nI i)), some (.int (zi (ovX M p i))), some (.int (zi (ovY M p i))), v6]) (st2 := [(.int (zi (ovZ M p i)))]) (hp2 := (mk np M L)) ?_ (fun hK3 => ?_)
            · show Ev _ _ 133 _ _ _ _
              refine ev_s (ls' := [some (.ref 21), some (.int (nI p)), some (.int (zi (∀ q, q < i → ¬ mBad M p q))), some (.int (nI i)), some (.int (zi (ovX M p i))), some (.int (zi (ovY M p i))), some (.int (zi (ovZ M p i)))]) rfl ?_
              refine ev_s rfl ?_
              refine ev_cut (pc2 := 208) (ls2 := [some (.ref 21), some (.int (nI p)), some (.int (zi (∀ q, q < i → ¬ mBad M p q))), some (.int (nI i)), some (.int (zi (ovX M p i))), some (.int (zi (ovY M p i))), some (.int (zi (ovZ M p i)))]) (st2 := [(.int (zi ((∀ q, q < i → ¬ mBad M p q) ∧ ¬ mBad M p i)))]) (hp2 := (mk np M L)) ?_ (fun hK4 => ?_)
              · show Ev _ _ 208 _ _ _ _
                refine ev_s (ls' := [some (.ref 21), some (.int (nI p)), some (.int (zi ((∀ q, q < i → ¬ mBad M p q) ∧ ¬ mBad M p i))), some (.int (nI i)), some (.int (zi (ovX M p i))), some (.int (zi (ovY M p i))), some (.int (zi (ovZ M p i)))]) rfl ?_
                refine ev_inc (y := 1) (v := nI (i + 1)) (ls' := [some (.ref 21), some (.int (nI p)), some (.int (zi ((∀ q, q < i → ¬ mBad M p q) ∧ ¬ mBad M p i))), some (.int (nI (i + 1))), some (.int (zi (ovX M p i))), some (.int (zi (ovY M p i))), some (.int (zi (ovZ M p i)))]) rfl rfl (by decide) (nI_1 _) rfl ?_
                refine ev_s rfl ?_
                have e9 := ih (i + 1) (by omega) (some (.int (zi (ovX M p i)))) (some (.int (zi (ovY M p i)))) (some (.int (zi (ovZ M p i))))
                rw [show (∀ q, q < i + 1 → ¬ mBad M p q) = ((∀ q, q < i → ¬ mBad M p q) ∧ ¬ mBad M p i) from propext ⟨fun hA => ⟨fun q hq => hA q (by omega), hA i (by omega)⟩, fun hA2 => by
                  obtain ⟨hA, hB⟩ := hA2
                  exact (show ∀ q, q < i + 1 → ¬ mBad M p q from fun q hq hb => by
                  rcases Nat.lt_or_ge q i with z | z
                  · exact hA q z hb
                  · obtain rfl : q = i := by omega
                    exact hB hb)⟩] at e9
                exact e9
              · show Ev _ _ 136 _ _ _ _
                refine ev_if rfl rfl (ev_bze (fun c3 => ?_) (fun c3 => ?_))
                · show Ev _ _ 207 _ _ _ _
                  refine ev_ik (v := 0) rfl (by decide) ?_
                  rw [zi_f (show ¬ ((∀ q, q < i → ¬ mBad M p q) ∧ ¬ mBad M p i) from (by first | exact fun h => absurd h.1 (by assumption) | simp_all [mBad]))] at hK4
                  exact hK4
                · show Ev _ _ 139 _ _ _ _
                  refine ev_s rfl ?_
                  refine ev_if rfl rfl (ev_bze (fun c4 => ?_) (fun c4 => ?_))
                  · show Ev _ _ 171 _ _ _ _
                    refine ev_s rfl ?_
                    refine ev_if rfl rfl (ev_bze (fun c5 => ?_) (fun c5 => ?_))
                    · show Ev _ _ 203 _ _ _ _
                      refine ev_ik (v := 1) rfl (by decide) ?_
                      refine ev_s rfl ?_
                      rw [zi_t (show (∀ q, q < i → ¬ mBad M p q) ∧ ¬ mBad M p i from (by first | exact fun h => absurd h.1 (by assumption) | simp_all [mBad]))] at hK4
                      exact hK4
                    · show Ev _ _ 176 _ _ _ _
                      refine ev_s rfl ?_
                      refine ev_if rfl rfl (ev_bze (fun c6 => ?_) (fun c6 => ?_))
                      · show Ev _ _ 203 _ _ _ _
                        refine ev_ik (v := 1) rfl (by decide) ?_
                        refine ev_s rfl ?_
                        rw [zi_t (show (∀ q, q < i → ¬ mBad M p q) ∧ ¬ mBad M p i from (by first | exact fun h => absurd h.1 (by assumption) | simp_all [mBad]))] at hK4
                        exact hK4
                      · show Ev _ _ 181 _ _ _ _
                        refine ev_s rfl ?_
                        refine ev_gf (rd np M L (by omega) rfl) rfl rfl rfl ?_
                        refine ev_s rfl ?_
                        refine ev_ia (rd np M L (by omega) rfl) rfl (zin_nI (by omega) (by decide)) ?_
                        refine ev_s rfl ?_
                        refine ev_gf (rd np M L (by omega) rfl) rfl rfl rfl ?_
                        refine ev_s rfl ?_
                        refine ev_ia (rd np M L (by omega) rfl) rfl (zin_nI (by omega) (by decide)) ?_
                        refine ev_s rfl ?_
                        refine ev_gf (rd np M L (by omega) rfl) rfl rfl rfl ?_
                        refine ev_s rfl ?_
                        refine ev_ia (rd np M L (by omega) rfl) rfl (zin_nI (by omega) (by decide)) ?_
                        refine ev_s rfl ?_
                        refine ev_ic rfl rfl (ev_br (zb_ge _ _ _ _) (fun c7 => ?_) (fun c7 => ?_))
                        · show Ev _ _ 207 _ _ _ _
                          refine ev_ik (v := 0) rfl (by decide) ?_
                          rw [zi_f (show ¬ ((∀ q, q < i → ¬ mBad M p q) ∧ ¬ mBad M p i) from (by first | exact fun h => absurd h.1 (by assumption) | simp_all [mBad]))] at hK4
                          exact hK4
                        · show Ev _ _ 203 _ _ _ _
                          refine ev_ik (v := 1) rfl (by decide) ?_
                          refine ev_s rfl ?_
                          rw [zi_t (show (∀ q, q < i → ¬ mBad M p q) ∧ ¬ mBad M p i from (by first | exact fun h => absurd h.1 (by assumption) | simp_all [mBad]))] at hK4
                          exact hK4
                  · show Ev _ _ 144 _ _ _ _
                    refine ev_s rfl ?_
                    refine ev_if rfl rfl (ev_bze (fun c8 => ?_) (fun c8 => ?_))
                    · show Ev _ _ 171 _ _ _ _
                      refine ev_s rfl ?_
                      refine ev_if rfl rfl (ev_bze (fun c9 => ?_) (fun c9 => ?_))
                      · show Ev _ _ 203 _ _ _ _
                        refine ev_ik (v := 1) rfl (by decide) ?_
                        refine ev_s rfl ?_
                        rw [zi_t (show (∀ q, q < i → ¬ mBad M p q) ∧ ¬ mBad M p i from (by first | exact fun h => absurd h.1 (by assumption) | simp_all [mBad]))] at hK4
                        exact hK4
                      · show Ev _ _ 176 _ _ _ _
                        refine ev_s rfl ?_
                        refine ev_if rfl rfl (ev_bze (fun c10 => ?_) (fun c10 => ?_))
                        · show Ev _ _ 203 _ _ _ _
                          refine ev_ik (v := 1) rfl (by decide) ?_
                          refine ev_s rfl ?_
                          rw [zi_t (show (∀ q, q < i → ¬ mBad M p q) ∧ ¬ mBad M p i from (by first | exact fun h => absurd h.1 (by assumption) | simp_all [mBad]))] at hK4
                          exact hK4
                        · show Ev _ _ 181 _ _ _ _
                          refine ev_s rfl ?_
                          refine ev_gf (rd np M L (by omega) rfl) rfl rfl rfl ?_
                          refine ev_s rfl ?_
                          refine ev_ia (rd np M L (by omega) rfl) rfl (zin_nI (by omega) (by decide)) ?_
                          refine ev_s rfl ?_
                          refine ev_gf (rd np M L (by omega) rfl) rfl rfl rfl ?_
                          refine ev_s rfl ?_
                          refine ev_ia (rd np M L (by omega) rfl) rfl (zin_nI (by omega) (by decide)) ?_
                          refine ev_s rfl ?_
                          refine ev_gf (rd np M L (by omega) rfl) rfl rfl rfl ?_
                          refine ev_s rfl ?_
                          refine ev_ia (rd np M L (by omega) rfl) rfl (zin_nI (by omega) (by decide)) ?_
                          refine ev_s rfl ?_
                          refine ev_ic rfl rfl (ev_br (zb_ge _ _ _ _) (fun c11 => ?_) (fun c11 => ?_))
                          · show Ev _ _ 207 _ _ _ _
                            refine ev_ik (v := 0) rfl (by decide) ?_
                            rw [zi_f (show ¬ ((∀ q, q < i → ¬ mBad M p q) ∧ ¬ mBad M p i) from (by first | exact fun h => absurd h.1 (by assumption) | simp_all [mBad]))] at hK4
                            exact hK4
                          · show Ev _ _ 203 _ _ _ _
                            refine ev_ik (v := 1) rfl (by decide) ?_
                            refine ev_s rfl ?_
                            rw [zi_t (show (∀ q, q < i → ¬ mBad M p q) ∧ ¬ mBad M p i from (by first | exact fun h => absurd h.1 (by assumption) | simp_all [mBad]))] at hK4
                            exact hK4
                    · show Ev _ _ 149 _ _ _ _
                      refine ev_s rfl ?_
                      refine ev_gf (rd np M L (by omega) rfl) rfl rfl rfl ?_
                      refine ev_s rfl ?_
                      refine ev_ia (rd np M L (by omega) rfl) rfl (zin_nI (by omega) (by decide)) ?_
                      refine ev_s rfl ?_
                      refine ev_gf (rd np M L (by omega) rfl) rfl rfl rfl ?_
                      refine ev_s rfl ?_
                      refine ev_ia (rd np M L (by omega) rfl) rfl (zin_nI (by omega) (by decide)) ?_
                      refine ev_s rfl ?_
                      refine ev_gf (rd np M L (by omega) rfl) rfl rfl rfl ?_
                      refine ev_s rfl ?_
                      refine ev_ia (rd np M L (by omega) rfl) rfl (zin_nI (by omega) (by decide)) ?_
                      refine ev_s rfl ?_
                      refine ev_ic rfl rfl (ev_br (zb_ge _ _ _ _) (fun c12 => ?_) (fun c12 => ?_))
                      · show Ev _ _ 207 _ _ _ _
                        refine ev_ik (v := 0) rfl (by decide) ?_
                        rw [zi_f (show ¬ ((∀ q, q < i → ¬ mBad M p q) ∧ ¬ mBad M p i) from (by first | exact fun h => absurd h.1 (by assumption) | simp_all [mBad]))] at hK4
                        exact hK4
                      · show Ev _ _ 171 _ _ _ _
                        refine ev_s rfl ?_
                        refine ev_if rfl rfl (ev_bze (fun c13 => ?_) (fun c13 => ?_))
                        · show Ev _ _ 203 _ _ _ _
                          refine ev_ik (v := 1) rfl (by decide) ?_
                          refine ev_s rfl ?_
                          rw [zi_t (show (∀ q, q < i → ¬ mBad M p q) ∧ ¬ mBad M p i from (by first | exact fun h => absurd h.1 (by assumption) | simp_all [mBad]))] at hK4
                          exact hK4
                        · show Ev _ _ 176 _ _ _ _
                          refine ev_s rfl ?_
                          refine ev_if rfl rfl (ev_bze (fun c14 => ?_) (fun c14 => ?_))
                          · show Ev _ _ 203 _ _ _ _
                            refine ev_ik (v := 1) rfl (by decide) ?_
                            refine ev_s rfl ?_
                            rw [zi_t (show (∀ q, q < i → ¬ mBad M p q) ∧ ¬ mBad M p i from (by first | exact fun h => absurd h.1 (by assumption) | simp_all [mBad]))] at hK4
                            exact hK4
                          · show Ev _ _ 181 _ _ _ _
                            refine ev_s rfl ?_
                            refine ev_gf (rd np M L (by omega) rfl) rfl rfl rfl ?_
                            refine ev_s rfl ?_
                            refine ev_ia (rd np M L (by omega) rfl) rfl (zin_nI (by omega) (by decide)) ?_
                            refine ev_s rfl ?_
                            refine ev_gf (rd np M L (by omega) rfl) rfl rfl rfl ?_
                            refine ev_s rfl ?_
                            refine ev_ia (rd np M L (by omega) rfl) rfl (zin_nI (by omega) (by decide)) ?_
                            refine ev_s rfl ?_
                            refine ev_gf (rd np M L (by omega) rfl) rfl rfl rfl ?_
                            refine ev_s rfl ?_
                            refine ev_ia (rd np M L (by omega) rfl) rfl (zin_nI (by omega) (by decide)) ?_
                            refine ev_s rfl ?_
                            refine ev_ic rfl rfl (ev_br (zb_ge _ _ _ _) (fun c15 => ?_) (fun c15 => ?_))
                            · show Ev _ _ 207 _ _ _ _
                              refine ev_ik (v := 0) rfl (by decide) ?_
                              rw [zi_f (show ¬ ((∀ q, q < i → ¬ mBad M p q) ∧ ¬ mBad M p i) from (by first | exact fun h => absurd h.1 (by assumption) | simp_all [mBad]))] at hK4
                              exact hK4
                            · show Ev _ _ 203 _ _ _ _
                              refine ev_ik (v := 1) rfl (by decide) ?_
                              refine ev_s rfl ?_
                              rw [zi_t (show (∀ q, q < i → ¬ mBad M p q) ∧ ¬ mBad M p i from (by first | exact fun h => absurd h.1 (by assumption) | simp_all [mBad]))] at hK4
                              exact hK4
            · show Ev _ _ 125 _ _ _ _
              refine ev_if rfl rfl (ev_br (zb_le _ _ _ _) (fun c16 => ?_) (fun c16 => ?_))
              · show Ev _ _ 132 _ _ _ _
                refine ev_ik (v := 0) rfl (by decide) ?_
                rw [zi_f (show ¬ (ovZ M p i) from (by first | assumption | (intro h; exact h (by assumption))))] at hK3
                exact hK3
              · show Ev _ _ 128 _ _ _ _
                refine ev_ik (v := 1) rfl (by decide) ?_
                refine ev_s rfl ?_
                rw [zi_t (show ovZ M p i from (by first | assumption | (intro h; exact h (by assumption))))] at hK3
                exact hK3
          · show Ev _ _ 88 _ _ _ _
            refine ev_if rfl rfl (ev_br (zb_le _ _ _ _) (fun c17 => ?_) (fun c17 => ?_))
            · show Ev _ _ 95 _ _ _ _
              refine ev_ik (v := 0) rfl (by decide) ?_
              rw [zi_f (show ¬ (ovY M p i) from (by first | assumption | (intro h; exact h (by assumption))))] at hK2
              exact hK2
            · show Ev _ _ 91 _ _ _ _
              refine ev_ik (v := 1) rfl (by decide) ?_
              refine ev_s rfl ?_
              rw [zi_t (show ovY M p i from (by first | assumption | (intro h; exact h (by assumption))))] at hK2
              exact hK2
        · show Ev _ _ 51 _ _ _ _
          refine ev_if rfl rfl (ev_br (zb_le _ _ _ _) (fun c18 => ?_) (fun c18 => ?_))
          · show Ev _ _ 58 _ _ _ _
            refine ev_ik (v := 0) rfl (by decide) ?_
            rw [zi_f (show ¬ (ovX M p i) from (by first | assumption | (intro h; exact h (by assumption))))] at hK1
            exact hK1
          · show Ev _ _ 54 _ _ _ _
            refine ev_ik (v := 1) rfl (by decide) ?_
            refine ev_s rfl ?_
            rw [zi_t (show ovX M p i from (by first | assumption | (intro h; exact h (by assumption))))] at hK1
            exact hK1
set_option maxHeartbeats 4000000 in
theorem rn_mclear {np : Nat} {M : Nat → Nat → Int32} {L : Nat → Int64} {p : Nat} (hp : p < 6) (d : Nat) : Rn (d + 1) mX6_isClear [(.ref 21), (.int (nI p))] (mk np M L) (some (.int (zi (mCl M p)))) (mk np M L) := by
  unfold Rn
  refine ev_ik (v := 1) rfl (by decide) ?_
  refine ev_s (ls' := [some (.ref 21), some (.int (nI p)), some (.int 1), none, none, none, none]) rfl ?_
  refine ev_ik (v := 0) rfl (by decide) ?_
  refine ev_s (ls' := [some (.ref 21), some (.int (nI p)), some (.int 1), some (.int 0), none, none, none]) rfl ?_
  have e9 := lp_mclear (np := np) (M := M) (L := L) hp d 6 0 (by omega) none none none
  rw [zi_t (show ∀ q, q < 0 → ¬ mBad M p q from fun q h => absurd h (by omega))] at e9
  exact e9
/-- a round: how many so far, whether one was taken in it, the numbers -/
noncomputable def mrS (s : Int32) (c : Int32) (M : Nat → Nat → Int32) : Nat → Int32 × Int32 × (Nat → Nat → Int32)
  | 0 => (c, 0, M)
  | i + 1 => cIf (¬ (mrS s c M i).2.2 37 i = 0 ∧ (mrS s c M i).2.2 46 i = s ∧ mCl (mrS s c M i).2.2 i) ((mrS s c M i).1 + 1, 1, up2 (mrS s c M i).2.2 37 i 0) (mrS s c M i)
noncomputable def muL (s : Int32) : Nat → Int32 → (Nat → Nat → Int32) → Option (Int32 × (Nat → Nat → Int32))
  | 0, _, _ => none
  | n + 1, c, M => if (mrS s c M 6).2.1 = 0 then some ((mrS s c M 6).1, (mrS s c M 6).2.2) else muL s n (mrS s c M 6).1 (mrS s c M 6).2.2
set_option maxHeartbeats 4000000 in
theorem lp_mr {np : Nat} {M : Nat → Nat → Int32} {L : Nat → Int64} {s c : Int32} {Q : zCf → Prop} (d : Nat) : ∀ k i, i + k = 6 → Ev (d + 2) mX6_unload 17 [some (.ref 21), some (.int s), some (.int (mrS s c M 6).1), some (.int (mrS s c M 6).2.1), some (.int (nI 6))] [] (mk np (mrS s c M 6).2.2 L) Q → Ev (d + 2) mX6_unload 26 [some (.ref 21), some (.int s), some (.int (mrS s c M i).1), some (.int (mrS s c M i).2.1), some (.int (nI i))] [] (mk np (mrS s c M i).2.2 L) Q := by
  intro k
  induction k with
  | zero =>
    intro i hik hK
    obtain rfl : i = 6 := by omega
    refine ev_s rfl ?_
    refine ev_bi (v := 6) rfl (by decide) ?_
    refine ev_ic rfl rfl ?_
    rw [show zbr .ge (nI 6) 6 82 33 = 82 from zge_t (n := 6) (by decide) (by omega) (by decide)]
    refine ev_s rfl ?_
    exact hK
  | succ k ih =>
    intro i hik hK
    have hi : i < 6 := by omega
    refine ev_s rfl ?_
    refine ev_bi (v := 6) rfl (by decide) ?_
    refine ev_ic rfl rfl ?_
    rw [show zbr .ge (nI i) 6 82 33 = 33 from zge_f (n := 6) (by decide) hi (by decide)]
    refine ev_s rfl ?_
    refine ev_gf (rd np ((mrS s c M i).2.2) L (by omega) rfl) rfl rfl rfl ?_
    refine ev_s rfl ?_
    refine ev_ba (rd np ((mrS s c M i).2.2) L (by omega) rfl) rfl (zin_nI (by omega) (by decide)) ?_
    refine ev_if rfl rfl (ev_br (zb_eq _ _ _ _) (fun c1 => ?_) (fun c1 => ?_))
    · show Ev _ _ 76 _ _ _ _
      refine ev_inc (y := 1) (v := nI (i + 1)) (ls' := [some (.ref 21), some (.int s), some (.int ((mrS s c M i).1)), some (.int ((mrS s c M i).2.1)), some (.int (nI (i + 1)))]) rfl rfl (by decide) (nI_1 _) rfl ?_
      refine ev_s rfl ?_
      have e9 := ih (i + 1) (by omega)
      rw [show mrS s c M (i + 1) = mrS s c M i from cIf_f (fun h => h.1 c1) _ _] at e9
      exact e9 hK
    · show Ev _ _ 43 _ _ _ _
      refine ev_s rfl ?_
      refine ev_gf (rd np ((mrS s c M i).2.2) L (by omega) rfl) rfl rfl rfl ?_
      refine ev_s rfl ?_
      refine ev_ia (rd np ((mrS s c M i).2.2) L (by omega) rfl) rfl (zin_nI (by omega) (by decide)) ?_
      refine ev_s rfl ?_
      refine ev_ic rfl rfl (ev_bn (fun c2 => ?_) (fun c2 => ?_))
      · show Ev _ _ 76 _ _ _ _
        refine ev_inc (y := 1) (v := nI (i + 1)) (ls' := [some (.ref 21), some (.int s), some (.int ((mrS s c M i).1)), some (.int ((mrS s c M i).2.1)), some (.int (nI (i + 1)))]) rfl rfl (by decide) (nI_1 _) rfl ?_
        refine ev_s rfl ?_
        have e9 := ih (i + 1) (by omega)
        rw [show mrS s c M (i + 1) = mrS s c M i from cIf_f (fun h => c2 h.2.1) _ _] at e9
        exact e9 hK
      · show Ev _ _ 54 _ _ _ _
        iterate 2 refine ev_s rfl ?_
        refine ev_cv (vs := [(.ref 21), (.int (nI i))]) (rest := []) (rv := (some (.int (zi (mCl (mrS s c M i).2.2 i))))) rfl rfl rfl (rd np ((mrS s c M i).2.2) L (by omega) rfl) rfl rfl rfl rfl (rn_mclear (M := (mrS s c M i).2.2) (by omega) _) ?_
        show Ev _ _ 60 _ [(.int (zi (mCl (mrS s c M i).2.2 i)))] _ _
        refine ev_if rfl rfl (ev_bze (fun c3 => ?_) (fun c3 => ?_))
        · show Ev _ _ 76 _ _ _ _
          refine ev_inc (y := 1) (v := nI (i + 1)) (ls' := [some (.ref 21), some (.int s), some (.int ((mrS s c M i).1)), some (.int ((mrS s c M i).2.1)), some (.int (nI (i + 1)))]) rfl rfl (by decide) (nI_1 _) rfl ?_
          refine ev_s rfl ?_
          have e9 := ih (i + 1) (by omega)
          rw [show mrS s c M (i + 1) = mrS s c M i from cIf_f (fun h => c3 h.2.2) _ _] at e9
          exact e9 hK
        · show Ev _ _ 63 _ _ _ _
          refine ev_s rfl ?_
          refine ev_gf (rd np ((mrS s c M i).2.2) L (by omega) rfl) rfl rfl rfl ?_
          refine ev_s rfl ?_
          refine ev_ik (v := 0) rfl (by decide) ?_
          refine ev_bs (hp' := (mk np (up2 ((mrS s c M i).2.2) 37 i 0) L)) (rd np ((mrS s c M i).2.2) L (by omega) rfl) rfl (zin_nI (by omega) (by decide)) (Or.inl rfl) (mk_setr rfl rfl rfl) ?_
          refine ev_inc (y := 1) (v := ((mrS s c M i).1) + 1) (ls' := [some (.ref 21), some (.int s), some (.int (((mrS s c M i).1) + 1)), some (.int ((mrS s c M i).2.1)), some (.int (nI i))]) rfl rfl (by decide) rfl rfl ?_
          refine ev_ik (v := 1) rfl (by decide) ?_
          refine ev_s (ls' := [some (.ref 21), some (.int s), some (.int (((mrS s c M i).1) + 1)), some (.int 1), some (.int (nI i))]) rfl ?_
          refine ev_inc (y := 1) (v := nI (i + 1)) (ls' := [some (.ref 21), some (.int s), some (.int (((mrS s c M i).1) + 1)), some (.int 1), some (.int (nI (i + 1)))]) rfl rfl (by decide) (nI_1 _) rfl ?_
          refine ev_s rfl ?_
          have e9 := ih (i + 1) (by omega)
          rw [show mrS s c M (i + 1) = ((mrS s c M i).1 + 1, 1, up2 (mrS s c M i).2.2 37 i 0) from cIf_t ⟨c1, c2, c3⟩ _ _] at e9
          exact e9 hK
theorem mrS_b {s c : Int32} {M : Nat → Nat → Int32} : ∀ i, (mrS s c M i).2.1 = 0 ∨ (mrS s c M i).2.1 = 1
  | 0 => Or.inl rfl
  | i + 1 => by
    unfold mrS
    exact cIf_ind (R := fun q : Int32 × Int32 × (Nat → Nat → Int32) => q.2.1 = 0 ∨ q.2.1 = 1) (fun _ => Or.inr rfl) (fun _ => mrS_b i)
theorem mrS_b6 {s c : Int32} {M : Nat → Nat → Int32} (h : ¬ (mrS s c M 6).2.1 = 0) : (mrS s c M 6).2.1 = 1 := (mrS_b 6).resolve_left h
set_option maxHeartbeats 4000000 in
theorem lp_mu {np : Nat} {L : Nat → Int64} {s : Int32} {r : Int32 × (Nat → Nat → Int32)} (d : Nat) : ∀ n c M b v4, b = 1 → muL s n c M = some r → Ev (d + 2) mX6_unload 17 [some (.ref 21), some (.int s), some (.int c), some (.int b), v4] [] (mk np M L) (Qr mX6_unload (some (.int r.1)) (mk np r.2 L)) := by
  intro n
  induction n with
  | zero => intro c M b v4 hb h; cases h
  | succ n ih =>
    intro c M b v4 hb h
    subst hb
    rw [show muL s (n + 1) c M = if (mrS s c M 6).2.1 = 0 then some ((mrS s c M 6).1, (mrS s c M 6).2.2) else muL s n (mrS s c M 6).1 (mrS s c M 6).2.2 from rfl] at h
    refine ev_s rfl ?_
    refine ev_if rfl rfl ?_
    show Ev _ _ 21 _ _ _ _
    refine ev_ik (v := 0) rfl (by decide) ?_
    refine ev_s (ls' := [some (.ref 21), some (.int s), some (.int c), some (.int 0), v4]) rfl ?_
    refine ev_ik (v := 0) rfl (by decide) ?_
    refine ev_s (ls' := [some (.ref 21), some (.int s), some (.int c), some (.int 0), some (.int 0)]) rfl ?_
    refine lp_mr (c := c) (M := M) d 6 0 (by omega) ?_
    by_cases hb : (mrS s c M 6).2.1 = 0
    · rw [if_pos hb] at h
      cases h
      refine ev_s rfl ?_
      refine ev_if rfl rfl ?_
      rw [show zbr .eq ((mrS s c M 6).2.1) 0 85 21 = 85 from if_pos hb]
      refine ev_s rfl ?_
      refine ev_ri rfl rfl ?_ ?_
      · rfl
      · rfl
    · rw [if_neg hb] at h
      exact ih _ _ _ _ (mrS_b6 hb) h
set_option maxHeartbeats 4000000 in
theorem rn_munload_o {np : Nat} {M : Nat → Nat → Int32} {L : Nat → Int64} {s : Int32} (hs : ¬ mW s 0 9) (d : Nat) : Rn (d + 2) mX6_unload [(.ref 21), (.int s)] (mk np M L) (some (.int (-102))) (mk np M L) := by
  unfold Rn
  refine ev_s rfl ?_
  refine ev_ik (v := 0) rfl (by decide) ?_
  refine ev_bi (v := 9) rfl (by decide) ?_
  refine ev_cs (vs := [(.int s), (.int 0), (.int 9)]) (rest := []) (rv := (some (.int 0))) rfl rfl rfl rfl rfl (by have e9 := rn_within (hp := mk np M L) (x := s) (y := 0) (z := 9) (d + 1); rwa [zi_f hs] at e9) ?_
  show Ev _ _ 7 _ [(.int 0)] _ _
  refine ev_if rfl rfl ?_
  show Ev _ _ 10 _ _ _ _
  refine ev_bi (v := (-102)) rfl (by decide) ?_
  refine ev_ri rfl rfl ?_ ?_
  · rfl
  · rfl
set_option maxHeartbeats 4000000 in
theorem rn_munload {np : Nat} {M : Nat → Nat → Int32} {L : Nat → Int64} {s : Int32} {r : Int32 × (Nat → Nat → Int32)} (hs : mW s 0 9) {n : Nat} (hr : muL s n 0 M = some r) (d : Nat) : Rn (d + 2) mX6_unload [(.ref 21), (.int s)] (mk np M L) (some (.int r.1)) (mk np r.2 L) := by
  unfold Rn
  refine ev_s rfl ?_
  refine ev_ik (v := 0) rfl (by decide) ?_
  refine ev_bi (v := 9) rfl (by decide) ?_
  refine ev_cs (vs := [(.int s), (.int 0), (.int 9)]) (rest := []) (rv := (some (.int 1))) rfl rfl rfl rfl rfl (by have e9 := rn_within (hp := mk np M L) (x := s) (y := 0) (z := 9) (d + 1); rwa [zi_t hs] at e9) ?_
  show Ev _ _ 7 _ [(.int 1)] _ _
  refine ev_if rfl rfl ?_
  show Ev _ _ 13 _ _ _ _
  refine ev_ik (v := 0) rfl (by decide) ?_
  refine ev_s (ls' := [some (.ref 21), some (.int s), some (.int 0), none, none]) rfl ?_
  refine ev_ik (v := 1) rfl (by decide) ?_
  refine ev_s (ls' := [some (.ref 21), some (.int s), some (.int 0), some (.int 1), none]) rfl ?_
  exact lp_mu d n 0 M 1 none rfl hr
def okP (w h dd g : Int32) : Prop := mW w 1 12 ∧ mW h 1 12 ∧ mW dd 1 12 ∧ mW g 1 1000
def mpM (M : Nat → Nat → Int32) (k : Nat) (w h dd g : Int32) : Nat → Nat → Int32 := up2 (up2 (up2 (up2 (up2 (up2 (up2 (up2 M 22 k w) 23 k h) 24 k dd) 25 k g) 26 k 0) 27 k (-1)) 28 k 0) 21 3 (nI (k + 1))
set_option maxHeartbeats 4000000 in
theorem rn_mpiece_6 {np : Nat} {M : Nat → Nat → Int32} {L : Nat → Int64} {w h dd g : Int32} (hn : np ≤ 6) (hc : M 21 3 = nI np) (h6 : np = 6) (d : Nat) : Rn (d + 1) mX6_piece [(.ref 21), (.int w), (.int h), (.int dd), (.int g)] (mk np M L) (some (.int (cIf (okP w h dd g) (if np = 6 then -104 else nI (np + 1)) (-102)))) (mk np (cIf (okP w h dd g) (if np = 6 then M else mpM M np w h dd g) M) L) := by
  unfold Rn
  refine ev_s rfl ?_
  refine ev_ik (v := 1) rfl (by decide) ?_
  refine ev_bi (v := 12) rfl (by decide) ?_
  refine ev_cs (vs := [(.int w), (.int 1), (.int 12)]) (rest := []) (rv := (some (.int (zi (mW w 1 12))))) rfl rfl rfl rfl rfl (rn_within _) ?_
  show Ev _ _ 7 _ [(.int (zi (mW w 1 12)))] _ _
  refine ev_if rfl rfl (ev_bze (fun c1 => ?_) (fun c1 => ?_))
  · show Ev _ _ 42 _ _ _ _
    refine ev_bi (v := (-102)) rfl (by decide) ?_
    refine ev_ri rfl rfl ?_ ?_
    · rw [cIf_f (show ¬ okP w h dd g from fun q => c1 q.1)]
    · rw [cIf_f (show ¬ okP w h dd g from fun q => c1 q.1)]
  · show Ev _ _ 10 _ _ _ _
    refine ev_s rfl ?_
    refine ev_ik (v := 1) rfl (by decide) ?_
    refine ev_bi (v := 12) rfl (by decide) ?_
    refine ev_cs (vs := [(.int h), (.int 1), (.int 12)]) (rest := []) (rv := (some (.int (zi (mW h 1 12))))) rfl rfl rfl rfl rfl (rn_within _) ?_
    show Ev _ _ 17 _ [(.int (zi (mW h 1 12)))] _ _
    refine ev_if rfl rfl (ev_bze (fun c2 => ?_) (fun c2 => ?_))
    · show Ev _ _ 42 _ _ _ _
      refine ev_bi (v := (-102)) rfl (by decide) ?_
      refine ev_ri rfl rfl ?_ ?_
      · rw [cIf_f (show ¬ okP w h dd g from fun q => c2 q.2.1)]
      · rw [cIf_f (show ¬ okP w h dd g from fun q => c2 q.2.1)]
    · show Ev _ _ 20 _ _ _ _
      refine ev_s rfl ?_
      refine ev_ik (v := 1) rfl (by decide) ?_
      refine ev_bi (v := 12) rfl (by decide) ?_
      refine ev_cs (vs := [(.int dd), (.int 1), (.int 12)]) (rest := []) (rv := (some (.int (zi (mW dd 1 12))))) rfl rfl rfl rfl rfl (rn_within _) ?_
      show Ev _ _ 27 _ [(.int (zi (mW dd 1 12)))] _ _
      refine ev_if rfl rfl (ev_bze (fun c3 => ?_) (fun c3 => ?_))
      · show Ev _ _ 42 _ _ _ _
        refine ev_bi (v := (-102)) rfl (by decide) ?_
        refine ev_ri rfl rfl ?_ ?_
        · rw [cIf_f (show ¬ okP w h dd g from fun q => c3 q.2.2.1)]
        · rw [cIf_f (show ¬ okP w h dd g from fun q => c3 q.2.2.1)]
      · show Ev _ _ 30 _ _ _ _
        refine ev_s rfl ?_
        refine ev_ik (v := 1) rfl (by decide) ?_
        refine ev_si (v := 1000) rfl (by decide) ?_
        refine ev_cs (vs := [(.int g), (.int 1), (.int 1000)]) (rest := []) (rv := (some (.int (zi (mW g 1 1000))))) rfl rfl rfl rfl rfl (rn_within _) ?_
        show Ev _ _ 39 _ [(.int (zi (mW g 1 1000)))] _ _
        refine ev_if rfl rfl (ev_bzn (fun c4 => ?_) (fun c4 => ?_))
        · show Ev _ _ 45 _ _ _ _
          refine ev_s rfl ?_
          refine ev_gf (rd np M L (by omega) rfl) rfl rfl rfl ?_
          rw [hc]
          refine ev_bi (v := 6) rfl (by decide) ?_
          refine ev_ic rfl rfl ?_
          rw [show zbr .ne (nI np) 6 57 54 = 54 from if_pos (by rw [h6]; rfl)]
          refine ev_bi (v := (-104)) rfl (by decide) ?_
          refine ev_ri rfl rfl ?_ ?_
          · rw [cIf_t (show okP w h dd g from ⟨c1, c2, c3, c4⟩), if_pos h6]
          · rw [cIf_t (show okP w h dd g from ⟨c1, c2, c3, c4⟩), if_pos h6]
        · show Ev _ _ 42 _ _ _ _
          refine ev_bi (v := (-102)) rfl (by decide) ?_
          refine ev_ri rfl rfl ?_ ?_
          · rw [cIf_f (show ¬ okP w h dd g from fun q => c4 q.2.2.2)]
          · rw [cIf_f (show ¬ okP w h dd g from fun q => c4 q.2.2.2)]
set_option maxHeartbeats 4000000 in
theorem rn_mpiece_k {np : Nat} {M : Nat → Nat → Int32} {L : Nat → Int64} {w h dd g : Int32} (hn : np ≤ 6) (hc : M 21 3 = nI np) (h6 : ¬ np = 6) (d : Nat) : Rn (d + 1) mX6_piece [(.ref 21), (.int w), (.int h), (.int dd), (.int g)] (mk np M L) (some (.int (cIf (okP w h dd g) (if np = 6 then -104 else nI (np + 1)) (-102)))) (mk np (cIf (okP w h dd g) (if np = 6 then M else mpM M np w h dd g) M) L) := by
  unfold Rn
  refine ev_s rfl ?_
  refine ev_ik (v := 1) rfl (by decide) ?_
  refine ev_bi (v := 12) rfl (by decide) ?_
  refine ev_cs (vs := [(.int w), (.int 1), (.int 12)]) (rest := []) (rv := (some (.int (zi (mW w 1 12))))) rfl rfl rfl rfl rfl (rn_within _) ?_
  show Ev _ _ 7 _ [(.int (zi (mW w 1 12)))] _ _
  refine ev_if rfl rfl (ev_bze (fun c1 => ?_) (fun c1 => ?_))
  · show Ev _ _ 42 _ _ _ _
    refine ev_bi (v := (-102)) rfl (by decide) ?_
    refine ev_ri rfl rfl ?_ ?_
    · rw [cIf_f (show ¬ okP w h dd g from fun q => c1 q.1)]
    · rw [cIf_f (show ¬ okP w h dd g from fun q => c1 q.1)]
  · show Ev _ _ 10 _ _ _ _
    refine ev_s rfl ?_
    refine ev_ik (v := 1) rfl (by decide) ?_
    refine ev_bi (v := 12) rfl (by decide) ?_
    refine ev_cs (vs := [(.int h), (.int 1), (.int 12)]) (rest := []) (rv := (some (.int (zi (mW h 1 12))))) rfl rfl rfl rfl rfl (rn_within _) ?_
    show Ev _ _ 17 _ [(.int (zi (mW h 1 12)))] _ _
    refine ev_if rfl rfl (ev_bze (fun c2 => ?_) (fun c2 => ?_))
    · show Ev _ _ 42 _ _ _ _
      refine ev_bi (v := (-102)) rfl (by decide) ?_
      refine ev_ri rfl rfl ?_ ?_
      · rw [cIf_f (show ¬ okP w h dd g from fun q => c2 q.2.1)]
      · rw [cIf_f (show ¬ okP w h dd g from fun q => c2 q.2.1)]
    · show Ev _ _ 20 _ _ _ _
      refine ev_s rfl ?_
      refine ev_ik (v := 1) rfl (by decide) ?_
      refine ev_bi (v := 12) rfl (by decide) ?_
      refine ev_cs (vs := [(.int dd), (.int 1), (.int 12)]) (rest := []) (rv := (some (.int (zi (mW dd 1 12))))) rfl rfl rfl rfl rfl (rn_within _) ?_
      show Ev _ _ 27 _ [(.int (zi (mW dd 1 12)))] _ _
      refine ev_if rfl rfl (ev_bze (fun c3 => ?_) (fun c3 => ?_))
      · show Ev _ _ 42 _ _ _ _
        refine ev_bi (v := (-102)) rfl (by decide) ?_
        refine ev_ri rfl rfl ?_ ?_
        · rw [cIf_f (show ¬ okP w h dd g from fun q => c3 q.2.2.1)]
        · rw [cIf_f (show ¬ okP w h dd g from fun q => c3 q.2.2.1)]
      · show Ev _ _ 30 _ _ _ _
        refine ev_s rfl ?_
        refine ev_ik (v := 1) rfl (by decide) ?_
        refine ev_si (v := 1000) rfl (by decide) ?_
        refine ev_cs (vs := [(.int g), (.int 1), (.int 1000)]) (rest := []) (rv := (some (.int (zi (mW g 1 1000))))) rfl rfl rfl rfl rfl (rn_within _) ?_
        show Ev _ _ 39 _ [(.int (zi (mW g 1 1000)))] _ _
        refine ev_if rfl rfl (ev_bzn (fun c4 => ?_) (fun c4 => ?_))
        · show Ev _ _ 45 _ _ _ _
          refine ev_s rfl ?_
          refine ev_gf (rd np M L (by omega) rfl) rfl rfl rfl ?_
          rw [hc]
          refine ev_bi (v := 6) rfl (by decide) ?_
          refine ev_ic rfl rfl ?_
          rw [show zbr .ne (nI np) 6 57 54 = 57 from if_neg (by rw [show (6 : Int32) = nI 6 from by decide, nI_eq (by omega) (by omega)]; exact h6)]
          refine ev_s rfl ?_
          refine ev_gf (rd np M L (by omega) rfl) rfl rfl rfl ?_
          refine ev_s rfl ?_
          refine ev_gf (rd np M L (by omega) rfl) rfl rfl rfl ?_
          rw [hc]
          refine ev_s rfl ?_
          refine ev_is (hp' := (mk np (up2 M 22 np w) L)) (rd np M L (by omega) rfl) rfl (zin_nI (by omega) (by decide)) (mk_setr rfl rfl rfl) ?_
          refine ev_s rfl ?_
          refine ev_gf (rd np (up2 M 22 np w) L (by omega) ((congrArg (fun r => cel np 21 r (L 21)) ((up2_n (by omega)).trans rfl)).trans rfl)) rfl rfl rfl ?_
          refine ev_s rfl ?_
          refine ev_gf (rd np (up2 M 22 np w) L (by omega) ((congrArg (fun r => cel np 21 r (L 21)) ((up2_n (by omega)).trans rfl)).trans rfl)) rfl rfl rfl ?_
          rw [hc]
          refine ev_s rfl ?_
          refine ev_is (hp' := (mk np (up2 (up2 M 22 np w) 23 np h) L)) (rd np (up2 M 22 np w) L (by omega) ((congrArg (fun r => cel np 23 r (L 23)) ((up2_n (by omega)).trans rfl)).trans rfl)) rfl (zin_nI (by omega) (by decide)) (mk_setr ((up2_n (by omega)).trans rfl) rfl rfl) ?_
          refine ev_s rfl ?_
          refine ev_gf (rd np (up2 (up2 M 22 np w) 23 np h) L (by omega) ((congrArg (fun r => cel np 21 r (L 21)) ((up2_n (by omega)).trans ((up2_n (by omega)).trans rfl))).trans rfl)) rfl rfl rfl ?_
          refine ev_s rfl ?_
          refine ev_gf (rd np (up2 (up2 M 22 np w) 23 np h) L (by omega) ((congrArg (fun r => cel np 21 r (L 21)) ((up2_n (by omega)).trans ((up2_n (by omega)).trans rfl))).trans rfl)) rfl rfl rfl ?_
          rw [hc]
          refine ev_s rfl ?_
          refine ev_is (hp' := (mk np (up2 (up2 (up2 M 22 np w) 23 np h) 24 np dd) L)) (rd np (up2 (up2 M 22 np w) 23 np h) L (by omega) ((congrArg (fun r => cel np 24 r (L 24)) ((up2_n (by omega)).trans ((up2_n (by omega)).trans rfl))).trans rfl)) rfl (zin_nI (by omega) (by decide)) (mk_setr ((up2_n (by omega)).trans ((up2_n (by omega)).trans rfl)) rfl rfl) ?_
          refine ev_s rfl ?_
          refine ev_gf (rd np (up2 (up2 (up2 M 22 np w) 23 np h) 24 np dd) L (by omega) ((congrArg (fun r => cel np 21 r (L 21)) ((up2_n (by omega)).trans ((up2_n (by omega)).trans ((up2_n (by omega)).trans rfl)))).trans rfl)) rfl rfl rfl ?_
          refine ev_s rfl ?_
          refine ev_gf (rd np (up2 (up2 (up2 M 22 np w) 23 np h) 24 np dd) L (by omega) ((congrArg (fun r => cel np 21 r (L 21)) ((up2_n (by omega)).trans ((up2_n (by omega)).trans ((up2_n (by omega)).trans rfl)))).trans rfl)) rfl rfl rfl ?_
          rw [hc]
          refine ev_s rfl ?_
          refine ev_is (hp' := (mk np (up2 (up2 (up2 (up2 M 22 np w) 23 np h) 24 np dd) 25 np g) L)) (rd np (up2 (up2 (up2 M 22 np w) 23 np h) 24 np dd) L (by omega) ((congrArg (fun r => cel np 25 r (L 25)) ((up2_n (by omega)).trans ((up2_n (by omega)).trans ((up2_n (by omega)).trans rfl)))).trans rfl)) rfl (zin_nI (by omega) (by decide)) (mk_setr ((up2_n (by omega)).trans ((up2_n (by omega)).trans ((up2_n (by omega)).trans rfl))) rfl rfl) ?_
          refine ev_s rfl ?_
          refine ev_gf (rd np (up2 (up2 (up2 (up2 M 22 np w) 23 np h) 24 np dd) 25 np g) L (by omega) ((congrArg (fun r => cel np 21 r (L 21)) ((up2_n (by omega)).trans ((up2_n (by omega)).trans ((up2_n (by omega)).trans ((up2_n (by omega)).trans rfl))))).trans rfl)) rfl rfl rfl ?_
          refine ev_s rfl ?_
          refine ev_gf (rd np (up2 (up2 (up2 (up2 M 22 np w) 23 np h) 24 np dd) 25 np g) L (by omega) ((congrArg (fun r => cel np 21 r (L 21)) ((up2_n (by omega)).trans ((up2_n (by omega)).trans ((up2_n (by omega)).trans ((up2_n (by omega)).trans rfl))))).trans rfl)) rfl rfl rfl ?_
          rw [hc]
          refine ev_ik (v := 0) rfl (by decide) ?_
          refine ev_is (hp' := (mk np (up2 (up2 (up2 (up2 (up2 M 22 np w) 23 np h) 24 np dd) 25 np g) 26 np 0) L)) (rd np (up2 (up2 (up2 (up2 M 22 np w) 23 np h) 24 np dd) 25 np g) L (by omega) ((congrArg (fun r => cel np 26 r (L 26)) ((up2_n (by omega)).trans ((up2_n (by omega)).trans ((up2_n (by omega)).trans ((up2_n (by omega)).trans rfl))))).trans rfl)) rfl (zin_nI (by omega) (by decide)) (mk_setr ((up2_n (by omega)).trans ((up2_n (by omega)).trans ((up2_n (by omega)).trans ((up2_n (by omega)).trans rfl)))) rfl rfl) ?_
          refine ev_s rfl ?_
          refine ev_gf (rd np (up2 (up2 (up2 (up2 (up2 M 22 np w) 23 np h) 24 np dd) 25 np g) 26 np 0) L (by omega) ((congrArg (fun r => cel np 21 r (L 21)) ((up2_n (by omega)).trans ((up2_n (by omega)).trans ((up2_n (by omega)).trans ((up2_n (by omega)).trans ((up2_n (by omega)).trans rfl)))))).trans rfl)) rfl rfl rfl ?_
          refine ev_s rfl ?_
          refine ev_gf (rd np (up2 (up2 (up2 (up2 (up2 M 22 np w) 23 np h) 24 np dd) 25 np g) 26 np 0) L (by omega) ((congrArg (fun r => cel np 21 r (L 21)) ((up2_n (by omega)).trans ((up2_n (by omega)).trans ((up2_n (by omega)).trans ((up2_n (by omega)).trans ((up2_n (by omega)).trans rfl)))))).trans rfl)) rfl rfl rfl ?_
          rw [hc]
          refine ev_ik (v := (-1)) rfl (by decide) ?_
          refine ev_is (hp' := (mk np (up2 (up2 (up2 (up2 (up2 (up2 M 22 np w) 23 np h) 24 np dd) 25 np g) 26 np 0) 27 np (-1)) L)) (rd np (up2 (up2 (up2 (up2 (up2 M 22 np w) 23 np h) 24 np dd) 25 np g) 26 np 0) L (by omega) ((congrArg (fun r => cel np 27 r (L 27)) ((up2_n (by omega)).trans ((up2_n (by omega)).trans ((up2_n (by omega)).trans ((up2_n (by omega)).trans ((up2_n (by omega)).trans rfl)))))).trans rfl)) rfl (zin_nI (by omega) (by decide)) (mk_setr ((up2_n (by omega)).trans ((up2_n (by omega)).trans ((up2_n (by omega)).trans ((up2_n (by omega)).trans ((up2_n (by omega)).trans rfl))))) rfl rfl) ?_
          refine ev_s rfl ?_
          refine ev_gf (rd np (up2 (up2 (up2 (up2 (up2 (up2 M 22 np w) 23 np h) 24 np dd) 25 np g) 26 np 0) 27 np (-1)) L (by omega) ((congrArg (fun r => cel np 21 r (L 21)) ((up2_n (by omega)).trans ((up2_n (by omega)).trans ((up2_n (by omega)).trans ((up2_n (by omega)).trans ((up2_n (by omega)).trans ((up2_n (by omega)).trans rfl))))))).trans rfl)) rfl rfl rfl ?_
          refine ev_s rfl ?_
          refine ev_gf (rd np (up2 (up2 (up2 (up2 (up2 (up2 M 22 np w) 23 np h) 24 np dd) 25 np g) 26 np 0) 27 np (-1)) L (by omega) ((congrArg (fun r => cel np 21 r (L 21)) ((up2_n (by omega)).trans ((up2_n (by omega)).trans ((up2_n (by omega)).trans ((up2_n (by omega)).trans ((up2_n (by omega)).trans ((up2_n (by omega)).trans rfl))))))).trans rfl)) rfl rfl rfl ?_
          rw [hc]
          refine ev_ik (v := 0) rfl (by decide) ?_
          refine ev_is (hp' := (mk np (up2 (up2 (up2 (up2 (up2 (up2 (up2 M 22 np w) 23 np h) 24 np dd) 25 np g) 26 np 0) 27 np (-1)) 28 np 0) L)) (rd np (up2 (up2 (up2 (up2 (up2 (up2 M 22 np w) 23 np h) 24 np dd) 25 np g) 26 np 0) 27 np (-1)) L (by omega) ((congrArg (fun r => cel np 28 r (L 28)) ((up2_n (by omega)).trans ((up2_n (by omega)).trans ((up2_n (by omega)).trans ((up2_n (by omega)).trans ((up2_n (by omega)).trans ((up2_n (by omega)).trans rfl))))))).trans rfl)) rfl (zin_nI (by omega) (by decide)) (mk_setr ((up2_n (by omega)).trans ((up2_n (by omega)).trans ((up2_n (by omega)).trans ((up2_n (by omega)).trans ((up2_n (by omega)).trans ((up2_n (by omega)).trans rfl)))))) rfl rfl) ?_
          iterate 2 refine ev_s rfl ?_
          refine ev_gf (rd np (up2 (up2 (up2 (up2 (up2 (up2 (up2 M 22 np w) 23 np h) 24 np dd) 25 np g) 26 np 0) 27 np (-1)) 28 np 0) L (by omega) ((congrArg (fun r => cel np 21 r (L 21)) ((up2_n (by omega)).trans ((up2_n (by omega)).trans ((up2_n (by omega)).trans ((up2_n (by omega)).trans ((up2_n (by omega)).trans ((up2_n (by omega)).trans ((up2_n (by omega)).trans rfl)))))))).trans rfl)) rfl rfl rfl ?_
          rw [hc]
          refine ev_ik (v := 1) rfl (by decide) ?_
          refine ev_s rfl ?_
          rw [nI_1 np]
          refine ev_pf (hp' := (mk np (up2 (up2 (up2 (up2 (up2 (up2 (up2 (up2 M 22 np w) 23 np h) 24 np dd) 25 np g) 26 np 0) 27 np (-1)) 28 np 0) 21 3 (nI (np + 1))) L)) (rd np (up2 (up2 (up2 (up2 (up2 (up2 (up2 M 22 np w) 23 np h) 24 np dd) 25 np g) 26 np 0) 27 np (-1)) 28 np 0) L (by omega) ((congrArg (fun r => cel np 21 r (L 21)) ((up2_n (by omega)).trans ((up2_n (by omega)).trans ((up2_n (by omega)).trans ((up2_n (by omega)).trans ((up2_n (by omega)).trans ((up2_n (by omega)).trans ((up2_n (by omega)).trans rfl)))))))).trans rfl)) rfl rfl (by simp) rfl rfl (mk_setr ((up2_n (by omega)).trans ((up2_n (by omega)).trans ((up2_n (by omega)).trans ((up2_n (by omega)).trans ((up2_n (by omega)).trans ((up2_n (by omega)).trans ((up2_n (by omega)).trans rfl))))))) rfl rfl) ?_
          refine ev_s rfl ?_
          refine ev_gf (rd np (up2 (up2 (up2 (up2 (up2 (up2 (up2 (up2 M 22 np w) 23 np h) 24 np dd) 25 np g) 26 np 0) 27 np (-1)) 28 np 0) 21 3 (nI (np + 1))) L (by omega) ((congrArg (fun r => cel np 21 r (L 21)) ((up2_s _ _ _ _).trans (congrArg (fun r => upd r 3 (nI (np + 1))) ((up2_n (by omega)).trans ((up2_n (by omega)).trans ((up2_n (by omega)).trans ((up2_n (by omega)).trans ((up2_n (by omega)).trans ((up2_n (by omega)).trans ((up2_n (by omega)).trans rfl)))))))))).trans rfl)) rfl rfl rfl ?_
          refine ev_ri rfl rfl ?_ ?_
          · rw [cIf_t (show okP w h dd g from ⟨c1, c2, c3, c4⟩), if_neg h6]; rfl
          · rw [cIf_t (show okP w h dd g from ⟨c1, c2, c3, c4⟩), if_neg h6]; rfl
        · show Ev _ _ 42 _ _ _ _
          refine ev_bi (v := (-102)) rfl (by decide) ?_
          refine ev_ri rfl rfl ?_ ?_
          · rw [cIf_f (show ¬ okP w h dd g from fun q => c4 q.2.2.2)]
          · rw [cIf_f (show ¬ okP w h dd g from fun q => c4 q.2.2.2)]
end
section
/-! ===== LoadSpaceModel: areBorne, fits ===== -/
def cnB (M : Nat → Nat → Int32) (p a b : Nat) : Prop := ¬ nI a = nI b ∧ (nI a = nI p ∨ ¬ M 29 a = 0) ∧ (nI b = nI p ∨ ¬ M 29 b = 0) ∧ mAb M b a
noncomputable def bsS (M : Nat → Nat → Int32) (p a : Nat) : Nat → Int32
  | 0 => 0
  | b + 1 => bsS M p a b + cIf (cnB M p a b) (M 25 b) 0
def brA (M : Nat → Nat → Int32) (p a : Nat) : Prop := M 27 a = -1 ∨ ¬ M 27 a < bsS M p a (p + 1)
def brn (M : Nat → Nat → Int32) (p : Nat) : Prop := ∀ a, a < p + 1 → brA M p a
def outM (M : Nat → Nat → Int32) (p : Nat) : Prop := ¬ M 21 0 < M 30 p + M 33 p ∧ ¬ M 21 1 < M 31 p + M 34 p ∧ M 32 p + M 35 p ≤ M 21 2
def cmX (M : Nat → Nat → Int32) (p q : Nat) : Int32 := cmn (M 30 p) (M 33 p) (M 30 q) (M 33 q)
def cmY (M : Nat → Nat → Int32) (p q : Nat) : Int32 := cmn (M 31 p) (M 34 p) (M 31 q) (M 34 q)
def cmZ (M : Nat → Nat → Int32) (p q : Nat) : Int32 := cmn (M 32 p) (M 35 p) (M 32 q) (M 35 q)
def colM (M : Nat → Nat → Int32) (p q : Nat) : Prop := ¬ cmX M p q ≤ 0 ∧ ¬ cmZ M p q ≤ 0 ∧ ¬ cmY M p q ≤ 0
def ordM (M : Nat → Nat → Int32) (p q : Nat) : Prop := ¬ M 28 p - M 28 q ≤ 0 ∧ mBf M p q ∨ ¬ 0 ≤ M 28 p - M 28 q ∧ mBf M q p
def unS (M : Nat → Nat → Int32) (p : Nat) : Nat → Int32
  | 0 => 0
  | q + 1 => if M 29 q = 0 then unS M p q else if M 31 q + M 34 q = M 31 p then unS M p q + cmX M p q * cmZ M p q else unS M p q + 0
def okQ (M : Nat → Nat → Int32) (p q : Nat) : Prop := M 29 q = 0 ∨ ¬ colM M p q ∧ ¬ ordM M p q
def ftM (M : Nat → Nat → Int32) (p : Nat) : Prop := outM M p ∧ (∀ q, q < p → okQ M p q) ∧ (M 31 p = 0 ∨ unS M p p = M 33 p * M 35 p) ∧ brn M p

set_option maxHeartbeats 4000000 in
theorem lp_bb {np : Nat} {M : Nat → Nat → Int32} {L : Nat → Int64} {p a : Nat} (hp : p < 6) (ha : a ≤ p) (d : Nat) {g : Int32} {Q : zCf → Prop} : ∀ k b, b + k = p + 1 → ∀ v6, (∀ v6, Ev (d + 2) mX6_areBorne 101 [some (.ref 21), some (.int (nI p)), some (.int g), some (.int (nI a)), some (.int (bsS M p a (p + 1))), some (.int (nI (p + 1))), v6] [] (mk np M L) Q) → Ev (d + 2) mX6_areBorne 15 [some (.ref 21), some (.int (nI p)), some (.int g), some (.int (nI a)), some (.int (bsS M p a b)), some (.int (nI b)), v6] [] (mk np M L) Q := by
  intro k
  induction k with
  | zero =>
    intro b hbk v6 hK
    obtain rfl : b = p + 1 := by omega
    iterate 2 refine ev_s rfl ?_
    refine ev_ic rfl rfl ?_
    rw [show zbr .gt (nI (p + 1)) (nI p) 101 21 = 101 from zgti_t (n := p) rfl (by omega) (by omega)]
    exact hK _
  | succ k ih =>
    intro b hbk v6 hK
    have hb : b < p + 1 := by omega
    have hun : bsS M p a (b + 1) = bsS M p a b + cIf (cnB M p a b) (M 25 b) 0 := rfl
    iterate 2 refine ev_s rfl ?_
    refine ev_ic rfl rfl ?_
    rw [show zbr .gt (nI b) (nI p) 101 21 = 21 from zgti_f (n := p) rfl (by omega) (by omega)]
    iterate 2 refine ev_s rfl ?_
    refine ev_cut (pc2 := 72) (ls2 := [some (.ref 21), some (.int (nI p)), some (.int g), some (.int (nI a)), some (.int (bsS M p a b)), some (.int (nI b)), v6]) (st2 := [(.int (zi (cnB M p a b)))]) (hp2 := (mk np M L)) ?_ (fun hK1 => ?_)
    · show Ev _ _ 72 _ _ _ _
      refine ev_s (ls' := [some (.ref 21), some (.int (nI p)), some (.int g), some (.int (nI a)), some (.int (bsS M p a b)), some (.int (nI b)), some (.int (zi (cnB M p a b)))]) rfl ?_
      iterate 2 refine ev_s rfl ?_
      refine ev_if rfl rfl (ev_bze (fun c1 => ?_) (fun c1 => ?_))
      · show Ev _ _ 91 _ _ _ _
        refine ev_ik (v := 0) rfl (by decide) ?_
        refine ev_s rfl ?_
        refine ev_s (ls' := [some (.ref 21), some (.int (nI p)), some (.int g), some (.int (nI a)), some (.int ((bsS M p a b) + 0)), some (.int (nI b)), some (.int (zi (cnB M p a b)))]) rfl ?_
        refine ev_inc (y := 1) (v := nI (b + 1)) (ls' := [some (.ref 21), some (.int (nI p)), some (.int g), some (.int (nI a)), some (.int ((bsS M p a b) + 0)), some (.int (nI (b + 1))), some (.int (zi (cnB M p a b)))]) rfl rfl (by decide) (nI_1 _) rfl ?_
        refine ev_s rfl ?_
        have e9 := ih (b + 1) (by omega) (some (.int (zi (cnB M p a b)))) hK
        rw [hun, cIf_f c1] at e9
        exact e9
      · show Ev _ _ 81 _ _ _ _
        refine ev_s rfl ?_
        refine ev_gf (rd np M L (by omega) rfl) rfl rfl rfl ?_
        refine ev_s rfl ?_
        refine ev_ia (rd np M L (by omega) rfl) rfl (zin_nI (by omega) (by decide)) ?_
        iterate 2 refine ev_s rfl ?_
        refine ev_s (ls' := [some (.ref 21), some (.int (nI p)), some (.int g), some (.int (nI a)), some (.int ((bsS M p a b) + (M 25 b))), some (.int (nI b)), some (.int (zi (cnB M p a b)))]) rfl ?_
        refine ev_inc (y := 1) (v := nI (b + 1)) (ls' := [some (.ref 21), some (.int (nI p)), some (.int g), some (.int (nI a)), some (.int ((bsS M p a b) + (M 25 b))), some (.int (nI (b + 1))), some (.int (zi (cnB M p a b)))]) rfl rfl (by decide) (nI_1 _) rfl ?_
        refine ev_s rfl ?_
        have e9 := ih (b + 1) (by omega) (some (.int (zi (cnB M p a b)))) hK
        rw [hun, cIf_t c1] at e9
        exact e9
    · show Ev _ _ 24 _ _ _ _
      refine ev_ic rfl rfl (ev_br (zb_eq _ _ _ _) (fun c2 => ?_) (fun c2 => ?_))
      · show Ev _ _ 71 _ _ _ _
        refine ev_ik (v := 0) rfl (by decide) ?_
        rw [zi_f (show ¬ (cnB M p a b) from (by simp_all [cnB]))] at hK1
        exact hK1
      · show Ev _ _ 27 _ _ _ _
        iterate 2 refine ev_s rfl ?_
        refine ev_ic rfl rfl (ev_br (zb_eq _ _ _ _) (fun c3 => ?_) (fun c3 => ?_))
        · show Ev _ _ 41 _ _ _ _
          iterate 2 refine ev_s rfl ?_
          refine ev_ic rfl rfl (ev_br (zb_eq _ _ _ _) (fun c4 => ?_) (fun c4 => ?_))
          · show Ev _ _ 57 _ _ _ _
            iterate 3 refine ev_s rfl ?_
            refine ev_cv (vs := [(.ref 21), (.int (nI b)), (.int (nI a))]) (rest := []) (rv := (some (.int (zi (mAb M b a))))) rfl rfl rfl (rd np M L (by omega) rfl) rfl rfl rfl rfl (rn_isAbove (a := b) (b := a) (by omega) (by omega) _) ?_
            show Ev _ _ 64 _ [(.int (zi (mAb M b a)))] _ _
            refine ev_if rfl rfl (ev_bze (fun c5 => ?_) (fun c5 => ?_))
            · show Ev _ _ 71 _ _ _ _
              refine ev_ik (v := 0) rfl (by decide) ?_
              rw [zi_f (show ¬ (cnB M p a b) from (by simp_all [cnB]))] at hK1
              exact hK1
            · show Ev _ _ 67 _ _ _ _
              refine ev_ik (v := 1) rfl (by decide) ?_
              refine ev_s rfl ?_
              rw [zi_t (show cnB M p a b from (by simp_all [cnB]))] at hK1
              exact hK1
          · show Ev _ _ 47 _ _ _ _
            refine ev_s rfl ?_
            refine ev_gf (rd np M L (by omega) rfl) rfl rfl rfl ?_
            refine ev_s rfl ?_
            refine ev_ba (rd np M L (by omega) rfl) rfl (zin_nI (by omega) (by decide)) ?_
            refine ev_if rfl rfl (ev_br (zb_eq _ _ _ _) (fun c6 => ?_) (fun c6 => ?_))
            · show Ev _ _ 71 _ _ _ _
              refine ev_ik (v := 0) rfl (by decide) ?_
              rw [zi_f (show ¬ (cnB M p a b) from (by simp_all [cnB]))] at hK1
              exact hK1
            · show Ev _ _ 57 _ _ _ _
              iterate 3 refine ev_s rfl ?_
              refine ev_cv (vs := [(.ref 21), (.int (nI b)), (.int (nI a))]) (rest := []) (rv := (some (.int (zi (mAb M b a))))) rfl rfl rfl (rd np M L (by omega) rfl) rfl rfl rfl rfl (rn_isAbove (a := b) (b := a) (by omega) (by omega) _) ?_
              show Ev _ _ 64 _ [(.int (zi (mAb M b a)))] _ _
              refine ev_if rfl rfl (ev_bze (fun c7 => ?_) (fun c7 => ?_))
              · show Ev _ _ 71 _ _ _ _
                refine ev_ik (v := 0) rfl (by decide) ?_
                rw [zi_f (show ¬ (cnB M p a b) from (by simp_all [cnB]))] at hK1
                exact hK1
              · show Ev _ _ 67 _ _ _ _
                refine ev_ik (v := 1) rfl (by decide) ?_
                refine ev_s rfl ?_
                rw [zi_t (show cnB M p a b from (by simp_all [cnB]))] at hK1
                exact hK1
        · show Ev _ _ 32 _ _ _ _
          refine ev_s rfl ?_
          refine ev_gf (rd np M L (by omega) rfl) rfl rfl rfl ?_
          refine ev_s rfl ?_
          refine ev_ba (rd np M L (by omega) rfl) rfl (zin_nI (by omega) (by decide)) ?_
          refine ev_if rfl rfl (ev_br (zb_eq _ _ _ _) (fun c8 => ?_) (fun c8 => ?_))
          · show Ev _ _ 71 _ _ _ _
            refine ev_ik (v := 0) rfl (by decide) ?_
            rw [zi_f (show ¬ (cnB M p a b) from (by simp_all [cnB]))] at hK1
            exact hK1
          · show Ev _ _ 41 _ _ _ _
            iterate 2 refine ev_s rfl ?_
            refine ev_ic rfl rfl (ev_br (zb_eq _ _ _ _) (fun c9 => ?_) (fun c9 => ?_))
            · show Ev _ _ 57 _ _ _ _
              iterate 3 refine ev_s rfl ?_
              refine ev_cv (vs := [(.ref 21), (.int (nI b)), (.int (nI a))]) (rest := []) (rv := (some (.int (zi (mAb M b a))))) rfl rfl rfl (rd np M L (by omega) rfl) rfl rfl rfl rfl (rn_isAbove (a := b) (b := a) (by omega) (by omega) _) ?_
              show Ev _ _ 64 _ [(.int (zi (mAb M b a)))] _ _
              refine ev_if rfl rfl (ev_bze (fun c10 => ?_) (fun c10 => ?_))
              · show Ev _ _ 71 _ _ _ _
                refine ev_ik (v := 0) rfl (by decide) ?_
                rw [zi_f (show ¬ (cnB M p a b) from (by simp_all [cnB]))] at hK1
                exact hK1
              · show Ev _ _ 67 _ _ _ _
                refine ev_ik (v := 1) rfl (by decide) ?_
                refine ev_s rfl ?_
                rw [zi_t (show cnB M p a b from (by simp_all [cnB]))] at hK1
                exact hK1
            · show Ev _ _ 47 _ _ _ _
              refine ev_s rfl ?_
              refine ev_gf (rd np M L (by omega) rfl) rfl rfl rfl ?_
              refine ev_s rfl ?_
              refine ev_ba (rd np M L (by omega) rfl) rfl (zin_nI (by omega) (by decide)) ?_
              refine ev_if rfl rfl (ev_br (zb_eq _ _ _ _) (fun c11 => ?_) (fun c11 => ?_))
              · show Ev _ _ 71 _ _ _ _
                refine ev_ik (v := 0) rfl (by decide) ?_
                rw [zi_f (show ¬ (cnB M p a b) from (by simp_all [cnB]))] at hK1
                exact hK1
              · show Ev _ _ 57 _ _ _ _
                iterate 3 refine ev_s rfl ?_
                refine ev_cv (vs := [(.ref 21), (.int (nI b)), (.int (nI a))]) (rest := []) (rv := (some (.int (zi (mAb M b a))))) rfl rfl rfl (rd np M L (by omega) rfl) rfl rfl rfl rfl (rn_isAbove (a := b) (b := a) (by omega) (by omega) _) ?_
                show Ev _ _ 64 _ [(.int (zi (mAb M b a)))] _ _
                refine ev_if rfl rfl (ev_bze (fun c12 => ?_) (fun c12 => ?_))
                · show Ev _ _ 71 _ _ _ _
                  refine ev_ik (v := 0) rfl (by decide) ?_
                  rw [zi_f (show ¬ (cnB M p a b) from (by simp_all [cnB]))] at hK1
                  exact hK1
                · show Ev _ _ 67 _ _ _ _
                  refine ev_ik (v := 1) rfl (by decide) ?_
                  refine ev_s rfl ?_
                  rw [zi_t (show cnB M p a b from (by simp_all [cnB]))] at hK1
                  exact hK1
end
section
set_option maxHeartbeats 4000000 in
theorem lp_ba {np : Nat} {M : Nat → Nat → Int32} {L : Nat → Int64} {p : Nat} (hp : p < 6) (d : Nat) : ∀ k a, a + k = p + 1 → ∀ v4 v5 v6, Ev (d + 2) mX6_areBorne 4 [some (.ref 21), some (.int (nI p)), some (.int (zi (∀ q, q < a → brA M p q))), some (.int (nI a)), v4, v5, v6] [] (mk np M L) (Qr mX6_areBorne (some (.int (zi (brn M p)))) (mk np M L)) := by
  intro k
  induction k with
  | zero =>
    intro a hak v4 v5 v6
    obtain rfl : a = p + 1 := by omega
    iterate 2 refine ev_s rfl ?_
    refine ev_ic rfl rfl ?_
    rw [show zbr .gt (nI (p + 1)) (nI p) 138 9 = 138 from zgti_t (n := p) rfl (by omega) (by omega)]
    refine ev_s rfl ?_
    refine ev_rz rfl rfl (zi_01 _) ?_ ?_
    · rfl
    · rfl
  | succ k ih =>
    intro a hak v4 v5 v6
    have ha : a < p + 1 := by omega
    iterate 2 refine ev_s rfl ?_
    refine ev_ic rfl rfl ?_
    rw [show zbr .gt (nI a) (nI p) 138 9 = 9 from zgti_f (n := p) rfl (by omega) (by omega)]
    refine ev_ik (v := 0) rfl (by decide) ?_
    refine ev_s (ls' := [some (.ref 21), some (.int (nI p)), some (.int (zi (∀ q, q < a → brA M p q))), some (.int (nI a)), some (.int 0), v5, v6]) rfl ?_
    refine ev_ik (v := 0) rfl (by decide) ?_
    refine ev_s (ls' := [some (.ref 21), some (.int (nI p)), some (.int (zi (∀ q, q < a → brA M p q))), some (.int (nI a)), some (.int 0), some (.int 0), v6]) rfl ?_
    refine lp_bb (a := a) hp (by omega) d (p + 1) 0 (by omega) v6 (fun v7 => ?_)
    refine ev_s rfl ?_
    refine ev_cut (pc2 := 131) (ls2 := [some (.ref 21), some (.int (nI p)), some (.int (zi (∀ q, q < a → brA M p q))), some (.int (nI a)), some (.int (bsS M p a (p + 1))), some (.int (nI (p + 1))), v7]) (st2 := [(.int (zi ((∀ q, q < a → brA M p q) ∧ brA M p a)))]) (hp2 := (mk np M L)) ?_ (fun hK1 => ?_)
    · show Ev _ _ 131 _ _ _ _
      refine ev_s (ls' := [some (.ref 21), some (.int (nI p)), some (.int (zi ((∀ q, q < a → brA M p q) ∧ brA M p a))), some (.int (nI a)), some (.int (bsS M p a (p + 1))), some (.int (nI (p + 1))), v7]) rfl ?_
      refine ev_inc (y := 1) (v := nI (a + 1)) (ls' := [some (.ref 21), some (.int (nI p)), some (.int (zi ((∀ q, q < a → brA M p q) ∧ brA M p a))), some (.int (nI (a + 1))), some (.int (bsS M p a (p + 1))), some (.int (nI (p + 1))), v7]) rfl rfl (by decide) (nI_1 _) rfl ?_
      refine ev_s rfl ?_
      have e9 := ih (a + 1) (by omega) (some (.int (bsS M p a (p + 1)))) (some (.int (nI (p + 1)))) (v7)
      rw [show (∀ q, q < a + 1 → brA M p q) = ((∀ q, q < a → brA M p q) ∧ brA M p a) from propext ⟨fun h => ⟨fun q hq => h q (by omega), h a (by omega)⟩, fun h q hq => by
        rcases Nat.lt_or_ge q a with z | z
        · exact h.1 q z
        · obtain rfl : q = a := by omega
          exact h.2⟩] at e9
      exact e9
    · show Ev _ _ 102 _ _ _ _
      refine ev_if rfl rfl (ev_bze (fun c1 => ?_) (fun c1 => ?_))
      · show Ev _ _ 130 _ _ _ _
        refine ev_ik (v := 0) rfl (by decide) ?_
        rw [zi_f (show ¬ ((∀ q, q < a → brA M p q) ∧ brA M p a) from (by first | exact fun h => absurd h.1 (by assumption) | simp_all [brA]))] at hK1
        exact hK1
      · show Ev _ _ 105 _ _ _ _
        refine ev_s rfl ?_
        refine ev_gf (rd np M L (by omega) rfl) rfl rfl rfl ?_
        refine ev_s rfl ?_
        refine ev_ia (rd np M L (by omega) rfl) rfl (zin_nI (by omega) (by decide)) ?_
        refine ev_ik (v := (-1)) rfl (by decide) ?_
        refine ev_ic rfl rfl (ev_br (zb_eq _ _ _ _) (fun c2 => ?_) (fun c2 => ?_))
        · show Ev _ _ 126 _ _ _ _
          refine ev_ik (v := 1) rfl (by decide) ?_
          refine ev_s rfl ?_
          rw [zi_t (show (∀ q, q < a → brA M p q) ∧ brA M p a from (by first | exact fun h => absurd h.1 (by assumption) | simp_all [brA]))] at hK1
          exact hK1
        · show Ev _ _ 115 _ _ _ _
          iterate 2 refine ev_s rfl ?_
          refine ev_gf (rd np M L (by omega) rfl) rfl rfl rfl ?_
          refine ev_s rfl ?_
          refine ev_ia (rd np M L (by omega) rfl) rfl (zin_nI (by omega) (by decide)) ?_
          refine ev_ic rfl rfl (ev_br (zb_gt _ _ _ _) (fun c3 => ?_) (fun c3 => ?_))
          · show Ev _ _ 130 _ _ _ _
            refine ev_ik (v := 0) rfl (by decide) ?_
            rw [zi_f (show ¬ ((∀ q, q < a → brA M p q) ∧ brA M p a) from (by first | exact fun h => absurd h.1 (by assumption) | simp_all [brA]))] at hK1
            exact hK1
          · show Ev _ _ 126 _ _ _ _
            refine ev_ik (v := 1) rfl (by decide) ?_
            refine ev_s rfl ?_
            rw [zi_t (show (∀ q, q < a → brA M p q) ∧ brA M p a from (by first | exact fun h => absurd h.1 (by assumption) | simp_all [brA]))] at hK1
            exact hK1
set_option maxHeartbeats 4000000 in
theorem rn_borne {np : Nat} {M : Nat → Nat → Int32} {L : Nat → Int64} {p : Nat} (hp : p < 6) (d : Nat) : Rn (d + 2) mX6_areBorne [(.ref 21), (.int (nI p))] (mk np M L) (some (.int (zi (brn M p)))) (mk np M L) := by
  unfold Rn
  refine ev_ik (v := 1) rfl (by decide) ?_
  refine ev_s (ls' := [some (.ref 21), some (.int (nI p)), some (.int 1), none, none, none, none]) rfl ?_
  refine ev_ik (v := 0) rfl (by decide) ?_
  refine ev_s (ls' := [some (.ref 21), some (.int (nI p)), some (.int 1), some (.int 0), none, none, none]) rfl ?_
  have e9 := lp_ba (np := np) (M := M) (L := L) hp d (p + 1) 0 (by omega) none none none
  rw [zi_t (show ∀ q, q < 0 → brA M p q from fun q h => absurd h (by omega))] at e9
  exact e9
end
section
set_option maxHeartbeats 4000000 in
theorem lp_ft {np : Nat} {M : Nat → Nat → Int32} {L : Nat → Int64} {p : Nat} (hp : p < 6) (ho : outM M p) (d : Nat) : ∀ k q, q + k = p → ∀ v4 v5 v6, (∀ j, j < q → okQ M p j) → Ev (d + 3) mX6_fits 66 [some (.ref 21), some (.int (nI p)), some (.int (unS M p q)), some (.int (nI q)), v4, v5, v6] [] (mk np M L) (Qr mX6_fits (some (.int (zi (ftM M p)))) (mk np M L)) := by
  intro k
  induction k with
  | zero =>
    intro q hqk v4 v5 v6 hI
    obtain rfl : q = p := by omega
    iterate 2 refine ev_s rfl ?_
    refine ev_ic rfl rfl ?_
    rw [show zbr .ge (nI q) (nI q) 265 71 = 265 from zge_t (n := q) rfl (by omega) (by omega)]
    refine ev_s rfl ?_
    refine ev_gf (rd np M L (by omega) rfl) rfl rfl rfl ?_
    refine ev_s rfl ?_
    refine ev_ia (rd np M L (by omega) rfl) rfl (zin_nI (by omega) (by decide)) ?_
    refine ev_if rfl rfl (ev_br (zb_eq _ _ _ _) (fun c1 => ?_) (fun c1 => ?_))
    · show Ev _ _ 291 _ _ _ _
      iterate 2 refine ev_s rfl ?_
      refine ev_cv (vs := [(.ref 21), (.int (nI q))]) (rest := []) (rv := (some (.int (zi (brn M q))))) rfl rfl rfl (rd np M L (by omega) rfl) rfl rfl rfl rfl (rn_borne hp _) ?_
      show Ev _ _ 296 _ [(.int (zi (brn M q)))] _ _
      refine ev_if rfl rfl (ev_bze (fun c2 => ?_) (fun c2 => ?_))
      · show Ev _ _ 303 _ _ _ _
        refine ev_ik (v := 0) rfl (by decide) ?_
        refine ev_rz rfl rfl (by decide) ?_ ?_
        · exact some_i (zi_f (show ¬ ftM M q from fun h => c2 h.2.2.2)).symm
        · rfl
      · show Ev _ _ 299 _ _ _ _
        refine ev_ik (v := 1) rfl (by decide) ?_
        refine ev_s rfl ?_
        refine ev_rz rfl rfl (by decide) ?_ ?_
        · exact some_i (zi_t (show ftM M q from ⟨ho, hI, Or.inl c1, c2⟩)).symm
        · rfl
    · show Ev _ _ 274 _ _ _ _
      iterate 2 refine ev_s rfl ?_
      refine ev_gf (rd np M L (by omega) rfl) rfl rfl rfl ?_
      refine ev_s rfl ?_
      refine ev_ia (rd np M L (by omega) rfl) rfl (zin_nI (by omega) (by decide)) ?_
      refine ev_s rfl ?_
      refine ev_gf (rd np M L (by omega) rfl) rfl rfl rfl ?_
      refine ev_s rfl ?_
      refine ev_ia (rd np M L (by omega) rfl) rfl (zin_nI (by omega) (by decide)) ?_
      refine ev_s rfl ?_
      refine ev_ic rfl rfl (ev_bn (fun c3 => ?_) (fun c3 => ?_))
      · show Ev _ _ 303 _ _ _ _
        refine ev_ik (v := 0) rfl (by decide) ?_
        refine ev_rz rfl rfl (by decide) ?_ ?_
        · exact some_i (zi_f (show ¬ ftM M q from fun h => h.2.2.1.elim c1 c3)).symm
        · rfl
      · show Ev _ _ 291 _ _ _ _
        iterate 2 refine ev_s rfl ?_
        refine ev_cv (vs := [(.ref 21), (.int (nI q))]) (rest := []) (rv := (some (.int (zi (brn M q))))) rfl rfl rfl (rd np M L (by omega) rfl) rfl rfl rfl rfl (rn_borne hp _) ?_
        show Ev _ _ 296 _ [(.int (zi (brn M q)))] _ _
        refine ev_if rfl rfl (ev_bze (fun c4 => ?_) (fun c4 => ?_))
        · show Ev _ _ 303 _ _ _ _
          refine ev_ik (v := 0) rfl (by decide) ?_
          refine ev_rz rfl rfl (by decide) ?_ ?_
          · exact some_i (zi_f (show ¬ ftM M q from fun h => c4 h.2.2.2)).symm
          · rfl
        · show Ev _ _ 299 _ _ _ _
          refine ev_ik (v := 1) rfl (by decide) ?_
          refine ev_s rfl ?_
          refine ev_rz rfl rfl (by decide) ?_ ?_
          · exact some_i (zi_t (show ftM M q from ⟨ho, hI, Or.inr c3, c4⟩)).symm
          · rfl
  | succ k ih =>
    intro q hqk v4 v5 v6 hI
    have hq : q < p := by omega
    iterate 2 refine ev_s rfl ?_
    refine ev_ic rfl rfl ?_
    rw [show zbr .ge (nI q) (nI p) 265 71 = 71 from zge_f (n := p) rfl hq (by omega)]
    refine ev_s rfl ?_
    refine ev_gf (rd np M L (by omega) rfl) rfl rfl rfl ?_
    refine ev_s rfl ?_
    refine ev_ba (rd np M L (by omega) rfl) rfl (zin_nI (by omega) (by decide)) ?_
    refine ev_if rfl rfl (ev_br (zb_eq _ _ _ _) (fun c1 => ?_) (fun c1 => ?_))
    · show Ev _ _ 259 _ _ _ _
      refine ev_inc (y := 1) (v := nI (q + 1)) (ls' := [some (.ref 21), some (.int (nI p)), some (.int (unS M p q)), some (.int (nI (q + 1))), v4, v5, v6]) rfl rfl (by decide) (nI_1 _) rfl ?_
      refine ev_s rfl ?_
      have e9 := ih (q + 1) (by omega) (v4) (v5) (v6) (fun j hj => by
        rcases Nat.lt_or_ge j q with h | h
        · exact hI j h
        · obtain rfl : j = q := by omega
          exact Or.inl c1)
      rw [show unS M p (q + 1) = unS M p q from if_pos c1] at e9
      exact e9
    · show Ev _ _ 80 _ _ _ _
      refine ev_s rfl ?_
      refine ev_gf (rd np M L (by omega) rfl) rfl rfl rfl ?_
      refine ev_s rfl ?_
      refine ev_ia (rd np M L (by omega) rfl) rfl (zin_nI (by omega) (by decide)) ?_
      refine ev_s rfl ?_
      refine ev_gf (rd np M L (by omega) rfl) rfl rfl rfl ?_
      refine ev_s rfl ?_
      refine ev_ia (rd np M L (by omega) rfl) rfl (zin_nI (by omega) (by decide)) ?_
      refine ev_s rfl ?_
      refine ev_gf (rd np M L (by omega) rfl) rfl rfl rfl ?_
      refine ev_s rfl ?_
      refine ev_ia (rd np M L (by omega) rfl) rfl (zin_nI (by omega) (by decide)) ?_
      refine ev_s rfl ?_
      refine ev_gf (rd np M L (by omega) rfl) rfl rfl rfl ?_
      refine ev_s rfl ?_
      refine ev_ia (rd np M L (by omega) rfl) rfl (zin_nI (by omega) (by decide)) ?_
      refine ev_cs (vs := [(.int (M 30 p)), (.int (M 33 p)), (.int (M 30 q)), (.int (M 33 q))]) (rest := []) (rv := (some (.int (cmn (M 30 p) (M 33 p) (M 30 q) (M 33 q))))) rfl rfl rfl rfl rfl (rn_common _) ?_
      show Ev _ _ 107 _ [(.int (cmn (M 30 p) (M 33 p) (M 30 q) (M 33 q)))] _ _
      refine ev_s (ls' := [some (.ref 21), some (.int (nI p)), some (.int (unS M p q)), some (.int (nI q)), some (.int (cmn (M 30 p) (M 33 p) (M 30 q) (M 33 q))), v5, v6]) rfl ?_
      refine ev_s rfl ?_
      refine ev_gf (rd np M L (by omega) rfl) rfl rfl rfl ?_
      refine ev_s rfl ?_
      refine ev_ia (rd np M L (by omega) rfl) rfl (zin_nI (by omega) (by decide)) ?_
      refine ev_s rfl ?_
      refine ev_gf (rd np M L (by omega) rfl) rfl rfl rfl ?_
      refine ev_s rfl ?_
      refine ev_ia (rd np M L (by omega) rfl) rfl (zin_nI (by omega) (by decide)) ?_
      refine ev_s rfl ?_
      refine ev_gf (rd np M L (by omega) rfl) rfl rfl rfl ?_
      refine ev_s rfl ?_
      refine ev_ia (rd np M L (by omega) rfl) rfl (zin_nI (by omega) (by decide)) ?_
      refine ev_s rfl ?_
      refine ev_gf (rd np M L (by omega) rfl) rfl rfl rfl ?_
      refine ev_s rfl ?_
      refine ev_ia (rd np M L (by omega) rfl) rfl (zin_nI (by omega) (by decide)) ?_
      refine ev_cs (vs := [(.int (M 32 p)), (.int (M 35 p)), (.int (M 32 q)), (.int (M 35 q))]) (rest := []) (rv := (some (.int (cmn (M 32 p) (M 35 p) (M 32 q) (M 35 q))))) rfl rfl rfl rfl rfl (rn_common _) ?_
      show Ev _ _ 136 _ [(.int (cmn (M 32 p) (M 35 p) (M 32 q) (M 35 q)))] _ _
      refine ev_s (ls' := [some (.ref 21), some (.int (nI p)), some (.int (unS M p q)), some (.int (nI q)), some (.int (cmn (M 30 p) (M 33 p) (M 30 q) (M 33 q))), some (.int (cmn (M 32 p) (M 35 p) (M 32 q) (M 35 q))), v6]) rfl ?_
      refine ev_s rfl ?_
      refine ev_if rfl rfl (ev_br (zb_le _ _ _ _) (fun c2 => ?_) (fun c2 => ?_))
      · show Ev _ _ 180 _ _ _ _
        iterate 2 refine ev_s rfl ?_
        refine ev_gf (rd np M L (by omega) rfl) rfl rfl rfl ?_
        refine ev_s rfl ?_
        refine ev_ia (rd np M L (by omega) rfl) rfl (zin_nI (by omega) (by decide)) ?_
        refine ev_s rfl ?_
        refine ev_gf (rd np M L (by omega) rfl) rfl rfl rfl ?_
        refine ev_s rfl ?_
        refine ev_ia (rd np M L (by omega) rfl) rfl (zin_nI (by omega) (by decide)) ?_
        iterate 2 refine ev_s rfl ?_
        refine ev_gf (rd np M L (by omega) rfl) rfl rfl rfl ?_
        refine ev_s rfl ?_
        refine ev_ia (rd np M L (by omega) rfl) rfl (zin_nI (by omega) (by decide)) ?_
        refine ev_ic rfl rfl (ev_bn (fun c3 => ?_) (fun c3 => ?_))
        · show Ev _ _ 211 _ _ _ _
          refine ev_ik (v := 0) rfl (by decide) ?_
          refine ev_s rfl ?_
          refine ev_s (ls' := [some (.ref 21), some (.int (nI p)), some (.int ((unS M p q) + 0)), some (.int (nI q)), some (.int (cmn (M 30 p) (M 33 p) (M 30 q) (M 33 q))), some (.int (cmn (M 32 p) (M 35 p) (M 32 q) (M 35 q))), v6]) rfl ?_
          refine ev_s rfl ?_
          refine ev_gf (rd np M L (by omega) rfl) rfl rfl rfl ?_
          refine ev_s rfl ?_
          refine ev_ia (rd np M L (by omega) rfl) rfl (zin_nI (by omega) (by decide)) ?_
          refine ev_s rfl ?_
          refine ev_gf (rd np M L (by omega) rfl) rfl rfl rfl ?_
          refine ev_s rfl ?_
          refine ev_ia (rd np M L (by omega) rfl) rfl (zin_nI (by omega) (by decide)) ?_
          refine ev_s rfl ?_
          refine ev_s (ls' := [some (.ref 21), some (.int (nI p)), some (.int ((unS M p q) + 0)), some (.int (nI q)), some (.int (cmn (M 30 p) (M 33 p) (M 30 q) (M 33 q))), some (.int (cmn (M 32 p) (M 35 p) (M 32 q) (M 35 q))), some (.int ((M 28 p) - (M 28 q)))]) rfl ?_
          refine ev_s rfl ?_
          refine ev_if rfl rfl (ev_br (zb_le _ _ _ _) (fun c4 => ?_) (fun c4 => ?_))
          · show Ev _ _ 243 _ _ _ _
            refine ev_s rfl ?_
            refine ev_if rfl rfl (ev_br (zb_ge _ _ _ _) (fun c5 => ?_) (fun c5 => ?_))
            · show Ev _ _ 259 _ _ _ _
              refine ev_inc (y := 1) (v := nI (q + 1)) (ls' := [some (.ref 21), some (.int (nI p)), some (.int ((unS M p q) + 0)), some (.int (nI (q + 1))), some (.int (cmn (M 30 p) (M 33 p) (M 30 q) (M 33 q))), some (.int (cmn (M 32 p) (M 35 p) (M 32 q) (M 35 q))), some (.int ((M 28 p) - (M 28 q)))]) rfl rfl (by decide) (nI_1 _) rfl ?_
              refine ev_s rfl ?_
              have e9 := ih (q + 1) (by omega) (some (.int (cmn (M 30 p) (M 33 p) (M 30 q) (M 33 q)))) (some (.int (cmn (M 32 p) (M 35 p) (M 32 q) (M 35 q)))) (some (.int ((M 28 p) - (M 28 q)))) (fun j hj => by
                rcases Nat.lt_or_ge j q with h | h
                · exact hI j h
                · obtain rfl : j = q := by omega
                  exact Or.inr ⟨fun h => h.1 c2, fun h => h.elim (fun h => h.1 c4) (fun h => h.1 c5)⟩)
              rw [show unS M p (q + 1) = unS M p q + 0 from (if_neg c1).trans (if_neg c3)] at e9
              exact e9
            · show Ev _ _ 248 _ _ _ _
              iterate 3 refine ev_s rfl ?_
              refine ev_cv (vs := [(.ref 21), (.int (nI q)), (.int (nI p))]) (rest := []) (rv := (some (.int (zi (mBf M q p))))) rfl rfl rfl (rd np M L (by omega) rfl) rfl rfl rfl rfl (rn_isBefore (a := q) (b := p) (by omega) (by omega) _) ?_
              show Ev _ _ 254 _ [(.int (zi (mBf M q p)))] _ _
              refine ev_if rfl rfl (ev_bze (fun c6 => ?_) (fun c6 => ?_))
              · show Ev _ _ 259 _ _ _ _
                refine ev_inc (y := 1) (v := nI (q + 1)) (ls' := [some (.ref 21), some (.int (nI p)), some (.int ((unS M p q) + 0)), some (.int (nI (q + 1))), some (.int (cmn (M 30 p) (M 33 p) (M 30 q) (M 33 q))), some (.int (cmn (M 32 p) (M 35 p) (M 32 q) (M 35 q))), some (.int ((M 28 p) - (M 28 q)))]) rfl rfl (by decide) (nI_1 _) rfl ?_
                refine ev_s rfl ?_
                have e9 := ih (q + 1) (by omega) (some (.int (cmn (M 30 p) (M 33 p) (M 30 q) (M 33 q)))) (some (.int (cmn (M 32 p) (M 35 p) (M 32 q) (M 35 q)))) (some (.int ((M 28 p) - (M 28 q)))) (fun j hj => by
                  rcases Nat.lt_or_ge j q with h | h
                  · exact hI j h
                  · obtain rfl : j = q := by omega
                    exact Or.inr ⟨fun h => h.1 c2, fun h => h.elim (fun h => h.1 c4) (fun h => c6 h.2)⟩)
                rw [show unS M p (q + 1) = unS M p q + 0 from (if_neg c1).trans (if_neg c3)] at e9
                exact e9
              · show Ev _ _ 257 _ _ _ _
                refine ev_ik (v := 0) rfl (by decide) ?_
                refine ev_rz rfl rfl (by decide) ?_ ?_
                · exact some_i (zi_f (show ¬ ftM M p from fun h => (h.2.1 q hq).elim c1 (fun h3 => h3.2 (Or.inr ⟨c5, c6⟩)))).symm
                · rfl
          · show Ev _ _ 234 _ _ _ _
            iterate 3 refine ev_s rfl ?_
            refine ev_cv (vs := [(.ref 21), (.int (nI p)), (.int (nI q))]) (rest := []) (rv := (some (.int (zi (mBf M p q))))) rfl rfl rfl (rd np M L (by omega) rfl) rfl rfl rfl rfl (rn_isBefore (a := p) (b := q) (by omega) (by omega) _) ?_
            show Ev _ _ 240 _ [(.int (zi (mBf M p q)))] _ _
            refine ev_if rfl rfl (ev_bzn (fun c7 => ?_) (fun c7 => ?_))
            · show Ev _ _ 257 _ _ _ _
              refine ev_ik (v := 0) rfl (by decide) ?_
              refine ev_rz rfl rfl (by decide) ?_ ?_
              · exact some_i (zi_f (show ¬ ftM M p from fun h => (h.2.1 q hq).elim c1 (fun h3 => h3.2 (Or.inl ⟨c4, c7⟩)))).symm
              · rfl
            · show Ev _ _ 243 _ _ _ _
              refine ev_s rfl ?_
              refine ev_if rfl rfl (ev_br (zb_ge _ _ _ _) (fun c8 => ?_) (fun c8 => ?_))
              · show Ev _ _ 259 _ _ _ _
                refine ev_inc (y := 1) (v := nI (q + 1)) (ls' := [some (.ref 21), some (.int (nI p)), some (.int ((unS M p q) + 0)), some (.int (nI (q + 1))), some (.int (cmn (M 30 p) (M 33 p) (M 30 q) (M 33 q))), some (.int (cmn (M 32 p) (M 35 p) (M 32 q) (M 35 q))), some (.int ((M 28 p) - (M 28 q)))]) rfl rfl (by decide) (nI_1 _) rfl ?_
                refine ev_s rfl ?_
                have e9 := ih (q + 1) (by omega) (some (.int (cmn (M 30 p) (M 33 p) (M 30 q) (M 33 q)))) (some (.int (cmn (M 32 p) (M 35 p) (M 32 q) (M 35 q)))) (some (.int ((M 28 p) - (M 28 q)))) (fun j hj => by
                  rcases Nat.lt_or_ge j q with h | h
                  · exact hI j h
                  · obtain rfl : j = q := by omega
                    exact Or.inr ⟨fun h => h.1 c2, fun h => h.elim (fun h => c7 h.2) (fun h => h.1 c8)⟩)
                rw [show unS M p (q + 1) = unS M p q + 0 from (if_neg c1).trans (if_neg c3)] at e9
                exact e9
              · show Ev _ _ 248 _ _ _ _
                iterate 3 refine ev_s rfl ?_
                refine ev_cv (vs := [(.ref 21), (.int (nI q)), (.int (nI p))]) (rest := []) (rv := (some (.int (zi (mBf M q p))))) rfl rfl rfl (rd np M L (by omega) rfl) rfl rfl rfl rfl (rn_isBefore (a := q) (b := p) (by omega) (by omega) _) ?_
                show Ev _ _ 254 _ [(.int (zi (mBf M q p)))] _ _
                refine ev_if rfl rfl (ev_bze (fun c9 => ?_) (fun c9 => ?_))
                · show Ev _ _ 259 _ _ _ _
                  refine ev_inc (y := 1) (v := nI (q + 1)) (ls' := [some (.ref 21), some (.int (nI p)), some (.int ((unS M p q) + 0)), some (.int (nI (q + 1))), some (.int (cmn (M 30 p) (M 33 p) (M 30 q) (M 33 q))), some (.int (cmn (M 32 p) (M 35 p) (M 32 q) (M 35 q))), some (.int ((M 28 p) - (M 28 q)))]) rfl rfl (by decide) (nI_1 _) rfl ?_
                  refine ev_s rfl ?_
                  have e9 := ih (q + 1) (by omega) (some (.int (cmn (M 30 p) (M 33 p) (M 30 q) (M 33 q)))) (some (.int (cmn (M 32 p) (M 35 p) (M 32 q) (M 35 q)))) (some (.int ((M 28 p) - (M 28 q)))) (fun j hj => by
                    rcases Nat.lt_or_ge j q with h | h
                    · exact hI j h
                    · obtain rfl : j = q := by omega
                      exact Or.inr ⟨fun h => h.1 c2, fun h => h.elim (fun h => c7 h.2) (fun h => c9 h.2)⟩)
                  rw [show unS M p (q + 1) = unS M p q + 0 from (if_neg c1).trans (if_neg c3)] at e9
                  exact e9
                · show Ev _ _ 257 _ _ _ _
                  refine ev_ik (v := 0) rfl (by decide) ?_
                  refine ev_rz rfl rfl (by decide) ?_ ?_
                  · exact some_i (zi_f (show ¬ ftM M p from fun h => (h.2.1 q hq).elim c1 (fun h3 => h3.2 (Or.inr ⟨c8, c9⟩)))).symm
                  · rfl
        · show Ev _ _ 203 _ _ _ _
          iterate 5 refine ev_s rfl ?_
          refine ev_s (ls' := [some (.ref 21), some (.int (nI p)), some (.int ((unS M p q) + ((cmn (M 30 p) (M 33 p) (M 30 q) (M 33 q)) * (cmn (M 32 p) (M 35 p) (M 32 q) (M 35 q))))), some (.int (nI q)), some (.int (cmn (M 30 p) (M 33 p) (M 30 q) (M 33 q))), some (.int (cmn (M 32 p) (M 35 p) (M 32 q) (M 35 q))), v6]) rfl ?_
          refine ev_s rfl ?_
          refine ev_gf (rd np M L (by omega) rfl) rfl rfl rfl ?_
          refine ev_s rfl ?_
          refine ev_ia (rd np M L (by omega) rfl) rfl (zin_nI (by omega) (by decide)) ?_
          refine ev_s rfl ?_
          refine ev_gf (rd np M L (by omega) rfl) rfl rfl rfl ?_
          refine ev_s rfl ?_
          refine ev_ia (rd np M L (by omega) rfl) rfl (zin_nI (by omega) (by decide)) ?_
          refine ev_s rfl ?_
          refine ev_s (ls' := [some (.ref 21), some (.int (nI p)), some (.int ((unS M p q) + ((cmn (M 30 p) (M 33 p) (M 30 q) (M 33 q)) * (cmn (M 32 p) (M 35 p) (M 32 q) (M 35 q))))), some (.int (nI q)), some (.int (cmn (M 30 p) (M 33 p) (M 30 q) (M 33 q))), some (.int (cmn (M 32 p) (M 35 p) (M 32 q) (M 35 q))), some (.int ((M 28 p) - (M 28 q)))]) rfl ?_
          refine ev_s rfl ?_
          refine ev_if rfl rfl (ev_br (zb_le _ _ _ _) (fun c10 => ?_) (fun c10 => ?_))
          · show Ev _ _ 243 _ _ _ _
            refine ev_s rfl ?_
            refine ev_if rfl rfl (ev_br (zb_ge _ _ _ _) (fun c11 => ?_) (fun c11 => ?_))
            · show Ev _ _ 259 _ _ _ _
              refine ev_inc (y := 1) (v := nI (q + 1)) (ls' := [some (.ref 21), some (.int (nI p)), some (.int ((unS M p q) + ((cmn (M 30 p) (M 33 p) (M 30 q) (M 33 q)) * (cmn (M 32 p) (M 35 p) (M 32 q) (M 35 q))))), some (.int (nI (q + 1))), some (.int (cmn (M 30 p) (M 33 p) (M 30 q) (M 33 q))), some (.int (cmn (M 32 p) (M 35 p) (M 32 q) (M 35 q))), some (.int ((M 28 p) - (M 28 q)))]) rfl rfl (by decide) (nI_1 _) rfl ?_
              refine ev_s rfl ?_
              have e9 := ih (q + 1) (by omega) (some (.int (cmn (M 30 p) (M 33 p) (M 30 q) (M 33 q)))) (some (.int (cmn (M 32 p) (M 35 p) (M 32 q) (M 35 q)))) (some (.int ((M 28 p) - (M 28 q)))) (fun j hj => by
                rcases Nat.lt_or_ge j q with h | h
                · exact hI j h
                · obtain rfl : j = q := by omega
                  exact Or.inr ⟨fun h => h.1 c2, fun h => h.elim (fun h => h.1 c10) (fun h => h.1 c11)⟩)
              rw [show unS M p (q + 1) = unS M p q + cmX M p q * cmZ M p q from (if_neg c1).trans (if_pos c3)] at e9
              exact e9
            · show Ev _ _ 248 _ _ _ _
              iterate 3 refine ev_s rfl ?_
              refine ev_cv (vs := [(.ref 21), (.int (nI q)), (.int (nI p))]) (rest := []) (rv := (some (.int (zi (mBf M q p))))) rfl rfl rfl (rd np M L (by omega) rfl) rfl rfl rfl rfl (rn_isBefore (a := q) (b := p) (by omega) (by omega) _) ?_
              show Ev _ _ 254 _ [(.int (zi (mBf M q p)))] _ _
              refine ev_if rfl rfl (ev_bze (fun c12 => ?_) (fun c12 => ?_))
              · show Ev _ _ 259 _ _ _ _
                refine ev_inc (y := 1) (v := nI (q + 1)) (ls' := [some (.ref 21), some (.int (nI p)), some (.int ((unS M p q) + ((cmn (M 30 p) (M 33 p) (M 30 q) (M 33 q)) * (cmn (M 32 p) (M 35 p) (M 32 q) (M 35 q))))), some (.int (nI (q + 1))), some (.int (cmn (M 30 p) (M 33 p) (M 30 q) (M 33 q))), some (.int (cmn (M 32 p) (M 35 p) (M 32 q) (M 35 q))), some (.int ((M 28 p) - (M 28 q)))]) rfl rfl (by decide) (nI_1 _) rfl ?_
                refine ev_s rfl ?_
                have e9 := ih (q + 1) (by omega) (some (.int (cmn (M 30 p) (M 33 p) (M 30 q) (M 33 q)))) (some (.int (cmn (M 32 p) (M 35 p) (M 32 q) (M 35 q)))) (some (.int ((M 28 p) - (M 28 q)))) (fun j hj => by
                  rcases Nat.lt_or_ge j q with h | h
                  · exact hI j h
                  · obtain rfl : j = q := by omega
                    exact Or.inr ⟨fun h => h.1 c2, fun h => h.elim (fun h => h.1 c10) (fun h => c12 h.2)⟩)
                rw [show unS M p (q + 1) = unS M p q + cmX M p q * cmZ M p q from (if_neg c1).trans (if_pos c3)] at e9
                exact e9
              · show Ev _ _ 257 _ _ _ _
                refine ev_ik (v := 0) rfl (by decide) ?_
                refine ev_rz rfl rfl (by decide) ?_ ?_
                · exact some_i (zi_f (show ¬ ftM M p from fun h => (h.2.1 q hq).elim c1 (fun h3 => h3.2 (Or.inr ⟨c11, c12⟩)))).symm
                · rfl
          · show Ev _ _ 234 _ _ _ _
            iterate 3 refine ev_s rfl ?_
            refine ev_cv (vs := [(.ref 21), (.int (nI p)), (.int (nI q))]) (rest := []) (rv := (some (.int (zi (mBf M p q))))) rfl rfl rfl (rd np M L (by omega) rfl) rfl rfl rfl rfl (rn_isBefore (a := p) (b := q) (by omega) (by omega) _) ?_
            show Ev _ _ 240 _ [(.int (zi (mBf M p q)))] _ _
            refine ev_if rfl rfl (ev_bzn (fun c13 => ?_) (fun c13 => ?_))
            · show Ev _ _ 257 _ _ _ _
              refine ev_ik (v := 0) rfl (by decide) ?_
              refine ev_rz rfl rfl (by decide) ?_ ?_
              · exact some_i (zi_f (show ¬ ftM M p from fun h => (h.2.1 q hq).elim c1 (fun h3 => h3.2 (Or.inl ⟨c10, c13⟩)))).symm
              · rfl
            · show Ev _ _ 243 _ _ _ _
              refine ev_s rfl ?_
              refine ev_if rfl rfl (ev_br (zb_ge _ _ _ _) (fun c14 => ?_) (fun c14 => ?_))
              · show Ev _ _ 259 _ _ _ _
                refine ev_inc (y := 1) (v := nI (q + 1)) (ls' := [some (.ref 21), some (.int (nI p)), some (.int ((unS M p q) + ((cmn (M 30 p) (M 33 p) (M 30 q) (M 33 q)) * (cmn (M 32 p) (M 35 p) (M 32 q) (M 35 q))))), some (.int (nI (q + 1))), some (.int (cmn (M 30 p) (M 33 p) (M 30 q) (M 33 q))), some (.int (cmn (M 32 p) (M 35 p) (M 32 q) (M 35 q))), some (.int ((M 28 p) - (M 28 q)))]) rfl rfl (by decide) (nI_1 _) rfl ?_
                refine ev_s rfl ?_
                have e9 := ih (q + 1) (by omega) (some (.int (cmn (M 30 p) (M 33 p) (M 30 q) (M 33 q)))) (some (.int (cmn (M 32 p) (M 35 p) (M 32 q) (M 35 q)))) (some (.int ((M 28 p) - (M 28 q)))) (fun j hj => by
                  rcases Nat.lt_or_ge j q with h | h
                  · exact hI j h
                  · obtain rfl : j = q := by omega
                    exact Or.inr ⟨fun h => h.1 c2, fun h => h.elim (fun h => c13 h.2) (fun h => h.1 c14)⟩)
                rw [show unS M p (q + 1) = unS M p q + cmX M p q * cmZ M p q from (if_neg c1).trans (if_pos c3)] at e9
                exact e9
              · show Ev _ _ 248 _ _ _ _
                iterate 3 refine ev_s rfl ?_
                refine ev_cv (vs := [(.ref 21), (.int (nI q)), (.int (nI p))]) (rest := []) (rv := (some (.int (zi (mBf M q p))))) rfl rfl rfl (rd np M L (by omega) rfl) rfl rfl rfl rfl (rn_isBefore (a := q) (b := p) (by omega) (by omega) _) ?_
                show Ev _ _ 254 _ [(.int (zi (mBf M q p)))] _ _
                refine ev_if rfl rfl (ev_bze (fun c15 => ?_) (fun c15 => ?_))
                · show Ev _ _ 259 _ _ _ _
                  refine ev_inc (y := 1) (v := nI (q + 1)) (ls' := [some (.ref 21), some (.int (nI p)), some (.int ((unS M p q) + ((cmn (M 30 p) (M 33 p) (M 30 q) (M 33 q)) * (cmn (M 32 p) (M 35 p) (M 32 q) (M 35 q))))), some (.int (nI (q + 1))), some (.int (cmn (M 30 p) (M 33 p) (M 30 q) (M 33 q))), some (.int (cmn (M 32 p) (M 35 p) (M 32 q) (M 35 q))), some (.int ((M 28 p) - (M 28 q)))]) rfl rfl (by decide) (nI_1 _) rfl ?_
                  refine ev_s rfl ?_
                  have e9 := ih (q + 1) (by omega) (some (.int (cmn (M 30 p) (M 33 p) (M 30 q) (M 33 q)))) (some (.int (cmn (M 32 p) (M 35 p) (M 32 q) (M 35 q)))) (some (.int ((M 28 p) - (M 28 q)))) (fun j hj => by
                    rcases Nat.lt_or_ge j q with h | h
                    · exact hI j h
                    · obtain rfl : j = q := by omega
                      exact Or.inr ⟨fun h => h.1 c2, fun h => h.elim (fun h => c13 h.2) (fun h => c15 h.2)⟩)
                  rw [show unS M p (q + 1) = unS M p q + cmX M p q * cmZ M p q from (if_neg c1).trans (if_pos c3)] at e9
                  exact e9
                · show Ev _ _ 257 _ _ _ _
                  refine ev_ik (v := 0) rfl (by decide) ?_
                  refine ev_rz rfl rfl (by decide) ?_ ?_
                  · exact some_i (zi_f (show ¬ ftM M p from fun h => (h.2.1 q hq).elim c1 (fun h3 => h3.2 (Or.inr ⟨c14, c15⟩)))).symm
                  · rfl
      · show Ev _ _ 143 _ _ _ _
        refine ev_s rfl ?_
        refine ev_if rfl rfl (ev_br (zb_le _ _ _ _) (fun c16 => ?_) (fun c16 => ?_))
        · show Ev _ _ 180 _ _ _ _
          iterate 2 refine ev_s rfl ?_
          refine ev_gf (rd np M L (by omega) rfl) rfl rfl rfl ?_
          refine ev_s rfl ?_
          refine ev_ia (rd np M L (by omega) rfl) rfl (zin_nI (by omega) (by decide)) ?_
          refine ev_s rfl ?_
          refine ev_gf (rd np M L (by omega) rfl) rfl rfl rfl ?_
          refine ev_s rfl ?_
          refine ev_ia (rd np M L (by omega) rfl) rfl (zin_nI (by omega) (by decide)) ?_
          iterate 2 refine ev_s rfl ?_
          refine ev_gf (rd np M L (by omega) rfl) rfl rfl rfl ?_
          refine ev_s rfl ?_
          refine ev_ia (rd np M L (by omega) rfl) rfl (zin_nI (by omega) (by decide)) ?_
          refine ev_ic rfl rfl (ev_bn (fun c17 => ?_) (fun c17 => ?_))
          · show Ev _ _ 211 _ _ _ _
            refine ev_ik (v := 0) rfl (by decide) ?_
            refine ev_s rfl ?_
            refine ev_s (ls' := [some (.ref 21), some (.int (nI p)), some (.int ((unS M p q) + 0)), some (.int (nI q)), some (.int (cmn (M 30 p) (M 33 p) (M 30 q) (M 33 q))), some (.int (cmn (M 32 p) (M 35 p) (M 32 q) (M 35 q))), v6]) rfl ?_
            refine ev_s rfl ?_
            refine ev_gf (rd np M L (by omega) rfl) rfl rfl rfl ?_
            refine ev_s rfl ?_
            refine ev_ia (rd np M L (by omega) rfl) rfl (zin_nI (by omega) (by decide)) ?_
            refine ev_s rfl ?_
            refine ev_gf (rd np M L (by omega) rfl) rfl rfl rfl ?_
            refine ev_s rfl ?_
            refine ev_ia (rd np M L (by omega) rfl) rfl (zin_nI (by omega) (by decide)) ?_
            refine ev_s rfl ?_
            refine ev_s (ls' := [some (.ref 21), some (.int (nI p)), some (.int ((unS M p q) + 0)), some (.int (nI q)), some (.int (cmn (M 30 p) (M 33 p) (M 30 q) (M 33 q))), some (.int (cmn (M 32 p) (M 35 p) (M 32 q) (M 35 q))), some (.int ((M 28 p) - (M 28 q)))]) rfl ?_
            refine ev_s rfl ?_
            refine ev_if rfl rfl (ev_br (zb_le _ _ _ _) (fun c18 => ?_) (fun c18 => ?_))
            · show Ev _ _ 243 _ _ _ _
              refine ev_s rfl ?_
              refine ev_if rfl rfl (ev_br (zb_ge _ _ _ _) (fun c19 => ?_) (fun c19 => ?_))
              · show Ev _ _ 259 _ _ _ _
                refine ev_inc (y := 1) (v := nI (q + 1)) (ls' := [some (.ref 21), some (.int (nI p)), some (.int ((unS M p q) + 0)), some (.int (nI (q + 1))), some (.int (cmn (M 30 p) (M 33 p) (M 30 q) (M 33 q))), some (.int (cmn (M 32 p) (M 35 p) (M 32 q) (M 35 q))), some (.int ((M 28 p) - (M 28 q)))]) rfl rfl (by decide) (nI_1 _) rfl ?_
                refine ev_s rfl ?_
                have e9 := ih (q + 1) (by omega) (some (.int (cmn (M 30 p) (M 33 p) (M 30 q) (M 33 q)))) (some (.int (cmn (M 32 p) (M 35 p) (M 32 q) (M 35 q)))) (some (.int ((M 28 p) - (M 28 q)))) (fun j hj => by
                  rcases Nat.lt_or_ge j q with h | h
                  · exact hI j h
                  · obtain rfl : j = q := by omega
                    exact Or.inr ⟨fun h => h.2.1 c16, fun h => h.elim (fun h => h.1 c18) (fun h => h.1 c19)⟩)
                rw [show unS M p (q + 1) = unS M p q + 0 from (if_neg c1).trans (if_neg c17)] at e9
                exact e9
              · show Ev _ _ 248 _ _ _ _
                iterate 3 refine ev_s rfl ?_
                refine ev_cv (vs := [(.ref 21), (.int (nI q)), (.int (nI p))]) (rest := []) (rv := (some (.int (zi (mBf M q p))))) rfl rfl rfl (rd np M L (by omega) rfl) rfl rfl rfl rfl (rn_isBefore (a := q) (b := p) (by omega) (by omega) _) ?_
                show Ev _ _ 254 _ [(.int (zi (mBf M q p)))] _ _
                refine ev_if rfl rfl (ev_bze (fun c20 => ?_) (fun c20 => ?_))
                · show Ev _ _ 259 _ _ _ _
                  refine ev_inc (y := 1) (v := nI (q + 1)) (ls' := [some (.ref 21), some (.int (nI p)), some (.int ((unS M p q) + 0)), some (.int (nI (q + 1))), some (.int (cmn (M 30 p) (M 33 p) (M 30 q) (M 33 q))), some (.int (cmn (M 32 p) (M 35 p) (M 32 q) (M 35 q))), some (.int ((M 28 p) - (M 28 q)))]) rfl rfl (by decide) (nI_1 _) rfl ?_
                  refine ev_s rfl ?_
                  have e9 := ih (q + 1) (by omega) (some (.int (cmn (M 30 p) (M 33 p) (M 30 q) (M 33 q)))) (some (.int (cmn (M 32 p) (M 35 p) (M 32 q) (M 35 q)))) (some (.int ((M 28 p) - (M 28 q)))) (fun j hj => by
                    rcases Nat.lt_or_ge j q with h | h
                    · exact hI j h
                    · obtain rfl : j = q := by omega
                      exact Or.inr ⟨fun h => h.2.1 c16, fun h => h.elim (fun h => h.1 c18) (fun h => c20 h.2)⟩)
                  rw [show unS M p (q + 1) = unS M p q + 0 from (if_neg c1).trans (if_neg c17)] at e9
                  exact e9
                · show Ev _ _ 257 _ _ _ _
                  refine ev_ik (v := 0) rfl (by decide) ?_
                  refine ev_rz rfl rfl (by decide) ?_ ?_
                  · exact some_i (zi_f (show ¬ ftM M p from fun h => (h.2.1 q hq).elim c1 (fun h3 => h3.2 (Or.inr ⟨c19, c20⟩)))).symm
                  · rfl
            · show Ev _ _ 234 _ _ _ _
              iterate 3 refine ev_s rfl ?_
              refine ev_cv (vs := [(.ref 21), (.int (nI p)), (.int (nI q))]) (rest := []) (rv := (some (.int (zi (mBf M p q))))) rfl rfl rfl (rd np M L (by omega) rfl) rfl rfl rfl rfl (rn_isBefore (a := p) (b := q) (by omega) (by omega) _) ?_
              show Ev _ _ 240 _ [(.int (zi (mBf M p q)))] _ _
              refine ev_if rfl rfl (ev_bzn (fun c21 => ?_) (fun c21 => ?_))
              · show Ev _ _ 257 _ _ _ _
                refine ev_ik (v := 0) rfl (by decide) ?_
                refine ev_rz rfl rfl (by decide) ?_ ?_
                · exact some_i (zi_f (show ¬ ftM M p from fun h => (h.2.1 q hq).elim c1 (fun h3 => h3.2 (Or.inl ⟨c18, c21⟩)))).symm
                · rfl
              · show Ev _ _ 243 _ _ _ _
                refine ev_s rfl ?_
                refine ev_if rfl rfl (ev_br (zb_ge _ _ _ _) (fun c22 => ?_) (fun c22 => ?_))
                · show Ev _ _ 259 _ _ _ _
                  refine ev_inc (y := 1) (v := nI (q + 1)) (ls' := [some (.ref 21), some (.int (nI p)), some (.int ((unS M p q) + 0)), some (.int (nI (q + 1))), some (.int (cmn (M 30 p) (M 33 p) (M 30 q) (M 33 q))), some (.int (cmn (M 32 p) (M 35 p) (M 32 q) (M 35 q))), some (.int ((M 28 p) - (M 28 q)))]) rfl rfl (by decide) (nI_1 _) rfl ?_
                  refine ev_s rfl ?_
                  have e9 := ih (q + 1) (by omega) (some (.int (cmn (M 30 p) (M 33 p) (M 30 q) (M 33 q)))) (some (.int (cmn (M 32 p) (M 35 p) (M 32 q) (M 35 q)))) (some (.int ((M 28 p) - (M 28 q)))) (fun j hj => by
                    rcases Nat.lt_or_ge j q with h | h
                    · exact hI j h
                    · obtain rfl : j = q := by omega
                      exact Or.inr ⟨fun h => h.2.1 c16, fun h => h.elim (fun h => c21 h.2) (fun h => h.1 c22)⟩)
                  rw [show unS M p (q + 1) = unS M p q + 0 from (if_neg c1).trans (if_neg c17)] at e9
                  exact e9
                · show Ev _ _ 248 _ _ _ _
                  iterate 3 refine ev_s rfl ?_
                  refine ev_cv (vs := [(.ref 21), (.int (nI q)), (.int (nI p))]) (rest := []) (rv := (some (.int (zi (mBf M q p))))) rfl rfl rfl (rd np M L (by omega) rfl) rfl rfl rfl rfl (rn_isBefore (a := q) (b := p) (by omega) (by omega) _) ?_
                  show Ev _ _ 254 _ [(.int (zi (mBf M q p)))] _ _
                  refine ev_if rfl rfl (ev_bze (fun c23 => ?_) (fun c23 => ?_))
                  · show Ev _ _ 259 _ _ _ _
                    refine ev_inc (y := 1) (v := nI (q + 1)) (ls' := [some (.ref 21), some (.int (nI p)), some (.int ((unS M p q) + 0)), some (.int (nI (q + 1))), some (.int (cmn (M 30 p) (M 33 p) (M 30 q) (M 33 q))), some (.int (cmn (M 32 p) (M 35 p) (M 32 q) (M 35 q))), some (.int ((M 28 p) - (M 28 q)))]) rfl rfl (by decide) (nI_1 _) rfl ?_
                    refine ev_s rfl ?_
                    have e9 := ih (q + 1) (by omega) (some (.int (cmn (M 30 p) (M 33 p) (M 30 q) (M 33 q)))) (some (.int (cmn (M 32 p) (M 35 p) (M 32 q) (M 35 q)))) (some (.int ((M 28 p) - (M 28 q)))) (fun j hj => by
                      rcases Nat.lt_or_ge j q with h | h
                      · exact hI j h
                      · obtain rfl : j = q := by omega
                        exact Or.inr ⟨fun h => h.2.1 c16, fun h => h.elim (fun h => c21 h.2) (fun h => c23 h.2)⟩)
                    rw [show unS M p (q + 1) = unS M p q + 0 from (if_neg c1).trans (if_neg c17)] at e9
                    exact e9
                  · show Ev _ _ 257 _ _ _ _
                    refine ev_ik (v := 0) rfl (by decide) ?_
                    refine ev_rz rfl rfl (by decide) ?_ ?_
                    · exact some_i (zi_f (show ¬ ftM M p from fun h => (h.2.1 q hq).elim c1 (fun h3 => h3.2 (Or.inr ⟨c22, c23⟩)))).symm
                    · rfl
          · show Ev _ _ 203 _ _ _ _
            iterate 5 refine ev_s rfl ?_
            refine ev_s (ls' := [some (.ref 21), some (.int (nI p)), some (.int ((unS M p q) + ((cmn (M 30 p) (M 33 p) (M 30 q) (M 33 q)) * (cmn (M 32 p) (M 35 p) (M 32 q) (M 35 q))))), some (.int (nI q)), some (.int (cmn (M 30 p) (M 33 p) (M 30 q) (M 33 q))), some (.int (cmn (M 32 p) (M 35 p) (M 32 q) (M 35 q))), v6]) rfl ?_
            refine ev_s rfl ?_
            refine ev_gf (rd np M L (by omega) rfl) rfl rfl rfl ?_
            refine ev_s rfl ?_
            refine ev_ia (rd np M L (by omega) rfl) rfl (zin_nI (by omega) (by decide)) ?_
            refine ev_s rfl ?_
            refine ev_gf (rd np M L (by omega) rfl) rfl rfl rfl ?_
            refine ev_s rfl ?_
            refine ev_ia (rd np M L (by omega) rfl) rfl (zin_nI (by omega) (by decide)) ?_
            refine ev_s rfl ?_
            refine ev_s (ls' := [some (.ref 21), some (.int (nI p)), some (.int ((unS M p q) + ((cmn (M 30 p) (M 33 p) (M 30 q) (M 33 q)) * (cmn (M 32 p) (M 35 p) (M 32 q) (M 35 q))))), some (.int (nI q)), some (.int (cmn (M 30 p) (M 33 p) (M 30 q) (M 33 q))), some (.int (cmn (M 32 p) (M 35 p) (M 32 q) (M 35 q))), some (.int ((M 28 p) - (M 28 q)))]) rfl ?_
            refine ev_s rfl ?_
            refine ev_if rfl rfl (ev_br (zb_le _ _ _ _) (fun c24 => ?_) (fun c24 => ?_))
            · show Ev _ _ 243 _ _ _ _
              refine ev_s rfl ?_
              refine ev_if rfl rfl (ev_br (zb_ge _ _ _ _) (fun c25 => ?_) (fun c25 => ?_))
              · show Ev _ _ 259 _ _ _ _
                refine ev_inc (y := 1) (v := nI (q + 1)) (ls' := [some (.ref 21), some (.int (nI p)), some (.int ((unS M p q) + ((cmn (M 30 p) (M 33 p) (M 30 q) (M 33 q)) * (cmn (M 32 p) (M 35 p) (M 32 q) (M 35 q))))), some (.int (nI (q + 1))), some (.int (cmn (M 30 p) (M 33 p) (M 30 q) (M 33 q))), some (.int (cmn (M 32 p) (M 35 p) (M 32 q) (M 35 q))), some (.int ((M 28 p) - (M 28 q)))]) rfl rfl (by decide) (nI_1 _) rfl ?_
                refine ev_s rfl ?_
                have e9 := ih (q + 1) (by omega) (some (.int (cmn (M 30 p) (M 33 p) (M 30 q) (M 33 q)))) (some (.int (cmn (M 32 p) (M 35 p) (M 32 q) (M 35 q)))) (some (.int ((M 28 p) - (M 28 q)))) (fun j hj => by
                  rcases Nat.lt_or_ge j q with h | h
                  · exact hI j h
                  · obtain rfl : j = q := by omega
                    exact Or.inr ⟨fun h => h.2.1 c16, fun h => h.elim (fun h => h.1 c24) (fun h => h.1 c25)⟩)
                rw [show unS M p (q + 1) = unS M p q + cmX M p q * cmZ M p q from (if_neg c1).trans (if_pos c17)] at e9
                exact e9
              · show Ev _ _ 248 _ _ _ _
                iterate 3 refine ev_s rfl ?_
                refine ev_cv (vs := [(.ref 21), (.int (nI q)), (.int (nI p))]) (rest := []) (rv := (some (.int (zi (mBf M q p))))) rfl rfl rfl (rd np M L (by omega) rfl) rfl rfl rfl rfl (rn_isBefore (a := q) (b := p) (by omega) (by omega) _) ?_
                show Ev _ _ 254 _ [(.int (zi (mBf M q p)))] _ _
                refine ev_if rfl rfl (ev_bze (fun c26 => ?_) (fun c26 => ?_))
                · show Ev _ _ 259 _ _ _ _
                  refine ev_inc (y := 1) (v := nI (q + 1)) (ls' := [some (.ref 21), some (.int (nI p)), some (.int ((unS M p q) + ((cmn (M 30 p) (M 33 p) (M 30 q) (M 33 q)) * (cmn (M 32 p) (M 35 p) (M 32 q) (M 35 q))))), some (.int (nI (q + 1))), some (.int (cmn (M 30 p) (M 33 p) (M 30 q) (M 33 q))), some (.int (cmn (M 32 p) (M 35 p) (M 32 q) (M 35 q))), some (.int ((M 28 p) - (M 28 q)))]) rfl rfl (by decide) (nI_1 _) rfl ?_
                  refine ev_s rfl ?_
                  have e9 := ih (q + 1) (by omega) (some (.int (cmn (M 30 p) (M 33 p) (M 30 q) (M 33 q)))) (some (.int (cmn (M 32 p) (M 35 p) (M 32 q) (M 35 q)))) (some (.int ((M 28 p) - (M 28 q)))) (fun j hj => by
                    rcases Nat.lt_or_ge j q with h | h
                    · exact hI j h
                    · obtain rfl : j = q := by omega
                      exact Or.inr ⟨fun h => h.2.1 c16, fun h => h.elim (fun h => h.1 c24) (fun h => c26 h.2)⟩)
                  rw [show unS M p (q + 1) = unS M p q + cmX M p q * cmZ M p q from (if_neg c1).trans (if_pos c17)] at e9
                  exact e9
                · show Ev _ _ 257 _ _ _ _
                  refine ev_ik (v := 0) rfl (by decide) ?_
                  refine ev_rz rfl rfl (by decide) ?_ ?_
                  · exact some_i (zi_f (show ¬ ftM M p from fun h => (h.2.1 q hq).elim c1 (fun h3 => h3.2 (Or.inr ⟨c25, c26⟩)))).symm
                  · rfl
            · show Ev _ _ 234 _ _ _ _
              iterate 3 refine ev_s rfl ?_
              refine ev_cv (vs := [(.ref 21), (.int (nI p)), (.int (nI q))]) (rest := []) (rv := (some (.int (zi (mBf M p q))))) rfl rfl rfl (rd np M L (by omega) rfl) rfl rfl rfl rfl (rn_isBefore (a := p) (b := q) (by omega) (by omega) _) ?_
              show Ev _ _ 240 _ [(.int (zi (mBf M p q)))] _ _
              refine ev_if rfl rfl (ev_bzn (fun c27 => ?_) (fun c27 => ?_))
              · show Ev _ _ 257 _ _ _ _
                refine ev_ik (v := 0) rfl (by decide) ?_
                refine ev_rz rfl rfl (by decide) ?_ ?_
                · exact some_i (zi_f (show ¬ ftM M p from fun h => (h.2.1 q hq).elim c1 (fun h3 => h3.2 (Or.inl ⟨c24, c27⟩)))).symm
                · rfl
              · show Ev _ _ 243 _ _ _ _
                refine ev_s rfl ?_
                refine ev_if rfl rfl (ev_br (zb_ge _ _ _ _) (fun c28 => ?_) (fun c28 => ?_))
                · show Ev _ _ 259 _ _ _ _
                  refine ev_inc (y := 1) (v := nI (q + 1)) (ls' := [some (.ref 21), some (.int (nI p)), some (.int ((unS M p q) + ((cmn (M 30 p) (M 33 p) (M 30 q) (M 33 q)) * (cmn (M 32 p) (M 35 p) (M 32 q) (M 35 q))))), some (.int (nI (q + 1))), some (.int (cmn (M 30 p) (M 33 p) (M 30 q) (M 33 q))), some (.int (cmn (M 32 p) (M 35 p) (M 32 q) (M 35 q))), some (.int ((M 28 p) - (M 28 q)))]) rfl rfl (by decide) (nI_1 _) rfl ?_
                  refine ev_s rfl ?_
                  have e9 := ih (q + 1) (by omega) (some (.int (cmn (M 30 p) (M 33 p) (M 30 q) (M 33 q)))) (some (.int (cmn (M 32 p) (M 35 p) (M 32 q) (M 35 q)))) (some (.int ((M 28 p) - (M 28 q)))) (fun j hj => by
                    rcases Nat.lt_or_ge j q with h | h
                    · exact hI j h
                    · obtain rfl : j = q := by omega
                      exact Or.inr ⟨fun h => h.2.1 c16, fun h => h.elim (fun h => c27 h.2) (fun h => h.1 c28)⟩)
                  rw [show unS M p (q + 1) = unS M p q + cmX M p q * cmZ M p q from (if_neg c1).trans (if_pos c17)] at e9
                  exact e9
                · show Ev _ _ 248 _ _ _ _
                  iterate 3 refine ev_s rfl ?_
                  refine ev_cv (vs := [(.ref 21), (.int (nI q)), (.int (nI p))]) (rest := []) (rv := (some (.int (zi (mBf M q p))))) rfl rfl rfl (rd np M L (by omega) rfl) rfl rfl rfl rfl (rn_isBefore (a := q) (b := p) (by omega) (by omega) _) ?_
                  show Ev _ _ 254 _ [(.int (zi (mBf M q p)))] _ _
                  refine ev_if rfl rfl (ev_bze (fun c29 => ?_) (fun c29 => ?_))
                  · show Ev _ _ 259 _ _ _ _
                    refine ev_inc (y := 1) (v := nI (q + 1)) (ls' := [some (.ref 21), some (.int (nI p)), some (.int ((unS M p q) + ((cmn (M 30 p) (M 33 p) (M 30 q) (M 33 q)) * (cmn (M 32 p) (M 35 p) (M 32 q) (M 35 q))))), some (.int (nI (q + 1))), some (.int (cmn (M 30 p) (M 33 p) (M 30 q) (M 33 q))), some (.int (cmn (M 32 p) (M 35 p) (M 32 q) (M 35 q))), some (.int ((M 28 p) - (M 28 q)))]) rfl rfl (by decide) (nI_1 _) rfl ?_
                    refine ev_s rfl ?_
                    have e9 := ih (q + 1) (by omega) (some (.int (cmn (M 30 p) (M 33 p) (M 30 q) (M 33 q)))) (some (.int (cmn (M 32 p) (M 35 p) (M 32 q) (M 35 q)))) (some (.int ((M 28 p) - (M 28 q)))) (fun j hj => by
                      rcases Nat.lt_or_ge j q with h | h
                      · exact hI j h
                      · obtain rfl : j = q := by omega
                        exact Or.inr ⟨fun h => h.2.1 c16, fun h => h.elim (fun h => c27 h.2) (fun h => c29 h.2)⟩)
                    rw [show unS M p (q + 1) = unS M p q + cmX M p q * cmZ M p q from (if_neg c1).trans (if_pos c17)] at e9
                    exact e9
                  · show Ev _ _ 257 _ _ _ _
                    refine ev_ik (v := 0) rfl (by decide) ?_
                    refine ev_rz rfl rfl (by decide) ?_ ?_
                    · exact some_i (zi_f (show ¬ ftM M p from fun h => (h.2.1 q hq).elim c1 (fun h3 => h3.2 (Or.inr ⟨c28, c29⟩)))).symm
                    · rfl
        · show Ev _ _ 148 _ _ _ _
          refine ev_s rfl ?_
          refine ev_gf (rd np M L (by omega) rfl) rfl rfl rfl ?_
          refine ev_s rfl ?_
          refine ev_ia (rd np M L (by omega) rfl) rfl (zin_nI (by omega) (by decide)) ?_
          refine ev_s rfl ?_
          refine ev_gf (rd np M L (by omega) rfl) rfl rfl rfl ?_
          refine ev_s rfl ?_
          refine ev_ia (rd np M L (by omega) rfl) rfl (zin_nI (by omega) (by decide)) ?_
          refine ev_s rfl ?_
          refine ev_gf (rd np M L (by omega) rfl) rfl rfl rfl ?_
          refine ev_s rfl ?_
          refine ev_ia (rd np M L (by omega) rfl) rfl (zin_nI (by omega) (by decide)) ?_
          refine ev_s rfl ?_
          refine ev_gf (rd np M L (by omega) rfl) rfl rfl rfl ?_
          refine ev_s rfl ?_
          refine ev_ia (rd np M L (by omega) rfl) rfl (zin_nI (by omega) (by decide)) ?_
          refine ev_cs (vs := [(.int (M 31 p)), (.int (M 34 p)), (.int (M 31 q)), (.int (M 34 q))]) (rest := []) (rv := (some (.int (cmn (M 31 p) (M 34 p) (M 31 q) (M 34 q))))) rfl rfl rfl rfl rfl (rn_common _) ?_
          show Ev _ _ 175 _ [(.int (cmn (M 31 p) (M 34 p) (M 31 q) (M 34 q)))] _ _
          refine ev_if rfl rfl (ev_br (zb_le _ _ _ _) (fun c30 => ?_) (fun c30 => ?_))
          · show Ev _ _ 180 _ _ _ _
            iterate 2 refine ev_s rfl ?_
            refine ev_gf (rd np M L (by omega) rfl) rfl rfl rfl ?_
            refine ev_s rfl ?_
            refine ev_ia (rd np M L (by omega) rfl) rfl (zin_nI (by omega) (by decide)) ?_
            refine ev_s rfl ?_
            refine ev_gf (rd np M L (by omega) rfl) rfl rfl rfl ?_
            refine ev_s rfl ?_
            refine ev_ia (rd np M L (by omega) rfl) rfl (zin_nI (by omega) (by decide)) ?_
            iterate 2 refine ev_s rfl ?_
            refine ev_gf (rd np M L (by omega) rfl) rfl rfl rfl ?_
            refine ev_s rfl ?_
            refine ev_ia (rd np M L (by omega) rfl) rfl (zin_nI (by omega) (by decide)) ?_
            refine ev_ic rfl rfl (ev_bn (fun c31 => ?_) (fun c31 => ?_))
            · show Ev _ _ 211 _ _ _ _
              refine ev_ik (v := 0) rfl (by decide) ?_
              refine ev_s rfl ?_
              refine ev_s (ls' := [some (.ref 21), some (.int (nI p)), some (.int ((unS M p q) + 0)), some (.int (nI q)), some (.int (cmn (M 30 p) (M 33 p) (M 30 q) (M 33 q))), some (.int (cmn (M 32 p) (M 35 p) (M 32 q) (M 35 q))), v6]) rfl ?_
              refine ev_s rfl ?_
              refine ev_gf (rd np M L (by omega) rfl) rfl rfl rfl ?_
              refine ev_s rfl ?_
              refine ev_ia (rd np M L (by omega) rfl) rfl (zin_nI (by omega) (by decide)) ?_
              refine ev_s rfl ?_
              refine ev_gf (rd np M L (by omega) rfl) rfl rfl rfl ?_
              refine ev_s rfl ?_
              refine ev_ia (rd np M L (by omega) rfl) rfl (zin_nI (by omega) (by decide)) ?_
              refine ev_s rfl ?_
              refine ev_s (ls' := [some (.ref 21), some (.int (nI p)), some (.int ((unS M p q) + 0)), some (.int (nI q)), some (.int (cmn (M 30 p) (M 33 p) (M 30 q) (M 33 q))), some (.int (cmn (M 32 p) (M 35 p) (M 32 q) (M 35 q))), some (.int ((M 28 p) - (M 28 q)))]) rfl ?_
              refine ev_s rfl ?_
              refine ev_if rfl rfl (ev_br (zb_le _ _ _ _) (fun c32 => ?_) (fun c32 => ?_))
              · show Ev _ _ 243 _ _ _ _
                refine ev_s rfl ?_
                refine ev_if rfl rfl (ev_br (zb_ge _ _ _ _) (fun c33 => ?_) (fun c33 => ?_))
                · show Ev _ _ 259 _ _ _ _
                  refine ev_inc (y := 1) (v := nI (q + 1)) (ls' := [some (.ref 21), some (.int (nI p)), some (.int ((unS M p q) + 0)), some (.int (nI (q + 1))), some (.int (cmn (M 30 p) (M 33 p) (M 30 q) (M 33 q))), some (.int (cmn (M 32 p) (M 35 p) (M 32 q) (M 35 q))), some (.int ((M 28 p) - (M 28 q)))]) rfl rfl (by decide) (nI_1 _) rfl ?_
                  refine ev_s rfl ?_
                  have e9 := ih (q + 1) (by omega) (some (.int (cmn (M 30 p) (M 33 p) (M 30 q) (M 33 q)))) (some (.int (cmn (M 32 p) (M 35 p) (M 32 q) (M 35 q)))) (some (.int ((M 28 p) - (M 28 q)))) (fun j hj => by
                    rcases Nat.lt_or_ge j q with h | h
                    · exact hI j h
                    · obtain rfl : j = q := by omega
                      exact Or.inr ⟨fun h => h.2.2 c30, fun h => h.elim (fun h => h.1 c32) (fun h => h.1 c33)⟩)
                  rw [show unS M p (q + 1) = unS M p q + 0 from (if_neg c1).trans (if_neg c31)] at e9
                  exact e9
                · show Ev _ _ 248 _ _ _ _
                  iterate 3 refine ev_s rfl ?_
                  refine ev_cv (vs := [(.ref 21), (.int (nI q)), (.int (nI p))]) (rest := []) (rv := (some (.int (zi (mBf M q p))))) rfl rfl rfl (rd np M L (by omega) rfl) rfl rfl rfl rfl (rn_isBefore (a := q) (b := p) (by omega) (by omega) _) ?_
                  show Ev _ _ 254 _ [(.int (zi (mBf M q p)))] _ _
                  refine ev_if rfl rfl (ev_bze (fun c34 => ?_) (fun c34 => ?_))
                  · show Ev _ _ 259 _ _ _ _
                    refine ev_inc (y := 1) (v := nI (q + 1)) (ls' := [some (.ref 21), some (.int (nI p)), some (.int ((unS M p q) + 0)), some (.int (nI (q + 1))), some (.int (cmn (M 30 p) (M 33 p) (M 30 q) (M 33 q))), some (.int (cmn (M 32 p) (M 35 p) (M 32 q) (M 35 q))), some (.int ((M 28 p) - (M 28 q)))]) rfl rfl (by decide) (nI_1 _) rfl ?_
                    refine ev_s rfl ?_
                    have e9 := ih (q + 1) (by omega) (some (.int (cmn (M 30 p) (M 33 p) (M 30 q) (M 33 q)))) (some (.int (cmn (M 32 p) (M 35 p) (M 32 q) (M 35 q)))) (some (.int ((M 28 p) - (M 28 q)))) (fun j hj => by
                      rcases Nat.lt_or_ge j q with h | h
                      · exact hI j h
                      · obtain rfl : j = q := by omega
                        exact Or.inr ⟨fun h => h.2.2 c30, fun h => h.elim (fun h => h.1 c32) (fun h => c34 h.2)⟩)
                    rw [show unS M p (q + 1) = unS M p q + 0 from (if_neg c1).trans (if_neg c31)] at e9
                    exact e9
                  · show Ev _ _ 257 _ _ _ _
                    refine ev_ik (v := 0) rfl (by decide) ?_
                    refine ev_rz rfl rfl (by decide) ?_ ?_
                    · exact some_i (zi_f (show ¬ ftM M p from fun h => (h.2.1 q hq).elim c1 (fun h3 => h3.2 (Or.inr ⟨c33, c34⟩)))).symm
                    · rfl
              · show Ev _ _ 234 _ _ _ _
                iterate 3 refine ev_s rfl ?_
                refine ev_cv (vs := [(.ref 21), (.int (nI p)), (.int (nI q))]) (rest := []) (rv := (some (.int (zi (mBf M p q))))) rfl rfl rfl (rd np M L (by omega) rfl) rfl rfl rfl rfl (rn_isBefore (a := p) (b := q) (by omega) (by omega) _) ?_
                show Ev _ _ 240 _ [(.int (zi (mBf M p q)))] _ _
                refine ev_if rfl rfl (ev_bzn (fun c35 => ?_) (fun c35 => ?_))
                · show Ev _ _ 257 _ _ _ _
                  refine ev_ik (v := 0) rfl (by decide) ?_
                  refine ev_rz rfl rfl (by decide) ?_ ?_
                  · exact some_i (zi_f (show ¬ ftM M p from fun h => (h.2.1 q hq).elim c1 (fun h3 => h3.2 (Or.inl ⟨c32, c35⟩)))).symm
                  · rfl
                · show Ev _ _ 243 _ _ _ _
                  refine ev_s rfl ?_
                  refine ev_if rfl rfl (ev_br (zb_ge _ _ _ _) (fun c36 => ?_) (fun c36 => ?_))
                  · show Ev _ _ 259 _ _ _ _
                    refine ev_inc (y := 1) (v := nI (q + 1)) (ls' := [some (.ref 21), some (.int (nI p)), some (.int ((unS M p q) + 0)), some (.int (nI (q + 1))), some (.int (cmn (M 30 p) (M 33 p) (M 30 q) (M 33 q))), some (.int (cmn (M 32 p) (M 35 p) (M 32 q) (M 35 q))), some (.int ((M 28 p) - (M 28 q)))]) rfl rfl (by decide) (nI_1 _) rfl ?_
                    refine ev_s rfl ?_
                    have e9 := ih (q + 1) (by omega) (some (.int (cmn (M 30 p) (M 33 p) (M 30 q) (M 33 q)))) (some (.int (cmn (M 32 p) (M 35 p) (M 32 q) (M 35 q)))) (some (.int ((M 28 p) - (M 28 q)))) (fun j hj => by
                      rcases Nat.lt_or_ge j q with h | h
                      · exact hI j h
                      · obtain rfl : j = q := by omega
                        exact Or.inr ⟨fun h => h.2.2 c30, fun h => h.elim (fun h => c35 h.2) (fun h => h.1 c36)⟩)
                    rw [show unS M p (q + 1) = unS M p q + 0 from (if_neg c1).trans (if_neg c31)] at e9
                    exact e9
                  · show Ev _ _ 248 _ _ _ _
                    iterate 3 refine ev_s rfl ?_
                    refine ev_cv (vs := [(.ref 21), (.int (nI q)), (.int (nI p))]) (rest := []) (rv := (some (.int (zi (mBf M q p))))) rfl rfl rfl (rd np M L (by omega) rfl) rfl rfl rfl rfl (rn_isBefore (a := q) (b := p) (by omega) (by omega) _) ?_
                    show Ev _ _ 254 _ [(.int (zi (mBf M q p)))] _ _
                    refine ev_if rfl rfl (ev_bze (fun c37 => ?_) (fun c37 => ?_))
                    · show Ev _ _ 259 _ _ _ _
                      refine ev_inc (y := 1) (v := nI (q + 1)) (ls' := [some (.ref 21), some (.int (nI p)), some (.int ((unS M p q) + 0)), some (.int (nI (q + 1))), some (.int (cmn (M 30 p) (M 33 p) (M 30 q) (M 33 q))), some (.int (cmn (M 32 p) (M 35 p) (M 32 q) (M 35 q))), some (.int ((M 28 p) - (M 28 q)))]) rfl rfl (by decide) (nI_1 _) rfl ?_
                      refine ev_s rfl ?_
                      have e9 := ih (q + 1) (by omega) (some (.int (cmn (M 30 p) (M 33 p) (M 30 q) (M 33 q)))) (some (.int (cmn (M 32 p) (M 35 p) (M 32 q) (M 35 q)))) (some (.int ((M 28 p) - (M 28 q)))) (fun j hj => by
                        rcases Nat.lt_or_ge j q with h | h
                        · exact hI j h
                        · obtain rfl : j = q := by omega
                          exact Or.inr ⟨fun h => h.2.2 c30, fun h => h.elim (fun h => c35 h.2) (fun h => c37 h.2)⟩)
                      rw [show unS M p (q + 1) = unS M p q + 0 from (if_neg c1).trans (if_neg c31)] at e9
                      exact e9
                    · show Ev _ _ 257 _ _ _ _
                      refine ev_ik (v := 0) rfl (by decide) ?_
                      refine ev_rz rfl rfl (by decide) ?_ ?_
                      · exact some_i (zi_f (show ¬ ftM M p from fun h => (h.2.1 q hq).elim c1 (fun h3 => h3.2 (Or.inr ⟨c36, c37⟩)))).symm
                      · rfl
            · show Ev _ _ 203 _ _ _ _
              iterate 5 refine ev_s rfl ?_
              refine ev_s (ls' := [some (.ref 21), some (.int (nI p)), some (.int ((unS M p q) + ((cmn (M 30 p) (M 33 p) (M 30 q) (M 33 q)) * (cmn (M 32 p) (M 35 p) (M 32 q) (M 35 q))))), some (.int (nI q)), some (.int (cmn (M 30 p) (M 33 p) (M 30 q) (M 33 q))), some (.int (cmn (M 32 p) (M 35 p) (M 32 q) (M 35 q))), v6]) rfl ?_
              refine ev_s rfl ?_
              refine ev_gf (rd np M L (by omega) rfl) rfl rfl rfl ?_
              refine ev_s rfl ?_
              refine ev_ia (rd np M L (by omega) rfl) rfl (zin_nI (by omega) (by decide)) ?_
              refine ev_s rfl ?_
              refine ev_gf (rd np M L (by omega) rfl) rfl rfl rfl ?_
              refine ev_s rfl ?_
              refine ev_ia (rd np M L (by omega) rfl) rfl (zin_nI (by omega) (by decide)) ?_
              refine ev_s rfl ?_
              refine ev_s (ls' := [some (.ref 21), some (.int (nI p)), some (.int ((unS M p q) + ((cmn (M 30 p) (M 33 p) (M 30 q) (M 33 q)) * (cmn (M 32 p) (M 35 p) (M 32 q) (M 35 q))))), some (.int (nI q)), some (.int (cmn (M 30 p) (M 33 p) (M 30 q) (M 33 q))), some (.int (cmn (M 32 p) (M 35 p) (M 32 q) (M 35 q))), some (.int ((M 28 p) - (M 28 q)))]) rfl ?_
              refine ev_s rfl ?_
              refine ev_if rfl rfl (ev_br (zb_le _ _ _ _) (fun c38 => ?_) (fun c38 => ?_))
              · show Ev _ _ 243 _ _ _ _
                refine ev_s rfl ?_
                refine ev_if rfl rfl (ev_br (zb_ge _ _ _ _) (fun c39 => ?_) (fun c39 => ?_))
                · show Ev _ _ 259 _ _ _ _
                  refine ev_inc (y := 1) (v := nI (q + 1)) (ls' := [some (.ref 21), some (.int (nI p)), some (.int ((unS M p q) + ((cmn (M 30 p) (M 33 p) (M 30 q) (M 33 q)) * (cmn (M 32 p) (M 35 p) (M 32 q) (M 35 q))))), some (.int (nI (q + 1))), some (.int (cmn (M 30 p) (M 33 p) (M 30 q) (M 33 q))), some (.int (cmn (M 32 p) (M 35 p) (M 32 q) (M 35 q))), some (.int ((M 28 p) - (M 28 q)))]) rfl rfl (by decide) (nI_1 _) rfl ?_
                  refine ev_s rfl ?_
                  have e9 := ih (q + 1) (by omega) (some (.int (cmn (M 30 p) (M 33 p) (M 30 q) (M 33 q)))) (some (.int (cmn (M 32 p) (M 35 p) (M 32 q) (M 35 q)))) (some (.int ((M 28 p) - (M 28 q)))) (fun j hj => by
                    rcases Nat.lt_or_ge j q with h | h
                    · exact hI j h
                    · obtain rfl : j = q := by omega
                      exact Or.inr ⟨fun h => h.2.2 c30, fun h => h.elim (fun h => h.1 c38) (fun h => h.1 c39)⟩)
                  rw [show unS M p (q + 1) = unS M p q + cmX M p q * cmZ M p q from (if_neg c1).trans (if_pos c31)] at e9
                  exact e9
                · show Ev _ _ 248 _ _ _ _
                  iterate 3 refine ev_s rfl ?_
                  refine ev_cv (vs := [(.ref 21), (.int (nI q)), (.int (nI p))]) (rest := []) (rv := (some (.int (zi (mBf M q p))))) rfl rfl rfl (rd np M L (by omega) rfl) rfl rfl rfl rfl (rn_isBefore (a := q) (b := p) (by omega) (by omega) _) ?_
                  show Ev _ _ 254 _ [(.int (zi (mBf M q p)))] _ _
                  refine ev_if rfl rfl (ev_bze (fun c40 => ?_) (fun c40 => ?_))
                  · show Ev _ _ 259 _ _ _ _
                    refine ev_inc (y := 1) (v := nI (q + 1)) (ls' := [some (.ref 21), some (.int (nI p)), some (.int ((unS M p q) + ((cmn (M 30 p) (M 33 p) (M 30 q) (M 33 q)) * (cmn (M 32 p) (M 35 p) (M 32 q) (M 35 q))))), some (.int (nI (q + 1))), some (.int (cmn (M 30 p) (M 33 p) (M 30 q) (M 33 q))), some (.int (cmn (M 32 p) (M 35 p) (M 32 q) (M 35 q))), some (.int ((M 28 p) - (M 28 q)))]) rfl rfl (by decide) (nI_1 _) rfl ?_
                    refine ev_s rfl ?_
                    have e9 := ih (q + 1) (by omega) (some (.int (cmn (M 30 p) (M 33 p) (M 30 q) (M 33 q)))) (some (.int (cmn (M 32 p) (M 35 p) (M 32 q) (M 35 q)))) (some (.int ((M 28 p) - (M 28 q)))) (fun j hj => by
                      rcases Nat.lt_or_ge j q with h | h
                      · exact hI j h
                      · obtain rfl : j = q := by omega
                        exact Or.inr ⟨fun h => h.2.2 c30, fun h => h.elim (fun h => h.1 c38) (fun h => c40 h.2)⟩)
                    rw [show unS M p (q + 1) = unS M p q + cmX M p q * cmZ M p q from (if_neg c1).trans (if_pos c31)] at e9
                    exact e9
                  · show Ev _ _ 257 _ _ _ _
                    refine ev_ik (v := 0) rfl (by decide) ?_
                    refine ev_rz rfl rfl (by decide) ?_ ?_
                    · exact some_i (zi_f (show ¬ ftM M p from fun h => (h.2.1 q hq).elim c1 (fun h3 => h3.2 (Or.inr ⟨c39, c40⟩)))).symm
                    · rfl
              · show Ev _ _ 234 _ _ _ _
                iterate 3 refine ev_s rfl ?_
                refine ev_cv (vs := [(.ref 21), (.int (nI p)), (.int (nI q))]) (rest := []) (rv := (some (.int (zi (mBf M p q))))) rfl rfl rfl (rd np M L (by omega) rfl) rfl rfl rfl rfl (rn_isBefore (a := p) (b := q) (by omega) (by omega) _) ?_
                show Ev _ _ 240 _ [(.int (zi (mBf M p q)))] _ _
                refine ev_if rfl rfl (ev_bzn (fun c41 => ?_) (fun c41 => ?_))
                · show Ev _ _ 257 _ _ _ _
                  refine ev_ik (v := 0) rfl (by decide) ?_
                  refine ev_rz rfl rfl (by decide) ?_ ?_
                  · exact some_i (zi_f (show ¬ ftM M p from fun h => (h.2.1 q hq).elim c1 (fun h3 => h3.2 (Or.inl ⟨c38, c41⟩)))).symm
                  · rfl
                · show Ev _ _ 243 _ _ _ _
                  refine ev_s rfl ?_
                  refine ev_if rfl rfl (ev_br (zb_ge _ _ _ _) (fun c42 => ?_) (fun c42 => ?_))
                  · show Ev _ _ 259 _ _ _ _
                    refine ev_inc (y := 1) (v := nI (q + 1)) (ls' := [some (.ref 21), some (.int (nI p)), some (.int ((unS M p q) + ((cmn (M 30 p) (M 33 p) (M 30 q) (M 33 q)) * (cmn (M 32 p) (M 35 p) (M 32 q) (M 35 q))))), some (.int (nI (q + 1))), some (.int (cmn (M 30 p) (M 33 p) (M 30 q) (M 33 q))), some (.int (cmn (M 32 p) (M 35 p) (M 32 q) (M 35 q))), some (.int ((M 28 p) - (M 28 q)))]) rfl rfl (by decide) (nI_1 _) rfl ?_
                    refine ev_s rfl ?_
                    have e9 := ih (q + 1) (by omega) (some (.int (cmn (M 30 p) (M 33 p) (M 30 q) (M 33 q)))) (some (.int (cmn (M 32 p) (M 35 p) (M 32 q) (M 35 q)))) (some (.int ((M 28 p) - (M 28 q)))) (fun j hj => by
                      rcases Nat.lt_or_ge j q with h | h
                      · exact hI j h
                      · obtain rfl : j = q := by omega
                        exact Or.inr ⟨fun h => h.2.2 c30, fun h => h.elim (fun h => c41 h.2) (fun h => h.1 c42)⟩)
                    rw [show unS M p (q + 1) = unS M p q + cmX M p q * cmZ M p q from (if_neg c1).trans (if_pos c31)] at e9
                    exact e9
                  · show Ev _ _ 248 _ _ _ _
                    iterate 3 refine ev_s rfl ?_
                    refine ev_cv (vs := [(.ref 21), (.int (nI q)), (.int (nI p))]) (rest := []) (rv := (some (.int (zi (mBf M q p))))) rfl rfl rfl (rd np M L (by omega) rfl) rfl rfl rfl rfl (rn_isBefore (a := q) (b := p) (by omega) (by omega) _) ?_
                    show Ev _ _ 254 _ [(.int (zi (mBf M q p)))] _ _
                    refine ev_if rfl rfl (ev_bze (fun c43 => ?_) (fun c43 => ?_))
                    · show Ev _ _ 259 _ _ _ _
                      refine ev_inc (y := 1) (v := nI (q + 1)) (ls' := [some (.ref 21), some (.int (nI p)), some (.int ((unS M p q) + ((cmn (M 30 p) (M 33 p) (M 30 q) (M 33 q)) * (cmn (M 32 p) (M 35 p) (M 32 q) (M 35 q))))), some (.int (nI (q + 1))), some (.int (cmn (M 30 p) (M 33 p) (M 30 q) (M 33 q))), some (.int (cmn (M 32 p) (M 35 p) (M 32 q) (M 35 q))), some (.int ((M 28 p) - (M 28 q)))]) rfl rfl (by decide) (nI_1 _) rfl ?_
                      refine ev_s rfl ?_
                      have e9 := ih (q + 1) (by omega) (some (.int (cmn (M 30 p) (M 33 p) (M 30 q) (M 33 q)))) (some (.int (cmn (M 32 p) (M 35 p) (M 32 q) (M 35 q)))) (some (.int ((M 28 p) - (M 28 q)))) (fun j hj => by
                        rcases Nat.lt_or_ge j q with h | h
                        · exact hI j h
                        · obtain rfl : j = q := by omega
                          exact Or.inr ⟨fun h => h.2.2 c30, fun h => h.elim (fun h => c41 h.2) (fun h => c43 h.2)⟩)
                      rw [show unS M p (q + 1) = unS M p q + cmX M p q * cmZ M p q from (if_neg c1).trans (if_pos c31)] at e9
                      exact e9
                    · show Ev _ _ 257 _ _ _ _
                      refine ev_ik (v := 0) rfl (by decide) ?_
                      refine ev_rz rfl rfl (by decide) ?_ ?_
                      · exact some_i (zi_f (show ¬ ftM M p from fun h => (h.2.1 q hq).elim c1 (fun h3 => h3.2 (Or.inr ⟨c42, c43⟩)))).symm
                      · rfl
          · show Ev _ _ 178 _ _ _ _
            refine ev_ik (v := 0) rfl (by decide) ?_
            refine ev_rz rfl rfl (by decide) ?_ ?_
            · exact some_i (zi_f (show ¬ ftM M p from fun h => (h.2.1 q hq).elim c1 (fun h3 => h3.1 ⟨c2, c16, c30⟩))).symm
            · rfl
set_option maxHeartbeats 4000000 in
theorem rn_fits {np : Nat} {M : Nat → Nat → Int32} {L : Nat → Int64} {p : Nat} (hp : p < 6) (d : Nat) : Rn (d + 3) mX6_fits [(.ref 21), (.int (nI p))] (mk np M L) (some (.int (zi (ftM M p)))) (mk np M L) := by
  unfold Rn
  refine ev_s rfl ?_
  refine ev_gf (rd np M L (by omega) rfl) rfl rfl rfl ?_
  refine ev_s rfl ?_
  refine ev_ia (rd np M L (by omega) rfl) rfl (zin_nI (by omega) (by decide)) ?_
  refine ev_s rfl ?_
  refine ev_gf (rd np M L (by omega) rfl) rfl rfl rfl ?_
  refine ev_s rfl ?_
  refine ev_ia (rd np M L (by omega) rfl) rfl (zin_nI (by omega) (by decide)) ?_
  iterate 2 refine ev_s rfl ?_
  refine ev_gf (rd np M L (by omega) rfl) rfl rfl rfl ?_
  refine ev_ic rfl rfl (ev_br (zb_gt _ _ _ _) (fun c1 => ?_) (fun c1 => ?_))
  · show Ev _ _ 60 _ _ _ _
    refine ev_ik (v := 0) rfl (by decide) ?_
    refine ev_rz rfl rfl (by decide) ?_ ?_
    · exact some_i (zi_f (show ¬ ftM M p from fun h => h.1.1 c1)).symm
    · rfl
  · show Ev _ _ 20 _ _ _ _
    refine ev_s rfl ?_
    refine ev_gf (rd np M L (by omega) rfl) rfl rfl rfl ?_
    refine ev_s rfl ?_
    refine ev_ia (rd np M L (by omega) rfl) rfl (zin_nI (by omega) (by decide)) ?_
    refine ev_s rfl ?_
    refine ev_gf (rd np M L (by omega) rfl) rfl rfl rfl ?_
    refine ev_s rfl ?_
    refine ev_ia (rd np M L (by omega) rfl) rfl (zin_nI (by omega) (by decide)) ?_
    iterate 2 refine ev_s rfl ?_
    refine ev_gf (rd np M L (by omega) rfl) rfl rfl rfl ?_
    refine ev_ic rfl rfl (ev_br (zb_gt _ _ _ _) (fun c2 => ?_) (fun c2 => ?_))
    · show Ev _ _ 60 _ _ _ _
      refine ev_ik (v := 0) rfl (by decide) ?_
      refine ev_rz rfl rfl (by decide) ?_ ?_
      · exact some_i (zi_f (show ¬ ftM M p from fun h => h.1.2.1 c2)).symm
      · rfl
    · show Ev _ _ 40 _ _ _ _
      refine ev_s rfl ?_
      refine ev_gf (rd np M L (by omega) rfl) rfl rfl rfl ?_
      refine ev_s rfl ?_
      refine ev_ia (rd np M L (by omega) rfl) rfl (zin_nI (by omega) (by decide)) ?_
      refine ev_s rfl ?_
      refine ev_gf (rd np M L (by omega) rfl) rfl rfl rfl ?_
      refine ev_s rfl ?_
      refine ev_ia (rd np M L (by omega) rfl) rfl (zin_nI (by omega) (by decide)) ?_
      iterate 2 refine ev_s rfl ?_
      refine ev_gf (rd np M L (by omega) rfl) rfl rfl rfl ?_
      refine ev_ic rfl rfl (ev_br (zb_le _ _ _ _) (fun c3 => ?_) (fun c3 => ?_))
      · show Ev _ _ 62 _ _ _ _
        refine ev_ik (v := 0) rfl (by decide) ?_
        refine ev_s (ls' := [some (.ref 21), some (.int (nI p)), some (.int 0), none, none, none, none]) rfl ?_
        refine ev_ik (v := 0) rfl (by decide) ?_
        refine ev_s (ls' := [some (.ref 21), some (.int (nI p)), some (.int 0), some (.int 0), none, none, none]) rfl ?_
        exact lp_ft hp ⟨c1, c2, c3⟩ d p 0 (by omega) none none none (fun j hj => absurd hj (by omega))
      · show Ev _ _ 60 _ _ _ _
        refine ev_ik (v := 0) rfl (by decide) ?_
        refine ev_rz rfl rfl (by decide) ?_ ?_
        · exact some_i (zi_f (show ¬ ftM M p from fun h => c3 h.1.2.2)).symm
        · rfl
end
section
/-! ===== LoadSpaceModel: enter ===== -/
def rwM (M : Nat → Nat → Int32) (H : Nat) (r : Nat → Int32) : Nat → Nat → Int32 := fun h => if h = H then r else M h
theorem rwM_s (M : Nat → Nat → Int32) (H : Nat) (r : Nat → Int32) : rwM M H r H = r := if_pos rfl
theorem rwM_n {M : Nat → Nat → Int32} {H h : Nat} {r : Nat → Int32} (hn : h ≠ H) : rwM M H r h = M h := if_neg hn
theorem rwM_up (M : Nat → Nat → Int32) (H : Nat) (r : Nat → Int32) (k : Nat) (v : Int32) : up2 (rwM M H r) H k v = rwM M H (upd r k v) := by
  funext h
  by_cases e : h = H
  · subst e; rw [up2_s, rwM_s, rwM_s]
  · rw [up2_n e, rwM_n e, rwM_n e]
theorem rwM_0 (M : Nat → Nat → Int32) (H : Nat) : rwM M H (M H) = M := by
  funext h
  by_cases e : h = H
  · subst e; rw [rwM_s]
  · rw [rwM_n e]
theorem mk_setw {np : Nat} {M : Nat → Nat → Int32} {L : Nat → Int64} {h k : Nat} {r : Nat → Int32} {v : Int32} {c c' : va_E} (hl : cel np h (upd r k v) (L h) = c') (hc : c = c') : (mk np (rwM M h r) L).set h c = mk np (rwM M h (upd r k v)) L := by
  rw [mk_setr (rwM_s M h r) hl hc, rwM_up]
/-- the first place from k on (n are left) that isn't below v -/
def enK (r : Nat → Int32) (fr : Nat) (v : Int32) : Nat → Nat → Nat
  | 0, k => k
  | m + 1, k => if r (fr + k) < v then enK r fr v m (k + 1) else k
theorem enK_le (r : Nat → Int32) (fr : Nat) (v : Int32) : ∀ m k, k ≤ enK r fr v m k ∧ enK r fr v m k ≤ k + m
  | 0, k => ⟨Nat.le_refl _, Nat.le_refl _⟩
  | m + 1, k => by
    unfold enK
    split
    · have := enK_le r fr v m (k + 1)
      omega
    · omega
/-- from i on moved up by one -/
def shR (r : Nat → Int32) (fr i n : Nat) : Nat → Int32 := fun j => if fr + i < j ∧ j ≤ fr + n then r (j - 1) else r j
theorem shR_n (r : Nat → Int32) (fr n : Nat) : shR r fr n n = r := by
  funext j
  unfold shR
  exact if_neg (by omega)
theorem shR_at {r : Nat → Int32} {fr i n : Nat} : shR r fr (i + 1) n (fr + i) = r (fr + i) := if_neg (by omega)
theorem shR_up {r : Nat → Int32} {fr i n : Nat} (hi : i < n) : upd (shR r fr (i + 1) n) (fr + (i + 1)) (shR r fr (i + 1) n (fr + i)) = shR r fr i n := by
  rw [shR_at]
  funext j
  by_cases h : j = fr + (i + 1)
  · subst h
    rw [upd_s]
    unfold shR
    rw [if_pos (by omega)]
    congr 1
  · rw [upd_n h]
    unfold shR
    by_cases h2 : fr + (i + 1) < j ∧ j ≤ fr + n
    · rw [if_pos h2, if_pos (by omega)]
    · rw [if_neg h2, if_neg (by omega)]
/-- the row behind enter, and how many it holds -/
def enR (r : Nat → Int32) (fr n : Nat) (v : Int32) : (Nat → Int32) × Nat := if enK r fr v n 0 < n ∧ r (fr + enK r fr v n 0) = v then (r, n) else (upd (shR r fr (enK r fr v n 0) n) (fr + enK r fr v n 0) v, n + 1)
theorem zle_t {i n t f : Nat} {x y : Int32} (hx : x = nI i) (hy : y = nI n) (h : i ≤ n) (hn : n < 2 ^ 31) : zbr .le x y t f = t := by
  subst hx; subst hy; exact if_pos (nI_le h hn)
theorem zle_f {i n t f : Nat} {x y : Int32} (hx : x = nI i) (hy : y = nI n) (h : n < i) (hn : i < 2 ^ 31) : zbr .le x y t f = f := by
  subst hx; subst hy; exact if_neg (nI_ge h hn)

set_option maxHeartbeats 4000000 in
theorem lp_es53 {np : Nat} {M : Nat → Nat → Int32} {L : Nat → Int64} {fr n kk : Nat} {v : Int32} (hfr : fr + n < 42) (hkn : kk ≤ n) (d : Nat) : ∀ j i, i = kk + j → i ≤ n → Ev d mX6_enter 46 [some (.ref 53), some (.int (nI fr)), some (.int (nI n)), some (.int v), some (.int (nI kk)), some (.int (nI i))] [] (mk np (rwM M 53 (shR (M 53) fr i n)) L) (Qr mX6_enter (some (.int (nI (n + 1)))) (mk np (rwM M 53 (upd (shR (M 53) fr kk n) (fr + kk) v)) L)) := by
  intro j
  induction j with
  | zero =>
    intro i hij hin
    obtain rfl : i = kk := by omega
    iterate 2 refine ev_s rfl ?_
    refine ev_ic rfl rfl ?_
    rw [show zbr .le (nI i) (nI i) 73 53 = 73 from zle_t (i := i) (n := i) rfl rfl (by omega) (by omega)]
    iterate 5 refine ev_s rfl ?_
    refine ev_is (hp' := (mk np (rwM M 53 (upd (shR (M 53) fr i n) (fr + i) v)) L)) (rd np (rwM M 53 (shR (M 53) fr i n)) L (by omega) ((congrArg (fun r => cel np 53 r (L 53)) (rwM_s _ _ _)).trans rfl)) rfl (by rw [nI_add]; exact zin_nI (by omega) (by decide)) (mk_setw rfl rfl) ?_
    refine ev_s rfl ?_
    refine ev_ik (v := 1) rfl (by decide) ?_
    refine ev_s rfl ?_
    refine ev_ri rfl rfl ?_ ?_
    · exact some_i (nI_1 n)
    · rfl
  | succ j ih =>
    intro i0 hij hin
    obtain ⟨i, rfl⟩ : ∃ i, i0 = i + 1 := ⟨i0 - 1, by omega⟩
    iterate 2 refine ev_s rfl ?_
    refine ev_ic rfl rfl ?_
    rw [show zbr .le (nI (i + 1)) (nI kk) 73 53 = 53 from zle_f (i := i + 1) (n := kk) rfl rfl (by omega) (by omega)]
    iterate 8 refine ev_s rfl ?_
    refine ev_ik (v := 1) rfl (by decide) ?_
    refine ev_s rfl ?_
    refine ev_ia (rd np (rwM M 53 (shR (M 53) fr (i + 1) n)) L (by omega) ((congrArg (fun r => cel np 53 r (L 53)) (rwM_s _ _ _)).trans rfl)) rfl (by rw [nI_add, ← Nat.add_assoc, nI_pred]; exact zin_nI (by omega) (by decide)) ?_
    refine ev_is (hp' := (mk np (rwM M 53 (upd (shR (M 53) fr (i + 1) n) (fr + (i + 1)) ((shR (M 53) fr (i + 1) n) (fr + i)))) L)) (rd np (rwM M 53 (shR (M 53) fr (i + 1) n)) L (by omega) ((congrArg (fun r => cel np 53 r (L 53)) (rwM_s _ _ _)).trans rfl)) rfl (by rw [nI_add]; exact zin_nI (by omega) (by decide)) (mk_setw rfl rfl) ?_
    refine ev_inc (y := (-1)) (v := (nI (i + 1)) + (-1)) (ls' := [some (.ref 53), some (.int (nI fr)), some (.int (nI n)), some (.int v), some (.int (nI kk)), some (.int ((nI (i + 1)) + (-1)))]) rfl rfl (by decide) rfl rfl ?_
    refine ev_s rfl ?_
    rw [pk_m1 i, shR_up (by omega)]
    exact ih i (by omega) (by omega)
set_option maxHeartbeats 4000000 in
theorem lp_ek53 {np : Nat} {M : Nat → Nat → Int32} {L : Nat → Int64} {fr n : Nat} {v : Int32} (hfr : fr + n < 42) (d : Nat) : ∀ j k, k + j = n → enK (M 53) fr v n 0 = enK (M 53) fr v j k → Ev d mX6_enter 3 [some (.ref 53), some (.int (nI fr)), some (.int (nI n)), some (.int v), some (.int (nI k)), none] [] (mk np M L) (Qr mX6_enter (some (.int (nI (enR (M 53) fr n v).2))) (mk np (rwM M 53 (enR (M 53) fr n v).1) L)) := by
  intro j
  induction j with
  | zero =>
    intro k hkj hE
    obtain rfl : k = n := by omega
    have hE2 : enK (M 53) fr v k 0 = k := hE
    have hR : enR (M 53) fr k v = (upd (shR (M 53) fr k k) (fr + k) v, k + 1) := by unfold enR; rw [hE2, if_neg (by omega)]
    rw [hR]
    iterate 2 refine ev_s rfl ?_
    refine ev_ic rfl rfl ?_
    rw [show zbr .ge (nI k) (nI k) 25 9 = 25 from zge_t (n := k) rfl (by omega) (by omega)]
    iterate 2 refine ev_s rfl ?_
    refine ev_ic rfl rfl ?_
    rw [show zbr .ge (nI k) (nI k) 43 31 = 43 from zge_t (n := k) rfl (by omega) (by omega)]
    refine ev_s rfl ?_
    refine ev_s (ls' := [some (.ref 53), some (.int (nI fr)), some (.int (nI k)), some (.int v), some (.int (nI k)), some (.int (nI k))]) rfl ?_
    have e9 := lp_es53 (np := np) (M := M) (L := L) (v := v) (kk := k) hfr (Nat.le_refl _) d 0 k (by omega) (by omega)
    rw [shR_n (M 53) fr k, rwM_0] at e9
    rw [shR_n (M 53) fr k]
    exact e9
  | succ j ih =>
    intro k hkj hE
    have hkn : k < n := by omega
    rw [show enK (M 53) fr v (j + 1) k = if M 53 (fr + k) < v then enK (M 53) fr v j (k + 1) else k from rfl] at hE
    iterate 2 refine ev_s rfl ?_
    refine ev_ic rfl rfl ?_
    rw [show zbr .ge (nI k) (nI n) 25 9 = 9 from zge_f (n := n) rfl hkn (by omega)]
    iterate 4 refine ev_s rfl ?_
    refine ev_ia (rd np M L (by omega) rfl) rfl (by rw [nI_add]; exact zin_nI (by omega) (by decide)) ?_
    refine ev_s rfl ?_
    refine ev_ic rfl rfl (ev_br (zb_ge _ _ _ _) (fun c1 => ?_) (fun c1 => ?_))
    · show Ev _ _ 25 _ _ _ _
      iterate 2 refine ev_s rfl ?_
      refine ev_ic rfl rfl ?_
      rw [show zbr .ge (nI k) (nI n) 43 31 = 31 from zge_f (n := n) rfl hkn (by omega)]
      iterate 4 refine ev_s rfl ?_
      refine ev_ia (rd np M L (by omega) rfl) rfl (by rw [nI_add]; exact zin_nI (by omega) (by decide)) ?_
      refine ev_s rfl ?_
      refine ev_ic rfl rfl (ev_bn (fun c2 => ?_) (fun c2 => ?_))
      · show Ev _ _ 43 _ _ _ _
        refine ev_s rfl ?_
        refine ev_s (ls' := [some (.ref 53), some (.int (nI fr)), some (.int (nI n)), some (.int v), some (.int (nI k)), some (.int (nI n))]) rfl ?_
        rw [if_neg (Int32.not_lt.mpr c1)] at hE
        have hR : enR (M 53) fr n v = (upd (shR (M 53) fr k n) (fr + k) v, n + 1) := by unfold enR; rw [hE, if_neg (fun q => c2 q.2)]
        rw [hR]
        have e9 := lp_es53 (np := np) (M := M) (L := L) (v := v) (kk := k) hfr (by omega) d (n - k) n (by omega) (by omega)
        rw [shR_n (M 53) fr n, rwM_0] at e9
        exact e9
      · show Ev _ _ 41 _ _ _ _
        refine ev_s rfl ?_
        refine ev_ri rfl rfl ?_ ?_
        · rw [if_neg (Int32.not_lt.mpr c1)] at hE; rw [show enR (M 53) fr n v = (M 53, n) from by unfold enR; rw [hE, if_pos ⟨hkn, c2⟩]]
        · rw [if_neg (Int32.not_lt.mpr c1)] at hE; rw [show enR (M 53) fr n v = (M 53, n) from by unfold enR; rw [hE, if_pos ⟨hkn, c2⟩], rwM_0]
    · show Ev _ _ 19 _ _ _ _
      refine ev_inc (y := 1) (v := nI (k + 1)) (ls' := [some (.ref 53), some (.int (nI fr)), some (.int (nI n)), some (.int v), some (.int (nI (k + 1))), none]) rfl rfl (by decide) (nI_1 _) rfl ?_
      refine ev_s rfl ?_
      rw [if_pos (Int32.not_le.mp c1)] at hE
      exact ih (k + 1) (by omega) hE
set_option maxHeartbeats 4000000 in
theorem rn_enter53 {np : Nat} {M : Nat → Nat → Int32} {L : Nat → Int64} {fr n : Nat} {v : Int32} (hfr : fr + n < 42) (d : Nat) : Rn (d) mX6_enter [(.ref 53), (.int (nI fr)), (.int (nI n)), (.int v)] (mk np M L) (some (.int (nI (enR (M 53) fr n v).2))) (mk np (rwM M 53 (enR (M 53) fr n v).1) L) := by
  unfold Rn
  refine ev_ik (v := 0) rfl (by decide) ?_
  refine ev_s (ls' := [some (.ref 53), some (.int (nI fr)), some (.int (nI n)), some (.int v), some (.int 0), none]) rfl ?_
  exact lp_ek53 hfr d n 0 (by omega) rfl
set_option maxHeartbeats 4000000 in
theorem lp_es54 {np : Nat} {M : Nat → Nat → Int32} {L : Nat → Int64} {fr n kk : Nat} {v : Int32} (hfr : fr + n < 42) (hkn : kk ≤ n) (d : Nat) : ∀ j i, i = kk + j → i ≤ n → Ev d mX6_enter 46 [some (.ref 54), some (.int (nI fr)), some (.int (nI n)), some (.int v), some (.int (nI kk)), some (.int (nI i))] [] (mk np (rwM M 54 (shR (M 54) fr i n)) L) (Qr mX6_enter (some (.int (nI (n + 1)))) (mk np (rwM M 54 (upd (shR (M 54) fr kk n) (fr + kk) v)) L)) := by
  intro j
  induction j with
  | zero =>
    intro i hij hin
    obtain rfl : i = kk := by omega
    iterate 2 refine ev_s rfl ?_
    refine ev_ic rfl rfl ?_
    rw [show zbr .le (nI i) (nI i) 73 53 = 73 from zle_t (i := i) (n := i) rfl rfl (by omega) (by omega)]
    iterate 5 refine ev_s rfl ?_
    refine ev_is (hp' := (mk np (rwM M 54 (upd (shR (M 54) fr i n) (fr + i) v)) L)) (rd np (rwM M 54 (shR (M 54) fr i n)) L (by omega) ((congrArg (fun r => cel np 54 r (L 54)) (rwM_s _ _ _)).trans rfl)) rfl (by rw [nI_add]; exact zin_nI (by omega) (by decide)) (mk_setw rfl rfl) ?_
    refine ev_s rfl ?_
    refine ev_ik (v := 1) rfl (by decide) ?_
    refine ev_s rfl ?_
    refine ev_ri rfl rfl ?_ ?_
    · exact some_i (nI_1 n)
    · rfl
  | succ j ih =>
    intro i0 hij hin
    obtain ⟨i, rfl⟩ : ∃ i, i0 = i + 1 := ⟨i0 - 1, by omega⟩
    iterate 2 refine ev_s rfl ?_
    refine ev_ic rfl rfl ?_
    rw [show zbr .le (nI (i + 1)) (nI kk) 73 53 = 53 from zle_f (i := i + 1) (n := kk) rfl rfl (by omega) (by omega)]
    iterate 8 refine ev_s rfl ?_
    refine ev_ik (v := 1) rfl (by decide) ?_
    refine ev_s rfl ?_
    refine ev_ia (rd np (rwM M 54 (shR (M 54) fr (i + 1) n)) L (by omega) ((congrArg (fun r => cel np 54 r (L 54)) (rwM_s _ _ _)).trans rfl)) rfl (by rw [nI_add, ← Nat.add_assoc, nI_pred]; exact zin_nI (by omega) (by decide)) ?_
    refine ev_is (hp' := (mk np (rwM M 54 (upd (shR (M 54) fr (i + 1) n) (fr + (i + 1)) ((shR (M 54) fr (i + 1) n) (fr + i)))) L)) (rd np (rwM M 54 (shR (M 54) fr (i + 1) n)) L (by omega) ((congrArg (fun r => cel np 54 r (L 54)) (rwM_s _ _ _)).trans rfl)) rfl (by rw [nI_add]; exact zin_nI (by omega) (by decide)) (mk_setw rfl rfl) ?_
    refine ev_inc (y := (-1)) (v := (nI (i + 1)) + (-1)) (ls' := [some (.ref 54), some (.int (nI fr)), some (.int (nI n)), some (.int v), some (.int (nI kk)), some (.int ((nI (i + 1)) + (-1)))]) rfl rfl (by decide) rfl rfl ?_
    refine ev_s rfl ?_
    rw [pk_m1 i, shR_up (by omega)]
    exact ih i (by omega) (by omega)
set_option maxHeartbeats 4000000 in
theorem lp_ek54 {np : Nat} {M : Nat → Nat → Int32} {L : Nat → Int64} {fr n : Nat} {v : Int32} (hfr : fr + n < 42) (d : Nat) : ∀ j k, k + j = n → enK (M 54) fr v n 0 = enK (M 54) fr v j k → Ev d mX6_enter 3 [some (.ref 54), some (.int (nI fr)), some (.int (nI n)), some (.int v), some (.int (nI k)), none] [] (mk np M L) (Qr mX6_enter (some (.int (nI (enR (M 54) fr n v).2))) (mk np (rwM M 54 (enR (M 54) fr n v).1) L)) := by
  intro j
  induction j with
  | zero =>
    intro k hkj hE
    obtain rfl : k = n := by omega
    have hE2 : enK (M 54) fr v k 0 = k := hE
    have hR : enR (M 54) fr k v = (upd (shR (M 54) fr k k) (fr + k) v, k + 1) := by unfold enR; rw [hE2, if_neg (by omega)]
    rw [hR]
    iterate 2 refine ev_s rfl ?_
    refine ev_ic rfl rfl ?_
    rw [show zbr .ge (nI k) (nI k) 25 9 = 25 from zge_t (n := k) rfl (by omega) (by omega)]
    iterate 2 refine ev_s rfl ?_
    refine ev_ic rfl rfl ?_
    rw [show zbr .ge (nI k) (nI k) 43 31 = 43 from zge_t (n := k) rfl (by omega) (by omega)]
    refine ev_s rfl ?_
    refine ev_s (ls' := [some (.ref 54), some (.int (nI fr)), some (.int (nI k)), some (.int v), some (.int (nI k)), some (.int (nI k))]) rfl ?_
    have e9 := lp_es54 (np := np) (M := M) (L := L) (v := v) (kk := k) hfr (Nat.le_refl _) d 0 k (by omega) (by omega)
    rw [shR_n (M 54) fr k, rwM_0] at e9
    rw [shR_n (M 54) fr k]
    exact e9
  | succ j ih =>
    intro k hkj hE
    have hkn : k < n := by omega
    rw [show enK (M 54) fr v (j + 1) k = if M 54 (fr + k) < v then enK (M 54) fr v j (k + 1) else k from rfl] at hE
    iterate 2 refine ev_s rfl ?_
    refine ev_ic rfl rfl ?_
    rw [show zbr .ge (nI k) (nI n) 25 9 = 9 from zge_f (n := n) rfl hkn (by omega)]
    iterate 4 refine ev_s rfl ?_
    refine ev_ia (rd np M L (by omega) rfl) rfl (by rw [nI_add]; exact zin_nI (by omega) (by decide)) ?_
    refine ev_s rfl ?_
    refine ev_ic rfl rfl (ev_br (zb_ge _ _ _ _) (fun c1 => ?_) (fun c1 => ?_))
    · show Ev _ _ 25 _ _ _ _
      iterate 2 refine ev_s rfl ?_
      refine ev_ic rfl rfl ?_
      rw [show zbr .ge (nI k) (nI n) 43 31 = 31 from zge_f (n := n) rfl hkn (by omega)]
      iterate 4 refine ev_s rfl ?_
      refine ev_ia (rd np M L (by omega) rfl) rfl (by rw [nI_add]; exact zin_nI (by omega) (by decide)) ?_
      refine ev_s rfl ?_
      refine ev_ic rfl rfl (ev_bn (fun c2 => ?_) (fun c2 => ?_))
      · show Ev _ _ 43 _ _ _ _
        refine ev_s rfl ?_
        refine ev_s (ls' := [some (.ref 54), some (.int (nI fr)), some (.int (nI n)), some (.int v), some (.int (nI k)), some (.int (nI n))]) rfl ?_
        rw [if_neg (Int32.not_lt.mpr c1)] at hE
        have hR : enR (M 54) fr n v = (upd (shR (M 54) fr k n) (fr + k) v, n + 1) := by unfold enR; rw [hE, if_neg (fun q => c2 q.2)]
        rw [hR]
        have e9 := lp_es54 (np := np) (M := M) (L := L) (v := v) (kk := k) hfr (by omega) d (n - k) n (by omega) (by omega)
        rw [shR_n (M 54) fr n, rwM_0] at e9
        exact e9
      · show Ev _ _ 41 _ _ _ _
        refine ev_s rfl ?_
        refine ev_ri rfl rfl ?_ ?_
        · rw [if_neg (Int32.not_lt.mpr c1)] at hE; rw [show enR (M 54) fr n v = (M 54, n) from by unfold enR; rw [hE, if_pos ⟨hkn, c2⟩]]
        · rw [if_neg (Int32.not_lt.mpr c1)] at hE; rw [show enR (M 54) fr n v = (M 54, n) from by unfold enR; rw [hE, if_pos ⟨hkn, c2⟩], rwM_0]
    · show Ev _ _ 19 _ _ _ _
      refine ev_inc (y := 1) (v := nI (k + 1)) (ls' := [some (.ref 54), some (.int (nI fr)), some (.int (nI n)), some (.int v), some (.int (nI (k + 1))), none]) rfl rfl (by decide) (nI_1 _) rfl ?_
      refine ev_s rfl ?_
      rw [if_pos (Int32.not_le.mp c1)] at hE
      exact ih (k + 1) (by omega) hE
set_option maxHeartbeats 4000000 in
theorem rn_enter54 {np : Nat} {M : Nat → Nat → Int32} {L : Nat → Int64} {fr n : Nat} {v : Int32} (hfr : fr + n < 42) (d : Nat) : Rn (d) mX6_enter [(.ref 54), (.int (nI fr)), (.int (nI n)), (.int v)] (mk np M L) (some (.int (nI (enR (M 54) fr n v).2))) (mk np (rwM M 54 (enR (M 54) fr n v).1) L) := by
  unfold Rn
  refine ev_ik (v := 0) rfl (by decide) ?_
  refine ev_s (ls' := [some (.ref 54), some (.int (nI fr)), some (.int (nI n)), some (.int v), some (.int 0), none]) rfl ?_
  exact lp_ek54 hfr d n 0 (by omega) rfl
set_option maxHeartbeats 4000000 in
theorem lp_es55 {np : Nat} {M : Nat → Nat → Int32} {L : Nat → Int64} {fr n kk : Nat} {v : Int32} (hfr : fr + n < 42) (hkn : kk ≤ n) (d : Nat) : ∀ j i, i = kk + j → i ≤ n → Ev d mX6_enter 46 [some (.ref 55), some (.int (nI fr)), some (.int (nI n)), some (.int v), some (.int (nI kk)), some (.int (nI i))] [] (mk np (rwM M 55 (shR (M 55) fr i n)) L) (Qr mX6_enter (some (.int (nI (n + 1)))) (mk np (rwM M 55 (upd (shR (M 55) fr kk n) (fr + kk) v)) L)) := by
  intro j
  induction j with
  | zero =>
    intro i hij hin
    obtain rfl : i = kk := by omega
    iterate 2 refine ev_s rfl ?_
    refine ev_ic rfl rfl ?_
    rw [show zbr .le (nI i) (nI i) 73 53 = 73 from zle_t (i := i) (n := i) rfl rfl (by omega) (by omega)]
    iterate 5 refine ev_s rfl ?_
    refine ev_is (hp' := (mk np (rwM M 55 (upd (shR (M 55) fr i n) (fr + i) v)) L)) (rd np (rwM M 55 (shR (M 55) fr i n)) L (by omega) ((congrArg (fun r => cel np 55 r (L 55)) (rwM_s _ _ _)).trans rfl)) rfl (by rw [nI_add]; exact zin_nI (by omega) (by decide)) (mk_setw rfl rfl) ?_
    refine ev_s rfl ?_
    refine ev_ik (v := 1) rfl (by decide) ?_
    refine ev_s rfl ?_
    refine ev_ri rfl rfl ?_ ?_
    · exact some_i (nI_1 n)
    · rfl
  | succ j ih =>
    intro i0 hij hin
    obtain ⟨i, rfl⟩ : ∃ i, i0 = i + 1 := ⟨i0 - 1, by omega⟩
    iterate 2 refine ev_s rfl ?_
    refine ev_ic rfl rfl ?_
    rw [show zbr .le (nI (i + 1)) (nI kk) 73 53 = 53 from zle_f (i := i + 1) (n := kk) rfl rfl (by omega) (by omega)]
    iterate 8 refine ev_s rfl ?_
    refine ev_ik (v := 1) rfl (by decide) ?_
    refine ev_s rfl ?_
    refine ev_ia (rd np (rwM M 55 (shR (M 55) fr (i + 1) n)) L (by omega) ((congrArg (fun r => cel np 55 r (L 55)) (rwM_s _ _ _)).trans rfl)) rfl (by rw [nI_add, ← Nat.add_assoc, nI_pred]; exact zin_nI (by omega) (by decide)) ?_
    refine ev_is (hp' := (mk np (rwM M 55 (upd (shR (M 55) fr (i + 1) n) (fr + (i + 1)) ((shR (M 55) fr (i + 1) n) (fr + i)))) L)) (rd np (rwM M 55 (shR (M 55) fr (i + 1) n)) L (by omega) ((congrArg (fun r => cel np 55 r (L 55)) (rwM_s _ _ _)).trans rfl)) rfl (by rw [nI_add]; exact zin_nI (by omega) (by decide)) (mk_setw rfl rfl) ?_
    refine ev_inc (y := (-1)) (v := (nI (i + 1)) + (-1)) (ls' := [some (.ref 55), some (.int (nI fr)), some (.int (nI n)), some (.int v), some (.int (nI kk)), some (.int ((nI (i + 1)) + (-1)))]) rfl rfl (by decide) rfl rfl ?_
    refine ev_s rfl ?_
    rw [pk_m1 i, shR_up (by omega)]
    exact ih i (by omega) (by omega)
set_option maxHeartbeats 4000000 in
theorem lp_ek55 {np : Nat} {M : Nat → Nat → Int32} {L : Nat → Int64} {fr n : Nat} {v : Int32} (hfr : fr + n < 42) (d : Nat) : ∀ j k, k + j = n → enK (M 55) fr v n 0 = enK (M 55) fr v j k → Ev d mX6_enter 3 [some (.ref 55), some (.int (nI fr)), some (.int (nI n)), some (.int v), some (.int (nI k)), none] [] (mk np M L) (Qr mX6_enter (some (.int (nI (enR (M 55) fr n v).2))) (mk np (rwM M 55 (enR (M 55) fr n v).1) L)) := by
  intro j
  induction j with
  | zero =>
    intro k hkj hE
    obtain rfl : k = n := by omega
    have hE2 : enK (M 55) fr v k 0 = k := hE
    have hR : enR (M 55) fr k v = (upd (shR (M 55) fr k k) (fr + k) v, k + 1) := by unfold enR; rw [hE2, if_neg (by omega)]
    rw [hR]
    iterate 2 refine ev_s rfl ?_
    refine ev_ic rfl rfl ?_
    rw [show zbr .ge (nI k) (nI k) 25 9 = 25 from zge_t (n := k) rfl (by omega) (by omega)]
    iterate 2 refine ev_s rfl ?_
    refine ev_ic rfl rfl ?_
    rw [show zbr .ge (nI k) (nI k) 43 31 = 43 from zge_t (n := k) rfl (by omega) (by omega)]
    refine ev_s rfl ?_
    refine ev_s (ls' := [some (.ref 55), some (.int (nI fr)), some (.int (nI k)), some (.int v), some (.int (nI k)), some (.int (nI k))]) rfl ?_
    have e9 := lp_es55 (np := np) (M := M) (L := L) (v := v) (kk := k) hfr (Nat.le_refl _) d 0 k (by omega) (by omega)
    rw [shR_n (M 55) fr k, rwM_0] at e9
    rw [shR_n (M 55) fr k]
    exact e9
  | succ j ih =>
    intro k hkj hE
    have hkn : k < n := by omega
    rw [show enK (M 55) fr v (j + 1) k = if M 55 (fr + k) < v then enK (M 55) fr v j (k + 1) else k from rfl] at hE
    iterate 2 refine ev_s rfl ?_
    refine ev_ic rfl rfl ?_
    rw [show zbr .ge (nI k) (nI n) 25 9 = 9 from zge_f (n := n) rfl hkn (by omega)]
    iterate 4 refine ev_s rfl ?_
    refine ev_ia (rd np M L (by omega) rfl) rfl (by rw [nI_add]; exact zin_nI (by omega) (by decide)) ?_
    refine ev_s rfl ?_
    refine ev_ic rfl rfl (ev_br (zb_ge _ _ _ _) (fun c1 => ?_) (fun c1 => ?_))
    · show Ev _ _ 25 _ _ _ _
      iterate 2 refine ev_s rfl ?_
      refine ev_ic rfl rfl ?_
      rw [show zbr .ge (nI k) (nI n) 43 31 = 31 from zge_f (n := n) rfl hkn (by omega)]
      iterate 4 refine ev_s rfl ?_
      refine ev_ia (rd np M L (by omega) rfl) rfl (by rw [nI_add]; exact zin_nI (by omega) (by decide)) ?_
      refine ev_s rfl ?_
      refine ev_ic rfl rfl (ev_bn (fun c2 => ?_) (fun c2 => ?_))
      · show Ev _ _ 43 _ _ _ _
        refine ev_s rfl ?_
        refine ev_s (ls' := [some (.ref 55), some (.int (nI fr)), some (.int (nI n)), some (.int v), some (.int (nI k)), some (.int (nI n))]) rfl ?_
        rw [if_neg (Int32.not_lt.mpr c1)] at hE
        have hR : enR (M 55) fr n v = (upd (shR (M 55) fr k n) (fr + k) v, n + 1) := by unfold enR; rw [hE, if_neg (fun q => c2 q.2)]
        rw [hR]
        have e9 := lp_es55 (np := np) (M := M) (L := L) (v := v) (kk := k) hfr (by omega) d (n - k) n (by omega) (by omega)
        rw [shR_n (M 55) fr n, rwM_0] at e9
        exact e9
      · show Ev _ _ 41 _ _ _ _
        refine ev_s rfl ?_
        refine ev_ri rfl rfl ?_ ?_
        · rw [if_neg (Int32.not_lt.mpr c1)] at hE; rw [show enR (M 55) fr n v = (M 55, n) from by unfold enR; rw [hE, if_pos ⟨hkn, c2⟩]]
        · rw [if_neg (Int32.not_lt.mpr c1)] at hE; rw [show enR (M 55) fr n v = (M 55, n) from by unfold enR; rw [hE, if_pos ⟨hkn, c2⟩], rwM_0]
    · show Ev _ _ 19 _ _ _ _
      refine ev_inc (y := 1) (v := nI (k + 1)) (ls' := [some (.ref 55), some (.int (nI fr)), some (.int (nI n)), some (.int v), some (.int (nI (k + 1))), none]) rfl rfl (by decide) (nI_1 _) rfl ?_
      refine ev_s rfl ?_
      rw [if_pos (Int32.not_le.mp c1)] at hE
      exact ih (k + 1) (by omega) hE
set_option maxHeartbeats 4000000 in
theorem rn_enter55 {np : Nat} {M : Nat → Nat → Int32} {L : Nat → Int64} {fr n : Nat} {v : Int32} (hfr : fr + n < 42) (d : Nat) : Rn (d) mX6_enter [(.ref 55), (.int (nI fr)), (.int (nI n)), (.int v)] (mk np M L) (some (.int (nI (enR (M 55) fr n v).2))) (mk np (rwM M 55 (enR (M 55) fr n v).1) L) := by
  unfold Rn
  refine ev_ik (v := 0) rfl (by decide) ?_
  refine ev_s (ls' := [some (.ref 55), some (.int (nI fr)), some (.int (nI n)), some (.int v), some (.int 0), none]) rfl ?_
  exact lp_ek55 hfr d n 0 (by omega) rfl
end
section
/-! ===== rows that hold lists ===== -/
def insN (a : Nat) : List Nat → List Nat
  | [] => [a]
  | b :: t => if b < a then b :: insN a t else if b = a then b :: t else a :: b :: t
/-- row r holds the list l from place fr on -/
def blk (r : Nat → Int32) (fr : Nat) (l : List Nat) : Prop := ∀ k, k < l.length → r (fr + k) = nI (l.getD k 0)
def srt : List Nat → Prop
  | [] => True
  | [_] => True
  | a :: b :: t => a < b ∧ srt (b :: t)
def sml (l : List Nat) : Prop := ∀ x, x ∈ l → x < 2 ^ 30
theorem srt_t {a : Nat} {l : List Nat} (h : srt (a :: l)) : srt l := by
  cases l with
  | nil => trivial
  | cons b t => exact h.2
theorem srt_lt {a : Nat} : ∀ {l : List Nat}, srt (a :: l) → ∀ x, x ∈ l → a < x
  | [], _, x, hx => by cases hx
  | b :: t, h, x, hx => by
    rcases List.mem_cons.mp hx with rfl | hx
    · exact h.1
    · exact Nat.lt_trans h.1 (srt_lt h.2 x hx)
theorem srt_cons {a : Nat} {l : List Nat} (h : ∀ x, x ∈ l → a < x) (hs : srt l) : srt (a :: l) := by
  cases l with
  | nil => trivial
  | cons b t => exact ⟨h b List.mem_cons_self, hs⟩
theorem insN_mem {a x : Nat} : ∀ {l : List Nat}, x ∈ insN a l ↔ x = a ∨ x ∈ l
  | [] => by simp [insN]
  | b :: t => by
    unfold insN
    split
    · rw [List.mem_cons, insN_mem (l := t), List.mem_cons]
      constructor
      · rintro (h | h | h)
        · exact Or.inr (Or.inl h)
        · exact Or.inl h
        · exact Or.inr (Or.inr h)
      · rintro (h | h | h)
        · exact Or.inr (Or.inl h)
        · exact Or.inl h
        · exact Or.inr (Or.inr h)
    · split
      · next h => subst h; simp
      · simp
theorem insN_srt {a : Nat} : ∀ {l : List Nat}, srt l → srt (insN a l)
  | [], _ => trivial
  | b :: t, h => by
    unfold insN
    split
    · next hb =>
      refine srt_cons (fun x hx => ?_) (insN_srt (srt_t h))
      rcases insN_mem.mp hx with rfl | hx
      · exact hb
      · exact srt_lt h x hx
    · next hb =>
      split
      · exact h
      · next hn => exact ⟨by omega, h⟩
theorem insN_len {a : Nat} : ∀ {l : List Nat}, (insN a l).length ≤ l.length + 1
  | [] => by simp [insN]
  | b :: t => by
    unfold insN
    split
    · have := insN_len (a := a) (l := t)
      simp only [List.length_cons]
      omega
    · split <;> simp
theorem insN_sml {a : Nat} {l : List Nat} (ha : a < 2 ^ 30) (h : sml l) : sml (insN a l) := fun x hx => (insN_mem.mp hx).elim (fun e => by rw [e]; exact ha) (h x)
theorem insN_ne (a : Nat) (l : List Nat) : 0 < (insN a l).length := by
  cases l with
  | nil => simp [insN]
  | cons b t =>
    unfold insN
    split
    · simp
    · split <;> simp
/-- enter, as it goes on from place k on: the rest of the list is l -/
theorem en_go {fr : Nat} {a : Nat} (ha : a < 2 ^ 30) : ∀ (l : List Nat) (r : Nat → Int32) (k n : Nat), srt l → sml l → k + l.length = n → blk r (fr + k) l →
    (enK r fr (nI a) l.length k < n ∧ r (fr + enK r fr (nI a) l.length k) = nI a → insN a l = l) ∧
    (¬ (enK r fr (nI a) l.length k < n ∧ r (fr + enK r fr (nI a) l.length k) = nI a) → (insN a l).length = l.length + 1 ∧ blk (upd (shR r fr (enK r fr (nI a) l.length k) n) (fr + enK r fr (nI a) l.length k) (nI a)) (fr + k) (insN a l))
  | [], r, k, n, _, _, hn, _ => by
    simp only [List.length_nil] at hn ⊢
    simp only [enK]
    refine ⟨fun h => absurd h.1 (by omega), fun _ => ⟨rfl, fun q hq => ?_⟩⟩
    simp only [insN, List.length_cons, List.length_nil] at hq
    obtain rfl : q = 0 := by omega
    rw [Nat.add_zero, upd_s]
    rfl
  | b :: t, r, k, n, hs, hm, hn, hb => by
    have h0 : r (fr + k) = nI b := by
      have := hb 0 (by simp)
      rwa [Nat.add_zero] at this
    have hb2 : b < 2 ^ 30 := hm b List.mem_cons_self
    have hbt : blk r (fr + (k + 1)) t := by
      intro q hq
      have := hb (q + 1) (by simp only [List.length_cons]; omega)
      rw [show fr + k + (q + 1) = fr + (k + 1) + q by omega] at this
      exact this
    simp only [List.length_cons] at hn
    by_cases hlt : b < a
    · have hK : enK r fr (nI a) (b :: t).length k = enK r fr (nI a) t.length (k + 1) := by
        show (if r (fr + k) < nI a then enK r fr (nI a) t.length (k + 1) else k) = _
        rw [if_pos (by rw [h0]; exact nI_lt hlt (by omega))]
      have hI : insN a (b :: t) = b :: insN a t := by rw [insN, if_pos hlt]
      obtain ⟨g1, g2⟩ := en_go ha t r (k + 1) n (srt_t hs) (fun x hx => hm x (List.mem_cons_of_mem _ hx)) (by omega) hbt
      have hle := enK_le r fr (nI a) t.length (k + 1)
      rw [hK, hI]
      refine ⟨fun h => by rw [g1 h], fun h => ?_⟩
      obtain ⟨g3, g4⟩ := g2 h
      refine ⟨by simp only [List.length_cons]; omega, fun q hq => ?_⟩
      match q, hq with
      | 0, _ =>
        rw [Nat.add_zero, upd_n (by omega)]
        unfold shR
        rw [if_neg (by omega)]
        exact h0
      | q + 1, hq =>
        have := g4 q (by simp only [List.length_cons] at hq; omega)
        rw [show fr + (k + 1) + q = fr + k + (q + 1) by omega] at this
        exact this
    · have hK : enK r fr (nI a) (b :: t).length k = k := by
        show (if r (fr + k) < nI a then enK r fr (nI a) t.length (k + 1) else k) = _
        rw [if_neg (by rw [h0]; exact nI_nlt (by omega) (by omega))]
      rw [hK]
      by_cases he : b = a
      · have hI : insN a (b :: t) = b :: t := by rw [insN, if_neg hlt, if_pos he]
        refine ⟨fun _ => hI, fun h => absurd ⟨by omega, by rw [h0, he]⟩ h⟩
      · have hI : insN a (b :: t) = a :: b :: t := by rw [insN, if_neg hlt, if_neg he]
        rw [hI]
        refine ⟨fun h => absurd ((nI_eq (by omega) (by omega)).mp (h0.symm.trans h.2)) he, fun _ => ⟨rfl, fun q hq => ?_⟩⟩
        match q, hq with
        | 0, _ =>
          rw [Nat.add_zero, upd_s]
          rfl
        | q + 1, hq =>
          rw [upd_n (by omega)]
          unfold shR
          simp only [List.length_cons] at hq
          rw [if_pos (by omega), show fr + k + (q + 1) - 1 = fr + k + q by omega]
          exact hb q (by simp only [List.length_cons]; omega)
theorem enR_blk {r : Nat → Int32} {fr a : Nat} {l : List Nat} (ha : a < 2 ^ 30) (hs : srt l) (hm : sml l) (hb : blk r fr l) :
    (enR r fr l.length (nI a)).2 = (insN a l).length ∧ blk (enR r fr l.length (nI a)).1 fr (insN a l) ∧ ∀ j, j < fr ∨ fr + l.length < j → (enR r fr l.length (nI a)).1 j = r j := by
  obtain ⟨g1, g2⟩ := en_go (fr := fr) ha l r 0 l.length hs hm (by omega) (by rw [Nat.add_zero]; exact hb)
  have hle := enK_le r fr (nI a) l.length 0
  unfold enR
  by_cases h : enK r fr (nI a) l.length 0 < l.length ∧ r (fr + enK r fr (nI a) l.length 0) = nI a
  · rw [if_pos h]
    have e := g1 h
    exact ⟨by rw [e], by rw [e]; exact hb, fun _ _ => rfl⟩
  · rw [if_neg h]
    obtain ⟨e1, e2⟩ := g2 h
    rw [Nat.add_zero] at e2
    refine ⟨e1.symm, e2, fun j hj => ?_⟩
    show upd (shR r fr (enK r fr (nI a) l.length 0) l.length) (fr + enK r fr (nI a) l.length 0) (nI a) j = r j
    rw [upd_n (by omega)]
    unfold shR
    exact if_neg (by omega)
/-- the turns below n that make no turn before them -/
noncomputable def tls (f : Nat → Int32) : Nat → List Nat
  | 0 => []
  | t + 1 => cIf (cMk f t) (tls f t) (tls f t ++ [t])
theorem tls_lt {f : Nat → Int32} : ∀ {n x : Nat}, x ∈ tls f n → x < n
  | 0, x, h => by cases h
  | n + 1, x, h => by
    unfold tls at h
    by_cases hc : cMk f n
    · rw [cIf_t hc] at h
      have := tls_lt h
      omega
    · rw [cIf_f hc] at h
      rcases List.mem_append.mp h with h | h
      · have := tls_lt h
        omega
      · simp at h
        omega
theorem tls_len {f : Nat → Int32} : ∀ n, (tls f n).length ≤ n
  | 0 => Nat.le_refl _
  | n + 1 => by
    have := tls_len (f := f) n
    unfold tls
    refine cIf_ind (R := fun l : List Nat => l.length ≤ n + 1) (fun _ => by omega) (fun _ => by simp; omega)
theorem smT_tr {f : Nat → Int32} {a b c : Nat} (h1 : smT f a b) (h2 : smT f b c) : smT f a c := ⟨h1.1.trans h2.1, h1.2.1.trans h2.2.1, h1.2.2.trans h2.2.2⟩
/-- what has been before is kept, or one that makes the same is -/
theorem tls_in {f : Nat → Int32} : ∀ {n b : Nat}, b < n → ∃ o, o ∈ tls f n ∧ smT f o b
  | 0, b, h => absurd h (by omega)
  | n + 1, b, h => by
    unfold tls
    by_cases hb : b < n
    · obtain ⟨o, h1, h2⟩ := tls_in (f := f) hb
      exact cIf_ind (R := fun l : List Nat => ∃ o, o ∈ l ∧ smT f o b) (fun _ => ⟨o, h1, h2⟩) (fun _ => ⟨o, List.mem_append_left _ h1, h2⟩)
    · obtain rfl : b = n := by omega
      by_cases hc : cMk f b
      · rw [cIf_t hc]
        obtain ⟨q, hq, hs⟩ := hc
        obtain ⟨o, h1, h2⟩ := tls_in (f := f) hq
        exact ⟨o, h1, smT_tr h2 hs⟩
      · rw [cIf_f hc]
        exact ⟨b, List.mem_append_right _ (by simp), rfl, rfl, rfl⟩
theorem tls_twice {f : Nat → Int32} {t : Nat} : (∃ k, k < (tls f t).length ∧ smT f ((tls f t).getD k 0) t) ↔ cMk f t := by
  constructor
  · rintro ⟨k, hk, hs⟩
    refine ⟨(tls f t).getD k 0, tls_lt (f := f) (n := t) ?_, hs⟩
    rw [List.getD_eq_getElem?_getD, List.getElem?_eq_getElem hk]
    exact List.getElem_mem hk
  · rintro ⟨b, hb, hs⟩
    obtain ⟨o, h1, h2⟩ := tls_in (f := f) hb
    obtain ⟨k, hk, he⟩ := List.getElem_of_mem h1
    refine ⟨k, hk, ?_⟩
    rw [List.getD_eq_getElem?_getD, List.getElem?_eq_getElem hk]
    show smT f (tls f t)[k] t
    rw [he]
    exact smT_tr h2 hs
theorem tls_0 {f : Nat → Int32} {n : Nat} (hn : 0 < n) : 0 ∈ tls f n := by
  obtain ⟨k, rfl⟩ : ∃ k, n = k + 1 := ⟨n - 1, by omega⟩
  clear hn
  induction k with
  | zero =>
    unfold tls
    rw [cIf_f (show ¬ cMk f 0 from fun ⟨b, hb, _⟩ => absurd hb (by omega))]
    simp [tls]
  | succ k ih =>
    rw [tls]
    exact cIf_ind (R := fun l : List Nat => 0 ∈ l) (fun _ => ih) (fun _ => List.mem_append_left _ ih)
end
section
/-! ===== LoadSpaceModel: begin ===== -/
/-- the places of rows that level p writes -/
def own (p h k : Nat) : Prop := (h = 47 ∨ h = 48 ∨ h = 50 ∨ h = 51 ∨ h = 52) ∧ k = p ∨ h = 49 ∧ 6 * p ≤ k ∧ k < 6 * p + 6 ∨ (h = 53 ∨ h = 54 ∨ h = 55) ∧ 7 * p ≤ k ∧ k < 7 * p + 7
def Fb (p : Nat) (M M2 : Nat → Nat → Int32) : Prop := ∀ h k, ¬ own p h k → M2 h k = M h k
theorem Fb.rf (p : Nat) (M : Nat → Nat → Int32) : Fb p M M := fun _ _ _ => rfl
theorem Fb.tr {p : Nat} {M M1 M2 : Nat → Nat → Int32} (a : Fb p M M1) (b : Fb p M1 M2) : Fb p M M2 := fun h k q => (b h k q).trans (a h k q)
theorem Fb.up {p h k : Nat} {M M1 : Nat → Nat → Int32} {v : Int32} (a : Fb p M M1) (ho : own p h k) : Fb p M (up2 M1 h k v) := by
  intro h' k' q
  by_cases e : h' = h
  · subst e
    rw [up2_s]
    by_cases e2 : k' = k
    · subst e2; exact absurd ho q
    · rw [upd_n e2]; exact a _ _ q
  · rw [up2_n e]; exact a _ _ q
theorem Fb.row {p h : Nat} {M M1 : Nat → Nat → Int32} (a : Fb p M M1) (hh : h < 47 ∨ 56 ≤ h) : M1 h = M h := funext fun k => a h k (by unfold own; omega)
theorem Fb.pf {p : Nat} {M M1 : Nat → Nat → Int32} (a : Fb p M M1) (q : Nat) : pf M1 q = pf M q ∨ True := Or.inr trivial
theorem pf_eq {M M1 : Nat → Nat → Int32} {q : Nat} (h0 : M1 22 = M 22) (h1 : M1 23 = M 23) (h2 : M1 24 = M 24) (t : Nat) : tW (pf M1 q) t = tW (pf M q) t ∧ tH (pf M1 q) t = tH (pf M q) t ∧ tD (pf M1 q) t = tD (pf M q) t := tW_c (by show M1 22 q = M 22 q; rw [h0]) (by show M1 23 q = M 23 q; rw [h1]) (by show M1 24 q = M 24 q; rw [h2]) t
/-- enter, and its number kept: what the rows hold then -/
theorem en_M {M2 M3 : Nat → Nat → Int32} {H Hs p a : Nat} {l : List Nat} (hne : H ≠ Hs) (hM3 : M3 = up2 (rwM M2 H (enR (M2 H) (7 * p) l.length (nI a)).1) Hs p (nI (enR (M2 H) (7 * p) l.length (nI a)).2)) (ha : a < 2 ^ 30) (hs : srt l) (hm : sml l) (hb : blk (M2 H) (7 * p) l) (hl : l.length ≤ 6) :
    M3 Hs p = nI (insN a l).length ∧ blk (M3 H) (7 * p) (insN a l) ∧ (∀ h, h ≠ H → h ≠ Hs → M3 h = M2 h) ∧ (∀ k, k ≠ p → M3 Hs k = M2 Hs k) ∧ ∀ k, k < 7 * p ∨ 7 * p + 7 ≤ k → M3 H k = M2 H k := by
  obtain ⟨e1, e2, e3⟩ := enR_blk ha hs hm hb
  have r1 : M3 H = (enR (M2 H) (7 * p) l.length (nI a)).1 := by rw [hM3, up2_n hne, rwM_s]
  refine ⟨by rw [hM3, up2_s, upd_s, e1], by rw [r1]; exact e2, fun h h1 h2 => by rw [hM3, up2_n h2, rwM_n h1], fun k hk => by rw [hM3, up2_s, upd_n hk, rwM_n (Ne.symm hne)], fun k hk => by rw [r1]; exact e3 k (by omega)⟩
theorem m7 (p : Nat) : 7 * nI p = nI (7 * p) := by rw [show (7 : Int32) = nI 7 from by decide, pk_mul]
theorem m6 (p k : Nat) : 6 * nI p + nI k = nI (6 * p + k) := by rw [show (6 : Int32) = nI 6 from by decide, pk_mul, nI_add]
/-- the starts in a direction: 0, and where the pieces placed end -/
def stN (M : Nat → Nat → Int32) (a : Nat → Nat) : Nat → List Nat
  | 0 => [0]
  | q + 1 => if M 29 q = 0 then stN M a q else insN (a q) (stN M a q)
theorem stN_ok {M : Nat → Nat → Int32} {a : Nat → Nat} {p : Nat} (ha : ∀ q, q < p → ¬ M 29 q = 0 → a q < 2 ^ 30) : ∀ q, q ≤ p → srt (stN M a q) ∧ sml (stN M a q) ∧ (stN M a q).length ≤ q + 1
  | 0, _ => ⟨trivial, fun x hx => by simp [stN] at hx; omega, by simp [stN]⟩
  | q + 1, h => by
    obtain ⟨h1, h2, h3⟩ := stN_ok ha q (by omega)
    unfold stN
    split
    · exact ⟨h1, h2, by omega⟩
    · next hn =>
      have := insN_len (a := a q) (l := stN M a q)
      exact ⟨insN_srt h1, insN_sml (ha q (by omega) hn) h2, by omega⟩
def BG (p : Nat) (M : Nat → Nat → Int32) (T X Y Z : List Nat) (M2 : Nat → Nat → Int32) : Prop := M2 47 p = 0 ∧ (M2 48 p = nI T.length ∧ blk (M2 49) (6 * p) T) ∧ (M2 50 p = nI X.length ∧ blk (M2 53) (7 * p) X) ∧ (M2 51 p = nI Y.length ∧ blk (M2 54) (7 * p) Y) ∧ (M2 52 p = nI Z.length ∧ blk (M2 55) (7 * p) Z) ∧ Fb p M M2

set_option maxHeartbeats 4000000 in
theorem lp_tw {np : Nat} {M : Nat → Nat → Int32} {L : Nat → Int64} {p t : Nat} {l : List Nat} (hp : p < 6) (ht : t < 6) (hl : l.length ≤ 6) (hlt : ∀ x, x ∈ l → x < 6) (h48 : M 48 p = nI l.length) (h49 : blk (M 49) (6 * p) l) (d : Nat) {Q : zCf → Prop} (hK : ∀ v5, Ev (d + 1) mX6_begin 129 [some (.ref 21), some (.int (nI p)), some (.int (nI t)), some (.int (zi (∃ q, q < l.length ∧ smT (pf M p) (l.getD q 0) t))), some (.int (nI l.length)), v5] [] (mk np M L) Q) : ∀ j k, k + j = l.length → ∀ v5, Ev (d + 1) mX6_begin 34 [some (.ref 21), some (.int (nI p)), some (.int (nI t)), some (.int (zi (∃ q, q < k ∧ smT (pf M p) (l.getD q 0) t))), some (.int (nI k)), v5] [] (mk np M L) Q := by
  intro j
  induction j with
  | zero =>
    intro k hkj v5
    obtain rfl : k = l.length := by omega
    iterate 2 refine ev_s rfl ?_
    refine ev_gf (rd np M L (by omega) rfl) rfl rfl rfl ?_
    refine ev_s rfl ?_
    refine ev_ia (rd np M L (by omega) rfl) rfl (zin_nI (by omega) (by decide)) ?_
    rw [h48]
    refine ev_ic rfl rfl ?_
    rw [show zbr .ge (nI l.length) (nI l.length) 129 45 = 129 from zge_t (n := l.length) rfl (by omega) (by omega)]
    exact hK _
  | succ j ih =>
    intro k hkj v5
    have hk : k < l.length := by omega
    obtain ⟨u, hu⟩ : ∃ u, u = l.getD k 0 := ⟨_, rfl⟩
    have hu6 : u < 6 := by rw [hu, List.getD_eq_getElem?_getD, List.getElem?_eq_getElem hk]; exact hlt _ (List.getElem_mem hk)
    have h9 : M 49 (6 * p + k) = nI u := by rw [hu]; exact h49 k hk
    iterate 2 refine ev_s rfl ?_
    refine ev_gf (rd np M L (by omega) rfl) rfl rfl rfl ?_
    refine ev_s rfl ?_
    refine ev_ia (rd np M L (by omega) rfl) rfl (zin_nI (by omega) (by decide)) ?_
    rw [h48]
    refine ev_ic rfl rfl ?_
    rw [show zbr .ge (nI k) (nI l.length) 129 45 = 45 from zge_f (n := l.length) rfl hk (by omega)]
    refine ev_s rfl ?_
    refine ev_gf (rd np M L (by omega) rfl) rfl rfl rfl ?_
    refine ev_bi (v := 6) rfl (by decide) ?_
    iterate 4 refine ev_s rfl ?_
    refine ev_ia (rd np M L (by omega) rfl) rfl (by rw [m6]; exact zin_nI (by omega) (by decide)) ?_
    rw [h9]
    refine ev_s (ls' := [some (.ref 21), some (.int (nI p)), some (.int (nI t)), some (.int (zi (∃ q, q < k ∧ smT (pf M p) (l.getD q 0) t))), some (.int (nI k)), some (.int (nI u))]) rfl ?_
    refine ev_s rfl ?_
    refine ev_cut (pc2 := 122) (ls2 := [some (.ref 21), some (.int (nI p)), some (.int (nI t)), some (.int (zi (∃ q, q < k ∧ smT (pf M p) (l.getD q 0) t))), some (.int (nI k)), some (.int (nI u))]) (st2 := [(.int (zi ((∃ q, q < k ∧ smT (pf M p) (l.getD q 0) t) ∨ smT (pf M p) u t)))]) (hp2 := (mk np M L)) ?_ (fun hK1 => ?_)
    · show Ev _ _ 122 _ _ _ _
      refine ev_s (ls' := [some (.ref 21), some (.int (nI p)), some (.int (nI t)), some (.int (zi ((∃ q, q < k ∧ smT (pf M p) (l.getD q 0) t) ∨ smT (pf M p) u t))), some (.int (nI k)), some (.int (nI u))]) rfl ?_
      refine ev_inc (y := 1) (v := nI (k + 1)) (ls' := [some (.ref 21), some (.int (nI p)), some (.int (nI t)), some (.int (zi ((∃ q, q < k ∧ smT (pf M p) (l.getD q 0) t) ∨ smT (pf M p) u t))), some (.int (nI (k + 1))), some (.int (nI u))]) rfl rfl (by decide) (nI_1 _) rfl ?_
      refine ev_s rfl ?_
      have e9 := ih (k + 1) (by omega) (some (.int (nI u)))
      rw [show (∃ q, q < k + 1 ∧ smT (pf M p) (l.getD q 0) t) = ((∃ q, q < k ∧ smT (pf M p) (l.getD q 0) t) ∨ smT (pf M p) u t) from propext ⟨fun ⟨q, h1, h2⟩ => by
        rcases Nat.lt_or_ge q k with z | z
        · exact Or.inl ⟨q, z, h2⟩
        · obtain rfl : q = k := by omega
          rw [← hu] at h2
          exact Or.inr h2, fun h => h.elim (fun ⟨q, h1, h2⟩ => ⟨q, by omega, h2⟩) (fun h => ⟨k, by omega, by rw [← hu]; exact h⟩)⟩] at e9
      exact e9
    · show Ev _ _ 60 _ _ _ _
      refine ev_if rfl rfl (ev_bzn (fun c1 => ?_) (fun c1 => ?_))
      · show Ev _ _ 117 _ _ _ _
        refine ev_ik (v := 1) rfl (by decide) ?_
        refine ev_s rfl ?_
        rw [zi_t (show (∃ q, q < k ∧ smT (pf M p) (l.getD q 0) t) ∨ smT (pf M p) u t from (by first | exact Or.inl (by assumption) | exact Or.inr ⟨by assumption, by assumption, by assumption⟩ | exact fun h => h.elim (by assumption) (fun h => by first | exact absurd h.1 (by assumption) | exact absurd h.2.1 (by assumption) | exact absurd h.2.2 (by assumption))))] at hK1
        exact hK1
      · show Ev _ _ 63 _ _ _ _
        iterate 3 refine ev_s rfl ?_
        refine ev_ik (v := 0) rfl (by decide) ?_
        refine ev_cv (vs := [(.ref 21), (.int (nI p)), (.int (nI u)), (.int 0)]) (rest := []) (rv := (some (.int (tW (pf M p) u)))) rfl rfl rfl (rd np M L (by omega) rfl) rfl rfl rfl rfl (rn_measure0 (k := p) (t := u) (by omega) (by omega) _) ?_
        show Ev _ _ 71 _ [(.int (tW (pf M p) u))] _ _
        iterate 3 refine ev_s rfl ?_
        refine ev_ik (v := 0) rfl (by decide) ?_
        refine ev_cv (vs := [(.ref 21), (.int (nI p)), (.int (nI t)), (.int 0)]) (rest := [(.int (tW (pf M p) u))]) (rv := (some (.int (tW (pf M p) t)))) rfl rfl rfl (rd np M L (by omega) rfl) rfl rfl rfl rfl (rn_measure0 (k := p) (t := t) (by omega) (by omega) _) ?_
        show Ev _ _ 78 _ [(.int (tW (pf M p) t)), (.int (tW (pf M p) u))] _ _
        refine ev_ic rfl rfl (ev_bn (fun c2 => ?_) (fun c2 => ?_))
        · show Ev _ _ 121 _ _ _ _
          refine ev_ik (v := 0) rfl (by decide) ?_
          rw [zi_f (show ¬ ((∃ q, q < k ∧ smT (pf M p) (l.getD q 0) t) ∨ smT (pf M p) u t) from (by first | exact Or.inl (by assumption) | exact Or.inr ⟨by assumption, by assumption, by assumption⟩ | exact fun h => h.elim (by assumption) (fun h => by first | exact absurd h.1 (by assumption) | exact absurd h.2.1 (by assumption) | exact absurd h.2.2 (by assumption))))] at hK1
          exact hK1
        · show Ev _ _ 81 _ _ _ _
          iterate 3 refine ev_s rfl ?_
          refine ev_ik (v := 1) rfl (by decide) ?_
          refine ev_cv (vs := [(.ref 21), (.int (nI p)), (.int (nI u)), (.int 1)]) (rest := []) (rv := (some (.int (tH (pf M p) u)))) rfl rfl rfl (rd np M L (by omega) rfl) rfl rfl rfl rfl (rn_measure1 (k := p) (t := u) (by omega) (by omega) _) ?_
          show Ev _ _ 89 _ [(.int (tH (pf M p) u))] _ _
          iterate 3 refine ev_s rfl ?_
          refine ev_ik (v := 1) rfl (by decide) ?_
          refine ev_cv (vs := [(.ref 21), (.int (nI p)), (.int (nI t)), (.int 1)]) (rest := [(.int (tH (pf M p) u))]) (rv := (some (.int (tH (pf M p) t)))) rfl rfl rfl (rd np M L (by omega) rfl) rfl rfl rfl rfl (rn_measure1 (k := p) (t := t) (by omega) (by omega) _) ?_
          show Ev _ _ 96 _ [(.int (tH (pf M p) t)), (.int (tH (pf M p) u))] _ _
          refine ev_ic rfl rfl (ev_bn (fun c3 => ?_) (fun c3 => ?_))
          · show Ev _ _ 121 _ _ _ _
            refine ev_ik (v := 0) rfl (by decide) ?_
            rw [zi_f (show ¬ ((∃ q, q < k ∧ smT (pf M p) (l.getD q 0) t) ∨ smT (pf M p) u t) from (by first | exact Or.inl (by assumption) | exact Or.inr ⟨by assumption, by assumption, by assumption⟩ | exact fun h => h.elim (by assumption) (fun h => by first | exact absurd h.1 (by assumption) | exact absurd h.2.1 (by assumption) | exact absurd h.2.2 (by assumption))))] at hK1
            exact hK1
          · show Ev _ _ 99 _ _ _ _
            iterate 3 refine ev_s rfl ?_
            refine ev_ik (v := 2) rfl (by decide) ?_
            refine ev_cv (vs := [(.ref 21), (.int (nI p)), (.int (nI u)), (.int 2)]) (rest := []) (rv := (some (.int (tD (pf M p) u)))) rfl rfl rfl (rd np M L (by omega) rfl) rfl rfl rfl rfl (rn_measure2 (k := p) (t := u) (by omega) (by omega) _) ?_
            show Ev _ _ 107 _ [(.int (tD (pf M p) u))] _ _
            iterate 3 refine ev_s rfl ?_
            refine ev_ik (v := 2) rfl (by decide) ?_
            refine ev_cv (vs := [(.ref 21), (.int (nI p)), (.int (nI t)), (.int 2)]) (rest := [(.int (tD (pf M p) u))]) (rv := (some (.int (tD (pf M p) t)))) rfl rfl rfl (rd np M L (by omega) rfl) rfl rfl rfl rfl (rn_measure2 (k := p) (t := t) (by omega) (by omega) _) ?_
            show Ev _ _ 114 _ [(.int (tD (pf M p) t)), (.int (tD (pf M p) u))] _ _
            refine ev_ic rfl rfl (ev_bn (fun c4 => ?_) (fun c4 => ?_))
            · show Ev _ _ 121 _ _ _ _
              refine ev_ik (v := 0) rfl (by decide) ?_
              rw [zi_f (show ¬ ((∃ q, q < k ∧ smT (pf M p) (l.getD q 0) t) ∨ smT (pf M p) u t) from (by first | exact Or.inl (by assumption) | exact Or.inr ⟨by assumption, by assumption, by assumption⟩ | exact fun h => h.elim (by assumption) (fun h => by first | exact absurd h.1 (by assumption) | exact absurd h.2.1 (by assumption) | exact absurd h.2.2 (by assumption))))] at hK1
              exact hK1
            · show Ev _ _ 117 _ _ _ _
              refine ev_ik (v := 1) rfl (by decide) ?_
              refine ev_s rfl ?_
              rw [zi_t (show (∃ q, q < k ∧ smT (pf M p) (l.getD q 0) t) ∨ smT (pf M p) u t from (by first | exact Or.inl (by assumption) | exact Or.inr ⟨by assumption, by assumption, by assumption⟩ | exact fun h => h.elim (by assumption) (fun h => by first | exact absurd h.1 (by assumption) | exact absurd h.2.1 (by assumption) | exact absurd h.2.2 (by assumption))))] at hK1
              exact hK1
def TI (p : Nat) (M : Nat → Nat → Int32) (T : List Nat) (M2 : Nat → Nat → Int32) : Prop := M2 47 p = 0 ∧ (M2 48 p = nI T.length ∧ blk (M2 49) (6 * p) T) ∧ Fb p M M2
theorem TI_add {p t : Nat} {M M2 : Nat → Nat → Int32} {l : List Nat} (h : TI p M l M2) (hl : l.length < 6) : TI p M (l ++ [t]) (up2 (up2 M2 49 (6 * p + l.length) (nI t)) 48 p (nI (l.length + 1))) := by
  obtain ⟨h1, ⟨h2, h3⟩, h4⟩ := h
  refine ⟨by rw [up2_n (by omega), up2_n (by omega)]; exact h1, ⟨by rw [up2_s, upd_s]; simp, fun k hk => ?_⟩, (h4.up (Or.inr (Or.inl ⟨rfl, by omega, by omega⟩))).up (Or.inl ⟨Or.inr (Or.inl rfl), rfl⟩)⟩
  rw [up2_n (by omega), up2_s]
  simp only [List.length_append, List.length_cons, List.length_nil] at hk
  by_cases e : k = l.length
  · subst e
    rw [upd_s]
    simp
  · rw [upd_n (by omega), h3 k (by omega)]
    congr 1
    rw [List.getD_eq_getElem?_getD, List.getD_eq_getElem?_getD, List.getElem?_append_left (by omega)]
set_option maxHeartbeats 4000000 in
theorem lp_tt {np : Nat} {M : Nat → Nat → Int32} {L : Nat → Int64} {p n : Nat} (hp : p < 6) (hn : n = tmo (M 26 p)) (d : Nat) {Q : zCf → Prop} (hK : ∀ M2 v2 v3 v4 v5, TI p M (tls (pf M p) n) M2 → Ev (d + 1) mX6_begin 166 [some (.ref 21), some (.int (nI p)), v2, v3, v4, v5] [] (mk np M2 L) Q) : ∀ j t, t + j = n → ∀ M2 v3 v4 v5, TI p M (tls (pf M p) t) M2 → Ev (d + 1) mX6_begin 16 [some (.ref 21), some (.int (nI p)), some (.int (nI t)), v3, v4, v5] [] (mk np M2 L) Q := by
  intro j
  have hn6 : n ≤ 6 := by rw [hn]; exact tmo_le _
  induction j with
  | zero =>
    intro t htj M2 v3 v4 v5 hT
    obtain rfl : t = n := by omega
    have h26 : M2 26 p = M 26 p := by rw [hT.2.2.row (by omega)]
    iterate 2 refine ev_s rfl ?_
    refine ev_gf (rd np M2 L (by omega) rfl) rfl rfl rfl ?_
    refine ev_s rfl ?_
    refine ev_ia (rd np M2 L (by omega) rfl) rfl (zin_nI (by omega) (by decide)) ?_
    refine ev_cs (vs := [(.int (M2 26 p))]) (rest := [(.int (nI t))]) (rv := (some (.int (nI (tmo (M2 26 p)))))) rfl rfl rfl rfl rfl (rn_turnsOf _) ?_
    show Ev _ _ 26 _ [(.int (nI (tmo (M2 26 p)))), (.int (nI t))] _ _
    refine ev_ic rfl rfl ?_
    rw [show zbr .ge (nI t) (nI (tmo (M2 26 p))) 166 29 = 166 from zge_t (n := t) (by rw [h26, ← hn]) (by omega) (by omega)]
    exact hK M2 _ _ _ _ hT
  | succ j ih =>
    intro t htj M2 v3 v4 v5 hT
    have htn : t < n := by omega
    have h26 : M2 26 p = M 26 p := by rw [hT.2.2.row (by omega)]
    obtain ⟨l, hl⟩ : ∃ l, l = tls (pf M p) t := ⟨_, rfl⟩
    have hl6 : l.length ≤ t := by rw [hl]; exact tls_len t
    have hlt : ∀ x, x ∈ l → x < 6 := fun x hx => by have := tls_lt (f := pf M p) (n := t) (by rw [← hl]; exact hx); omega
    have hun : tls (pf M p) (t + 1) = cIf (cMk (pf M p) t) (tls (pf M p) t) (tls (pf M p) t ++ [t]) := rfl
    have htw := tls_twice (f := pf M p) (t := t)
    rw [← hl] at hT hun htw
    have hsm : ∀ b, smT (pf M2 p) b t = smT (pf M p) b t := fun b => by
      have e1 := pf_eq (q := p) (hT.2.2.row (h := 22) (by omega)) (hT.2.2.row (h := 23) (by omega)) (hT.2.2.row (h := 24) (by omega)) b
      have e2 := pf_eq (q := p) (hT.2.2.row (h := 22) (by omega)) (hT.2.2.row (h := 23) (by omega)) (hT.2.2.row (h := 24) (by omega)) t
      unfold smT
      rw [e1.1, e1.2.1, e1.2.2, e2.1, e2.2.1, e2.2.2]
    have htw2 : (∃ q, q < l.length ∧ smT (pf M2 p) (l.getD q 0) t) = cMk (pf M p) t := by
      rw [← propext htw]
      exact congrArg _ (funext fun q => by rw [hsm])
    iterate 2 refine ev_s rfl ?_
    refine ev_gf (rd np M2 L (by omega) rfl) rfl rfl rfl ?_
    refine ev_s rfl ?_
    refine ev_ia (rd np M2 L (by omega) rfl) rfl (zin_nI (by omega) (by decide)) ?_
    refine ev_cs (vs := [(.int (M2 26 p))]) (rest := [(.int (nI t))]) (rv := (some (.int (nI (tmo (M2 26 p)))))) rfl rfl rfl rfl rfl (rn_turnsOf _) ?_
    show Ev _ _ 26 _ [(.int (nI (tmo (M2 26 p)))), (.int (nI t))] _ _
    refine ev_ic rfl rfl ?_
    rw [show zbr .ge (nI t) (nI (tmo (M2 26 p))) 166 29 = 29 from zge_f (n := n) (by rw [h26, ← hn]) htn (by omega)]
    refine ev_ik (v := 0) rfl (by decide) ?_
    refine ev_s (ls' := [some (.ref 21), some (.int (nI p)), some (.int (nI t)), some (.int 0), v4, v5]) rfl ?_
    refine ev_ik (v := 0) rfl (by decide) ?_
    refine ev_s (ls' := [some (.ref 21), some (.int (nI p)), some (.int (nI t)), some (.int 0), some (.int 0), v5]) rfl ?_
    have hzz : zi (∃ q, q < 0 ∧ smT (pf M2 p) (l.getD q 0) t) = 0 := zi_f (fun ⟨q, h, _⟩ => absurd h (by omega))
    have e7 := lp_tw (M := M2) (np := np) (L := L) (Q := Q) hp (show t < 6 by omega) (show l.length ≤ 6 by omega) hlt hT.2.1.1 hT.2.1.2 d (fun v6 => ?_) l.length 0 (by omega) (v5)
    · rw [hzz] at e7
      exact e7
    refine ev_s rfl ?_
    refine ev_if rfl rfl (ev_bzn (fun c1 => ?_) (fun c1 => ?_))
    · show Ev _ _ 160 _ _ _ _
      refine ev_inc (y := 1) (v := nI (t + 1)) (ls' := [some (.ref 21), some (.int (nI p)), some (.int (nI (t + 1))), some (.int (zi (∃ q, q < l.length ∧ smT (pf M2 p) (l.getD q 0) t))), some (.int (nI l.length)), v6]) rfl rfl (by decide) (nI_1 _) rfl ?_
      refine ev_s rfl ?_
      rw [htw2] at c1
      refine ih (t + 1) (by omega) M2 _ _ _ ?_
      rw [hun, cIf_t c1]
      exact hT
    · show Ev _ _ 133 _ _ _ _
      refine ev_s rfl ?_
      refine ev_gf (rd np M2 L (by omega) rfl) rfl rfl rfl ?_
      refine ev_bi (v := 6) rfl (by decide) ?_
      iterate 3 refine ev_s rfl ?_
      refine ev_gf (rd np M2 L (by omega) rfl) rfl rfl rfl ?_
      refine ev_s rfl ?_
      refine ev_ia (rd np M2 L (by omega) rfl) rfl (zin_nI (by omega) (by decide)) ?_
      rw [hT.2.1.1]
      iterate 2 refine ev_s rfl ?_
      refine ev_is (hp' := (mk np (up2 M2 49 (6 * p + l.length) (nI t)) L)) (rd np M2 L (by omega) rfl) rfl (by rw [m6]; exact zin_nI (by omega) (by decide)) (mk_setr rfl rfl rfl) ?_
      refine ev_s rfl ?_
      refine ev_gf (rd np (up2 M2 49 (6 * p + l.length) (nI t)) L (by omega) ((congrArg (fun r => cel np 21 r (L 21)) ((up2_n (by omega)).trans rfl)).trans rfl)) rfl rfl rfl ?_
      iterate 2 refine ev_s rfl ?_
      refine ev_ia (rd np (up2 M2 49 (6 * p + l.length) (nI t)) L (by omega) ((congrArg (fun r => cel np 48 r (L 48)) ((up2_n (by omega)).trans rfl)).trans rfl)) rfl (zin_nI (by omega) (by decide)) ?_
      rw [hT.2.1.1]
      refine ev_ik (v := 1) rfl (by decide) ?_
      refine ev_s rfl ?_
      rw [nI_1]
      refine ev_is (hp' := (mk np (up2 (up2 M2 49 (6 * p + l.length) (nI t)) 48 p (nI (l.length + 1))) L)) (rd np (up2 M2 49 (6 * p + l.length) (nI t)) L (by omega) ((congrArg (fun r => cel np 48 r (L 48)) ((up2_n (by omega)).trans rfl)).trans rfl)) rfl (zin_nI (by omega) (by decide)) (mk_setr ((up2_n (by omega)).trans rfl) rfl rfl) ?_
      refine ev_inc (y := 1) (v := nI (t + 1)) (ls' := [some (.ref 21), some (.int (nI p)), some (.int (nI (t + 1))), some (.int (zi (∃ q, q < l.length ∧ smT (pf M2 p) (l.getD q 0) t))), some (.int (nI l.length)), v6]) rfl rfl (by decide) (nI_1 _) rfl ?_
      refine ev_s rfl ?_
      have e8 := TI_add (t := t) hT (by omega)
      rw [htw2] at c1
      refine ih (t + 1) (by omega) _ _ _ _ ?_
      rw [hun, cIf_f c1]
      exact e8
end
section
/-! ===== LoadSpaceModel: begin, the starts ===== -/
def E1 (H Hs p : Nat) (l : List Nat) (M2 M3 : Nat → Nat → Int32) : Prop := M3 Hs p = nI l.length ∧ blk (M3 H) (7 * p) l ∧ (∀ h, h ≠ H → h ≠ Hs → M3 h = M2 h) ∧ (∀ k, k ≠ p → M3 Hs k = M2 Hs k) ∧ ∀ k, k < 7 * p ∨ 7 * p + 7 ≤ k → M3 H k = M2 H k
theorem E1.fb {H Hs p : Nat} {l : List Nat} {M M2 M3 : Nat → Nat → Int32} (h : E1 H Hs p l M2 M3) (hH : H = 53 ∧ Hs = 50 ∨ H = 54 ∧ Hs = 51 ∨ H = 55 ∧ Hs = 52) (a : Fb p M M2) : Fb p M M3 := by
  intro h' k' q
  obtain ⟨_, _, h1, h2, h3⟩ := h
  by_cases e : h' = H
  · subst e; rw [h3 k' (by unfold own at q; omega)]; exact a _ _ q
  · by_cases e2 : h' = Hs
    · subst e2; rw [h2 k' (by unfold own at q; omega)]; exact a _ _ q
    · rw [h1 h' e e2]; exact a _ _ q

set_option maxHeartbeats 4000000 in
theorem sg_x0 {np : Nat} {M2 : Nat → Nat → Int32} {L : Nat → Int64} {p : Nat} (hp : p < 6) (d : Nat) {v2 v3 v4 v5 : Option Value} {Q : zCf → Prop} (hK : ∀ M3, E1 53 50 p [0] M2 M3 → Ev (d + 1) mX6_begin 185 [some (.ref 21), some (.int (nI p)), v2, v3, v4, v5] [] (mk np M3 L) Q) : Ev (d + 1) mX6_begin 166 [some (.ref 21), some (.int (nI p)), v2, v3, v4, v5] [] (mk np M2 L) Q := by
  refine ev_s rfl ?_
  refine ev_gf (rd np M2 L (by omega) rfl) rfl rfl rfl ?_
  iterate 2 refine ev_s rfl ?_
  refine ev_gf (rd np M2 L (by omega) rfl) rfl rfl rfl ?_
  refine ev_bi (v := 7) rfl (by decide) ?_
  iterate 2 refine ev_s rfl ?_
  refine ev_ik (v := 0) rfl (by decide) ?_
  refine ev_ik (v := 0) rfl (by decide) ?_
  rw [m7 p]
  refine ev_cs (vs := [(.ref 53), (.int (nI (7 * p))), (.int 0), (.int 0)]) (rest := [(.int (nI p)), (.ref 50)]) (rv := (some (.int (nI (enR (M2 53) (7 * p) 0 (nI 0)).2)))) (hp' := (mk np (rwM M2 53 (enR (M2 53) (7 * p) 0 (nI 0)).1) L)) rfl rfl rfl rfl rfl (rn_enter53 (n := 0) (v := (nI 0)) (by omega) _) ?_
  show Ev _ _ 184 _ [(.int (nI (enR (M2 53) (7 * p) 0 (nI 0)).2)), (.int (nI p)), (.ref 50)] _ _
  refine ev_is (hp' := (mk np (up2 (rwM M2 53 (enR (M2 53) (7 * p) 0 (nI 0)).1) 50 p (nI (enR (M2 53) (7 * p) 0 (nI 0)).2)) L)) (rd np (rwM M2 53 (enR (M2 53) (7 * p) 0 (nI 0)).1) L (by omega) rfl) rfl (zin_nI (by omega) (by decide)) (mk_setr rfl rfl rfl) ?_
  sorry
  /-exact hK _ (en_M (M2 := M2) (l := []) (a := 0) (by decide) rfl (by decide) trivial (fun x hx => absurd hx (by simp)) (fun k hk => absurd hk (by simp)) (by simp))-/
end
