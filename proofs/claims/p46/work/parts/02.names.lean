/-! ===== names: classes, fields, methods (by program wip/gen out of the claim) ===== -/
def RX0 : String := "LastStirred$Flock"
def RX1 : String := "LastStirred$Ground"
def RX2 : String := "LastStirred$Reader"
def RX3 : String := "LastStirred$Search"
def RX4 : String := "LastStirred$Shelf"
def RX5 : String := "LastStirred$Watch"
def RX6 : String := "LastStirred"
def RX7 : String := "LastStirred$Watch"
def RX8 : String := "LastStirredLaw"
def RX9 : String := "java/lang/Integer"
def RX10 : String := "java/lang/Math"
def RX11 : String := "java/util/Arrays"
def RX12 : String := "java/lang/System"
def RX13 : String := "java/lang/Object"
def TX0 : u_T := fun k => match k with
  | 0 => ("LastStirred$Flock", "kind", "[I", true)
  | 1 => ("LastStirred$Flock", "cell", "[I", true)
  | 2 => ("LastStirred$Flock", "gone", "[I", true)
  | 3 => ("LastStirred$Flock", "size", "I", false)
  | 4 => ("LastStirred$Flock", "last", "I", false)
  | 5 => ("LastStirred$Flock", "lastCell", "I", false)
  | 6 => ("LastStirred$Flock", "before", "I", false)
  | 7 => ("LastStirred$Flock", "beforeCell", "I", false)
  | 8 => ("LastStirred$Flock", "step", "I", false)
  | _ => ("LastStirred$Flock", "full", "I", false)
def tyX0 : Nat → FieldType := fun k => match k with
  | 0 => .array .int
  | 1 => .array .int
  | 2 => .array .int
  | 3 => .int
  | 4 => .int
  | 5 => .int
  | 6 => .int
  | 7 => .int
  | 8 => .int
  | _ => .int
theorem nmX0 : ∀ a, a < 10 → ∀ b, b < 10 → a ≠ b → (TX0 a).2.1 ≠ (TX0 b).2.1 := by decide +kernel
theorem tyX0_ok : ∀ k, k < 10 → parseFieldDescriptor (TX0 k).2.2.1 = some (tyX0 k) := by decide +kernel
def TX1 : u_T := fun k => match k with
  | 0 => ("LastStirred$Ground", "what", "[I", true)
  | 1 => ("LastStirred$Ground", "column", "[I", true)
  | 2 => ("LastStirred$Ground", "line", "[I", true)
  | 3 => ("LastStirred$Ground", "width", "I", false)
  | 4 => ("LastStirred$Ground", "height", "I", false)
  | _ => ("LastStirred$Ground", "size", "I", false)
def tyX1 : Nat → FieldType := fun k => match k with
  | 0 => .array .int
  | 1 => .array .int
  | 2 => .array .int
  | 3 => .int
  | 4 => .int
  | _ => .int
theorem nmX1 : ∀ a, a < 6 → ∀ b, b < 6 → a ≠ b → (TX1 a).2.1 ≠ (TX1 b).2.1 := by decide +kernel
theorem tyX1_ok : ∀ k, k < 6 → parseFieldDescriptor (TX1 k).2.2.1 = some (tyX1 k) := by decide +kernel
def TX2 : u_T := fun k => match k with
  | 0 => ("LastStirred$Reader", "ground", "LLastStirred$Ground;", true)
  | 1 => ("LastStirred$Reader", "flock", "LLastStirred$Flock;", true)
  | 2 => ("LastStirred$Reader", "text", "[I", false)
  | 3 => ("LastStirred$Reader", "size", "I", false)
  | _ => ("LastStirred$Reader", "place", "I", false)
def tyX2 : Nat → FieldType := fun k => match k with
  | 0 => .object "LastStirred$Ground"
  | 1 => .object "LastStirred$Flock"
  | 2 => .array .int
  | 3 => .int
  | _ => .int
theorem nmX2 : ∀ a, a < 5 → ∀ b, b < 5 → a ≠ b → (TX2 a).2.1 ≠ (TX2 b).2.1 := by decide +kernel
theorem tyX2_ok : ∀ k, k < 5 → parseFieldDescriptor (TX2 k).2.2.1 = some (tyX2 k) := by decide +kernel
def TX3 : u_T := fun k => match k with
  | 0 => ("LastStirred$Search", "behind", "[LLastStirred$Flock;", true)
  | 1 => ("LastStirred$Search", "sought", "[I", true)
  | 2 => ("LastStirred$Search", "seeksSafe", "Z", false)
  | 3 => ("LastStirred$Search", "length", "I", false)
  | 4 => ("LastStirred$Search", "rows", "I", false)
  | 5 => ("LastStirred$Search", "hits", "I", false)
  | 6 => ("LastStirred$Search", "first", "I", false)
  | 7 => ("LastStirred$Search", "beasts", "I", false)
  | _ => ("LastStirred$Search", "ways", "I", false)
def tyX3 : Nat → FieldType := fun k => match k with
  | 0 => .array (.object "LastStirred$Flock")
  | 1 => .array .int
  | 2 => .boolean
  | 3 => .int
  | 4 => .int
  | 5 => .int
  | 6 => .int
  | 7 => .int
  | _ => .int
theorem nmX3 : ∀ a, a < 9 → ∀ b, b < 9 → a ≠ b → (TX3 a).2.1 ≠ (TX3 b).2.1 := by decide +kernel
theorem tyX3_ok : ∀ k, k < 9 → parseFieldDescriptor (TX3 k).2.2.1 = some (tyX3 k) := by decide +kernel
def TX4 : u_T := fun k => match k with
  | 0 => ("LastStirred$Shelf", "place", "[[I", true)
  | _ => ("LastStirred$Shelf", "size", "[I", true)
def tyX4 : Nat → FieldType := fun k => match k with
  | 0 => .array (.array .int)
  | _ => .array .int
theorem nmX4 : ∀ a, a < 2 → ∀ b, b < 2 → a ≠ b → (TX4 a).2.1 ≠ (TX4 b).2.1 := by decide +kernel
theorem tyX4_ok : ∀ k, k < 2 → parseFieldDescriptor (TX4 k).2.2.1 = some (tyX4 k) := by decide +kernel
def TX5 : u_T := fun k => match k with
  | 0 => ("LastStirred$Watch", "behind", "[LLastStirred$Flock;", true)
  | 1 => ("LastStirred$Watch", "turns", "I", false)
  | 2 => ("LastStirred$Watch", "lostNow", "I", false)
  | _ => ("LastStirred$Watch", "first", "I", false)
def tyX5 : Nat → FieldType := fun k => match k with
  | 0 => .array (.object "LastStirred$Flock")
  | 1 => .int
  | 2 => .int
  | _ => .int
theorem nmX5 : ∀ a, a < 4 → ∀ b, b < 4 → a ≠ b → (TX5 a).2.1 ≠ (TX5 b).2.1 := by decide +kernel
theorem tyX5_ok : ∀ k, k < 4 → parseFieldDescriptor (TX5 k).2.2.1 = some (tyX5 k) := by decide +kernel
def TX6 : u_T := fun k => match k with
  | 0 => ("LastStirred", "rows", "LLastStirred$Shelf;", true)
  | 1 => ("LastStirred", "texts", "LLastStirred$Shelf;", true)
  | 2 => ("LastStirred", "reader", "LLastStirred$Reader;", true)
  | 3 => ("LastStirred", "ground", "LLastStirred$Ground;", true)
  | 4 => ("LastStirred", "flock", "LLastStirred$Flock;", true)
  | 5 => ("LastStirred", "kept", "[LLastStirred$Flock;", true)
  | 6 => ("LastStirred", "trial", "LLastStirred$Flock;", true)
  | 7 => ("LastStirred", "trail", "[J", true)
  | 8 => ("LastStirred", "search", "LLastStirred$Search;", true)
  | 9 => ("LastStirred", "watch", "LLastStirred$Watch;", true)
  | 10 => ("LastStirred", "found", "[I", true)
  | 11 => ("LastStirred", "keptPlaces", "I", false)
  | 12 => ("LastStirred", "latest", "I", false)
  | 13 => ("LastStirred", "told", "I", false)
  | 14 => ("LastStirred", "up", "J", false)
  | _ => ("LastStirred", "low", "J", false)
def tyX6 : Nat → FieldType := fun k => match k with
  | 0 => .object "LastStirred$Shelf"
  | 1 => .object "LastStirred$Shelf"
  | 2 => .object "LastStirred$Reader"
  | 3 => .object "LastStirred$Ground"
  | 4 => .object "LastStirred$Flock"
  | 5 => .array (.object "LastStirred$Flock")
  | 6 => .object "LastStirred$Flock"
  | 7 => .array .long
  | 8 => .object "LastStirred$Search"
  | 9 => .object "LastStirred$Watch"
  | 10 => .array .int
  | 11 => .int
  | 12 => .int
  | 13 => .int
  | 14 => .long
  | _ => .long
theorem nmX6 : ∀ a, a < 16 → ∀ b, b < 16 → a ≠ b → (TX6 a).2.1 ≠ (TX6 b).2.1 := by decide +kernel
theorem tyX6_ok : ∀ k, k < 16 → parseFieldDescriptor (TX6 k).2.2.1 = some (tyX6 k) := by decide +kernel
def TX7 : u_T := fun k => match k with
  | 0 => ("LastStirred$Watch", "behind", "[LLastStirred$Flock;", true)
  | 1 => ("LastStirred$Watch", "turns", "I", false)
  | 2 => ("LastStirred$Watch", "lostNow", "I", false)
  | _ => ("LastStirred$Watch", "first", "I", false)
def tyX7 : Nat → FieldType := fun k => match k with
  | 0 => .array (.object "LastStirred$Flock")
  | 1 => .int
  | 2 => .int
  | _ => .int
theorem nmX7 : ∀ a, a < 4 → ∀ b, b < 4 → a ≠ b → (TX7 a).2.1 ≠ (TX7 b).2.1 := by decide +kernel
theorem tyX7_ok : ∀ k, k < 4 → parseFieldDescriptor (TX7 k).2.2.1 = some (tyX7 k) := by decide +kernel
abbrev j_cls : List vw_C := [(RX0, TX0, 10), (RX1, TX1, 6), (RX2, TX2, 5), (RX3, TX3, 9), (RX4, TX4, 2), (RX5, TX5, 4), (RX6, TX6, 16), (RX7, TX7, 4)]
def j_CN : Nat → String := fun k => match k with
  | 0 => RX0
  | 1 => RX1
  | 2 => RX2
  | 3 => RX3
  | 4 => RX4
  | 5 => RX5
  | 6 => RX6
  | 7 => RX7
  | 8 => RX8
  | 9 => RX9
  | 10 => RX10
  | 11 => RX11
  | 12 => RX12
  | _ => RX13
def j_mN : List MethodName := [⟨RX0, "<init>", "()V"⟩,
  ⟨RX0, "clear", "()V"⟩,
  ⟨RX0, "add", "(II)V"⟩,
  ⟨RX0, "take", "(LLastStirred$Flock;)V"⟩,
  ⟨RX0, "drives", "()I"⟩,
  ⟨RX0, "has", "(I)Z"⟩,
  ⟨RX0, "isLost", "(I)Z"⟩,
  ⟨RX0, "isIn", "(I)Z"⟩,
  ⟨RX0, "whoIsIn", "(I)I"⟩,
  ⟨RX0, "drives", "()I"⟩,
  ⟨RX0, "isShy", "(I)Z"⟩,
  ⟨RX0, "isSlow", "(I)Z"⟩,
  ⟨RX0, "tells", "(II)I"⟩,
  ⟨RX0, "drives", "()I"⟩,
  ⟨RX0, "lostOnes", "()I"⟩,
  ⟨RX0, "shyOnes", "()I"⟩,
  ⟨RX0, "allOff", "(LLastStirred$Ground;)I"⟩,
  ⟨RX0, "areSafe", "(LLastStirred$Ground;)Z"⟩,
  ⟨RX0, "areAt", "([I)Z"⟩,
  ⟨RX0, "inOneNumber", "()J"⟩,
  ⟨RX0, "joined", "(JI)J"⟩,
  ⟨RX0, "aimOf", "(I)I"⟩,
  ⟨RX0, "can", "(LLastStirred$Ground;IIZ)Z"⟩,
  ⟨RX0, "move", "(LLastStirred$Ground;II)V"⟩,
  ⟨RX0, "becomesLast", "(II)V"⟩,
  ⟨RX0, "stirBy", "(LLastStirred$Ground;II)I"⟩,
  ⟨RX0, "takeStep", "(LLastStirred$Ground;)I"⟩,
  ⟨RX0, "nextCell", "(LLastStirred$Ground;IZ)I"⟩,
  ⟨RX0, "runOut", "(LLastStirred$Ground;)Z"⟩,
  ⟨RX0, "driveBy", "(LLastStirred$Ground;I)Z"⟩,
  ⟨RX0, "drives", "()I"⟩,
  ⟨RX0, "drives", "()I"⟩,
  ⟨RX1, "<init>", "()V"⟩,
  ⟨RX1, "spread", "(II)V"⟩,
  ⟨RX1, "take", "(LLastStirred$Ground;)V"⟩,
  ⟨RX1, "has", "(I)Z"⟩,
  ⟨RX1, "isOpen", "(I)Z"⟩,
  ⟨RX1, "off", "(II)I"⟩,
  ⟨RX1, "beside", "(II)I"⟩,
  ⟨RX0, "drives", "()I"⟩,
  ⟨RX1, "reachFrom", "(IZ)I"⟩,
  ⟨RX1, "openBeside", "(IZ)I"⟩,
  ⟨RX2, "<init>", "()V"⟩,
  ⟨RX2, "readAll", "([II)I"⟩,
  ⟨RX2, "readSize", "()Z"⟩,
  ⟨RX2, "readCells", "()Z"⟩,
  ⟨RX2, "readBeasts", "()Z"⟩,
  ⟨RX2, "readBeast", "()Z"⟩,
  ⟨RX2, "skipBlanks", "()V"⟩,
  ⟨RX2, "sign", "()I"⟩,
  ⟨RX2, "figure", "(II)I"⟩,
  ⟨RX3, "<init>", "()V"⟩,
  ⟨RX3, "seekSafe", "()V"⟩,
  ⟨RX3, "seekDawn", "([I)V"⟩,
  ⟨RX3, "fewFrom", "(LLastStirred$Ground;LLastStirred$Flock;I)I"⟩,
  ⟨RX0, "drives", "()I"⟩,
  ⟨RX3, "begin", "(LLastStirred$Flock;I)V"⟩,
  ⟨RX3, "follow", "(LLastStirred$Search;LLastStirred$Ground;II)V"⟩,
  ⟨RX3, "note", "(LLastStirred$Ground;II)V"⟩,
  ⟨RX4, "<init>", "([[I)V"⟩,
  ⟨RX4, "has", "(I)Z"⟩,
  ⟨RX4, "make", "(III)V"⟩,
  ⟨RX4, "thereAre", "()I"⟩,
  ⟨RX4, "addTo", "(J)J"⟩,
  ⟨RX5, "<init>", "()V"⟩,
  ⟨RX0, "drives", "()I"⟩,
  ⟨RX0, "drives", "()I"⟩,
  ⟨RX0, "drives", "()I"⟩,
  ⟨RX6, "<init>", "()V"⟩,
  ⟨RX0, "drives", "()I"⟩,
  ⟨RX0, "drives", "()I"⟩,
  ⟨RX6, "at", "(II)I"⟩,
  ⟨RX6, "tear", "(I)I"⟩,
  ⟨RX0, "drives", "()I"⟩,
  ⟨RX0, "drives", "()I"⟩,
  ⟨RX6, "text", "(II)I"⟩,
  ⟨RX6, "put", "(III)I"⟩,
  ⟨RX6, "fault", "(I)I"⟩,
  ⟨RX6, "ground", "(I)I"⟩,
  ⟨RX6, "cell", "(I)I"⟩,
  ⟨RX0, "drives", "()I"⟩,
  ⟨RX6, "beast", "(II)I"⟩,
  ⟨RX0, "drives", "()I"⟩,
  ⟨RX6, "last", "()I"⟩,
  ⟨RX6, "stir", "(II)I"⟩,
  ⟨RX6, "go", "(I)I"⟩,
  ⟨RX6, "run", "()I"⟩,
  ⟨RX6, "ring", "()I"⟩,
  ⟨RX6, "where", "(I)I"⟩,
  ⟨RX6, "apart", "()I"⟩,
  ⟨RX6, "keep", "(I)I"⟩,
  ⟨RX6, "on", "(I)I"⟩,
  ⟨RX6, "fewest", "()I"⟩,
  ⟨RX0, "drives", "()I"⟩,
  ⟨RX6, "gather", "()I"⟩,
  ⟨RX0, "drives", "()I"⟩,
  ⟨RX0, "drives", "()I"⟩,
  ⟨RX0, "drives", "()I"⟩,
  ⟨RX0, "drives", "()I"⟩,
  ⟨RX0, "drives", "()I"⟩,
  ⟨RX6, "never", "()I"⟩,
  ⟨RX0, "drives", "()I"⟩,
  ⟨RX6, "dawn", "(I)I"⟩,
  ⟨RX6, "who", "(I)I"⟩,
  ⟨RX0, "drives", "()I"⟩,
  ⟨RX6, "asked", "()I"⟩,
  ⟨RX0, "drives", "()I"⟩,
  ⟨RX0, "drives", "()I"⟩,
  ⟨RX6, "count", "(I)I"⟩,
  ⟨RX0, "drives", "()I"⟩,
  ⟨RX0, "drives", "()I"⟩,
  ⟨RX6, "digest", "()J"⟩,
  ⟨RX6, "finds", "(I)I"⟩,
  ⟨RX6, "makeIn", "(LLastStirred$Shelf;III)I"⟩,
  ⟨RX6, "refusedMissing", "(LLastStirred$Shelf;I)I"⟩,
  ⟨RX6, "refusedPlace", "(LLastStirred$Shelf;II)I"⟩,
  ⟨RX6, "refusedDawn", "(I)I"⟩,
  ⟨RX0, "drives", "()I"⟩,
  ⟨RX6, "isWay", "(I)Z"⟩,
  ⟨RX6, "isPlace", "(I)Z"⟩,
  ⟨RX6, "isKept", "(I)Z"⟩,
  ⟨RX0, "drives", "()I"⟩,
  ⟨RX0, "drives", "()I"⟩,
  ⟨RX6, "tryDrive", "(I)Z"⟩,
  ⟨RX0, "drives", "()I"⟩,
  ⟨RX6, "placeOf", "([II)I"⟩,
  ⟨RX9, "bitCount", "(I)I"⟩,
  ⟨RX11, "fill", "([II)V"⟩,
  ⟨RX8, "cell", "([II)I"⟩,
  ⟨RX8, "put", "(LLastStirred;II)I"⟩,
  ⟨RX8, "numbers", "([III[I)V"⟩,
  ⟨RX8, "ground", "(LLastStirred;[I)Z"⟩,
  ⟨RX8, "off", "([III)I"⟩,
  ⟨RX8, "tells", "(LLastStirred;I)I"⟩,
  ⟨RX8, "rings", "(LLastStirred;)Z"⟩,
  ⟨RX8, "drives", "(LLastStirred;I)Z"⟩,
  ⟨RX8, "runs", "(LLastStirred;I)Z"⟩,
  ⟨RX8, "law", "([I)Z"⟩]
def j_mB : List ByteArray := [prog_2_method_1_code, prog_2_method_2_code, prog_2_method_3_code, prog_2_method_4_code, prog_2_method_14_code, prog_2_method_6_code, prog_2_method_7_code, prog_2_method_8_code, prog_2_method_9_code, prog_2_method_14_code, prog_2_method_11_code, prog_2_method_12_code, prog_2_method_13_code, prog_2_method_14_code, prog_2_method_15_code, prog_2_method_16_code, prog_2_method_17_code, prog_2_method_18_code, prog_2_method_19_code, prog_2_method_20_code, prog_2_method_21_code, prog_2_method_22_code, prog_2_method_23_code, prog_2_method_24_code, prog_2_method_25_code, prog_2_method_26_code, prog_2_method_27_code, prog_2_method_28_code, prog_2_method_29_code, prog_2_method_30_code, prog_2_method_14_code, prog_2_method_14_code, prog_3_method_1_code, prog_3_method_2_code, prog_3_method_3_code, prog_3_method_4_code, prog_3_method_5_code, prog_3_method_6_code, prog_3_method_7_code, prog_2_method_14_code, prog_3_method_9_code, prog_3_method_10_code, prog_4_method_1_code, prog_4_method_2_code, prog_4_method_3_code, prog_4_method_4_code, prog_4_method_5_code, prog_4_method_6_code, prog_4_method_7_code, prog_4_method_8_code, prog_4_method_9_code, prog_5_method_1_code, prog_5_method_2_code, prog_5_method_3_code, prog_5_method_4_code, prog_2_method_14_code, prog_5_method_6_code, prog_5_method_7_code, prog_5_method_8_code, prog_6_method_1_code, prog_6_method_2_code, prog_6_method_3_code, prog_6_method_4_code, prog_6_method_5_code, prog_7_method_1_code, prog_2_method_14_code, prog_2_method_14_code, prog_2_method_14_code, prog_1_method_1_code, prog_2_method_14_code, prog_2_method_14_code, prog_1_method_4_code, prog_1_method_5_code, prog_2_method_14_code, prog_2_method_14_code, prog_1_method_8_code, prog_1_method_9_code, prog_1_method_10_code, prog_1_method_11_code, prog_1_method_12_code, prog_2_method_14_code, prog_1_method_14_code, prog_2_method_14_code, prog_1_method_16_code, prog_1_method_17_code, prog_1_method_18_code, prog_1_method_19_code, prog_1_method_20_code, prog_1_method_21_code, prog_1_method_22_code, prog_1_method_23_code, prog_1_method_24_code, prog_1_method_25_code, prog_2_method_14_code, prog_1_method_27_code, prog_2_method_14_code, prog_2_method_14_code, prog_2_method_14_code, prog_2_method_14_code, prog_2_method_14_code, prog_1_method_33_code, prog_2_method_14_code, prog_1_method_35_code, prog_1_method_36_code, prog_2_method_14_code, prog_1_method_38_code, prog_2_method_14_code, prog_2_method_14_code, prog_1_method_41_code, prog_2_method_14_code, prog_2_method_14_code, prog_1_method_44_code, prog_1_method_45_code, prog_1_method_46_code, prog_1_method_47_code, prog_1_method_48_code, prog_1_method_49_code, prog_2_method_14_code, prog_1_method_51_code, prog_1_method_52_code, prog_1_method_53_code, prog_2_method_14_code, prog_2_method_14_code, prog_1_method_56_code, prog_2_method_14_code, prog_1_method_58_code, prog_10_method_49_code, prog_13_method_103_code, method_2_code, method_3_code, method_4_code, method_5_code, method_8_code, method_18_code, method_21_code, method_22_code, method_23_code, code]
def j_mL : List Nat := [1, 1, 3, 3, 1, 2, 2, 2, 3, 1, 2, 2, 3, 1, 3, 3, 5, 3, 3, 4, 3, 2, 5, 4, 3, 5, 8, 16, 4, 3, 1, 1, 1, 5, 2, 2, 2, 3, 5, 1, 7, 6, 1, 3, 3, 3, 2, 5, 1, 1, 4, 1, 1, 2, 5, 1, 3, 6, 6, 2, 2, 4, 6, 7, 1, 1, 1, 1, 1, 1, 1, 4, 3, 1, 1, 3, 6, 3, 3, 2, 1, 3, 1, 1, 4, 4, 2, 3, 3, 1, 2, 2, 2, 1, 6, 1, 1, 1, 1, 1, 5, 1, 4, 4, 1, 1, 1, 1, 2, 1, 1, 5, 2, 5, 3, 5, 5, 1, 1, 2, 2, 1, 1, 2, 1, 3, 1, 4, 2, 3, 12, 5, 5, 2, 9, 10, 8, 17]
def j_mR : List (Option FieldType) := [none, none, none, none, some .int, some .boolean, some .boolean, some .boolean, some .int, some .int, some .boolean, some .boolean, some .int, some .int, some .int, some .int, some .int, some .boolean, some .boolean, some .long, some .long, some .int, some .boolean, none, none, some .int, some .int, some .int, some .boolean, some .boolean, some .int, some .int, none, none, none, some .boolean, some .boolean, some .int, some .int, some .int, some .int, some .int, none, some .int, some .boolean, some .boolean, some .boolean, some .boolean, none, some .int, some .int, none, none, none, some .int, some .int, none, none, none, none, some .boolean, none, some .int, some .long, none, some .int, some .int, some .int, none, some .int, some .int, some .int, some .int, some .int, some .int, some .int, some .int, some .int, some .int, some .int, some .int, some .int, some .int, some .int, some .int, some .int, some .int, some .int, some .int, some .int, some .int, some .int, some .int, some .int, some .int, some .int, some .int, some .int, some .int, some .int, some .int, some .int, some .int, some .int, some .int, some .int, some .int, some .int, some .int, some .int, some .int, some .long, some .int, some .int, some .int, some .int, some .int, some .int, some .boolean, some .boolean, some .boolean, some .int, some .int, some .boolean, some .int, some .int, some .int, none, some .int, some .int, none, some .boolean, some .int, some .int, some .boolean, some .boolean, some .boolean, some .boolean]
