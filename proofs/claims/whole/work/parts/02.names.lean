/-! ===== names: classes, fields, methods (by program wip/gen out of the claim) ===== -/
def RX0 : String := "LastStirred$Flock"
def RX1 : String := "LastStirred$Ground"
def RX2 : String := "LastStirred$Reader"
def RX3 : String := "LastStirred$Search"
def RX4 : String := "LastStirred$Shelf"
def RX5 : String := "LastStirred$Watch"
def RX6 : String := "LastStirred"
def RX7 : String := "LastStirredModel"
def RX8 : String := "LastStirredLaw"
def RX9 : String := "java/lang/Integer"
def RX10 : String := "java/lang/Math"
def RX11 : String := "java/util/Arrays"
def RX12 : String := "java/lang/System"
def RX13 : String := "java/lang/Object"
def TX0 : u_T := fun k => match k with
  | 0 => ("LastStirred$Flock", "kind", "[I", true)
  | 1 => ("LastStirred$Flock", "cell", "[I", true)
  | 2 => ("LastStirred$Flock", "gone", "[I", true)
  | 3 => ("LastStirred$Flock", "size", "I", false)
  | 4 => ("LastStirred$Flock", "last", "I", false)
  | 5 => ("LastStirred$Flock", "lastCell", "I", false)
  | 6 => ("LastStirred$Flock", "before", "I", false)
  | 7 => ("LastStirred$Flock", "beforeCell", "I", false)
  | 8 => ("LastStirred$Flock", "step", "I", false)
  | _ => ("LastStirred$Flock", "full", "I", false)
def tyX0 : Nat → FieldType := fun k => match k with
  | 0 => .array .int
  | 1 => .array .int
  | 2 => .array .int
  | 3 => .int
  | 4 => .int
  | 5 => .int
  | 6 => .int
  | 7 => .int
  | 8 => .int
  | _ => .int
theorem nmX0 : ∀ a, a < 10 → ∀ b, b < 10 → a ≠ b → (TX0 a).2.1 ≠ (TX0 b).2.1 := by decide +kernel
theorem tyX0_ok : ∀ k, k < 10 → parseFieldDescriptor (TX0 k).2.2.1 = some (tyX0 k) := by decide +kernel
def TX1 : u_T := fun k => match k with
  | 0 => ("LastStirred$Ground", "what", "[I", true)
  | 1 => ("LastStirred$Ground", "column", "[I", true)
  | 2 => ("LastStirred$Ground", "line", "[I", true)
  | 3 => ("LastStirred$Ground", "width", "I", false)
  | 4 => ("LastStirred$Ground", "height", "I", false)
  | _ => ("LastStirred$Ground", "size", "I", false)
def tyX1 : Nat → FieldType := fun k => match k with
  | 0 => .array .int
  | 1 => .array .int
  | 2 => .array .int
  | 3 => .int
  | 4 => .int
  | _ => .int
theorem nmX1 : ∀ a, a < 6 → ∀ b, b < 6 → a ≠ b → (TX1 a).2.1 ≠ (TX1 b).2.1 := by decide +kernel
theorem tyX1_ok : ∀ k, k < 6 → parseFieldDescriptor (TX1 k).2.2.1 = some (tyX1 k) := by decide +kernel
def TX2 : u_T := fun k => match k with
  | 0 => ("LastStirred$Reader", "ground", "LLastStirred$Ground;", true)
  | 1 => ("LastStirred$Reader", "flock", "LLastStirred$Flock;", true)
  | 2 => ("LastStirred$Reader", "text", "[I", false)
  | 3 => ("LastStirred$Reader", "size", "I", false)
  | _ => ("LastStirred$Reader", "place", "I", false)
def tyX2 : Nat → FieldType := fun k => match k with
  | 0 => .object "LastStirred$Ground"
  | 1 => .object "LastStirred$Flock"
  | 2 => .array .int
  | 3 => .int
  | _ => .int
theorem nmX2 : ∀ a, a < 5 → ∀ b, b < 5 → a ≠ b → (TX2 a).2.1 ≠ (TX2 b).2.1 := by decide +kernel
theorem tyX2_ok : ∀ k, k < 5 → parseFieldDescriptor (TX2 k).2.2.1 = some (tyX2 k) := by decide +kernel
def TX3 : u_T := fun k => match k with
  | 0 => ("LastStirred$Search", "behind", "[LLastStirred$Flock;", true)
  | 1 => ("LastStirred$Search", "sought", "[I", true)
  | 2 => ("LastStirred$Search", "seeksSafe", "Z", false)
  | 3 => ("LastStirred$Search", "length", "I", false)
  | 4 => ("LastStirred$Search", "rows", "I", false)
  | 5 => ("LastStirred$Search", "hits", "I", false)
  | 6 => ("LastStirred$Search", "first", "I", false)
  | 7 => ("LastStirred$Search", "beasts", "I", false)
  | _ => ("LastStirred$Search", "ways", "I", false)
def tyX3 : Nat → FieldType := fun k => match k with
  | 0 => .array (.object "LastStirred$Flock")
  | 1 => .array .int
  | 2 => .boolean
  | 3 => .int
  | 4 => .int
  | 5 => .int
  | 6 => .int
  | 7 => .int
  | _ => .int
theorem nmX3 : ∀ a, a < 9 → ∀ b, b < 9 → a ≠ b → (TX3 a).2.1 ≠ (TX3 b).2.1 := by decide +kernel
theorem tyX3_ok : ∀ k, k < 9 → parseFieldDescriptor (TX3 k).2.2.1 = some (tyX3 k) := by decide +kernel
def TX4 : u_T := fun k => match k with
  | 0 => ("LastStirred$Shelf", "place", "[[I", true)
  | _ => ("LastStirred$Shelf", "size", "[I", true)
def tyX4 : Nat → FieldType := fun k => match k with
  | 0 => .array (.array .int)
  | _ => .array .int
theorem nmX4 : ∀ a, a < 2 → ∀ b, b < 2 → a ≠ b → (TX4 a).2.1 ≠ (TX4 b).2.1 := by decide +kernel
theorem tyX4_ok : ∀ k, k < 2 → parseFieldDescriptor (TX4 k).2.2.1 = some (tyX4 k) := by decide +kernel
def TX5 : u_T := fun k => match k with
  | 0 => ("LastStirred$Watch", "behind", "[LLastStirred$Flock;", true)
  | 1 => ("LastStirred$Watch", "turns", "I", false)
  | 2 => ("LastStirred$Watch", "lostNow", "I", false)
  | _ => ("LastStirred$Watch", "first", "I", false)
def tyX5 : Nat → FieldType := fun k => match k with
  | 0 => .array (.object "LastStirred$Flock")
  | 1 => .int
  | 2 => .int
  | _ => .int
theorem nmX5 : ∀ a, a < 4 → ∀ b, b < 4 → a ≠ b → (TX5 a).2.1 ≠ (TX5 b).2.1 := by decide +kernel
theorem tyX5_ok : ∀ k, k < 4 → parseFieldDescriptor (TX5 k).2.2.1 = some (tyX5 k) := by decide +kernel
def TX6 : u_T := fun k => match k with
  | 0 => ("LastStirred", "rows", "LLastStirred$Shelf;", true)
  | 1 => ("LastStirred", "texts", "LLastStirred$Shelf;", true)
  | 2 => ("LastStirred", "reader", "LLastStirred$Reader;", true)
  | 3 => ("LastStirred", "ground", "LLastStirred$Ground;", true)
  | 4 => ("LastStirred", "flock", "LLastStirred$Flock;", true)
  | 5 => ("LastStirred", "kept", "[LLastStirred$Flock;", true)
  | 6 => ("LastStirred", "trial", "LLastStirred$Flock;", true)
  | 7 => ("LastStirred", "trail", "[J", true)
  | 8 => ("LastStirred", "search", "LLastStirred$Search;", true)
  | 9 => ("LastStirred", "watch", "LLastStirred$Watch;", true)
  | 10 => ("LastStirred", "found", "[I", true)
  | 11 => ("LastStirred", "keptPlaces", "I", false)
  | 12 => ("LastStirred", "latest", "I", false)
  | 13 => ("LastStirred", "told", "I", false)
  | 14 => ("LastStirred", "up", "J", false)
  | _ => ("LastStirred", "low", "J", false)
def tyX6 : Nat → FieldType := fun k => match k with
  | 0 => .object "LastStirred$Shelf"
  | 1 => .object "LastStirred$Shelf"
  | 2 => .object "LastStirred$Reader"
  | 3 => .object "LastStirred$Ground"
  | 4 => .object "LastStirred$Flock"
  | 5 => .array (.object "LastStirred$Flock")
  | 6 => .object "LastStirred$Flock"
  | 7 => .array .long
  | 8 => .object "LastStirred$Search"
  | 9 => .object "LastStirred$Watch"
  | 10 => .array .int
  | 11 => .int
  | 12 => .int
  | 13 => .int
  | 14 => .long
  | _ => .long
theorem nmX6 : ∀ a, a < 16 → ∀ b, b < 16 → a ≠ b → (TX6 a).2.1 ≠ (TX6 b).2.1 := by decide +kernel
theorem tyX6_ok : ∀ k, k < 16 → parseFieldDescriptor (TX6 k).2.2.1 = some (tyX6 k) := by decide +kernel
def TX7 : u_T := fun k => match k with
  | 0 => ("LastStirredModel", "latest", "I", false)
  | 1 => ("LastStirredModel", "came", "[I", true)
  | 2 => ("LastStirredModel", "asked", "I", false)
  | 3 => ("LastStirredModel", "upper", "J", false)
  | 4 => ("LastStirredModel", "lower", "J", false)
  | 5 => ("LastStirredModel", "sizes", "[I", true)
  | 6 => ("LastStirredModel", "rows", "[I", true)
  | 7 => ("LastStirredModel", "copied", "[I", true)
  | 8 => ("LastStirredModel", "textSizes", "[I", true)
  | 9 => ("LastStirredModel", "bytes", "[B", true)
  | 10 => ("LastStirredModel", "wide", "I", false)
  | 11 => ("LastStirredModel", "cells", "I", false)
  | 12 => ("LastStirredModel", "ground", "[I", true)
  | 13 => ("LastStirredModel", "n", "I", false)
  | 14 => ("LastStirredModel", "kinds", "[I", true)
  | 15 => ("LastStirredModel", "readAt", "I", false)
  | 16 => ("LastStirredModel", "readNumber", "I", false)
  | 17 => ("LastStirredModel", "readWide", "I", false)
  | 18 => ("LastStirredModel", "readHigh", "I", false)
  | 19 => ("LastStirredModel", "readCells", "I", false)
  | 20 => ("LastStirredModel", "readMany", "I", false)
  | 21 => ("LastStirredModel", "readGround", "[I", true)
  | 22 => ("LastStirredModel", "readKinds", "[I", true)
  | 23 => ("LastStirredModel", "readPlaces", "[I", true)
  | 24 => ("LastStirredModel", "flocks", "[I", true)
  | 25 => ("LastStirredModel", "isKept", "[Z", true)
  | 26 => ("LastStirredModel", "isGateUsed", "Z", false)
  | 27 => ("LastStirredModel", "went", "I", false)
  | 28 => ("LastStirredModel", "aims", "[I", true)
  | 29 => ("LastStirredModel", "stand", "Z", false)
  | 30 => ("LastStirredModel", "runWent", "I", false)
  | 31 => ("LastStirredModel", "states", "[J", true)
  | 32 => ("LastStirredModel", "rowsAll", "I", false)
  | 33 => ("LastStirredModel", "rowsGood", "I", false)
  | 34 => ("LastStirredModel", "rowFirst", "I", false)
  | 35 => ("LastStirredModel", "firstBeasts", "I", false)
  | 36 => ("LastStirredModel", "firstWays", "I", false)
  | 37 => ("LastStirredModel", "were", "[I", true)
  | _ => ("LastStirredModel", "hash", "J", false)
def tyX7 : Nat → FieldType := fun k => match k with
  | 0 => .int
  | 1 => .array .int
  | 2 => .int
  | 3 => .long
  | 4 => .long
  | 5 => .array .int
  | 6 => .array .int
  | 7 => .array .int
  | 8 => .array .int
  | 9 => .array .byte
  | 10 => .int
  | 11 => .int
  | 12 => .array .int
  | 13 => .int
  | 14 => .array .int
  | 15 => .int
  | 16 => .int
  | 17 => .int
  | 18 => .int
  | 19 => .int
  | 20 => .int
  | 21 => .array .int
  | 22 => .array .int
  | 23 => .array .int
  | 24 => .array .int
  | 25 => .array .boolean
  | 26 => .boolean
  | 27 => .int
  | 28 => .array .int
  | 29 => .boolean
  | 30 => .int
  | 31 => .array .long
  | 32 => .int
  | 33 => .int
  | 34 => .int
  | 35 => .int
  | 36 => .int
  | 37 => .array .int
  | _ => .long
theorem nmX7 : ∀ a, a < 39 → ∀ b, b < 39 → a ≠ b → (TX7 a).2.1 ≠ (TX7 b).2.1 := by decide +kernel
theorem tyX7_ok : ∀ k, k < 39 → parseFieldDescriptor (TX7 k).2.2.1 = some (tyX7 k) := by decide +kernel
abbrev j_cls : List vw_C := [(RX0, TX0, 10), (RX1, TX1, 6), (RX2, TX2, 5), (RX3, TX3, 9), (RX4, TX4, 2), (RX5, TX5, 4), (RX6, TX6, 16), (RX7, TX7, 39)]
def j_CN : Nat → String := fun k => match k with
  | 0 => RX0
  | 1 => RX1
  | 2 => RX2
  | 3 => RX3
  | 4 => RX4
  | 5 => RX5
  | 6 => RX6
  | 7 => RX7
  | 8 => RX8
  | 9 => RX9
  | 10 => RX10
  | 11 => RX11
  | 12 => RX12
  | _ => RX13
def j_mN : List MethodName := [⟨RX0, "<init>", "()V"⟩,
  ⟨RX0, "clear", "()V"⟩,
  ⟨RX0, "add", "(II)V"⟩,
  ⟨RX0, "take", "(LLastStirred$Flock;)V"⟩,
  ⟨RX0, "forgetGone", "()V"⟩,
  ⟨RX0, "has", "(I)Z"⟩,
  ⟨RX0, "isLost", "(I)Z"⟩,
  ⟨RX0, "isIn", "(I)Z"⟩,
  ⟨RX0, "whoIsIn", "(I)I"⟩,
  ⟨RX0, "isOf", "(II)Z"⟩,
  ⟨RX0, "isShy", "(I)Z"⟩,
  ⟨RX0, "isSlow", "(I)Z"⟩,
  ⟨RX0, "tells", "(II)I"⟩,
  ⟨RX0, "drives", "()I"⟩,
  ⟨RX0, "lostOnes", "()I"⟩,
  ⟨RX0, "shyOnes", "()I"⟩,
  ⟨RX0, "allOff", "(LLastStirred$Ground;)I"⟩,
  ⟨RX0, "areSafe", "(LLastStirred$Ground;)Z"⟩,
  ⟨RX0, "areAt", "([I)Z"⟩,
  ⟨RX0, "inOneNumber", "()J"⟩,
  ⟨RX0, "joined", "(JI)J"⟩,
  ⟨RX0, "aimOf", "(I)I"⟩,
  ⟨RX0, "can", "(LLastStirred$Ground;IIZ)Z"⟩,
  ⟨RX0, "move", "(LLastStirred$Ground;II)V"⟩,
  ⟨RX0, "becomesLast", "(II)V"⟩,
  ⟨RX0, "stirBy", "(LLastStirred$Ground;II)I"⟩,
  ⟨RX0, "takeStep", "(LLastStirred$Ground;)I"⟩,
  ⟨RX0, "nextCell", "(LLastStirred$Ground;IZ)I"⟩,
  ⟨RX0, "runOut", "(LLastStirred$Ground;)Z"⟩,
  ⟨RX0, "driveBy", "(LLastStirred$Ground;I)Z"⟩,
  ⟨RX0, "fleeFrom", "(LLastStirred$Ground;I)I"⟩,
  ⟨RX0, "wayTo", "(LLastStirred$Ground;II)I"⟩,
  ⟨RX1, "<init>", "()V"⟩,
  ⟨RX1, "spread", "(II)V"⟩,
  ⟨RX1, "take", "(LLastStirred$Ground;)V"⟩,
  ⟨RX1, "has", "(I)Z"⟩,
  ⟨RX1, "isOpen", "(I)Z"⟩,
  ⟨RX1, "off", "(II)I"⟩,
  ⟨RX1, "beside", "(II)I"⟩,
  ⟨RX1, "howMany", "(I)I"⟩,
  ⟨RX1, "reachFrom", "(IZ)I"⟩,
  ⟨RX1, "openBeside", "(IZ)I"⟩,
  ⟨RX2, "<init>", "()V"⟩,
  ⟨RX2, "readAll", "([II)I"⟩,
  ⟨RX2, "readSize", "()Z"⟩,
  ⟨RX2, "readCells", "()Z"⟩,
  ⟨RX2, "readBeasts", "()Z"⟩,
  ⟨RX2, "readBeast", "()Z"⟩,
  ⟨RX2, "skipBlanks", "()V"⟩,
  ⟨RX2, "sign", "()I"⟩,
  ⟨RX2, "figure", "(II)I"⟩,
  ⟨RX3, "<init>", "()V"⟩,
  ⟨RX3, "seekSafe", "()V"⟩,
  ⟨RX3, "seekDawn", "([I)V"⟩,
  ⟨RX3, "fewFrom", "(LLastStirred$Ground;LLastStirred$Flock;I)I"⟩,
  ⟨RX3, "allFrom", "(LLastStirred$Ground;LLastStirred$Flock;I)V"⟩,
  ⟨RX3, "begin", "(LLastStirred$Flock;I)V"⟩,
  ⟨RX3, "follow", "(LLastStirred$Search;LLastStirred$Ground;II)V"⟩,
  ⟨RX3, "note", "(LLastStirred$Ground;II)V"⟩,
  ⟨RX4, "<init>", "([[I)V"⟩,
  ⟨RX4, "has", "(I)Z"⟩,
  ⟨RX4, "make", "(III)V"⟩,
  ⟨RX4, "thereAre", "()I"⟩,
  ⟨RX4, "addTo", "(J)J"⟩,
  ⟨RX5, "<init>", "()V"⟩,
  ⟨RX5, "keepsAll", "(LLastStirred$Ground;LLastStirred$Flock;II)Z"⟩,
  ⟨RX5, "shepherdKeeps", "(LLastStirred$Ground;II)Z"⟩,
  ⟨RX5, "wolfFails", "(LLastStirred$Ground;II)Z"⟩,
  ⟨RX6, "<init>", "()V"⟩,
  ⟨RX6, "row", "(II)I"⟩,
  ⟨RX6, "lay", "(III)I"⟩,
  ⟨RX6, "at", "(II)I"⟩,
  ⟨RX6, "tear", "(I)I"⟩,
  ⟨RX6, "copy", "(IIIII)I"⟩,
  ⟨RX6, "mean", "(I)I"⟩,
  ⟨RX6, "text", "(II)I"⟩,
  ⟨RX6, "put", "(III)I"⟩,
  ⟨RX6, "fault", "(I)I"⟩,
  ⟨RX6, "ground", "(I)I"⟩,
  ⟨RX6, "cell", "(I)I"⟩,
  ⟨RX6, "build", "(II)I"⟩,
  ⟨RX6, "beast", "(II)I"⟩,
  ⟨RX6, "mark", "(II)I"⟩,
  ⟨RX6, "last", "()I"⟩,
  ⟨RX6, "stir", "(II)I"⟩,
  ⟨RX6, "go", "(I)I"⟩,
  ⟨RX6, "run", "()I"⟩,
  ⟨RX6, "ring", "()I"⟩,
  ⟨RX6, "where", "(I)I"⟩,
  ⟨RX6, "apart", "()I"⟩,
  ⟨RX6, "keep", "(I)I"⟩,
  ⟨RX6, "on", "(I)I"⟩,
  ⟨RX6, "fewest", "()I"⟩,
  ⟨RX6, "ways", "(I)I"⟩,
  ⟨RX6, "gather", "()I"⟩,
  ⟨RX6, "part", "(II)I"⟩,
  ⟨RX6, "worth", "(II)I"⟩,
  ⟨RX6, "stone", "(I)I"⟩,
  ⟨RX6, "drive", "(I)I"⟩,
  ⟨RX6, "reach", "(II)I"⟩,
  ⟨RX6, "never", "()I"⟩,
  ⟨RX6, "wolf", "(II)I"⟩,
  ⟨RX6, "dawn", "(I)I"⟩,
  ⟨RX6, "who", "(I)I"⟩,
  ⟨RX6, "breed", "(I)I"⟩,
  ⟨RX6, "asked", "()I"⟩,
  ⟨RX6, "upper", "()J"⟩,
  ⟨RX6, "lower", "()J"⟩,
  ⟨RX6, "count", "(I)I"⟩,
  ⟨RX6, "finding", "()I"⟩,
  ⟨RX6, "findings", "(I)I"⟩,
  ⟨RX6, "digest", "()J"⟩,
  ⟨RX6, "finds", "(I)I"⟩,
  ⟨RX6, "makeIn", "(LLastStirred$Shelf;III)I"⟩,
  ⟨RX6, "refusedMissing", "(LLastStirred$Shelf;I)I"⟩,
  ⟨RX6, "refusedPlace", "(LLastStirred$Shelf;II)I"⟩,
  ⟨RX6, "refusedDawn", "(I)I"⟩,
  ⟨RX6, "fits", "(III)Z"⟩,
  ⟨RX6, "isWay", "(I)Z"⟩,
  ⟨RX6, "isPlace", "(I)Z"⟩,
  ⟨RX6, "isKept", "(I)Z"⟩,
  ⟨RX6, "offLast", "(I)I"⟩,
  ⟨RX6, "othersNear", "(I)I"⟩,
  ⟨RX6, "tryDrive", "(I)Z"⟩,
  ⟨RX6, "tellFraction", "(II)V"⟩,
  ⟨RX6, "placeOf", "([II)I"⟩,
  ⟨RX7, "<init>", "()V"⟩,
  ⟨RX7, "in", "(III)Z"⟩,
  ⟨RX7, "has", "(II)Z"⟩,
  ⟨RX7, "bits", "(I)I"⟩,
  ⟨RX7, "size", "(I)I"⟩,
  ⟨RX7, "meets", "(I)I"⟩,
  ⟨RX7, "finding", "()I"⟩,
  ⟨RX7, "findings", "(I)I"⟩,
  ⟨RX7, "tells", "(II)I"⟩,
  ⟨RX7, "asked", "()I"⟩,
  ⟨RX7, "fraction", "(JJI)I"⟩,
  ⟨RX7, "upper", "()J"⟩,
  ⟨RX7, "lower", "()J"⟩,
  ⟨RX7, "isRow", "(I)Z"⟩,
  ⟨RX7, "rowAt", "(II)I"⟩,
  ⟨RX7, "row", "(II)I"⟩,
  ⟨RX7, "lay", "(III)I"⟩,
  ⟨RX7, "at", "(II)I"⟩,
  ⟨RX7, "tear", "(I)I"⟩,
  ⟨RX7, "copy", "(IIIII)I"⟩,
  ⟨RX7, "mean", "(I)I"⟩,
  ⟨RX7, "isText", "(I)Z"⟩,
  ⟨RX7, "text", "(II)I"⟩,
  ⟨RX7, "put", "(III)I"⟩,
  ⟨RX7, "byteAt", "(II)I"⟩,
  ⟨RX7, "signOf", "(I)I"⟩,
  ⟨RX7, "kindOf", "(I)I"⟩,
  ⟨RX7, "figure", "(III)Z"⟩,
  ⟨RX7, "readsGrid", "(I)Z"⟩,
  ⟨RX7, "readsSign", "(I)Z"⟩,
  ⟨RX7, "readsBeast", "(I)Z"⟩,
  ⟨RX7, "faultOf", "(I)I"⟩,
  ⟨RX7, "fault", "(I)I"⟩,
  ⟨RX7, "ground", "(I)I"⟩,
  ⟨RX7, "isCell", "(I)Z"⟩,
  ⟨RX7, "isBeast", "(I)Z"⟩,
  ⟨RX7, "v", "(II)I"⟩,
  ⟨RX7, "place", "(III)V"⟩,
  ⟨RX7, "copyFlock", "(II)V"⟩,
  ⟨RX7, "isLost", "(II)Z"⟩,
  ⟨RX7, "lostMany", "(I)I"⟩,
  ⟨RX7, "whoIn", "(III)I"⟩,
  ⟨RX7, "off", "(II)I"⟩,
  ⟨RX7, "cell", "(I)I"⟩,
  ⟨RX7, "build", "(II)I"⟩,
  ⟨RX7, "beastTells", "(II)I"⟩,
  ⟨RX7, "beast", "(II)I"⟩,
  ⟨RX7, "isShy", "(I)Z"⟩,
  ⟨RX7, "isSlow", "(I)Z"⟩,
  ⟨RX7, "aimOf", "(II)I"⟩,
  ⟨RX7, "near", "(I)I"⟩,
  ⟨RX7, "gates", "()I"⟩,
  ⟨RX7, "mark", "(II)I"⟩,
  ⟨RX7, "last", "()I"⟩,
  ⟨RX7, "can", "(III)Z"⟩,
  ⟨RX7, "by", "(III)I"⟩,
  ⟨RX7, "goesTo", "(III)Z"⟩,
  ⟨RX7, "becomesLast", "(III)V"⟩,
  ⟨RX7, "sign", "(I)I"⟩,
  ⟨RX7, "goes", "(III)Z"⟩,
  ⟨RX7, "stepOf", "(I)I"⟩,
  ⟨RX7, "runs", "(I)I"⟩,
  ⟨RX7, "stirs", "(III)Z"⟩,
  ⟨RX7, "drives", "(II)Z"⟩,
  ⟨RX7, "stir", "(II)I"⟩,
  ⟨RX7, "go", "(I)I"⟩,
  ⟨RX7, "run", "()I"⟩,
  ⟨RX7, "stateOf", "(I)J"⟩,
  ⟨RX7, "ring", "()I"⟩,
  ⟨RX7, "where", "(I)I"⟩,
  ⟨RX7, "apartOf", "(I)I"⟩,
  ⟨RX7, "apart", "()I"⟩,
  ⟨RX7, "keep", "(I)I"⟩,
  ⟨RX7, "on", "(I)I"⟩,
  ⟨RX7, "isSafe", "(I)Z"⟩,
  ⟨RX7, "codes", "()I"⟩,
  ⟨RX7, "driven", "(II)Z"⟩,
  ⟨RX7, "isWanted", "(II)Z"⟩,
  ⟨RX7, "layRows", "(II)V"⟩,
  ⟨RX7, "layDeeper", "(III)V"⟩,
  ⟨RX7, "layRow", "(IIII)V"⟩,
  ⟨RX7, "fewestOf", "(II)I"⟩,
  ⟨RX7, "fewest", "()I"⟩,
  ⟨RX7, "ways", "(I)I"⟩,
  ⟨RX7, "gather", "()I"⟩,
  ⟨RX7, "part", "(II)I"⟩,
  ⟨RX7, "wentIn", "(I)I"⟩,
  ⟨RX7, "worth", "(II)I"⟩,
  ⟨RX7, "stone", "(I)I"⟩,
  ⟨RX7, "drive", "(I)I"⟩,
  ⟨RX7, "isOpen", "(IZ)Z"⟩,
  ⟨RX7, "reached", "(IZ)I"⟩,
  ⟨RX7, "reach", "(II)I"⟩,
  ⟨RX7, "never", "()I"⟩,
  ⟨RX7, "wolfTo", "(II)I"⟩,
  ⟨RX7, "keeps", "(IIII)Z"⟩,
  ⟨RX7, "canKeep", "(II)Z"⟩,
  ⟨RX7, "keepsLast", "(III)Z"⟩,
  ⟨RX7, "wolf", "(II)I"⟩,
  ⟨RX7, "needDawn", "(I)I"⟩,
  ⟨RX7, "dawn", "(I)I"⟩,
  ⟨RX7, "who", "(I)I"⟩,
  ⟨RX7, "breed", "(I)I"⟩,
  ⟨RX7, "counted", "(I)I"⟩,
  ⟨RX7, "count", "(I)I"⟩,
  ⟨RX7, "mix", "(J)V"⟩,
  ⟨RX7, "mixFlock", "()V"⟩,
  ⟨RX7, "digest", "()J"⟩,
  ⟨RX9, "bitCount", "(I)I"⟩,
  ⟨RX11, "fill", "([II)V"⟩,
  ⟨RX8, "law", "([I)Z"⟩]
def j_mB : List ByteArray := [prog_2_method_1_code, prog_2_method_2_code, prog_2_method_3_code, prog_2_method_4_code, prog_2_method_5_code, prog_2_method_6_code, prog_2_method_7_code, prog_2_method_8_code, prog_2_method_9_code, prog_2_method_10_code, prog_2_method_11_code, prog_2_method_12_code, prog_2_method_13_code, prog_2_method_14_code, prog_2_method_15_code, prog_2_method_16_code, prog_2_method_17_code, prog_2_method_18_code, prog_2_method_19_code, prog_2_method_20_code, prog_2_method_21_code, prog_2_method_22_code, prog_2_method_23_code, prog_2_method_24_code, prog_2_method_25_code, prog_2_method_26_code, prog_2_method_27_code, prog_2_method_28_code, prog_2_method_29_code, prog_2_method_30_code, prog_2_method_31_code, prog_2_method_32_code, prog_3_method_1_code, prog_3_method_2_code, prog_3_method_3_code, prog_3_method_4_code, prog_3_method_5_code, prog_3_method_6_code, prog_3_method_7_code, prog_3_method_8_code, prog_3_method_9_code, prog_3_method_10_code, prog_4_method_1_code, prog_4_method_2_code, prog_4_method_3_code, prog_4_method_4_code, prog_4_method_5_code, prog_4_method_6_code, prog_4_method_7_code, prog_4_method_8_code, prog_4_method_9_code, prog_5_method_1_code, prog_5_method_2_code, prog_5_method_3_code, prog_5_method_4_code, prog_5_method_5_code, prog_5_method_6_code, prog_5_method_7_code, prog_5_method_8_code, prog_6_method_1_code, prog_6_method_2_code, prog_6_method_3_code, prog_6_method_4_code, prog_6_method_5_code, prog_7_method_1_code, prog_7_method_2_code, prog_7_method_3_code, prog_7_method_4_code, prog_1_method_1_code, prog_1_method_2_code, prog_1_method_3_code, prog_1_method_4_code, prog_1_method_5_code, prog_1_method_6_code, prog_1_method_7_code, prog_1_method_8_code, prog_1_method_9_code, prog_1_method_10_code, prog_1_method_11_code, prog_1_method_12_code, prog_1_method_13_code, prog_1_method_14_code, prog_1_method_15_code, prog_1_method_16_code, prog_1_method_17_code, prog_1_method_18_code, prog_1_method_19_code, prog_1_method_20_code, prog_1_method_21_code, prog_1_method_22_code, prog_1_method_23_code, prog_1_method_24_code, prog_1_method_25_code, prog_1_method_26_code, prog_1_method_27_code, prog_1_method_28_code, prog_1_method_29_code, prog_1_method_30_code, prog_1_method_31_code, prog_1_method_32_code, prog_1_method_33_code, prog_1_method_34_code, prog_1_method_35_code, prog_1_method_36_code, prog_1_method_37_code, prog_1_method_38_code, prog_1_method_39_code, prog_1_method_40_code, prog_1_method_41_code, prog_1_method_42_code, prog_1_method_43_code, prog_1_method_44_code, prog_1_method_45_code, prog_1_method_46_code, prog_1_method_47_code, prog_1_method_48_code, prog_1_method_49_code, prog_1_method_50_code, prog_1_method_51_code, prog_1_method_52_code, prog_1_method_53_code, prog_1_method_54_code, prog_1_method_55_code, prog_1_method_56_code, prog_1_method_57_code, prog_1_method_58_code, prog_9_method_1_code, prog_9_method_2_code, prog_9_method_3_code, prog_9_method_4_code, prog_9_method_5_code, prog_9_method_6_code, prog_9_method_7_code, prog_9_method_8_code, prog_9_method_9_code, prog_9_method_10_code, prog_9_method_11_code, prog_9_method_12_code, prog_9_method_13_code, prog_9_method_14_code, prog_9_method_15_code, prog_9_method_16_code, prog_9_method_17_code, prog_9_method_18_code, prog_9_method_19_code, prog_9_method_20_code, prog_9_method_21_code, prog_9_method_22_code, prog_9_method_23_code, prog_9_method_24_code, prog_9_method_25_code, prog_9_method_26_code, prog_9_method_27_code, prog_9_method_28_code, prog_9_method_29_code, prog_9_method_30_code, prog_9_method_31_code, prog_9_method_32_code, prog_9_method_33_code, prog_9_method_34_code, prog_9_method_35_code, prog_9_method_36_code, prog_9_method_37_code, prog_9_method_38_code, prog_9_method_39_code, prog_9_method_40_code, prog_9_method_41_code, prog_9_method_42_code, prog_9_method_43_code, prog_9_method_44_code, prog_9_method_45_code, prog_9_method_46_code, prog_9_method_47_code, prog_9_method_48_code, prog_9_method_49_code, prog_9_method_50_code, prog_9_method_51_code, prog_9_method_52_code, prog_9_method_53_code, prog_9_method_54_code, prog_9_method_55_code, prog_9_method_56_code, prog_9_method_57_code, prog_9_method_58_code, prog_9_method_59_code, prog_9_method_60_code, prog_9_method_61_code, prog_9_method_62_code, prog_9_method_63_code, prog_9_method_64_code, prog_9_method_65_code, prog_9_method_66_code, prog_9_method_67_code, prog_9_method_68_code, prog_9_method_69_code, prog_9_method_70_code, prog_9_method_71_code, prog_9_method_72_code, prog_9_method_73_code, prog_9_method_74_code, prog_9_method_75_code, prog_9_method_76_code, prog_9_method_77_code, prog_9_method_78_code, prog_9_method_79_code, prog_9_method_80_code, prog_9_method_81_code, prog_9_method_82_code, prog_9_method_83_code, prog_9_method_84_code, prog_9_method_85_code, prog_9_method_86_code, prog_9_method_87_code, prog_9_method_88_code, prog_9_method_89_code, prog_9_method_90_code, prog_9_method_91_code, prog_9_method_92_code, prog_9_method_93_code, prog_9_method_94_code, prog_9_method_95_code, prog_9_method_96_code, prog_9_method_97_code, prog_9_method_98_code, prog_9_method_99_code, prog_9_method_100_code, prog_9_method_101_code, prog_9_method_102_code, prog_9_method_103_code, prog_9_method_104_code, prog_9_method_105_code, prog_9_method_106_code, prog_9_method_107_code, prog_9_method_108_code, prog_10_method_49_code, prog_13_method_103_code, code]
def j_mL : List Nat := [1, 1, 3, 3, 1, 2, 2, 2, 3, 3, 2, 2, 3, 1, 3, 3, 5, 3, 3, 4, 3, 2, 5, 4, 3, 5, 8, 16, 4, 3, 8, 4, 1, 5, 2, 2, 2, 3, 5, 4, 7, 6, 1, 3, 3, 3, 2, 5, 1, 1, 4, 1, 1, 2, 5, 4, 3, 6, 6, 2, 2, 4, 6, 7, 1, 5, 6, 6, 1, 3, 5, 4, 3, 6, 7, 3, 6, 3, 3, 2, 4, 3, 3, 1, 4, 4, 2, 3, 3, 1, 2, 2, 2, 2, 6, 7, 6, 2, 5, 3, 5, 4, 4, 4, 2, 1, 1, 1, 2, 1, 2, 5, 2, 5, 3, 5, 5, 3, 1, 2, 2, 2, 4, 2, 4, 3, 2, 3, 2, 3, 1, 2, 1, 2, 3, 1, 12, 1, 1, 1, 3, 4, 5, 3, 2, 7, 5, 1, 4, 5, 3, 1, 1, 5, 3, 3, 7, 2, 2, 3, 2, 2, 3, 4, 4, 3, 4, 5, 3, 2, 4, 3, 3, 2, 2, 3, 4, 3, 3, 1, 4, 6, 4, 4, 1, 13, 6, 5, 5, 3, 3, 4, 2, 5, 3, 3, 5, 1, 2, 2, 4, 1, 3, 5, 4, 6, 5, 4, 2, 2, 5, 8, 4, 4, 7, 4, 3, 10, 3, 5, 4, 8, 5, 7, 4, 4, 4, 4, 4, 4, 2, 3, 3, 3, 1, 4, 4]
def j_mR : List (Option FieldType) := [none, none, none, none, none, some .boolean, some .boolean, some .boolean, some .int, some .boolean, some .boolean, some .boolean, some .int, some .int, some .int, some .int, some .int, some .boolean, some .boolean, some .long, some .long, some .int, some .boolean, none, none, some .int, some .int, some .int, some .boolean, some .boolean, some .int, some .int, none, none, none, some .boolean, some .boolean, some .int, some .int, some .int, some .int, some .int, none, some .int, some .boolean, some .boolean, some .boolean, some .boolean, none, some .int, some .int, none, none, none, some .int, none, none, none, none, none, some .boolean, none, some .int, some .long, none, some .boolean, some .boolean, some .boolean, none, some .int, some .int, some .int, some .int, some .int, some .int, some .int, some .int, some .int, some .int, some .int, some .int, some .int, some .int, some .int, some .int, some .int, some .int, some .int, some .int, some .int, some .int, some .int, some .int, some .int, some .int, some .int, some .int, some .int, some .int, some .int, some .int, some .int, some .int, some .int, some .int, some .int, some .long, some .long, some .int, some .int, some .int, some .long, some .int, some .int, some .int, some .int, some .int, some .boolean, some .boolean, some .boolean, some .boolean, some .int, some .int, some .boolean, none, some .int, none, some .boolean, some .boolean, some .int, some .int, some .int, some .int, some .int, some .int, some .int, some .int, some .long, some .long, some .boolean, some .int, some .int, some .int, some .int, some .int, some .int, some .int, some .boolean, some .int, some .int, some .int, some .int, some .int, some .boolean, some .boolean, some .boolean, some .boolean, some .int, some .int, some .int, some .boolean, some .boolean, some .int, none, none, some .boolean, some .int, some .int, some .int, some .int, some .int, some .int, some .int, some .boolean, some .boolean, some .int, some .int, some .int, some .int, some .int, some .boolean, some .int, some .boolean, none, some .int, some .boolean, some .int, some .int, some .boolean, some .boolean, some .int, some .int, some .int, some .long, some .int, some .int, some .int, some .int, some .int, some .int, some .boolean, some .int, some .boolean, some .boolean, none, none, none, some .int, some .int, some .int, some .int, some .int, some .int, some .int, some .int, some .int, some .boolean, some .int, some .int, some .int, some .int, some .boolean, some .boolean, some .boolean, some .int, some .int, some .int, some .int, some .int, some .int, some .int, none, none, some .long, some .int, none, some .boolean]
