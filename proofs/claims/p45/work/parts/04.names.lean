def RX0 : String := "Transversary$Covers"
def TX0 : u_T := fun k => match k with
  | 0 => ("Transversary$Covers", "least", "LTransversary$Sets;", true)
  | 1 => ("Transversary$Covers", "blockers", "LTransversary$Sets;", true)
  | 2 => ("Transversary$Covers", "blockersTwice", "LTransversary$Sets;", true)
  | 3 => ("Transversary$Covers", "isCover", "[Z", true)
  | _ => ("Transversary$Covers", "packed", "[I", true)
def tyX0 : Nat → FieldType := fun k => match k with
  | 0 => .object "Transversary$Sets"
  | 1 => .object "Transversary$Sets"
  | 2 => .object "Transversary$Sets"
  | 3 => .array .boolean
  | _ => .array .int
abbrev wsX00 : List Cond := u_ws RX0 TX0 5
theorem nmX0 : ∀ a, a < 5 → ∀ b, b < 5 → a ≠ b → (TX0 a).2.1 ≠ (TX0 b).2.1 := by decide +kernel
theorem tyX0_ok : ∀ k, k < 5 → parseFieldDescriptor (TX0 k).2.2.1 = some (tyX0 k) := by decide +kernel
abbrev cX0_init : ByteArray := prog_2_method_1_code
def yX0_init : MethodName := ⟨RX0, "<init>", "()V"⟩
def RX1 : String := "Transversary$Makers"
def TX1 : u_T := fun k => match k with
  | 0 => ("Transversary$Makers", "samples", "LTransversary$Samples;", true)
  | _ => ("Transversary$Makers", "next", "LTransversary$Sets;", true)
def tyX1 : Nat → FieldType := fun k => match k with
  | 0 => .object "Transversary$Samples"
  | _ => .object "Transversary$Sets"
abbrev wsX10 : List Cond := u_ws RX1 TX1 2
theorem nmX1 : ∀ a, a < 2 → ∀ b, b < 2 → a ≠ b → (TX1 a).2.1 ≠ (TX1 b).2.1 := by decide +kernel
theorem tyX1_ok : ∀ k, k < 2 → parseFieldDescriptor (TX1 k).2.2.1 = some (tyX1 k) := by decide +kernel
abbrev cX1_init : ByteArray := prog_3_method_1_code
def yX1_init : MethodName := ⟨RX1, "<init>", "(LTransversary$Samples;)V"⟩
abbrev cX1_partsInto : ByteArray := prog_3_method_2_code
def yX1_partsInto : MethodName := ⟨RX1, "partsInto", "(LTransversary$Sets;LTransversary$Sets;I)V"⟩
def RX2 : String := "Transversary$Orders"
def TX2 : u_T := fun k => match k with
  | 0 => ("Transversary$Orders", "lengths", "[I", true)
  | 1 => ("Transversary$Orders", "upperOf", "[I", true)
  | 2 => ("Transversary$Orders", "lowerOf", "[I", true)
  | 3 => ("Transversary$Orders", "reachedFrom", "[I", true)
  | 4 => ("Transversary$Orders", "queue", "[I", true)
  | 5 => ("Transversary$Orders", "spreadAbove", "J", false)
  | _ => ("Transversary$Orders", "spreadUnder", "J", false)
def tyX2 : Nat → FieldType := fun k => match k with
  | 0 => .array .int
  | 1 => .array .int
  | 2 => .array .int
  | 3 => .array .int
  | 4 => .array .int
  | 5 => .long
  | _ => .long
abbrev wsX20 : List Cond := u_ws RX2 TX2 7
theorem nmX2 : ∀ a, a < 7 → ∀ b, b < 7 → a ≠ b → (TX2 a).2.1 ≠ (TX2 b).2.1 := by decide +kernel
theorem tyX2_ok : ∀ k, k < 7 → parseFieldDescriptor (TX2 k).2.2.1 = some (tyX2 k) := by decide +kernel
abbrev cX2_init : ByteArray := prog_4_method_1_code
def yX2_init : MethodName := ⟨RX2, "<init>", "()V"⟩
def RX3 : String := "Transversary$Points"
def TX3 : u_T := fun k => match k with
  | 0 => ("Transversary$Points", "weights", "[I", true)
  | 1 => ("Transversary$Points", "many", "I", false)
  | _ => ("Transversary$Points", "alive", "I", false)
def tyX3 : Nat → FieldType := fun k => match k with
  | 0 => .array .int
  | 1 => .int
  | _ => .int
abbrev wsX30 : List Cond := u_ws RX3 TX3 3
theorem nmX3 : ∀ a, a < 3 → ∀ b, b < 3 → a ≠ b → (TX3 a).2.1 ≠ (TX3 b).2.1 := by decide +kernel
theorem tyX3_ok : ∀ k, k < 3 → parseFieldDescriptor (TX3 k).2.2.1 = some (tyX3 k) := by decide +kernel
abbrev cX3_init : ByteArray := prog_5_method_1_code
def yX3_init : MethodName := ⟨RX3, "<init>", "()V"⟩
abbrev cX3_begin : ByteArray := prog_5_method_2_code
def yX3_begin : MethodName := ⟨RX3, "begin", "(I)V"⟩
abbrev cX3_alive : ByteArray := prog_5_method_4_code
def yX3_alive : MethodName := ⟨RX3, "alive", "()I"⟩
abbrev cX3_howManySets : ByteArray := prog_5_method_5_code
def yX3_howManySets : MethodName := ⟨RX3, "howManySets", "()I"⟩
abbrev cX3_howManyAlive : ByteArray := prog_5_method_6_code
def yX3_howManyAlive : MethodName := ⟨RX3, "howManyAlive", "()I"⟩
abbrev cX3_knows : ByteArray := prog_5_method_7_code
def yX3_knows : MethodName := ⟨RX3, "knows", "(I)Z"⟩
abbrev cX3_tellDeath : ByteArray := prog_5_method_11_code
def yX3_tellDeath : MethodName := ⟨RX3, "tellDeath", "(IZ)V"⟩
def RX4 : String := "Transversary$Price"
def TX4 : u_T := fun k => match k with
  | 0 => ("Transversary$Price", "table", "[[J", true)
  | 1 => ("Transversary$Price", "basis", "[I", true)
  | 2 => ("Transversary$Price", "divisor", "J", false)
  | 3 => ("Transversary$Price", "above", "J", false)
  | _ => ("Transversary$Price", "under", "J", false)
def tyX4 : Nat → FieldType := fun k => match k with
  | 0 => .array (.array .long)
  | 1 => .array .int
  | 2 => .long
  | 3 => .long
  | _ => .long
abbrev wsX40 : List Cond := u_ws RX4 TX4 5
theorem nmX4 : ∀ a, a < 5 → ∀ b, b < 5 → a ≠ b → (TX4 a).2.1 ≠ (TX4 b).2.1 := by decide +kernel
theorem tyX4_ok : ∀ k, k < 5 → parseFieldDescriptor (TX4 k).2.2.1 = some (tyX4 k) := by decide +kernel
abbrev cX4_init : ByteArray := prog_6_method_1_code
def yX4_init : MethodName := ⟨RX4, "<init>", "()V"⟩
def RX5 : String := "Transversary$Rings"
def TX5 : u_T := fun k => match k with
  | 0 => ("Transversary$Rings", "covers", "LTransversary$Covers;", true)
  | 1 => ("Transversary$Rings", "neighbours", "[I", true)
  | 2 => ("Transversary$Rings", "ends", "[I", true)
  | 3 => ("Transversary$Rings", "greatestFree", "[I", true)
  | _ => ("Transversary$Rings", "wins", "[J", true)
def tyX5 : Nat → FieldType := fun k => match k with
  | 0 => .object "Transversary$Covers"
  | 1 => .array .int
  | 2 => .array .int
  | 3 => .array .int
  | _ => .array .long
abbrev wsX50 : List Cond := u_ws RX5 TX5 5
theorem nmX5 : ∀ a, a < 5 → ∀ b, b < 5 → a ≠ b → (TX5 a).2.1 ≠ (TX5 b).2.1 := by decide +kernel
theorem tyX5_ok : ∀ k, k < 5 → parseFieldDescriptor (TX5 k).2.2.1 = some (tyX5 k) := by decide +kernel
abbrev cX5_init : ByteArray := prog_7_method_1_code
def yX5_init : MethodName := ⟨RX5, "<init>", "(LTransversary$Covers;)V"⟩
abbrev cX5_winningPoint : ByteArray := prog_7_method_9_code
def yX5_winningPoint : MethodName := ⟨RX5, "winningPoint", "(LTransversary$Sets;I)I"⟩
abbrev cX5_playBackwards : ByteArray := prog_7_method_10_code
def yX5_playBackwards : MethodName := ⟨RX5, "playBackwards", "(LTransversary$Sets;I)V"⟩
abbrev cX5_canWin : ByteArray := prog_7_method_11_code
def yX5_canWin : MethodName := ⟨RX5, "canWin", "(IIIZ)Z"⟩
abbrev cX5_placeOf : ByteArray := prog_7_method_12_code
def yX5_placeOf : MethodName := ⟨RX5, "placeOf", "(II)I"⟩
abbrev cX5_isWin : ByteArray := prog_7_method_13_code
def yX5_isWin : MethodName := ⟨RX5, "isWin", "(II)Z"⟩
def RX6 : String := "Transversary$Samples"
def TX6 : u_T := fun k => match k with
  | 0 => ("Transversary$Samples", "covers", "LTransversary$Covers;", true)
  | 1 => ("Transversary$Samples", "petals", "LTransversary$Sets;", true)
  | 2 => ("Transversary$Samples", "outcomes", "[J", true)
  | 3 => ("Transversary$Samples", "mostPetals", "I", false)
  | _ => ("Transversary$Samples", "heart", "I", false)
def tyX6 : Nat → FieldType := fun k => match k with
  | 0 => .object "Transversary$Covers"
  | 1 => .object "Transversary$Sets"
  | 2 => .array .long
  | 3 => .int
  | _ => .int
abbrev wsX60 : List Cond := u_ws RX6 TX6 5
theorem nmX6 : ∀ a, a < 5 → ∀ b, b < 5 → a ≠ b → (TX6 a).2.1 ≠ (TX6 b).2.1 := by decide +kernel
theorem tyX6_ok : ∀ k, k < 5 → parseFieldDescriptor (TX6 k).2.2.1 = some (tyX6 k) := by decide +kernel
abbrev cX6_init : ByteArray := prog_8_method_1_code
def yX6_init : MethodName := ⟨RX6, "<init>", "(LTransversary$Covers;)V"⟩
def RX7 : String := "Transversary$Sets"
def TX7 : u_T := fun k => match k with
  | 0 => ("Transversary$Sets", "isHeld", "[Z", true)
  | 1 => ("Transversary$Sets", "row", "[I", true)
  | _ => ("Transversary$Sets", "many", "I", false)
def tyX7 : Nat → FieldType := fun k => match k with
  | 0 => .array .boolean
  | 1 => .array .int
  | _ => .int
abbrev wsX70 : List Cond := u_ws RX7 TX7 3
theorem nmX7 : ∀ a, a < 3 → ∀ b, b < 3 → a ≠ b → (TX7 a).2.1 ≠ (TX7 b).2.1 := by decide +kernel
theorem tyX7_ok : ∀ k, k < 3 → parseFieldDescriptor (TX7 k).2.2.1 = some (tyX7 k) := by decide +kernel
abbrev cX7_init : ByteArray := prog_9_method_1_code
def yX7_init : MethodName := ⟨RX7, "<init>", "()V"⟩
abbrev cX7_many : ByteArray := prog_9_method_2_code
def yX7_many : MethodName := ⟨RX7, "many", "()I"⟩
abbrev cX7_at : ByteArray := prog_9_method_4_code
def yX7_at : MethodName := ⟨RX7, "at", "(I)I"⟩
abbrev cX7_clear : ByteArray := prog_9_method_5_code
def yX7_clear : MethodName := ⟨RX7, "clear", "()V"⟩
abbrev cX7_copy : ByteArray := prog_9_method_6_code
def yX7_copy : MethodName := ⟨RX7, "copy", "(LTransversary$Sets;)V"⟩
abbrev cX7_put : ByteArray := prog_9_method_7_code
def yX7_put : MethodName := ⟨RX7, "put", "(I)V"⟩
abbrev cX7_hasWithin : ByteArray := prog_9_method_18_code
def yX7_hasWithin : MethodName := ⟨RX7, "hasWithin", "(II)Z"⟩
def RX8 : String := "Transversary$Signs"
def TX8 : u_T := fun k => match k with
  | 0 => ("Transversary$Signs", "isOneColour", "[Z", true)
  | 1 => ("Transversary$Signs", "fewest", "[I", true)
  | _ => ("Transversary$Signs", "drawn", "I", false)
def tyX8 : Nat → FieldType := fun k => match k with
  | 0 => .array .boolean
  | 1 => .array .int
  | _ => .int
abbrev wsX80 : List Cond := u_ws RX8 TX8 3
theorem nmX8 : ∀ a, a < 3 → ∀ b, b < 3 → a ≠ b → (TX8 a).2.1 ≠ (TX8 b).2.1 := by decide +kernel
theorem tyX8_ok : ∀ k, k < 3 → parseFieldDescriptor (TX8 k).2.2.1 = some (tyX8 k) := by decide +kernel
abbrev cX8_init : ByteArray := prog_10_method_1_code
def yX8_init : MethodName := ⟨RX8, "<init>", "()V"⟩
def RX9 : String := "Transversary$Tables"
def TX9 : u_T := fun k => match k with
  | 0 => ("Transversary$Tables", "isFace", "[Z", true)
  | 1 => ("Transversary$Tables", "placeOfFace", "[I", true)
  | 2 => ("Transversary$Tables", "pivotRows", "[J", true)
  | 3 => ("Transversary$Tables", "reduced", "[[I", true)
  | 4 => ("Transversary$Tables", "line", "[I", true)
  | _ => ("Transversary$Tables", "steps", "I", false)
def tyX9 : Nat → FieldType := fun k => match k with
  | 0 => .array .boolean
  | 1 => .array .int
  | 2 => .array .long
  | 3 => .array (.array .int)
  | 4 => .array .int
  | _ => .int
abbrev wsX90 : List Cond := u_ws RX9 TX9 6
theorem nmX9 : ∀ a, a < 6 → ∀ b, b < 6 → a ≠ b → (TX9 a).2.1 ≠ (TX9 b).2.1 := by decide +kernel
theorem tyX9_ok : ∀ k, k < 6 → parseFieldDescriptor (TX9 k).2.2.1 = some (tyX9 k) := by decide +kernel
abbrev cX9_init : ByteArray := prog_11_method_1_code
def yX9_init : MethodName := ⟨RX9, "<init>", "()V"⟩
def RX10 : String := "Transversary$Trees"
def TX10 : u_T := fun k => match k with
  | 0 => ("Transversary$Trees", "left", "LTransversary$Sets;", true)
  | 1 => ("Transversary$Trees", "neighbours", "[I", true)
  | 2 => ("Transversary$Trees", "widths", "[I", true)
  | _ => ("Transversary$Trees", "steps", "I", false)
def tyX10 : Nat → FieldType := fun k => match k with
  | 0 => .object "Transversary$Sets"
  | 1 => .array .int
  | 2 => .array .int
  | _ => .int
abbrev wsX100 : List Cond := u_ws RX10 TX10 4
theorem nmX10 : ∀ a, a < 4 → ∀ b, b < 4 → a ≠ b → (TX10 a).2.1 ≠ (TX10 b).2.1 := by decide +kernel
theorem tyX10_ok : ∀ k, k < 4 → parseFieldDescriptor (TX10 k).2.2.1 = some (tyX10 k) := by decide +kernel
abbrev cX10_init : ByteArray := prog_12_method_1_code
def yX10_init : MethodName := ⟨RX10, "<init>", "()V"⟩
def RX11 : String := "Transversary"
def TX11 : u_T := fun k => match k with
  | 0 => ("Transversary", "points", "LTransversary$Points;", true)
  | 1 => ("Transversary", "families", "[LTransversary$Sets;", true)
  | 2 => ("Transversary", "familyCount", "I", false)
  | 3 => ("Transversary", "parts", "LTransversary$Sets;", true)
  | 4 => ("Transversary", "otherParts", "LTransversary$Sets;", true)
  | 5 => ("Transversary", "made", "LTransversary$Sets;", true)
  | 6 => ("Transversary", "covers", "LTransversary$Covers;", true)
  | 7 => ("Transversary", "prices", "LTransversary$Price;", true)
  | 8 => ("Transversary", "rings", "LTransversary$Rings;", true)
  | 9 => ("Transversary", "samples", "LTransversary$Samples;", true)
  | 10 => ("Transversary", "makers", "LTransversary$Makers;", true)
  | 11 => ("Transversary", "signs", "LTransversary$Signs;", true)
  | 12 => ("Transversary", "trees", "LTransversary$Trees;", true)
  | 13 => ("Transversary", "orders", "LTransversary$Orders;", true)
  | _ => ("Transversary", "tables", "LTransversary$Tables;", true)
def tyX11 : Nat → FieldType := fun k => match k with
  | 0 => .object "Transversary$Points"
  | 1 => .array (.object "Transversary$Sets")
  | 2 => .int
  | 3 => .object "Transversary$Sets"
  | 4 => .object "Transversary$Sets"
  | 5 => .object "Transversary$Sets"
  | 6 => .object "Transversary$Covers"
  | 7 => .object "Transversary$Price"
  | 8 => .object "Transversary$Rings"
  | 9 => .object "Transversary$Samples"
  | 10 => .object "Transversary$Makers"
  | 11 => .object "Transversary$Signs"
  | 12 => .object "Transversary$Trees"
  | 13 => .object "Transversary$Orders"
  | _ => .object "Transversary$Tables"
abbrev wsX110 : List Cond := u_ws RX11 TX11 15
theorem nmX11 : ∀ a, a < 15 → ∀ b, b < 15 → a ≠ b → (TX11 a).2.1 ≠ (TX11 b).2.1 := by decide +kernel
theorem tyX11_ok : ∀ k, k < 15 → parseFieldDescriptor (TX11 k).2.2.1 = some (tyX11 k) := by decide +kernel
abbrev cX11_init : ByteArray := prog_1_method_1_code
def yX11_init : MethodName := ⟨RX11, "<init>", "()V"⟩
abbrev cX11_ground : ByteArray := prog_1_method_2_code
def yX11_ground : MethodName := ⟨RX11, "ground", "(I)I"⟩
abbrev cX11_die : ByteArray := prog_1_method_4_code
def yX11_die : MethodName := ⟨RX11, "die", "(IZ)I"⟩
abbrev cX11_family : ByteArray := prog_1_method_5_code
def yX11_family : MethodName := ⟨RX11, "family", "()I"⟩
abbrev cX11_game : ByteArray := prog_1_method_24_code
def yX11_game : MethodName := ⟨RX11, "game", "(I)I"⟩
abbrev cX11_familyOf : ByteArray := prog_1_method_47_code
def yX11_familyOf : MethodName := ⟨RX11, "familyOf", "(I)LTransversary$Sets;"⟩
abbrev cX11_partsOf : ByteArray := prog_1_method_48_code
def yX11_partsOf : MethodName := ⟨RX11, "partsOf", "(I)LTransversary$Sets;"⟩
abbrev cX11_checkPoint : ByteArray := prog_1_method_50_code
def yX11_checkPoint : MethodName := ⟨RX11, "checkPoint", "(I)V"⟩
abbrev cX11_checkRange : ByteArray := prog_1_method_52_code
def yX11_checkRange : MethodName := ⟨RX11, "checkRange", "(III)V"⟩
abbrev cX11_checkRoom : ByteArray := prog_1_method_53_code
def yX11_checkRoom : MethodName := ⟨RX11, "checkRoom", "()V"⟩
abbrev cX11_keep : ByteArray := prog_1_method_54_code
def yX11_keep : MethodName := ⟨RX11, "keep", "(LTransversary$Sets;)I"⟩
abbrev cX11_sizeOf : ByteArray := prog_1_method_66_code
def yX11_sizeOf : MethodName := ⟨RX11, "sizeOf", "(I)I"⟩
abbrev cX11_isIn : ByteArray := prog_1_method_67_code
def yX11_isIn : MethodName := ⟨RX11, "isIn", "(II)Z"⟩
def RX12 : String := "TransversaryLaw$Out"
def TX12 : u_T := fun k => match k with
  | 0 => ("TransversaryLaw$Out", "n", "J", false)
  | _ => ("TransversaryLaw$Out", "s", "Ljava/lang/String;", false)
def tyX12 : Nat → FieldType := fun k => match k with
  | 0 => .long
  | _ => .object "java/lang/String"
abbrev wsX120 : List Cond := u_ws RX12 TX12 2
theorem nmX12 : ∀ a, a < 2 → ∀ b, b < 2 → a ≠ b → (TX12 a).2.1 ≠ (TX12 b).2.1 := by decide +kernel
theorem tyX12_ok : ∀ k, k < 2 → parseFieldDescriptor (TX12 k).2.2.1 = some (tyX12 k) := by decide +kernel
abbrev cX12_init : ByteArray := prog_14_method_1_code
def yX12_init : MethodName := ⟨RX12, "<init>", "()V"⟩
def RX14 : String := "TransversaryModel"
def TX14 : u_T := fun k => match k with
  | 0 => ("TransversaryModel", "thrown", "I", false)
  | 1 => ("TransversaryModel", "points", "I", false)
  | 2 => ("TransversaryModel", "weights", "[I", false)
  | 3 => ("TransversaryModel", "dead", "I", false)
  | 4 => ("TransversaryModel", "families", "Ljava/util/ArrayList;", true)
  | 5 => ("TransversaryModel", "scratch", "[Z", true)
  | 6 => ("TransversaryModel", "lows", "[J", true)
  | 7 => ("TransversaryModel", "highs", "[J", true)
  | _ => ("TransversaryModel", "sum", "J", false)
def tyX14 : Nat → FieldType := fun k => match k with
  | 0 => .int
  | 1 => .int
  | 2 => .array .int
  | 3 => .int
  | 4 => .object "java/util/ArrayList"
  | 5 => .array .boolean
  | 6 => .array .long
  | 7 => .array .long
  | _ => .long
abbrev wsX140 : List Cond := u_ws RX14 TX14 9
theorem nmX14 : ∀ a, a < 9 → ∀ b, b < 9 → a ≠ b → (TX14 a).2.1 ≠ (TX14 b).2.1 := by decide +kernel
theorem tyX14_ok : ∀ k, k < 9 → parseFieldDescriptor (TX14 k).2.2.1 = some (tyX14 k) := by decide +kernel
abbrev cX14_init : ByteArray := prog_15_method_1_code
def yX14_init : MethodName := ⟨RX14, "<init>", "()V"⟩
abbrev cX14_refuse : ByteArray := prog_15_method_3_code
def yX14_refuse : MethodName := ⟨RX14, "refuse", "(I)I"⟩
abbrev cX14_is : ByteArray := prog_15_method_4_code
def yX14_is : MethodName := ⟨RX14, "is", "(III)Z"⟩
abbrev cX14_isFamily : ByteArray := prog_15_method_5_code
def yX14_isFamily : MethodName := ⟨RX14, "isFamily", "(I)Z"⟩
abbrev cX14_all : ByteArray := prog_15_method_6_code
def yX14_all : MethodName := ⟨RX14, "all", "()I"⟩
abbrev cX14_isPoint : ByteArray := prog_15_method_8_code
def yX14_isPoint : MethodName := ⟨RX14, "isPoint", "(I)Z"⟩
abbrev cX14_alive : ByteArray := prog_15_method_9_code
def yX14_alive : MethodName := ⟨RX14, "alive", "()I"⟩
abbrev cX14_aliveMany : ByteArray := prog_15_method_10_code
def yX14_aliveMany : MethodName := ⟨RX14, "aliveMany", "()I"⟩
abbrev cX14_isIn : ByteArray := prog_15_method_11_code
def yX14_isIn : MethodName := ⟨RX14, "isIn", "(II)Z"⟩
abbrev cX14_empty : ByteArray := prog_15_method_14_code
def yX14_empty : MethodName := ⟨RX14, "empty", "()[Z"⟩
abbrev cX14_ground : ByteArray := prog_15_method_17_code
def yX14_ground : MethodName := ⟨RX14, "ground", "(I)I"⟩
abbrev cX14_die : ByteArray := prog_15_method_19_code
def yX14_die : MethodName := ⟨RX14, "die", "(IZ)I"⟩
abbrev cX14_family : ByteArray := prog_15_method_20_code
def yX14_family : MethodName := ⟨RX14, "family", "()I"⟩
abbrev cX14_parts : ByteArray := prog_15_method_25_code
def yX14_parts : MethodName := ⟨RX14, "parts", "(I)[Z"⟩
abbrev cX14_canWin : ByteArray := prog_15_method_62_code
def yX14_canWin : MethodName := ⟨RX14, "canWin", "([Z[BIIZ)Z"⟩
abbrev cX14_hasPart : ByteArray := prog_15_method_63_code
def yX14_hasPart : MethodName := ⟨RX14, "hasPart", "([ZI)Z"⟩
abbrev cX14_game : ByteArray := prog_15_method_64_code
def yX14_game : MethodName := ⟨RX14, "game", "(I)I"⟩
def RJ6 : String := "java/lang/Integer"
abbrev cJ6_bitCount_0f7a4 : ByteArray := prog_27_method_49_code
def yJ6_bitCount_0f7a4 : MethodName := ⟨RJ6, "bitCount", "(I)I"⟩
def RJ9 : String := "java/lang/Math"
abbrev cJ9_max_7cf53 : ByteArray := prog_30_method_65_code
def yJ9_max_7cf53 : MethodName := ⟨RJ9, "max", "(II)I"⟩
def RJxa1e45 : String := "java/util/AbstractCollection"
abbrev cJxa1e45_init_da8c8 : ByteArray := prog_41_method_1_code
def yJxa1e45_init_da8c8 : MethodName := ⟨RJxa1e45, "<init>", "()V"⟩
def RJxc12de : String := "java/util/AbstractList"
abbrev cJxc12de_init_da8c8 : ByteArray := prog_42_method_1_code
def yJxc12de_init_da8c8 : MethodName := ⟨RJxc12de, "<init>", "()V"⟩
def RJx4a65c : String := "java/util/ArrayList"
def TJx4a65c : u_T := fun k => match k with
  | 0 => ("java/util/AbstractList", "modCount", "I", false)
  | 1 => ("java/util/ArrayList", "elementData", "[Ljava/lang/Object;", false)
  | _ => ("java/util/ArrayList", "size", "I", false)
def tyJx4a65c : Nat → FieldType := fun k => match k with
  | 0 => .int
  | 1 => .array (.object "java/lang/Object")
  | _ => .int
abbrev wsJx4a65c0 : List Cond := u_ws RJx4a65c TJx4a65c 3
theorem nmJx4a65c : ∀ a, a < 3 → ∀ b, b < 3 → a ≠ b → (TJx4a65c a).2.1 ≠ (TJx4a65c b).2.1 := by decide +kernel
theorem tyJx4a65c_ok : ∀ k, k < 3 → parseFieldDescriptor (TJx4a65c k).2.2.1 = some (tyJx4a65c k) := by decide +kernel
abbrev cJx4a65c_init_da8c8 : ByteArray := prog_43_method_2_code
def yJx4a65c_init_da8c8 : MethodName := ⟨RJx4a65c, "<init>", "()V"⟩
abbrev cJx4a65c_grow_92f84 : ByteArray := prog_43_method_6_code
def yJx4a65c_grow_92f84 : MethodName := ⟨RJx4a65c, "grow", "(I)[Ljava/lang/Object;"⟩
abbrev cJx4a65c_grow_d5877 : ByteArray := prog_43_method_7_code
def yJx4a65c_grow_d5877 : MethodName := ⟨RJx4a65c, "grow", "()[Ljava/lang/Object;"⟩
abbrev cJx4a65c_size_8abf5 : ByteArray := prog_43_method_8_code
def yJx4a65c_size_8abf5 : MethodName := ⟨RJx4a65c, "size", "()I"⟩
abbrev cJx4a65c_elementData_915e3 : ByteArray := prog_43_method_18_code
def yJx4a65c_elementData_915e3 : MethodName := ⟨RJx4a65c, "elementData", "(I)Ljava/lang/Object;"⟩
abbrev cJx4a65c_get_915e3 : ByteArray := prog_43_method_20_code
def yJx4a65c_get_915e3 : MethodName := ⟨RJx4a65c, "get", "(I)Ljava/lang/Object;"⟩
abbrev cJx4a65c_add_72be8 : ByteArray := prog_43_method_24_code
def yJx4a65c_add_72be8 : MethodName := ⟨RJx4a65c, "add", "(Ljava/lang/Object;[Ljava/lang/Object;I)V"⟩
abbrev cJx4a65c_add_9ea2d : ByteArray := prog_43_method_25_code
def yJx4a65c_add_9ea2d : MethodName := ⟨RJx4a65c, "add", "(Ljava/lang/Object;)Z"⟩
abbrev cJx4a65c_clear_da8c8 : ByteArray := prog_43_method_40_code
def yJx4a65c_clear_da8c8 : MethodName := ⟨RJx4a65c, "clear", "()V"⟩
def RJ7 : String := "java/util/Arrays"
abbrev cJ7_copyOf_1904c : ByteArray := prog_44_method_119_code
def yJ7_copyOf_1904c : MethodName := ⟨RJ7, "copyOf", "([Ljava/lang/Object;I)[Ljava/lang/Object;"⟩
abbrev cJ7_copyOf_6403c : ByteArray := prog_44_method_120_code
def yJ7_copyOf_6403c : MethodName := ⟨RJ7, "copyOf", "([Ljava/lang/Object;ILjava/lang/Class;)[Ljava/lang/Object;"⟩
def RJ15 : String := "java/util/Objects"
abbrev cJ15_checkIndex_7cf53 : ByteArray := prog_47_method_17_code
def yJ15_checkIndex_7cf53 : MethodName := ⟨RJ15, "checkIndex", "(II)I"⟩
def RJ8 : String := "jdk/internal/util/ArraysSupport"
abbrev cJ8_newLength_cabcc : ByteArray := prog_50_method_27_code
def yJ8_newLength_cabcc : MethodName := ⟨RJ8, "newLength", "(III)I"⟩
abbrev cJ8_hugeLength_7cf53 : ByteArray := prog_50_method_28_code
def yJ8_hugeLength_7cf53 : MethodName := ⟨RJ8, "hugeLength", "(II)I"⟩
def RJ3 : String := "jdk/internal/util/Preconditions"
abbrev cJ3_checkIndex_8e157 : ByteArray := prog_51_method_11_code
def yJ3_checkIndex_8e157 : MethodName := ⟨RJ3, "checkIndex", "(IILjava/util/function/BiFunction;)I"⟩
def RL : String := "TransversaryLaw"
abbrev cL_ground : ByteArray := method_2_code
def yL_ground : MethodName := ⟨RL, "ground", "(LTransversary;ILTransversaryLaw$Out;)I"⟩
abbrev cL_die : ByteArray := method_4_code
def yL_die : MethodName := ⟨RL, "die", "(LTransversary;IZLTransversaryLaw$Out;)I"⟩
abbrev cL_family : ByteArray := method_5_code
def yL_family : MethodName := ⟨RL, "family", "(LTransversary;LTransversaryLaw$Out;)I"⟩
abbrev cL_game : ByteArray := method_24_code
def yL_game : MethodName := ⟨RL, "game", "(LTransversary;ILTransversaryLaw$Out;)I"⟩
def wsX7_init : List Cond := .code yX7_init cX7_init 1 none :: ([.methodLink RX7 3 objectInit, .instanceMethod objectInit, .code objectInit ⟨#[0xb1]⟩ 1 none, .arrayClass .boolean, .fieldLink RX7 9 "Transversary$Sets" "isHeld" "[Z", .arrayClass .int, .fieldLink RX7 15 "Transversary$Sets" "row" "[I"] ++ wsX70)
def wsX0_init : List Cond := .code yX0_init cX0_init 1 none :: ([.methodLink RX0 3 objectInit, .instanceMethod objectInit, .code objectInit ⟨#[0xb1]⟩ 1 none, .classLink RX0 9 RX7, .instantiable RX7 3, .initialized RX7, .fieldLink RX0 12 "Transversary$Covers" "least" "LTransversary$Sets;", .fieldLink RX0 18 "Transversary$Covers" "blockers" "LTransversary$Sets;", .fieldLink RX0 21 "Transversary$Covers" "blockersTwice" "LTransversary$Sets;", .arrayClass .boolean, .fieldLink RX0 24 "Transversary$Covers" "isCover" "[Z", .arrayClass .int, .fieldLink RX0 28 "Transversary$Covers" "packed" "[I", .instanceMethod yX7_init, .code yX7_init cX7_init 1 none, .methodLink RX7 3 objectInit, .fieldLink RX7 9 "Transversary$Sets" "isHeld" "[Z", .fieldLink RX7 15 "Transversary$Sets" "row" "[I"] ++ wsX70 ++ wsX00)
def wsX7_clear : List Cond := .code yX7_clear cX7_clear 2 none :: ([.fieldLink RX7 9 "Transversary$Sets" "isHeld" "[Z", .fieldLink RX7 19 "Transversary$Sets" "many" "I"] ++ wsX70)
def wsX7_many : List Cond := .code yX7_many cX7_many 1 (some .int) :: ([.fieldLink RX7 19 "Transversary$Sets" "many" "I"] ++ wsX70)
def wsX11_isIn : List Cond := .code yX11_isIn cX11_isIn 2 (some .boolean) :: ([])
def wsJ6_bitCount_0f7a4 : List Cond := .code yJ6_bitCount_0f7a4 cJ6_bitCount_0f7a4 1 (some .int) :: ([.constant RJ6 265 (1431655765), .constant RJ6 266 (858993459), .constant RJ6 267 (252645135)])
def wsX11_sizeOf : List Cond := .code yX11_sizeOf cX11_sizeOf 1 (some .int) :: ([.methodLink RX11 487 yJ6_bitCount_0f7a4, .static yJ6_bitCount_0f7a4, .initialized RJ6, .code yJ6_bitCount_0f7a4 cJ6_bitCount_0f7a4 1 (some .int), .constant RJ6 265 (1431655765), .constant RJ6 266 (858993459), .constant RJ6 267 (252645135)])
def wsX3_alive : List Cond := .code yX3_alive cX3_alive 1 (some .int) :: ([.fieldLink RX3 23 "Transversary$Points" "alive" "I"] ++ wsX30)
def wsX3_knows : List Cond := .code yX3_knows cX3_knows 2 (some .boolean) :: ([.fieldLink RX3 15 "Transversary$Points" "many" "I", .fieldLink RX3 9 "Transversary$Points" "weights" "[I"] ++ wsX30)
def wsX1_init : List Cond := .code yX1_init cX1_init 2 none :: ([.methodLink RX1 3 objectInit, .instanceMethod objectInit, .code objectInit ⟨#[0xb1]⟩ 1 none, .classLink RX1 9 RX7, .instantiable RX7 3, .initialized RX7, .fieldLink RX1 12 "Transversary$Makers" "next" "LTransversary$Sets;", .fieldLink RX1 18 "Transversary$Makers" "samples" "LTransversary$Samples;", .instanceMethod yX7_init, .code yX7_init cX7_init 1 none, .methodLink RX7 3 objectInit, .arrayClass .boolean, .fieldLink RX7 9 "Transversary$Sets" "isHeld" "[Z", .arrayClass .int, .fieldLink RX7 15 "Transversary$Sets" "row" "[I"] ++ wsX70 ++ wsX10)
def wsX1_partsInto : List Cond := .code yX1_partsInto cX1_partsInto 5 none :: ([.methodLink RX1 22 yX7_clear, .instanceMethod yX7_clear, .selects RX7 yX7_clear yX7_clear, .initialized RX7, .code yX7_clear cX7_clear 2 none, .fieldLink RX7 9 "Transversary$Sets" "isHeld" "[Z", .fieldLink RX7 19 "Transversary$Sets" "many" "I", .methodLink RX1 25 yX7_many, .instanceMethod yX7_many, .selects RX7 yX7_many yX7_many, .code yX7_many cX7_many 1 (some .int), .methodLink RX1 29 yX7_at, .instanceMethod yX7_at, .selects RX7 yX7_at yX7_at, .code yX7_at cX7_at 2 (some .int), .fieldLink RX7 15 "Transversary$Sets" "row" "[I", .methodLink RX1 33 yX7_put, .instanceMethod yX7_put, .selects RX7 yX7_put yX7_put, .code yX7_put cX7_put 3 none] ++ wsX70)
def wsX7_copy : List Cond := .code yX7_copy cX7_copy 3 none :: ([.methodLink RX7 23 yX7_clear, .instanceMethod yX7_clear, .selects RX7 yX7_clear yX7_clear, .initialized RX7, .code yX7_clear cX7_clear 2 none, .fieldLink RX7 9 "Transversary$Sets" "isHeld" "[Z", .fieldLink RX7 19 "Transversary$Sets" "many" "I", .methodLink RX7 26 yX7_many, .instanceMethod yX7_many, .selects RX7 yX7_many yX7_many, .code yX7_many cX7_many 1 (some .int), .methodLink RX7 29 yX7_at, .instanceMethod yX7_at, .selects RX7 yX7_at yX7_at, .code yX7_at cX7_at 2 (some .int), .fieldLink RX7 15 "Transversary$Sets" "row" "[I", .methodLink RX7 33 yX7_put, .instanceMethod yX7_put, .selects RX7 yX7_put yX7_put, .code yX7_put cX7_put 3 none] ++ wsX70)
def wsX2_init : List Cond := .code yX2_init cX2_init 1 none :: ([.methodLink RX2 3 objectInit, .instanceMethod objectInit, .code objectInit ⟨#[0xb1]⟩ 1 none, .arrayClass .int, .fieldLink RX2 9 "Transversary$Orders" "lengths" "[I", .fieldLink RX2 15 "Transversary$Orders" "upperOf" "[I", .fieldLink RX2 18 "Transversary$Orders" "lowerOf" "[I", .fieldLink RX2 21 "Transversary$Orders" "reachedFrom" "[I", .fieldLink RX2 24 "Transversary$Orders" "queue" "[I"] ++ wsX20)
def wsJ3_checkIndex_8e157 : List Cond := .code yJ3_checkIndex_8e157 cJ3_checkIndex_8e157 3 (some .int) :: ([])
def wsX3_init : List Cond := .code yX3_init cX3_init 1 none :: ([.methodLink RX3 3 objectInit, .instanceMethod objectInit, .code objectInit ⟨#[0xb1]⟩ 1 none, .arrayClass .int, .fieldLink RX3 9 "Transversary$Points" "weights" "[I"] ++ wsX30)
def wsX3_howManySets : List Cond := .code yX3_howManySets cX3_howManySets 1 (some .int) :: ([.fieldLink RX3 15 "Transversary$Points" "many" "I"] ++ wsX30)
def wsX3_begin : List Cond := .code yX3_begin cX3_begin 3 none :: ([.fieldLink RX3 15 "Transversary$Points" "many" "I", .fieldLink RX3 23 "Transversary$Points" "alive" "I", .fieldLink RX3 9 "Transversary$Points" "weights" "[I", .methodLink RX3 19 yX3_howManySets, .instanceMethod yX3_howManySets, .selects RX3 yX3_howManySets yX3_howManySets, .initialized RX3, .code yX3_howManySets cX3_howManySets 1 (some .int)] ++ wsX30)
def wsX3_howManyAlive : List Cond := .code yX3_howManyAlive cX3_howManyAlive 1 (some .int) :: ([.fieldLink RX3 23 "Transversary$Points" "alive" "I", .static yX11_sizeOf, .initialized RX11, .code yX11_sizeOf cX11_sizeOf 1 (some .int), .methodLink RX11 487 yJ6_bitCount_0f7a4, .static yJ6_bitCount_0f7a4, .initialized RJ6, .code yJ6_bitCount_0f7a4 cJ6_bitCount_0f7a4 1 (some .int), .constant RJ6 265 (1431655765), .constant RJ6 266 (858993459), .constant RJ6 267 (252645135)] ++ wsX30)
def wsX3_tellDeath : List Cond := .code yX3_tellDeath cX3_tellDeath 3 none :: ([.fieldLink RX3 23 "Transversary$Points" "alive" "I", .methodLink RX3 30 yX3_knows, .instanceMethod yX3_knows, .selects RX3 yX3_knows yX3_knows, .initialized RX3, .code yX3_knows cX3_knows 2 (some .boolean), .fieldLink RX3 15 "Transversary$Points" "many" "I", .fieldLink RX3 9 "Transversary$Points" "weights" "[I"] ++ wsX30)
def wsX4_init : List Cond := .code yX4_init cX4_init 1 none :: ([.methodLink RX4 3 objectInit, .instanceMethod objectInit, .code objectInit ⟨#[0xb1]⟩ 1 none, .classLink RX4 9 "[[J", .arrayClass .long, .fieldLink RX4 11 "Transversary$Price" "table" "[[J", .arrayClass .int, .fieldLink RX4 16 "Transversary$Price" "basis" "[I"] ++ wsX40)
def wsX5_init : List Cond := .code yX5_init cX5_init 2 none :: ([.methodLink RX5 3 objectInit, .instanceMethod objectInit, .code objectInit ⟨#[0xb1]⟩ 1 none, .arrayClass .int, .fieldLink RX5 9 "Transversary$Rings" "neighbours" "[I", .fieldLink RX5 15 "Transversary$Rings" "ends" "[I", .fieldLink RX5 18 "Transversary$Rings" "greatestFree" "[I", .arrayClass .long, .fieldLink RX5 21 "Transversary$Rings" "wins" "[J", .fieldLink RX5 25 "Transversary$Rings" "covers" "LTransversary$Covers;"] ++ wsX50)
def wsX7_hasWithin : List Cond := .code yX7_hasWithin cX7_hasWithin 4 (some .boolean) :: ([.fieldLink RX7 19 "Transversary$Sets" "many" "I", .methodLink RX7 29 yX7_at, .instanceMethod yX7_at, .selects RX7 yX7_at yX7_at, .initialized RX7, .code yX7_at cX7_at 2 (some .int), .fieldLink RX7 15 "Transversary$Sets" "row" "[I", .static yX11_isIn, .initialized RX11, .code yX11_isIn cX11_isIn 2 (some .boolean), .static yX11_sizeOf, .code yX11_sizeOf cX11_sizeOf 1 (some .int), .methodLink RX11 487 yJ6_bitCount_0f7a4, .static yJ6_bitCount_0f7a4, .initialized RJ6, .code yJ6_bitCount_0f7a4 cJ6_bitCount_0f7a4 1 (some .int), .constant RJ6 265 (1431655765), .constant RJ6 266 (858993459), .constant RJ6 267 (252645135)] ++ wsX70)
def wsX5_canWin : List Cond := .code yX5_canWin cX5_canWin 10 (some .boolean) :: ([.static yX11_sizeOf, .initialized RX11, .code yX11_sizeOf cX11_sizeOf 1 (some .int), .methodLink RX11 487 yJ6_bitCount_0f7a4, .static yJ6_bitCount_0f7a4, .initialized RJ6, .code yJ6_bitCount_0f7a4 cJ6_bitCount_0f7a4 1 (some .int), .constant RJ6 265 (1431655765), .constant RJ6 266 (858993459), .constant RJ6 267 (252645135), .methodLink RX5 88 yX5_isWin, .instanceMethod yX5_isWin, .selects RX5 yX5_isWin yX5_isWin, .initialized RX5, .code yX5_isWin cX5_isWin 3 (some .boolean), .fieldLink RX5 21 "Transversary$Rings" "wins" "[J", .methodLink RX5 98 yX5_placeOf, .static yX5_placeOf, .code yX5_placeOf cX5_placeOf 2 (some .int)] ++ wsX50)
def wsX5_playBackwards_r1 : List Cond := [Cond.fieldLink RX5 21 "Transversary$Rings" "wins" "[J", Cond.static yX11_isIn, Cond.initialized RX11, Cond.code yX11_isIn cX11_isIn 2 (some .boolean), Cond.methodLink RX5 91 yX7_hasWithin, Cond.instanceMethod yX7_hasWithin, Cond.selects RX7 yX7_hasWithin yX7_hasWithin, Cond.initialized RX7, Cond.code yX7_hasWithin cX7_hasWithin 4 (some .boolean), Cond.fieldLink RX7 19 "Transversary$Sets" "many" "I", Cond.methodLink RX7 29 yX7_at, Cond.instanceMethod yX7_at, Cond.selects RX7 yX7_at yX7_at, Cond.code yX7_at cX7_at 2 (some .int), Cond.fieldLink RX7 15 "Transversary$Sets" "row" "[I", Cond.static yX11_sizeOf, Cond.code yX11_sizeOf cX11_sizeOf 1 (some .int), Cond.methodLink RX11 487 yJ6_bitCount_0f7a4, Cond.static yJ6_bitCount_0f7a4, Cond.initialized RJ6, Cond.code yJ6_bitCount_0f7a4 cJ6_bitCount_0f7a4 1 (some .int), Cond.constant RJ6 265 (1431655765), Cond.constant RJ6 266 (858993459), Cond.constant RJ6 267 (252645135)]
def wsX5_playBackwards_r2 : List Cond := [Cond.methodLink RX5 94 yX5_canWin, Cond.instanceMethod yX5_canWin, Cond.selects RX5 yX5_canWin yX5_canWin, Cond.initialized RX5, Cond.code yX5_canWin cX5_canWin 10 (some .boolean), Cond.methodLink RX5 88 yX5_isWin, Cond.instanceMethod yX5_isWin, Cond.selects RX5 yX5_isWin yX5_isWin, Cond.code yX5_isWin cX5_isWin 3 (some .boolean), Cond.methodLink RX5 98 yX5_placeOf, Cond.static yX5_placeOf, Cond.code yX5_placeOf cX5_placeOf 2 (some .int)]
def wsX5_playBackwards : List Cond := .code yX5_playBackwards cX5_playBackwards 6 none :: ((wsX5_playBackwards_r1 ++ wsX5_playBackwards_r2) ++ wsX50 ++ wsX70)
def wsX5_winningPoint_r1 : List Cond := [Cond.methodLink RX5 85 yX5_playBackwards, Cond.instanceMethod yX5_playBackwards, Cond.selects RX5 yX5_playBackwards yX5_playBackwards, Cond.initialized RX5, Cond.code yX5_playBackwards cX5_playBackwards 6 none, Cond.fieldLink RX5 21 "Transversary$Rings" "wins" "[J", Cond.static yX11_isIn, Cond.initialized RX11, Cond.code yX11_isIn cX11_isIn 2 (some .boolean), Cond.methodLink RX5 91 yX7_hasWithin, Cond.instanceMethod yX7_hasWithin, Cond.selects RX7 yX7_hasWithin yX7_hasWithin, Cond.initialized RX7, Cond.code yX7_hasWithin cX7_hasWithin 4 (some .boolean), Cond.fieldLink RX7 19 "Transversary$Sets" "many" "I", Cond.methodLink RX7 29 yX7_at, Cond.instanceMethod yX7_at, Cond.selects RX7 yX7_at yX7_at, Cond.code yX7_at cX7_at 2 (some .int), Cond.fieldLink RX7 15 "Transversary$Sets" "row" "[I", Cond.static yX11_sizeOf, Cond.code yX11_sizeOf cX11_sizeOf 1 (some .int), Cond.methodLink RX11 487 yJ6_bitCount_0f7a4, Cond.static yJ6_bitCount_0f7a4]
def wsX5_winningPoint_r2 : List Cond := [Cond.initialized RJ6, Cond.code yJ6_bitCount_0f7a4 cJ6_bitCount_0f7a4 1 (some .int), Cond.constant RJ6 265 (1431655765), Cond.constant RJ6 266 (858993459), Cond.constant RJ6 267 (252645135), Cond.methodLink RX5 94 yX5_canWin, Cond.instanceMethod yX5_canWin, Cond.selects RX5 yX5_canWin yX5_canWin, Cond.code yX5_canWin cX5_canWin 10 (some .boolean), Cond.methodLink RX5 88 yX5_isWin, Cond.instanceMethod yX5_isWin, Cond.selects RX5 yX5_isWin yX5_isWin, Cond.code yX5_isWin cX5_isWin 3 (some .boolean), Cond.methodLink RX5 98 yX5_placeOf, Cond.static yX5_placeOf, Cond.code yX5_placeOf cX5_placeOf 2 (some .int)]
def wsX5_winningPoint : List Cond := .code yX5_winningPoint cX5_winningPoint 4 (some .int) :: ((wsX5_winningPoint_r1 ++ wsX5_winningPoint_r2) ++ wsX50 ++ wsX70)
def wsX6_init : List Cond := .code yX6_init cX6_init 2 none :: ([.methodLink RX6 3 objectInit, .instanceMethod objectInit, .code objectInit ⟨#[0xb1]⟩ 1 none, .classLink RX6 9 RX7, .instantiable RX7 3, .initialized RX7, .fieldLink RX6 12 "Transversary$Samples" "petals" "LTransversary$Sets;", .arrayClass .long, .fieldLink RX6 18 "Transversary$Samples" "outcomes" "[J", .fieldLink RX6 22 "Transversary$Samples" "covers" "LTransversary$Covers;", .instanceMethod yX7_init, .code yX7_init cX7_init 1 none, .methodLink RX7 3 objectInit, .arrayClass .boolean, .fieldLink RX7 9 "Transversary$Sets" "isHeld" "[Z", .arrayClass .int, .fieldLink RX7 15 "Transversary$Sets" "row" "[I"] ++ wsX70 ++ wsX60)
def wsX8_init : List Cond := .code yX8_init cX8_init 1 none :: ([.methodLink RX8 3 objectInit, .instanceMethod objectInit, .code objectInit ⟨#[0xb1]⟩ 1 none, .arrayClass .boolean, .fieldLink RX8 9 "Transversary$Signs" "isOneColour" "[Z", .arrayClass .int, .fieldLink RX8 15 "Transversary$Signs" "fewest" "[I"] ++ wsX80)
def wsX9_init : List Cond := .code yX9_init cX9_init 1 none :: ([.methodLink RX9 3 objectInit, .instanceMethod objectInit, .code objectInit ⟨#[0xb1]⟩ 1 none, .arrayClass .boolean, .fieldLink RX9 9 "Transversary$Tables" "isFace" "[Z", .arrayClass .int, .fieldLink RX9 15 "Transversary$Tables" "placeOfFace" "[I", .arrayClass .long, .fieldLink RX9 19 "Transversary$Tables" "pivotRows" "[J", .classLink RX9 23 "[[I", .fieldLink RX9 25 "Transversary$Tables" "reduced" "[[I", .fieldLink RX9 28 "Transversary$Tables" "line" "[I"] ++ wsX90)
def wsX10_init : List Cond := .code yX10_init cX10_init 1 none :: ([.methodLink RX10 3 objectInit, .instanceMethod objectInit, .code objectInit ⟨#[0xb1]⟩ 1 none, .classLink RX10 9 RX7, .instantiable RX7 3, .initialized RX7, .fieldLink RX10 12 "Transversary$Trees" "left" "LTransversary$Sets;", .arrayClass .int, .fieldLink RX10 18 "Transversary$Trees" "neighbours" "[I", .fieldLink RX10 22 "Transversary$Trees" "widths" "[I", .instanceMethod yX7_init, .code yX7_init cX7_init 1 none, .methodLink RX7 3 objectInit, .arrayClass .boolean, .fieldLink RX7 9 "Transversary$Sets" "isHeld" "[Z", .fieldLink RX7 15 "Transversary$Sets" "row" "[I"] ++ wsX70 ++ wsX100)
def wsX11_init_r1 : List Cond := [Cond.methodLink RX11 3 objectInit, Cond.instanceMethod objectInit, Cond.code objectInit ⟨#[0xb1]⟩ 1 none, Cond.classLink RX11 9 RX3, Cond.instantiable RX3 3, Cond.initialized RX3, Cond.fieldLink RX11 12 "Transversary" "points" "LTransversary$Points;", Cond.classLink RX11 16 RX7, Cond.fieldLink RX11 18 "Transversary" "families" "[LTransversary$Sets;", Cond.instantiable RX7 3, Cond.initialized RX7, Cond.fieldLink RX11 23 "Transversary" "parts" "LTransversary$Sets;", Cond.fieldLink RX11 27 "Transversary" "otherParts" "LTransversary$Sets;", Cond.fieldLink RX11 30 "Transversary" "made" "LTransversary$Sets;", Cond.classLink RX11 33 RX0, Cond.instantiable RX0 5, Cond.initialized RX0, Cond.fieldLink RX11 36 "Transversary" "covers" "LTransversary$Covers;", Cond.classLink RX11 40 RX4, Cond.instantiable RX4 5, Cond.initialized RX4, Cond.fieldLink RX11 43 "Transversary" "prices" "LTransversary$Price;", Cond.classLink RX11 47 RX5, Cond.instantiable RX5 5]
def wsX11_init_r2 : List Cond := [Cond.initialized RX5, Cond.fieldLink RX11 52 "Transversary" "rings" "LTransversary$Rings;", Cond.classLink RX11 56 RX6, Cond.instantiable RX6 5, Cond.initialized RX6, Cond.fieldLink RX11 59 "Transversary" "samples" "LTransversary$Samples;", Cond.classLink RX11 63 RX1, Cond.instantiable RX1 2, Cond.initialized RX1, Cond.fieldLink RX11 68 "Transversary" "makers" "LTransversary$Makers;", Cond.classLink RX11 72 RX8, Cond.instantiable RX8 3, Cond.initialized RX8, Cond.fieldLink RX11 75 "Transversary" "signs" "LTransversary$Signs;", Cond.classLink RX11 79 RX10, Cond.instantiable RX10 4, Cond.initialized RX10, Cond.fieldLink RX11 82 "Transversary" "trees" "LTransversary$Trees;", Cond.classLink RX11 86 RX2, Cond.instantiable RX2 7, Cond.initialized RX2, Cond.fieldLink RX11 89 "Transversary" "orders" "LTransversary$Orders;", Cond.classLink RX11 93 RX9, Cond.instantiable RX9 6]
def wsX11_init_r3 : List Cond := [Cond.initialized RX9, Cond.fieldLink RX11 96 "Transversary" "tables" "LTransversary$Tables;", Cond.instanceMethod yX3_init, Cond.code yX3_init cX3_init 1 none, Cond.methodLink RX3 3 objectInit, Cond.arrayClass .int, Cond.fieldLink RX3 9 "Transversary$Points" "weights" "[I", Cond.instanceMethod yX7_init, Cond.code yX7_init cX7_init 1 none, Cond.methodLink RX7 3 objectInit, Cond.arrayClass .boolean, Cond.fieldLink RX7 9 "Transversary$Sets" "isHeld" "[Z", Cond.fieldLink RX7 15 "Transversary$Sets" "row" "[I", Cond.instanceMethod yX0_init, Cond.code yX0_init cX0_init 1 none, Cond.methodLink RX0 3 objectInit, Cond.classLink RX0 9 RX7, Cond.fieldLink RX0 12 "Transversary$Covers" "least" "LTransversary$Sets;", Cond.fieldLink RX0 18 "Transversary$Covers" "blockers" "LTransversary$Sets;", Cond.fieldLink RX0 21 "Transversary$Covers" "blockersTwice" "LTransversary$Sets;", Cond.fieldLink RX0 24 "Transversary$Covers" "isCover" "[Z", Cond.fieldLink RX0 28 "Transversary$Covers" "packed" "[I", Cond.instanceMethod yX4_init, Cond.code yX4_init cX4_init 1 none]
def wsX11_init_r4 : List Cond := [Cond.methodLink RX4 3 objectInit, Cond.classLink RX4 9 "[[J", Cond.arrayClass .long, Cond.fieldLink RX4 11 "Transversary$Price" "table" "[[J", Cond.fieldLink RX4 16 "Transversary$Price" "basis" "[I", Cond.methodLink RX11 49 yX5_init, Cond.instanceMethod yX5_init, Cond.code yX5_init cX5_init 2 none, Cond.methodLink RX5 3 objectInit, Cond.fieldLink RX5 9 "Transversary$Rings" "neighbours" "[I", Cond.fieldLink RX5 15 "Transversary$Rings" "ends" "[I", Cond.fieldLink RX5 18 "Transversary$Rings" "greatestFree" "[I", Cond.fieldLink RX5 21 "Transversary$Rings" "wins" "[J", Cond.fieldLink RX5 25 "Transversary$Rings" "covers" "LTransversary$Covers;", Cond.methodLink RX11 58 yX6_init, Cond.instanceMethod yX6_init, Cond.code yX6_init cX6_init 2 none, Cond.methodLink RX6 3 objectInit, Cond.classLink RX6 9 RX7, Cond.fieldLink RX6 12 "Transversary$Samples" "petals" "LTransversary$Sets;", Cond.fieldLink RX6 18 "Transversary$Samples" "outcomes" "[J", Cond.fieldLink RX6 22 "Transversary$Samples" "covers" "LTransversary$Covers;", Cond.methodLink RX11 65 yX1_init, Cond.instanceMethod yX1_init]
def wsX11_init_r5 : List Cond := [Cond.code yX1_init cX1_init 2 none, Cond.methodLink RX1 3 objectInit, Cond.classLink RX1 9 RX7, Cond.fieldLink RX1 12 "Transversary$Makers" "next" "LTransversary$Sets;", Cond.fieldLink RX1 18 "Transversary$Makers" "samples" "LTransversary$Samples;", Cond.instanceMethod yX8_init, Cond.code yX8_init cX8_init 1 none, Cond.methodLink RX8 3 objectInit, Cond.fieldLink RX8 9 "Transversary$Signs" "isOneColour" "[Z", Cond.fieldLink RX8 15 "Transversary$Signs" "fewest" "[I", Cond.instanceMethod yX10_init, Cond.code yX10_init cX10_init 1 none, Cond.methodLink RX10 3 objectInit, Cond.classLink RX10 9 RX7, Cond.fieldLink RX10 12 "Transversary$Trees" "left" "LTransversary$Sets;", Cond.fieldLink RX10 18 "Transversary$Trees" "neighbours" "[I", Cond.fieldLink RX10 22 "Transversary$Trees" "widths" "[I", Cond.instanceMethod yX2_init, Cond.code yX2_init cX2_init 1 none, Cond.methodLink RX2 3 objectInit, Cond.fieldLink RX2 9 "Transversary$Orders" "lengths" "[I", Cond.fieldLink RX2 15 "Transversary$Orders" "upperOf" "[I", Cond.fieldLink RX2 18 "Transversary$Orders" "lowerOf" "[I", Cond.fieldLink RX2 21 "Transversary$Orders" "reachedFrom" "[I"]
def wsX11_init_r6 : List Cond := [Cond.fieldLink RX2 24 "Transversary$Orders" "queue" "[I", Cond.instanceMethod yX9_init, Cond.code yX9_init cX9_init 1 none, Cond.methodLink RX9 3 objectInit, Cond.fieldLink RX9 9 "Transversary$Tables" "isFace" "[Z", Cond.fieldLink RX9 15 "Transversary$Tables" "placeOfFace" "[I", Cond.fieldLink RX9 19 "Transversary$Tables" "pivotRows" "[J", Cond.classLink RX9 23 "[[I", Cond.fieldLink RX9 25 "Transversary$Tables" "reduced" "[[I", Cond.fieldLink RX9 28 "Transversary$Tables" "line" "[I", Cond.methodLink RX11 100 yX3_begin, Cond.instanceMethod yX3_begin, Cond.selects RX3 yX3_begin yX3_begin, Cond.code yX3_begin cX3_begin 3 none, Cond.fieldLink RX3 15 "Transversary$Points" "many" "I", Cond.fieldLink RX3 23 "Transversary$Points" "alive" "I", Cond.methodLink RX3 19 yX3_howManySets, Cond.instanceMethod yX3_howManySets, Cond.selects RX3 yX3_howManySets yX3_howManySets, Cond.code yX3_howManySets cX3_howManySets 1 (some .int)]
def wsX11_init : List Cond := .code yX11_init cX11_init 2 none :: ((wsX11_init_r1 ++ (wsX11_init_r2 ++ (wsX11_init_r3 ++ (wsX11_init_r4 ++ (wsX11_init_r5 ++ wsX11_init_r6))))) ++ wsX30 ++ wsX110 ++ wsX70 ++ wsX00 ++ wsX40 ++ wsX50 ++ wsX60 ++ wsX10 ++ wsX80 ++ wsX100 ++ wsX20 ++ wsX90)
def wsX11_checkRange : List Cond := .code yX11_checkRange cX11_checkRange 4 none :: ([.classLink RX11 213 "java/lang/IllegalArgumentException", .initialized "java/lang/IllegalArgumentException"] ++ ([] : List Cond))
def wsX11_ground : List Cond := .code yX11_ground cX11_ground 2 (some .int) :: ([.fieldLink RX11 12 "Transversary" "points" "LTransversary$Points;", .fieldLink RX11 108 "Transversary" "familyCount" "I", .methodLink RX11 104 yX11_checkRange, .instanceMethod yX11_checkRange, .selects RX11 yX11_checkRange yX11_checkRange, .initialized RX11, .code yX11_checkRange cX11_checkRange 4 none, .classLink RX11 213 "java/lang/IllegalArgumentException", .initialized "java/lang/IllegalArgumentException", .methodLink RX11 100 yX3_begin, .instanceMethod yX3_begin, .selects RX3 yX3_begin yX3_begin, .initialized RX3, .code yX3_begin cX3_begin 3 none, .fieldLink RX3 15 "Transversary$Points" "many" "I", .fieldLink RX3 23 "Transversary$Points" "alive" "I", .fieldLink RX3 9 "Transversary$Points" "weights" "[I", .methodLink RX3 19 yX3_howManySets, .instanceMethod yX3_howManySets, .selects RX3 yX3_howManySets yX3_howManySets, .code yX3_howManySets cX3_howManySets 1 (some .int), .methodLink RX11 112 yX3_howManySets] ++ wsX110 ++ wsX30 ++ ([] : List Cond))
def wsX11_checkPoint : List Cond := .code yX11_checkPoint cX11_checkPoint 2 none :: ([.classLink RX11 386 "java/lang/IndexOutOfBoundsException", .initialized "java/lang/IndexOutOfBoundsException", .fieldLink RX11 12 "Transversary" "points" "LTransversary$Points;", .methodLink RX11 394 yX3_knows, .instanceMethod yX3_knows, .selects RX3 yX3_knows yX3_knows, .initialized RX3, .code yX3_knows cX3_knows 2 (some .boolean), .fieldLink RX3 15 "Transversary$Points" "many" "I", .fieldLink RX3 9 "Transversary$Points" "weights" "[I"] ++ wsX110 ++ wsX30 ++ ([] : List Cond))
def wsX11_die_r1 : List Cond := [Cond.fieldLink RX11 12 "Transversary" "points" "LTransversary$Points;", Cond.methodLink RX11 116 yX11_checkPoint, Cond.instanceMethod yX11_checkPoint, Cond.selects RX11 yX11_checkPoint yX11_checkPoint, Cond.initialized RX11, Cond.code yX11_checkPoint cX11_checkPoint 2 none, Cond.classLink RX11 386 "java/lang/IndexOutOfBoundsException", Cond.initialized "java/lang/IndexOutOfBoundsException", Cond.methodLink RX11 394 yX3_knows, Cond.instanceMethod yX3_knows, Cond.selects RX3 yX3_knows yX3_knows, Cond.initialized RX3, Cond.code yX3_knows cX3_knows 2 (some .boolean), Cond.fieldLink RX3 15 "Transversary$Points" "many" "I", Cond.fieldLink RX3 9 "Transversary$Points" "weights" "[I", Cond.methodLink RX11 127 yX3_tellDeath, Cond.instanceMethod yX3_tellDeath, Cond.selects RX3 yX3_tellDeath yX3_tellDeath, Cond.code yX3_tellDeath cX3_tellDeath 3 none, Cond.fieldLink RX3 23 "Transversary$Points" "alive" "I", Cond.methodLink RX3 30 yX3_knows, Cond.methodLink RX11 131 yX3_howManyAlive, Cond.instanceMethod yX3_howManyAlive, Cond.selects RX3 yX3_howManyAlive yX3_howManyAlive]
def wsX11_die_r2 : List Cond := [Cond.code yX3_howManyAlive cX3_howManyAlive 1 (some .int), Cond.static yX11_sizeOf, Cond.code yX11_sizeOf cX11_sizeOf 1 (some .int), Cond.methodLink RX11 487 yJ6_bitCount_0f7a4, Cond.static yJ6_bitCount_0f7a4, Cond.initialized RJ6, Cond.code yJ6_bitCount_0f7a4 cJ6_bitCount_0f7a4 1 (some .int), Cond.constant RJ6 265 (1431655765), Cond.constant RJ6 266 (858993459), Cond.constant RJ6 267 (252645135)]
def wsX11_die : List Cond := .code yX11_die cX11_die 3 (some .int) :: ((wsX11_die_r1 ++ wsX11_die_r2) ++ wsX110 ++ wsX30 ++ ([] : List Cond))
def wsX11_checkRoom : List Cond := .code yX11_checkRoom cX11_checkRoom 1 none :: ([.classLink RX11 158 "java/lang/IllegalStateException", .initialized "java/lang/IllegalStateException", .fieldLink RX11 108 "Transversary" "familyCount" "I"] ++ wsX110 ++ ([] : List Cond))
def wsX11_keep_r1 : List Cond := [Cond.fieldLink RX11 108 "Transversary" "familyCount" "I", Cond.fieldLink RX11 18 "Transversary" "families" "[LTransversary$Sets;", Cond.methodLink RX11 155 yX7_many, Cond.instanceMethod yX7_many, Cond.selects RX7 yX7_many yX7_many, Cond.initialized RX7, Cond.code yX7_many cX7_many 1 (some .int), Cond.fieldLink RX7 19 "Transversary$Sets" "many" "I", Cond.methodLink RX11 403 yX7_copy, Cond.instanceMethod yX7_copy, Cond.selects RX7 yX7_copy yX7_copy, Cond.code yX7_copy cX7_copy 3 none, Cond.methodLink RX7 23 yX7_clear, Cond.instanceMethod yX7_clear, Cond.selects RX7 yX7_clear yX7_clear, Cond.code yX7_clear cX7_clear 2 none, Cond.fieldLink RX7 9 "Transversary$Sets" "isHeld" "[Z", Cond.methodLink RX7 26 yX7_many, Cond.methodLink RX7 29 yX7_at, Cond.instanceMethod yX7_at, Cond.selects RX7 yX7_at yX7_at, Cond.code yX7_at cX7_at 2 (some .int), Cond.fieldLink RX7 15 "Transversary$Sets" "row" "[I", Cond.methodLink RX7 33 yX7_put]
def wsX11_keep_r2 : List Cond := [Cond.instanceMethod yX7_put, Cond.selects RX7 yX7_put yX7_put, Cond.code yX7_put cX7_put 3 none]
def wsX11_keep : List Cond := .code yX11_keep cX11_keep 2 (some .int) :: ((wsX11_keep_r1 ++ wsX11_keep_r2) ++ wsX110 ++ wsX70)
def wsX11_family_r1 : List Cond := [Cond.fieldLink RX11 30 "Transversary" "made" "LTransversary$Sets;", Cond.methodLink RX11 134 yX11_checkRoom, Cond.instanceMethod yX11_checkRoom, Cond.selects RX11 yX11_checkRoom yX11_checkRoom, Cond.initialized RX11, Cond.code yX11_checkRoom cX11_checkRoom 1 none, Cond.classLink RX11 158 "java/lang/IllegalStateException", Cond.initialized "java/lang/IllegalStateException", Cond.fieldLink RX11 108 "Transversary" "familyCount" "I", Cond.methodLink RX11 137 yX7_clear, Cond.instanceMethod yX7_clear, Cond.selects RX7 yX7_clear yX7_clear, Cond.initialized RX7, Cond.code yX7_clear cX7_clear 2 none, Cond.fieldLink RX7 9 "Transversary$Sets" "isHeld" "[Z", Cond.fieldLink RX7 19 "Transversary$Sets" "many" "I", Cond.methodLink RX11 140 yX11_keep, Cond.instanceMethod yX11_keep, Cond.selects RX11 yX11_keep yX11_keep, Cond.code yX11_keep cX11_keep 2 (some .int), Cond.fieldLink RX11 18 "Transversary" "families" "[LTransversary$Sets;", Cond.methodLink RX11 155 yX7_many, Cond.instanceMethod yX7_many, Cond.selects RX7 yX7_many yX7_many]
def wsX11_family_r2 : List Cond := [Cond.code yX7_many cX7_many 1 (some .int), Cond.methodLink RX11 403 yX7_copy, Cond.instanceMethod yX7_copy, Cond.selects RX7 yX7_copy yX7_copy, Cond.code yX7_copy cX7_copy 3 none, Cond.methodLink RX7 23 yX7_clear, Cond.methodLink RX7 26 yX7_many, Cond.methodLink RX7 29 yX7_at, Cond.instanceMethod yX7_at, Cond.selects RX7 yX7_at yX7_at, Cond.code yX7_at cX7_at 2 (some .int), Cond.fieldLink RX7 15 "Transversary$Sets" "row" "[I", Cond.methodLink RX7 33 yX7_put, Cond.instanceMethod yX7_put, Cond.selects RX7 yX7_put yX7_put, Cond.code yX7_put cX7_put 3 none]
def wsX11_family : List Cond := .code yX11_family cX11_family 1 (some .int) :: ((wsX11_family_r1 ++ wsX11_family_r2) ++ wsX110 ++ wsX70 ++ ([] : List Cond))
def wsX11_familyOf : List Cond := .code yX11_familyOf cX11_familyOf 2 (some (.object "Transversary$Sets")) :: ([.classLink RX11 386 "java/lang/IndexOutOfBoundsException", .initialized "java/lang/IndexOutOfBoundsException", .fieldLink RX11 108 "Transversary" "familyCount" "I", .fieldLink RX11 18 "Transversary" "families" "[LTransversary$Sets;"] ++ wsX110 ++ ([] : List Cond))
def wsX11_partsOf_r1 : List Cond := [Cond.fieldLink RX11 68 "Transversary" "makers" "LTransversary$Makers;", Cond.fieldLink RX11 23 "Transversary" "parts" "LTransversary$Sets;", Cond.fieldLink RX11 12 "Transversary" "points" "LTransversary$Points;", Cond.methodLink RX11 144 yX11_familyOf, Cond.instanceMethod yX11_familyOf, Cond.selects RX11 yX11_familyOf yX11_familyOf, Cond.initialized RX11, Cond.code yX11_familyOf cX11_familyOf 2 (some (.object "Transversary$Sets")), Cond.classLink RX11 386 "java/lang/IndexOutOfBoundsException", Cond.initialized "java/lang/IndexOutOfBoundsException", Cond.fieldLink RX11 108 "Transversary" "familyCount" "I", Cond.fieldLink RX11 18 "Transversary" "families" "[LTransversary$Sets;", Cond.methodLink RX11 171 yX3_alive, Cond.instanceMethod yX3_alive, Cond.selects RX3 yX3_alive yX3_alive, Cond.initialized RX3, Cond.code yX3_alive cX3_alive 1 (some .int), Cond.fieldLink RX3 23 "Transversary$Points" "alive" "I", Cond.methodLink RX11 391 yX1_partsInto, Cond.instanceMethod yX1_partsInto, Cond.selects RX1 yX1_partsInto yX1_partsInto, Cond.initialized RX1, Cond.code yX1_partsInto cX1_partsInto 5 none, Cond.methodLink RX1 22 yX7_clear]
def wsX11_partsOf_r2 : List Cond := [Cond.instanceMethod yX7_clear, Cond.selects RX7 yX7_clear yX7_clear, Cond.initialized RX7, Cond.code yX7_clear cX7_clear 2 none, Cond.fieldLink RX7 9 "Transversary$Sets" "isHeld" "[Z", Cond.fieldLink RX7 19 "Transversary$Sets" "many" "I", Cond.methodLink RX1 25 yX7_many, Cond.instanceMethod yX7_many, Cond.selects RX7 yX7_many yX7_many, Cond.code yX7_many cX7_many 1 (some .int), Cond.methodLink RX1 29 yX7_at, Cond.instanceMethod yX7_at, Cond.selects RX7 yX7_at yX7_at, Cond.code yX7_at cX7_at 2 (some .int), Cond.fieldLink RX7 15 "Transversary$Sets" "row" "[I", Cond.methodLink RX1 33 yX7_put, Cond.instanceMethod yX7_put, Cond.selects RX7 yX7_put yX7_put, Cond.code yX7_put cX7_put 3 none]
def wsX11_partsOf : List Cond := .code yX11_partsOf cX11_partsOf 2 (some (.object "Transversary$Sets")) :: ((wsX11_partsOf_r1 ++ wsX11_partsOf_r2) ++ wsX110 ++ wsX30 ++ wsX70 ++ ([] : List Cond))
def wsX11_game_r1 : List Cond := [Cond.fieldLink RX11 52 "Transversary" "rings" "LTransversary$Rings;", Cond.fieldLink RX11 12 "Transversary" "points" "LTransversary$Points;", Cond.methodLink RX11 168 yX11_partsOf, Cond.instanceMethod yX11_partsOf, Cond.selects RX11 yX11_partsOf yX11_partsOf, Cond.initialized RX11, Cond.code yX11_partsOf cX11_partsOf 2 (some (.object "Transversary$Sets")), Cond.fieldLink RX11 68 "Transversary" "makers" "LTransversary$Makers;", Cond.fieldLink RX11 23 "Transversary" "parts" "LTransversary$Sets;", Cond.methodLink RX11 144 yX11_familyOf, Cond.instanceMethod yX11_familyOf, Cond.selects RX11 yX11_familyOf yX11_familyOf, Cond.code yX11_familyOf cX11_familyOf 2 (some (.object "Transversary$Sets")), Cond.classLink RX11 386 "java/lang/IndexOutOfBoundsException", Cond.initialized "java/lang/IndexOutOfBoundsException", Cond.fieldLink RX11 108 "Transversary" "familyCount" "I", Cond.fieldLink RX11 18 "Transversary" "families" "[LTransversary$Sets;", Cond.methodLink RX11 171 yX3_alive, Cond.instanceMethod yX3_alive, Cond.selects RX3 yX3_alive yX3_alive, Cond.initialized RX3, Cond.code yX3_alive cX3_alive 1 (some .int), Cond.fieldLink RX3 23 "Transversary$Points" "alive" "I", Cond.methodLink RX11 391 yX1_partsInto]
def wsX11_game_r2 : List Cond := [Cond.instanceMethod yX1_partsInto, Cond.selects RX1 yX1_partsInto yX1_partsInto, Cond.initialized RX1, Cond.code yX1_partsInto cX1_partsInto 5 none, Cond.methodLink RX1 22 yX7_clear, Cond.instanceMethod yX7_clear, Cond.selects RX7 yX7_clear yX7_clear, Cond.initialized RX7, Cond.code yX7_clear cX7_clear 2 none, Cond.fieldLink RX7 9 "Transversary$Sets" "isHeld" "[Z", Cond.fieldLink RX7 19 "Transversary$Sets" "many" "I", Cond.methodLink RX1 25 yX7_many, Cond.instanceMethod yX7_many, Cond.selects RX7 yX7_many yX7_many, Cond.code yX7_many cX7_many 1 (some .int), Cond.methodLink RX1 29 yX7_at, Cond.instanceMethod yX7_at, Cond.selects RX7 yX7_at yX7_at, Cond.code yX7_at cX7_at 2 (some .int), Cond.fieldLink RX7 15 "Transversary$Sets" "row" "[I", Cond.methodLink RX1 33 yX7_put, Cond.instanceMethod yX7_put, Cond.selects RX7 yX7_put yX7_put, Cond.code yX7_put cX7_put 3 none]
def wsX11_game_r3 : List Cond := [Cond.methodLink RX11 265 yX5_winningPoint, Cond.instanceMethod yX5_winningPoint, Cond.selects RX5 yX5_winningPoint yX5_winningPoint, Cond.initialized RX5, Cond.code yX5_winningPoint cX5_winningPoint 4 (some .int), Cond.methodLink RX5 85 yX5_playBackwards, Cond.instanceMethod yX5_playBackwards, Cond.selects RX5 yX5_playBackwards yX5_playBackwards, Cond.code yX5_playBackwards cX5_playBackwards 6 none, Cond.fieldLink RX5 21 "Transversary$Rings" "wins" "[J", Cond.static yX11_isIn, Cond.code yX11_isIn cX11_isIn 2 (some .boolean), Cond.methodLink RX5 91 yX7_hasWithin, Cond.instanceMethod yX7_hasWithin, Cond.selects RX7 yX7_hasWithin yX7_hasWithin, Cond.code yX7_hasWithin cX7_hasWithin 4 (some .boolean), Cond.methodLink RX7 29 yX7_at, Cond.static yX11_sizeOf, Cond.code yX11_sizeOf cX11_sizeOf 1 (some .int), Cond.methodLink RX11 487 yJ6_bitCount_0f7a4, Cond.static yJ6_bitCount_0f7a4, Cond.initialized RJ6, Cond.code yJ6_bitCount_0f7a4 cJ6_bitCount_0f7a4 1 (some .int), Cond.constant RJ6 265 (1431655765)]
def wsX11_game_r4 : List Cond := [Cond.constant RJ6 266 (858993459), Cond.constant RJ6 267 (252645135), Cond.methodLink RX5 94 yX5_canWin, Cond.instanceMethod yX5_canWin, Cond.selects RX5 yX5_canWin yX5_canWin, Cond.code yX5_canWin cX5_canWin 10 (some .boolean), Cond.methodLink RX5 88 yX5_isWin, Cond.instanceMethod yX5_isWin, Cond.selects RX5 yX5_isWin yX5_isWin, Cond.code yX5_isWin cX5_isWin 3 (some .boolean), Cond.methodLink RX5 98 yX5_placeOf, Cond.static yX5_placeOf, Cond.code yX5_placeOf cX5_placeOf 2 (some .int)]
def wsX11_game : List Cond := .code yX11_game cX11_game 2 (some .int) :: ((wsX11_game_r1 ++ (wsX11_game_r2 ++ (wsX11_game_r3 ++ wsX11_game_r4))) ++ wsX110 ++ wsX30 ++ wsX70 ++ wsX50 ++ ([] : List Cond))
def wsX12_init : List Cond := .code yX12_init cX12_init 1 none :: ([.methodLink RX12 1 objectInit, .instanceMethod objectInit, .code objectInit ⟨#[0xb1]⟩ 1 none])
def wsX14_all : List Cond := .code yX14_all cX14_all 1 (some .int) :: ([.fieldLink RX14 7 "TransversaryModel" "points" "I"] ++ wsX140)
def wsJxa1e45_init_da8c8 : List Cond := .code yJxa1e45_init_da8c8 cJxa1e45_init_da8c8 1 none :: ([.methodLink RJxa1e45 1 objectInit, .instanceMethod objectInit, .code objectInit ⟨#[0xb1]⟩ 1 none])
def wsJxc12de_init_da8c8 : List Cond := .code yJxc12de_init_da8c8 cJxc12de_init_da8c8 1 none :: ([.fieldLink RJxc12de 7 "java/util/AbstractList" "modCount" "I", .methodLink RJxc12de 1 yJxa1e45_init_da8c8, .instanceMethod yJxa1e45_init_da8c8, .initialized RJxa1e45, .code yJxa1e45_init_da8c8 cJxa1e45_init_da8c8 1 none, .methodLink RJxa1e45 1 objectInit, .instanceMethod objectInit, .code objectInit ⟨#[0xb1]⟩ 1 none] ++ wsJx4a65c0)
def wsJx4a65c_init_da8c8 : List Cond := .code yJx4a65c_init_da8c8 cJx4a65c_init_da8c8 1 none :: ([.fieldLink RJx4a65c 39 "java/util/ArrayList" "DEFAULTCAPACITY_EMPTY_ELEMENTDATA" "[Ljava/lang/Object;", .fieldLink RJx4a65c 9 "java/util/ArrayList" "elementData" "[Ljava/lang/Object;", .methodLink RJx4a65c 1 yJxc12de_init_da8c8, .instanceMethod yJxc12de_init_da8c8, .initialized RJxc12de, .code yJxc12de_init_da8c8 cJxc12de_init_da8c8 1 none, .fieldLink RJxc12de 7 "java/util/AbstractList" "modCount" "I", .methodLink RJxc12de 1 yJxa1e45_init_da8c8, .instanceMethod yJxa1e45_init_da8c8, .initialized RJxa1e45, .code yJxa1e45_init_da8c8 cJxa1e45_init_da8c8 1 none, .methodLink RJxa1e45 1 objectInit, .instanceMethod objectInit, .code objectInit ⟨#[0xb1]⟩ 1 none] ++ wsJx4a65c0)
def wsX14_init_r1 : List Cond := [Cond.methodLink RX14 1 objectInit, Cond.instanceMethod objectInit, Cond.code objectInit ⟨#[0xb1]⟩ 1 none, Cond.fieldLink RX14 7 "TransversaryModel" "points" "I", Cond.arrayClass .int, Cond.fieldLink RX14 13 "TransversaryModel" "weights" "[I", Cond.classLink RX14 17 RJx4a65c, Cond.instantiable RJx4a65c 3, Cond.initialized RJx4a65c, Cond.fieldLink RX14 20 "TransversaryModel" "families" "Ljava/util/ArrayList;", Cond.arrayClass .boolean, Cond.fieldLink RX14 24 "TransversaryModel" "scratch" "[Z", Cond.arrayClass .long, Cond.fieldLink RX14 28 "TransversaryModel" "lows" "[J", Cond.fieldLink RX14 32 "TransversaryModel" "highs" "[J", Cond.methodLink RX14 19 yJx4a65c_init_da8c8, Cond.instanceMethod yJx4a65c_init_da8c8, Cond.code yJx4a65c_init_da8c8 cJx4a65c_init_da8c8 1 none, Cond.fieldLink RJx4a65c 39 "java/util/ArrayList" "DEFAULTCAPACITY_EMPTY_ELEMENTDATA" "[Ljava/lang/Object;", Cond.fieldLink RJx4a65c 9 "java/util/ArrayList" "elementData" "[Ljava/lang/Object;", Cond.methodLink RJx4a65c 1 yJxc12de_init_da8c8, Cond.instanceMethod yJxc12de_init_da8c8, Cond.initialized RJxc12de, Cond.code yJxc12de_init_da8c8 cJxc12de_init_da8c8 1 none]
def wsX14_init_r2 : List Cond := [Cond.fieldLink RJxc12de 7 "java/util/AbstractList" "modCount" "I", Cond.methodLink RJxc12de 1 yJxa1e45_init_da8c8, Cond.instanceMethod yJxa1e45_init_da8c8, Cond.initialized RJxa1e45, Cond.code yJxa1e45_init_da8c8 cJxa1e45_init_da8c8 1 none, Cond.methodLink RJxa1e45 1 objectInit]
def wsX14_init : List Cond := .code yX14_init cX14_init 1 none :: ((wsX14_init_r1 ++ wsX14_init_r2) ++ wsX140 ++ wsJx4a65c0)
def wsX14_is : List Cond := .code yX14_is cX14_is 3 (some .boolean) :: ([])
def wsJx4a65c_size_8abf5 : List Cond := .code yJx4a65c_size_8abf5 cJx4a65c_size_8abf5 1 (some .int) :: ([.fieldLink RJx4a65c 48 "java/util/ArrayList" "size" "I"] ++ wsJx4a65c0)
def wsX14_isFamily : List Cond := .code yX14_isFamily cX14_isFamily 2 (some .boolean) :: ([.fieldLink RX14 20 "TransversaryModel" "families" "Ljava/util/ArrayList;", .methodLink RX14 38 yJx4a65c_size_8abf5, .instanceMethod yJx4a65c_size_8abf5, .selects RJx4a65c yJx4a65c_size_8abf5 yJx4a65c_size_8abf5, .initialized RJx4a65c, .code yJx4a65c_size_8abf5 cJx4a65c_size_8abf5 1 (some .int), .fieldLink RJx4a65c 48 "java/util/ArrayList" "size" "I", .methodLink RX14 42 yX14_is, .static yX14_is, .initialized RX14, .code yX14_is cX14_is 3 (some .boolean)] ++ wsX140 ++ wsJx4a65c0)
def wsX14_isPoint : List Cond := .code yX14_isPoint cX14_isPoint 2 (some .boolean) :: ([.fieldLink RX14 7 "TransversaryModel" "points" "I", .methodLink RX14 42 yX14_is, .static yX14_is, .initialized RX14, .code yX14_is cX14_is 3 (some .boolean)] ++ wsX140)
def wsX14_alive : List Cond := .code yX14_alive cX14_alive 1 (some .int) :: ([.fieldLink RX14 49 "TransversaryModel" "dead" "I", .methodLink RX14 46 yX14_all, .instanceMethod yX14_all, .selects RX14 yX14_all yX14_all, .initialized RX14, .code yX14_all cX14_all 1 (some .int), .fieldLink RX14 7 "TransversaryModel" "points" "I"] ++ wsX140)
def wsX14_aliveMany : List Cond := .code yX14_aliveMany cX14_aliveMany 1 (some .int) :: ([.methodLink RX14 52 yX14_alive, .instanceMethod yX14_alive, .selects RX14 yX14_alive yX14_alive, .initialized RX14, .code yX14_alive cX14_alive 1 (some .int), .fieldLink RX14 49 "TransversaryModel" "dead" "I", .methodLink RX14 46 yX14_all, .instanceMethod yX14_all, .selects RX14 yX14_all yX14_all, .code yX14_all cX14_all 1 (some .int), .fieldLink RX14 7 "TransversaryModel" "points" "I", .methodLink RX14 55 yJ6_bitCount_0f7a4, .static yJ6_bitCount_0f7a4, .initialized RJ6, .code yJ6_bitCount_0f7a4 cJ6_bitCount_0f7a4 1 (some .int), .constant RJ6 265 (1431655765), .constant RJ6 266 (858993459), .constant RJ6 267 (252645135)] ++ wsX140)
def wsX14_empty : List Cond := .code yX14_empty cX14_empty 1 (some (.array .boolean)) :: ([.arrayClass .boolean, .methodLink RX14 46 yX14_all, .instanceMethod yX14_all, .selects RX14 yX14_all yX14_all, .initialized RX14, .code yX14_all cX14_all 1 (some .int), .fieldLink RX14 7 "TransversaryModel" "points" "I"] ++ wsX140)
def wsJx4a65c_clear_da8c8 : List Cond := .code yJx4a65c_clear_da8c8 cJx4a65c_clear_da8c8 4 none :: ([.fieldLink RJx4a65c 63 "java/util/ArrayList" "modCount" "I", .sameField "java/util/ArrayList" "java/util/AbstractList" "modCount" "I", .fieldLink RJx4a65c 9 "java/util/ArrayList" "elementData" "[Ljava/lang/Object;", .fieldLink RJx4a65c 48 "java/util/ArrayList" "size" "I"] ++ wsJx4a65c0)
def wsX14_ground_r1 : List Cond := [Cond.fieldLink RX14 35 "TransversaryModel" "thrown" "I", Cond.fieldLink RX14 7 "TransversaryModel" "points" "I", Cond.arrayClass .int, Cond.fieldLink RX14 13 "TransversaryModel" "weights" "[I", Cond.fieldLink RX14 49 "TransversaryModel" "dead" "I", Cond.fieldLink RX14 20 "TransversaryModel" "families" "Ljava/util/ArrayList;", Cond.methodLink RX14 42 yX14_is, Cond.static yX14_is, Cond.initialized RX14, Cond.code yX14_is cX14_is 3 (some .boolean), Cond.methodLink RX14 65 yX14_refuse, Cond.instanceMethod yX14_refuse, Cond.selects RX14 yX14_refuse yX14_refuse, Cond.code yX14_refuse cX14_refuse 2 (some .int), Cond.methodLink RX14 68 yJx4a65c_clear_da8c8, Cond.instanceMethod yJx4a65c_clear_da8c8, Cond.selects RJx4a65c yJx4a65c_clear_da8c8 yJx4a65c_clear_da8c8, Cond.initialized RJx4a65c, Cond.code yJx4a65c_clear_da8c8 cJx4a65c_clear_da8c8 4 none, Cond.fieldLink RJx4a65c 63 "java/util/ArrayList" "modCount" "I", Cond.sameField "java/util/ArrayList" "java/util/AbstractList" "modCount" "I", Cond.fieldLink RJx4a65c 9 "java/util/ArrayList" "elementData" "[Ljava/lang/Object;", Cond.fieldLink RJx4a65c 48 "java/util/ArrayList" "size" "I", Cond.methodLink RX14 46 yX14_all]
def wsX14_ground_r2 : List Cond := [Cond.instanceMethod yX14_all, Cond.selects RX14 yX14_all yX14_all, Cond.code yX14_all cX14_all 1 (some .int)]
def wsX14_ground : List Cond := .code yX14_ground cX14_ground 3 (some .int) :: ((wsX14_ground_r1 ++ wsX14_ground_r2) ++ wsX140 ++ wsJx4a65c0)
def wsX14_die_r1 : List Cond := [Cond.fieldLink RX14 35 "TransversaryModel" "thrown" "I", Cond.fieldLink RX14 49 "TransversaryModel" "dead" "I", Cond.methodLink RX14 71 yX14_isPoint, Cond.instanceMethod yX14_isPoint, Cond.selects RX14 yX14_isPoint yX14_isPoint, Cond.initialized RX14, Cond.code yX14_isPoint cX14_isPoint 2 (some .boolean), Cond.fieldLink RX14 7 "TransversaryModel" "points" "I", Cond.methodLink RX14 42 yX14_is, Cond.static yX14_is, Cond.code yX14_is cX14_is 3 (some .boolean), Cond.methodLink RX14 65 yX14_refuse, Cond.instanceMethod yX14_refuse, Cond.selects RX14 yX14_refuse yX14_refuse, Cond.code yX14_refuse cX14_refuse 2 (some .int), Cond.methodLink RX14 75 yX14_aliveMany, Cond.instanceMethod yX14_aliveMany, Cond.selects RX14 yX14_aliveMany yX14_aliveMany, Cond.code yX14_aliveMany cX14_aliveMany 1 (some .int), Cond.methodLink RX14 52 yX14_alive, Cond.instanceMethod yX14_alive, Cond.selects RX14 yX14_alive yX14_alive, Cond.code yX14_alive cX14_alive 1 (some .int), Cond.methodLink RX14 46 yX14_all]
def wsX14_die_r2 : List Cond := [Cond.instanceMethod yX14_all, Cond.selects RX14 yX14_all yX14_all, Cond.code yX14_all cX14_all 1 (some .int), Cond.methodLink RX14 55 yJ6_bitCount_0f7a4, Cond.static yJ6_bitCount_0f7a4, Cond.initialized RJ6, Cond.code yJ6_bitCount_0f7a4 cJ6_bitCount_0f7a4 1 (some .int), Cond.constant RJ6 265 (1431655765), Cond.constant RJ6 266 (858993459), Cond.constant RJ6 267 (252645135)]
def wsX14_die : List Cond := .code yX14_die cX14_die 3 (some .int) :: ((wsX14_die_r1 ++ wsX14_die_r2) ++ wsX140)
def wsJx4a65c_grow_92f84_r1 : List Cond := [Cond.fieldLink RJx4a65c 9 "java/util/ArrayList" "elementData" "[Ljava/lang/Object;", Cond.fieldLink RJx4a65c 39 "java/util/ArrayList" "DEFAULTCAPACITY_EMPTY_ELEMENTDATA" "[Ljava/lang/Object;", Cond.methodLink RJx4a65c 79 Lib.Math.max.name, Cond.static Lib.Math.max.name, Cond.initialized "java/lang/Math", Cond.code Lib.Math.max.name Lib.Math.max.code 2 (some .int), Cond.classLink RJx4a65c 7 "java/lang/Object", Cond.methodLink RJx4a65c 73 yJ8_newLength_cabcc, Cond.static yJ8_newLength_cabcc, Cond.initialized RJ8, Cond.code yJ8_newLength_cabcc cJ8_newLength_cabcc 4 (some .int), Cond.methodLink RJ8 194 Lib.Math.max.name, Cond.constant RJ8 200 (2147483639), Cond.methodLink RJ8 201 yJ8_hugeLength_7cf53, Cond.static yJ8_hugeLength_7cf53, Cond.code yJ8_hugeLength_7cf53 cJ8_hugeLength_7cf53 3 (some .int), Cond.methodLink RJx4a65c 66 yJ7_copyOf_1904c, Cond.static yJ7_copyOf_1904c, Cond.initialized RJ7, Cond.code yJ7_copyOf_1904c cJ7_copyOf_1904c 2 (some (.array (.object "java/lang/Object"))), Cond.methodLink RJ7 86 ⟨"java/lang/Object", "getClass", "()Ljava/lang/Class;"⟩, Cond.selects "[Ljava/lang/Object;" ⟨"java/lang/Object", "getClass", "()Ljava/lang/Class;"⟩ ⟨"java/lang/Object", "getClass", "()Ljava/lang/Class;"⟩, Cond.instanceMethod ⟨"java/lang/Object", "getClass", "()Ljava/lang/Class;"⟩, Cond.native ⟨"java/lang/Object", "getClass", "()Ljava/lang/Class;"⟩]
def wsJx4a65c_grow_92f84_r2 : List Cond := [Cond.methodLink RJ7 300 yJ7_copyOf_6403c, Cond.static yJ7_copyOf_6403c, Cond.code yJ7_copyOf_6403c cJ7_copyOf_6403c 4 (some (.array (.object "java/lang/Object"))), Cond.classLink RJ7 110 "[Ljava/lang/Object;", Cond.classLink RJ7 2 "java/lang/Object", Cond.methodLink RJ7 304 Lib.Math.min.name, Cond.static Lib.Math.min.name, Cond.code Lib.Math.min.name Lib.Math.min.code 2 (some .int), Cond.methodLink RJ7 150 arraycopyName, Cond.native arraycopyName, Cond.static arraycopyName, Cond.initialized "java/lang/System"]
def wsJx4a65c_grow_92f84 : List Cond := .code yJx4a65c_grow_92f84 cJx4a65c_grow_92f84 4 (some (.array (.object "java/lang/Object"))) :: ((wsJx4a65c_grow_92f84_r1 ++ wsJx4a65c_grow_92f84_r2) ++ wsJx4a65c0)
def wsJx4a65c_grow_d5877_r1 : List Cond := [Cond.fieldLink RJx4a65c 48 "java/util/ArrayList" "size" "I", Cond.methodLink RJx4a65c 69 yJx4a65c_grow_92f84, Cond.instanceMethod yJx4a65c_grow_92f84, Cond.selects RJx4a65c yJx4a65c_grow_92f84 yJx4a65c_grow_92f84, Cond.initialized RJx4a65c, Cond.code yJx4a65c_grow_92f84 cJx4a65c_grow_92f84 4 (some (.array (.object "java/lang/Object"))), Cond.fieldLink RJx4a65c 9 "java/util/ArrayList" "elementData" "[Ljava/lang/Object;", Cond.fieldLink RJx4a65c 39 "java/util/ArrayList" "DEFAULTCAPACITY_EMPTY_ELEMENTDATA" "[Ljava/lang/Object;", Cond.methodLink RJx4a65c 79 Lib.Math.max.name, Cond.static Lib.Math.max.name, Cond.initialized "java/lang/Math", Cond.code Lib.Math.max.name Lib.Math.max.code 2 (some .int), Cond.classLink RJx4a65c 7 "java/lang/Object", Cond.methodLink RJx4a65c 73 yJ8_newLength_cabcc, Cond.static yJ8_newLength_cabcc, Cond.initialized RJ8, Cond.code yJ8_newLength_cabcc cJ8_newLength_cabcc 4 (some .int), Cond.methodLink RJ8 194 Lib.Math.max.name, Cond.constant RJ8 200 (2147483639), Cond.methodLink RJ8 201 yJ8_hugeLength_7cf53, Cond.static yJ8_hugeLength_7cf53, Cond.code yJ8_hugeLength_7cf53 cJ8_hugeLength_7cf53 3 (some .int), Cond.methodLink RJx4a65c 66 yJ7_copyOf_1904c, Cond.static yJ7_copyOf_1904c]
def wsJx4a65c_grow_d5877_r2 : List Cond := [Cond.initialized RJ7, Cond.code yJ7_copyOf_1904c cJ7_copyOf_1904c 2 (some (.array (.object "java/lang/Object"))), Cond.methodLink RJ7 86 ⟨"java/lang/Object", "getClass", "()Ljava/lang/Class;"⟩, Cond.selects "[Ljava/lang/Object;" ⟨"java/lang/Object", "getClass", "()Ljava/lang/Class;"⟩ ⟨"java/lang/Object", "getClass", "()Ljava/lang/Class;"⟩, Cond.instanceMethod ⟨"java/lang/Object", "getClass", "()Ljava/lang/Class;"⟩, Cond.native ⟨"java/lang/Object", "getClass", "()Ljava/lang/Class;"⟩, Cond.methodLink RJ7 300 yJ7_copyOf_6403c, Cond.static yJ7_copyOf_6403c, Cond.code yJ7_copyOf_6403c cJ7_copyOf_6403c 4 (some (.array (.object "java/lang/Object"))), Cond.classLink RJ7 110 "[Ljava/lang/Object;", Cond.classLink RJ7 2 "java/lang/Object", Cond.methodLink RJ7 304 Lib.Math.min.name, Cond.static Lib.Math.min.name, Cond.code Lib.Math.min.name Lib.Math.min.code 2 (some .int), Cond.methodLink RJ7 150 arraycopyName, Cond.native arraycopyName, Cond.static arraycopyName, Cond.initialized "java/lang/System"]
def wsJx4a65c_grow_d5877 : List Cond := .code yJx4a65c_grow_d5877 cJx4a65c_grow_d5877 1 (some (.array (.object "java/lang/Object"))) :: ((wsJx4a65c_grow_d5877_r1 ++ wsJx4a65c_grow_d5877_r2) ++ wsJx4a65c0)
def wsJx4a65c_add_72be8_r1 : List Cond := [Cond.fieldLink RJx4a65c 48 "java/util/ArrayList" "size" "I", Cond.methodLink RJx4a65c 129 yJx4a65c_grow_d5877, Cond.instanceMethod yJx4a65c_grow_d5877, Cond.selects RJx4a65c yJx4a65c_grow_d5877 yJx4a65c_grow_d5877, Cond.initialized RJx4a65c, Cond.code yJx4a65c_grow_d5877 cJx4a65c_grow_d5877 1 (some (.array (.object "java/lang/Object"))), Cond.methodLink RJx4a65c 69 yJx4a65c_grow_92f84, Cond.instanceMethod yJx4a65c_grow_92f84, Cond.selects RJx4a65c yJx4a65c_grow_92f84 yJx4a65c_grow_92f84, Cond.code yJx4a65c_grow_92f84 cJx4a65c_grow_92f84 4 (some (.array (.object "java/lang/Object"))), Cond.fieldLink RJx4a65c 9 "java/util/ArrayList" "elementData" "[Ljava/lang/Object;", Cond.fieldLink RJx4a65c 39 "java/util/ArrayList" "DEFAULTCAPACITY_EMPTY_ELEMENTDATA" "[Ljava/lang/Object;", Cond.methodLink RJx4a65c 79 Lib.Math.max.name, Cond.static Lib.Math.max.name, Cond.initialized "java/lang/Math", Cond.code Lib.Math.max.name Lib.Math.max.code 2 (some .int), Cond.classLink RJx4a65c 7 "java/lang/Object", Cond.methodLink RJx4a65c 73 yJ8_newLength_cabcc, Cond.static yJ8_newLength_cabcc, Cond.initialized RJ8, Cond.code yJ8_newLength_cabcc cJ8_newLength_cabcc 4 (some .int), Cond.methodLink RJ8 194 Lib.Math.max.name, Cond.constant RJ8 200 (2147483639), Cond.methodLink RJ8 201 yJ8_hugeLength_7cf53]
def wsJx4a65c_add_72be8_r2 : List Cond := [Cond.static yJ8_hugeLength_7cf53, Cond.code yJ8_hugeLength_7cf53 cJ8_hugeLength_7cf53 3 (some .int), Cond.methodLink RJx4a65c 66 yJ7_copyOf_1904c, Cond.static yJ7_copyOf_1904c, Cond.initialized RJ7, Cond.code yJ7_copyOf_1904c cJ7_copyOf_1904c 2 (some (.array (.object "java/lang/Object"))), Cond.methodLink RJ7 86 ⟨"java/lang/Object", "getClass", "()Ljava/lang/Class;"⟩, Cond.selects "[Ljava/lang/Object;" ⟨"java/lang/Object", "getClass", "()Ljava/lang/Class;"⟩ ⟨"java/lang/Object", "getClass", "()Ljava/lang/Class;"⟩, Cond.instanceMethod ⟨"java/lang/Object", "getClass", "()Ljava/lang/Class;"⟩, Cond.native ⟨"java/lang/Object", "getClass", "()Ljava/lang/Class;"⟩, Cond.methodLink RJ7 300 yJ7_copyOf_6403c, Cond.static yJ7_copyOf_6403c, Cond.code yJ7_copyOf_6403c cJ7_copyOf_6403c 4 (some (.array (.object "java/lang/Object"))), Cond.classLink RJ7 110 "[Ljava/lang/Object;", Cond.classLink RJ7 2 "java/lang/Object", Cond.methodLink RJ7 304 Lib.Math.min.name, Cond.static Lib.Math.min.name, Cond.code Lib.Math.min.name Lib.Math.min.code 2 (some .int), Cond.methodLink RJ7 150 arraycopyName, Cond.native arraycopyName, Cond.static arraycopyName, Cond.initialized "java/lang/System"]
def wsJx4a65c_add_72be8 : List Cond := .code yJx4a65c_add_72be8 cJx4a65c_add_72be8 4 none :: ((wsJx4a65c_add_72be8_r1 ++ wsJx4a65c_add_72be8_r2) ++ wsJx4a65c0)
def wsJx4a65c_add_9ea2d_r1 : List Cond := [Cond.fieldLink RJx4a65c 63 "java/util/ArrayList" "modCount" "I", Cond.sameField "java/util/ArrayList" "java/util/AbstractList" "modCount" "I", Cond.fieldLink RJx4a65c 9 "java/util/ArrayList" "elementData" "[Ljava/lang/Object;", Cond.fieldLink RJx4a65c 48 "java/util/ArrayList" "size" "I", Cond.methodLink RJx4a65c 131 yJx4a65c_add_72be8, Cond.instanceMethod yJx4a65c_add_72be8, Cond.selects RJx4a65c yJx4a65c_add_72be8 yJx4a65c_add_72be8, Cond.initialized RJx4a65c, Cond.code yJx4a65c_add_72be8 cJx4a65c_add_72be8 4 none, Cond.methodLink RJx4a65c 129 yJx4a65c_grow_d5877, Cond.instanceMethod yJx4a65c_grow_d5877, Cond.selects RJx4a65c yJx4a65c_grow_d5877 yJx4a65c_grow_d5877, Cond.code yJx4a65c_grow_d5877 cJx4a65c_grow_d5877 1 (some (.array (.object "java/lang/Object"))), Cond.methodLink RJx4a65c 69 yJx4a65c_grow_92f84, Cond.instanceMethod yJx4a65c_grow_92f84, Cond.selects RJx4a65c yJx4a65c_grow_92f84 yJx4a65c_grow_92f84, Cond.code yJx4a65c_grow_92f84 cJx4a65c_grow_92f84 4 (some (.array (.object "java/lang/Object"))), Cond.fieldLink RJx4a65c 39 "java/util/ArrayList" "DEFAULTCAPACITY_EMPTY_ELEMENTDATA" "[Ljava/lang/Object;", Cond.methodLink RJx4a65c 79 Lib.Math.max.name, Cond.static Lib.Math.max.name, Cond.initialized "java/lang/Math", Cond.code Lib.Math.max.name Lib.Math.max.code 2 (some .int), Cond.classLink RJx4a65c 7 "java/lang/Object", Cond.methodLink RJx4a65c 73 yJ8_newLength_cabcc]
def wsJx4a65c_add_9ea2d_r2 : List Cond := [Cond.static yJ8_newLength_cabcc, Cond.initialized RJ8, Cond.code yJ8_newLength_cabcc cJ8_newLength_cabcc 4 (some .int), Cond.methodLink RJ8 194 Lib.Math.max.name, Cond.constant RJ8 200 (2147483639), Cond.methodLink RJ8 201 yJ8_hugeLength_7cf53, Cond.static yJ8_hugeLength_7cf53, Cond.code yJ8_hugeLength_7cf53 cJ8_hugeLength_7cf53 3 (some .int), Cond.methodLink RJx4a65c 66 yJ7_copyOf_1904c, Cond.static yJ7_copyOf_1904c, Cond.initialized RJ7, Cond.code yJ7_copyOf_1904c cJ7_copyOf_1904c 2 (some (.array (.object "java/lang/Object"))), Cond.methodLink RJ7 86 ⟨"java/lang/Object", "getClass", "()Ljava/lang/Class;"⟩, Cond.selects "[Ljava/lang/Object;" ⟨"java/lang/Object", "getClass", "()Ljava/lang/Class;"⟩ ⟨"java/lang/Object", "getClass", "()Ljava/lang/Class;"⟩, Cond.instanceMethod ⟨"java/lang/Object", "getClass", "()Ljava/lang/Class;"⟩, Cond.native ⟨"java/lang/Object", "getClass", "()Ljava/lang/Class;"⟩, Cond.methodLink RJ7 300 yJ7_copyOf_6403c, Cond.static yJ7_copyOf_6403c, Cond.code yJ7_copyOf_6403c cJ7_copyOf_6403c 4 (some (.array (.object "java/lang/Object"))), Cond.classLink RJ7 110 "[Ljava/lang/Object;", Cond.classLink RJ7 2 "java/lang/Object", Cond.methodLink RJ7 304 Lib.Math.min.name, Cond.static Lib.Math.min.name, Cond.code Lib.Math.min.name Lib.Math.min.code 2 (some .int)]
def wsJx4a65c_add_9ea2d_r3 : List Cond := [Cond.methodLink RJ7 150 arraycopyName, Cond.native arraycopyName, Cond.static arraycopyName, Cond.initialized "java/lang/System"]
def wsJx4a65c_add_9ea2d : List Cond := .code yJx4a65c_add_9ea2d cJx4a65c_add_9ea2d 2 (some .boolean) :: ((wsJx4a65c_add_9ea2d_r1 ++ (wsJx4a65c_add_9ea2d_r2 ++ wsJx4a65c_add_9ea2d_r3)) ++ wsJx4a65c0)
def wsX14_family_r1 : List Cond := [Cond.fieldLink RX14 35 "TransversaryModel" "thrown" "I", Cond.fieldLink RX14 20 "TransversaryModel" "families" "Ljava/util/ArrayList;", Cond.methodLink RX14 38 yJx4a65c_size_8abf5, Cond.instanceMethod yJx4a65c_size_8abf5, Cond.selects RJx4a65c yJx4a65c_size_8abf5 yJx4a65c_size_8abf5, Cond.initialized RJx4a65c, Cond.code yJx4a65c_size_8abf5 cJx4a65c_size_8abf5 1 (some .int), Cond.fieldLink RJx4a65c 48 "java/util/ArrayList" "size" "I", Cond.methodLink RX14 65 yX14_refuse, Cond.instanceMethod yX14_refuse, Cond.selects RX14 yX14_refuse yX14_refuse, Cond.initialized RX14, Cond.code yX14_refuse cX14_refuse 2 (some .int), Cond.methodLink RX14 78 yX14_empty, Cond.instanceMethod yX14_empty, Cond.selects RX14 yX14_empty yX14_empty, Cond.code yX14_empty cX14_empty 1 (some (.array .boolean)), Cond.arrayClass .boolean, Cond.methodLink RX14 46 yX14_all, Cond.instanceMethod yX14_all, Cond.selects RX14 yX14_all yX14_all, Cond.code yX14_all cX14_all 1 (some .int), Cond.fieldLink RX14 7 "TransversaryModel" "points" "I", Cond.methodLink RX14 82 yJx4a65c_add_9ea2d]
def wsX14_family_r2 : List Cond := [Cond.instanceMethod yJx4a65c_add_9ea2d, Cond.selects RJx4a65c yJx4a65c_add_9ea2d yJx4a65c_add_9ea2d, Cond.code yJx4a65c_add_9ea2d cJx4a65c_add_9ea2d 2 (some .boolean), Cond.fieldLink RJx4a65c 63 "java/util/ArrayList" "modCount" "I", Cond.sameField "java/util/ArrayList" "java/util/AbstractList" "modCount" "I", Cond.fieldLink RJx4a65c 9 "java/util/ArrayList" "elementData" "[Ljava/lang/Object;", Cond.methodLink RJx4a65c 131 yJx4a65c_add_72be8, Cond.instanceMethod yJx4a65c_add_72be8, Cond.selects RJx4a65c yJx4a65c_add_72be8 yJx4a65c_add_72be8, Cond.code yJx4a65c_add_72be8 cJx4a65c_add_72be8 4 none, Cond.methodLink RJx4a65c 129 yJx4a65c_grow_d5877, Cond.instanceMethod yJx4a65c_grow_d5877, Cond.selects RJx4a65c yJx4a65c_grow_d5877 yJx4a65c_grow_d5877, Cond.code yJx4a65c_grow_d5877 cJx4a65c_grow_d5877 1 (some (.array (.object "java/lang/Object"))), Cond.methodLink RJx4a65c 69 yJx4a65c_grow_92f84, Cond.instanceMethod yJx4a65c_grow_92f84, Cond.selects RJx4a65c yJx4a65c_grow_92f84 yJx4a65c_grow_92f84, Cond.code yJx4a65c_grow_92f84 cJx4a65c_grow_92f84 4 (some (.array (.object "java/lang/Object"))), Cond.fieldLink RJx4a65c 39 "java/util/ArrayList" "DEFAULTCAPACITY_EMPTY_ELEMENTDATA" "[Ljava/lang/Object;", Cond.methodLink RJx4a65c 79 Lib.Math.max.name, Cond.static Lib.Math.max.name, Cond.initialized "java/lang/Math", Cond.code Lib.Math.max.name Lib.Math.max.code 2 (some .int), Cond.classLink RJx4a65c 7 "java/lang/Object"]
def wsX14_family_r3 : List Cond := [Cond.methodLink RJx4a65c 73 yJ8_newLength_cabcc, Cond.static yJ8_newLength_cabcc, Cond.initialized RJ8, Cond.code yJ8_newLength_cabcc cJ8_newLength_cabcc 4 (some .int), Cond.methodLink RJ8 194 Lib.Math.max.name, Cond.constant RJ8 200 (2147483639), Cond.methodLink RJ8 201 yJ8_hugeLength_7cf53, Cond.static yJ8_hugeLength_7cf53, Cond.code yJ8_hugeLength_7cf53 cJ8_hugeLength_7cf53 3 (some .int), Cond.methodLink RJx4a65c 66 yJ7_copyOf_1904c, Cond.static yJ7_copyOf_1904c, Cond.initialized RJ7, Cond.code yJ7_copyOf_1904c cJ7_copyOf_1904c 2 (some (.array (.object "java/lang/Object"))), Cond.methodLink RJ7 86 ⟨"java/lang/Object", "getClass", "()Ljava/lang/Class;"⟩, Cond.selects "[Ljava/lang/Object;" ⟨"java/lang/Object", "getClass", "()Ljava/lang/Class;"⟩ ⟨"java/lang/Object", "getClass", "()Ljava/lang/Class;"⟩, Cond.instanceMethod ⟨"java/lang/Object", "getClass", "()Ljava/lang/Class;"⟩, Cond.native ⟨"java/lang/Object", "getClass", "()Ljava/lang/Class;"⟩, Cond.methodLink RJ7 300 yJ7_copyOf_6403c, Cond.static yJ7_copyOf_6403c, Cond.code yJ7_copyOf_6403c cJ7_copyOf_6403c 4 (some (.array (.object "java/lang/Object"))), Cond.classLink RJ7 110 "[Ljava/lang/Object;", Cond.classLink RJ7 2 "java/lang/Object", Cond.methodLink RJ7 304 Lib.Math.min.name, Cond.static Lib.Math.min.name]
def wsX14_family_r4 : List Cond := [Cond.code Lib.Math.min.name Lib.Math.min.code 2 (some .int), Cond.methodLink RJ7 150 arraycopyName, Cond.native arraycopyName, Cond.static arraycopyName, Cond.initialized "java/lang/System"]
def wsX14_family : List Cond := .code yX14_family cX14_family 1 (some .int) :: ((wsX14_family_r1 ++ (wsX14_family_r2 ++ (wsX14_family_r3 ++ wsX14_family_r4))) ++ wsX140 ++ wsJx4a65c0)
def wsJ15_checkIndex_7cf53 : List Cond := .code yJ15_checkIndex_7cf53 cJ15_checkIndex_7cf53 2 (some .int) :: ([.methodLink RJ15 105 yJ3_checkIndex_8e157, .static yJ3_checkIndex_8e157, .initialized RJ3, .code yJ3_checkIndex_8e157 cJ3_checkIndex_8e157 3 (some .int)])
def wsJx4a65c_elementData_915e3 : List Cond := .code yJx4a65c_elementData_915e3 cJx4a65c_elementData_915e3 2 (some (.object "java/lang/Object")) :: ([.fieldLink RJx4a65c 9 "java/util/ArrayList" "elementData" "[Ljava/lang/Object;"] ++ wsJx4a65c0)
def wsJx4a65c_get_915e3 : List Cond := .code yJx4a65c_get_915e3 cJx4a65c_get_915e3 2 (some (.object "java/lang/Object")) :: ([.fieldLink RJx4a65c 48 "java/util/ArrayList" "size" "I", .methodLink RJx4a65c 118 yJ15_checkIndex_7cf53, .static yJ15_checkIndex_7cf53, .initialized RJ15, .code yJ15_checkIndex_7cf53 cJ15_checkIndex_7cf53 2 (some .int), .methodLink RJ15 105 yJ3_checkIndex_8e157, .static yJ3_checkIndex_8e157, .initialized RJ3, .code yJ3_checkIndex_8e157 cJ3_checkIndex_8e157 3 (some .int), .methodLink RJx4a65c 123 yJx4a65c_elementData_915e3, .instanceMethod yJx4a65c_elementData_915e3, .selects RJx4a65c yJx4a65c_elementData_915e3 yJx4a65c_elementData_915e3, .initialized RJx4a65c, .code yJx4a65c_elementData_915e3 cJx4a65c_elementData_915e3 2 (some (.object "java/lang/Object")), .fieldLink RJx4a65c 9 "java/util/ArrayList" "elementData" "[Ljava/lang/Object;"] ++ wsJx4a65c0)
def wsX14_parts_r1 : List Cond := [Cond.fieldLink RX14 20 "TransversaryModel" "families" "Ljava/util/ArrayList;", Cond.classLink RX14 100 "[Z", Cond.fieldLink RX14 49 "TransversaryModel" "dead" "I", Cond.methodLink RX14 96 yJx4a65c_get_915e3, Cond.instanceMethod yJx4a65c_get_915e3, Cond.selects RJx4a65c yJx4a65c_get_915e3 yJx4a65c_get_915e3, Cond.initialized RJx4a65c, Cond.code yJx4a65c_get_915e3 cJx4a65c_get_915e3 2 (some (.object "java/lang/Object")), Cond.fieldLink RJx4a65c 48 "java/util/ArrayList" "size" "I", Cond.methodLink RJx4a65c 118 yJ15_checkIndex_7cf53, Cond.static yJ15_checkIndex_7cf53, Cond.initialized RJ15, Cond.code yJ15_checkIndex_7cf53 cJ15_checkIndex_7cf53 2 (some .int), Cond.methodLink RJ15 105 yJ3_checkIndex_8e157, Cond.static yJ3_checkIndex_8e157, Cond.initialized RJ3, Cond.code yJ3_checkIndex_8e157 cJ3_checkIndex_8e157 3 (some .int), Cond.methodLink RJx4a65c 123 yJx4a65c_elementData_915e3, Cond.instanceMethod yJx4a65c_elementData_915e3, Cond.selects RJx4a65c yJx4a65c_elementData_915e3 yJx4a65c_elementData_915e3, Cond.code yJx4a65c_elementData_915e3 cJx4a65c_elementData_915e3 2 (some (.object "java/lang/Object")), Cond.fieldLink RJx4a65c 9 "java/util/ArrayList" "elementData" "[Ljava/lang/Object;", Cond.methodLink RX14 78 yX14_empty, Cond.instanceMethod yX14_empty]
def wsX14_parts_r2 : List Cond := [Cond.selects RX14 yX14_empty yX14_empty, Cond.initialized RX14, Cond.code yX14_empty cX14_empty 1 (some (.array .boolean)), Cond.arrayClass .boolean, Cond.methodLink RX14 46 yX14_all, Cond.instanceMethod yX14_all, Cond.selects RX14 yX14_all yX14_all, Cond.code yX14_all cX14_all 1 (some .int), Cond.fieldLink RX14 7 "TransversaryModel" "points" "I"]
def wsX14_parts : List Cond := .code yX14_parts cX14_parts 5 (some (.array .boolean)) :: ((wsX14_parts_r1 ++ wsX14_parts_r2) ++ wsX140 ++ wsJx4a65c0)
def wsX14_game_r1 : List Cond := [Cond.fieldLink RX14 35 "TransversaryModel" "thrown" "I", Cond.arrayClass .byte, Cond.fieldLink RX14 7 "TransversaryModel" "points" "I", Cond.methodLink RX14 90 yX14_isFamily, Cond.instanceMethod yX14_isFamily, Cond.selects RX14 yX14_isFamily yX14_isFamily, Cond.initialized RX14, Cond.code yX14_isFamily cX14_isFamily 2 (some .boolean), Cond.fieldLink RX14 20 "TransversaryModel" "families" "Ljava/util/ArrayList;", Cond.methodLink RX14 38 yJx4a65c_size_8abf5, Cond.instanceMethod yJx4a65c_size_8abf5, Cond.selects RJx4a65c yJx4a65c_size_8abf5 yJx4a65c_size_8abf5, Cond.initialized RJx4a65c, Cond.code yJx4a65c_size_8abf5 cJx4a65c_size_8abf5 1 (some .int), Cond.fieldLink RJx4a65c 48 "java/util/ArrayList" "size" "I", Cond.methodLink RX14 42 yX14_is, Cond.static yX14_is, Cond.code yX14_is cX14_is 3 (some .boolean), Cond.methodLink RX14 65 yX14_refuse, Cond.instanceMethod yX14_refuse, Cond.selects RX14 yX14_refuse yX14_refuse, Cond.code yX14_refuse cX14_refuse 2 (some .int), Cond.methodLink RX14 105 yX14_parts, Cond.instanceMethod yX14_parts]
def wsX14_game_r2 : List Cond := [Cond.selects RX14 yX14_parts yX14_parts, Cond.code yX14_parts cX14_parts 5 (some (.array .boolean)), Cond.classLink RX14 100 "[Z", Cond.fieldLink RX14 49 "TransversaryModel" "dead" "I", Cond.methodLink RX14 96 yJx4a65c_get_915e3, Cond.instanceMethod yJx4a65c_get_915e3, Cond.selects RJx4a65c yJx4a65c_get_915e3 yJx4a65c_get_915e3, Cond.code yJx4a65c_get_915e3 cJx4a65c_get_915e3 2 (some (.object "java/lang/Object")), Cond.methodLink RJx4a65c 118 yJ15_checkIndex_7cf53, Cond.static yJ15_checkIndex_7cf53, Cond.initialized RJ15, Cond.code yJ15_checkIndex_7cf53 cJ15_checkIndex_7cf53 2 (some .int), Cond.methodLink RJ15 105 yJ3_checkIndex_8e157, Cond.static yJ3_checkIndex_8e157, Cond.initialized RJ3, Cond.code yJ3_checkIndex_8e157 cJ3_checkIndex_8e157 3 (some .int), Cond.methodLink RJx4a65c 123 yJx4a65c_elementData_915e3, Cond.instanceMethod yJx4a65c_elementData_915e3, Cond.selects RJx4a65c yJx4a65c_elementData_915e3 yJx4a65c_elementData_915e3, Cond.code yJx4a65c_elementData_915e3 cJx4a65c_elementData_915e3 2 (some (.object "java/lang/Object")), Cond.fieldLink RJx4a65c 9 "java/util/ArrayList" "elementData" "[Ljava/lang/Object;", Cond.methodLink RX14 78 yX14_empty, Cond.instanceMethod yX14_empty, Cond.selects RX14 yX14_empty yX14_empty]
def wsX14_game_r3 : List Cond := [Cond.code yX14_empty cX14_empty 1 (some (.array .boolean)), Cond.arrayClass .boolean, Cond.methodLink RX14 46 yX14_all, Cond.instanceMethod yX14_all, Cond.selects RX14 yX14_all yX14_all, Cond.code yX14_all cX14_all 1 (some .int), Cond.methodLink RX14 52 yX14_alive, Cond.instanceMethod yX14_alive, Cond.selects RX14 yX14_alive yX14_alive, Cond.code yX14_alive cX14_alive 1 (some .int), Cond.methodLink RX14 218 yX14_canWin, Cond.instanceMethod yX14_canWin, Cond.selects RX14 yX14_canWin yX14_canWin, Cond.code yX14_canWin cX14_canWin 10 (some .boolean), Cond.methodLink RX14 215 yX14_hasPart, Cond.instanceMethod yX14_hasPart, Cond.selects RX14 yX14_hasPart yX14_hasPart, Cond.code yX14_hasPart cX14_hasPart 4 (some .boolean), Cond.methodLink RX14 61 yX14_isIn, Cond.static yX14_isIn, Cond.code yX14_isIn cX14_isIn 2 (some .boolean)]
def wsX14_game : List Cond := .code yX14_game cX14_game 5 (some .int) :: ((wsX14_game_r1 ++ (wsX14_game_r2 ++ wsX14_game_r3)) ++ wsX140 ++ wsJx4a65c0)
def wsJ9_max_7cf53 : List Cond := .code yJ9_max_7cf53 cJ9_max_7cf53 2 (some .int) :: ([])
def wsL_ground_r1 : List Cond := [Cond.classLink RL 19 "java/lang/IllegalArgumentException", Cond.methodLink RL 7 yX11_ground, Cond.instanceMethod yX11_ground, Cond.selects RX11 yX11_ground yX11_ground, Cond.initialized RX11, Cond.code yX11_ground cX11_ground 2 (some .int), Cond.fieldLink RX11 12 "Transversary" "points" "LTransversary$Points;", Cond.fieldLink RX11 108 "Transversary" "familyCount" "I", Cond.methodLink RX11 104 yX11_checkRange, Cond.instanceMethod yX11_checkRange, Cond.selects RX11 yX11_checkRange yX11_checkRange, Cond.code yX11_checkRange cX11_checkRange 4 none, Cond.classLink RX11 213 "java/lang/IllegalArgumentException", Cond.initialized "java/lang/IllegalArgumentException", Cond.methodLink RX11 100 yX3_begin, Cond.instanceMethod yX3_begin, Cond.selects RX3 yX3_begin yX3_begin, Cond.initialized RX3, Cond.code yX3_begin cX3_begin 3 none, Cond.fieldLink RX3 15 "Transversary$Points" "many" "I", Cond.fieldLink RX3 23 "Transversary$Points" "alive" "I", Cond.fieldLink RX3 9 "Transversary$Points" "weights" "[I", Cond.methodLink RX3 19 yX3_howManySets, Cond.instanceMethod yX3_howManySets]
def wsL_ground_r2 : List Cond := [Cond.selects RX3 yX3_howManySets yX3_howManySets, Cond.code yX3_howManySets cX3_howManySets 1 (some .int), Cond.methodLink RX11 112 yX3_howManySets]
def wsL_ground : List Cond := .codeWith yL_ground cL_ground 4 (some .int) [(0, 10, 13, 19)] :: ((wsL_ground_r1 ++ wsL_ground_r2) ++ wsX120 ++ wsX110 ++ wsX30 ++ ([] : List Cond))
def wsL_die_r1 : List Cond := [Cond.classLink RL 25 "java/lang/IndexOutOfBoundsException", Cond.methodLink RL 27 yX11_die, Cond.instanceMethod yX11_die, Cond.selects RX11 yX11_die yX11_die, Cond.initialized RX11, Cond.code yX11_die cX11_die 3 (some .int), Cond.fieldLink RX11 12 "Transversary" "points" "LTransversary$Points;", Cond.methodLink RX11 116 yX11_checkPoint, Cond.instanceMethod yX11_checkPoint, Cond.selects RX11 yX11_checkPoint yX11_checkPoint, Cond.code yX11_checkPoint cX11_checkPoint 2 none, Cond.classLink RX11 386 "java/lang/IndexOutOfBoundsException", Cond.initialized "java/lang/IndexOutOfBoundsException", Cond.methodLink RX11 394 yX3_knows, Cond.instanceMethod yX3_knows, Cond.selects RX3 yX3_knows yX3_knows, Cond.initialized RX3, Cond.code yX3_knows cX3_knows 2 (some .boolean), Cond.fieldLink RX3 15 "Transversary$Points" "many" "I", Cond.fieldLink RX3 9 "Transversary$Points" "weights" "[I", Cond.methodLink RX11 127 yX3_tellDeath, Cond.instanceMethod yX3_tellDeath, Cond.selects RX3 yX3_tellDeath yX3_tellDeath, Cond.code yX3_tellDeath cX3_tellDeath 3 none]
def wsL_die_r2 : List Cond := [Cond.fieldLink RX3 23 "Transversary$Points" "alive" "I", Cond.methodLink RX3 30 yX3_knows, Cond.methodLink RX11 131 yX3_howManyAlive, Cond.instanceMethod yX3_howManyAlive, Cond.selects RX3 yX3_howManyAlive yX3_howManyAlive, Cond.code yX3_howManyAlive cX3_howManyAlive 1 (some .int), Cond.static yX11_sizeOf, Cond.code yX11_sizeOf cX11_sizeOf 1 (some .int), Cond.methodLink RX11 487 yJ6_bitCount_0f7a4, Cond.static yJ6_bitCount_0f7a4, Cond.initialized RJ6, Cond.code yJ6_bitCount_0f7a4 cJ6_bitCount_0f7a4 1 (some .int), Cond.constant RJ6 265 (1431655765), Cond.constant RJ6 266 (858993459), Cond.constant RJ6 267 (252645135)]
def wsL_die : List Cond := .codeWith yL_die cL_die 5 (some .int) [(0, 11, 14, 25)] :: ((wsL_die_r1 ++ wsL_die_r2) ++ wsX120 ++ wsX110 ++ wsX30 ++ ([] : List Cond))
def wsL_family_r1 : List Cond := [Cond.classLink RL 35 "java/lang/IllegalStateException", Cond.methodLink RL 31 yX11_family, Cond.instanceMethod yX11_family, Cond.selects RX11 yX11_family yX11_family, Cond.initialized RX11, Cond.code yX11_family cX11_family 1 (some .int), Cond.fieldLink RX11 30 "Transversary" "made" "LTransversary$Sets;", Cond.methodLink RX11 134 yX11_checkRoom, Cond.instanceMethod yX11_checkRoom, Cond.selects RX11 yX11_checkRoom yX11_checkRoom, Cond.code yX11_checkRoom cX11_checkRoom 1 none, Cond.classLink RX11 158 "java/lang/IllegalStateException", Cond.initialized "java/lang/IllegalStateException", Cond.fieldLink RX11 108 "Transversary" "familyCount" "I", Cond.methodLink RX11 137 yX7_clear, Cond.instanceMethod yX7_clear, Cond.selects RX7 yX7_clear yX7_clear, Cond.initialized RX7, Cond.code yX7_clear cX7_clear 2 none, Cond.fieldLink RX7 9 "Transversary$Sets" "isHeld" "[Z", Cond.fieldLink RX7 19 "Transversary$Sets" "many" "I", Cond.methodLink RX11 140 yX11_keep, Cond.instanceMethod yX11_keep, Cond.selects RX11 yX11_keep yX11_keep]
def wsL_family_r2 : List Cond := [Cond.code yX11_keep cX11_keep 2 (some .int), Cond.fieldLink RX11 18 "Transversary" "families" "[LTransversary$Sets;", Cond.methodLink RX11 155 yX7_many, Cond.instanceMethod yX7_many, Cond.selects RX7 yX7_many yX7_many, Cond.code yX7_many cX7_many 1 (some .int), Cond.methodLink RX11 403 yX7_copy, Cond.instanceMethod yX7_copy, Cond.selects RX7 yX7_copy yX7_copy, Cond.code yX7_copy cX7_copy 3 none, Cond.methodLink RX7 23 yX7_clear, Cond.methodLink RX7 26 yX7_many, Cond.methodLink RX7 29 yX7_at, Cond.instanceMethod yX7_at, Cond.selects RX7 yX7_at yX7_at, Cond.code yX7_at cX7_at 2 (some .int), Cond.fieldLink RX7 15 "Transversary$Sets" "row" "[I", Cond.methodLink RX7 33 yX7_put, Cond.instanceMethod yX7_put, Cond.selects RX7 yX7_put yX7_put, Cond.code yX7_put cX7_put 3 none]
def wsL_family : List Cond := .codeWith yL_family cL_family 3 (some .int) [(0, 9, 12, 35)] :: ((wsL_family_r1 ++ wsL_family_r2) ++ wsX120 ++ wsX110 ++ wsX70 ++ ([] : List Cond))
def wsL_game_r1 : List Cond := [Cond.classLink RL 25 "java/lang/IndexOutOfBoundsException", Cond.methodLink RL 93 yX11_game, Cond.instanceMethod yX11_game, Cond.selects RX11 yX11_game yX11_game, Cond.initialized RX11, Cond.code yX11_game cX11_game 2 (some .int), Cond.fieldLink RX11 52 "Transversary" "rings" "LTransversary$Rings;", Cond.fieldLink RX11 12 "Transversary" "points" "LTransversary$Points;", Cond.methodLink RX11 168 yX11_partsOf, Cond.instanceMethod yX11_partsOf, Cond.selects RX11 yX11_partsOf yX11_partsOf, Cond.code yX11_partsOf cX11_partsOf 2 (some (.object "Transversary$Sets")), Cond.fieldLink RX11 68 "Transversary" "makers" "LTransversary$Makers;", Cond.fieldLink RX11 23 "Transversary" "parts" "LTransversary$Sets;", Cond.methodLink RX11 144 yX11_familyOf, Cond.instanceMethod yX11_familyOf, Cond.selects RX11 yX11_familyOf yX11_familyOf, Cond.code yX11_familyOf cX11_familyOf 2 (some (.object "Transversary$Sets")), Cond.classLink RX11 386 "java/lang/IndexOutOfBoundsException", Cond.initialized "java/lang/IndexOutOfBoundsException", Cond.fieldLink RX11 108 "Transversary" "familyCount" "I", Cond.fieldLink RX11 18 "Transversary" "families" "[LTransversary$Sets;", Cond.methodLink RX11 171 yX3_alive, Cond.instanceMethod yX3_alive]
def wsL_game_r2 : List Cond := [Cond.selects RX3 yX3_alive yX3_alive, Cond.initialized RX3, Cond.code yX3_alive cX3_alive 1 (some .int), Cond.fieldLink RX3 23 "Transversary$Points" "alive" "I", Cond.methodLink RX11 391 yX1_partsInto, Cond.instanceMethod yX1_partsInto, Cond.selects RX1 yX1_partsInto yX1_partsInto, Cond.initialized RX1, Cond.code yX1_partsInto cX1_partsInto 5 none, Cond.methodLink RX1 22 yX7_clear, Cond.instanceMethod yX7_clear, Cond.selects RX7 yX7_clear yX7_clear, Cond.initialized RX7, Cond.code yX7_clear cX7_clear 2 none, Cond.fieldLink RX7 9 "Transversary$Sets" "isHeld" "[Z", Cond.fieldLink RX7 19 "Transversary$Sets" "many" "I", Cond.methodLink RX1 25 yX7_many, Cond.instanceMethod yX7_many, Cond.selects RX7 yX7_many yX7_many, Cond.code yX7_many cX7_many 1 (some .int), Cond.methodLink RX1 29 yX7_at, Cond.instanceMethod yX7_at, Cond.selects RX7 yX7_at yX7_at, Cond.code yX7_at cX7_at 2 (some .int)]
def wsL_game_r3 : List Cond := [Cond.fieldLink RX7 15 "Transversary$Sets" "row" "[I", Cond.methodLink RX1 33 yX7_put, Cond.instanceMethod yX7_put, Cond.selects RX7 yX7_put yX7_put, Cond.code yX7_put cX7_put 3 none, Cond.methodLink RX11 265 yX5_winningPoint, Cond.instanceMethod yX5_winningPoint, Cond.selects RX5 yX5_winningPoint yX5_winningPoint, Cond.initialized RX5, Cond.code yX5_winningPoint cX5_winningPoint 4 (some .int), Cond.methodLink RX5 85 yX5_playBackwards, Cond.instanceMethod yX5_playBackwards, Cond.selects RX5 yX5_playBackwards yX5_playBackwards, Cond.code yX5_playBackwards cX5_playBackwards 6 none, Cond.fieldLink RX5 21 "Transversary$Rings" "wins" "[J", Cond.static yX11_isIn, Cond.code yX11_isIn cX11_isIn 2 (some .boolean), Cond.methodLink RX5 91 yX7_hasWithin, Cond.instanceMethod yX7_hasWithin, Cond.selects RX7 yX7_hasWithin yX7_hasWithin, Cond.code yX7_hasWithin cX7_hasWithin 4 (some .boolean), Cond.methodLink RX7 29 yX7_at, Cond.static yX11_sizeOf, Cond.code yX11_sizeOf cX11_sizeOf 1 (some .int)]
def wsL_game_r4 : List Cond := [Cond.methodLink RX11 487 yJ6_bitCount_0f7a4, Cond.static yJ6_bitCount_0f7a4, Cond.initialized RJ6, Cond.code yJ6_bitCount_0f7a4 cJ6_bitCount_0f7a4 1 (some .int), Cond.constant RJ6 265 (1431655765), Cond.constant RJ6 266 (858993459), Cond.constant RJ6 267 (252645135), Cond.methodLink RX5 94 yX5_canWin, Cond.instanceMethod yX5_canWin, Cond.selects RX5 yX5_canWin yX5_canWin, Cond.code yX5_canWin cX5_canWin 10 (some .boolean), Cond.methodLink RX5 88 yX5_isWin, Cond.instanceMethod yX5_isWin, Cond.selects RX5 yX5_isWin yX5_isWin, Cond.code yX5_isWin cX5_isWin 3 (some .boolean), Cond.methodLink RX5 98 yX5_placeOf, Cond.static yX5_placeOf, Cond.code yX5_placeOf cX5_placeOf 2 (some .int)]
def wsL_game : List Cond := .codeWith yL_game cL_game 4 (some .int) [(0, 10, 13, 25)] :: ((wsL_game_r1 ++ (wsL_game_r2 ++ (wsL_game_r3 ++ wsL_game_r4))) ++ wsX120 ++ wsX110 ++ wsX30 ++ wsX70 ++ wsX50 ++ ([] : List Cond))
theorem dX0_init_0 : decode cX0_init 0 = .ok (.aload_n 0, 1) := by decide +kernel
theorem dX0_init_1 : decode cX0_init 1 = .ok (.invokespecial 3, 3) := by decide +kernel
theorem dX0_init_4 : decode cX0_init 4 = .ok (.aload_n 0, 1) := by decide +kernel
theorem dX0_init_5 : decode cX0_init 5 = .ok (.new 9, 3) := by decide +kernel
theorem dX0_init_8 : decode cX0_init 8 = .ok (.dup, 1) := by decide +kernel
theorem dX0_init_9 : decode cX0_init 9 = .ok (.invokespecial 11, 3) := by decide +kernel
theorem dX0_init_12 : decode cX0_init 12 = .ok (.putfield 12, 3) := by decide +kernel
theorem dX0_init_15 : decode cX0_init 15 = .ok (.aload_n 0, 1) := by decide +kernel
theorem dX0_init_16 : decode cX0_init 16 = .ok (.new 9, 3) := by decide +kernel
theorem dX0_init_19 : decode cX0_init 19 = .ok (.dup, 1) := by decide +kernel
theorem dX0_init_20 : decode cX0_init 20 = .ok (.invokespecial 11, 3) := by decide +kernel
theorem dX0_init_23 : decode cX0_init 23 = .ok (.putfield 18, 3) := by decide +kernel
theorem dX0_init_26 : decode cX0_init 26 = .ok (.aload_n 0, 1) := by decide +kernel
theorem dX0_init_27 : decode cX0_init 27 = .ok (.new 9, 3) := by decide +kernel
theorem dX0_init_30 : decode cX0_init 30 = .ok (.dup, 1) := by decide +kernel
theorem dX0_init_31 : decode cX0_init 31 = .ok (.invokespecial 11, 3) := by decide +kernel
theorem dX0_init_34 : decode cX0_init 34 = .ok (.putfield 21, 3) := by decide +kernel
theorem dX0_init_37 : decode cX0_init 37 = .ok (.aload_n 0, 1) := by decide +kernel
theorem dX0_init_38 : decode cX0_init 38 = .ok (.sipush 128, 3) := by decide +kernel
theorem dX0_init_41 : decode cX0_init 41 = .ok (.newarray .boolean, 2) := by decide +kernel
theorem dX0_init_43 : decode cX0_init 43 = .ok (.putfield 24, 3) := by decide +kernel
theorem dX0_init_46 : decode cX0_init 46 = .ok (.aload_n 0, 1) := by decide +kernel
theorem dX0_init_47 : decode cX0_init 47 = .ok (.sipush 128, 3) := by decide +kernel
theorem dX0_init_50 : decode cX0_init 50 = .ok (.newarray .int, 2) := by decide +kernel
theorem dX0_init_52 : decode cX0_init 52 = .ok (.putfield 28, 3) := by decide +kernel
theorem dX0_init_55 : decode cX0_init 55 = .ok (.return_, 1) := by decide +kernel
theorem dX1_init_0 : decode cX1_init 0 = .ok (.aload_n 0, 1) := by decide +kernel
theorem dX1_init_1 : decode cX1_init 1 = .ok (.invokespecial 3, 3) := by decide +kernel
theorem dX1_init_4 : decode cX1_init 4 = .ok (.aload_n 0, 1) := by decide +kernel
theorem dX1_init_5 : decode cX1_init 5 = .ok (.new 9, 3) := by decide +kernel
theorem dX1_init_8 : decode cX1_init 8 = .ok (.dup, 1) := by decide +kernel
theorem dX1_init_9 : decode cX1_init 9 = .ok (.invokespecial 11, 3) := by decide +kernel
theorem dX1_init_12 : decode cX1_init 12 = .ok (.putfield 12, 3) := by decide +kernel
theorem dX1_init_15 : decode cX1_init 15 = .ok (.aload_n 0, 1) := by decide +kernel
theorem dX1_init_16 : decode cX1_init 16 = .ok (.aload_n 1, 1) := by decide +kernel
theorem dX1_init_17 : decode cX1_init 17 = .ok (.putfield 18, 3) := by decide +kernel
theorem dX1_init_20 : decode cX1_init 20 = .ok (.return_, 1) := by decide +kernel
set_option maxRecDepth 20000 in
theorem ggX1_partsInto_X7_clear : GoodIn wsX1_partsInto wsX7_clear := goodIn_r _ [5, 6, 7, 21, 22, 23] (by decide +kernel) (by decide +kernel)
set_option maxRecDepth 20000 in
theorem gX1_partsInto_X7_clear : GoodIn wsX1_partsInto (wsV RX1 22 RX7 yX7_clear wsX7_clear) := goodIn_app (goodIn_of _ (by decide +kernel)) ggX1_partsInto_X7_clear
set_option maxRecDepth 20000 in
theorem ggX1_partsInto_X7_many : GoodIn wsX1_partsInto wsX7_many := goodIn_r _ [11, 7, 21, 22, 23] (by decide +kernel) (by decide +kernel)
set_option maxRecDepth 20000 in
theorem gX1_partsInto_X7_many : GoodIn wsX1_partsInto (wsV RX1 25 RX7 yX7_many wsX7_many) := goodIn_app (goodIn_of _ (by decide +kernel)) ggX1_partsInto_X7_many
theorem dX1_partsInto_0 : decode cX1_partsInto 0 = .ok (.aload_n 1, 1) := by decide +kernel
theorem dX1_partsInto_1 : decode cX1_partsInto 1 = .ok (.invokevirtual 22, 3) := by decide +kernel
theorem dX1_partsInto_4 : decode cX1_partsInto 4 = .ok (.iconst 0, 1) := by decide +kernel
theorem dX1_partsInto_5 : decode cX1_partsInto 5 = .ok (.istore 4, 2) := by decide +kernel
theorem dX1_partsInto_7 : decode cX1_partsInto 7 = .ok (.iload 4, 2) := by decide +kernel
theorem dX1_partsInto_9 : decode cX1_partsInto 9 = .ok (.aload_n 2, 1) := by decide +kernel
theorem dX1_partsInto_10 : decode cX1_partsInto 10 = .ok (.invokevirtual 25, 3) := by decide +kernel
theorem dX1_partsInto_13 : decode cX1_partsInto 13 = .ok (.if_icmp .ge 21, 3) := by decide +kernel
theorem dX1_partsInto_16 : decode cX1_partsInto 16 = .ok (.aload_n 1, 1) := by decide +kernel
theorem dX1_partsInto_17 : decode cX1_partsInto 17 = .ok (.aload_n 2, 1) := by decide +kernel
theorem dX1_partsInto_18 : decode cX1_partsInto 18 = .ok (.iload 4, 2) := by decide +kernel
theorem dX1_partsInto_20 : decode cX1_partsInto 20 = .ok (.invokevirtual 29, 3) := by decide +kernel
theorem dX1_partsInto_23 : decode cX1_partsInto 23 = .ok (.iload_n 3, 1) := by decide +kernel
theorem dX1_partsInto_24 : decode cX1_partsInto 24 = .ok (.iand, 1) := by decide +kernel
theorem dX1_partsInto_25 : decode cX1_partsInto 25 = .ok (.invokevirtual 33, 3) := by decide +kernel
theorem dX1_partsInto_28 : decode cX1_partsInto 28 = .ok (.iinc 4 1, 3) := by decide +kernel
theorem dX1_partsInto_31 : decode cX1_partsInto 31 = .ok (.goto (-24), 3) := by decide +kernel
theorem dX1_partsInto_34 : decode cX1_partsInto 34 = .ok (.return_, 1) := by decide +kernel
theorem dX2_init_0 : decode cX2_init 0 = .ok (.aload_n 0, 1) := by decide +kernel
theorem dX2_init_1 : decode cX2_init 1 = .ok (.invokespecial 3, 3) := by decide +kernel
theorem dX2_init_4 : decode cX2_init 4 = .ok (.aload_n 0, 1) := by decide +kernel
theorem dX2_init_5 : decode cX2_init 5 = .ok (.bipush 40, 2) := by decide +kernel
theorem dX2_init_7 : decode cX2_init 7 = .ok (.newarray .int, 2) := by decide +kernel
theorem dX2_init_9 : decode cX2_init 9 = .ok (.putfield 9, 3) := by decide +kernel
theorem dX2_init_12 : decode cX2_init 12 = .ok (.aload_n 0, 1) := by decide +kernel
theorem dX2_init_13 : decode cX2_init 13 = .ok (.bipush 40, 2) := by decide +kernel
theorem dX2_init_15 : decode cX2_init 15 = .ok (.newarray .int, 2) := by decide +kernel
theorem dX2_init_17 : decode cX2_init 17 = .ok (.putfield 15, 3) := by decide +kernel
theorem dX2_init_20 : decode cX2_init 20 = .ok (.aload_n 0, 1) := by decide +kernel
theorem dX2_init_21 : decode cX2_init 21 = .ok (.bipush 40, 2) := by decide +kernel
theorem dX2_init_23 : decode cX2_init 23 = .ok (.newarray .int, 2) := by decide +kernel
theorem dX2_init_25 : decode cX2_init 25 = .ok (.putfield 18, 3) := by decide +kernel
theorem dX2_init_28 : decode cX2_init 28 = .ok (.aload_n 0, 1) := by decide +kernel
theorem dX2_init_29 : decode cX2_init 29 = .ok (.bipush 40, 2) := by decide +kernel
theorem dX2_init_31 : decode cX2_init 31 = .ok (.newarray .int, 2) := by decide +kernel
theorem dX2_init_33 : decode cX2_init 33 = .ok (.putfield 21, 3) := by decide +kernel
theorem dX2_init_36 : decode cX2_init 36 = .ok (.aload_n 0, 1) := by decide +kernel
theorem dX2_init_37 : decode cX2_init 37 = .ok (.bipush 40, 2) := by decide +kernel
theorem dX2_init_39 : decode cX2_init 39 = .ok (.newarray .int, 2) := by decide +kernel
theorem dX2_init_41 : decode cX2_init 41 = .ok (.putfield 24, 3) := by decide +kernel
theorem dX2_init_44 : decode cX2_init 44 = .ok (.return_, 1) := by decide +kernel
theorem dX3_init_0 : decode cX3_init 0 = .ok (.aload_n 0, 1) := by decide +kernel
theorem dX3_init_1 : decode cX3_init 1 = .ok (.invokespecial 3, 3) := by decide +kernel
theorem dX3_init_4 : decode cX3_init 4 = .ok (.aload_n 0, 1) := by decide +kernel
theorem dX3_init_5 : decode cX3_init 5 = .ok (.bipush 7, 2) := by decide +kernel
theorem dX3_init_7 : decode cX3_init 7 = .ok (.newarray .int, 2) := by decide +kernel
theorem dX3_init_9 : decode cX3_init 9 = .ok (.putfield 9, 3) := by decide +kernel
theorem dX3_init_12 : decode cX3_init 12 = .ok (.return_, 1) := by decide +kernel
set_option maxRecDepth 20000 in
theorem ggX3_begin_X3_howManySets : GoodIn wsX3_begin wsX3_howManySets := goodIn_r _ [8, 1, 9, 10, 11] (by decide +kernel) (by decide +kernel)
set_option maxRecDepth 20000 in
theorem gX3_begin_X3_howManySets : GoodIn wsX3_begin (wsV RX3 19 RX3 yX3_howManySets wsX3_howManySets) := goodIn_app (goodIn_of _ (by decide +kernel)) ggX3_begin_X3_howManySets
theorem dX3_begin_0 : decode cX3_begin 0 = .ok (.aload_n 0, 1) := by decide +kernel
theorem dX3_begin_1 : decode cX3_begin 1 = .ok (.iload_n 1, 1) := by decide +kernel
theorem dX3_begin_2 : decode cX3_begin 2 = .ok (.putfield 15, 3) := by decide +kernel
theorem dX3_begin_5 : decode cX3_begin 5 = .ok (.aload_n 0, 1) := by decide +kernel
theorem dX3_begin_6 : decode cX3_begin 6 = .ok (.aload_n 0, 1) := by decide +kernel
theorem dX3_begin_7 : decode cX3_begin 7 = .ok (.invokevirtual 19, 3) := by decide +kernel
theorem dX3_begin_10 : decode cX3_begin 10 = .ok (.iconst 1, 1) := by decide +kernel
theorem dX3_begin_11 : decode cX3_begin 11 = .ok (.isub, 1) := by decide +kernel
theorem dX3_begin_12 : decode cX3_begin 12 = .ok (.putfield 23, 3) := by decide +kernel
theorem dX3_begin_15 : decode cX3_begin 15 = .ok (.iconst 0, 1) := by decide +kernel
theorem dX3_begin_16 : decode cX3_begin 16 = .ok (.istore_n 2, 1) := by decide +kernel
theorem dX3_begin_17 : decode cX3_begin 17 = .ok (.iload_n 2, 1) := by decide +kernel
theorem dX3_begin_18 : decode cX3_begin 18 = .ok (.aload_n 0, 1) := by decide +kernel
theorem dX3_begin_19 : decode cX3_begin 19 = .ok (.getfield 9, 3) := by decide +kernel
theorem dX3_begin_22 : decode cX3_begin 22 = .ok (.arraylength, 1) := by decide +kernel
theorem dX3_begin_23 : decode cX3_begin 23 = .ok (.if_icmp .ge 16, 3) := by decide +kernel
theorem dX3_begin_26 : decode cX3_begin 26 = .ok (.aload_n 0, 1) := by decide +kernel
theorem dX3_begin_27 : decode cX3_begin 27 = .ok (.getfield 9, 3) := by decide +kernel
theorem dX3_begin_30 : decode cX3_begin 30 = .ok (.iload_n 2, 1) := by decide +kernel
theorem dX3_begin_31 : decode cX3_begin 31 = .ok (.iconst 1, 1) := by decide +kernel
theorem dX3_begin_32 : decode cX3_begin 32 = .ok (.iastore, 1) := by decide +kernel
theorem dX3_begin_33 : decode cX3_begin 33 = .ok (.iinc 2 1, 3) := by decide +kernel
theorem dX3_begin_36 : decode cX3_begin 36 = .ok (.goto (-19), 3) := by decide +kernel
theorem dX3_begin_39 : decode cX3_begin 39 = .ok (.return_, 1) := by decide +kernel
theorem dX3_alive_0 : decode cX3_alive 0 = .ok (.aload_n 0, 1) := by decide +kernel
theorem dX3_alive_1 : decode cX3_alive 1 = .ok (.getfield 23, 3) := by decide +kernel
theorem dX3_alive_4 : decode cX3_alive 4 = .ok (.ireturn, 1) := by decide +kernel
theorem dX3_howManySets_0 : decode cX3_howManySets 0 = .ok (.iconst 1, 1) := by decide +kernel
theorem dX3_howManySets_1 : decode cX3_howManySets 1 = .ok (.aload_n 0, 1) := by decide +kernel
theorem dX3_howManySets_2 : decode cX3_howManySets 2 = .ok (.getfield 15, 3) := by decide +kernel
theorem dX3_howManySets_5 : decode cX3_howManySets 5 = .ok (.ishl, 1) := by decide +kernel
theorem dX3_howManySets_6 : decode cX3_howManySets 6 = .ok (.ireturn, 1) := by decide +kernel
theorem dX3_howManyAlive_0 : decode cX3_howManyAlive 0 = .ok (.aload_n 0, 1) := by decide +kernel
theorem dX3_howManyAlive_1 : decode cX3_howManyAlive 1 = .ok (.getfield 23, 3) := by decide +kernel
theorem dX3_howManyAlive_4 : decode cX3_howManyAlive 4 = .ok (.invokestatic 26, 3) := by decide +kernel
theorem dX3_howManyAlive_7 : decode cX3_howManyAlive 7 = .ok (.ireturn, 1) := by decide +kernel
theorem dX3_knows_0 : decode cX3_knows 0 = .ok (.iload_n 1, 1) := by decide +kernel
theorem dX3_knows_1 : decode cX3_knows 1 = .ok (.ifCond .lt 24, 3) := by decide +kernel
theorem dX3_knows_4 : decode cX3_knows 4 = .ok (.iload_n 1, 1) := by decide +kernel
theorem dX3_knows_5 : decode cX3_knows 5 = .ok (.aload_n 0, 1) := by decide +kernel
theorem dX3_knows_6 : decode cX3_knows 6 = .ok (.getfield 15, 3) := by decide +kernel
theorem dX3_knows_9 : decode cX3_knows 9 = .ok (.if_icmp .ge 16, 3) := by decide +kernel
theorem dX3_knows_12 : decode cX3_knows 12 = .ok (.iload_n 1, 1) := by decide +kernel
theorem dX3_knows_13 : decode cX3_knows 13 = .ok (.aload_n 0, 1) := by decide +kernel
theorem dX3_knows_14 : decode cX3_knows 14 = .ok (.getfield 9, 3) := by decide +kernel
theorem dX3_knows_17 : decode cX3_knows 17 = .ok (.arraylength, 1) := by decide +kernel
theorem dX3_knows_18 : decode cX3_knows 18 = .ok (.if_icmp .ge 7, 3) := by decide +kernel
theorem dX3_knows_21 : decode cX3_knows 21 = .ok (.iconst 1, 1) := by decide +kernel
theorem dX3_knows_22 : decode cX3_knows 22 = .ok (.goto 4, 3) := by decide +kernel
theorem dX3_knows_25 : decode cX3_knows 25 = .ok (.iconst 0, 1) := by decide +kernel
theorem dX3_knows_26 : decode cX3_knows 26 = .ok (.ireturn, 1) := by decide +kernel
set_option maxRecDepth 20000 in
theorem ggX3_tellDeath_X3_knows : GoodIn wsX3_tellDeath wsX3_knows := goodIn_r _ [6, 7, 8, 9, 10, 11] (by decide +kernel) (by decide +kernel)
set_option maxRecDepth 20000 in
theorem gX3_tellDeath_X3_knows : GoodIn wsX3_tellDeath (wsV RX3 30 RX3 yX3_knows wsX3_knows) := goodIn_app (goodIn_of _ (by decide +kernel)) ggX3_tellDeath_X3_knows
theorem dX3_tellDeath_0 : decode cX3_tellDeath 0 = .ok (.aload_n 0, 1) := by decide +kernel
theorem dX3_tellDeath_1 : decode cX3_tellDeath 1 = .ok (.iload_n 1, 1) := by decide +kernel
theorem dX3_tellDeath_2 : decode cX3_tellDeath 2 = .ok (.invokevirtual 30, 3) := by decide +kernel
theorem dX3_tellDeath_5 : decode cX3_tellDeath 5 = .ok (.ifCond .eq 32, 3) := by decide +kernel
theorem dX3_tellDeath_8 : decode cX3_tellDeath 8 = .ok (.aload_n 0, 1) := by decide +kernel
theorem dX3_tellDeath_9 : decode cX3_tellDeath 9 = .ok (.iload_n 2, 1) := by decide +kernel
theorem dX3_tellDeath_10 : decode cX3_tellDeath 10 = .ok (.ifCond .eq 16, 3) := by decide +kernel
theorem dX3_tellDeath_13 : decode cX3_tellDeath 13 = .ok (.aload_n 0, 1) := by decide +kernel
theorem dX3_tellDeath_14 : decode cX3_tellDeath 14 = .ok (.getfield 23, 3) := by decide +kernel
theorem dX3_tellDeath_17 : decode cX3_tellDeath 17 = .ok (.iconst 1, 1) := by decide +kernel
theorem dX3_tellDeath_18 : decode cX3_tellDeath 18 = .ok (.iload_n 1, 1) := by decide +kernel
theorem dX3_tellDeath_19 : decode cX3_tellDeath 19 = .ok (.ishl, 1) := by decide +kernel
theorem dX3_tellDeath_20 : decode cX3_tellDeath 20 = .ok (.iconst (-1), 1) := by decide +kernel
theorem dX3_tellDeath_21 : decode cX3_tellDeath 21 = .ok (.ixor, 1) := by decide +kernel
theorem dX3_tellDeath_22 : decode cX3_tellDeath 22 = .ok (.iand, 1) := by decide +kernel
theorem dX3_tellDeath_23 : decode cX3_tellDeath 23 = .ok (.goto 11, 3) := by decide +kernel
theorem dX3_tellDeath_26 : decode cX3_tellDeath 26 = .ok (.aload_n 0, 1) := by decide +kernel
theorem dX3_tellDeath_27 : decode cX3_tellDeath 27 = .ok (.getfield 23, 3) := by decide +kernel
theorem dX3_tellDeath_30 : decode cX3_tellDeath 30 = .ok (.iconst 1, 1) := by decide +kernel
theorem dX3_tellDeath_31 : decode cX3_tellDeath 31 = .ok (.iload_n 1, 1) := by decide +kernel
theorem dX3_tellDeath_32 : decode cX3_tellDeath 32 = .ok (.ishl, 1) := by decide +kernel
theorem dX3_tellDeath_33 : decode cX3_tellDeath 33 = .ok (.ior, 1) := by decide +kernel
theorem dX3_tellDeath_34 : decode cX3_tellDeath 34 = .ok (.putfield 23, 3) := by decide +kernel
theorem dX3_tellDeath_37 : decode cX3_tellDeath 37 = .ok (.return_, 1) := by decide +kernel
theorem dX4_init_0 : decode cX4_init 0 = .ok (.aload_n 0, 1) := by decide +kernel
theorem dX4_init_1 : decode cX4_init 1 = .ok (.invokespecial 3, 3) := by decide +kernel
theorem dX4_init_4 : decode cX4_init 4 = .ok (.aload_n 0, 1) := by decide +kernel
theorem dX4_init_5 : decode cX4_init 5 = .ok (.bipush 8, 2) := by decide +kernel
theorem dX4_init_7 : decode cX4_init 7 = .ok (.bipush 48, 2) := by decide +kernel
theorem dX4_init_9 : decode cX4_init 9 = .ok (.multianewarray 9 2, 4) := by decide +kernel
theorem dX4_init_13 : decode cX4_init 13 = .ok (.putfield 11, 3) := by decide +kernel
theorem dX4_init_16 : decode cX4_init 16 = .ok (.aload_n 0, 1) := by decide +kernel
theorem dX4_init_17 : decode cX4_init 17 = .ok (.bipush 7, 2) := by decide +kernel
theorem dX4_init_19 : decode cX4_init 19 = .ok (.newarray .int, 2) := by decide +kernel
theorem dX4_init_21 : decode cX4_init 21 = .ok (.putfield 16, 3) := by decide +kernel
theorem dX4_init_24 : decode cX4_init 24 = .ok (.return_, 1) := by decide +kernel
theorem dX5_init_0 : decode cX5_init 0 = .ok (.aload_n 0, 1) := by decide +kernel
theorem dX5_init_1 : decode cX5_init 1 = .ok (.invokespecial 3, 3) := by decide +kernel
theorem dX5_init_4 : decode cX5_init 4 = .ok (.aload_n 0, 1) := by decide +kernel
theorem dX5_init_5 : decode cX5_init 5 = .ok (.bipush 7, 2) := by decide +kernel
theorem dX5_init_7 : decode cX5_init 7 = .ok (.newarray .int, 2) := by decide +kernel
theorem dX5_init_9 : decode cX5_init 9 = .ok (.putfield 9, 3) := by decide +kernel
theorem dX5_init_12 : decode cX5_init 12 = .ok (.aload_n 0, 1) := by decide +kernel
theorem dX5_init_13 : decode cX5_init 13 = .ok (.sipush 128, 3) := by decide +kernel
theorem dX5_init_16 : decode cX5_init 16 = .ok (.newarray .int, 2) := by decide +kernel
theorem dX5_init_18 : decode cX5_init 18 = .ok (.putfield 15, 3) := by decide +kernel
theorem dX5_init_21 : decode cX5_init 21 = .ok (.aload_n 0, 1) := by decide +kernel
theorem dX5_init_22 : decode cX5_init 22 = .ok (.sipush 128, 3) := by decide +kernel
theorem dX5_init_25 : decode cX5_init 25 = .ok (.newarray .int, 2) := by decide +kernel
theorem dX5_init_27 : decode cX5_init 27 = .ok (.putfield 18, 3) := by decide +kernel
theorem dX5_init_30 : decode cX5_init 30 = .ok (.aload_n 0, 1) := by decide +kernel
theorem dX5_init_31 : decode cX5_init 31 = .ok (.sipush 256, 3) := by decide +kernel
theorem dX5_init_34 : decode cX5_init 34 = .ok (.newarray .long, 2) := by decide +kernel
theorem dX5_init_36 : decode cX5_init 36 = .ok (.putfield 21, 3) := by decide +kernel
theorem dX5_init_39 : decode cX5_init 39 = .ok (.aload_n 0, 1) := by decide +kernel
theorem dX5_init_40 : decode cX5_init 40 = .ok (.aload_n 1, 1) := by decide +kernel
theorem dX5_init_41 : decode cX5_init 41 = .ok (.putfield 25, 3) := by decide +kernel
theorem dX5_init_44 : decode cX5_init 44 = .ok (.return_, 1) := by decide +kernel
set_option maxRecDepth 20000 in
theorem ggX5_winningPoint_X5_playBackwards : GoodIn wsX5_winningPoint wsX5_playBackwards := goodIn_r _ [5, 6, 7, 8, 9, 10, 11, 12, 13, 14, 15, 16, 17, 18, 19, 20, 21, 22, 23, 24, 25, 26, 27, 28, 29, 30, 31, 32, 4, 33, 34, 35, 36, 37, 38, 39, 40, 41, 42, 43, 44, 45, 46, 47, 48] (by decide +kernel) (by decide +kernel)
set_option maxRecDepth 20000 in
theorem gX5_winningPoint_X5_playBackwards : GoodIn wsX5_winningPoint (wsV RX5 85 RX5 yX5_playBackwards wsX5_playBackwards) := goodIn_app (goodIn_of _ (by decide +kernel)) ggX5_winningPoint_X5_playBackwards
theorem dX5_winningPoint_0 : decode cX5_winningPoint 0 = .ok (.aload_n 0, 1) := by decide +kernel
theorem dX5_winningPoint_1 : decode cX5_winningPoint 1 = .ok (.aload_n 1, 1) := by decide +kernel
theorem dX5_winningPoint_2 : decode cX5_winningPoint 2 = .ok (.iload_n 2, 1) := by decide +kernel
theorem dX5_winningPoint_3 : decode cX5_winningPoint 3 = .ok (.invokevirtual 85, 3) := by decide +kernel
theorem dX5_winningPoint_6 : decode cX5_winningPoint 6 = .ok (.iconst 0, 1) := by decide +kernel
theorem dX5_winningPoint_7 : decode cX5_winningPoint 7 = .ok (.istore_n 3, 1) := by decide +kernel
theorem dX5_winningPoint_8 : decode cX5_winningPoint 8 = .ok (.iload_n 3, 1) := by decide +kernel
theorem dX5_winningPoint_9 : decode cX5_winningPoint 9 = .ok (.bipush 7, 2) := by decide +kernel
theorem dX5_winningPoint_11 : decode cX5_winningPoint 11 = .ok (.if_icmp .ge 30, 3) := by decide +kernel
theorem dX5_winningPoint_14 : decode cX5_winningPoint 14 = .ok (.iload_n 2, 1) := by decide +kernel
theorem dX5_winningPoint_15 : decode cX5_winningPoint 15 = .ok (.iconst 1, 1) := by decide +kernel
theorem dX5_winningPoint_16 : decode cX5_winningPoint 16 = .ok (.iload_n 3, 1) := by decide +kernel
theorem dX5_winningPoint_17 : decode cX5_winningPoint 17 = .ok (.ishl, 1) := by decide +kernel
theorem dX5_winningPoint_18 : decode cX5_winningPoint 18 = .ok (.iand, 1) := by decide +kernel
theorem dX5_winningPoint_19 : decode cX5_winningPoint 19 = .ok (.ifCond .eq 16, 3) := by decide +kernel
theorem dX5_winningPoint_22 : decode cX5_winningPoint 22 = .ok (.aload_n 0, 1) := by decide +kernel
theorem dX5_winningPoint_23 : decode cX5_winningPoint 23 = .ok (.iconst 1, 1) := by decide +kernel
theorem dX5_winningPoint_24 : decode cX5_winningPoint 24 = .ok (.iload_n 3, 1) := by decide +kernel
theorem dX5_winningPoint_25 : decode cX5_winningPoint 25 = .ok (.ishl, 1) := by decide +kernel
theorem dX5_winningPoint_26 : decode cX5_winningPoint 26 = .ok (.iconst 0, 1) := by decide +kernel
theorem dX5_winningPoint_27 : decode cX5_winningPoint 27 = .ok (.invokevirtual 88, 3) := by decide +kernel
theorem dX5_winningPoint_30 : decode cX5_winningPoint 30 = .ok (.ifCond .eq 5, 3) := by decide +kernel
theorem dX5_winningPoint_33 : decode cX5_winningPoint 33 = .ok (.iload_n 3, 1) := by decide +kernel
theorem dX5_winningPoint_34 : decode cX5_winningPoint 34 = .ok (.ireturn, 1) := by decide +kernel
theorem dX5_winningPoint_35 : decode cX5_winningPoint 35 = .ok (.iinc 3 1, 3) := by decide +kernel
theorem dX5_winningPoint_38 : decode cX5_winningPoint 38 = .ok (.goto (-30), 3) := by decide +kernel
theorem dX5_winningPoint_41 : decode cX5_winningPoint 41 = .ok (.iconst (-1), 1) := by decide +kernel
theorem dX5_winningPoint_42 : decode cX5_winningPoint 42 = .ok (.ireturn, 1) := by decide +kernel
set_option maxRecDepth 20000 in
theorem ggX5_playBackwards_X7_hasWithin : GoodIn wsX5_playBackwards wsX7_hasWithin := goodIn_r _ [9, 10, 11, 12, 13, 8, 14, 15, 2, 3, 4, 16, 17, 18, 19, 20, 21, 22, 23, 24, 42, 43, 44] (by decide +kernel) (by decide +kernel)
set_option maxRecDepth 20000 in
theorem gX5_playBackwards_X7_hasWithin : GoodIn wsX5_playBackwards (wsV RX5 91 RX7 yX7_hasWithin wsX7_hasWithin) := goodIn_app (goodIn_of _ (by decide +kernel)) ggX5_playBackwards_X7_hasWithin
set_option maxRecDepth 20000 in
theorem ggX5_playBackwards_X5_canWin : GoodIn wsX5_playBackwards wsX5_canWin := goodIn_r _ [29, 16, 3, 17, 18, 19, 20, 21, 22, 23, 24, 30, 31, 32, 28, 33, 1, 34, 35, 36, 37, 38, 39, 40, 41] (by decide +kernel) (by decide +kernel)
set_option maxRecDepth 20000 in
theorem gX5_playBackwards_X5_canWin : GoodIn wsX5_playBackwards (wsV RX5 94 RX5 yX5_canWin wsX5_canWin) := goodIn_app (goodIn_of _ (by decide +kernel)) ggX5_playBackwards_X5_canWin
theorem dX5_playBackwards_0 : decode cX5_playBackwards 0 = .ok (.iconst 0, 1) := by decide +kernel
theorem dX5_playBackwards_1 : decode cX5_playBackwards 1 = .ok (.istore_n 3, 1) := by decide +kernel
theorem dX5_playBackwards_2 : decode cX5_playBackwards 2 = .ok (.iload_n 3, 1) := by decide +kernel
theorem dX5_playBackwards_3 : decode cX5_playBackwards 3 = .ok (.aload_n 0, 1) := by decide +kernel
theorem dX5_playBackwards_4 : decode cX5_playBackwards 4 = .ok (.getfield 21, 3) := by decide +kernel
theorem dX5_playBackwards_7 : decode cX5_playBackwards 7 = .ok (.arraylength, 1) := by decide +kernel
theorem dX5_playBackwards_8 : decode cX5_playBackwards 8 = .ok (.if_icmp .ge 16, 3) := by decide +kernel
theorem dX5_playBackwards_11 : decode cX5_playBackwards 11 = .ok (.aload_n 0, 1) := by decide +kernel
theorem dX5_playBackwards_12 : decode cX5_playBackwards 12 = .ok (.getfield 21, 3) := by decide +kernel
theorem dX5_playBackwards_15 : decode cX5_playBackwards 15 = .ok (.iload_n 3, 1) := by decide +kernel
theorem dX5_playBackwards_16 : decode cX5_playBackwards 16 = .ok (.lconst 0, 1) := by decide +kernel
theorem dX5_playBackwards_17 : decode cX5_playBackwards 17 = .ok (.lastore, 1) := by decide +kernel
theorem dX5_playBackwards_18 : decode cX5_playBackwards 18 = .ok (.iinc 3 1, 3) := by decide +kernel
theorem dX5_playBackwards_21 : decode cX5_playBackwards 21 = .ok (.goto (-19), 3) := by decide +kernel
theorem dX5_playBackwards_24 : decode cX5_playBackwards 24 = .ok (.bipush 127, 2) := by decide +kernel
theorem dX5_playBackwards_26 : decode cX5_playBackwards 26 = .ok (.istore_n 3, 1) := by decide +kernel
theorem dX5_playBackwards_27 : decode cX5_playBackwards 27 = .ok (.iload_n 3, 1) := by decide +kernel
theorem dX5_playBackwards_28 : decode cX5_playBackwards 28 = .ok (.ifCond .lt 87, 3) := by decide +kernel
theorem dX5_playBackwards_31 : decode cX5_playBackwards 31 = .ok (.iload_n 3, 1) := by decide +kernel
theorem dX5_playBackwards_32 : decode cX5_playBackwards 32 = .ok (.iload_n 2, 1) := by decide +kernel
theorem dX5_playBackwards_33 : decode cX5_playBackwards 33 = .ok (.invokestatic 29, 3) := by decide +kernel
theorem dX5_playBackwards_36 : decode cX5_playBackwards 36 = .ok (.ifCond .eq 73, 3) := by decide +kernel
theorem dX5_playBackwards_39 : decode cX5_playBackwards 39 = .ok (.aload_n 1, 1) := by decide +kernel
theorem dX5_playBackwards_40 : decode cX5_playBackwards 40 = .ok (.iload_n 3, 1) := by decide +kernel
theorem dX5_playBackwards_41 : decode cX5_playBackwards 41 = .ok (.iconst 0, 1) := by decide +kernel
theorem dX5_playBackwards_42 : decode cX5_playBackwards 42 = .ok (.invokevirtual 91, 3) := by decide +kernel
theorem dX5_playBackwards_45 : decode cX5_playBackwards 45 = .ok (.istore 4, 2) := by decide +kernel
theorem dX5_playBackwards_47 : decode cX5_playBackwards 47 = .ok (.bipush 127, 2) := by decide +kernel
theorem dX5_playBackwards_49 : decode cX5_playBackwards 49 = .ok (.istore 5, 2) := by decide +kernel
theorem dX5_playBackwards_51 : decode cX5_playBackwards 51 = .ok (.iload 5, 2) := by decide +kernel
theorem dX5_playBackwards_53 : decode cX5_playBackwards 53 = .ok (.ifCond .lt 56, 3) := by decide +kernel
theorem dX5_playBackwards_56 : decode cX5_playBackwards 56 = .ok (.iload 5, 2) := by decide +kernel
theorem dX5_playBackwards_58 : decode cX5_playBackwards 58 = .ok (.iload_n 2, 1) := by decide +kernel
theorem dX5_playBackwards_59 : decode cX5_playBackwards 59 = .ok (.iload_n 3, 1) := by decide +kernel
theorem dX5_playBackwards_60 : decode cX5_playBackwards 60 = .ok (.iconst (-1), 1) := by decide +kernel
theorem dX5_playBackwards_61 : decode cX5_playBackwards 61 = .ok (.ixor, 1) := by decide +kernel
theorem dX5_playBackwards_62 : decode cX5_playBackwards 62 = .ok (.iand, 1) := by decide +kernel
theorem dX5_playBackwards_63 : decode cX5_playBackwards 63 = .ok (.invokestatic 29, 3) := by decide +kernel
theorem dX5_playBackwards_66 : decode cX5_playBackwards 66 = .ok (.ifCond .eq 37, 3) := by decide +kernel
theorem dX5_playBackwards_69 : decode cX5_playBackwards 69 = .ok (.aload_n 0, 1) := by decide +kernel
theorem dX5_playBackwards_70 : decode cX5_playBackwards 70 = .ok (.iload_n 3, 1) := by decide +kernel
theorem dX5_playBackwards_71 : decode cX5_playBackwards 71 = .ok (.iload 5, 2) := by decide +kernel
theorem dX5_playBackwards_73 : decode cX5_playBackwards 73 = .ok (.iload_n 2, 1) := by decide +kernel
theorem dX5_playBackwards_74 : decode cX5_playBackwards 74 = .ok (.iload 4, 2) := by decide +kernel
theorem dX5_playBackwards_76 : decode cX5_playBackwards 76 = .ok (.invokevirtual 94, 3) := by decide +kernel
theorem dX5_playBackwards_79 : decode cX5_playBackwards 79 = .ok (.ifCond .eq 24, 3) := by decide +kernel
theorem dX5_playBackwards_82 : decode cX5_playBackwards 82 = .ok (.aload_n 0, 1) := by decide +kernel
theorem dX5_playBackwards_83 : decode cX5_playBackwards 83 = .ok (.getfield 21, 3) := by decide +kernel
theorem dX5_playBackwards_86 : decode cX5_playBackwards 86 = .ok (.iload_n 3, 1) := by decide +kernel
theorem dX5_playBackwards_87 : decode cX5_playBackwards 87 = .ok (.iload 5, 2) := by decide +kernel
theorem dX5_playBackwards_89 : decode cX5_playBackwards 89 = .ok (.invokestatic 98, 3) := by decide +kernel
theorem dX5_playBackwards_92 : decode cX5_playBackwards 92 = .ok (.dup2, 1) := by decide +kernel
theorem dX5_playBackwards_93 : decode cX5_playBackwards 93 = .ok (.laload, 1) := by decide +kernel
theorem dX5_playBackwards_94 : decode cX5_playBackwards 94 = .ok (.lconst 1, 1) := by decide +kernel
theorem dX5_playBackwards_95 : decode cX5_playBackwards 95 = .ok (.iload 5, 2) := by decide +kernel
theorem dX5_playBackwards_97 : decode cX5_playBackwards 97 = .ok (.bipush 63, 2) := by decide +kernel
theorem dX5_playBackwards_99 : decode cX5_playBackwards 99 = .ok (.iand, 1) := by decide +kernel
theorem dX5_playBackwards_100 : decode cX5_playBackwards 100 = .ok (.lshl, 1) := by decide +kernel
theorem dX5_playBackwards_101 : decode cX5_playBackwards 101 = .ok (.lor, 1) := by decide +kernel
theorem dX5_playBackwards_102 : decode cX5_playBackwards 102 = .ok (.lastore, 1) := by decide +kernel
theorem dX5_playBackwards_103 : decode cX5_playBackwards 103 = .ok (.iinc 5 (-1), 3) := by decide +kernel
theorem dX5_playBackwards_106 : decode cX5_playBackwards 106 = .ok (.goto (-55), 3) := by decide +kernel
theorem dX5_playBackwards_109 : decode cX5_playBackwards 109 = .ok (.iinc 3 (-1), 3) := by decide +kernel
theorem dX5_playBackwards_112 : decode cX5_playBackwards 112 = .ok (.goto (-85), 3) := by decide +kernel
theorem dX5_playBackwards_115 : decode cX5_playBackwards 115 = .ok (.return_, 1) := by decide +kernel
theorem dX5_canWin_0 : decode cX5_canWin 0 = .ok (.iload_n 3, 1) := by decide +kernel
theorem dX5_canWin_1 : decode cX5_canWin 1 = .ok (.iload_n 1, 1) := by decide +kernel
theorem dX5_canWin_2 : decode cX5_canWin 2 = .ok (.iconst (-1), 1) := by decide +kernel
theorem dX5_canWin_3 : decode cX5_canWin 3 = .ok (.ixor, 1) := by decide +kernel
theorem dX5_canWin_4 : decode cX5_canWin 4 = .ok (.iand, 1) := by decide +kernel
theorem dX5_canWin_5 : decode cX5_canWin 5 = .ok (.iload_n 2, 1) := by decide +kernel
theorem dX5_canWin_6 : decode cX5_canWin 6 = .ok (.iconst (-1), 1) := by decide +kernel
theorem dX5_canWin_7 : decode cX5_canWin 7 = .ok (.ixor, 1) := by decide +kernel
theorem dX5_canWin_8 : decode cX5_canWin 8 = .ok (.iand, 1) := by decide +kernel
theorem dX5_canWin_9 : decode cX5_canWin 9 = .ok (.istore 5, 2) := by decide +kernel
theorem dX5_canWin_11 : decode cX5_canWin 11 = .ok (.iload_n 1, 1) := by decide +kernel
theorem dX5_canWin_12 : decode cX5_canWin 12 = .ok (.invokestatic 33, 3) := by decide +kernel
theorem dX5_canWin_15 : decode cX5_canWin 15 = .ok (.iload_n 2, 1) := by decide +kernel
theorem dX5_canWin_16 : decode cX5_canWin 16 = .ok (.invokestatic 33, 3) := by decide +kernel
theorem dX5_canWin_19 : decode cX5_canWin 19 = .ok (.isub, 1) := by decide +kernel
theorem dX5_canWin_20 : decode cX5_canWin 20 = .ok (.istore 6, 2) := by decide +kernel
theorem dX5_canWin_22 : decode cX5_canWin 22 = .ok (.iload 5, 2) := by decide +kernel
theorem dX5_canWin_24 : decode cX5_canWin 24 = .ok (.ifCond .eq 8, 3) := by decide +kernel
theorem dX5_canWin_27 : decode cX5_canWin 27 = .ok (.iload 4, 2) := by decide +kernel
theorem dX5_canWin_29 : decode cX5_canWin 29 = .ok (.ifCond .eq 6, 3) := by decide +kernel
theorem dX5_canWin_32 : decode cX5_canWin 32 = .ok (.iload 4, 2) := by decide +kernel
theorem dX5_canWin_34 : decode cX5_canWin 34 = .ok (.ireturn, 1) := by decide +kernel
theorem dX5_canWin_35 : decode cX5_canWin 35 = .ok (.iload 6, 2) := by decide +kernel
theorem dX5_canWin_37 : decode cX5_canWin 37 = .ok (.ifCond .ne 7, 3) := by decide +kernel
theorem dX5_canWin_40 : decode cX5_canWin 40 = .ok (.iconst 1, 1) := by decide +kernel
theorem dX5_canWin_41 : decode cX5_canWin 41 = .ok (.goto 4, 3) := by decide +kernel
theorem dX5_canWin_44 : decode cX5_canWin 44 = .ok (.iconst 0, 1) := by decide +kernel
theorem dX5_canWin_45 : decode cX5_canWin 45 = .ok (.istore 7, 2) := by decide +kernel
theorem dX5_canWin_47 : decode cX5_canWin 47 = .ok (.iload 7, 2) := by decide +kernel
theorem dX5_canWin_49 : decode cX5_canWin 49 = .ok (.ifCond .ne 11, 3) := by decide +kernel
theorem dX5_canWin_52 : decode cX5_canWin 52 = .ok (.iload 6, 2) := by decide +kernel
theorem dX5_canWin_54 : decode cX5_canWin 54 = .ok (.iconst 1, 1) := by decide +kernel
theorem dX5_canWin_55 : decode cX5_canWin 55 = .ok (.if_icmp .eq 5, 3) := by decide +kernel
theorem dX5_canWin_58 : decode cX5_canWin 58 = .ok (.iconst 0, 1) := by decide +kernel
theorem dX5_canWin_59 : decode cX5_canWin 59 = .ok (.ireturn, 1) := by decide +kernel
theorem dX5_canWin_60 : decode cX5_canWin 60 = .ok (.iconst 0, 1) := by decide +kernel
theorem dX5_canWin_61 : decode cX5_canWin 61 = .ok (.istore 8, 2) := by decide +kernel
theorem dX5_canWin_63 : decode cX5_canWin 63 = .ok (.iload 8, 2) := by decide +kernel
theorem dX5_canWin_65 : decode cX5_canWin 65 = .ok (.bipush 7, 2) := by decide +kernel
theorem dX5_canWin_67 : decode cX5_canWin 67 = .ok (.if_icmp .ge 66, 3) := by decide +kernel
theorem dX5_canWin_70 : decode cX5_canWin 70 = .ok (.iload 5, 2) := by decide +kernel
theorem dX5_canWin_72 : decode cX5_canWin 72 = .ok (.iconst 1, 1) := by decide +kernel
theorem dX5_canWin_73 : decode cX5_canWin 73 = .ok (.iload 8, 2) := by decide +kernel
theorem dX5_canWin_75 : decode cX5_canWin 75 = .ok (.ishl, 1) := by decide +kernel
theorem dX5_canWin_76 : decode cX5_canWin 76 = .ok (.iand, 1) := by decide +kernel
theorem dX5_canWin_77 : decode cX5_canWin 77 = .ok (.istore 9, 2) := by decide +kernel
theorem dX5_canWin_79 : decode cX5_canWin 79 = .ok (.iload 9, 2) := by decide +kernel
theorem dX5_canWin_81 : decode cX5_canWin 81 = .ok (.ifCond .eq 22, 3) := by decide +kernel
theorem dX5_canWin_84 : decode cX5_canWin 84 = .ok (.iload 7, 2) := by decide +kernel
theorem dX5_canWin_86 : decode cX5_canWin 86 = .ok (.ifCond .eq 17, 3) := by decide +kernel
theorem dX5_canWin_89 : decode cX5_canWin 89 = .ok (.aload_n 0, 1) := by decide +kernel
theorem dX5_canWin_90 : decode cX5_canWin 90 = .ok (.iload_n 1, 1) := by decide +kernel
theorem dX5_canWin_91 : decode cX5_canWin 91 = .ok (.iload 9, 2) := by decide +kernel
theorem dX5_canWin_93 : decode cX5_canWin 93 = .ok (.ior, 1) := by decide +kernel
theorem dX5_canWin_94 : decode cX5_canWin 94 = .ok (.iload_n 2, 1) := by decide +kernel
theorem dX5_canWin_95 : decode cX5_canWin 95 = .ok (.invokevirtual 88, 3) := by decide +kernel
theorem dX5_canWin_98 : decode cX5_canWin 98 = .ok (.ifCond .eq 5, 3) := by decide +kernel
theorem dX5_canWin_101 : decode cX5_canWin 101 = .ok (.iconst 1, 1) := by decide +kernel
theorem dX5_canWin_102 : decode cX5_canWin 102 = .ok (.ireturn, 1) := by decide +kernel
theorem dX5_canWin_103 : decode cX5_canWin 103 = .ok (.iload 9, 2) := by decide +kernel
theorem dX5_canWin_105 : decode cX5_canWin 105 = .ok (.ifCond .eq 22, 3) := by decide +kernel
theorem dX5_canWin_108 : decode cX5_canWin 108 = .ok (.iload 7, 2) := by decide +kernel
theorem dX5_canWin_110 : decode cX5_canWin 110 = .ok (.ifCond .ne 17, 3) := by decide +kernel
theorem dX5_canWin_113 : decode cX5_canWin 113 = .ok (.aload_n 0, 1) := by decide +kernel
theorem dX5_canWin_114 : decode cX5_canWin 114 = .ok (.iload_n 1, 1) := by decide +kernel
theorem dX5_canWin_115 : decode cX5_canWin 115 = .ok (.iload_n 2, 1) := by decide +kernel
theorem dX5_canWin_116 : decode cX5_canWin 116 = .ok (.iload 9, 2) := by decide +kernel
theorem dX5_canWin_118 : decode cX5_canWin 118 = .ok (.ior, 1) := by decide +kernel
theorem dX5_canWin_119 : decode cX5_canWin 119 = .ok (.invokevirtual 88, 3) := by decide +kernel
theorem dX5_canWin_122 : decode cX5_canWin 122 = .ok (.ifCond .ne 5, 3) := by decide +kernel
theorem dX5_canWin_125 : decode cX5_canWin 125 = .ok (.iconst 0, 1) := by decide +kernel
theorem dX5_canWin_126 : decode cX5_canWin 126 = .ok (.ireturn, 1) := by decide +kernel
theorem dX5_canWin_127 : decode cX5_canWin 127 = .ok (.iinc 8 1, 3) := by decide +kernel
theorem dX5_canWin_130 : decode cX5_canWin 130 = .ok (.goto (-67), 3) := by decide +kernel
theorem dX5_canWin_133 : decode cX5_canWin 133 = .ok (.iload 7, 2) := by decide +kernel
theorem dX5_canWin_135 : decode cX5_canWin 135 = .ok (.ifCond .ne 7, 3) := by decide +kernel
theorem dX5_canWin_138 : decode cX5_canWin 138 = .ok (.iconst 1, 1) := by decide +kernel
theorem dX5_canWin_139 : decode cX5_canWin 139 = .ok (.goto 4, 3) := by decide +kernel
theorem dX5_canWin_142 : decode cX5_canWin 142 = .ok (.iconst 0, 1) := by decide +kernel
theorem dX5_canWin_143 : decode cX5_canWin 143 = .ok (.ireturn, 1) := by decide +kernel
theorem dX6_init_0 : decode cX6_init 0 = .ok (.aload_n 0, 1) := by decide +kernel
theorem dX6_init_1 : decode cX6_init 1 = .ok (.invokespecial 3, 3) := by decide +kernel
theorem dX6_init_4 : decode cX6_init 4 = .ok (.aload_n 0, 1) := by decide +kernel
theorem dX6_init_5 : decode cX6_init 5 = .ok (.new 9, 3) := by decide +kernel
theorem dX6_init_8 : decode cX6_init 8 = .ok (.dup, 1) := by decide +kernel
theorem dX6_init_9 : decode cX6_init 9 = .ok (.invokespecial 11, 3) := by decide +kernel
theorem dX6_init_12 : decode cX6_init 12 = .ok (.putfield 12, 3) := by decide +kernel
theorem dX6_init_15 : decode cX6_init 15 = .ok (.aload_n 0, 1) := by decide +kernel
theorem dX6_init_16 : decode cX6_init 16 = .ok (.sipush 128, 3) := by decide +kernel
theorem dX6_init_19 : decode cX6_init 19 = .ok (.newarray .long, 2) := by decide +kernel
theorem dX6_init_21 : decode cX6_init 21 = .ok (.putfield 18, 3) := by decide +kernel
theorem dX6_init_24 : decode cX6_init 24 = .ok (.aload_n 0, 1) := by decide +kernel
theorem dX6_init_25 : decode cX6_init 25 = .ok (.aload_n 1, 1) := by decide +kernel
theorem dX6_init_26 : decode cX6_init 26 = .ok (.putfield 22, 3) := by decide +kernel
theorem dX6_init_29 : decode cX6_init 29 = .ok (.return_, 1) := by decide +kernel
theorem dX7_init_0 : decode cX7_init 0 = .ok (.aload_n 0, 1) := by decide +kernel
theorem dX7_init_1 : decode cX7_init 1 = .ok (.invokespecial 3, 3) := by decide +kernel
theorem dX7_init_4 : decode cX7_init 4 = .ok (.aload_n 0, 1) := by decide +kernel
theorem dX7_init_5 : decode cX7_init 5 = .ok (.sipush 128, 3) := by decide +kernel
theorem dX7_init_8 : decode cX7_init 8 = .ok (.newarray .boolean, 2) := by decide +kernel
theorem dX7_init_10 : decode cX7_init 10 = .ok (.putfield 9, 3) := by decide +kernel
theorem dX7_init_13 : decode cX7_init 13 = .ok (.aload_n 0, 1) := by decide +kernel
theorem dX7_init_14 : decode cX7_init 14 = .ok (.sipush 128, 3) := by decide +kernel
theorem dX7_init_17 : decode cX7_init 17 = .ok (.newarray .int, 2) := by decide +kernel
theorem dX7_init_19 : decode cX7_init 19 = .ok (.putfield 15, 3) := by decide +kernel
theorem dX7_init_22 : decode cX7_init 22 = .ok (.return_, 1) := by decide +kernel
theorem dX7_many_0 : decode cX7_many 0 = .ok (.aload_n 0, 1) := by decide +kernel
theorem dX7_many_1 : decode cX7_many 1 = .ok (.getfield 19, 3) := by decide +kernel
theorem dX7_many_4 : decode cX7_many 4 = .ok (.ireturn, 1) := by decide +kernel
theorem dX7_clear_0 : decode cX7_clear 0 = .ok (.iconst 0, 1) := by decide +kernel
theorem dX7_clear_1 : decode cX7_clear 1 = .ok (.istore_n 1, 1) := by decide +kernel
theorem dX7_clear_2 : decode cX7_clear 2 = .ok (.iload_n 1, 1) := by decide +kernel
theorem dX7_clear_3 : decode cX7_clear 3 = .ok (.aload_n 0, 1) := by decide +kernel
theorem dX7_clear_4 : decode cX7_clear 4 = .ok (.getfield 9, 3) := by decide +kernel
theorem dX7_clear_7 : decode cX7_clear 7 = .ok (.arraylength, 1) := by decide +kernel
theorem dX7_clear_8 : decode cX7_clear 8 = .ok (.if_icmp .ge 16, 3) := by decide +kernel
theorem dX7_clear_11 : decode cX7_clear 11 = .ok (.aload_n 0, 1) := by decide +kernel
theorem dX7_clear_12 : decode cX7_clear 12 = .ok (.getfield 9, 3) := by decide +kernel
theorem dX7_clear_15 : decode cX7_clear 15 = .ok (.iload_n 1, 1) := by decide +kernel
theorem dX7_clear_16 : decode cX7_clear 16 = .ok (.iconst 0, 1) := by decide +kernel
theorem dX7_clear_17 : decode cX7_clear 17 = .ok (.bastore, 1) := by decide +kernel
theorem dX7_clear_18 : decode cX7_clear 18 = .ok (.iinc 1 1, 3) := by decide +kernel
theorem dX7_clear_21 : decode cX7_clear 21 = .ok (.goto (-19), 3) := by decide +kernel
theorem dX7_clear_24 : decode cX7_clear 24 = .ok (.aload_n 0, 1) := by decide +kernel
theorem dX7_clear_25 : decode cX7_clear 25 = .ok (.iconst 0, 1) := by decide +kernel
theorem dX7_clear_26 : decode cX7_clear 26 = .ok (.putfield 19, 3) := by decide +kernel
theorem dX7_clear_29 : decode cX7_clear 29 = .ok (.return_, 1) := by decide +kernel
set_option maxRecDepth 20000 in
theorem ggX7_copy_X7_clear : GoodIn wsX7_copy wsX7_clear := goodIn_r _ [5, 6, 7, 21, 22, 23] (by decide +kernel) (by decide +kernel)
set_option maxRecDepth 20000 in
theorem gX7_copy_X7_clear : GoodIn wsX7_copy (wsV RX7 23 RX7 yX7_clear wsX7_clear) := goodIn_app (goodIn_of _ (by decide +kernel)) ggX7_copy_X7_clear
set_option maxRecDepth 20000 in
theorem ggX7_copy_X7_many : GoodIn wsX7_copy wsX7_many := goodIn_r _ [11, 7, 21, 22, 23] (by decide +kernel) (by decide +kernel)
set_option maxRecDepth 20000 in
theorem gX7_copy_X7_many : GoodIn wsX7_copy (wsV RX7 26 RX7 yX7_many wsX7_many) := goodIn_app (goodIn_of _ (by decide +kernel)) ggX7_copy_X7_many
theorem dX7_copy_0 : decode cX7_copy 0 = .ok (.aload_n 0, 1) := by decide +kernel
theorem dX7_copy_1 : decode cX7_copy 1 = .ok (.invokevirtual 23, 3) := by decide +kernel
theorem dX7_copy_4 : decode cX7_copy 4 = .ok (.iconst 0, 1) := by decide +kernel
theorem dX7_copy_5 : decode cX7_copy 5 = .ok (.istore_n 2, 1) := by decide +kernel
theorem dX7_copy_6 : decode cX7_copy 6 = .ok (.iload_n 2, 1) := by decide +kernel
theorem dX7_copy_7 : decode cX7_copy 7 = .ok (.aload_n 1, 1) := by decide +kernel
theorem dX7_copy_8 : decode cX7_copy 8 = .ok (.invokevirtual 26, 3) := by decide +kernel
theorem dX7_copy_11 : decode cX7_copy 11 = .ok (.if_icmp .ge 18, 3) := by decide +kernel
theorem dX7_copy_14 : decode cX7_copy 14 = .ok (.aload_n 0, 1) := by decide +kernel
theorem dX7_copy_15 : decode cX7_copy 15 = .ok (.aload_n 1, 1) := by decide +kernel
theorem dX7_copy_16 : decode cX7_copy 16 = .ok (.iload_n 2, 1) := by decide +kernel
theorem dX7_copy_17 : decode cX7_copy 17 = .ok (.invokevirtual 29, 3) := by decide +kernel
theorem dX7_copy_20 : decode cX7_copy 20 = .ok (.invokevirtual 33, 3) := by decide +kernel
theorem dX7_copy_23 : decode cX7_copy 23 = .ok (.iinc 2 1, 3) := by decide +kernel
theorem dX7_copy_26 : decode cX7_copy 26 = .ok (.goto (-20), 3) := by decide +kernel
theorem dX7_copy_29 : decode cX7_copy 29 = .ok (.return_, 1) := by decide +kernel
theorem dX7_hasWithin_0 : decode cX7_hasWithin 0 = .ok (.iconst 0, 1) := by decide +kernel
theorem dX7_hasWithin_1 : decode cX7_hasWithin 1 = .ok (.istore_n 3, 1) := by decide +kernel
theorem dX7_hasWithin_2 : decode cX7_hasWithin 2 = .ok (.iload_n 3, 1) := by decide +kernel
theorem dX7_hasWithin_3 : decode cX7_hasWithin 3 = .ok (.aload_n 0, 1) := by decide +kernel
theorem dX7_hasWithin_4 : decode cX7_hasWithin 4 = .ok (.getfield 19, 3) := by decide +kernel
theorem dX7_hasWithin_7 : decode cX7_hasWithin 7 = .ok (.if_icmp .ge 35, 3) := by decide +kernel
theorem dX7_hasWithin_10 : decode cX7_hasWithin 10 = .ok (.aload_n 0, 1) := by decide +kernel
theorem dX7_hasWithin_11 : decode cX7_hasWithin 11 = .ok (.iload_n 3, 1) := by decide +kernel
theorem dX7_hasWithin_12 : decode cX7_hasWithin 12 = .ok (.invokevirtual 29, 3) := by decide +kernel
theorem dX7_hasWithin_15 : decode cX7_hasWithin 15 = .ok (.iload_n 1, 1) := by decide +kernel
theorem dX7_hasWithin_16 : decode cX7_hasWithin 16 = .ok (.invokestatic 56, 3) := by decide +kernel
theorem dX7_hasWithin_19 : decode cX7_hasWithin 19 = .ok (.ifCond .eq 17, 3) := by decide +kernel
theorem dX7_hasWithin_22 : decode cX7_hasWithin 22 = .ok (.aload_n 0, 1) := by decide +kernel
theorem dX7_hasWithin_23 : decode cX7_hasWithin 23 = .ok (.iload_n 3, 1) := by decide +kernel
theorem dX7_hasWithin_24 : decode cX7_hasWithin 24 = .ok (.invokevirtual 29, 3) := by decide +kernel
theorem dX7_hasWithin_27 : decode cX7_hasWithin 27 = .ok (.invokestatic 41, 3) := by decide +kernel
theorem dX7_hasWithin_30 : decode cX7_hasWithin 30 = .ok (.iload_n 2, 1) := by decide +kernel
theorem dX7_hasWithin_31 : decode cX7_hasWithin 31 = .ok (.if_icmp .lt 5, 3) := by decide +kernel
theorem dX7_hasWithin_34 : decode cX7_hasWithin 34 = .ok (.iconst 1, 1) := by decide +kernel
theorem dX7_hasWithin_35 : decode cX7_hasWithin 35 = .ok (.ireturn, 1) := by decide +kernel
theorem dX7_hasWithin_36 : decode cX7_hasWithin 36 = .ok (.iinc 3 1, 3) := by decide +kernel
theorem dX7_hasWithin_39 : decode cX7_hasWithin 39 = .ok (.goto (-37), 3) := by decide +kernel
theorem dX7_hasWithin_42 : decode cX7_hasWithin 42 = .ok (.iconst 0, 1) := by decide +kernel
theorem dX7_hasWithin_43 : decode cX7_hasWithin 43 = .ok (.ireturn, 1) := by decide +kernel
theorem dX8_init_0 : decode cX8_init 0 = .ok (.aload_n 0, 1) := by decide +kernel
theorem dX8_init_1 : decode cX8_init 1 = .ok (.invokespecial 3, 3) := by decide +kernel
theorem dX8_init_4 : decode cX8_init 4 = .ok (.aload_n 0, 1) := by decide +kernel
theorem dX8_init_5 : decode cX8_init 5 = .ok (.sipush 128, 3) := by decide +kernel
theorem dX8_init_8 : decode cX8_init 8 = .ok (.newarray .boolean, 2) := by decide +kernel
theorem dX8_init_10 : decode cX8_init 10 = .ok (.putfield 9, 3) := by decide +kernel
theorem dX8_init_13 : decode cX8_init 13 = .ok (.aload_n 0, 1) := by decide +kernel
theorem dX8_init_14 : decode cX8_init 14 = .ok (.sipush 128, 3) := by decide +kernel
theorem dX8_init_17 : decode cX8_init 17 = .ok (.newarray .int, 2) := by decide +kernel
theorem dX8_init_19 : decode cX8_init 19 = .ok (.putfield 15, 3) := by decide +kernel
theorem dX8_init_22 : decode cX8_init 22 = .ok (.return_, 1) := by decide +kernel
theorem dX9_init_0 : decode cX9_init 0 = .ok (.aload_n 0, 1) := by decide +kernel
theorem dX9_init_1 : decode cX9_init 1 = .ok (.invokespecial 3, 3) := by decide +kernel
theorem dX9_init_4 : decode cX9_init 4 = .ok (.aload_n 0, 1) := by decide +kernel
theorem dX9_init_5 : decode cX9_init 5 = .ok (.sipush 128, 3) := by decide +kernel
theorem dX9_init_8 : decode cX9_init 8 = .ok (.newarray .boolean, 2) := by decide +kernel
theorem dX9_init_10 : decode cX9_init 10 = .ok (.putfield 9, 3) := by decide +kernel
theorem dX9_init_13 : decode cX9_init 13 = .ok (.aload_n 0, 1) := by decide +kernel
theorem dX9_init_14 : decode cX9_init 14 = .ok (.sipush 128, 3) := by decide +kernel
theorem dX9_init_17 : decode cX9_init 17 = .ok (.newarray .int, 2) := by decide +kernel
theorem dX9_init_19 : decode cX9_init 19 = .ok (.putfield 15, 3) := by decide +kernel
theorem dX9_init_22 : decode cX9_init 22 = .ok (.aload_n 0, 1) := by decide +kernel
theorem dX9_init_23 : decode cX9_init 23 = .ok (.bipush 64, 2) := by decide +kernel
theorem dX9_init_25 : decode cX9_init 25 = .ok (.newarray .long, 2) := by decide +kernel
theorem dX9_init_27 : decode cX9_init 27 = .ok (.putfield 19, 3) := by decide +kernel
theorem dX9_init_30 : decode cX9_init 30 = .ok (.aload_n 0, 1) := by decide +kernel
theorem dX9_init_31 : decode cX9_init 31 = .ok (.bipush 7, 2) := by decide +kernel
theorem dX9_init_33 : decode cX9_init 33 = .ok (.bipush 7, 2) := by decide +kernel
theorem dX9_init_35 : decode cX9_init 35 = .ok (.multianewarray 23 2, 4) := by decide +kernel
theorem dX9_init_39 : decode cX9_init 39 = .ok (.putfield 25, 3) := by decide +kernel
theorem dX9_init_42 : decode cX9_init 42 = .ok (.aload_n 0, 1) := by decide +kernel
theorem dX9_init_43 : decode cX9_init 43 = .ok (.bipush 7, 2) := by decide +kernel
theorem dX9_init_45 : decode cX9_init 45 = .ok (.newarray .int, 2) := by decide +kernel
theorem dX9_init_47 : decode cX9_init 47 = .ok (.putfield 28, 3) := by decide +kernel
theorem dX9_init_50 : decode cX9_init 50 = .ok (.return_, 1) := by decide +kernel
theorem dX10_init_0 : decode cX10_init 0 = .ok (.aload_n 0, 1) := by decide +kernel
theorem dX10_init_1 : decode cX10_init 1 = .ok (.invokespecial 3, 3) := by decide +kernel
theorem dX10_init_4 : decode cX10_init 4 = .ok (.aload_n 0, 1) := by decide +kernel
theorem dX10_init_5 : decode cX10_init 5 = .ok (.new 9, 3) := by decide +kernel
theorem dX10_init_8 : decode cX10_init 8 = .ok (.dup, 1) := by decide +kernel
theorem dX10_init_9 : decode cX10_init 9 = .ok (.invokespecial 11, 3) := by decide +kernel
theorem dX10_init_12 : decode cX10_init 12 = .ok (.putfield 12, 3) := by decide +kernel
theorem dX10_init_15 : decode cX10_init 15 = .ok (.aload_n 0, 1) := by decide +kernel
theorem dX10_init_16 : decode cX10_init 16 = .ok (.bipush 7, 2) := by decide +kernel
theorem dX10_init_18 : decode cX10_init 18 = .ok (.newarray .int, 2) := by decide +kernel
theorem dX10_init_20 : decode cX10_init 20 = .ok (.putfield 18, 3) := by decide +kernel
theorem dX10_init_23 : decode cX10_init 23 = .ok (.aload_n 0, 1) := by decide +kernel
theorem dX10_init_24 : decode cX10_init 24 = .ok (.sipush 128, 3) := by decide +kernel
theorem dX10_init_27 : decode cX10_init 27 = .ok (.newarray .int, 2) := by decide +kernel
theorem dX10_init_29 : decode cX10_init 29 = .ok (.putfield 22, 3) := by decide +kernel
theorem dX10_init_32 : decode cX10_init 32 = .ok (.return_, 1) := by decide +kernel
set_option maxRecDepth 20000 in
theorem ggX11_init_X5_init : GoodIn wsX11_init wsX5_init := goodIn_r _ [80, 81, 2, 3, 54, 82, 83, 84, 75, 85, 86, 172, 173, 174, 175, 176] (by decide +kernel) (by decide +kernel)
set_option maxRecDepth 20000 in
theorem gX11_init_X5_init : GoodIn wsX11_init (wsX5_init) := ggX11_init_X5_init
set_option maxRecDepth 20000 in
theorem ggX11_init_X6_init : GoodIn wsX11_init wsX6_init := goodIn_r _ [89, 90, 2, 3, 91, 10, 11, 92, 75, 93, 94, 56, 57, 58, 59, 60, 54, 61, 159, 160, 161, 177, 178, 179, 180, 181] (by decide +kernel) (by decide +kernel)
set_option maxRecDepth 20000 in
theorem gX11_init_X6_init : GoodIn wsX11_init (wsX6_init) := ggX11_init_X6_init
set_option maxRecDepth 20000 in
theorem ggX11_init_X1_init : GoodIn wsX11_init wsX1_init := goodIn_r _ [97, 98, 2, 3, 99, 10, 11, 100, 101, 56, 57, 58, 59, 60, 54, 61, 159, 160, 161, 182, 183] (by decide +kernel) (by decide +kernel)
set_option maxRecDepth 20000 in
theorem gX11_init_X1_init : GoodIn wsX11_init (wsX1_init) := ggX11_init_X1_init
set_option maxRecDepth 20000 in
theorem ggX11_init_X3_begin : GoodIn wsX11_init wsX3_begin := goodIn_r _ [134, 135, 136, 55, 137, 138, 139, 6, 140, 141, 142, 143] (by decide +kernel) (by decide +kernel)
set_option maxRecDepth 20000 in
theorem gX11_init_X3_begin : GoodIn wsX11_init (wsV RX11 100 RX3 yX3_begin wsX3_begin) := goodIn_app (goodIn_of _ (by decide +kernel)) ggX11_init_X3_begin
theorem dX11_init_0 : decode cX11_init 0 = .ok (.aload_n 0, 1) := by decide +kernel
theorem dX11_init_1 : decode cX11_init 1 = .ok (.invokespecial 3, 3) := by decide +kernel
theorem dX11_init_4 : decode cX11_init 4 = .ok (.aload_n 0, 1) := by decide +kernel
theorem dX11_init_5 : decode cX11_init 5 = .ok (.new 9, 3) := by decide +kernel
theorem dX11_init_8 : decode cX11_init 8 = .ok (.dup, 1) := by decide +kernel
theorem dX11_init_9 : decode cX11_init 9 = .ok (.invokespecial 11, 3) := by decide +kernel
theorem dX11_init_12 : decode cX11_init 12 = .ok (.putfield 12, 3) := by decide +kernel
theorem dX11_init_15 : decode cX11_init 15 = .ok (.aload_n 0, 1) := by decide +kernel
theorem dX11_init_16 : decode cX11_init 16 = .ok (.iconst 5, 1) := by decide +kernel
theorem dX11_init_17 : decode cX11_init 17 = .ok (.anewarray 16, 3) := by decide +kernel
theorem dX11_init_20 : decode cX11_init 20 = .ok (.putfield 18, 3) := by decide +kernel
theorem dX11_init_23 : decode cX11_init 23 = .ok (.aload_n 0, 1) := by decide +kernel
theorem dX11_init_24 : decode cX11_init 24 = .ok (.new 16, 3) := by decide +kernel
theorem dX11_init_27 : decode cX11_init 27 = .ok (.dup, 1) := by decide +kernel
theorem dX11_init_28 : decode cX11_init 28 = .ok (.invokespecial 22, 3) := by decide +kernel
theorem dX11_init_31 : decode cX11_init 31 = .ok (.putfield 23, 3) := by decide +kernel
theorem dX11_init_34 : decode cX11_init 34 = .ok (.aload_n 0, 1) := by decide +kernel
theorem dX11_init_35 : decode cX11_init 35 = .ok (.new 16, 3) := by decide +kernel
theorem dX11_init_38 : decode cX11_init 38 = .ok (.dup, 1) := by decide +kernel
theorem dX11_init_39 : decode cX11_init 39 = .ok (.invokespecial 22, 3) := by decide +kernel
theorem dX11_init_42 : decode cX11_init 42 = .ok (.putfield 27, 3) := by decide +kernel
theorem dX11_init_45 : decode cX11_init 45 = .ok (.aload_n 0, 1) := by decide +kernel
theorem dX11_init_46 : decode cX11_init 46 = .ok (.new 16, 3) := by decide +kernel
theorem dX11_init_49 : decode cX11_init 49 = .ok (.dup, 1) := by decide +kernel
theorem dX11_init_50 : decode cX11_init 50 = .ok (.invokespecial 22, 3) := by decide +kernel
theorem dX11_init_53 : decode cX11_init 53 = .ok (.putfield 30, 3) := by decide +kernel
theorem dX11_init_56 : decode cX11_init 56 = .ok (.aload_n 0, 1) := by decide +kernel
theorem dX11_init_57 : decode cX11_init 57 = .ok (.new 33, 3) := by decide +kernel
theorem dX11_init_60 : decode cX11_init 60 = .ok (.dup, 1) := by decide +kernel
theorem dX11_init_61 : decode cX11_init 61 = .ok (.invokespecial 35, 3) := by decide +kernel
theorem dX11_init_64 : decode cX11_init 64 = .ok (.putfield 36, 3) := by decide +kernel
theorem dX11_init_67 : decode cX11_init 67 = .ok (.aload_n 0, 1) := by decide +kernel
theorem dX11_init_68 : decode cX11_init 68 = .ok (.new 40, 3) := by decide +kernel
theorem dX11_init_71 : decode cX11_init 71 = .ok (.dup, 1) := by decide +kernel
theorem dX11_init_72 : decode cX11_init 72 = .ok (.invokespecial 42, 3) := by decide +kernel
theorem dX11_init_75 : decode cX11_init 75 = .ok (.putfield 43, 3) := by decide +kernel
theorem dX11_init_78 : decode cX11_init 78 = .ok (.aload_n 0, 1) := by decide +kernel
theorem dX11_init_79 : decode cX11_init 79 = .ok (.new 47, 3) := by decide +kernel
theorem dX11_init_82 : decode cX11_init 82 = .ok (.dup, 1) := by decide +kernel
theorem dX11_init_83 : decode cX11_init 83 = .ok (.aload_n 0, 1) := by decide +kernel
theorem dX11_init_84 : decode cX11_init 84 = .ok (.getfield 36, 3) := by decide +kernel
theorem dX11_init_87 : decode cX11_init 87 = .ok (.invokespecial 49, 3) := by decide +kernel
theorem dX11_init_90 : decode cX11_init 90 = .ok (.putfield 52, 3) := by decide +kernel
theorem dX11_init_93 : decode cX11_init 93 = .ok (.aload_n 0, 1) := by decide +kernel
theorem dX11_init_94 : decode cX11_init 94 = .ok (.new 56, 3) := by decide +kernel
theorem dX11_init_97 : decode cX11_init 97 = .ok (.dup, 1) := by decide +kernel
theorem dX11_init_98 : decode cX11_init 98 = .ok (.aload_n 0, 1) := by decide +kernel
theorem dX11_init_99 : decode cX11_init 99 = .ok (.getfield 36, 3) := by decide +kernel
theorem dX11_init_102 : decode cX11_init 102 = .ok (.invokespecial 58, 3) := by decide +kernel
theorem dX11_init_105 : decode cX11_init 105 = .ok (.putfield 59, 3) := by decide +kernel
theorem dX11_init_108 : decode cX11_init 108 = .ok (.aload_n 0, 1) := by decide +kernel
theorem dX11_init_109 : decode cX11_init 109 = .ok (.new 63, 3) := by decide +kernel
theorem dX11_init_112 : decode cX11_init 112 = .ok (.dup, 1) := by decide +kernel
theorem dX11_init_113 : decode cX11_init 113 = .ok (.aload_n 0, 1) := by decide +kernel
theorem dX11_init_114 : decode cX11_init 114 = .ok (.getfield 59, 3) := by decide +kernel
theorem dX11_init_117 : decode cX11_init 117 = .ok (.invokespecial 65, 3) := by decide +kernel
theorem dX11_init_120 : decode cX11_init 120 = .ok (.putfield 68, 3) := by decide +kernel
theorem dX11_init_123 : decode cX11_init 123 = .ok (.aload_n 0, 1) := by decide +kernel
theorem dX11_init_124 : decode cX11_init 124 = .ok (.new 72, 3) := by decide +kernel
theorem dX11_init_127 : decode cX11_init 127 = .ok (.dup, 1) := by decide +kernel
theorem dX11_init_128 : decode cX11_init 128 = .ok (.invokespecial 74, 3) := by decide +kernel
theorem dX11_init_131 : decode cX11_init 131 = .ok (.putfield 75, 3) := by decide +kernel
theorem dX11_init_134 : decode cX11_init 134 = .ok (.aload_n 0, 1) := by decide +kernel
theorem dX11_init_135 : decode cX11_init 135 = .ok (.new 79, 3) := by decide +kernel
theorem dX11_init_138 : decode cX11_init 138 = .ok (.dup, 1) := by decide +kernel
theorem dX11_init_139 : decode cX11_init 139 = .ok (.invokespecial 81, 3) := by decide +kernel
theorem dX11_init_142 : decode cX11_init 142 = .ok (.putfield 82, 3) := by decide +kernel
theorem dX11_init_145 : decode cX11_init 145 = .ok (.aload_n 0, 1) := by decide +kernel
theorem dX11_init_146 : decode cX11_init 146 = .ok (.new 86, 3) := by decide +kernel
theorem dX11_init_149 : decode cX11_init 149 = .ok (.dup, 1) := by decide +kernel
theorem dX11_init_150 : decode cX11_init 150 = .ok (.invokespecial 88, 3) := by decide +kernel
theorem dX11_init_153 : decode cX11_init 153 = .ok (.putfield 89, 3) := by decide +kernel
theorem dX11_init_156 : decode cX11_init 156 = .ok (.aload_n 0, 1) := by decide +kernel
theorem dX11_init_157 : decode cX11_init 157 = .ok (.new 93, 3) := by decide +kernel
theorem dX11_init_160 : decode cX11_init 160 = .ok (.dup, 1) := by decide +kernel
theorem dX11_init_161 : decode cX11_init 161 = .ok (.invokespecial 95, 3) := by decide +kernel
theorem dX11_init_164 : decode cX11_init 164 = .ok (.putfield 96, 3) := by decide +kernel
theorem dX11_init_167 : decode cX11_init 167 = .ok (.iconst 0, 1) := by decide +kernel
theorem dX11_init_168 : decode cX11_init 168 = .ok (.istore_n 1, 1) := by decide +kernel
theorem dX11_init_169 : decode cX11_init 169 = .ok (.iload_n 1, 1) := by decide +kernel
theorem dX11_init_170 : decode cX11_init 170 = .ok (.aload_n 0, 1) := by decide +kernel
theorem dX11_init_171 : decode cX11_init 171 = .ok (.getfield 18, 3) := by decide +kernel
theorem dX11_init_174 : decode cX11_init 174 = .ok (.arraylength, 1) := by decide +kernel
theorem dX11_init_175 : decode cX11_init 175 = .ok (.if_icmp .ge 22, 3) := by decide +kernel
theorem dX11_init_178 : decode cX11_init 178 = .ok (.aload_n 0, 1) := by decide +kernel
theorem dX11_init_179 : decode cX11_init 179 = .ok (.getfield 18, 3) := by decide +kernel
theorem dX11_init_182 : decode cX11_init 182 = .ok (.iload_n 1, 1) := by decide +kernel
theorem dX11_init_183 : decode cX11_init 183 = .ok (.new 16, 3) := by decide +kernel
theorem dX11_init_186 : decode cX11_init 186 = .ok (.dup, 1) := by decide +kernel
theorem dX11_init_187 : decode cX11_init 187 = .ok (.invokespecial 22, 3) := by decide +kernel
theorem dX11_init_190 : decode cX11_init 190 = .ok (.aastore, 1) := by decide +kernel
theorem dX11_init_191 : decode cX11_init 191 = .ok (.iinc 1 1, 3) := by decide +kernel
theorem dX11_init_194 : decode cX11_init 194 = .ok (.goto (-25), 3) := by decide +kernel
theorem dX11_init_197 : decode cX11_init 197 = .ok (.aload_n 0, 1) := by decide +kernel
theorem dX11_init_198 : decode cX11_init 198 = .ok (.getfield 12, 3) := by decide +kernel
theorem dX11_init_201 : decode cX11_init 201 = .ok (.iconst 4, 1) := by decide +kernel
theorem dX11_init_202 : decode cX11_init 202 = .ok (.invokevirtual 100, 3) := by decide +kernel
theorem dX11_init_205 : decode cX11_init 205 = .ok (.return_, 1) := by decide +kernel
set_option maxRecDepth 20000 in
theorem ggX11_ground_X11_checkRange : GoodIn wsX11_ground wsX11_checkRange := goodIn_ca (goodIn_r _ [7, 8, 9] (by decide +kernel) (by decide +kernel)) (goodIn_sub (fun _ h => List.mem_cons_of_mem _ (List.mem_append_right _ h)) (by decide +kernel))
set_option maxRecDepth 20000 in
theorem gX11_ground_X11_checkRange : GoodIn wsX11_ground (wsV RX11 104 RX11 yX11_checkRange wsX11_checkRange) := goodIn_app (goodIn_of _ (by decide +kernel)) ggX11_ground_X11_checkRange
set_option maxRecDepth 20000 in
theorem ggX11_ground_X3_begin : GoodIn wsX11_ground wsX3_begin := goodIn_r _ [14, 15, 16, 17, 18, 19, 20, 13, 21, 38, 39, 40] (by decide +kernel) (by decide +kernel)
set_option maxRecDepth 20000 in
theorem gX11_ground_X3_begin : GoodIn wsX11_ground (wsV RX11 100 RX3 yX3_begin wsX3_begin) := goodIn_app (goodIn_of _ (by decide +kernel)) ggX11_ground_X3_begin
set_option maxRecDepth 20000 in
theorem ggX11_ground_X3_howManySets : GoodIn wsX11_ground wsX3_howManySets := goodIn_r _ [21, 15, 38, 39, 40] (by decide +kernel) (by decide +kernel)
set_option maxRecDepth 20000 in
theorem gX11_ground_X3_howManySets : GoodIn wsX11_ground (wsV RX11 112 RX3 yX3_howManySets wsX3_howManySets) := goodIn_app (goodIn_of _ (by decide +kernel)) ggX11_ground_X3_howManySets
theorem dX11_ground_0 : decode cX11_ground 0 = .ok (.aload_n 0, 1) := by decide +kernel
theorem dX11_ground_1 : decode cX11_ground 1 = .ok (.iload_n 1, 1) := by decide +kernel
theorem dX11_ground_2 : decode cX11_ground 2 = .ok (.iconst 2, 1) := by decide +kernel
theorem dX11_ground_3 : decode cX11_ground 3 = .ok (.bipush 7, 2) := by decide +kernel
theorem dX11_ground_5 : decode cX11_ground 5 = .ok (.invokevirtual 104, 3) := by decide +kernel
theorem dX11_ground_8 : decode cX11_ground 8 = .ok (.aload_n 0, 1) := by decide +kernel
theorem dX11_ground_9 : decode cX11_ground 9 = .ok (.getfield 12, 3) := by decide +kernel
theorem dX11_ground_12 : decode cX11_ground 12 = .ok (.iload_n 1, 1) := by decide +kernel
theorem dX11_ground_13 : decode cX11_ground 13 = .ok (.invokevirtual 100, 3) := by decide +kernel
theorem dX11_ground_16 : decode cX11_ground 16 = .ok (.aload_n 0, 1) := by decide +kernel
theorem dX11_ground_17 : decode cX11_ground 17 = .ok (.iconst 0, 1) := by decide +kernel
theorem dX11_ground_18 : decode cX11_ground 18 = .ok (.putfield 108, 3) := by decide +kernel
theorem dX11_ground_21 : decode cX11_ground 21 = .ok (.aload_n 0, 1) := by decide +kernel
theorem dX11_ground_22 : decode cX11_ground 22 = .ok (.getfield 12, 3) := by decide +kernel
theorem dX11_ground_25 : decode cX11_ground 25 = .ok (.invokevirtual 112, 3) := by decide +kernel
theorem dX11_ground_28 : decode cX11_ground 28 = .ok (.ireturn, 1) := by decide +kernel
set_option maxRecDepth 20000 in
theorem ggX11_die_X11_checkPoint : GoodIn wsX11_die wsX11_checkPoint := goodIn_ca (goodIn_r _ [6, 7, 8, 1, 9, 10, 11, 12, 13, 14, 15, 35, 36, 37, 38, 39, 40, 41, 42, 43, 44, 45, 46, 47, 48, 49, 50, 51, 52] (by decide +kernel) (by decide +kernel)) (goodIn_sub (fun _ h => List.mem_cons_of_mem _ (List.mem_append_right _ h)) (by decide +kernel))
set_option maxRecDepth 20000 in
theorem gX11_die_X11_checkPoint : GoodIn wsX11_die (wsV RX11 116 RX11 yX11_checkPoint wsX11_checkPoint) := goodIn_app (goodIn_of _ (by decide +kernel)) ggX11_die_X11_checkPoint
set_option maxRecDepth 20000 in
theorem ggX11_die_X3_tellDeath : GoodIn wsX11_die wsX3_tellDeath := goodIn_r _ [19, 20, 21, 10, 11, 12, 13, 14, 15, 50, 51, 52] (by decide +kernel) (by decide +kernel)
set_option maxRecDepth 20000 in
theorem gX11_die_X3_tellDeath : GoodIn wsX11_die (wsV RX11 127 RX3 yX3_tellDeath wsX3_tellDeath) := goodIn_app (goodIn_of _ (by decide +kernel)) ggX11_die_X3_tellDeath
set_option maxRecDepth 20000 in
theorem ggX11_die_X3_howManyAlive : GoodIn wsX11_die wsX3_howManyAlive := goodIn_r _ [25, 20, 26, 5, 27, 28, 29, 30, 31, 32, 33, 34, 50, 51, 52] (by decide +kernel) (by decide +kernel)
set_option maxRecDepth 20000 in
theorem gX11_die_X3_howManyAlive : GoodIn wsX11_die (wsV RX11 131 RX3 yX3_howManyAlive wsX3_howManyAlive) := goodIn_app (goodIn_of _ (by decide +kernel)) ggX11_die_X3_howManyAlive
theorem dX11_die_0 : decode cX11_die 0 = .ok (.aload_n 0, 1) := by decide +kernel
theorem dX11_die_1 : decode cX11_die 1 = .ok (.iload_n 1, 1) := by decide +kernel
theorem dX11_die_2 : decode cX11_die 2 = .ok (.invokevirtual 116, 3) := by decide +kernel
theorem dX11_die_5 : decode cX11_die 5 = .ok (.aload_n 0, 1) := by decide +kernel
theorem dX11_die_6 : decode cX11_die 6 = .ok (.getfield 12, 3) := by decide +kernel
theorem dX11_die_9 : decode cX11_die 9 = .ok (.iload_n 1, 1) := by decide +kernel
theorem dX11_die_10 : decode cX11_die 10 = .ok (.iload_n 2, 1) := by decide +kernel
theorem dX11_die_11 : decode cX11_die 11 = .ok (.invokevirtual 127, 3) := by decide +kernel
theorem dX11_die_14 : decode cX11_die 14 = .ok (.aload_n 0, 1) := by decide +kernel
theorem dX11_die_15 : decode cX11_die 15 = .ok (.getfield 12, 3) := by decide +kernel
theorem dX11_die_18 : decode cX11_die 18 = .ok (.invokevirtual 131, 3) := by decide +kernel
theorem dX11_die_21 : decode cX11_die 21 = .ok (.ireturn, 1) := by decide +kernel
set_option maxRecDepth 20000 in
theorem ggX11_family_X11_checkRoom : GoodIn wsX11_family wsX11_checkRoom := goodIn_ca (goodIn_r _ [6, 7, 8, 9, 41, 42, 43, 44, 45, 46, 47, 48, 49, 50, 51, 52, 53, 54, 55] (by decide +kernel) (by decide +kernel)) (goodIn_sub (fun _ h => List.mem_cons_of_mem _ (List.mem_append_right _ h)) (by decide +kernel))
set_option maxRecDepth 20000 in
theorem gX11_family_X11_checkRoom : GoodIn wsX11_family (wsV RX11 134 RX11 yX11_checkRoom wsX11_checkRoom) := goodIn_app (goodIn_of _ (by decide +kernel)) ggX11_family_X11_checkRoom
set_option maxRecDepth 20000 in
theorem ggX11_family_X7_clear : GoodIn wsX11_family wsX7_clear := goodIn_r _ [14, 15, 16, 56, 57, 58] (by decide +kernel) (by decide +kernel)
set_option maxRecDepth 20000 in
theorem gX11_family_X7_clear : GoodIn wsX11_family (wsV RX11 137 RX7 yX7_clear wsX7_clear) := goodIn_app (goodIn_of _ (by decide +kernel)) ggX11_family_X7_clear
set_option maxRecDepth 20000 in
theorem ggX11_family_X11_keep : GoodIn wsX11_family wsX11_keep := goodIn_r _ [20, 9, 21, 22, 23, 24, 13, 25, 16, 26, 27, 28, 29, 30, 11, 12, 14, 15, 31, 32, 33, 34, 35, 36, 37, 38, 39, 40, 41, 42, 43, 44, 45, 46, 47, 48, 49, 50, 51, 52, 53, 54, 55, 56, 57, 58] (by decide +kernel) (by decide +kernel)
set_option maxRecDepth 20000 in
theorem gX11_family_X11_keep : GoodIn wsX11_family (wsV RX11 140 RX11 yX11_keep wsX11_keep) := goodIn_app (goodIn_of _ (by decide +kernel)) ggX11_family_X11_keep
theorem dX11_family_0 : decode cX11_family 0 = .ok (.aload_n 0, 1) := by decide +kernel
theorem dX11_family_1 : decode cX11_family 1 = .ok (.invokevirtual 134, 3) := by decide +kernel
theorem dX11_family_4 : decode cX11_family 4 = .ok (.aload_n 0, 1) := by decide +kernel
theorem dX11_family_5 : decode cX11_family 5 = .ok (.getfield 30, 3) := by decide +kernel
theorem dX11_family_8 : decode cX11_family 8 = .ok (.invokevirtual 137, 3) := by decide +kernel
theorem dX11_family_11 : decode cX11_family 11 = .ok (.aload_n 0, 1) := by decide +kernel
theorem dX11_family_12 : decode cX11_family 12 = .ok (.aload_n 0, 1) := by decide +kernel
theorem dX11_family_13 : decode cX11_family 13 = .ok (.getfield 30, 3) := by decide +kernel
theorem dX11_family_16 : decode cX11_family 16 = .ok (.invokevirtual 140, 3) := by decide +kernel
theorem dX11_family_19 : decode cX11_family 19 = .ok (.ireturn, 1) := by decide +kernel
set_option maxRecDepth 20000 in
theorem ggX11_game_X11_partsOf : GoodIn wsX11_game wsX11_partsOf := goodIn_ca (goodIn_r _ [7, 8, 9, 2, 10, 11, 12, 6, 13, 14, 15, 16, 17, 18, 19, 20, 21, 22, 23, 24, 25, 26, 27, 28, 29, 30, 31, 32, 33, 34, 35, 36, 37, 38, 39, 40, 41, 42, 43, 44, 45, 46, 47, 48, 86, 87, 88, 89, 90, 91, 92, 93, 94, 95, 96, 97, 98, 99, 100, 101, 102, 103, 104, 105, 106] (by decide +kernel) (by decide +kernel)) (goodIn_sub (fun _ h => List.mem_cons_of_mem _ (List.mem_append_right _ h)) (by decide +kernel))
set_option maxRecDepth 20000 in
theorem gX11_game_X11_partsOf : GoodIn wsX11_game (wsV RX11 168 RX11 yX11_partsOf wsX11_partsOf) := goodIn_app (goodIn_of _ (by decide +kernel)) ggX11_game_X11_partsOf
set_option maxRecDepth 20000 in
theorem ggX11_game_X3_alive : GoodIn wsX11_game wsX3_alive := goodIn_r _ [22, 23, 101, 102, 103] (by decide +kernel) (by decide +kernel)
set_option maxRecDepth 20000 in
theorem gX11_game_X3_alive : GoodIn wsX11_game (wsV RX11 171 RX3 yX3_alive wsX3_alive) := goodIn_app (goodIn_of _ (by decide +kernel)) ggX11_game_X3_alive
set_option maxRecDepth 20000 in
theorem ggX11_game_X5_winningPoint : GoodIn wsX11_game wsX5_winningPoint := goodIn_r _ [53, 54, 55, 56, 52, 57, 58, 59, 6, 60, 61, 62, 63, 32, 64, 35, 65, 41, 42, 43, 44, 66, 67, 68, 69, 70, 71, 72, 73, 74, 75, 76, 77, 78, 79, 80, 81, 82, 83, 84, 85, 107, 108, 109, 110, 111, 104, 105, 106] (by decide +kernel) (by decide +kernel)
set_option maxRecDepth 20000 in
theorem gX11_game_X5_winningPoint : GoodIn wsX11_game (wsV RX11 265 RX5 yX5_winningPoint wsX5_winningPoint) := goodIn_app (goodIn_of _ (by decide +kernel)) ggX11_game_X5_winningPoint
theorem dX11_game_0 : decode cX11_game 0 = .ok (.aload_n 0, 1) := by decide +kernel
theorem dX11_game_1 : decode cX11_game 1 = .ok (.getfield 52, 3) := by decide +kernel
theorem dX11_game_4 : decode cX11_game 4 = .ok (.aload_n 0, 1) := by decide +kernel
theorem dX11_game_5 : decode cX11_game 5 = .ok (.iload_n 1, 1) := by decide +kernel
theorem dX11_game_6 : decode cX11_game 6 = .ok (.invokevirtual 168, 3) := by decide +kernel
theorem dX11_game_9 : decode cX11_game 9 = .ok (.aload_n 0, 1) := by decide +kernel
theorem dX11_game_10 : decode cX11_game 10 = .ok (.getfield 12, 3) := by decide +kernel
theorem dX11_game_13 : decode cX11_game 13 = .ok (.invokevirtual 171, 3) := by decide +kernel
theorem dX11_game_16 : decode cX11_game 16 = .ok (.invokevirtual 265, 3) := by decide +kernel
theorem dX11_game_19 : decode cX11_game 19 = .ok (.ireturn, 1) := by decide +kernel
theorem dX11_familyOf_0 : decode cX11_familyOf 0 = .ok (.iload_n 1, 1) := by decide +kernel
theorem dX11_familyOf_1 : decode cX11_familyOf 1 = .ok (.ifCond .lt 20, 3) := by decide +kernel
theorem dX11_familyOf_4 : decode cX11_familyOf 4 = .ok (.iload_n 1, 1) := by decide +kernel
theorem dX11_familyOf_5 : decode cX11_familyOf 5 = .ok (.aload_n 0, 1) := by decide +kernel
theorem dX11_familyOf_6 : decode cX11_familyOf 6 = .ok (.getfield 108, 3) := by decide +kernel
theorem dX11_familyOf_9 : decode cX11_familyOf 9 = .ok (.if_icmp .ge 12, 3) := by decide +kernel
theorem dX11_familyOf_12 : decode cX11_familyOf 12 = .ok (.iload_n 1, 1) := by decide +kernel
theorem dX11_familyOf_13 : decode cX11_familyOf 13 = .ok (.aload_n 0, 1) := by decide +kernel
theorem dX11_familyOf_14 : decode cX11_familyOf 14 = .ok (.getfield 18, 3) := by decide +kernel
theorem dX11_familyOf_17 : decode cX11_familyOf 17 = .ok (.arraylength, 1) := by decide +kernel
theorem dX11_familyOf_18 : decode cX11_familyOf 18 = .ok (.if_icmp .lt 14, 3) := by decide +kernel
theorem dX11_familyOf_21 : decode cX11_familyOf 21 = .ok (.new 386, 3) := by decide +kernel
theorem dX11_familyOf_24 : decode cX11_familyOf 24 = .ok (.dup, 1) := by decide +kernel
theorem dX11_familyOf_25 : decode cX11_familyOf 25 = .ok (.ldc_w 388, 3) := by decide +kernel
theorem dX11_familyOf_28 : decode cX11_familyOf 28 = .ok (.invokespecial 390, 3) := by decide +kernel
theorem dX11_familyOf_31 : decode cX11_familyOf 31 = .ok (.athrow, 1) := by decide +kernel
theorem dX11_familyOf_32 : decode cX11_familyOf 32 = .ok (.aload_n 0, 1) := by decide +kernel
theorem dX11_familyOf_33 : decode cX11_familyOf 33 = .ok (.getfield 18, 3) := by decide +kernel
theorem dX11_familyOf_36 : decode cX11_familyOf 36 = .ok (.iload_n 1, 1) := by decide +kernel
theorem dX11_familyOf_37 : decode cX11_familyOf 37 = .ok (.aaload, 1) := by decide +kernel
theorem dX11_familyOf_38 : decode cX11_familyOf 38 = .ok (.areturn, 1) := by decide +kernel
set_option maxRecDepth 20000 in
theorem ggX11_partsOf_X11_familyOf : GoodIn wsX11_partsOf wsX11_familyOf := goodIn_ca (goodIn_r _ [8, 9, 10, 11, 12, 44, 45, 46, 47, 48, 49, 50, 51, 52, 53, 54, 55, 56, 57, 58] (by decide +kernel) (by decide +kernel)) (goodIn_sub (fun _ h => List.mem_cons_of_mem _ (List.mem_append_right _ h)) (by decide +kernel))
set_option maxRecDepth 20000 in
theorem gX11_partsOf_X11_familyOf : GoodIn wsX11_partsOf (wsV RX11 144 RX11 yX11_familyOf wsX11_familyOf) := goodIn_app (goodIn_of _ (by decide +kernel)) ggX11_partsOf_X11_familyOf
set_option maxRecDepth 20000 in
theorem ggX11_partsOf_X3_alive : GoodIn wsX11_partsOf wsX3_alive := goodIn_r _ [17, 18, 59, 60, 61] (by decide +kernel) (by decide +kernel)
set_option maxRecDepth 20000 in
theorem gX11_partsOf_X3_alive : GoodIn wsX11_partsOf (wsV RX11 171 RX3 yX3_alive wsX3_alive) := goodIn_app (goodIn_of _ (by decide +kernel)) ggX11_partsOf_X3_alive
set_option maxRecDepth 20000 in
theorem ggX11_partsOf_X1_partsInto : GoodIn wsX11_partsOf wsX1_partsInto := goodIn_r _ [23, 24, 25, 26, 27, 28, 29, 30, 31, 32, 33, 34, 35, 36, 37, 38, 39, 40, 41, 42, 43, 62, 63, 64] (by decide +kernel) (by decide +kernel)
set_option maxRecDepth 20000 in
theorem gX11_partsOf_X1_partsInto : GoodIn wsX11_partsOf (wsV RX11 391 RX1 yX1_partsInto wsX1_partsInto) := goodIn_app (goodIn_of _ (by decide +kernel)) ggX11_partsOf_X1_partsInto
theorem dX11_partsOf_0 : decode cX11_partsOf 0 = .ok (.aload_n 0, 1) := by decide +kernel
theorem dX11_partsOf_1 : decode cX11_partsOf 1 = .ok (.getfield 68, 3) := by decide +kernel
theorem dX11_partsOf_4 : decode cX11_partsOf 4 = .ok (.aload_n 0, 1) := by decide +kernel
theorem dX11_partsOf_5 : decode cX11_partsOf 5 = .ok (.getfield 23, 3) := by decide +kernel
theorem dX11_partsOf_8 : decode cX11_partsOf 8 = .ok (.aload_n 0, 1) := by decide +kernel
theorem dX11_partsOf_9 : decode cX11_partsOf 9 = .ok (.iload_n 1, 1) := by decide +kernel
theorem dX11_partsOf_10 : decode cX11_partsOf 10 = .ok (.invokevirtual 144, 3) := by decide +kernel
theorem dX11_partsOf_13 : decode cX11_partsOf 13 = .ok (.aload_n 0, 1) := by decide +kernel
theorem dX11_partsOf_14 : decode cX11_partsOf 14 = .ok (.getfield 12, 3) := by decide +kernel
theorem dX11_partsOf_17 : decode cX11_partsOf 17 = .ok (.invokevirtual 171, 3) := by decide +kernel
theorem dX11_partsOf_20 : decode cX11_partsOf 20 = .ok (.invokevirtual 391, 3) := by decide +kernel
theorem dX11_partsOf_23 : decode cX11_partsOf 23 = .ok (.aload_n 0, 1) := by decide +kernel
theorem dX11_partsOf_24 : decode cX11_partsOf 24 = .ok (.getfield 23, 3) := by decide +kernel
theorem dX11_partsOf_27 : decode cX11_partsOf 27 = .ok (.areturn, 1) := by decide +kernel
set_option maxRecDepth 20000 in
theorem ggX11_checkPoint_X3_knows : GoodIn wsX11_checkPoint wsX3_knows := goodIn_r _ [8, 9, 10, 26, 27, 28] (by decide +kernel) (by decide +kernel)
set_option maxRecDepth 20000 in
theorem gX11_checkPoint_X3_knows : GoodIn wsX11_checkPoint (wsV RX11 394 RX3 yX3_knows wsX3_knows) := goodIn_app (goodIn_of _ (by decide +kernel)) ggX11_checkPoint_X3_knows
theorem dX11_checkPoint_0 : decode cX11_checkPoint 0 = .ok (.aload_n 0, 1) := by decide +kernel
theorem dX11_checkPoint_1 : decode cX11_checkPoint 1 = .ok (.getfield 12, 3) := by decide +kernel
theorem dX11_checkPoint_4 : decode cX11_checkPoint 4 = .ok (.iload_n 1, 1) := by decide +kernel
theorem dX11_checkPoint_5 : decode cX11_checkPoint 5 = .ok (.invokevirtual 394, 3) := by decide +kernel
theorem dX11_checkPoint_8 : decode cX11_checkPoint 8 = .ok (.ifCond .ne 14, 3) := by decide +kernel
theorem dX11_checkPoint_11 : decode cX11_checkPoint 11 = .ok (.new 386, 3) := by decide +kernel
theorem dX11_checkPoint_14 : decode cX11_checkPoint 14 = .ok (.dup, 1) := by decide +kernel
theorem dX11_checkPoint_15 : decode cX11_checkPoint 15 = .ok (.ldc_w 397, 3) := by decide +kernel
theorem dX11_checkPoint_18 : decode cX11_checkPoint 18 = .ok (.invokespecial 390, 3) := by decide +kernel
theorem dX11_checkPoint_21 : decode cX11_checkPoint 21 = .ok (.athrow, 1) := by decide +kernel
theorem dX11_checkPoint_22 : decode cX11_checkPoint 22 = .ok (.return_, 1) := by decide +kernel
theorem dX11_checkRange_0 : decode cX11_checkRange 0 = .ok (.iload_n 1, 1) := by decide +kernel
theorem dX11_checkRange_1 : decode cX11_checkRange 1 = .ok (.iload_n 2, 1) := by decide +kernel
theorem dX11_checkRange_2 : decode cX11_checkRange 2 = .ok (.if_icmp .lt 8, 3) := by decide +kernel
theorem dX11_checkRange_5 : decode cX11_checkRange 5 = .ok (.iload_n 1, 1) := by decide +kernel
theorem dX11_checkRange_6 : decode cX11_checkRange 6 = .ok (.iload_n 3, 1) := by decide +kernel
theorem dX11_checkRange_7 : decode cX11_checkRange 7 = .ok (.if_icmp .le 14, 3) := by decide +kernel
theorem dX11_checkRange_10 : decode cX11_checkRange 10 = .ok (.new 213, 3) := by decide +kernel
theorem dX11_checkRange_13 : decode cX11_checkRange 13 = .ok (.dup, 1) := by decide +kernel
theorem dX11_checkRange_14 : decode cX11_checkRange 14 = .ok (.ldc_w 399, 3) := by decide +kernel
theorem dX11_checkRange_17 : decode cX11_checkRange 17 = .ok (.invokespecial 217, 3) := by decide +kernel
theorem dX11_checkRange_20 : decode cX11_checkRange 20 = .ok (.athrow, 1) := by decide +kernel
theorem dX11_checkRange_21 : decode cX11_checkRange 21 = .ok (.return_, 1) := by decide +kernel
theorem dX11_checkRoom_0 : decode cX11_checkRoom 0 = .ok (.aload_n 0, 1) := by decide +kernel
theorem dX11_checkRoom_1 : decode cX11_checkRoom 1 = .ok (.getfield 108, 3) := by decide +kernel
theorem dX11_checkRoom_4 : decode cX11_checkRoom 4 = .ok (.iconst 5, 1) := by decide +kernel
theorem dX11_checkRoom_5 : decode cX11_checkRoom 5 = .ok (.if_icmp .lt 14, 3) := by decide +kernel
theorem dX11_checkRoom_8 : decode cX11_checkRoom 8 = .ok (.new 158, 3) := by decide +kernel
theorem dX11_checkRoom_11 : decode cX11_checkRoom 11 = .ok (.dup, 1) := by decide +kernel
theorem dX11_checkRoom_12 : decode cX11_checkRoom 12 = .ok (.ldc_w 401, 3) := by decide +kernel
theorem dX11_checkRoom_15 : decode cX11_checkRoom 15 = .ok (.invokespecial 162, 3) := by decide +kernel
theorem dX11_checkRoom_18 : decode cX11_checkRoom 18 = .ok (.athrow, 1) := by decide +kernel
theorem dX11_checkRoom_19 : decode cX11_checkRoom 19 = .ok (.return_, 1) := by decide +kernel
set_option maxRecDepth 20000 in
theorem ggX11_keep_X7_many : GoodIn wsX11_keep wsX7_many := goodIn_r _ [7, 8, 43, 44, 45] (by decide +kernel) (by decide +kernel)
set_option maxRecDepth 20000 in
theorem gX11_keep_X7_many : GoodIn wsX11_keep (wsV RX11 155 RX7 yX7_many wsX7_many) := goodIn_app (goodIn_of _ (by decide +kernel)) ggX11_keep_X7_many
set_option maxRecDepth 20000 in
theorem ggX11_keep_X7_copy : GoodIn wsX11_keep wsX7_copy := goodIn_r _ [12, 13, 14, 15, 6, 16, 17, 8, 18, 4, 5, 7, 19, 20, 21, 22, 23, 24, 25, 26, 27, 43, 44, 45] (by decide +kernel) (by decide +kernel)
set_option maxRecDepth 20000 in
theorem gX11_keep_X7_copy : GoodIn wsX11_keep (wsV RX11 403 RX7 yX7_copy wsX7_copy) := goodIn_app (goodIn_of _ (by decide +kernel)) ggX11_keep_X7_copy
theorem dX11_keep_0 : decode cX11_keep 0 = .ok (.aload_n 0, 1) := by decide +kernel
theorem dX11_keep_1 : decode cX11_keep 1 = .ok (.getfield 108, 3) := by decide +kernel
theorem dX11_keep_4 : decode cX11_keep 4 = .ok (.ifCond .lt 24, 3) := by decide +kernel
theorem dX11_keep_7 : decode cX11_keep 7 = .ok (.aload_n 0, 1) := by decide +kernel
theorem dX11_keep_8 : decode cX11_keep 8 = .ok (.getfield 108, 3) := by decide +kernel
theorem dX11_keep_11 : decode cX11_keep 11 = .ok (.aload_n 0, 1) := by decide +kernel
theorem dX11_keep_12 : decode cX11_keep 12 = .ok (.getfield 18, 3) := by decide +kernel
theorem dX11_keep_15 : decode cX11_keep 15 = .ok (.arraylength, 1) := by decide +kernel
theorem dX11_keep_16 : decode cX11_keep 16 = .ok (.if_icmp .ge 12, 3) := by decide +kernel
theorem dX11_keep_19 : decode cX11_keep 19 = .ok (.aload_n 1, 1) := by decide +kernel
theorem dX11_keep_20 : decode cX11_keep 20 = .ok (.invokevirtual 155, 3) := by decide +kernel
theorem dX11_keep_23 : decode cX11_keep 23 = .ok (.bipush 40, 2) := by decide +kernel
theorem dX11_keep_25 : decode cX11_keep 25 = .ok (.if_icmp .le 6, 3) := by decide +kernel
theorem dX11_keep_28 : decode cX11_keep 28 = .ok (.bipush (-2), 2) := by decide +kernel
theorem dX11_keep_30 : decode cX11_keep 30 = .ok (.ireturn, 1) := by decide +kernel
theorem dX11_keep_31 : decode cX11_keep 31 = .ok (.aload_n 0, 1) := by decide +kernel
theorem dX11_keep_32 : decode cX11_keep 32 = .ok (.getfield 18, 3) := by decide +kernel
theorem dX11_keep_35 : decode cX11_keep 35 = .ok (.aload_n 0, 1) := by decide +kernel
theorem dX11_keep_36 : decode cX11_keep 36 = .ok (.getfield 108, 3) := by decide +kernel
theorem dX11_keep_39 : decode cX11_keep 39 = .ok (.aaload, 1) := by decide +kernel
theorem dX11_keep_40 : decode cX11_keep 40 = .ok (.aload_n 1, 1) := by decide +kernel
theorem dX11_keep_41 : decode cX11_keep 41 = .ok (.invokevirtual 403, 3) := by decide +kernel
theorem dX11_keep_44 : decode cX11_keep 44 = .ok (.aload_n 0, 1) := by decide +kernel
theorem dX11_keep_45 : decode cX11_keep 45 = .ok (.dup, 1) := by decide +kernel
theorem dX11_keep_46 : decode cX11_keep 46 = .ok (.getfield 108, 3) := by decide +kernel
theorem dX11_keep_49 : decode cX11_keep 49 = .ok (.iconst 1, 1) := by decide +kernel
theorem dX11_keep_50 : decode cX11_keep 50 = .ok (.iadd, 1) := by decide +kernel
theorem dX11_keep_51 : decode cX11_keep 51 = .ok (.putfield 108, 3) := by decide +kernel
theorem dX11_keep_54 : decode cX11_keep 54 = .ok (.aload_n 0, 1) := by decide +kernel
theorem dX11_keep_55 : decode cX11_keep 55 = .ok (.getfield 108, 3) := by decide +kernel
theorem dX11_keep_58 : decode cX11_keep 58 = .ok (.iconst 1, 1) := by decide +kernel
theorem dX11_keep_59 : decode cX11_keep 59 = .ok (.isub, 1) := by decide +kernel
theorem dX11_keep_60 : decode cX11_keep 60 = .ok (.ireturn, 1) := by decide +kernel
set_option maxRecDepth 20000 in
theorem ggX11_sizeOf_J6_bitCount_0f7a4 : GoodIn wsX11_sizeOf wsJ6_bitCount_0f7a4 := goodIn_r _ [4, 5, 6, 7] (by decide +kernel) (by decide +kernel)
set_option maxRecDepth 20000 in
theorem gX11_sizeOf_J6_bitCount_0f7a4 : GoodIn wsX11_sizeOf (va_wsS RX11 487 yJ6_bitCount_0f7a4 wsJ6_bitCount_0f7a4) := goodIn_app (goodIn_of _ (by decide +kernel)) ggX11_sizeOf_J6_bitCount_0f7a4
theorem dX11_sizeOf_0 : decode cX11_sizeOf 0 = .ok (.iload_n 0, 1) := by decide +kernel
theorem dX11_sizeOf_1 : decode cX11_sizeOf 1 = .ok (.invokestatic 487, 3) := by decide +kernel
theorem dX11_sizeOf_4 : decode cX11_sizeOf 4 = .ok (.ireturn, 1) := by decide +kernel
theorem dX11_isIn_0 : decode cX11_isIn 0 = .ok (.iload_n 0, 1) := by decide +kernel
theorem dX11_isIn_1 : decode cX11_isIn 1 = .ok (.iload_n 1, 1) := by decide +kernel
theorem dX11_isIn_2 : decode cX11_isIn 2 = .ok (.iconst (-1), 1) := by decide +kernel
theorem dX11_isIn_3 : decode cX11_isIn 3 = .ok (.ixor, 1) := by decide +kernel
theorem dX11_isIn_4 : decode cX11_isIn 4 = .ok (.iand, 1) := by decide +kernel
theorem dX11_isIn_5 : decode cX11_isIn 5 = .ok (.ifCond .ne 7, 3) := by decide +kernel
theorem dX11_isIn_8 : decode cX11_isIn 8 = .ok (.iconst 1, 1) := by decide +kernel
theorem dX11_isIn_9 : decode cX11_isIn 9 = .ok (.goto 4, 3) := by decide +kernel
theorem dX11_isIn_12 : decode cX11_isIn 12 = .ok (.iconst 0, 1) := by decide +kernel
theorem dX11_isIn_13 : decode cX11_isIn 13 = .ok (.ireturn, 1) := by decide +kernel
theorem dX12_init_0 : decode cX12_init 0 = .ok (.aload_n 0, 1) := by decide +kernel
theorem dX12_init_1 : decode cX12_init 1 = .ok (.invokespecial 1, 3) := by decide +kernel
theorem dX12_init_4 : decode cX12_init 4 = .ok (.return_, 1) := by decide +kernel
set_option maxRecDepth 20000 in
theorem ggX14_init_Jx4a65c_init_da8c8 : GoodIn wsX14_init wsJx4a65c_init_da8c8 := goodIn_r _ [18, 19, 20, 21, 22, 23, 24, 25, 26, 27, 28, 29, 30, 2, 3, 40, 41, 42] (by decide +kernel) (by decide +kernel)
set_option maxRecDepth 20000 in
theorem gX14_init_Jx4a65c_init_da8c8 : GoodIn wsX14_init (wsJx4a65c_init_da8c8) := ggX14_init_Jx4a65c_init_da8c8
theorem dX14_init_0 : decode cX14_init 0 = .ok (.aload_n 0, 1) := by decide +kernel
theorem dX14_init_1 : decode cX14_init 1 = .ok (.invokespecial 1, 3) := by decide +kernel
theorem dX14_init_4 : decode cX14_init 4 = .ok (.aload_n 0, 1) := by decide +kernel
theorem dX14_init_5 : decode cX14_init 5 = .ok (.iconst 4, 1) := by decide +kernel
theorem dX14_init_6 : decode cX14_init 6 = .ok (.putfield 7, 3) := by decide +kernel
theorem dX14_init_9 : decode cX14_init 9 = .ok (.aload_n 0, 1) := by decide +kernel
theorem dX14_init_10 : decode cX14_init 10 = .ok (.iconst 4, 1) := by decide +kernel
theorem dX14_init_11 : decode cX14_init 11 = .ok (.newarray .int, 2) := by decide +kernel
theorem dX14_init_13 : decode cX14_init 13 = .ok (.dup, 1) := by decide +kernel
theorem dX14_init_14 : decode cX14_init 14 = .ok (.iconst 0, 1) := by decide +kernel
theorem dX14_init_15 : decode cX14_init 15 = .ok (.iconst 1, 1) := by decide +kernel
theorem dX14_init_16 : decode cX14_init 16 = .ok (.iastore, 1) := by decide +kernel
theorem dX14_init_17 : decode cX14_init 17 = .ok (.dup, 1) := by decide +kernel
theorem dX14_init_18 : decode cX14_init 18 = .ok (.iconst 1, 1) := by decide +kernel
theorem dX14_init_19 : decode cX14_init 19 = .ok (.iconst 1, 1) := by decide +kernel
theorem dX14_init_20 : decode cX14_init 20 = .ok (.iastore, 1) := by decide +kernel
theorem dX14_init_21 : decode cX14_init 21 = .ok (.dup, 1) := by decide +kernel
theorem dX14_init_22 : decode cX14_init 22 = .ok (.iconst 2, 1) := by decide +kernel
theorem dX14_init_23 : decode cX14_init 23 = .ok (.iconst 1, 1) := by decide +kernel
theorem dX14_init_24 : decode cX14_init 24 = .ok (.iastore, 1) := by decide +kernel
theorem dX14_init_25 : decode cX14_init 25 = .ok (.dup, 1) := by decide +kernel
theorem dX14_init_26 : decode cX14_init 26 = .ok (.iconst 3, 1) := by decide +kernel
theorem dX14_init_27 : decode cX14_init 27 = .ok (.iconst 1, 1) := by decide +kernel
theorem dX14_init_28 : decode cX14_init 28 = .ok (.iastore, 1) := by decide +kernel
theorem dX14_init_29 : decode cX14_init 29 = .ok (.putfield 13, 3) := by decide +kernel
theorem dX14_init_32 : decode cX14_init 32 = .ok (.aload_n 0, 1) := by decide +kernel
theorem dX14_init_33 : decode cX14_init 33 = .ok (.new 17, 3) := by decide +kernel
theorem dX14_init_36 : decode cX14_init 36 = .ok (.dup, 1) := by decide +kernel
theorem dX14_init_37 : decode cX14_init 37 = .ok (.invokespecial 19, 3) := by decide +kernel
theorem dX14_init_40 : decode cX14_init 40 = .ok (.putfield 20, 3) := by decide +kernel
theorem dX14_init_43 : decode cX14_init 43 = .ok (.aload_n 0, 1) := by decide +kernel
theorem dX14_init_44 : decode cX14_init 44 = .ok (.sipush 128, 3) := by decide +kernel
theorem dX14_init_47 : decode cX14_init 47 = .ok (.newarray .boolean, 2) := by decide +kernel
theorem dX14_init_49 : decode cX14_init 49 = .ok (.putfield 24, 3) := by decide +kernel
theorem dX14_init_52 : decode cX14_init 52 = .ok (.aload_n 0, 1) := by decide +kernel
theorem dX14_init_53 : decode cX14_init 53 = .ok (.sipush 128, 3) := by decide +kernel
theorem dX14_init_56 : decode cX14_init 56 = .ok (.newarray .long, 2) := by decide +kernel
theorem dX14_init_58 : decode cX14_init 58 = .ok (.putfield 28, 3) := by decide +kernel
theorem dX14_init_61 : decode cX14_init 61 = .ok (.aload_n 0, 1) := by decide +kernel
theorem dX14_init_62 : decode cX14_init 62 = .ok (.sipush 128, 3) := by decide +kernel
theorem dX14_init_65 : decode cX14_init 65 = .ok (.newarray .long, 2) := by decide +kernel
theorem dX14_init_67 : decode cX14_init 67 = .ok (.putfield 32, 3) := by decide +kernel
theorem dX14_init_70 : decode cX14_init 70 = .ok (.return_, 1) := by decide +kernel
theorem dX14_is_0 : decode cX14_is 0 = .ok (.iload_n 0, 1) := by decide +kernel
theorem dX14_is_1 : decode cX14_is 1 = .ok (.iload_n 1, 1) := by decide +kernel
theorem dX14_is_2 : decode cX14_is 2 = .ok (.if_icmp .lt 12, 3) := by decide +kernel
theorem dX14_is_5 : decode cX14_is 5 = .ok (.iload_n 0, 1) := by decide +kernel
theorem dX14_is_6 : decode cX14_is 6 = .ok (.iload_n 2, 1) := by decide +kernel
theorem dX14_is_7 : decode cX14_is 7 = .ok (.if_icmp .gt 7, 3) := by decide +kernel
theorem dX14_is_10 : decode cX14_is 10 = .ok (.iconst 1, 1) := by decide +kernel
theorem dX14_is_11 : decode cX14_is 11 = .ok (.goto 4, 3) := by decide +kernel
theorem dX14_is_14 : decode cX14_is 14 = .ok (.iconst 0, 1) := by decide +kernel
theorem dX14_is_15 : decode cX14_is 15 = .ok (.ireturn, 1) := by decide +kernel
set_option maxRecDepth 20000 in
theorem ggX14_isFamily_Jx4a65c_size_8abf5 : GoodIn wsX14_isFamily wsJx4a65c_size_8abf5 := goodIn_r _ [6, 7, 21, 22, 23] (by decide +kernel) (by decide +kernel)
set_option maxRecDepth 20000 in
theorem gX14_isFamily_Jx4a65c_size_8abf5 : GoodIn wsX14_isFamily (wsV RX14 38 RJx4a65c yJx4a65c_size_8abf5 wsJx4a65c_size_8abf5) := goodIn_app (goodIn_of _ (by decide +kernel)) ggX14_isFamily_Jx4a65c_size_8abf5
set_option maxRecDepth 20000 in
theorem ggX14_isFamily_X14_is : GoodIn wsX14_isFamily wsX14_is := goodIn_r _ [11] (by decide +kernel) (by decide +kernel)
set_option maxRecDepth 20000 in
theorem gX14_isFamily_X14_is : GoodIn wsX14_isFamily (va_wsS RX14 42 yX14_is wsX14_is) := goodIn_app (goodIn_of _ (by decide +kernel)) ggX14_isFamily_X14_is
theorem dX14_isFamily_0 : decode cX14_isFamily 0 = .ok (.iload_n 1, 1) := by decide +kernel
theorem dX14_isFamily_1 : decode cX14_isFamily 1 = .ok (.iconst 0, 1) := by decide +kernel
theorem dX14_isFamily_2 : decode cX14_isFamily 2 = .ok (.aload_n 0, 1) := by decide +kernel
theorem dX14_isFamily_3 : decode cX14_isFamily 3 = .ok (.getfield 20, 3) := by decide +kernel
theorem dX14_isFamily_6 : decode cX14_isFamily 6 = .ok (.invokevirtual 38, 3) := by decide +kernel
theorem dX14_isFamily_9 : decode cX14_isFamily 9 = .ok (.iconst 1, 1) := by decide +kernel
theorem dX14_isFamily_10 : decode cX14_isFamily 10 = .ok (.isub, 1) := by decide +kernel
theorem dX14_isFamily_11 : decode cX14_isFamily 11 = .ok (.invokestatic 42, 3) := by decide +kernel
theorem dX14_isFamily_14 : decode cX14_isFamily 14 = .ok (.ireturn, 1) := by decide +kernel
theorem dX14_all_0 : decode cX14_all 0 = .ok (.iconst 1, 1) := by decide +kernel
theorem dX14_all_1 : decode cX14_all 1 = .ok (.aload_n 0, 1) := by decide +kernel
theorem dX14_all_2 : decode cX14_all 2 = .ok (.getfield 7, 3) := by decide +kernel
theorem dX14_all_5 : decode cX14_all 5 = .ok (.ishl, 1) := by decide +kernel
theorem dX14_all_6 : decode cX14_all 6 = .ok (.ireturn, 1) := by decide +kernel
set_option maxRecDepth 20000 in
theorem ggX14_isPoint_X14_is : GoodIn wsX14_isPoint wsX14_is := goodIn_r _ [5] (by decide +kernel) (by decide +kernel)
set_option maxRecDepth 20000 in
theorem gX14_isPoint_X14_is : GoodIn wsX14_isPoint (va_wsS RX14 42 yX14_is wsX14_is) := goodIn_app (goodIn_of _ (by decide +kernel)) ggX14_isPoint_X14_is
theorem dX14_isPoint_0 : decode cX14_isPoint 0 = .ok (.iload_n 1, 1) := by decide +kernel
theorem dX14_isPoint_1 : decode cX14_isPoint 1 = .ok (.iconst 0, 1) := by decide +kernel
theorem dX14_isPoint_2 : decode cX14_isPoint 2 = .ok (.aload_n 0, 1) := by decide +kernel
theorem dX14_isPoint_3 : decode cX14_isPoint 3 = .ok (.getfield 7, 3) := by decide +kernel
theorem dX14_isPoint_6 : decode cX14_isPoint 6 = .ok (.iconst 1, 1) := by decide +kernel
theorem dX14_isPoint_7 : decode cX14_isPoint 7 = .ok (.isub, 1) := by decide +kernel
theorem dX14_isPoint_8 : decode cX14_isPoint 8 = .ok (.invokestatic 42, 3) := by decide +kernel
theorem dX14_isPoint_11 : decode cX14_isPoint 11 = .ok (.ireturn, 1) := by decide +kernel
set_option maxRecDepth 20000 in
theorem ggX14_alive_X14_all : GoodIn wsX14_alive wsX14_all := goodIn_r _ [6, 7, 8, 9, 10, 11, 12, 13, 14, 15, 16] (by decide +kernel) (by decide +kernel)
set_option maxRecDepth 20000 in
theorem gX14_alive_X14_all : GoodIn wsX14_alive (wsV RX14 46 RX14 yX14_all wsX14_all) := goodIn_app (goodIn_of _ (by decide +kernel)) ggX14_alive_X14_all
theorem dX14_alive_0 : decode cX14_alive 0 = .ok (.aload_n 0, 1) := by decide +kernel
theorem dX14_alive_1 : decode cX14_alive 1 = .ok (.invokevirtual 46, 3) := by decide +kernel
theorem dX14_alive_4 : decode cX14_alive 4 = .ok (.iconst 1, 1) := by decide +kernel
theorem dX14_alive_5 : decode cX14_alive 5 = .ok (.isub, 1) := by decide +kernel
theorem dX14_alive_6 : decode cX14_alive 6 = .ok (.aload_n 0, 1) := by decide +kernel
theorem dX14_alive_7 : decode cX14_alive 7 = .ok (.getfield 49, 3) := by decide +kernel
theorem dX14_alive_10 : decode cX14_alive 10 = .ok (.iconst (-1), 1) := by decide +kernel
theorem dX14_alive_11 : decode cX14_alive 11 = .ok (.ixor, 1) := by decide +kernel
theorem dX14_alive_12 : decode cX14_alive 12 = .ok (.iand, 1) := by decide +kernel
theorem dX14_alive_13 : decode cX14_alive 13 = .ok (.ireturn, 1) := by decide +kernel
set_option maxRecDepth 20000 in
theorem ggX14_aliveMany_X14_alive : GoodIn wsX14_aliveMany wsX14_alive := goodIn_r _ [5, 6, 7, 8, 9, 4, 10, 11, 19, 20, 21, 22, 23, 24, 25, 26, 27] (by decide +kernel) (by decide +kernel)
set_option maxRecDepth 20000 in
theorem gX14_aliveMany_X14_alive : GoodIn wsX14_aliveMany (wsV RX14 52 RX14 yX14_alive wsX14_alive) := goodIn_app (goodIn_of _ (by decide +kernel)) ggX14_aliveMany_X14_alive
set_option maxRecDepth 20000 in
theorem ggX14_aliveMany_J6_bitCount_0f7a4 : GoodIn wsX14_aliveMany wsJ6_bitCount_0f7a4 := goodIn_r _ [15, 16, 17, 18] (by decide +kernel) (by decide +kernel)
set_option maxRecDepth 20000 in
theorem gX14_aliveMany_J6_bitCount_0f7a4 : GoodIn wsX14_aliveMany (va_wsS RX14 55 yJ6_bitCount_0f7a4 wsJ6_bitCount_0f7a4) := goodIn_app (goodIn_of _ (by decide +kernel)) ggX14_aliveMany_J6_bitCount_0f7a4
theorem dX14_aliveMany_0 : decode cX14_aliveMany 0 = .ok (.aload_n 0, 1) := by decide +kernel
theorem dX14_aliveMany_1 : decode cX14_aliveMany 1 = .ok (.invokevirtual 52, 3) := by decide +kernel
theorem dX14_aliveMany_4 : decode cX14_aliveMany 4 = .ok (.invokestatic 55, 3) := by decide +kernel
theorem dX14_aliveMany_7 : decode cX14_aliveMany 7 = .ok (.ireturn, 1) := by decide +kernel
set_option maxRecDepth 20000 in
theorem ggX14_empty_X14_all : GoodIn wsX14_empty wsX14_all := goodIn_r _ [6, 7, 8, 9, 10, 11, 12, 13, 14, 15, 16] (by decide +kernel) (by decide +kernel)
set_option maxRecDepth 20000 in
theorem gX14_empty_X14_all : GoodIn wsX14_empty (wsV RX14 46 RX14 yX14_all wsX14_all) := goodIn_app (goodIn_of _ (by decide +kernel)) ggX14_empty_X14_all
theorem dX14_empty_0 : decode cX14_empty 0 = .ok (.aload_n 0, 1) := by decide +kernel
theorem dX14_empty_1 : decode cX14_empty 1 = .ok (.invokevirtual 46, 3) := by decide +kernel
theorem dX14_empty_4 : decode cX14_empty 4 = .ok (.newarray .boolean, 2) := by decide +kernel
theorem dX14_empty_6 : decode cX14_empty 6 = .ok (.areturn, 1) := by decide +kernel
set_option maxRecDepth 20000 in
theorem ggX14_ground_X14_is : GoodIn wsX14_ground wsX14_is := goodIn_r _ [10] (by decide +kernel) (by decide +kernel)
set_option maxRecDepth 20000 in
theorem gX14_ground_X14_is : GoodIn wsX14_ground (va_wsS RX14 42 yX14_is wsX14_is) := goodIn_app (goodIn_of _ (by decide +kernel)) ggX14_ground_X14_is
set_option maxRecDepth 20000 in
theorem ggX14_ground_Jx4a65c_clear_da8c8 : GoodIn wsX14_ground wsJx4a65c_clear_da8c8 := goodIn_r _ [19, 20, 21, 22, 23, 37, 38, 39] (by decide +kernel) (by decide +kernel)
set_option maxRecDepth 20000 in
theorem gX14_ground_Jx4a65c_clear_da8c8 : GoodIn wsX14_ground (wsV RX14 68 RJx4a65c yJx4a65c_clear_da8c8 wsJx4a65c_clear_da8c8) := goodIn_app (goodIn_of _ (by decide +kernel)) ggX14_ground_Jx4a65c_clear_da8c8
set_option maxRecDepth 20000 in
theorem ggX14_ground_X14_all : GoodIn wsX14_ground wsX14_all := goodIn_r _ [27, 2, 28, 29, 30, 31, 32, 33, 34, 35, 36] (by decide +kernel) (by decide +kernel)
set_option maxRecDepth 20000 in
theorem gX14_ground_X14_all : GoodIn wsX14_ground (wsV RX14 46 RX14 yX14_all wsX14_all) := goodIn_app (goodIn_of _ (by decide +kernel)) ggX14_ground_X14_all
theorem dX14_ground_0 : decode cX14_ground 0 = .ok (.aload_n 0, 1) := by decide +kernel
theorem dX14_ground_1 : decode cX14_ground 1 = .ok (.iconst 0, 1) := by decide +kernel
theorem dX14_ground_2 : decode cX14_ground 2 = .ok (.putfield 35, 3) := by decide +kernel
theorem dX14_ground_5 : decode cX14_ground 5 = .ok (.iload_n 1, 1) := by decide +kernel
theorem dX14_ground_6 : decode cX14_ground 6 = .ok (.iconst 2, 1) := by decide +kernel
theorem dX14_ground_7 : decode cX14_ground 7 = .ok (.bipush 7, 2) := by decide +kernel
theorem dX14_ground_9 : decode cX14_ground 9 = .ok (.invokestatic 42, 3) := by decide +kernel
theorem dX14_ground_12 : decode cX14_ground 12 = .ok (.ifCond .ne 9, 3) := by decide +kernel
theorem dX14_ground_15 : decode cX14_ground 15 = .ok (.aload_n 0, 1) := by decide +kernel
theorem dX14_ground_16 : decode cX14_ground 16 = .ok (.iconst 1, 1) := by decide +kernel
theorem dX14_ground_17 : decode cX14_ground 17 = .ok (.invokevirtual 65, 3) := by decide +kernel
theorem dX14_ground_20 : decode cX14_ground 20 = .ok (.ireturn, 1) := by decide +kernel
theorem dX14_ground_21 : decode cX14_ground 21 = .ok (.aload_n 0, 1) := by decide +kernel
theorem dX14_ground_22 : decode cX14_ground 22 = .ok (.iload_n 1, 1) := by decide +kernel
theorem dX14_ground_23 : decode cX14_ground 23 = .ok (.putfield 7, 3) := by decide +kernel
theorem dX14_ground_26 : decode cX14_ground 26 = .ok (.aload_n 0, 1) := by decide +kernel
theorem dX14_ground_27 : decode cX14_ground 27 = .ok (.iload_n 1, 1) := by decide +kernel
theorem dX14_ground_28 : decode cX14_ground 28 = .ok (.newarray .int, 2) := by decide +kernel
theorem dX14_ground_30 : decode cX14_ground 30 = .ok (.putfield 13, 3) := by decide +kernel
theorem dX14_ground_33 : decode cX14_ground 33 = .ok (.iconst 0, 1) := by decide +kernel
theorem dX14_ground_34 : decode cX14_ground 34 = .ok (.istore_n 2, 1) := by decide +kernel
theorem dX14_ground_35 : decode cX14_ground 35 = .ok (.iload_n 2, 1) := by decide +kernel
theorem dX14_ground_36 : decode cX14_ground 36 = .ok (.iload_n 1, 1) := by decide +kernel
theorem dX14_ground_37 : decode cX14_ground 37 = .ok (.if_icmp .ge 16, 3) := by decide +kernel
theorem dX14_ground_40 : decode cX14_ground 40 = .ok (.aload_n 0, 1) := by decide +kernel
theorem dX14_ground_41 : decode cX14_ground 41 = .ok (.getfield 13, 3) := by decide +kernel
theorem dX14_ground_44 : decode cX14_ground 44 = .ok (.iload_n 2, 1) := by decide +kernel
theorem dX14_ground_45 : decode cX14_ground 45 = .ok (.iconst 1, 1) := by decide +kernel
theorem dX14_ground_46 : decode cX14_ground 46 = .ok (.iastore, 1) := by decide +kernel
theorem dX14_ground_47 : decode cX14_ground 47 = .ok (.iinc 2 1, 3) := by decide +kernel
theorem dX14_ground_50 : decode cX14_ground 50 = .ok (.goto (-15), 3) := by decide +kernel
theorem dX14_ground_53 : decode cX14_ground 53 = .ok (.aload_n 0, 1) := by decide +kernel
theorem dX14_ground_54 : decode cX14_ground 54 = .ok (.iconst 0, 1) := by decide +kernel
theorem dX14_ground_55 : decode cX14_ground 55 = .ok (.putfield 49, 3) := by decide +kernel
theorem dX14_ground_58 : decode cX14_ground 58 = .ok (.aload_n 0, 1) := by decide +kernel
theorem dX14_ground_59 : decode cX14_ground 59 = .ok (.getfield 20, 3) := by decide +kernel
theorem dX14_ground_62 : decode cX14_ground 62 = .ok (.invokevirtual 68, 3) := by decide +kernel
theorem dX14_ground_65 : decode cX14_ground 65 = .ok (.aload_n 0, 1) := by decide +kernel
theorem dX14_ground_66 : decode cX14_ground 66 = .ok (.invokevirtual 46, 3) := by decide +kernel
theorem dX14_ground_69 : decode cX14_ground 69 = .ok (.ireturn, 1) := by decide +kernel
set_option maxRecDepth 20000 in
theorem ggX14_die_X14_isPoint : GoodIn wsX14_die wsX14_isPoint := goodIn_r _ [7, 8, 9, 10, 6, 11, 35, 36, 37, 38, 39, 40, 41, 42, 43] (by decide +kernel) (by decide +kernel)
set_option maxRecDepth 20000 in
theorem gX14_die_X14_isPoint : GoodIn wsX14_die (wsV RX14 71 RX14 yX14_isPoint wsX14_isPoint) := goodIn_app (goodIn_of _ (by decide +kernel)) ggX14_die_X14_isPoint
set_option maxRecDepth 20000 in
theorem ggX14_die_X14_aliveMany : GoodIn wsX14_die wsX14_aliveMany := goodIn_r _ [19, 20, 21, 22, 6, 23, 2, 24, 25, 26, 27, 8, 28, 29, 30, 31, 32, 33, 34, 35, 36, 37, 38, 39, 40, 41, 42, 43] (by decide +kernel) (by decide +kernel)
set_option maxRecDepth 20000 in
theorem gX14_die_X14_aliveMany : GoodIn wsX14_die (wsV RX14 75 RX14 yX14_aliveMany wsX14_aliveMany) := goodIn_app (goodIn_of _ (by decide +kernel)) ggX14_die_X14_aliveMany
theorem dX14_die_0 : decode cX14_die 0 = .ok (.aload_n 0, 1) := by decide +kernel
theorem dX14_die_1 : decode cX14_die 1 = .ok (.iconst 0, 1) := by decide +kernel
theorem dX14_die_2 : decode cX14_die 2 = .ok (.putfield 35, 3) := by decide +kernel
theorem dX14_die_5 : decode cX14_die 5 = .ok (.aload_n 0, 1) := by decide +kernel
theorem dX14_die_6 : decode cX14_die 6 = .ok (.iload_n 1, 1) := by decide +kernel
theorem dX14_die_7 : decode cX14_die 7 = .ok (.invokevirtual 71, 3) := by decide +kernel
theorem dX14_die_10 : decode cX14_die 10 = .ok (.ifCond .ne 9, 3) := by decide +kernel
theorem dX14_die_13 : decode cX14_die 13 = .ok (.aload_n 0, 1) := by decide +kernel
theorem dX14_die_14 : decode cX14_die 14 = .ok (.iconst 1, 1) := by decide +kernel
theorem dX14_die_15 : decode cX14_die 15 = .ok (.invokevirtual 65, 3) := by decide +kernel
theorem dX14_die_18 : decode cX14_die 18 = .ok (.ireturn, 1) := by decide +kernel
theorem dX14_die_19 : decode cX14_die 19 = .ok (.aload_n 0, 1) := by decide +kernel
theorem dX14_die_20 : decode cX14_die 20 = .ok (.iload_n 2, 1) := by decide +kernel
theorem dX14_die_21 : decode cX14_die 21 = .ok (.ifCond .eq 14, 3) := by decide +kernel
theorem dX14_die_24 : decode cX14_die 24 = .ok (.aload_n 0, 1) := by decide +kernel
theorem dX14_die_25 : decode cX14_die 25 = .ok (.getfield 49, 3) := by decide +kernel
theorem dX14_die_28 : decode cX14_die 28 = .ok (.iconst 1, 1) := by decide +kernel
theorem dX14_die_29 : decode cX14_die 29 = .ok (.iload_n 1, 1) := by decide +kernel
theorem dX14_die_30 : decode cX14_die 30 = .ok (.ishl, 1) := by decide +kernel
theorem dX14_die_31 : decode cX14_die 31 = .ok (.ior, 1) := by decide +kernel
theorem dX14_die_32 : decode cX14_die 32 = .ok (.goto 13, 3) := by decide +kernel
theorem dX14_die_35 : decode cX14_die 35 = .ok (.aload_n 0, 1) := by decide +kernel
theorem dX14_die_36 : decode cX14_die 36 = .ok (.getfield 49, 3) := by decide +kernel
theorem dX14_die_39 : decode cX14_die 39 = .ok (.iconst 1, 1) := by decide +kernel
theorem dX14_die_40 : decode cX14_die 40 = .ok (.iload_n 1, 1) := by decide +kernel
theorem dX14_die_41 : decode cX14_die 41 = .ok (.ishl, 1) := by decide +kernel
theorem dX14_die_42 : decode cX14_die 42 = .ok (.iconst (-1), 1) := by decide +kernel
theorem dX14_die_43 : decode cX14_die 43 = .ok (.ixor, 1) := by decide +kernel
theorem dX14_die_44 : decode cX14_die 44 = .ok (.iand, 1) := by decide +kernel
theorem dX14_die_45 : decode cX14_die 45 = .ok (.putfield 49, 3) := by decide +kernel
theorem dX14_die_48 : decode cX14_die 48 = .ok (.aload_n 0, 1) := by decide +kernel
theorem dX14_die_49 : decode cX14_die 49 = .ok (.invokevirtual 75, 3) := by decide +kernel
theorem dX14_die_52 : decode cX14_die 52 = .ok (.ireturn, 1) := by decide +kernel
set_option maxRecDepth 20000 in
theorem ggX14_family_Jx4a65c_size_8abf5 : GoodIn wsX14_family wsJx4a65c_size_8abf5 := goodIn_r _ [7, 8, 87, 88, 89] (by decide +kernel) (by decide +kernel)
set_option maxRecDepth 20000 in
theorem gX14_family_Jx4a65c_size_8abf5 : GoodIn wsX14_family (wsV RX14 38 RJx4a65c yJx4a65c_size_8abf5 wsJx4a65c_size_8abf5) := goodIn_app (goodIn_of _ (by decide +kernel)) ggX14_family_Jx4a65c_size_8abf5
set_option maxRecDepth 20000 in
theorem ggX14_family_X14_empty : GoodIn wsX14_family wsX14_empty := goodIn_r _ [17, 18, 19, 20, 21, 12, 22, 23, 78, 79, 80, 81, 82, 83, 84, 85, 86] (by decide +kernel) (by decide +kernel)
set_option maxRecDepth 20000 in
theorem gX14_family_X14_empty : GoodIn wsX14_family (wsV RX14 78 RX14 yX14_empty wsX14_empty) := goodIn_app (goodIn_of _ (by decide +kernel)) ggX14_family_X14_empty
set_option maxRecDepth 20000 in
theorem ggX14_family_Jx4a65c_add_9ea2d : GoodIn wsX14_family wsJx4a65c_add_9ea2d := goodIn_r _ [27, 28, 29, 30, 8, 31, 32, 33, 6, 34, 35, 36, 37, 38, 39, 40, 41, 42, 43, 44, 45, 46, 47, 48, 49, 50, 51, 52, 53, 54, 55, 56, 57, 58, 59, 60, 61, 62, 63, 64, 65, 66, 67, 68, 69, 70, 71, 72, 73, 74, 75, 76, 77, 87, 88, 89] (by decide +kernel) (by decide +kernel)
set_option maxRecDepth 20000 in
theorem gX14_family_Jx4a65c_add_9ea2d : GoodIn wsX14_family (wsV RX14 82 RJx4a65c yJx4a65c_add_9ea2d wsJx4a65c_add_9ea2d) := goodIn_app (goodIn_of _ (by decide +kernel)) ggX14_family_Jx4a65c_add_9ea2d
theorem dX14_family_0 : decode cX14_family 0 = .ok (.aload_n 0, 1) := by decide +kernel
theorem dX14_family_1 : decode cX14_family 1 = .ok (.iconst 0, 1) := by decide +kernel
theorem dX14_family_2 : decode cX14_family 2 = .ok (.putfield 35, 3) := by decide +kernel
theorem dX14_family_5 : decode cX14_family 5 = .ok (.aload_n 0, 1) := by decide +kernel
theorem dX14_family_6 : decode cX14_family 6 = .ok (.getfield 20, 3) := by decide +kernel
theorem dX14_family_9 : decode cX14_family 9 = .ok (.invokevirtual 38, 3) := by decide +kernel
theorem dX14_family_12 : decode cX14_family 12 = .ok (.iconst 5, 1) := by decide +kernel
theorem dX14_family_13 : decode cX14_family 13 = .ok (.if_icmp .ne 9, 3) := by decide +kernel
theorem dX14_family_16 : decode cX14_family 16 = .ok (.aload_n 0, 1) := by decide +kernel
theorem dX14_family_17 : decode cX14_family 17 = .ok (.iconst 1, 1) := by decide +kernel
theorem dX14_family_18 : decode cX14_family 18 = .ok (.invokevirtual 65, 3) := by decide +kernel
theorem dX14_family_21 : decode cX14_family 21 = .ok (.ireturn, 1) := by decide +kernel
theorem dX14_family_22 : decode cX14_family 22 = .ok (.aload_n 0, 1) := by decide +kernel
theorem dX14_family_23 : decode cX14_family 23 = .ok (.getfield 20, 3) := by decide +kernel
theorem dX14_family_26 : decode cX14_family 26 = .ok (.aload_n 0, 1) := by decide +kernel
theorem dX14_family_27 : decode cX14_family 27 = .ok (.invokevirtual 78, 3) := by decide +kernel
theorem dX14_family_30 : decode cX14_family 30 = .ok (.invokevirtual 82, 3) := by decide +kernel
theorem dX14_family_33 : decode cX14_family 33 = .ok (.pop, 1) := by decide +kernel
theorem dX14_family_34 : decode cX14_family 34 = .ok (.aload_n 0, 1) := by decide +kernel
theorem dX14_family_35 : decode cX14_family 35 = .ok (.getfield 20, 3) := by decide +kernel
theorem dX14_family_38 : decode cX14_family 38 = .ok (.invokevirtual 38, 3) := by decide +kernel
theorem dX14_family_41 : decode cX14_family 41 = .ok (.iconst 1, 1) := by decide +kernel
theorem dX14_family_42 : decode cX14_family 42 = .ok (.isub, 1) := by decide +kernel
theorem dX14_family_43 : decode cX14_family 43 = .ok (.ireturn, 1) := by decide +kernel
set_option maxRecDepth 20000 in
theorem ggX14_parts_Jx4a65c_get_915e3 : GoodIn wsX14_parts wsJx4a65c_get_915e3 := goodIn_r _ [8, 9, 10, 11, 12, 13, 14, 15, 16, 17, 18, 19, 20, 7, 21, 22, 43, 44, 45] (by decide +kernel) (by decide +kernel)
set_option maxRecDepth 20000 in
theorem gX14_parts_Jx4a65c_get_915e3 : GoodIn wsX14_parts (wsV RX14 96 RJx4a65c yJx4a65c_get_915e3 wsJx4a65c_get_915e3) := goodIn_app (goodIn_of _ (by decide +kernel)) ggX14_parts_Jx4a65c_get_915e3
set_option maxRecDepth 20000 in
theorem ggX14_parts_X14_empty : GoodIn wsX14_parts wsX14_empty := goodIn_r _ [27, 28, 29, 30, 31, 26, 32, 33, 34, 35, 36, 37, 38, 39, 40, 41, 42] (by decide +kernel) (by decide +kernel)
set_option maxRecDepth 20000 in
theorem gX14_parts_X14_empty : GoodIn wsX14_parts (wsV RX14 78 RX14 yX14_empty wsX14_empty) := goodIn_app (goodIn_of _ (by decide +kernel)) ggX14_parts_X14_empty
set_option maxRecDepth 20000 in
theorem ggX14_parts_X14_all : GoodIn wsX14_parts wsX14_all := goodIn_r _ [32, 33, 34, 35, 36, 37, 38, 39, 40, 41, 42] (by decide +kernel) (by decide +kernel)
set_option maxRecDepth 20000 in
theorem gX14_parts_X14_all : GoodIn wsX14_parts (wsV RX14 46 RX14 yX14_all wsX14_all) := goodIn_app (goodIn_of _ (by decide +kernel)) ggX14_parts_X14_all
theorem dX14_parts_0 : decode cX14_parts 0 = .ok (.aload_n 0, 1) := by decide +kernel
theorem dX14_parts_1 : decode cX14_parts 1 = .ok (.getfield 20, 3) := by decide +kernel
theorem dX14_parts_4 : decode cX14_parts 4 = .ok (.iload_n 1, 1) := by decide +kernel
theorem dX14_parts_5 : decode cX14_parts 5 = .ok (.invokevirtual 96, 3) := by decide +kernel
theorem dX14_parts_8 : decode cX14_parts 8 = .ok (.checkcast 100, 3) := by decide +kernel
theorem dX14_parts_11 : decode cX14_parts 11 = .ok (.astore_n 2, 1) := by decide +kernel
theorem dX14_parts_12 : decode cX14_parts 12 = .ok (.aload_n 0, 1) := by decide +kernel
theorem dX14_parts_13 : decode cX14_parts 13 = .ok (.invokevirtual 78, 3) := by decide +kernel
theorem dX14_parts_16 : decode cX14_parts 16 = .ok (.astore_n 3, 1) := by decide +kernel
theorem dX14_parts_17 : decode cX14_parts 17 = .ok (.iconst 0, 1) := by decide +kernel
theorem dX14_parts_18 : decode cX14_parts 18 = .ok (.istore 4, 2) := by decide +kernel
theorem dX14_parts_20 : decode cX14_parts 20 = .ok (.iload 4, 2) := by decide +kernel
theorem dX14_parts_22 : decode cX14_parts 22 = .ok (.aload_n 0, 1) := by decide +kernel
theorem dX14_parts_23 : decode cX14_parts 23 = .ok (.invokevirtual 46, 3) := by decide +kernel
theorem dX14_parts_26 : decode cX14_parts 26 = .ok (.if_icmp .ge 27, 3) := by decide +kernel
theorem dX14_parts_29 : decode cX14_parts 29 = .ok (.aload_n 3, 1) := by decide +kernel
theorem dX14_parts_30 : decode cX14_parts 30 = .ok (.iload 4, 2) := by decide +kernel
theorem dX14_parts_32 : decode cX14_parts 32 = .ok (.aload_n 0, 1) := by decide +kernel
theorem dX14_parts_33 : decode cX14_parts 33 = .ok (.getfield 49, 3) := by decide +kernel
theorem dX14_parts_36 : decode cX14_parts 36 = .ok (.iconst (-1), 1) := by decide +kernel
theorem dX14_parts_37 : decode cX14_parts 37 = .ok (.ixor, 1) := by decide +kernel
theorem dX14_parts_38 : decode cX14_parts 38 = .ok (.iand, 1) := by decide +kernel
theorem dX14_parts_39 : decode cX14_parts 39 = .ok (.dup2, 1) := by decide +kernel
theorem dX14_parts_40 : decode cX14_parts 40 = .ok (.baload, 1) := by decide +kernel
theorem dX14_parts_41 : decode cX14_parts 41 = .ok (.aload_n 2, 1) := by decide +kernel
theorem dX14_parts_42 : decode cX14_parts 42 = .ok (.iload 4, 2) := by decide +kernel
theorem dX14_parts_44 : decode cX14_parts 44 = .ok (.baload, 1) := by decide +kernel
theorem dX14_parts_45 : decode cX14_parts 45 = .ok (.ior, 1) := by decide +kernel
theorem dX14_parts_46 : decode cX14_parts 46 = .ok (.bastore, 1) := by decide +kernel
theorem dX14_parts_47 : decode cX14_parts 47 = .ok (.iinc 4 1, 3) := by decide +kernel
theorem dX14_parts_50 : decode cX14_parts 50 = .ok (.goto (-30), 3) := by decide +kernel
theorem dX14_parts_53 : decode cX14_parts 53 = .ok (.aload_n 3, 1) := by decide +kernel
theorem dX14_parts_54 : decode cX14_parts 54 = .ok (.areturn, 1) := by decide +kernel
set_option maxRecDepth 20000 in
theorem ggX14_game_X14_isFamily : GoodIn wsX14_game wsX14_isFamily := goodIn_r _ [8, 9, 10, 11, 12, 13, 14, 15, 16, 17, 7, 18, 70, 71, 72, 73, 74, 75, 76, 77, 78, 79, 80, 81] (by decide +kernel) (by decide +kernel)
set_option maxRecDepth 20000 in
theorem gX14_game_X14_isFamily : GoodIn wsX14_game (wsV RX14 90 RX14 yX14_isFamily wsX14_isFamily) := goodIn_app (goodIn_of _ (by decide +kernel)) ggX14_game_X14_isFamily
set_option maxRecDepth 20000 in
theorem ggX14_game_X14_parts : GoodIn wsX14_game wsX14_parts := goodIn_r _ [26, 9, 27, 28, 29, 30, 31, 13, 32, 15, 33, 34, 35, 36, 37, 38, 39, 40, 41, 42, 43, 44, 45, 46, 47, 48, 7, 49, 50, 51, 52, 53, 54, 3, 70, 71, 72, 73, 74, 75, 76, 77, 78, 79, 80, 81] (by decide +kernel) (by decide +kernel)
set_option maxRecDepth 20000 in
theorem gX14_game_X14_parts : GoodIn wsX14_game (wsV RX14 105 RX14 yX14_parts wsX14_parts) := goodIn_app (goodIn_of _ (by decide +kernel)) ggX14_game_X14_parts
set_option maxRecDepth 20000 in
theorem ggX14_game_X14_all : GoodIn wsX14_game wsX14_all := goodIn_r _ [54, 3, 70, 71, 72, 73, 74, 75, 76, 77, 78] (by decide +kernel) (by decide +kernel)
set_option maxRecDepth 20000 in
theorem gX14_game_X14_all : GoodIn wsX14_game (wsV RX14 46 RX14 yX14_all wsX14_all) := goodIn_app (goodIn_of _ (by decide +kernel)) ggX14_game_X14_all
set_option maxRecDepth 20000 in
theorem ggX14_game_X14_alive : GoodIn wsX14_game wsX14_alive := goodIn_r _ [58, 28, 51, 52, 53, 7, 54, 3, 70, 71, 72, 73, 74, 75, 76, 77, 78] (by decide +kernel) (by decide +kernel)
set_option maxRecDepth 20000 in
theorem gX14_game_X14_alive : GoodIn wsX14_game (wsV RX14 52 RX14 yX14_alive wsX14_alive) := goodIn_app (goodIn_of _ (by decide +kernel)) ggX14_game_X14_alive
theorem dX14_game_0 : decode cX14_game 0 = .ok (.aload_n 0, 1) := by decide +kernel
theorem dX14_game_1 : decode cX14_game 1 = .ok (.iconst 0, 1) := by decide +kernel
theorem dX14_game_2 : decode cX14_game 2 = .ok (.putfield 35, 3) := by decide +kernel
theorem dX14_game_5 : decode cX14_game 5 = .ok (.aload_n 0, 1) := by decide +kernel
theorem dX14_game_6 : decode cX14_game 6 = .ok (.iload_n 1, 1) := by decide +kernel
theorem dX14_game_7 : decode cX14_game 7 = .ok (.invokevirtual 90, 3) := by decide +kernel
theorem dX14_game_10 : decode cX14_game 10 = .ok (.ifCond .ne 9, 3) := by decide +kernel
theorem dX14_game_13 : decode cX14_game 13 = .ok (.aload_n 0, 1) := by decide +kernel
theorem dX14_game_14 : decode cX14_game 14 = .ok (.iconst 1, 1) := by decide +kernel
theorem dX14_game_15 : decode cX14_game 15 = .ok (.invokevirtual 65, 3) := by decide +kernel
theorem dX14_game_18 : decode cX14_game 18 = .ok (.ireturn, 1) := by decide +kernel
theorem dX14_game_19 : decode cX14_game 19 = .ok (.aload_n 0, 1) := by decide +kernel
theorem dX14_game_20 : decode cX14_game 20 = .ok (.iload_n 1, 1) := by decide +kernel
theorem dX14_game_21 : decode cX14_game 21 = .ok (.invokevirtual 105, 3) := by decide +kernel
theorem dX14_game_24 : decode cX14_game 24 = .ok (.astore_n 2, 1) := by decide +kernel
theorem dX14_game_25 : decode cX14_game 25 = .ok (.aload_n 0, 1) := by decide +kernel
theorem dX14_game_26 : decode cX14_game 26 = .ok (.invokevirtual 46, 3) := by decide +kernel
theorem dX14_game_29 : decode cX14_game 29 = .ok (.aload_n 0, 1) := by decide +kernel
theorem dX14_game_30 : decode cX14_game 30 = .ok (.invokevirtual 46, 3) := by decide +kernel
theorem dX14_game_33 : decode cX14_game 33 = .ok (.imul, 1) := by decide +kernel
theorem dX14_game_34 : decode cX14_game 34 = .ok (.newarray .byte, 2) := by decide +kernel
theorem dX14_game_36 : decode cX14_game 36 = .ok (.astore_n 3, 1) := by decide +kernel
theorem dX14_game_37 : decode cX14_game 37 = .ok (.iconst 0, 1) := by decide +kernel
theorem dX14_game_38 : decode cX14_game 38 = .ok (.istore 4, 2) := by decide +kernel
theorem dX14_game_40 : decode cX14_game 40 = .ok (.iload 4, 2) := by decide +kernel
theorem dX14_game_42 : decode cX14_game 42 = .ok (.aload_n 0, 1) := by decide +kernel
theorem dX14_game_43 : decode cX14_game 43 = .ok (.getfield 7, 3) := by decide +kernel
theorem dX14_game_46 : decode cX14_game 46 = .ok (.if_icmp .ge 50, 3) := by decide +kernel
theorem dX14_game_49 : decode cX14_game 49 = .ok (.aload_n 0, 1) := by decide +kernel
theorem dX14_game_50 : decode cX14_game 50 = .ok (.invokevirtual 52, 3) := by decide +kernel
theorem dX14_game_53 : decode cX14_game 53 = .ok (.iload 4, 2) := by decide +kernel
theorem dX14_game_55 : decode cX14_game 55 = .ok (.ishr, 1) := by decide +kernel
theorem dX14_game_56 : decode cX14_game 56 = .ok (.iconst 1, 1) := by decide +kernel
theorem dX14_game_57 : decode cX14_game 57 = .ok (.iand, 1) := by decide +kernel
theorem dX14_game_58 : decode cX14_game 58 = .ok (.iconst 1, 1) := by decide +kernel
theorem dX14_game_59 : decode cX14_game 59 = .ok (.if_icmp .ne 31, 3) := by decide +kernel
theorem dX14_game_62 : decode cX14_game 62 = .ok (.aload_n 0, 1) := by decide +kernel
theorem dX14_game_63 : decode cX14_game 63 = .ok (.aload_n 2, 1) := by decide +kernel
theorem dX14_game_64 : decode cX14_game 64 = .ok (.aload_n 3, 1) := by decide +kernel
theorem dX14_game_65 : decode cX14_game 65 = .ok (.iconst 1, 1) := by decide +kernel
theorem dX14_game_66 : decode cX14_game 66 = .ok (.iload 4, 2) := by decide +kernel
theorem dX14_game_68 : decode cX14_game 68 = .ok (.ishl, 1) := by decide +kernel
theorem dX14_game_69 : decode cX14_game 69 = .ok (.aload_n 0, 1) := by decide +kernel
theorem dX14_game_70 : decode cX14_game 70 = .ok (.invokevirtual 52, 3) := by decide +kernel
theorem dX14_game_73 : decode cX14_game 73 = .ok (.iconst 1, 1) := by decide +kernel
theorem dX14_game_74 : decode cX14_game 74 = .ok (.iload 4, 2) := by decide +kernel
theorem dX14_game_76 : decode cX14_game 76 = .ok (.ishl, 1) := by decide +kernel
theorem dX14_game_77 : decode cX14_game 77 = .ok (.iconst (-1), 1) := by decide +kernel
theorem dX14_game_78 : decode cX14_game 78 = .ok (.ixor, 1) := by decide +kernel
theorem dX14_game_79 : decode cX14_game 79 = .ok (.iand, 1) := by decide +kernel
theorem dX14_game_80 : decode cX14_game 80 = .ok (.iconst 0, 1) := by decide +kernel
theorem dX14_game_81 : decode cX14_game 81 = .ok (.invokevirtual 218, 3) := by decide +kernel
theorem dX14_game_84 : decode cX14_game 84 = .ok (.ifCond .eq 6, 3) := by decide +kernel
theorem dX14_game_87 : decode cX14_game 87 = .ok (.iload 4, 2) := by decide +kernel
theorem dX14_game_89 : decode cX14_game 89 = .ok (.ireturn, 1) := by decide +kernel
theorem dX14_game_90 : decode cX14_game 90 = .ok (.iinc 4 1, 3) := by decide +kernel
theorem dX14_game_93 : decode cX14_game 93 = .ok (.goto (-53), 3) := by decide +kernel
theorem dX14_game_96 : decode cX14_game 96 = .ok (.iconst (-1), 1) := by decide +kernel
theorem dX14_game_97 : decode cX14_game 97 = .ok (.ireturn, 1) := by decide +kernel
theorem dJ6_bitCount_0f7a4_0 : decode cJ6_bitCount_0f7a4 0 = .ok (.iload_n 0, 1) := by decide +kernel
theorem dJ6_bitCount_0f7a4_1 : decode cJ6_bitCount_0f7a4 1 = .ok (.iload_n 0, 1) := by decide +kernel
theorem dJ6_bitCount_0f7a4_2 : decode cJ6_bitCount_0f7a4 2 = .ok (.iconst 1, 1) := by decide +kernel
theorem dJ6_bitCount_0f7a4_3 : decode cJ6_bitCount_0f7a4 3 = .ok (.iushr, 1) := by decide +kernel
theorem dJ6_bitCount_0f7a4_4 : decode cJ6_bitCount_0f7a4 4 = .ok (.ldc_w 265, 3) := by decide +kernel
theorem dJ6_bitCount_0f7a4_7 : decode cJ6_bitCount_0f7a4 7 = .ok (.iand, 1) := by decide +kernel
theorem dJ6_bitCount_0f7a4_8 : decode cJ6_bitCount_0f7a4 8 = .ok (.isub, 1) := by decide +kernel
theorem dJ6_bitCount_0f7a4_9 : decode cJ6_bitCount_0f7a4 9 = .ok (.istore_n 0, 1) := by decide +kernel
theorem dJ6_bitCount_0f7a4_10 : decode cJ6_bitCount_0f7a4 10 = .ok (.iload_n 0, 1) := by decide +kernel
theorem dJ6_bitCount_0f7a4_11 : decode cJ6_bitCount_0f7a4 11 = .ok (.ldc_w 266, 3) := by decide +kernel
theorem dJ6_bitCount_0f7a4_14 : decode cJ6_bitCount_0f7a4 14 = .ok (.iand, 1) := by decide +kernel
theorem dJ6_bitCount_0f7a4_15 : decode cJ6_bitCount_0f7a4 15 = .ok (.iload_n 0, 1) := by decide +kernel
theorem dJ6_bitCount_0f7a4_16 : decode cJ6_bitCount_0f7a4 16 = .ok (.iconst 2, 1) := by decide +kernel
theorem dJ6_bitCount_0f7a4_17 : decode cJ6_bitCount_0f7a4 17 = .ok (.iushr, 1) := by decide +kernel
theorem dJ6_bitCount_0f7a4_18 : decode cJ6_bitCount_0f7a4 18 = .ok (.ldc_w 266, 3) := by decide +kernel
theorem dJ6_bitCount_0f7a4_21 : decode cJ6_bitCount_0f7a4 21 = .ok (.iand, 1) := by decide +kernel
theorem dJ6_bitCount_0f7a4_22 : decode cJ6_bitCount_0f7a4 22 = .ok (.iadd, 1) := by decide +kernel
theorem dJ6_bitCount_0f7a4_23 : decode cJ6_bitCount_0f7a4 23 = .ok (.istore_n 0, 1) := by decide +kernel
theorem dJ6_bitCount_0f7a4_24 : decode cJ6_bitCount_0f7a4 24 = .ok (.iload_n 0, 1) := by decide +kernel
theorem dJ6_bitCount_0f7a4_25 : decode cJ6_bitCount_0f7a4 25 = .ok (.iload_n 0, 1) := by decide +kernel
theorem dJ6_bitCount_0f7a4_26 : decode cJ6_bitCount_0f7a4 26 = .ok (.iconst 4, 1) := by decide +kernel
theorem dJ6_bitCount_0f7a4_27 : decode cJ6_bitCount_0f7a4 27 = .ok (.iushr, 1) := by decide +kernel
theorem dJ6_bitCount_0f7a4_28 : decode cJ6_bitCount_0f7a4 28 = .ok (.iadd, 1) := by decide +kernel
theorem dJ6_bitCount_0f7a4_29 : decode cJ6_bitCount_0f7a4 29 = .ok (.ldc_w 267, 3) := by decide +kernel
theorem dJ6_bitCount_0f7a4_32 : decode cJ6_bitCount_0f7a4 32 = .ok (.iand, 1) := by decide +kernel
theorem dJ6_bitCount_0f7a4_33 : decode cJ6_bitCount_0f7a4 33 = .ok (.istore_n 0, 1) := by decide +kernel
theorem dJ6_bitCount_0f7a4_34 : decode cJ6_bitCount_0f7a4 34 = .ok (.iload_n 0, 1) := by decide +kernel
theorem dJ6_bitCount_0f7a4_35 : decode cJ6_bitCount_0f7a4 35 = .ok (.iload_n 0, 1) := by decide +kernel
theorem dJ6_bitCount_0f7a4_36 : decode cJ6_bitCount_0f7a4 36 = .ok (.bipush 8, 2) := by decide +kernel
theorem dJ6_bitCount_0f7a4_38 : decode cJ6_bitCount_0f7a4 38 = .ok (.iushr, 1) := by decide +kernel
theorem dJ6_bitCount_0f7a4_39 : decode cJ6_bitCount_0f7a4 39 = .ok (.iadd, 1) := by decide +kernel
theorem dJ6_bitCount_0f7a4_40 : decode cJ6_bitCount_0f7a4 40 = .ok (.istore_n 0, 1) := by decide +kernel
theorem dJ6_bitCount_0f7a4_41 : decode cJ6_bitCount_0f7a4 41 = .ok (.iload_n 0, 1) := by decide +kernel
theorem dJ6_bitCount_0f7a4_42 : decode cJ6_bitCount_0f7a4 42 = .ok (.iload_n 0, 1) := by decide +kernel
theorem dJ6_bitCount_0f7a4_43 : decode cJ6_bitCount_0f7a4 43 = .ok (.bipush 16, 2) := by decide +kernel
theorem dJ6_bitCount_0f7a4_45 : decode cJ6_bitCount_0f7a4 45 = .ok (.iushr, 1) := by decide +kernel
theorem dJ6_bitCount_0f7a4_46 : decode cJ6_bitCount_0f7a4 46 = .ok (.iadd, 1) := by decide +kernel
theorem dJ6_bitCount_0f7a4_47 : decode cJ6_bitCount_0f7a4 47 = .ok (.istore_n 0, 1) := by decide +kernel
theorem dJ6_bitCount_0f7a4_48 : decode cJ6_bitCount_0f7a4 48 = .ok (.iload_n 0, 1) := by decide +kernel
theorem dJ6_bitCount_0f7a4_49 : decode cJ6_bitCount_0f7a4 49 = .ok (.bipush 63, 2) := by decide +kernel
theorem dJ6_bitCount_0f7a4_51 : decode cJ6_bitCount_0f7a4 51 = .ok (.iand, 1) := by decide +kernel
theorem dJ6_bitCount_0f7a4_52 : decode cJ6_bitCount_0f7a4 52 = .ok (.ireturn, 1) := by decide +kernel
theorem dJ9_max_7cf53_0 : decode cJ9_max_7cf53 0 = .ok (.iload_n 0, 1) := by decide +kernel
theorem dJ9_max_7cf53_1 : decode cJ9_max_7cf53 1 = .ok (.iload_n 1, 1) := by decide +kernel
theorem dJ9_max_7cf53_2 : decode cJ9_max_7cf53 2 = .ok (.if_icmp .lt 7, 3) := by decide +kernel
theorem dJ9_max_7cf53_5 : decode cJ9_max_7cf53 5 = .ok (.iload_n 0, 1) := by decide +kernel
theorem dJ9_max_7cf53_6 : decode cJ9_max_7cf53 6 = .ok (.goto 4, 3) := by decide +kernel
theorem dJ9_max_7cf53_9 : decode cJ9_max_7cf53 9 = .ok (.iload_n 1, 1) := by decide +kernel
theorem dJ9_max_7cf53_10 : decode cJ9_max_7cf53 10 = .ok (.ireturn, 1) := by decide +kernel
theorem dJxa1e45_init_da8c8_0 : decode cJxa1e45_init_da8c8 0 = .ok (.aload_n 0, 1) := by decide +kernel
theorem dJxa1e45_init_da8c8_1 : decode cJxa1e45_init_da8c8 1 = .ok (.invokespecial 1, 3) := by decide +kernel
theorem dJxa1e45_init_da8c8_4 : decode cJxa1e45_init_da8c8 4 = .ok (.return_, 1) := by decide +kernel
set_option maxRecDepth 20000 in
theorem ggJxc12de_init_da8c8_Jxa1e45_init_da8c8 : GoodIn wsJxc12de_init_da8c8 wsJxa1e45_init_da8c8 := goodIn_r _ [5, 6, 7, 8] (by decide +kernel) (by decide +kernel)
set_option maxRecDepth 20000 in
theorem gJxc12de_init_da8c8_Jxa1e45_init_da8c8 : GoodIn wsJxc12de_init_da8c8 (wsJxa1e45_init_da8c8) := ggJxc12de_init_da8c8_Jxa1e45_init_da8c8
theorem dJxc12de_init_da8c8_0 : decode cJxc12de_init_da8c8 0 = .ok (.aload_n 0, 1) := by decide +kernel
theorem dJxc12de_init_da8c8_1 : decode cJxc12de_init_da8c8 1 = .ok (.invokespecial 1, 3) := by decide +kernel
theorem dJxc12de_init_da8c8_4 : decode cJxc12de_init_da8c8 4 = .ok (.aload_n 0, 1) := by decide +kernel
theorem dJxc12de_init_da8c8_5 : decode cJxc12de_init_da8c8 5 = .ok (.iconst 0, 1) := by decide +kernel
theorem dJxc12de_init_da8c8_6 : decode cJxc12de_init_da8c8 6 = .ok (.putfield 7, 3) := by decide +kernel
theorem dJxc12de_init_da8c8_9 : decode cJxc12de_init_da8c8 9 = .ok (.return_, 1) := by decide +kernel
set_option maxRecDepth 20000 in
theorem ggJx4a65c_init_da8c8_Jxc12de_init_da8c8 : GoodIn wsJx4a65c_init_da8c8 wsJxc12de_init_da8c8 := goodIn_r _ [6, 7, 8, 9, 10, 11, 12, 13, 14, 15, 16, 17] (by decide +kernel) (by decide +kernel)
set_option maxRecDepth 20000 in
theorem gJx4a65c_init_da8c8_Jxc12de_init_da8c8 : GoodIn wsJx4a65c_init_da8c8 (wsJxc12de_init_da8c8) := ggJx4a65c_init_da8c8_Jxc12de_init_da8c8
theorem dJx4a65c_init_da8c8_0 : decode cJx4a65c_init_da8c8 0 = .ok (.aload_n 0, 1) := by decide +kernel
theorem dJx4a65c_init_da8c8_1 : decode cJx4a65c_init_da8c8 1 = .ok (.invokespecial 1, 3) := by decide +kernel
theorem dJx4a65c_init_da8c8_4 : decode cJx4a65c_init_da8c8 4 = .ok (.aload_n 0, 1) := by decide +kernel
theorem dJx4a65c_init_da8c8_5 : decode cJx4a65c_init_da8c8 5 = .ok (.getstatic 39, 3) := by decide +kernel
theorem dJx4a65c_init_da8c8_8 : decode cJx4a65c_init_da8c8 8 = .ok (.putfield 9, 3) := by decide +kernel
theorem dJx4a65c_init_da8c8_11 : decode cJx4a65c_init_da8c8 11 = .ok (.return_, 1) := by decide +kernel
theorem dJx4a65c_grow_92f84_0 : decode cJx4a65c_grow_92f84 0 = .ok (.aload_n 0, 1) := by decide +kernel
theorem dJx4a65c_grow_92f84_1 : decode cJx4a65c_grow_92f84 1 = .ok (.getfield 9, 3) := by decide +kernel
theorem dJx4a65c_grow_92f84_4 : decode cJx4a65c_grow_92f84 4 = .ok (.arraylength, 1) := by decide +kernel
theorem dJx4a65c_grow_92f84_5 : decode cJx4a65c_grow_92f84 5 = .ok (.istore_n 2, 1) := by decide +kernel
theorem dJx4a65c_grow_92f84_6 : decode cJx4a65c_grow_92f84 6 = .ok (.iload_n 2, 1) := by decide +kernel
theorem dJx4a65c_grow_92f84_7 : decode cJx4a65c_grow_92f84 7 = .ok (.ifCond .gt 13, 3) := by decide +kernel
theorem dJx4a65c_grow_92f84_10 : decode cJx4a65c_grow_92f84 10 = .ok (.aload_n 0, 1) := by decide +kernel
theorem dJx4a65c_grow_92f84_11 : decode cJx4a65c_grow_92f84 11 = .ok (.getfield 9, 3) := by decide +kernel
theorem dJx4a65c_grow_92f84_14 : decode cJx4a65c_grow_92f84 14 = .ok (.getstatic 39, 3) := by decide +kernel
theorem dJx4a65c_grow_92f84_17 : decode cJx4a65c_grow_92f84 17 = .ok (.if_acmp .eq 28, 3) := by decide +kernel
theorem dJx4a65c_grow_92f84_20 : decode cJx4a65c_grow_92f84 20 = .ok (.iload_n 2, 1) := by decide +kernel
theorem dJx4a65c_grow_92f84_21 : decode cJx4a65c_grow_92f84 21 = .ok (.iload_n 1, 1) := by decide +kernel
theorem dJx4a65c_grow_92f84_22 : decode cJx4a65c_grow_92f84 22 = .ok (.iload_n 2, 1) := by decide +kernel
theorem dJx4a65c_grow_92f84_23 : decode cJx4a65c_grow_92f84 23 = .ok (.isub, 1) := by decide +kernel
theorem dJx4a65c_grow_92f84_24 : decode cJx4a65c_grow_92f84 24 = .ok (.iload_n 2, 1) := by decide +kernel
theorem dJx4a65c_grow_92f84_25 : decode cJx4a65c_grow_92f84 25 = .ok (.iconst 1, 1) := by decide +kernel
theorem dJx4a65c_grow_92f84_26 : decode cJx4a65c_grow_92f84 26 = .ok (.ishr, 1) := by decide +kernel
theorem dJx4a65c_grow_92f84_27 : decode cJx4a65c_grow_92f84 27 = .ok (.invokestatic 73, 3) := by decide +kernel
theorem dJx4a65c_grow_92f84_30 : decode cJx4a65c_grow_92f84 30 = .ok (.istore_n 3, 1) := by decide +kernel
theorem dJx4a65c_grow_92f84_31 : decode cJx4a65c_grow_92f84 31 = .ok (.aload_n 0, 1) := by decide +kernel
theorem dJx4a65c_grow_92f84_32 : decode cJx4a65c_grow_92f84 32 = .ok (.aload_n 0, 1) := by decide +kernel
theorem dJx4a65c_grow_92f84_33 : decode cJx4a65c_grow_92f84 33 = .ok (.getfield 9, 3) := by decide +kernel
theorem dJx4a65c_grow_92f84_36 : decode cJx4a65c_grow_92f84 36 = .ok (.iload_n 3, 1) := by decide +kernel
theorem dJx4a65c_grow_92f84_37 : decode cJx4a65c_grow_92f84 37 = .ok (.invokestatic 66, 3) := by decide +kernel
theorem dJx4a65c_grow_92f84_40 : decode cJx4a65c_grow_92f84 40 = .ok (.dup_x1, 1) := by decide +kernel
theorem dJx4a65c_grow_92f84_41 : decode cJx4a65c_grow_92f84 41 = .ok (.putfield 9, 3) := by decide +kernel
theorem dJx4a65c_grow_92f84_44 : decode cJx4a65c_grow_92f84 44 = .ok (.areturn, 1) := by decide +kernel
theorem dJx4a65c_grow_92f84_45 : decode cJx4a65c_grow_92f84 45 = .ok (.aload_n 0, 1) := by decide +kernel
theorem dJx4a65c_grow_92f84_46 : decode cJx4a65c_grow_92f84 46 = .ok (.bipush 10, 2) := by decide +kernel
theorem dJx4a65c_grow_92f84_48 : decode cJx4a65c_grow_92f84 48 = .ok (.iload_n 1, 1) := by decide +kernel
theorem dJx4a65c_grow_92f84_49 : decode cJx4a65c_grow_92f84 49 = .ok (.invokestatic 79, 3) := by decide +kernel
theorem dJx4a65c_grow_92f84_52 : decode cJx4a65c_grow_92f84 52 = .ok (.anewarray 7, 3) := by decide +kernel
theorem dJx4a65c_grow_92f84_55 : decode cJx4a65c_grow_92f84 55 = .ok (.dup_x1, 1) := by decide +kernel
theorem dJx4a65c_grow_92f84_56 : decode cJx4a65c_grow_92f84 56 = .ok (.putfield 9, 3) := by decide +kernel
theorem dJx4a65c_grow_92f84_59 : decode cJx4a65c_grow_92f84 59 = .ok (.areturn, 1) := by decide +kernel
set_option maxRecDepth 20000 in
theorem ggJx4a65c_grow_d5877_Jx4a65c_grow_92f84 : GoodIn wsJx4a65c_grow_d5877 wsJx4a65c_grow_92f84 := goodIn_r _ [6, 7, 8, 9, 10, 11, 12, 13, 14, 15, 16, 17, 18, 19, 20, 21, 22, 23, 24, 25, 26, 27, 28, 29, 30, 31, 32, 33, 34, 35, 36, 37, 38, 39, 40, 41, 42, 43, 44, 45] (by decide +kernel) (by decide +kernel)
set_option maxRecDepth 20000 in
theorem gJx4a65c_grow_d5877_Jx4a65c_grow_92f84 : GoodIn wsJx4a65c_grow_d5877 (wsV RJx4a65c 69 RJx4a65c yJx4a65c_grow_92f84 wsJx4a65c_grow_92f84) := goodIn_app (goodIn_of _ (by decide +kernel)) ggJx4a65c_grow_d5877_Jx4a65c_grow_92f84
theorem dJx4a65c_grow_d5877_0 : decode cJx4a65c_grow_d5877 0 = .ok (.aload_n 0, 1) := by decide +kernel
theorem dJx4a65c_grow_d5877_1 : decode cJx4a65c_grow_d5877 1 = .ok (.aload_n 0, 1) := by decide +kernel
theorem dJx4a65c_grow_d5877_2 : decode cJx4a65c_grow_d5877 2 = .ok (.getfield 48, 3) := by decide +kernel
theorem dJx4a65c_grow_d5877_5 : decode cJx4a65c_grow_d5877 5 = .ok (.iconst 1, 1) := by decide +kernel
theorem dJx4a65c_grow_d5877_6 : decode cJx4a65c_grow_d5877 6 = .ok (.iadd, 1) := by decide +kernel
theorem dJx4a65c_grow_d5877_7 : decode cJx4a65c_grow_d5877 7 = .ok (.invokevirtual 69, 3) := by decide +kernel
theorem dJx4a65c_grow_d5877_10 : decode cJx4a65c_grow_d5877 10 = .ok (.areturn, 1) := by decide +kernel
theorem dJx4a65c_size_8abf5_0 : decode cJx4a65c_size_8abf5 0 = .ok (.aload_n 0, 1) := by decide +kernel
theorem dJx4a65c_size_8abf5_1 : decode cJx4a65c_size_8abf5 1 = .ok (.getfield 48, 3) := by decide +kernel
theorem dJx4a65c_size_8abf5_4 : decode cJx4a65c_size_8abf5 4 = .ok (.ireturn, 1) := by decide +kernel
theorem dJx4a65c_elementData_915e3_0 : decode cJx4a65c_elementData_915e3 0 = .ok (.aload_n 0, 1) := by decide +kernel
theorem dJx4a65c_elementData_915e3_1 : decode cJx4a65c_elementData_915e3 1 = .ok (.getfield 9, 3) := by decide +kernel
theorem dJx4a65c_elementData_915e3_4 : decode cJx4a65c_elementData_915e3 4 = .ok (.iload_n 1, 1) := by decide +kernel
theorem dJx4a65c_elementData_915e3_5 : decode cJx4a65c_elementData_915e3 5 = .ok (.aaload, 1) := by decide +kernel
theorem dJx4a65c_elementData_915e3_6 : decode cJx4a65c_elementData_915e3 6 = .ok (.areturn, 1) := by decide +kernel
set_option maxRecDepth 20000 in
theorem ggJx4a65c_get_915e3_J15_checkIndex_7cf53 : GoodIn wsJx4a65c_get_915e3 wsJ15_checkIndex_7cf53 := goodIn_r _ [5, 6, 7, 8, 9] (by decide +kernel) (by decide +kernel)
set_option maxRecDepth 20000 in
theorem gJx4a65c_get_915e3_J15_checkIndex_7cf53 : GoodIn wsJx4a65c_get_915e3 (va_wsS RJx4a65c 118 yJ15_checkIndex_7cf53 wsJ15_checkIndex_7cf53) := goodIn_app (goodIn_of _ (by decide +kernel)) ggJx4a65c_get_915e3_J15_checkIndex_7cf53
set_option maxRecDepth 20000 in
theorem ggJx4a65c_get_915e3_Jx4a65c_elementData_915e3 : GoodIn wsJx4a65c_get_915e3 wsJx4a65c_elementData_915e3 := goodIn_r _ [14, 15, 16, 17, 18] (by decide +kernel) (by decide +kernel)
set_option maxRecDepth 20000 in
theorem gJx4a65c_get_915e3_Jx4a65c_elementData_915e3 : GoodIn wsJx4a65c_get_915e3 (wsV RJx4a65c 123 RJx4a65c yJx4a65c_elementData_915e3 wsJx4a65c_elementData_915e3) := goodIn_app (goodIn_of _ (by decide +kernel)) ggJx4a65c_get_915e3_Jx4a65c_elementData_915e3
theorem dJx4a65c_get_915e3_0 : decode cJx4a65c_get_915e3 0 = .ok (.iload_n 1, 1) := by decide +kernel
theorem dJx4a65c_get_915e3_1 : decode cJx4a65c_get_915e3 1 = .ok (.aload_n 0, 1) := by decide +kernel
theorem dJx4a65c_get_915e3_2 : decode cJx4a65c_get_915e3 2 = .ok (.getfield 48, 3) := by decide +kernel
theorem dJx4a65c_get_915e3_5 : decode cJx4a65c_get_915e3 5 = .ok (.invokestatic 118, 3) := by decide +kernel
theorem dJx4a65c_get_915e3_8 : decode cJx4a65c_get_915e3 8 = .ok (.pop, 1) := by decide +kernel
theorem dJx4a65c_get_915e3_9 : decode cJx4a65c_get_915e3 9 = .ok (.aload_n 0, 1) := by decide +kernel
theorem dJx4a65c_get_915e3_10 : decode cJx4a65c_get_915e3 10 = .ok (.iload_n 1, 1) := by decide +kernel
theorem dJx4a65c_get_915e3_11 : decode cJx4a65c_get_915e3 11 = .ok (.invokevirtual 123, 3) := by decide +kernel
theorem dJx4a65c_get_915e3_14 : decode cJx4a65c_get_915e3 14 = .ok (.areturn, 1) := by decide +kernel
set_option maxRecDepth 20000 in
theorem ggJx4a65c_add_72be8_Jx4a65c_grow_d5877 : GoodIn wsJx4a65c_add_72be8 wsJx4a65c_grow_d5877 := goodIn_r _ [6, 1, 7, 8, 9, 5, 10, 11, 12, 13, 14, 15, 16, 17, 18, 19, 20, 21, 22, 23, 24, 25, 26, 27, 28, 29, 30, 31, 32, 33, 34, 35, 36, 37, 38, 39, 40, 41, 42, 43, 44, 45, 46, 47, 48, 49] (by decide +kernel) (by decide +kernel)
set_option maxRecDepth 20000 in
theorem gJx4a65c_add_72be8_Jx4a65c_grow_d5877 : GoodIn wsJx4a65c_add_72be8 (wsV RJx4a65c 129 RJx4a65c yJx4a65c_grow_d5877 wsJx4a65c_grow_d5877) := goodIn_app (goodIn_of _ (by decide +kernel)) ggJx4a65c_add_72be8_Jx4a65c_grow_d5877
theorem dJx4a65c_add_72be8_0 : decode cJx4a65c_add_72be8 0 = .ok (.iload_n 3, 1) := by decide +kernel
theorem dJx4a65c_add_72be8_1 : decode cJx4a65c_add_72be8 1 = .ok (.aload_n 2, 1) := by decide +kernel
theorem dJx4a65c_add_72be8_2 : decode cJx4a65c_add_72be8 2 = .ok (.arraylength, 1) := by decide +kernel
theorem dJx4a65c_add_72be8_3 : decode cJx4a65c_add_72be8 3 = .ok (.if_icmp .ne 8, 3) := by decide +kernel
theorem dJx4a65c_add_72be8_6 : decode cJx4a65c_add_72be8 6 = .ok (.aload_n 0, 1) := by decide +kernel
theorem dJx4a65c_add_72be8_7 : decode cJx4a65c_add_72be8 7 = .ok (.invokevirtual 129, 3) := by decide +kernel
theorem dJx4a65c_add_72be8_10 : decode cJx4a65c_add_72be8 10 = .ok (.astore_n 2, 1) := by decide +kernel
theorem dJx4a65c_add_72be8_11 : decode cJx4a65c_add_72be8 11 = .ok (.aload_n 2, 1) := by decide +kernel
theorem dJx4a65c_add_72be8_12 : decode cJx4a65c_add_72be8 12 = .ok (.iload_n 3, 1) := by decide +kernel
theorem dJx4a65c_add_72be8_13 : decode cJx4a65c_add_72be8 13 = .ok (.aload_n 1, 1) := by decide +kernel
theorem dJx4a65c_add_72be8_14 : decode cJx4a65c_add_72be8 14 = .ok (.aastore, 1) := by decide +kernel
theorem dJx4a65c_add_72be8_15 : decode cJx4a65c_add_72be8 15 = .ok (.aload_n 0, 1) := by decide +kernel
theorem dJx4a65c_add_72be8_16 : decode cJx4a65c_add_72be8 16 = .ok (.iload_n 3, 1) := by decide +kernel
theorem dJx4a65c_add_72be8_17 : decode cJx4a65c_add_72be8 17 = .ok (.iconst 1, 1) := by decide +kernel
theorem dJx4a65c_add_72be8_18 : decode cJx4a65c_add_72be8 18 = .ok (.iadd, 1) := by decide +kernel
theorem dJx4a65c_add_72be8_19 : decode cJx4a65c_add_72be8 19 = .ok (.putfield 48, 3) := by decide +kernel
theorem dJx4a65c_add_72be8_22 : decode cJx4a65c_add_72be8 22 = .ok (.return_, 1) := by decide +kernel
set_option maxRecDepth 20000 in
theorem ggJx4a65c_add_9ea2d_Jx4a65c_add_72be8 : GoodIn wsJx4a65c_add_9ea2d wsJx4a65c_add_72be8 := goodIn_r _ [9, 4, 10, 11, 12, 8, 13, 14, 15, 16, 17, 3, 18, 19, 20, 21, 22, 23, 24, 25, 26, 27, 28, 29, 30, 31, 32, 33, 34, 35, 36, 37, 38, 39, 40, 41, 42, 43, 44, 45, 46, 47, 48, 49, 50, 51, 52, 53, 54, 55] (by decide +kernel) (by decide +kernel)
set_option maxRecDepth 20000 in
theorem gJx4a65c_add_9ea2d_Jx4a65c_add_72be8 : GoodIn wsJx4a65c_add_9ea2d (wsV RJx4a65c 131 RJx4a65c yJx4a65c_add_72be8 wsJx4a65c_add_72be8) := goodIn_app (goodIn_of _ (by decide +kernel)) ggJx4a65c_add_9ea2d_Jx4a65c_add_72be8
theorem dJx4a65c_add_9ea2d_0 : decode cJx4a65c_add_9ea2d 0 = .ok (.aload_n 0, 1) := by decide +kernel
theorem dJx4a65c_add_9ea2d_1 : decode cJx4a65c_add_9ea2d 1 = .ok (.dup, 1) := by decide +kernel
theorem dJx4a65c_add_9ea2d_2 : decode cJx4a65c_add_9ea2d 2 = .ok (.getfield 63, 3) := by decide +kernel
theorem dJx4a65c_add_9ea2d_5 : decode cJx4a65c_add_9ea2d 5 = .ok (.iconst 1, 1) := by decide +kernel
theorem dJx4a65c_add_9ea2d_6 : decode cJx4a65c_add_9ea2d 6 = .ok (.iadd, 1) := by decide +kernel
theorem dJx4a65c_add_9ea2d_7 : decode cJx4a65c_add_9ea2d 7 = .ok (.putfield 63, 3) := by decide +kernel
theorem dJx4a65c_add_9ea2d_10 : decode cJx4a65c_add_9ea2d 10 = .ok (.aload_n 0, 1) := by decide +kernel
theorem dJx4a65c_add_9ea2d_11 : decode cJx4a65c_add_9ea2d 11 = .ok (.aload_n 1, 1) := by decide +kernel
theorem dJx4a65c_add_9ea2d_12 : decode cJx4a65c_add_9ea2d 12 = .ok (.aload_n 0, 1) := by decide +kernel
theorem dJx4a65c_add_9ea2d_13 : decode cJx4a65c_add_9ea2d 13 = .ok (.getfield 9, 3) := by decide +kernel
theorem dJx4a65c_add_9ea2d_16 : decode cJx4a65c_add_9ea2d 16 = .ok (.aload_n 0, 1) := by decide +kernel
theorem dJx4a65c_add_9ea2d_17 : decode cJx4a65c_add_9ea2d 17 = .ok (.getfield 48, 3) := by decide +kernel
theorem dJx4a65c_add_9ea2d_20 : decode cJx4a65c_add_9ea2d 20 = .ok (.invokevirtual 131, 3) := by decide +kernel
theorem dJx4a65c_add_9ea2d_23 : decode cJx4a65c_add_9ea2d 23 = .ok (.iconst 1, 1) := by decide +kernel
theorem dJx4a65c_add_9ea2d_24 : decode cJx4a65c_add_9ea2d 24 = .ok (.ireturn, 1) := by decide +kernel
theorem dJx4a65c_clear_da8c8_0 : decode cJx4a65c_clear_da8c8 0 = .ok (.aload_n 0, 1) := by decide +kernel
theorem dJx4a65c_clear_da8c8_1 : decode cJx4a65c_clear_da8c8 1 = .ok (.dup, 1) := by decide +kernel
theorem dJx4a65c_clear_da8c8_2 : decode cJx4a65c_clear_da8c8 2 = .ok (.getfield 63, 3) := by decide +kernel
theorem dJx4a65c_clear_da8c8_5 : decode cJx4a65c_clear_da8c8 5 = .ok (.iconst 1, 1) := by decide +kernel
theorem dJx4a65c_clear_da8c8_6 : decode cJx4a65c_clear_da8c8 6 = .ok (.iadd, 1) := by decide +kernel
theorem dJx4a65c_clear_da8c8_7 : decode cJx4a65c_clear_da8c8 7 = .ok (.putfield 63, 3) := by decide +kernel
theorem dJx4a65c_clear_da8c8_10 : decode cJx4a65c_clear_da8c8 10 = .ok (.aload_n 0, 1) := by decide +kernel
theorem dJx4a65c_clear_da8c8_11 : decode cJx4a65c_clear_da8c8 11 = .ok (.getfield 9, 3) := by decide +kernel
theorem dJx4a65c_clear_da8c8_14 : decode cJx4a65c_clear_da8c8 14 = .ok (.astore_n 1, 1) := by decide +kernel
theorem dJx4a65c_clear_da8c8_15 : decode cJx4a65c_clear_da8c8 15 = .ok (.aload_n 0, 1) := by decide +kernel
theorem dJx4a65c_clear_da8c8_16 : decode cJx4a65c_clear_da8c8 16 = .ok (.getfield 48, 3) := by decide +kernel
theorem dJx4a65c_clear_da8c8_19 : decode cJx4a65c_clear_da8c8 19 = .ok (.istore_n 2, 1) := by decide +kernel
theorem dJx4a65c_clear_da8c8_20 : decode cJx4a65c_clear_da8c8 20 = .ok (.aload_n 0, 1) := by decide +kernel
theorem dJx4a65c_clear_da8c8_21 : decode cJx4a65c_clear_da8c8 21 = .ok (.iconst 0, 1) := by decide +kernel
theorem dJx4a65c_clear_da8c8_22 : decode cJx4a65c_clear_da8c8 22 = .ok (.dup_x1, 1) := by decide +kernel
theorem dJx4a65c_clear_da8c8_23 : decode cJx4a65c_clear_da8c8 23 = .ok (.putfield 48, 3) := by decide +kernel
theorem dJx4a65c_clear_da8c8_26 : decode cJx4a65c_clear_da8c8 26 = .ok (.istore_n 3, 1) := by decide +kernel
theorem dJx4a65c_clear_da8c8_27 : decode cJx4a65c_clear_da8c8 27 = .ok (.iload_n 3, 1) := by decide +kernel
theorem dJx4a65c_clear_da8c8_28 : decode cJx4a65c_clear_da8c8 28 = .ok (.iload_n 2, 1) := by decide +kernel
theorem dJx4a65c_clear_da8c8_29 : decode cJx4a65c_clear_da8c8 29 = .ok (.if_icmp .ge 13, 3) := by decide +kernel
theorem dJx4a65c_clear_da8c8_32 : decode cJx4a65c_clear_da8c8 32 = .ok (.aload_n 1, 1) := by decide +kernel
theorem dJx4a65c_clear_da8c8_33 : decode cJx4a65c_clear_da8c8 33 = .ok (.iload_n 3, 1) := by decide +kernel
theorem dJx4a65c_clear_da8c8_34 : decode cJx4a65c_clear_da8c8 34 = .ok (.aconst_null, 1) := by decide +kernel
theorem dJx4a65c_clear_da8c8_35 : decode cJx4a65c_clear_da8c8 35 = .ok (.aastore, 1) := by decide +kernel
theorem dJx4a65c_clear_da8c8_36 : decode cJx4a65c_clear_da8c8 36 = .ok (.iinc 3 1, 3) := by decide +kernel
theorem dJx4a65c_clear_da8c8_39 : decode cJx4a65c_clear_da8c8 39 = .ok (.goto (-12), 3) := by decide +kernel
theorem dJx4a65c_clear_da8c8_42 : decode cJx4a65c_clear_da8c8 42 = .ok (.return_, 1) := by decide +kernel
set_option maxRecDepth 20000 in
theorem ggJ15_checkIndex_7cf53_J3_checkIndex_8e157 : GoodIn wsJ15_checkIndex_7cf53 wsJ3_checkIndex_8e157 := goodIn_r _ [4] (by decide +kernel) (by decide +kernel)
set_option maxRecDepth 20000 in
theorem gJ15_checkIndex_7cf53_J3_checkIndex_8e157 : GoodIn wsJ15_checkIndex_7cf53 (va_wsS RJ15 105 yJ3_checkIndex_8e157 wsJ3_checkIndex_8e157) := goodIn_app (goodIn_of _ (by decide +kernel)) ggJ15_checkIndex_7cf53_J3_checkIndex_8e157
theorem dJ15_checkIndex_7cf53_0 : decode cJ15_checkIndex_7cf53 0 = .ok (.iload_n 0, 1) := by decide +kernel
theorem dJ15_checkIndex_7cf53_1 : decode cJ15_checkIndex_7cf53 1 = .ok (.iload_n 1, 1) := by decide +kernel
theorem dJ15_checkIndex_7cf53_2 : decode cJ15_checkIndex_7cf53 2 = .ok (.aconst_null, 1) := by decide +kernel
theorem dJ15_checkIndex_7cf53_3 : decode cJ15_checkIndex_7cf53 3 = .ok (.invokestatic 105, 3) := by decide +kernel
theorem dJ15_checkIndex_7cf53_6 : decode cJ15_checkIndex_7cf53 6 = .ok (.ireturn, 1) := by decide +kernel
theorem dJ3_checkIndex_8e157_0 : decode cJ3_checkIndex_8e157 0 = .ok (.iload_n 0, 1) := by decide +kernel
theorem dJ3_checkIndex_8e157_1 : decode cJ3_checkIndex_8e157 1 = .ok (.ifCond .lt 8, 3) := by decide +kernel
theorem dJ3_checkIndex_8e157_4 : decode cJ3_checkIndex_8e157 4 = .ok (.iload_n 0, 1) := by decide +kernel
theorem dJ3_checkIndex_8e157_5 : decode cJ3_checkIndex_8e157 5 = .ok (.iload_n 1, 1) := by decide +kernel
theorem dJ3_checkIndex_8e157_6 : decode cJ3_checkIndex_8e157 6 = .ok (.if_icmp .lt 10, 3) := by decide +kernel
theorem dJ3_checkIndex_8e157_9 : decode cJ3_checkIndex_8e157 9 = .ok (.aload_n 2, 1) := by decide +kernel
theorem dJ3_checkIndex_8e157_10 : decode cJ3_checkIndex_8e157 10 = .ok (.iload_n 0, 1) := by decide +kernel
theorem dJ3_checkIndex_8e157_11 : decode cJ3_checkIndex_8e157 11 = .ok (.iload_n 1, 1) := by decide +kernel
theorem dJ3_checkIndex_8e157_12 : decode cJ3_checkIndex_8e157 12 = .ok (.invokestatic 95, 3) := by decide +kernel
theorem dJ3_checkIndex_8e157_15 : decode cJ3_checkIndex_8e157 15 = .ok (.athrow, 1) := by decide +kernel
theorem dJ3_checkIndex_8e157_16 : decode cJ3_checkIndex_8e157 16 = .ok (.iload_n 0, 1) := by decide +kernel
theorem dJ3_checkIndex_8e157_17 : decode cJ3_checkIndex_8e157 17 = .ok (.ireturn, 1) := by decide +kernel
set_option maxRecDepth 20000 in
theorem ggL_ground_X11_ground : GoodIn wsL_ground wsX11_ground := goodIn_ca (goodIn_r _ [6, 7, 8, 9, 10, 11, 5, 12, 13, 14, 15, 16, 17, 18, 19, 20, 21, 22, 23, 24, 25, 26, 27, 30, 31, 32, 33, 34, 35, 36, 37, 38, 39, 40, 41, 42, 43, 44, 45, 46, 47] (by decide +kernel) (by decide +kernel)) (goodIn_sub (fun _ h => List.mem_cons_of_mem _ (List.mem_append_right _ h)) (by decide +kernel))
set_option maxRecDepth 20000 in
theorem gL_ground_X11_ground : GoodIn wsL_ground (wsV RL 7 RX11 yX11_ground wsX11_ground) := goodIn_app (goodIn_of _ (by decide +kernel)) ggL_ground_X11_ground
theorem dL_ground_0 : decode cL_ground 0 = .ok (.aload_n 2, 1) := by decide +kernel
theorem dL_ground_1 : decode cL_ground 1 = .ok (.aload_n 0, 1) := by decide +kernel
theorem dL_ground_2 : decode cL_ground 2 = .ok (.iload_n 1, 1) := by decide +kernel
theorem dL_ground_3 : decode cL_ground 3 = .ok (.invokevirtual 7, 3) := by decide +kernel
theorem dL_ground_6 : decode cL_ground 6 = .ok (.i2l, 1) := by decide +kernel
theorem dL_ground_7 : decode cL_ground 7 = .ok (.putfield 13, 3) := by decide +kernel
theorem dL_ground_10 : decode cL_ground 10 = .ok (.goto 6, 3) := by decide +kernel
theorem dL_ground_13 : decode cL_ground 13 = .ok (.astore_n 3, 1) := by decide +kernel
theorem dL_ground_14 : decode cL_ground 14 = .ok (.iconst 1, 1) := by decide +kernel
theorem dL_ground_15 : decode cL_ground 15 = .ok (.ireturn, 1) := by decide +kernel
theorem dL_ground_16 : decode cL_ground 16 = .ok (.iconst 0, 1) := by decide +kernel
theorem dL_ground_17 : decode cL_ground 17 = .ok (.ireturn, 1) := by decide +kernel
set_option maxRecDepth 20000 in
theorem ggL_die_X11_die : GoodIn wsL_die wsX11_die := goodIn_ca (goodIn_r _ [6, 7, 8, 9, 10, 5, 11, 12, 13, 14, 15, 16, 17, 18, 19, 20, 21, 22, 23, 24, 25, 26, 27, 28, 29, 30, 31, 32, 33, 34, 35, 36, 37, 38, 39, 42, 43, 44, 45, 46, 47, 48, 49, 50, 51, 52, 53, 54, 55, 56, 57, 58, 59] (by decide +kernel) (by decide +kernel)) (goodIn_sub (fun _ h => List.mem_cons_of_mem _ (List.mem_append_right _ h)) (by decide +kernel))
set_option maxRecDepth 20000 in
theorem gL_die_X11_die : GoodIn wsL_die (wsV RL 27 RX11 yX11_die wsX11_die) := goodIn_app (goodIn_of _ (by decide +kernel)) ggL_die_X11_die
theorem dL_die_0 : decode cL_die 0 = .ok (.aload_n 3, 1) := by decide +kernel
theorem dL_die_1 : decode cL_die 1 = .ok (.aload_n 0, 1) := by decide +kernel
theorem dL_die_2 : decode cL_die 2 = .ok (.iload_n 1, 1) := by decide +kernel
theorem dL_die_3 : decode cL_die 3 = .ok (.iload_n 2, 1) := by decide +kernel
theorem dL_die_4 : decode cL_die 4 = .ok (.invokevirtual 27, 3) := by decide +kernel
theorem dL_die_7 : decode cL_die 7 = .ok (.i2l, 1) := by decide +kernel
theorem dL_die_8 : decode cL_die 8 = .ok (.putfield 13, 3) := by decide +kernel
theorem dL_die_11 : decode cL_die 11 = .ok (.goto 7, 3) := by decide +kernel
theorem dL_die_14 : decode cL_die 14 = .ok (.astore 4, 2) := by decide +kernel
theorem dL_die_16 : decode cL_die 16 = .ok (.iconst 1, 1) := by decide +kernel
theorem dL_die_17 : decode cL_die 17 = .ok (.ireturn, 1) := by decide +kernel
theorem dL_die_18 : decode cL_die 18 = .ok (.iconst 0, 1) := by decide +kernel
theorem dL_die_19 : decode cL_die 19 = .ok (.ireturn, 1) := by decide +kernel
set_option maxRecDepth 20000 in
theorem ggL_family_X11_family : GoodIn wsL_family wsX11_family := goodIn_ca (goodIn_r _ [6, 7, 8, 9, 10, 5, 11, 12, 13, 14, 15, 16, 17, 18, 19, 20, 21, 22, 23, 24, 25, 26, 27, 28, 29, 30, 31, 32, 33, 34, 35, 36, 37, 38, 39, 40, 41, 42, 43, 44, 45, 48, 49, 50, 51, 52, 53, 54, 55, 56, 57, 58, 59, 60, 61, 62, 63, 64, 65] (by decide +kernel) (by decide +kernel)) (goodIn_sub (fun _ h => List.mem_cons_of_mem _ (List.mem_append_right _ h)) (by decide +kernel))
set_option maxRecDepth 20000 in
theorem gL_family_X11_family : GoodIn wsL_family (wsV RL 31 RX11 yX11_family wsX11_family) := goodIn_app (goodIn_of _ (by decide +kernel)) ggL_family_X11_family
theorem dL_family_0 : decode cL_family 0 = .ok (.aload_n 1, 1) := by decide +kernel
theorem dL_family_1 : decode cL_family 1 = .ok (.aload_n 0, 1) := by decide +kernel
theorem dL_family_2 : decode cL_family 2 = .ok (.invokevirtual 31, 3) := by decide +kernel
theorem dL_family_5 : decode cL_family 5 = .ok (.i2l, 1) := by decide +kernel
theorem dL_family_6 : decode cL_family 6 = .ok (.putfield 13, 3) := by decide +kernel
theorem dL_family_9 : decode cL_family 9 = .ok (.goto 6, 3) := by decide +kernel
theorem dL_family_12 : decode cL_family 12 = .ok (.astore_n 2, 1) := by decide +kernel
theorem dL_family_13 : decode cL_family 13 = .ok (.iconst 1, 1) := by decide +kernel
theorem dL_family_14 : decode cL_family 14 = .ok (.ireturn, 1) := by decide +kernel
theorem dL_family_15 : decode cL_family 15 = .ok (.iconst 0, 1) := by decide +kernel
theorem dL_family_16 : decode cL_family 16 = .ok (.ireturn, 1) := by decide +kernel
set_option maxRecDepth 20000 in
theorem ggL_game_X11_game : GoodIn wsL_game wsX11_game := goodIn_ca (goodIn_r _ [6, 7, 8, 9, 10, 11, 5, 12, 13, 14, 15, 16, 17, 18, 19, 20, 21, 22, 23, 24, 25, 26, 27, 28, 29, 30, 31, 32, 33, 34, 35, 36, 37, 38, 39, 40, 41, 42, 43, 44, 45, 46, 47, 48, 49, 50, 51, 52, 53, 54, 55, 56, 57, 58, 59, 60, 61, 62, 63, 64, 65, 66, 67, 68, 69, 70, 71, 72, 73, 74, 75, 76, 77, 78, 79, 80, 81, 82, 83, 84, 85, 86, 87, 88, 89, 90, 93, 94, 95, 96, 97, 98, 99, 100, 101, 102, 103, 104, 105, 106, 107, 108, 109, 110, 111, 112, 113, 114, 115, 116, 117, 118] (by decide +kernel) (by decide +kernel)) (goodIn_sub (fun _ h => List.mem_cons_of_mem _ (List.mem_append_right _ h)) (by decide +kernel))
set_option maxRecDepth 20000 in
theorem gL_game_X11_game : GoodIn wsL_game (wsV RL 93 RX11 yX11_game wsX11_game) := goodIn_app (goodIn_of _ (by decide +kernel)) ggL_game_X11_game
theorem dL_game_0 : decode cL_game 0 = .ok (.aload_n 2, 1) := by decide +kernel
theorem dL_game_1 : decode cL_game 1 = .ok (.aload_n 0, 1) := by decide +kernel
theorem dL_game_2 : decode cL_game 2 = .ok (.iload_n 1, 1) := by decide +kernel
theorem dL_game_3 : decode cL_game 3 = .ok (.invokevirtual 93, 3) := by decide +kernel
theorem dL_game_6 : decode cL_game 6 = .ok (.i2l, 1) := by decide +kernel
theorem dL_game_7 : decode cL_game 7 = .ok (.putfield 13, 3) := by decide +kernel
theorem dL_game_10 : decode cL_game 10 = .ok (.goto 6, 3) := by decide +kernel
theorem dL_game_13 : decode cL_game 13 = .ok (.astore_n 3, 1) := by decide +kernel
theorem dL_game_14 : decode cL_game 14 = .ok (.iconst 1, 1) := by decide +kernel
theorem dL_game_15 : decode cL_game 15 = .ok (.ireturn, 1) := by decide +kernel
theorem dL_game_16 : decode cL_game 16 = .ok (.iconst 0, 1) := by decide +kernel
theorem dL_game_17 : decode cL_game 17 = .ok (.ireturn, 1) := by decide +kernel
